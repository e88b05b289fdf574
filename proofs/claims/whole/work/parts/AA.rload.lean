/-! THE TEXT, 22: the reference, load -/
section GKV
variable {c : ByteArray} {P : gk_C} {cs : Nat → Option gk_M0} {rt : Option FieldType} {uf : Nat} {sc : Option Nat} {K : gk_K} {V : gk_V}
variable {L : List (Option Value)} {r : List Value} {n : Nat} {fl : gk_F} {x : gk_X} {y : gk_Y} {u pc pc2 : Nat}
theorem RP.set {c : Nat → Int32} {t : Nat} {x0 : gk_X} {y0 : gk_Y} {Q : gk_P} {x : gk_X} {y : gk_Y} {v v2 : Int32} (h : RP c t x0 y0 Q x y) (k : Nat) (hv : Q.2.1 = 0 → v = v2) : RP c t x0 y0 (pG (fun g => gU g k v2) Q) (gk_up x 190 k v) y := by
  by_cases h0 : Q.2.1 = 0
  · rw [pG_1 h0]
    refine h.put h0 (fun j hj => ?_) (fun i k h => gk_up_ne (by omega))
    rw [hv h0]
    unfold gk_up gU
    by_cases e : j = k
    · rw [if_pos ⟨rfl, e⟩, if_pos e]
    · rw [if_neg (fun h => e h.2), if_neg e]
      exact (h.2.2.2.2.2.1 h0).2 j hj
  · rw [pG_e h0]
    obtain ⟨r1, r2, r3, r4, r5, r6, r7⟩ := h
    exact ⟨fun i k a b => (gk_up_ne (by omega)).trans (r1 i k a b), r2, r3.cg (fun k _ _ => gk_up_ne (by omega)) rfl, (gk_up_ne (by omega)).trans r4, r5, fun h => absurd h h0, fun h => (gk_up_ne (by omega)).trans (r7 h)⟩
theorem pA_ok {c : Nat → Int32} {t : Nat} {Q : gk_P} (h : (pAd c t Q).2.1 = 0) : Q.2.1 = 0 ∧ (pAd c t Q).2.2 = Q.2.2 := pA_0 h
theorem pB_ok {c : Nat → Int32} {t : Nat} {Q : gk_P} (hQ : gOK Q.2.2) (h : (pB c t Q).2.1 = 0) : gOK (pB c t Q).2.2 := by
  unfold pB at h ⊢
  by_cases h5 : KK c t Q.1 = 5
  · rw [if_pos h5] at h ⊢
    obtain ⟨h1, h2⟩ := pG_0 h
    rw [show pMic c t Q = _ from h2]
    exact pMic_ok hQ h1
  rw [if_neg h5] at h ⊢
  by_cases h6 : KK c t Q.1 = 6
  · rw [if_pos h6] at h ⊢
    obtain ⟨h1, h2⟩ := pG_0 h
    rw [show pVeh c t Q = _ from h2]
    exact pVeh_ok hQ h1
  rw [if_neg h6] at h ⊢
  by_cases h7 : KK c t Q.1 = 7
  · rw [if_pos h7] at h ⊢
    exact pSrc_ok hQ h
  rw [if_neg h7] at h ⊢
  by_cases h8 : KK c t Q.1 = 8
  · rw [if_pos h8] at h ⊢
    obtain ⟨h1, h2⟩ := pG_0 h
    obtain ⟨g1, g2, g3⟩ := pN_0 ⟨by decide, by decide⟩ ⟨by decide, by decide⟩ h1
    rw [h2]
    show gOK (gU (pN c t 100 1000 (pAd c t Q)).2.2 0 _)
    rw [g3, (pA_0 g1).2]
    exact gOK_0 hQ g2
  rw [if_neg h8] at h ⊢
  by_cases h9 : KK c t Q.1 = 9
  · rw [if_pos h9] at h ⊢
    obtain ⟨h1, h2⟩ := pG_0 h
    obtain ⟨g1, g2, g3⟩ := pI_0 ⟨by decide, by decide⟩ ⟨by decide, by decide⟩ h1
    rw [h2]
    show gOK (gU (pI c t (-90) 90 (pAd c t Q)).2.2 1 _)
    rw [g3, (pA_0 g1).2]
    exact gOK_1 hQ g2
  rw [if_neg h9] at h ⊢
  by_cases h10 : KK c t Q.1 = 10
  · rw [if_pos h10] at h ⊢
    obtain ⟨h1, h2⟩ := pG_0 h
    obtain ⟨g1, g2, g3⟩ := pN_0 ⟨by decide, by decide⟩ ⟨by decide, by decide⟩ h1
    rw [h2]
    show gOK (gU (pN c t 0 99 (pAd c t Q)).2.2 4 _)
    rw [g3, (pA_0 g1).2]
    exact gOK_4 hQ g2
  rw [if_neg h10] at h ⊢
  obtain ⟨h1, h2⟩ := pG_0 h
  obtain ⟨g1, g2⟩ := pA_0 h1
  obtain ⟨f1, f2, f3⟩ := pQ_0 n1_0 g1
  rw [h2]
  show gOK (gU (pAd c t (pQ (decide (KK c t Q.1 = 11)) 1 Q)).2.2 2 1)
  rw [g2, f3]
  exact gOK_2 hQ (Or.inr rfl)
theorem pSt_ok {c : Nat → Int32} {t : Nat} {Q : gk_P} (hQ : gOK Q.2.2) (h : (pSt c t Q).2.1 = 0) : gOK (pSt c t Q).2.2 := by
  obtain ⟨g1, g2⟩ := pA_0 h
  obtain ⟨f1, f2, f3⟩ := pQ_0 n1_0 g1
  show gOK (pAd c t (pQ (decide (KK c t (pB c t Q).1 = 2)) 1 (pB c t Q))).2.2
  rw [g2, f3]
  exact pB_ok hQ f1
theorem tp_m (c : Nat → Int32) (t : Nat) : ∃ m, m ≤ t ∧ tp c t m = t := by
  have h : ∀ i, (∃ m, m ≤ t ∧ tp c t m = t) ∨ i ≤ tp c t i := by
    intro i
    induction i with
    | zero => exact Or.inr (Nat.zero_le _)
    | succ i ih =>
      rcases ih with h | h
      · exact Or.inl h
      · have h1 := tp_le c t i
        rcases Nat.eq_or_lt_of_le h1 with e | h2
        · exact Or.inl ⟨i, by omega, e⟩
        · have h3 := te_b (c := c) h1
          have h4 := tz_b (c := c) h3.2.1
          have h5 : tp c t (i + 1) = tz c t (te c t (tp c t i)) := rfl
          exact Or.inr (by have := h3.2.2 h2; omega)
  rcases h (t + 1) with h2 | h2
  · exact h2
  · have := tp_le c t (t + 1)
    omega
/-- the reference's cells when a reading begins -/
def ldX (x : gk_X) : gk_X := gk_up (gk_up (gk_up (gk_up (gk_up (gk_up (gk_up (gk_rg (gk_rg (gk_up x 189 4 0) 191 0 2234 (fun k => gk_up x 189 4 0 190 (0 + k))) 190 0 2234 (fun _ => 0)) 190 0 340) 190 3 1) 190 10 1) 190 13 100) 189 17 0) 189 18 (-1)) 189 12 0
theorem ldX_fr (x : gk_X) {i k : Nat} (h : ¬ (190 ≤ i ∧ i ≤ 191)) (h2 : ¬ (i = 189 ∧ (k = 4 ∨ k = 12 ∨ k = 17 ∨ k = 18))) : ldX x i k = x i k := by
  unfold ldX
  rw [gk_up_ne (by omega), gk_up_ne (by omega), gk_up_ne (by omega), gk_up_ne (by omega), gk_up_ne (by omega), gk_up_ne (by omega), gk_up_ne (by omega), gk_rg_ne (by omega), gk_rg_ne (by omega), gk_up_ne (by omega)]
theorem ldX_b (x : gk_X) {k : Nat} (h : k < 2234) : ldX x 191 k = x 190 k := by
  unfold ldX
  rw [gk_up_ne (by omega), gk_up_ne (by omega), gk_up_ne (by omega), gk_up_ne (by omega), gk_up_ne (by omega), gk_up_ne (by omega), gk_up_ne (by omega), gk_rg_ne (by omega)]
  have h2 := gk_rg_in (x := gk_up x 189 4 0) (j := 191) (o := 0) (f := fun k => gk_up x 189 4 0 190 (0 + k)) h
  rw [Nat.zero_add] at h2
  rw [h2]
  exact gk_up_ne (by omega)
theorem ldX_g (x : gk_X) : MG gN (ldX x) := by
  intro k hk
  unfold ldX
  rw [gk_up_ne (by omega), gk_up_ne (by omega), gk_up_ne (by omega)]
  unfold gN
  by_cases e13 : k = 13
  · subst e13; rfl
  rw [if_neg e13, gk_up_ne (by omega)]
  by_cases e10 : k = 10
  · subst e10; rfl
  rw [if_neg e10, gk_up_ne (by omega)]
  by_cases e3 : k = 3
  · subst e3; rfl
  rw [if_neg e3, gk_up_ne (by omega)]
  by_cases e0 : k = 0
  · subst e0; rfl
  rw [if_neg e0, gk_up_ne (by omega)]
  have := gk_rg_in (x := gk_rg (gk_up x 189 4 0) 191 0 2234 (fun k => gk_up x 189 4 0 190 (0 + k))) (j := 190) (o := 0) (f := fun _ => (0 : Int32)) hk
  rw [Nat.zero_add] at this
  exact this
def S_X11_parseStatement : gk_S := fun as n fl x y K => ∃ (B : Nat → Int32) (t : Nat) (x0 : gk_X) (y0 : gk_Y) (Q : gk_P), as = [.ref 189] ∧ (n = 202 ∧ fl = gk_fT) ∧ (RH B t x0) ∧ (RP B t x0 y0 Q x y) ∧ (Q.2.1 = 0) ∧ (gOK Q.2.2) ∧ (∀ (x2 : gk_X) (y2 : gk_Y), RP B t x0 y0 (pSt B t Q) x2 y2 → K (.inl none) n fl x2 y2)
theorem r_X11_parseStatement (w : gk_W c P cs (fun _ _ => none) rt uf sc K V) {idx : Nat} {B : Nat → Int32} {t : Nat} {x0 : gk_X} {y0 : gk_Y} {Q : gk_P} (hd : decode c pc = .ok (.invokevirtual idx, 3)) (hp : pc + 3 = pc2) (hc : cs idx = some (1, 10, 1, 0, S_X11_parseStatement)) (h8 : Nat.ble (r.map Value.category).sum 8 = true) (hp0 : RH B t x0) (hp1 : RP B t x0 y0 Q x y) (hp2 : Q.2.1 = 0) (hp3 : gOK Q.2.2) (kk0 : ∀ (x2 : gk_X) (y2 : gk_Y), RP B t x0 y0 (pSt B t Q) x2 y2 → V pc2 L r 202 gk_fT x2 y2 u) : V pc L (.ref 189 :: r) 202 gk_fT x y u :=
  g_callv w hd hp hc (as := [.ref 189]) rfl h8 rfl rfl rfl (Or.inr (Or.inl ⟨Or.inl rfl, _, _, rfl, (gk_kd_j rfl rfl), rfl⟩)) (Or.inl rfl) ⟨B, t, x0, y0, Q, rfl, ⟨rfl, rfl⟩, hp0, hp1, hp2, hp3, kk0⟩
def L_X11_parseStatement : List (Nat × gk_M0) := [(323, (1, 10, 3, 0, S_X11_require)), (327, (1, 10, 1, 0, S_X11_advance)), (330, (1, 10, 3, 0, S_X11_parseNumber)), (333, (1, 10, 3, 0, S_X11_parseInteger)), (338, (1, 10, 2, 0, S_X11_isWord)), (342, (1, 10, 1, 0, S_X11_parseMicrophone)), (346, (1, 10, 1, 0, S_X11_parseVehicle)), (350, (1, 10, 1, 0, S_X11_parseSource))]
def cs_X11_parseStatement : Nat → Option gk_M0 := gk_lk L_X11_parseStatement
set_option maxHeartbeats 8000000 in
theorem m_X11_parseStatement : ∀ (as : List Value) (n : Nat) (fl : gk_F) (x : gk_X) (y : gk_Y) (K : gk_K), S_X11_parseStatement as n fl x y K → (gk_L0 as).length ≤ 1 ∧ ∀ V : gk_V, gk_W cX11_parseStatement pX11 cs_X11_parseStatement (fun _ _ => none) none 0 none K V → V 0 (gk_en as 1) [] n fl x y 0 := by
  intro as n fl x y K hS
  obtain ⟨B, t, x0, y0, Q, rfl, ⟨rfl, rfl⟩, hp0, hp1, hp2, hp3, q0⟩ := hS
  refine ⟨Nat.le_of_ble_eq_true rfl, fun V w => ?_⟩
  show V 0 [some (.ref 189)] [] 202 gk_fT x y 0
  have tail : ∀ (x1 : gk_X) (y1 : gk_Y), RP B t x0 y0 (pB B t Q) x1 y1 → V 167 [some (.ref 189)] [] 202 gk_fT x1 y1 0 := by
    intro x1 y1 g1
    have k2 := (kR_0 B t (tp B t (pB B t Q).1)).2.2.1
    refine s_aload_n (pc2 := 168) w dX11_parseStatement_167 rfl rfl ?_
    refine s_aload_n (pc2 := 169) w dX11_parseStatement_168 rfl rfl ?_
    refine m_getI (pc2 := 172) (ci := 10) (k := 14) w dX11_parseStatement_169 rfl rfl rfl rfl rfl ?_
    rw [g1.2.2.1.2.2.1]
    refine s_iconst (pc2 := 173) (v := gI 4) w dX11_parseStatement_172 rfl rfl ?_
    refine s_ic_ne (pc2 := 176) (tgt := 180) w dX11_parseStatement_173 rfl (by decide) (fun c173 => ?_) (fun c173 => ?_)
    · have hb : ((0 : Int32) = 0 ↔ decide (KK B t (pB B t Q).1 = 2) = false) := ⟨fun _ => decide_eq_false (fun h => c173 ((kRq 4 (by omega)).mpr (k2.mpr h))), fun _ => rfl⟩
      refine s_iconst (pc2 := 181) (v := gI 0) w dX11_parseStatement_180 rfl rfl ?_
      refine s_iconst (pc2 := 182) (v := gI 1) w dX11_parseStatement_181 rfl rfl ?_
      refine r_X11_require (pc2 := 185) (b := decide (KK B t (pB B t Q).1 = 2)) (k := 1) w dX11_parseStatement_182 rfl rfl rfl g1 hb rfl (by decide) (by decide) (fun x2 g2 o2 => ?_)
      refine s_aload_n (pc2 := 186) w dX11_parseStatement_185 rfl rfl ?_
      refine r_X11_advance (pc2 := 189) w dX11_parseStatement_186 rfl rfl rfl hp0 g2 (fun x3 y3 g3 o3 => ?_)
      refine s_return w dX11_parseStatement_189 rfl ?_
      exact q0 x3 y3 g3
    · have e4 : decide (KK B t (pB B t Q).1 = 2) = true := decide_eq_true (k2.mp ((kRq 4 (by omega)).mp c173))
      have hb : ((1 : Int32) = 0 ↔ decide (KK B t (pB B t Q).1 = 2) = false) := ⟨fun h => absurd h (by decide), fun h => by rw [e4] at h; cases h⟩
      refine s_iconst (pc2 := 177) (v := gI 1) w dX11_parseStatement_176 rfl rfl ?_
      refine s_goto (tgt := 181) w dX11_parseStatement_177 (by decide) ?_
      refine s_iconst (pc2 := 182) (v := gI 1) w dX11_parseStatement_181 rfl rfl ?_
      refine r_X11_require (pc2 := 185) (b := decide (KK B t (pB B t Q).1 = 2)) (k := 1) w dX11_parseStatement_182 rfl rfl rfl g1 hb rfl (by decide) (by decide) (fun x2 g2 o2 => ?_)
      refine s_aload_n (pc2 := 186) w dX11_parseStatement_185 rfl rfl ?_
      refine r_X11_advance (pc2 := 189) w dX11_parseStatement_186 rfl rfl rfl hp0 g2 (fun x3 y3 g3 o3 => ?_)
      refine s_return w dX11_parseStatement_189 rfl ?_
      exact q0 x3 y3 g3
  refine s_aload_n (pc2 := 1) w dX11_parseStatement_0 rfl rfl ?_
  refine s_ldc_ws (pc2 := 4) (q := 12) w dX11_parseStatement_1 rfl rfl ?_
  refine r_X11_isWord (pc2 := 7) w dX11_parseStatement_4 rfl rfl rfl (by decide) hp0 hp1 ?_
  refine s_if_eq (pc2 := 10) (tgt := 17) w dX11_parseStatement_7 rfl (by decide) (fun c7 => ?_) (fun c7 => ?_)
  · have n5 : ¬ KK B t Q.1 = 5 := fun (h : KK B t Q.1 = 12 - 7) => absurd ((if_pos h).symm.trans c7) (by decide)
    refine s_aload_n (pc2 := 18) w dX11_parseStatement_17 rfl rfl ?_
    refine s_ldc_ws (pc2 := 21) (q := 13) w dX11_parseStatement_18 rfl rfl ?_
    refine r_X11_isWord (pc2 := 24) w dX11_parseStatement_21 rfl rfl rfl (by decide) hp0 hp1 ?_
    refine s_if_eq (pc2 := 27) (tgt := 34) w dX11_parseStatement_24 rfl (by decide) (fun c24 => ?_) (fun c24 => ?_)
    · have n6 : ¬ KK B t Q.1 = 6 := fun (h : KK B t Q.1 = 13 - 7) => absurd ((if_pos h).symm.trans c24) (by decide)
      refine s_aload_n (pc2 := 35) w dX11_parseStatement_34 rfl rfl ?_
      refine s_ldc_ws (pc2 := 38) (q := 14) w dX11_parseStatement_35 rfl rfl ?_
      refine r_X11_isWord (pc2 := 41) w dX11_parseStatement_38 rfl rfl rfl (by decide) hp0 hp1 ?_
      refine s_if_eq (pc2 := 44) (tgt := 51) w dX11_parseStatement_41 rfl (by decide) (fun c41 => ?_) (fun c41 => ?_)
      · have n7 : ¬ KK B t Q.1 = 7 := fun (h : KK B t Q.1 = 14 - 7) => absurd ((if_pos h).symm.trans c41) (by decide)
        refine s_aload_n (pc2 := 52) w dX11_parseStatement_51 rfl rfl ?_
        refine s_ldc_ws (pc2 := 55) (q := 15) w dX11_parseStatement_52 rfl rfl ?_
        refine r_X11_isWord (pc2 := 58) w dX11_parseStatement_55 rfl rfl rfl (by decide) hp0 hp1 ?_
        refine s_if_eq (pc2 := 61) (tgt := 83) w dX11_parseStatement_58 rfl (by decide) (fun c58 => ?_) (fun c58 => ?_)
        · have n8 : ¬ KK B t Q.1 = 8 := fun (h : KK B t Q.1 = 15 - 7) => absurd ((if_pos h).symm.trans c58) (by decide)
          refine s_aload_n (pc2 := 84) w dX11_parseStatement_83 rfl rfl ?_
          refine s_ldc_ws (pc2 := 87) (q := 16) w dX11_parseStatement_84 rfl rfl ?_
          refine r_X11_isWord (pc2 := 90) w dX11_parseStatement_87 rfl rfl rfl (by decide) hp0 hp1 ?_
          refine s_if_eq (pc2 := 93) (tgt := 114) w dX11_parseStatement_90 rfl (by decide) (fun c90 => ?_) (fun c90 => ?_)
          · have n9 : ¬ KK B t Q.1 = 9 := fun (h : KK B t Q.1 = 16 - 7) => absurd ((if_pos h).symm.trans c90) (by decide)
            refine s_aload_n (pc2 := 115) w dX11_parseStatement_114 rfl rfl ?_
            refine s_ldc_ws (pc2 := 118) (q := 17) w dX11_parseStatement_115 rfl rfl ?_
            refine r_X11_isWord (pc2 := 121) w dX11_parseStatement_118 rfl rfl rfl (by decide) hp0 hp1 ?_
            refine s_if_eq (pc2 := 124) (tgt := 144) w dX11_parseStatement_121 rfl (by decide) (fun c121 => ?_) (fun c121 => ?_)
            · have n10 : ¬ KK B t Q.1 = 10 := fun (h : KK B t Q.1 = 17 - 7) => absurd ((if_pos h).symm.trans c121) (by decide)
              refine s_aload_n (pc2 := 145) w dX11_parseStatement_144 rfl rfl ?_
              refine s_aload_n (pc2 := 146) w dX11_parseStatement_145 rfl rfl ?_
              refine s_ldc_ws (pc2 := 149) (q := 18) w dX11_parseStatement_146 rfl rfl ?_
              refine r_X11_isWord (pc2 := 152) w dX11_parseStatement_149 rfl rfl rfl (by decide) hp0 hp1 ?_
              have hb : ((if KK B t Q.1 = 18 - 7 then (1 : Int32) else 0) = 0 ↔ decide (KK B t Q.1 = 11) = false) := ⟨fun h => decide_eq_false (fun (h2 : KK B t Q.1 = 18 - 7) => absurd ((if_pos h2).symm.trans h) (by decide)), fun h => if_neg (fun (h2 : KK B t Q.1 = 11) => of_decide_eq_false h h2)⟩
              refine s_iconst (pc2 := 153) (v := gI 1) w dX11_parseStatement_152 rfl rfl ?_
              refine r_X11_require (pc2 := 156) (b := decide (KK B t Q.1 = 11)) (k := 1) w dX11_parseStatement_153 rfl rfl rfl hp1 hb rfl (by decide) (by decide) (fun x1 g1 o1 => ?_)
              refine s_aload_n (pc2 := 157) w dX11_parseStatement_156 rfl rfl ?_
              refine r_X11_advance (pc2 := 160) w dX11_parseStatement_157 rfl rfl rfl hp0 g1 (fun x2 y2 g2 o2 => ?_)
              refine s_aload_n (pc2 := 161) w dX11_parseStatement_160 rfl rfl ?_
              refine m_getR (pc2 := 164) (ci := 10) (k := 0) (j2 := 190) w dX11_parseStatement_161 rfl rfl rfl rfl rfl rfl ?_
              refine s_iconst (pc2 := 165) (v := gI 2) w dX11_parseStatement_164 rfl rfl ?_
              refine s_iconst (pc2 := 166) (v := gI 1) w dX11_parseStatement_165 rfl rfl ?_
              refine m_iastoreN (pc2 := 167) (t := 2) (N := 2234) w dX11_parseStatement_166 rfl rfl rfl rfl (by decide) rfl ?_
              exact tail _ _ (by rw [show pB B t Q = pG (fun g => gU g 2 1) (pAd B t (pQ (decide (KK B t Q.1 = 11)) 1 Q)) from (if_neg n5).trans ((if_neg n6).trans ((if_neg n7).trans ((if_neg n8).trans ((if_neg n9).trans (if_neg n10)))))]; exact g2.set 2 (fun _ => rfl))
            · have h10 : KK B t Q.1 = 10 := Decidable.byContradiction (fun (h : ¬ KK B t Q.1 = 17 - 7) => c121 (if_neg h))
              refine s_aload_n (pc2 := 125) w dX11_parseStatement_124 rfl rfl ?_
              refine r_X11_advance (pc2 := 128) w dX11_parseStatement_125 rfl rfl rfl hp0 hp1 (fun x1 y1 g1 o1 => ?_)
              refine s_aload_n (pc2 := 129) w dX11_parseStatement_128 rfl rfl ?_
              refine m_getR (pc2 := 132) (ci := 10) (k := 0) (j2 := 190) w dX11_parseStatement_129 rfl rfl rfl rfl rfl rfl ?_
              refine s_iconst (pc2 := 133) (v := gI 4) w dX11_parseStatement_132 rfl rfl ?_
              refine s_aload_n (pc2 := 134) w dX11_parseStatement_133 rfl rfl ?_
              refine s_iconst (pc2 := 135) (v := gI 0) w dX11_parseStatement_134 rfl rfl ?_
              refine s_bipush (pc2 := 137) (v := gI 99) w dX11_parseStatement_135 rfl rfl ?_
              refine r_X11_parseNumber (pc2 := 140) (lo := 0) (hi := 99) w dX11_parseStatement_137 rfl rfl rfl hp0 g1 rfl rfl ⟨by decide, by decide⟩ ⟨by decide, by decide⟩ (fun v x2 y2 g2 w2 => ?_)
              refine m_iastoreN (pc2 := 141) (t := 4) (N := 2234) w dX11_parseStatement_140 rfl rfl rfl rfl (by decide) rfl ?_
              refine s_goto (tgt := 167) w dX11_parseStatement_141 (by decide) ?_
              exact tail _ _ (by rw [show pB B t Q = pG (fun g => gU g 4 (vN B t (pAd B t Q))) (pN B t 0 99 (pAd B t Q)) from (if_neg n5).trans ((if_neg n6).trans ((if_neg n7).trans ((if_neg n8).trans ((if_neg n9).trans (if_pos h10)))))]; exact g2.set 4 w2)
          · have h9 : KK B t Q.1 = 9 := Decidable.byContradiction (fun (h : ¬ KK B t Q.1 = 16 - 7) => c90 (if_neg h))
            refine s_aload_n (pc2 := 94) w dX11_parseStatement_93 rfl rfl ?_
            refine r_X11_advance (pc2 := 97) w dX11_parseStatement_94 rfl rfl rfl hp0 hp1 (fun x1 y1 g1 o1 => ?_)
            refine s_aload_n (pc2 := 98) w dX11_parseStatement_97 rfl rfl ?_
            refine m_getR (pc2 := 101) (ci := 10) (k := 0) (j2 := 190) w dX11_parseStatement_98 rfl rfl rfl rfl rfl rfl ?_
            refine s_iconst (pc2 := 102) (v := gI 1) w dX11_parseStatement_101 rfl rfl ?_
            refine s_aload_n (pc2 := 103) w dX11_parseStatement_102 rfl rfl ?_
            refine s_bipush (pc2 := 105) (v := gI (-90)) w dX11_parseStatement_103 rfl rfl ?_
            refine s_bipush (pc2 := 107) (v := gI 90) w dX11_parseStatement_105 rfl rfl ?_
            refine r_X11_parseInteger (pc2 := 110) (lo := -90) (hi := 90) w dX11_parseStatement_107 rfl rfl rfl hp0 g1 rfl rfl ⟨by decide, by decide⟩ ⟨by decide, by decide⟩ (fun v x2 y2 g2 w2 => ?_)
            refine m_iastoreN (pc2 := 111) (t := 1) (N := 2234) w dX11_parseStatement_110 rfl rfl rfl rfl (by decide) rfl ?_
            refine s_goto (tgt := 167) w dX11_parseStatement_111 (by decide) ?_
            exact tail _ _ (by rw [show pB B t Q = pG (fun g => gU g 1 (vI B t (pAd B t Q))) (pI B t (-90) 90 (pAd B t Q)) from (if_neg n5).trans ((if_neg n6).trans ((if_neg n7).trans ((if_neg n8).trans (if_pos h9))))]; exact g2.set 1 w2)
        · have h8 : KK B t Q.1 = 8 := Decidable.byContradiction (fun (h : ¬ KK B t Q.1 = 15 - 7) => c58 (if_neg h))
          refine s_aload_n (pc2 := 62) w dX11_parseStatement_61 rfl rfl ?_
          refine r_X11_advance (pc2 := 65) w dX11_parseStatement_62 rfl rfl rfl hp0 hp1 (fun x1 y1 g1 o1 => ?_)
          refine s_aload_n (pc2 := 66) w dX11_parseStatement_65 rfl rfl ?_
          refine m_getR (pc2 := 69) (ci := 10) (k := 0) (j2 := 190) w dX11_parseStatement_66 rfl rfl rfl rfl rfl rfl ?_
          refine s_iconst (pc2 := 70) (v := gI 0) w dX11_parseStatement_69 rfl rfl ?_
          refine s_aload_n (pc2 := 71) w dX11_parseStatement_70 rfl rfl ?_
          refine s_bipush (pc2 := 73) (v := gI 100) w dX11_parseStatement_71 rfl rfl ?_
          refine s_sipush (pc2 := 76) (v := gI 1000) w dX11_parseStatement_73 rfl rfl ?_
          refine r_X11_parseNumber (pc2 := 79) (lo := 100) (hi := 1000) w dX11_parseStatement_76 rfl rfl rfl hp0 g1 rfl rfl ⟨by decide, by decide⟩ ⟨by decide, by decide⟩ (fun v x2 y2 g2 w2 => ?_)
          refine m_iastoreN (pc2 := 80) (t := 0) (N := 2234) w dX11_parseStatement_79 rfl rfl rfl rfl (by decide) rfl ?_
          refine s_goto (tgt := 167) w dX11_parseStatement_80 (by decide) ?_
          exact tail _ _ (by rw [show pB B t Q = pG (fun g => gU g 0 (vN B t (pAd B t Q))) (pN B t 100 1000 (pAd B t Q)) from (if_neg n5).trans ((if_neg n6).trans ((if_neg n7).trans (if_pos h8)))]; exact g2.set 0 w2)
      · have h7 : KK B t Q.1 = 7 := Decidable.byContradiction (fun (h : ¬ KK B t Q.1 = 14 - 7) => c41 (if_neg h))
        refine s_aload_n (pc2 := 45) w dX11_parseStatement_44 rfl rfl ?_
        refine r_X11_parseSource (pc2 := 48) w dX11_parseStatement_45 rfl rfl rfl hp0 hp1 hp2 hp3 (fun x1 y1 g1 => ?_)
        refine s_goto (tgt := 167) w dX11_parseStatement_48 (by decide) ?_
        exact tail _ _ (by rw [show pB B t Q = pSrc B t Q from (if_neg n5).trans ((if_neg n6).trans (if_pos h7))]; exact g1)
    · have h6 : KK B t Q.1 = 6 := Decidable.byContradiction (fun (h : ¬ KK B t Q.1 = 13 - 7) => c24 (if_neg h))
      refine s_aload_n (pc2 := 28) w dX11_parseStatement_27 rfl rfl ?_
      refine r_X11_parseVehicle (pc2 := 31) w dX11_parseStatement_28 rfl rfl rfl hp0 hp1 hp2 hp3 (fun x1 y1 g1 => ?_)
      refine s_goto (tgt := 167) w dX11_parseStatement_31 (by decide) ?_
      exact tail _ _ (by rw [show pB B t Q = pVeh B t Q from (if_neg n5).trans (if_pos h6)]; exact g1)
  · have h5 : KK B t Q.1 = 5 := Decidable.byContradiction (fun (h : ¬ KK B t Q.1 = 12 - 7) => c7 (if_neg h))
    refine s_aload_n (pc2 := 11) w dX11_parseStatement_10 rfl rfl ?_
    refine r_X11_parseMicrophone (pc2 := 14) w dX11_parseStatement_11 rfl rfl rfl hp0 hp1 hp2 hp3 (fun x1 y1 g1 => ?_)
    refine s_goto (tgt := 167) w dX11_parseStatement_14 (by decide) ?_
    exact tail _ _ (by rw [show pB B t Q = pMic B t Q from if_pos h5]; exact g1)
theorem lk_X11_parseStatement {l : Launch} (hl : l.stackTraces = false) : ∀ q ∈ L_X11_parseStatement, (q.2.1 < 5 → gk_Lk l RX11 gk_W1 7 q.1 q.2.1 q.2.2.1 q.2.2.2.1 q.2.2.2.2.1 q.2.2.2.2.2) := (List.forall_mem_cons.mpr ⟨(fun _ => ⟨yX11_require, cX11_require, 3, none, 0, _, M_X11_require hl, ⟨by decide, by decide⟩, ⟨by decide, by decide, by decide +kernel⟩, ⟨(gk_wm 1757 (by decide +kernel)), (gk_wm 99 (by decide +kernel))⟩, Or.inr (Or.inr (Or.inr (Or.inl ⟨rfl, rfl, (gk_wm 1756 (by decide +kernel)), (gk_wm 82 (by decide +kernel)), gk_wm 1754 (by decide +kernel), by decide, rfl⟩)))⟩), (List.forall_mem_cons.mpr ⟨(fun _ => ⟨yX11_advance, cX11_advance, 1, none, 3, _, M_X11_advance hl, ⟨by decide, by decide⟩, ⟨by decide, by decide, by decide +kernel⟩, ⟨(gk_wm 1761 (by decide +kernel)), (gk_wm 99 (by decide +kernel))⟩, Or.inr (Or.inr (Or.inr (Or.inl ⟨rfl, rfl, (gk_wm 1760 (by decide +kernel)), (gk_wm 83 (by decide +kernel)), gk_wm 1758 (by decide +kernel), by decide, rfl⟩)))⟩), (List.forall_mem_cons.mpr ⟨(fun _ => ⟨yX11_parseNumber, cX11_parseNumber, 4, (some .int), 4, _, M_X11_parseNumber hl, ⟨by decide, by decide⟩, ⟨by decide, by decide, by decide +kernel⟩, ⟨(gk_wm 1769 (by decide +kernel)), (gk_wm 99 (by decide +kernel))⟩, Or.inr (Or.inr (Or.inr (Or.inl ⟨rfl, rfl, (gk_wm 1768 (by decide +kernel)), (gk_wm 85 (by decide +kernel)), gk_wm 1766 (by decide +kernel), by decide, rfl⟩)))⟩), (List.forall_mem_cons.mpr ⟨(fun _ => ⟨yX11_parseInteger, cX11_parseInteger, 4, (some .int), 5, _, M_X11_parseInteger hl, ⟨by decide, by decide⟩, ⟨by decide, by decide, by decide +kernel⟩, ⟨(gk_wm 1765 (by decide +kernel)), (gk_wm 99 (by decide +kernel))⟩, Or.inr (Or.inr (Or.inr (Or.inl ⟨rfl, rfl, (gk_wm 1764 (by decide +kernel)), (gk_wm 84 (by decide +kernel)), gk_wm 1762 (by decide +kernel), by decide, rfl⟩)))⟩), (List.forall_mem_cons.mpr ⟨(fun _ => ⟨yX11_isWord, cX11_isWord, 5, (some .boolean), 4, _, M_X11_isWord hl, ⟨by decide, by decide⟩, ⟨by decide, by decide, by decide +kernel⟩, ⟨(gk_wm 1747 (by decide +kernel)), (gk_wm 99 (by decide +kernel))⟩, Or.inr (Or.inr (Or.inr (Or.inl ⟨rfl, rfl, (gk_wm 1746 (by decide +kernel)), (gk_wm 80 (by decide +kernel)), gk_wm 1744 (by decide +kernel), by decide, rfl⟩)))⟩), (List.forall_mem_cons.mpr ⟨(fun _ => ⟨yX11_parseMicrophone, cX11_parseMicrophone, 6, none, 6, _, M_X11_parseMicrophone hl, ⟨by decide, by decide⟩, ⟨by decide, by decide, by decide +kernel⟩, ⟨(gk_wm 1753 (by decide +kernel)), (gk_wm 99 (by decide +kernel))⟩, Or.inr (Or.inr (Or.inr (Or.inl ⟨rfl, rfl, (gk_wm 1752 (by decide +kernel)), (gk_wm 81 (by decide +kernel)), gk_wm 1750 (by decide +kernel), by decide, rfl⟩)))⟩), (List.forall_mem_cons.mpr ⟨(fun _ => ⟨yX11_parseVehicle, cX11_parseVehicle, 5, none, 6, _, M_X11_parseVehicle hl, ⟨by decide, by decide⟩, ⟨by decide, by decide, by decide +kernel⟩, ⟨(gk_wm 1774 (by decide +kernel)), (gk_wm 99 (by decide +kernel))⟩, Or.inr (Or.inr (Or.inr (Or.inl ⟨rfl, rfl, (gk_wm 1773 (by decide +kernel)), (gk_wm 86 (by decide +kernel)), gk_wm 1771 (by decide +kernel), by decide, rfl⟩)))⟩), (List.forall_mem_cons.mpr ⟨(fun _ => ⟨yX11_parseSource, cX11_parseSource, 10, none, 6, _, M_X11_parseSource hl, ⟨by decide, by decide⟩, ⟨by decide, by decide, by decide +kernel⟩, ⟨(gk_wm 1779 (by decide +kernel)), (gk_wm 99 (by decide +kernel))⟩, Or.inr (Or.inr (Or.inr (Or.inl ⟨rfl, rfl, (gk_wm 1778 (by decide +kernel)), (gk_wm 87 (by decide +kernel)), gk_wm 1776 (by decide +kernel), by decide, rfl⟩)))⟩), (fun _ h => absurd h List.not_mem_nil)⟩)⟩)⟩)⟩)⟩)⟩)⟩)⟩)
theorem sp_X11_parseStatement : ∀ q ∈ L_X11_parseStatement, gk_Sq RX11 gk_W1 7 q := (List.forall_mem_cons.mpr ⟨⟨fun h => absurd h (by decide), fun h => absurd h (by decide), fun h => absurd h (by decide), fun h => absurd h (by decide), fun h => absurd h (by decide), fun h => absurd h (by decide)⟩, (List.forall_mem_cons.mpr ⟨⟨fun h => absurd h (by decide), fun h => absurd h (by decide), fun h => absurd h (by decide), fun h => absurd h (by decide), fun h => absurd h (by decide), fun h => absurd h (by decide)⟩, (List.forall_mem_cons.mpr ⟨⟨fun h => absurd h (by decide), fun h => absurd h (by decide), fun h => absurd h (by decide), fun h => absurd h (by decide), fun h => absurd h (by decide), fun h => absurd h (by decide)⟩, (List.forall_mem_cons.mpr ⟨⟨fun h => absurd h (by decide), fun h => absurd h (by decide), fun h => absurd h (by decide), fun h => absurd h (by decide), fun h => absurd h (by decide), fun h => absurd h (by decide)⟩, (List.forall_mem_cons.mpr ⟨⟨fun h => absurd h (by decide), fun h => absurd h (by decide), fun h => absurd h (by decide), fun h => absurd h (by decide), fun h => absurd h (by decide), fun h => absurd h (by decide)⟩, (List.forall_mem_cons.mpr ⟨⟨fun h => absurd h (by decide), fun h => absurd h (by decide), fun h => absurd h (by decide), fun h => absurd h (by decide), fun h => absurd h (by decide), fun h => absurd h (by decide)⟩, (List.forall_mem_cons.mpr ⟨⟨fun h => absurd h (by decide), fun h => absurd h (by decide), fun h => absurd h (by decide), fun h => absurd h (by decide), fun h => absurd h (by decide), fun h => absurd h (by decide)⟩, (List.forall_mem_cons.mpr ⟨⟨fun h => absurd h (by decide), fun h => absurd h (by decide), fun h => absurd h (by decide), fun h => absurd h (by decide), fun h => absurd h (by decide), fun h => absurd h (by decide)⟩, (fun _ h => absurd h List.not_mem_nil)⟩)⟩)⟩)⟩)⟩)⟩)⟩)⟩)
theorem M_X11_parseStatement {l : Launch} (hl : l.stackTraces = false) : gk_Mt l yX11_parseStatement (.code yX11_parseStatement cX11_parseStatement 1 none :: gk_W1) 7 0 S_X11_parseStatement := gk_meth hl gk_cw_ok (by decide +kernel) rfl m_X11_parseStatement pX11_ok (gk_Sp_of sp_X11_parseStatement) pX11_st (fun ci m S h => absurd h (by intro h; cases h)) (xf_X11 7) (fun idx kd ci mm cost S2 h h5 => lk_X11_parseStatement hl _ (gk_lk_mem h) h5)

def S_X11_load : gk_S := fun as n fl x y K => ∃ (t : Nat) (B : Nat → Int32) (g : Nat → Int32), as = [.ref 189] ∧ (n = 202 ∧ fl = gk_fT) ∧ (x 189 11 = nI t) ∧ (t ≤ 500) ∧ (tbA (x 199) t = B) ∧ (∀ k, k < t → ¬ B k = -1) ∧ (MG g x) ∧ (∀ (x2 : gk_X) (y2 : gk_Y), MG (if (pLd B t 501 pZ).2.2.1 = 0 then (pLd B t 501 pZ).2.2.2 else g) x2 → x2 189 17 = nI (pLd B t 501 pZ).2.2.1 → x2 189 18 = (if (pLd B t 501 pZ).2.2.1 = 0 then -1 else nI (tp B t (pLd B t 501 pZ).2.1)) → x2 189 11 = 0 → (∀ i k, ¬ (189 ≤ i ∧ i ≤ 191) → x2 i k = x i k) → (∀ i k, ¬ (i = 189 ∧ k = 19) → y2 i k = y i k) → K (.inl (some (.int (rdV B t)))) n fl x2 y2)
theorem r_X11_load (w : gk_W c P cs (fun _ _ => none) rt uf sc K V) {idx : Nat} {t : Nat} {B : Nat → Int32} {g : Nat → Int32} (hd : decode c pc = .ok (.invokevirtual idx, 3)) (hp : pc + 3 = pc2) (hc : cs idx = some (1, 10, 1, 0, S_X11_load)) (h8 : Nat.ble (r.map Value.category).sum 8 = true) (hp0 : x 189 11 = nI t) (hp1 : t ≤ 500) (hp2 : tbA (x 199) t = B) (hp3 : ∀ k, k < t → ¬ B k = -1) (hp4 : MG g x) (kk0 : ∀ (x2 : gk_X) (y2 : gk_Y), MG (if (pLd B t 501 pZ).2.2.1 = 0 then (pLd B t 501 pZ).2.2.2 else g) x2 → x2 189 17 = nI (pLd B t 501 pZ).2.2.1 → x2 189 18 = (if (pLd B t 501 pZ).2.2.1 = 0 then -1 else nI (tp B t (pLd B t 501 pZ).2.1)) → x2 189 11 = 0 → (∀ i k, ¬ (189 ≤ i ∧ i ≤ 191) → x2 i k = x i k) → (∀ i k, ¬ (i = 189 ∧ k = 19) → y2 i k = y i k) → V pc2 L ((.int (rdV B t)) :: r) 202 gk_fT x2 y2 u) : V pc L (.ref 189 :: r) 202 gk_fT x y u :=
  g_callv w hd hp hc (as := [.ref 189]) rfl h8 rfl rfl rfl (Or.inr (Or.inl ⟨Or.inl rfl, _, _, rfl, (gk_kd_j rfl rfl), rfl⟩)) (Or.inl rfl) ⟨t, B, g, rfl, ⟨rfl, rfl⟩, hp0, hp1, hp2, hp3, hp4, kk0⟩
def L_X11_load : List (Nat × gk_M0) := [(46, (1, 10, 1, 0, S_X11_clear)), (320, (1, 10, 1, 0, S_X11_nextToken)), (361, (0, 10, 4, 0, S_X11_copy)), (365, (1, 10, 1, 0, S_X11_parseStatement))]
def cs_X11_load : Nat → Option gk_M0 := gk_lk L_X11_load
set_option maxHeartbeats 8000000 in
theorem m_X11_load : ∀ (as : List Value) (n : Nat) (fl : gk_F) (x : gk_X) (y : gk_Y) (K : gk_K), S_X11_load as n fl x y K → (gk_L0 as).length ≤ 2 ∧ ∀ V : gk_V, gk_W cX11_load pX11 cs_X11_load (fun _ _ => none) (some .int) 0 none K V → V 0 (gk_en as 2) [] n fl x y 0 := by
  intro as n fl x y K hS
  obtain ⟨t, B, g, rfl, ⟨rfl, rfl⟩, hp0, hp1, hp2, hp3, hp4, q0⟩ := hS
  refine ⟨Nat.le_of_ble_eq_true rfl, fun V w => ?_⟩
  show V 0 [some (.ref 189), none] [] 202 gk_fT x y 0
  obtain ⟨m, hm1, hm2⟩ := tp_m B t
  have b1 : ldX x 189 11 = nI t := (ldX_fr x (by omega) (by omega)).trans hp0
  have b2 : tbA (ldX x 199) t = B := by rw [show ldX x 199 = x 199 from funext (fun k => ldX_fr x (by omega) (by omega))]; exact hp2
  have hrh : RH B t (ldX x) := ⟨hp1, b1, b2, hp3⟩
  refine s_aload_n (pc2 := 1) w dX11_load_0 rfl rfl ?_
  refine s_iconst (pc2 := 2) (v := 0) w dX11_load_1 rfl rfl ?_
  refine m_putI (pc2 := 5) (ci := 10) (k := 4) w dX11_load_2 rfl rfl rfl rfl rfl (by intro h; cases h) ?_
  refine s_aload_n (pc2 := 6) w dX11_load_5 rfl rfl ?_
  refine m_getR (pc2 := 9) (ci := 10) (k := 0) (j2 := 190) w dX11_load_6 rfl rfl rfl rfl rfl rfl ?_
  refine s_iconst (pc2 := 10) (v := 0) w dX11_load_9 rfl rfl ?_
  refine s_aload_n (pc2 := 11) w dX11_load_10 rfl rfl ?_
  refine m_getR (pc2 := 14) (ci := 10) (k := 1) (j2 := 191) w dX11_load_11 rfl rfl rfl rfl rfl rfl ?_
  refine s_iconst (pc2 := 15) (v := 0) w dX11_load_14 rfl rfl ?_
  refine r_X11_copy (pc2 := 18) (A := 0) (B := 0) w dX11_load_15 rfl rfl rfl rfl rfl rfl rfl (by decide) (by decide) (by decide) (by decide) (by decide) ?_
  refine s_aload_n (pc2 := 19) w dX11_load_18 rfl rfl ?_
  refine r_X11_clear (pc2 := 22) w dX11_load_19 rfl rfl rfl (by decide) (by decide) rfl ?_
  refine s_aload_n (pc2 := 23) w dX11_load_22 rfl rfl ?_
  refine s_iconst (pc2 := 24) (v := 0) w dX11_load_23 rfl rfl ?_
  refine m_putI (pc2 := 27) (ci := 10) (k := 17) w dX11_load_24 rfl rfl rfl rfl rfl (by intro h; cases h) ?_
  refine s_aload_n (pc2 := 28) w dX11_load_27 rfl rfl ?_
  refine s_iconst (pc2 := 29) (v := (-1)) w dX11_load_28 rfl rfl ?_
  refine m_putI (pc2 := 32) (ci := 10) (k := 18) w dX11_load_29 rfl rfl rfl rfl rfl (by intro h; cases h) ?_
  refine s_aload_n (pc2 := 33) w dX11_load_32 rfl rfl ?_
  refine s_iconst (pc2 := 34) (v := 0) w dX11_load_33 rfl rfl ?_
  refine m_putI (pc2 := 37) (ci := 10) (k := 12) w dX11_load_34 rfl rfl rfl rfl rfl (by intro h; cases h) ?_
  refine s_aload_n (pc2 := 38) w dX11_load_37 rfl rfl ?_
  refine r_X11_nextToken (pc2 := 41) (a := 0) w dX11_load_38 rfl rfl rfl b1 hp1 b2 (gk_up_in _ _ _ _) (Nat.zero_le t) hp3 (fun x1 y1 h1 h2 h3 => ?_)
  refine s_iconst (pc2 := 42) (v := 0) w dX11_load_41 rfl rfl ?_
  refine s_istore_n (pc2 := 43) (k2 := 1) w dX11_load_42 rfl rfl rfl ?_
  dsimp only [gk_s1, gk_s2, gk_cl]
  have h2 : ∀ i k, ¬ (i = 189 ∧ 12 ≤ k ∧ k ≤ 16) → x1 i k = ldX x i k := h2
  have c0 : RP B t (ldX x) y pZ x1 y1 := ⟨fun i k a b => h2 i k (by omega), h3, h1, (h2 189 17 (by omega)).trans rfl, Nat.zero_le 3, fun _ => ⟨(h2 189 18 (by omega)).trans rfl, fun k hk => (h2 190 k (by omega)).trans (ldX_g x k hk)⟩, fun h => absurd rfl h⟩
  have fin : ∀ (n : Nat) (Q1 : gk_P) (xb : gk_X) (yb : gk_Y), RP B t (ldX x) y Q1 xb yb → (pLd B t 501 pZ).2 = Q1 → (Q1.2.1 = 0 → (pLd B t 501 pZ).1 = n) → V 67 [some (.ref 189), some (.int (nI n))] [] 202 gk_fT xb yb 0 := by
    intro n Q1 xb yb hR hQ hN
    obtain ⟨r1, r2, r3, r4, r5, r6, r7⟩ := id hR
    have e17 : gk_up xb 189 11 0 189 17 = nI Q1.2.1 := (gk_up_ne (by omega)).trans r4
    refine s_aload_n (pc2 := 68) w dX11_load_67 rfl rfl ?_
    refine s_iconst (pc2 := 69) (v := 0) w dX11_load_68 rfl rfl ?_
    refine m_putI (pc2 := 72) (ci := 10) (k := 11) w dX11_load_69 rfl rfl rfl rfl rfl (by intro h; cases h) ?_
    refine s_aload_n (pc2 := 73) w dX11_load_72 rfl rfl ?_
    refine m_getI (pc2 := 76) (ci := 10) (k := 17) w dX11_load_73 rfl rfl rfl rfl rfl ?_
    rw [e17]
    refine s_if_eq (pc2 := 79) (tgt := 94) w dX11_load_76 rfl (by decide) (fun c76 => ?_) (fun c76 => ?_)
    · refine s_iload_n (pc2 := 95) w dX11_load_94 rfl rfl ?_
      refine s_ireturn w dX11_load_95 rfl rfl ?_
      have e0 : Q1.2.1 = 0 := (e_0 r5).mp c76
      rw [show rdV B t = nI n from by unfold rdV; rw [hQ, if_pos e0, hN e0], hQ, if_pos e0, if_pos e0] at q0
      exact q0 _ yb (fun k hk => (gk_up_ne (by omega)).trans ((r6 e0).2 k hk)) e17 ((gk_up_ne (by omega)).trans (r6 e0).1) (gk_up_in _ _ _ _) (fun i k a => (gk_up_ne (by omega)).trans ((r1 i k (by omega) (by omega)).trans (ldX_fr x (by omega) (by omega)))) r2
    · refine s_aload_n (pc2 := 80) w dX11_load_79 rfl rfl ?_
      refine m_getR (pc2 := 83) (ci := 10) (k := 1) (j2 := 191) w dX11_load_80 rfl rfl rfl rfl rfl rfl ?_
      refine s_iconst (pc2 := 84) (v := 0) w dX11_load_83 rfl rfl ?_
      refine s_aload_n (pc2 := 85) w dX11_load_84 rfl rfl ?_
      refine m_getR (pc2 := 88) (ci := 10) (k := 0) (j2 := 190) w dX11_load_85 rfl rfl rfl rfl rfl rfl ?_
      refine s_iconst (pc2 := 89) (v := 0) w dX11_load_88 rfl rfl ?_
      refine r_X11_copy (pc2 := 92) (A := 0) (B := 0) w dX11_load_89 rfl rfl rfl rfl rfl rfl rfl (by decide) (by decide) (by decide) (by decide) (by decide) ?_
      refine s_iconst (pc2 := 93) (v := (-1)) w dX11_load_92 rfl rfl ?_
      refine s_ireturn w dX11_load_93 rfl rfl ?_
      have e0 : ¬ Q1.2.1 = 0 := fun h => c76 ((e_0 r5).mpr h)
      rw [show rdV B t = -1 from by unfold rdV; rw [hQ, if_neg e0], hQ, if_neg e0, if_neg e0] at q0
      refine q0 _ yb (fun k hk => ?_) ((gk_rg_ne (by omega)).trans e17) ((gk_rg_ne (by omega)).trans ((gk_up_ne (by omega)).trans (r7 e0))) ((gk_rg_ne (by omega)).trans (gk_up_in _ _ _ _)) (fun i k a => (gk_rg_ne (by omega)).trans ((gk_up_ne (by omega)).trans ((r1 i k (by omega) (by omega)).trans (ldX_fr x (by omega) (by omega))))) r2
      have h9 := gk_rg_in (x := gk_up xb 189 11 0) (j := 190) (o := 0) (f := fun k => gk_up xb 189 11 0 191 (0 + k)) hk
      rw [Nat.zero_add] at h9
      refine h9.trans ?_
      exact (gk_up_ne (by omega)).trans ((r1 191 k (by omega) (by omega)).trans ((ldX_b x hk).trans (hp4 k hk)))
  have key : ∀ (k n : Nat) (Q1 : gk_P) (xb : gk_X) (yb : gk_Y), RP B t (ldX x) y Q1 xb yb → (Q1.2.1 = 0 → gOK Q1.2.2) → Q1.1 ≤ m → (Q1.2.1 = 0 → m < Q1.1 + k) → pLd B t 501 pZ = ((pLd B t k Q1).1 + n, (pLd B t k Q1).2) → V 43 [some (.ref 189), some (.int (nI n))] [] 202 gk_fT xb yb 0 := by
    intro k
    induction k with
    | zero =>
      intro n Q1 xb yb hR hok hb hk hp
      have e0 : ¬ Q1.2.1 = 0 := fun h => by have := hk h; omega
      refine s_aload_n (pc2 := 44) w dX11_load_43 rfl rfl ?_
      refine m_getI (pc2 := 47) (ci := 10) (k := 17) w dX11_load_44 rfl rfl rfl rfl rfl ?_
      rw [hR.2.2.2.1]
      refine s_if_ne (pc2 := 50) (tgt := 67) w dX11_load_47 rfl (by decide) (fun _ => ?_) (fun h0 => absurd h0 (fun h => e0 ((e_0 hR.2.2.2.2.1).mp h)))
      exact fin n Q1 xb yb hR (by rw [hp]; rfl) (fun h => absurd h e0)
    | succ k ih =>
      intro n Q1 xb yb hR hok hb hk hp
      have k0 := (kR_0 B t (tp B t Q1.1)).1
      refine s_aload_n (pc2 := 44) w dX11_load_43 rfl rfl ?_
      refine m_getI (pc2 := 47) (ci := 10) (k := 17) w dX11_load_44 rfl rfl rfl rfl rfl ?_
      rw [hR.2.2.2.1]
      refine s_if_ne (pc2 := 50) (tgt := 67) w dX11_load_47 rfl (by decide) (fun c47 => ?_) (fun c47 => ?_)
      · have e0 : ¬ Q1.2.1 = 0 := fun h => c47 ((e_0 hR.2.2.2.2.1).mpr h)
        exact fin n Q1 xb yb hR (by rw [hp, pLd_e e0]) (fun h => absurd h e0)
      · have e0 : Q1.2.1 = 0 := (e_0 hR.2.2.2.2.1).mp c47
        refine s_aload_n (pc2 := 51) w dX11_load_50 rfl rfl ?_
        refine m_getI (pc2 := 54) (ci := 10) (k := 14) w dX11_load_51 rfl rfl rfl rfl rfl ?_
        rw [hR.2.2.1.2.2.1]
        refine s_if_eq (pc2 := 57) (tgt := 67) w dX11_load_54 rfl (by decide) (fun c54 => ?_) (fun c54 => ?_)
        · have hK : KK B t Q1.1 = 0 := k0.mp ((kRq 0 (by omega)).mp c54)
          exact fin n Q1 xb yb hR (by rw [hp, pLd_0 hK]) (fun _ => by rw [hp, pLd_0 hK]; exact Nat.zero_add n)
        · refine s_aload_n (pc2 := 58) w dX11_load_57 rfl rfl ?_
          refine r_X11_parseStatement (pc2 := 61) w dX11_load_58 rfl rfl rfl hrh hR e0 (hok e0) (fun x2 y2 g2 => ?_)
          refine s_iinc (pc2 := 64) w dX11_load_61 rfl rfl rfl rfl ?_
          dsimp only [gk_s1, gk_s2, gk_cl]
          rw [nI_s]
          refine s_goto (tgt := 43) w dX11_load_64 (by decide) ?_
          have hK : ¬ KK B t Q1.1 = 0 := fun h => c54 ((kRq 0 (by omega)).mpr (k0.mpr h))
          rw [pLd_s e0 hK] at hp
          have hin : pIn Q1.1 m Q1 := ⟨Nat.le_refl _, hb, hR.2.2.2.2.1⟩
          have hin2 := pSt_in hm2 hin
          exact ih (n + 1) (pSt B t Q1) x2 y2 g2 (fun h => pSt_ok (hok e0) h) hin2.2.1 (fun h => by have h8 := pSt_lt hm2 hin h; have h9 := hk e0; omega) (hp.trans (by show ((pLd B t k (pSt B t Q1)).1 + 1 + n, (pLd B t k (pSt B t Q1)).2) = _; rw [Nat.add_assoc, Nat.add_comm 1 n]))
  exact key 501 0 pZ x1 y1 c0 (fun _ => gOK_N) (Nat.zero_le _) (fun _ => by show m < 0 + 501; omega) rfl
theorem lk_X11_load {l : Launch} (hl : l.stackTraces = false) : ∀ q ∈ L_X11_load, (q.2.1 < 5 → gk_Lk l RX11 gk_W1 8 q.1 q.2.1 q.2.2.1 q.2.2.2.1 q.2.2.2.2.1 q.2.2.2.2.2) := (List.forall_mem_cons.mpr ⟨(fun _ => ⟨yX11_clear, cX11_clear, 2, none, 0, _, M_X11_clear hl, ⟨by decide, by decide⟩, ⟨by decide, by decide, by decide +kernel⟩, ⟨(gk_wm 1261 (by decide +kernel)), (gk_wm 99 (by decide +kernel))⟩, Or.inr (Or.inr (Or.inr (Or.inl ⟨rfl, rfl, (gk_wm 1260 (by decide +kernel)), (gk_wm 30 (by decide +kernel)), gk_wm 1258 (by decide +kernel), by decide, rfl⟩)))⟩), (List.forall_mem_cons.mpr ⟨(fun _ => ⟨yX11_nextToken, cX11_nextToken, 2, none, 2, _, M_X11_nextToken hl, ⟨by decide, by decide⟩, ⟨by decide, by decide, by decide +kernel⟩, ⟨(gk_wm 1726 (by decide +kernel)), (gk_wm 99 (by decide +kernel))⟩, Or.inr (Or.inr (Or.inr (Or.inl ⟨rfl, rfl, (gk_wm 1725 (by decide +kernel)), (gk_wm 77 (by decide +kernel)), gk_wm 1723 (by decide +kernel), by decide, rfl⟩)))⟩), (List.forall_mem_cons.mpr ⟨(fun _ => ⟨yX11_copy, cX11_copy, 5, none, 0, _, M_X11_copy hl, ⟨by decide, by decide⟩, ⟨by decide, by decide, by decide +kernel⟩, ⟨(gk_wm 1722 (by decide +kernel)), (gk_wm 99 (by decide +kernel))⟩, Or.inl ⟨rfl, rfl, (gk_wm 1721 (by decide +kernel)), gk_wm 1720 (by decide +kernel)⟩⟩), (List.forall_mem_cons.mpr ⟨(fun _ => ⟨yX11_parseStatement, cX11_parseStatement, 1, none, 7, _, M_X11_parseStatement hl, ⟨by decide, by decide⟩, ⟨by decide, by decide, by decide +kernel⟩, ⟨(gk_wm 1742 (by decide +kernel)), (gk_wm 99 (by decide +kernel))⟩, Or.inr (Or.inr (Or.inr (Or.inl ⟨rfl, rfl, (gk_wm 1741 (by decide +kernel)), (gk_wm 79 (by decide +kernel)), gk_wm 1739 (by decide +kernel), by decide, rfl⟩)))⟩), (fun _ h => absurd h List.not_mem_nil)⟩)⟩)⟩)⟩)
theorem sp_X11_load : ∀ q ∈ L_X11_load, gk_Sq RX11 gk_W1 8 q := (List.forall_mem_cons.mpr ⟨⟨fun h => absurd h (by decide), fun h => absurd h (by decide), fun h => absurd h (by decide), fun h => absurd h (by decide), fun h => absurd h (by decide), fun h => absurd h (by decide)⟩, (List.forall_mem_cons.mpr ⟨⟨fun h => absurd h (by decide), fun h => absurd h (by decide), fun h => absurd h (by decide), fun h => absurd h (by decide), fun h => absurd h (by decide), fun h => absurd h (by decide)⟩, (List.forall_mem_cons.mpr ⟨⟨fun h => absurd h (by decide), fun h => absurd h (by decide), fun h => absurd h (by decide), fun h => absurd h (by decide), fun h => absurd h (by decide), fun h => absurd h (by decide)⟩, (List.forall_mem_cons.mpr ⟨⟨fun h => absurd h (by decide), fun h => absurd h (by decide), fun h => absurd h (by decide), fun h => absurd h (by decide), fun h => absurd h (by decide), fun h => absurd h (by decide)⟩, (fun _ h => absurd h List.not_mem_nil)⟩)⟩)⟩)⟩)
theorem M_X11_load {l : Launch} (hl : l.stackTraces = false) : gk_Mt l yX11_load (.code yX11_load cX11_load 2 (some .int) :: gk_W1) 8 0 S_X11_load := gk_meth hl gk_cw_ok (by decide +kernel) rfl m_X11_load pX11_ok (gk_Sp_of sp_X11_load) pX11_st (fun ci m S h => absurd h (by intro h; cases h)) (xf_X11 8) (fun idx kd ci mm cost S2 h h5 => lk_X11_load hl _ (gk_lk_mem h) h5)

end GKV

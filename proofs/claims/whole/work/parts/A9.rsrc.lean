/-! THE TEXT, 21: the reference parses a source -/
section GKV
variable {c : ByteArray} {P : gk_C} {cs : Nat → Option gk_M0} {rt : Option FieldType} {uf : Nat} {sc : Option Nat} {K : gk_K} {V : gk_V}
variable {L : List (Option Value)} {r : List Value} {n : Nat} {fl : gk_F} {x : gk_X} {y : gk_Y} {u pc pc2 : Nat}
def S_X11_parseSource : gk_S := fun as n fl x y K => ∃ (B : Nat → Int32) (t : Nat) (x0 : gk_X) (y0 : gk_Y) (Q : gk_P), as = [.ref 189] ∧ (n = 202 ∧ fl = gk_fT) ∧ (RH B t x0) ∧ (RP B t x0 y0 Q x y) ∧ (Q.2.1 = 0) ∧ (gOK Q.2.2) ∧ (∀ (x2 : gk_X) (y2 : gk_Y), RP B t x0 y0 (pSrc B t Q) x2 y2 → K (.inl none) n fl x2 y2)
theorem r_X11_parseSource (w : gk_W c P cs (fun _ _ => none) rt uf sc K V) {idx : Nat} {B : Nat → Int32} {t : Nat} {x0 : gk_X} {y0 : gk_Y} {Q : gk_P} (hd : decode c pc = .ok (.invokevirtual idx, 3)) (hp : pc + 3 = pc2) (hc : cs idx = some (1, 10, 1, 0, S_X11_parseSource)) (h8 : Nat.ble (r.map Value.category).sum 8 = true) (hp0 : RH B t x0) (hp1 : RP B t x0 y0 Q x y) (hp2 : Q.2.1 = 0) (hp3 : gOK Q.2.2) (kk0 : ∀ (x2 : gk_X) (y2 : gk_Y), RP B t x0 y0 (pSrc B t Q) x2 y2 → V pc2 L r 202 gk_fT x2 y2 u) : V pc L (.ref 189 :: r) 202 gk_fT x y u :=
  g_callv w hd hp hc (as := [.ref 189]) rfl h8 rfl rfl rfl (Or.inr (Or.inl ⟨Or.inl rfl, _, _, rfl, (gk_kd_j rfl rfl), rfl⟩)) (Or.inl rfl) ⟨B, t, x0, y0, Q, rfl, ⟨rfl, rfl⟩, hp0, hp1, hp2, hp3, kk0⟩
theorem gAS0_4 {g : Nat → Int32} {a : Nat} {w o h st : Int32} : gAS0 g a w o h st (28 + 21 * a + 4) = nI 0 := by
  unfold gAS0
  rw [gU_ne (by omega)]
  exact if_pos rfl
def L_X11_parseSource : List (Nat × gk_M0) := [(87, (1, 10, 5, 0, S_X11_appendSource)), (91, (1, 10, 3, 0, S_X11_appendValue)), (323, (1, 10, 3, 0, S_X11_require)), (327, (1, 10, 1, 0, S_X11_advance)), (330, (1, 10, 3, 0, S_X11_parseNumber)), (333, (1, 10, 3, 0, S_X11_parseInteger))]
def cs_X11_parseSource : Nat → Option gk_M0 := gk_lk L_X11_parseSource
set_option maxHeartbeats 8000000 in
theorem m_X11_parseSource : ∀ (as : List Value) (n : Nat) (fl : gk_F) (x : gk_X) (y : gk_Y) (K : gk_K), S_X11_parseSource as n fl x y K → (gk_L0 as).length ≤ 10 ∧ ∀ V : gk_V, gk_W cX11_parseSource pX11 cs_X11_parseSource (fun _ _ => none) none 0 none K V → V 0 (gk_en as 10) [] n fl x y 0 := by
  intro as n fl x y K hS
  obtain ⟨B, t, x0, y0, Q, rfl, ⟨rfl, rfl⟩, hp0, hp1, hp2, hp3, q0⟩ := hS
  refine ⟨Nat.le_of_ble_eq_true rfl, fun V w => ?_⟩
  show V 0 [some (.ref 189), none, none, none, none, none, none, none, none, none] [] 202 gk_fT x y 0
  obtain ⟨r1, r2, r3, r4, r5, r6, r7⟩ := id hp1
  obtain ⟨m1, m2⟩ := r6 hp2
  obtain ⟨nv4, ns6, nm8, z6, z7, z8⟩ := wf_n hp3.1
  have hcn : x 190 7 = nI (nS Q.2.2) := (m2 7 (by decide)).trans (gn_7 hp3.1)
  have fin : ∀ (l : Nat) (sv : Int32) (l1 l2 l3 l4 l8 l9 : Option Value) (x1 : gk_X) (y1 : gk_Y), l ≤ 16 → RP B t x0 y0 (pSrc B t Q) x1 y1 → V 98 [some (.ref 189), l1, l2, l3, l4, some (.int sv), some (.int 0), some (.int (nI l)), l8, l9] [] 202 gk_fT x1 y1 0 := by
    intro l sv l1 l2 l3 l4 l8 l9 x1 y1 hl hR
    refine s_iload (pc2 := 100) w dX11_parseSource_98 rfl rfl ?_
    refine s_bipush (pc2 := 102) (v := gI 16) w dX11_parseSource_100 rfl rfl ?_
    refine s_ic_ge (pc2 := 105) (tgt := 173) w dX11_parseSource_102 rfl (by decide) (fun c102 => ?_) (fun c102 => ?_)
    · refine s_return w dX11_parseSource_173 rfl ?_
      exact q0 x1 y1 hR
    · refine s_iload (pc2 := 107) w dX11_parseSource_105 rfl rfl ?_
      refine s_if_eq (pc2 := 110) (tgt := 173) w dX11_parseSource_107 rfl (by decide) (fun _ => ?_) (fun h0 => absurd (rfl) h0)
      refine s_return w dX11_parseSource_173 rfl ?_
      exact q0 x1 y1 hR
  have key : ∀ (k l : Nat) (Q1 : gk_P) (sv : Int32) (l1 l2 l3 l4 l8 l9 : Option Value) (x1 : gk_X) (y1 : gk_Y), l + k = 16 → pSrc B t Q = pW B t (nS Q.2.2) k l Q1 → RP B t x0 y0 Q1 x1 y1 → (Q1.2.1 = 0 → sv = nI (nS Q.2.2) ∧ (nS Q.2.2) < 6 ∧ Q1.2.2 (28 + 21 * (nS Q.2.2) + 4) = nI l) → V 98 [some (.ref 189), l1, l2, l3, l4, some (.int sv), some (.int 1), some (.int (nI l)), l8, l9] [] 202 gk_fT x1 y1 0 := by
    intro k
    induction k with
    | zero =>
      intro l Q1 sv l1 l2 l3 l4 l8 l9 x1 y1 hl hS hR hV
      refine s_iload (pc2 := 100) w dX11_parseSource_98 rfl rfl ?_
      refine s_bipush (pc2 := 102) (v := gI 16) w dX11_parseSource_100 rfl rfl ?_
      refine s_ic_ge (pc2 := 105) (tgt := 173) w dX11_parseSource_102 rfl (by decide) (fun _ => ?_) (fun h0 => absurd (by rw [show gI 16 = nI 16 from rfl, nI_ge2 (by omega) (by omega)]; omega) h0)
      refine s_return w dX11_parseSource_173 rfl ?_
      rw [hS] at q0
      exact q0 x1 y1 hR
    | succ k ih =>
      intro l Q1 sv l1 l2 l3 l4 l8 l9 x1 y1 hl hS hR hV
      refine s_iload (pc2 := 100) w dX11_parseSource_98 rfl rfl ?_
      refine s_bipush (pc2 := 102) (v := gI 16) w dX11_parseSource_100 rfl rfl ?_
      refine s_ic_ge (pc2 := 105) (tgt := 173) w dX11_parseSource_102 rfl (by decide) (fun h0 => absurd h0 (by rw [show gI 16 = nI 16 from rfl, nI_ge2 (by omega) (by omega)]; omega)) (fun _ => ?_)
      refine s_iload (pc2 := 107) w dX11_parseSource_105 rfl rfl ?_
      refine s_if_eq (pc2 := 110) (tgt := 173) w dX11_parseSource_107 rfl (by decide) (fun h0 => absurd h0 (by decide)) (fun _ => ?_)
      refine s_aload_n (pc2 := 111) w dX11_parseSource_110 rfl rfl ?_
      refine s_bipush (pc2 := 113) (v := gI (-99)) w dX11_parseSource_111 rfl rfl ?_
      refine s_bipush (pc2 := 115) (v := gI 99) w dX11_parseSource_113 rfl rfl ?_
      refine r_X11_parseInteger (pc2 := 118) (lo := -99) (hi := 99) w dX11_parseSource_115 rfl rfl rfl hp0 hR rfl rfl ⟨by decide, by decide⟩ ⟨by decide, by decide⟩ (fun v x2 y2 g2 w2 => ?_)
      refine s_istore (pc2 := 120) w dX11_parseSource_118 rfl rfl ?_
      dsimp only [gk_s1, gk_s2, gk_cl]
      refine s_aload_n (pc2 := 121) w dX11_parseSource_120 rfl rfl ?_
      refine m_getI (pc2 := 124) (ci := 10) (k := 17) w dX11_parseSource_121 rfl rfl rfl rfl rfl ?_
      rw [g2.2.2.2.1]
      refine s_if_ne (pc2 := 127) (tgt := 137) w dX11_parseSource_124 rfl (by decide) (fun c124 => ?_) (fun c124 => ?_)
      · refine s_aload_n (pc2 := 138) w dX11_parseSource_137 rfl rfl ?_
        refine m_getI (pc2 := 141) (ci := 10) (k := 17) w dX11_parseSource_138 rfl rfl rfl rfl rfl ?_
        rw [g2.2.2.2.1]
        refine s_if_ne (pc2 := 144) (tgt := 164) w dX11_parseSource_141 rfl (by decide) (fun _ => ?_) (fun h0 => absurd h0 (c124))
        refine s_iconst (pc2 := 165) (v := gI 0) w dX11_parseSource_164 rfl rfl ?_
        refine s_istore (pc2 := 167) w dX11_parseSource_165 rfl rfl ?_
        dsimp only [gk_s1, gk_s2, gk_cl]
        refine s_iinc (pc2 := 170) w dX11_parseSource_167 rfl rfl rfl rfl ?_
        dsimp only [gk_s1, gk_s2, gk_cl]
        rw [nI_s]
        refine s_goto (tgt := 98) w dX11_parseSource_170 (by decide) ?_
        have n2 : ¬ (pI B t (-99) 99 Q1).2.1 = 0 := fun h => c124 ((e_0 g2.2.2.2.2.1).mpr h)
        rw [pW_n, show pW1 B t (nS Q.2.2) l Q1 = pI B t (-99) 99 Q1 from pG_e n2, pWn_e n2] at hS
        exact fin (l + 1) sv _ _ _ _ _ _ x2 y2 (by omega) (by rw [hS]; exact g2)
      · have e2 : (pI B t (-99) 99 Q1).2.1 = 0 := (e_0 g2.2.2.2.2.1).mp c124
        obtain ⟨i1, i2, i3⟩ := pI_0 ⟨by decide, by decide⟩ ⟨by decide, by decide⟩ e2
        have hv := hV i1
        obtain rfl := w2 e2
        refine s_aload_n (pc2 := 128) w dX11_parseSource_127 rfl rfl ?_
        refine s_iload (pc2 := 130) w dX11_parseSource_128 rfl rfl ?_
        refine s_iload (pc2 := 132) w dX11_parseSource_130 rfl rfl ?_
        refine r_X11_appendValue (pc2 := 135) w dX11_parseSource_132 rfl rfl rfl (g2.2.2.2.2.2.1 e2).2 hv.1 hv.2.1 (by rw [i3]; exact hv.2.2) (by omega) (fun x3 u1 u2 => ?_)
        have g3 := g2.put e2 u1 u2
        have k4 := (kR_0 B t (tp B t (pI B t (-99) 99 Q1).1)).2.1
        have k5 := (kR_0 B t (tp B t (pI B t (-99) 99 Q1).1)).2.2.2.1
        refine s_istore (pc2 := 137) w dX11_parseSource_135 rfl rfl ?_
        dsimp only [gk_s1, gk_s2, gk_cl]
        refine s_aload_n (pc2 := 138) w dX11_parseSource_137 rfl rfl ?_
        refine m_getI (pc2 := 141) (ci := 10) (k := 17) w dX11_parseSource_138 rfl rfl rfl rfl rfl ?_
        rw [g3.2.2.2.1]
        refine s_if_ne (pc2 := 144) (tgt := 164) w dX11_parseSource_141 rfl (by decide) (fun h0 => absurd (rfl) h0) (fun _ => ?_)
        refine s_aload_n (pc2 := 145) w dX11_parseSource_144 rfl rfl ?_
        refine m_getI (pc2 := 148) (ci := 10) (k := 14) w dX11_parseSource_145 rfl rfl rfl rfl rfl ?_
        rw [g3.2.2.1.2.2.1]
        refine s_iconst (pc2 := 149) (v := gI 3) w dX11_parseSource_148 rfl rfl ?_
        refine s_ic_eq (pc2 := 152) (tgt := 160) w dX11_parseSource_149 rfl (by decide) (fun c149 => ?_) (fun c149 => ?_)
        · refine s_iconst (pc2 := 161) (v := gI 1) w dX11_parseSource_160 rfl rfl ?_
          refine s_goto (tgt := 165) w dX11_parseSource_161 (by decide) ?_
          refine s_istore (pc2 := 167) w dX11_parseSource_165 rfl rfl ?_
          dsimp only [gk_s1, gk_s2, gk_cl]
          refine s_iinc (pc2 := 170) w dX11_parseSource_167 rfl rfl rfl rfl ?_
          dsimp only [gk_s1, gk_s2, gk_cl]
          rw [nI_s]
          refine s_goto (tgt := 98) w dX11_parseSource_170 (by decide) ?_
          rw [pW_n, (show pW1 B t (nS Q.2.2) l Q1 = ((pI B t (-99) 99 Q1).1, 0, gV1 (pI B t (-99) 99 Q1).2.2 (nS Q.2.2) l (vI B t Q1)) from pG_1 e2)] at hS
          exact ih (l + 1) _ sv _ _ _ _ _ _ x3 y2 (by omega) (hS.trans (if_pos ⟨rfl, Or.inl (k4.mp ((kRq 3 (by omega)).mp c149))⟩)) g3 (fun _ => ⟨hv.1, hv.2.1, gV1_4⟩)
        · refine s_aload_n (pc2 := 153) w dX11_parseSource_152 rfl rfl ?_
          refine m_getI (pc2 := 156) (ci := 10) (k := 14) w dX11_parseSource_153 rfl rfl rfl rfl rfl ?_
          rw [g3.2.2.1.2.2.1]
          refine s_iconst (pc2 := 157) (v := gI 5) w dX11_parseSource_156 rfl rfl ?_
          refine s_ic_ne (pc2 := 160) (tgt := 164) w dX11_parseSource_157 rfl (by decide) (fun c157 => ?_) (fun c157 => ?_)
          · refine s_iconst (pc2 := 165) (v := gI 0) w dX11_parseSource_164 rfl rfl ?_
            refine s_istore (pc2 := 167) w dX11_parseSource_165 rfl rfl ?_
            dsimp only [gk_s1, gk_s2, gk_cl]
            refine s_iinc (pc2 := 170) w dX11_parseSource_167 rfl rfl rfl rfl ?_
            dsimp only [gk_s1, gk_s2, gk_cl]
            rw [nI_s]
            refine s_goto (tgt := 98) w dX11_parseSource_170 (by decide) ?_
            rw [pW_n, (show pW1 B t (nS Q.2.2) l Q1 = ((pI B t (-99) 99 Q1).1, 0, gV1 (pI B t (-99) 99 Q1).2.2 (nS Q.2.2) l (vI B t Q1)) from pG_1 e2)] at hS
            have hS2 := hS.trans (if_neg (fun h => by
              rcases h.2 with h | h
              · exact c149 ((kRq 3 (by omega)).mpr (k4.mpr h))
              · exact c157 ((kRq 5 (by omega)).mpr (k5.mpr h))))
            exact fin (l + 1) sv _ _ _ _ _ _ x3 y2 (by omega) (by rw [hS2]; exact g3)
          · refine s_iconst (pc2 := 161) (v := gI 1) w dX11_parseSource_160 rfl rfl ?_
            refine s_goto (tgt := 165) w dX11_parseSource_161 (by decide) ?_
            refine s_istore (pc2 := 167) w dX11_parseSource_165 rfl rfl ?_
            dsimp only [gk_s1, gk_s2, gk_cl]
            refine s_iinc (pc2 := 170) w dX11_parseSource_167 rfl rfl rfl rfl ?_
            dsimp only [gk_s1, gk_s2, gk_cl]
            rw [nI_s]
            refine s_goto (tgt := 98) w dX11_parseSource_170 (by decide) ?_
            rw [pW_n, (show pW1 B t (nS Q.2.2) l Q1 = ((pI B t (-99) 99 Q1).1, 0, gV1 (pI B t (-99) 99 Q1).2.2 (nS Q.2.2) l (vI B t Q1)) from pG_1 e2)] at hS
            exact ih (l + 1) _ sv _ _ _ _ _ _ x3 y2 (by omega) (hS.trans (if_pos ⟨rfl, Or.inr (k5.mp ((kRq 5 (by omega)).mp c157))⟩)) g3 (fun _ => ⟨hv.1, hv.2.1, gV1_4⟩)
  refine s_aload_n (pc2 := 1) w dX11_parseSource_0 rfl rfl ?_
  refine s_aload_n (pc2 := 2) w dX11_parseSource_1 rfl rfl ?_
  refine m_getR (pc2 := 5) (ci := 10) (k := 0) (j2 := 190) w dX11_parseSource_2 rfl rfl rfl rfl rfl rfl ?_
  refine s_bipush (pc2 := 7) (v := gI 7) w dX11_parseSource_5 rfl rfl ?_
  refine m_ialoadN (pc2 := 8) (t := 7) (N := 2234) w dX11_parseSource_7 rfl rfl rfl rfl (by decide) rfl ?_
  rw [hcn]
  refine s_bipush (pc2 := 10) (v := gI 6) w dX11_parseSource_8 rfl rfl ?_
  refine s_ic_ge (pc2 := 13) (tgt := 17) w dX11_parseSource_10 rfl (by decide) (fun c10 => ?_) (fun c10 => ?_)
  · have hb : ((0 : Int32) = 0 ↔ decide (nS Q.2.2 < 6) = false) := ⟨fun _ => decide_eq_false ((nI_ge2 (a := nS Q.2.2) (b := 6) (by omega) (by decide)).mp c10), fun _ => rfl⟩
    refine s_iconst (pc2 := 18) (v := gI 0) w dX11_parseSource_17 rfl rfl ?_
    refine s_iconst (pc2 := 19) (v := gI 3) w dX11_parseSource_18 rfl rfl ?_
    refine r_X11_require (pc2 := 22) (b := decide (nS Q.2.2 < 6)) (k := 3) w dX11_parseSource_19 rfl rfl rfl hp1 hb rfl (by decide) (by decide) (fun xq gq oq => ?_)
    refine s_aload_n (pc2 := 23) w dX11_parseSource_22 rfl rfl ?_
    refine r_X11_advance (pc2 := 26) w dX11_parseSource_23 rfl rfl rfl hp0 gq (fun x1 y1 h1 o1 => ?_)
    have g1 : RP B t x0 y0 (pS1 B t Q) x1 y1 := h1
    have hv1 : x1 190 6 = nI (nV Q.2.2) := (o1 6).trans ((oq 6).trans ((m2 6 (by decide)).trans (gn_6 hp3.1)))
    refine s_aload_n (pc2 := 27) w dX11_parseSource_26 rfl rfl ?_
    refine s_iconst (pc2 := 28) (v := gI 0) w dX11_parseSource_27 rfl rfl ?_
    refine s_aload_n (pc2 := 29) w dX11_parseSource_28 rfl rfl ?_
    refine m_getR (pc2 := 32) (ci := 10) (k := 0) (j2 := 190) w dX11_parseSource_29 rfl rfl rfl rfl rfl rfl ?_
    refine s_bipush (pc2 := 34) (v := gI 6) w dX11_parseSource_32 rfl rfl ?_
    refine m_ialoadN (pc2 := 35) (t := 6) (N := 2234) w dX11_parseSource_34 rfl rfl rfl rfl (by decide) rfl ?_
    rw [hv1]
    refine s_iconst (pc2 := 36) (v := gI 1) w dX11_parseSource_35 rfl rfl ?_
    refine s_isub (pc2 := 37) w dX11_parseSource_36 rfl ?_
    refine r_X11_parseNumber (pc2 := 40) (lo := 0) (hi := (nV Q.2.2 : Int) - 1) w dX11_parseSource_37 rfl rfl rfl hp0 g1 rfl (gI_sub (nV Q.2.2 : Int) 1) ⟨by decide, by decide⟩ ⟨by omega, by omega⟩ (fun v1 x2 y2 h2 w1 => ?_)
    have g2 : RP B t x0 y0 (pS2 B t Q) x2 y2 := h2
    refine s_istore_n (pc2 := 41) (k2 := 1) w dX11_parseSource_40 rfl rfl rfl ?_
    dsimp only [gk_s1, gk_s2, gk_cl]
    refine s_aload_n (pc2 := 42) w dX11_parseSource_41 rfl rfl ?_
    refine s_sipush (pc2 := 45) (v := gI (-1000)) w dX11_parseSource_42 rfl rfl ?_
    refine s_sipush (pc2 := 48) (v := gI 1000) w dX11_parseSource_45 rfl rfl ?_
    refine r_X11_parseInteger (pc2 := 51) (lo := -1000) (hi := 1000) w dX11_parseSource_48 rfl rfl rfl hp0 g2 rfl rfl ⟨by decide, by decide⟩ ⟨by decide, by decide⟩ (fun v2 x3 y3 h3 w2 => ?_)
    have g3 : RP B t x0 y0 (pS3 B t Q) x3 y3 := h3
    refine s_istore_n (pc2 := 52) (k2 := 2) w dX11_parseSource_51 rfl rfl rfl ?_
    dsimp only [gk_s1, gk_s2, gk_cl]
    refine s_aload_n (pc2 := 53) w dX11_parseSource_52 rfl rfl ?_
    refine s_iconst (pc2 := 54) (v := gI 0) w dX11_parseSource_53 rfl rfl ?_
    refine s_sipush (pc2 := 57) (v := gI 500) w dX11_parseSource_54 rfl rfl ?_
    refine r_X11_parseNumber (pc2 := 60) (lo := 0) (hi := 500) w dX11_parseSource_57 rfl rfl rfl hp0 g3 rfl rfl ⟨by decide, by decide⟩ ⟨by decide, by decide⟩ (fun v3 x4 y4 h4 w3 => ?_)
    have g4 : RP B t x0 y0 (pS4 B t Q) x4 y4 := h4
    refine s_istore_n (pc2 := 61) (k2 := 3) w dX11_parseSource_60 rfl rfl rfl ?_
    dsimp only [gk_s1, gk_s2, gk_cl]
    refine s_aload_n (pc2 := 62) w dX11_parseSource_61 rfl rfl ?_
    refine s_iconst (pc2 := 63) (v := gI 1) w dX11_parseSource_62 rfl rfl ?_
    refine s_bipush (pc2 := 65) (v := gI 10) w dX11_parseSource_63 rfl rfl ?_
    refine r_X11_parseNumber (pc2 := 68) (lo := 1) (hi := 10) w dX11_parseSource_65 rfl rfl rfl hp0 g4 rfl rfl ⟨by decide, by decide⟩ ⟨by decide, by decide⟩ (fun v4 x5 y5 h5 w4 => ?_)
    have g5 : RP B t x0 y0 (pS5 B t Q) x5 y5 := h5
    refine s_istore (pc2 := 70) w dX11_parseSource_68 rfl rfl ?_
    dsimp only [gk_s1, gk_s2, gk_cl]
    refine s_aload_n (pc2 := 71) w dX11_parseSource_70 rfl rfl ?_
    refine m_getI (pc2 := 74) (ci := 10) (k := 17) w dX11_parseSource_71 rfl rfl rfl rfl rfl ?_
    rw [g5.2.2.2.1]
    refine s_if_ne (pc2 := 77) (tgt := 89) w dX11_parseSource_74 rfl (by decide) (fun c74 => ?_) (fun c74 => ?_)
    · refine s_iconst (pc2 := 90) (v := gI 0) w dX11_parseSource_89 rfl rfl ?_
      refine s_istore (pc2 := 92) w dX11_parseSource_90 rfl rfl ?_
      dsimp only [gk_s1, gk_s2, gk_cl]
      refine s_iconst (pc2 := 93) (v := gI 1) w dX11_parseSource_92 rfl rfl ?_
      refine s_istore (pc2 := 95) w dX11_parseSource_93 rfl rfl ?_
      dsimp only [gk_s1, gk_s2, gk_cl]
      refine s_iconst (pc2 := 96) (v := gI 0) w dX11_parseSource_95 rfl rfl ?_
      refine s_istore (pc2 := 98) w dX11_parseSource_96 rfl rfl ?_
      dsimp only [gk_s1, gk_s2, gk_cl]
      have n5 : ¬ (pS5 B t Q).2.1 = 0 := fun h => c74 ((e_0 g5.2.2.2.2.1).mpr h)
      have e6 : pS6 B t Q = pS5 B t Q := pG_e n5
      exact key 16 0 (pS6 B t Q) _ _ _ _ _ _ _ x5 y5 (by omega) rfl (by rw [e6]; exact g5) (fun h => absurd h (by rw [e6]; exact n5))
    · have e5 : (pS5 B t Q).2.1 = 0 := (e_0 g5.2.2.2.2.1).mp c74
      obtain ⟨⟨e1, e2, e3, e4⟩, hroom, hg, -⟩ := pS_0 nv4 e5
      obtain rfl := w1 e2
      obtain rfl := w2 e3
      obtain rfl := w3 e4
      obtain rfl := w4 e5
      have hgn : (pS5 B t Q).2.2 7 = nI (nS (pS5 B t Q).2.2) := by rw [hg]; exact gn_7 hp3.1
      refine s_aload_n (pc2 := 78) w dX11_parseSource_77 rfl rfl ?_
      refine s_iload_n (pc2 := 79) w dX11_parseSource_78 rfl rfl ?_
      refine s_iload_n (pc2 := 80) w dX11_parseSource_79 rfl rfl ?_
      refine s_iload_n (pc2 := 81) w dX11_parseSource_80 rfl rfl ?_
      refine s_iload (pc2 := 83) w dX11_parseSource_81 rfl rfl ?_
      refine r_X11_appendSource (pc2 := 86) w dX11_parseSource_83 rfl rfl rfl (g5.2.2.2.2.2.1 e5).2 hgn (by rw [hg]; exact hroom) (fun x9 u1 u2 => ?_)
      refine s_goto (tgt := 90) w dX11_parseSource_86 (by decide) ?_
      refine s_istore (pc2 := 92) w dX11_parseSource_90 rfl rfl ?_
      dsimp only [gk_s1, gk_s2, gk_cl]
      refine s_iconst (pc2 := 93) (v := gI 1) w dX11_parseSource_92 rfl rfl ?_
      refine s_istore (pc2 := 95) w dX11_parseSource_93 rfl rfl ?_
      dsimp only [gk_s1, gk_s2, gk_cl]
      refine s_iconst (pc2 := 96) (v := gI 0) w dX11_parseSource_95 rfl rfl ?_
      refine s_istore (pc2 := 98) w dX11_parseSource_96 rfl rfl ?_
      dsimp only [gk_s1, gk_s2, gk_cl]
      have e6 := pS6_1 e5
      exact key 16 0 (pS6 B t Q) _ _ _ _ _ _ _ x9 y5 (by omega) rfl (by rw [e6]; exact g5.put e5 u1 u2) (fun _ => ⟨by rw [hg], hroom, by rw [e6, hg]; exact gAS0_4⟩)
  · have hb : ((1 : Int32) = 0 ↔ decide (nS Q.2.2 < 6) = false) := ⟨fun h => absurd h (by decide), fun h => absurd (of_decide_eq_false h) (fun h2 => h2 (Decidable.byContradiction (fun h3 => c10 ((nI_ge2 (a := nS Q.2.2) (b := 6) (by omega) (by decide)).mpr h3))))⟩
    refine s_iconst (pc2 := 14) (v := gI 1) w dX11_parseSource_13 rfl rfl ?_
    refine s_goto (tgt := 18) w dX11_parseSource_14 (by decide) ?_
    refine s_iconst (pc2 := 19) (v := gI 3) w dX11_parseSource_18 rfl rfl ?_
    refine r_X11_require (pc2 := 22) (b := decide (nS Q.2.2 < 6)) (k := 3) w dX11_parseSource_19 rfl rfl rfl hp1 hb rfl (by decide) (by decide) (fun xq gq oq => ?_)
    refine s_aload_n (pc2 := 23) w dX11_parseSource_22 rfl rfl ?_
    refine r_X11_advance (pc2 := 26) w dX11_parseSource_23 rfl rfl rfl hp0 gq (fun x1 y1 h1 o1 => ?_)
    have g1 : RP B t x0 y0 (pS1 B t Q) x1 y1 := h1
    have hv1 : x1 190 6 = nI (nV Q.2.2) := (o1 6).trans ((oq 6).trans ((m2 6 (by decide)).trans (gn_6 hp3.1)))
    refine s_aload_n (pc2 := 27) w dX11_parseSource_26 rfl rfl ?_
    refine s_iconst (pc2 := 28) (v := gI 0) w dX11_parseSource_27 rfl rfl ?_
    refine s_aload_n (pc2 := 29) w dX11_parseSource_28 rfl rfl ?_
    refine m_getR (pc2 := 32) (ci := 10) (k := 0) (j2 := 190) w dX11_parseSource_29 rfl rfl rfl rfl rfl rfl ?_
    refine s_bipush (pc2 := 34) (v := gI 6) w dX11_parseSource_32 rfl rfl ?_
    refine m_ialoadN (pc2 := 35) (t := 6) (N := 2234) w dX11_parseSource_34 rfl rfl rfl rfl (by decide) rfl ?_
    rw [hv1]
    refine s_iconst (pc2 := 36) (v := gI 1) w dX11_parseSource_35 rfl rfl ?_
    refine s_isub (pc2 := 37) w dX11_parseSource_36 rfl ?_
    refine r_X11_parseNumber (pc2 := 40) (lo := 0) (hi := (nV Q.2.2 : Int) - 1) w dX11_parseSource_37 rfl rfl rfl hp0 g1 rfl (gI_sub (nV Q.2.2 : Int) 1) ⟨by decide, by decide⟩ ⟨by omega, by omega⟩ (fun v1 x2 y2 h2 w1 => ?_)
    have g2 : RP B t x0 y0 (pS2 B t Q) x2 y2 := h2
    refine s_istore_n (pc2 := 41) (k2 := 1) w dX11_parseSource_40 rfl rfl rfl ?_
    dsimp only [gk_s1, gk_s2, gk_cl]
    refine s_aload_n (pc2 := 42) w dX11_parseSource_41 rfl rfl ?_
    refine s_sipush (pc2 := 45) (v := gI (-1000)) w dX11_parseSource_42 rfl rfl ?_
    refine s_sipush (pc2 := 48) (v := gI 1000) w dX11_parseSource_45 rfl rfl ?_
    refine r_X11_parseInteger (pc2 := 51) (lo := -1000) (hi := 1000) w dX11_parseSource_48 rfl rfl rfl hp0 g2 rfl rfl ⟨by decide, by decide⟩ ⟨by decide, by decide⟩ (fun v2 x3 y3 h3 w2 => ?_)
    have g3 : RP B t x0 y0 (pS3 B t Q) x3 y3 := h3
    refine s_istore_n (pc2 := 52) (k2 := 2) w dX11_parseSource_51 rfl rfl rfl ?_
    dsimp only [gk_s1, gk_s2, gk_cl]
    refine s_aload_n (pc2 := 53) w dX11_parseSource_52 rfl rfl ?_
    refine s_iconst (pc2 := 54) (v := gI 0) w dX11_parseSource_53 rfl rfl ?_
    refine s_sipush (pc2 := 57) (v := gI 500) w dX11_parseSource_54 rfl rfl ?_
    refine r_X11_parseNumber (pc2 := 60) (lo := 0) (hi := 500) w dX11_parseSource_57 rfl rfl rfl hp0 g3 rfl rfl ⟨by decide, by decide⟩ ⟨by decide, by decide⟩ (fun v3 x4 y4 h4 w3 => ?_)
    have g4 : RP B t x0 y0 (pS4 B t Q) x4 y4 := h4
    refine s_istore_n (pc2 := 61) (k2 := 3) w dX11_parseSource_60 rfl rfl rfl ?_
    dsimp only [gk_s1, gk_s2, gk_cl]
    refine s_aload_n (pc2 := 62) w dX11_parseSource_61 rfl rfl ?_
    refine s_iconst (pc2 := 63) (v := gI 1) w dX11_parseSource_62 rfl rfl ?_
    refine s_bipush (pc2 := 65) (v := gI 10) w dX11_parseSource_63 rfl rfl ?_
    refine r_X11_parseNumber (pc2 := 68) (lo := 1) (hi := 10) w dX11_parseSource_65 rfl rfl rfl hp0 g4 rfl rfl ⟨by decide, by decide⟩ ⟨by decide, by decide⟩ (fun v4 x5 y5 h5 w4 => ?_)
    have g5 : RP B t x0 y0 (pS5 B t Q) x5 y5 := h5
    refine s_istore (pc2 := 70) w dX11_parseSource_68 rfl rfl ?_
    dsimp only [gk_s1, gk_s2, gk_cl]
    refine s_aload_n (pc2 := 71) w dX11_parseSource_70 rfl rfl ?_
    refine m_getI (pc2 := 74) (ci := 10) (k := 17) w dX11_parseSource_71 rfl rfl rfl rfl rfl ?_
    rw [g5.2.2.2.1]
    refine s_if_ne (pc2 := 77) (tgt := 89) w dX11_parseSource_74 rfl (by decide) (fun c74 => ?_) (fun c74 => ?_)
    · refine s_iconst (pc2 := 90) (v := gI 0) w dX11_parseSource_89 rfl rfl ?_
      refine s_istore (pc2 := 92) w dX11_parseSource_90 rfl rfl ?_
      dsimp only [gk_s1, gk_s2, gk_cl]
      refine s_iconst (pc2 := 93) (v := gI 1) w dX11_parseSource_92 rfl rfl ?_
      refine s_istore (pc2 := 95) w dX11_parseSource_93 rfl rfl ?_
      dsimp only [gk_s1, gk_s2, gk_cl]
      refine s_iconst (pc2 := 96) (v := gI 0) w dX11_parseSource_95 rfl rfl ?_
      refine s_istore (pc2 := 98) w dX11_parseSource_96 rfl rfl ?_
      dsimp only [gk_s1, gk_s2, gk_cl]
      have n5 : ¬ (pS5 B t Q).2.1 = 0 := fun h => c74 ((e_0 g5.2.2.2.2.1).mpr h)
      have e6 : pS6 B t Q = pS5 B t Q := pG_e n5
      exact key 16 0 (pS6 B t Q) _ _ _ _ _ _ _ x5 y5 (by omega) rfl (by rw [e6]; exact g5) (fun h => absurd h (by rw [e6]; exact n5))
    · have e5 : (pS5 B t Q).2.1 = 0 := (e_0 g5.2.2.2.2.1).mp c74
      obtain ⟨⟨e1, e2, e3, e4⟩, hroom, hg, -⟩ := pS_0 nv4 e5
      obtain rfl := w1 e2
      obtain rfl := w2 e3
      obtain rfl := w3 e4
      obtain rfl := w4 e5
      have hgn : (pS5 B t Q).2.2 7 = nI (nS (pS5 B t Q).2.2) := by rw [hg]; exact gn_7 hp3.1
      refine s_aload_n (pc2 := 78) w dX11_parseSource_77 rfl rfl ?_
      refine s_iload_n (pc2 := 79) w dX11_parseSource_78 rfl rfl ?_
      refine s_iload_n (pc2 := 80) w dX11_parseSource_79 rfl rfl ?_
      refine s_iload_n (pc2 := 81) w dX11_parseSource_80 rfl rfl ?_
      refine s_iload (pc2 := 83) w dX11_parseSource_81 rfl rfl ?_
      refine r_X11_appendSource (pc2 := 86) w dX11_parseSource_83 rfl rfl rfl (g5.2.2.2.2.2.1 e5).2 hgn (by rw [hg]; exact hroom) (fun x9 u1 u2 => ?_)
      refine s_goto (tgt := 90) w dX11_parseSource_86 (by decide) ?_
      refine s_istore (pc2 := 92) w dX11_parseSource_90 rfl rfl ?_
      dsimp only [gk_s1, gk_s2, gk_cl]
      refine s_iconst (pc2 := 93) (v := gI 1) w dX11_parseSource_92 rfl rfl ?_
      refine s_istore (pc2 := 95) w dX11_parseSource_93 rfl rfl ?_
      dsimp only [gk_s1, gk_s2, gk_cl]
      refine s_iconst (pc2 := 96) (v := gI 0) w dX11_parseSource_95 rfl rfl ?_
      refine s_istore (pc2 := 98) w dX11_parseSource_96 rfl rfl ?_
      dsimp only [gk_s1, gk_s2, gk_cl]
      have e6 := pS6_1 e5
      exact key 16 0 (pS6 B t Q) _ _ _ _ _ _ _ x9 y5 (by omega) rfl (by rw [e6]; exact g5.put e5 u1 u2) (fun _ => ⟨by rw [hg], hroom, by rw [e6, hg]; exact gAS0_4⟩)
theorem lk_X11_parseSource {l : Launch} (hl : l.stackTraces = false) : ∀ q ∈ L_X11_parseSource, (q.2.1 < 5 → gk_Lk l RX11 gk_W1 6 q.1 q.2.1 q.2.2.1 q.2.2.2.1 q.2.2.2.2.1 q.2.2.2.2.2) := (List.forall_mem_cons.mpr ⟨(fun _ => ⟨yX11_appendSource, cX11_appendSource, 6, (some .int), 0, _, M_X11_appendSource hl, ⟨by decide, by decide⟩, ⟨by decide, by decide, by decide +kernel⟩, ⟨(gk_wm 1386 (by decide +kernel)), (gk_wm 99 (by decide +kernel))⟩, Or.inr (Or.inr (Or.inr (Or.inl ⟨rfl, rfl, (gk_wm 1385 (by decide +kernel)), (gk_wm 35 (by decide +kernel)), gk_wm 1383 (by decide +kernel), by decide, rfl⟩)))⟩), (List.forall_mem_cons.mpr ⟨(fun _ => ⟨yX11_appendValue, cX11_appendValue, 4, (some .int), 0, _, M_X11_appendValue hl, ⟨by decide, by decide⟩, ⟨by decide, by decide, by decide +kernel⟩, ⟨(gk_wm 1390 (by decide +kernel)), (gk_wm 99 (by decide +kernel))⟩, Or.inr (Or.inr (Or.inr (Or.inl ⟨rfl, rfl, (gk_wm 1389 (by decide +kernel)), (gk_wm 36 (by decide +kernel)), gk_wm 1387 (by decide +kernel), by decide, rfl⟩)))⟩), (List.forall_mem_cons.mpr ⟨(fun _ => ⟨yX11_require, cX11_require, 3, none, 0, _, M_X11_require hl, ⟨by decide, by decide⟩, ⟨by decide, by decide, by decide +kernel⟩, ⟨(gk_wm 1757 (by decide +kernel)), (gk_wm 99 (by decide +kernel))⟩, Or.inr (Or.inr (Or.inr (Or.inl ⟨rfl, rfl, (gk_wm 1756 (by decide +kernel)), (gk_wm 82 (by decide +kernel)), gk_wm 1754 (by decide +kernel), by decide, rfl⟩)))⟩), (List.forall_mem_cons.mpr ⟨(fun _ => ⟨yX11_advance, cX11_advance, 1, none, 3, _, M_X11_advance hl, ⟨by decide, by decide⟩, ⟨by decide, by decide, by decide +kernel⟩, ⟨(gk_wm 1761 (by decide +kernel)), (gk_wm 99 (by decide +kernel))⟩, Or.inr (Or.inr (Or.inr (Or.inl ⟨rfl, rfl, (gk_wm 1760 (by decide +kernel)), (gk_wm 83 (by decide +kernel)), gk_wm 1758 (by decide +kernel), by decide, rfl⟩)))⟩), (List.forall_mem_cons.mpr ⟨(fun _ => ⟨yX11_parseNumber, cX11_parseNumber, 4, (some .int), 4, _, M_X11_parseNumber hl, ⟨by decide, by decide⟩, ⟨by decide, by decide, by decide +kernel⟩, ⟨(gk_wm 1769 (by decide +kernel)), (gk_wm 99 (by decide +kernel))⟩, Or.inr (Or.inr (Or.inr (Or.inl ⟨rfl, rfl, (gk_wm 1768 (by decide +kernel)), (gk_wm 85 (by decide +kernel)), gk_wm 1766 (by decide +kernel), by decide, rfl⟩)))⟩), (List.forall_mem_cons.mpr ⟨(fun _ => ⟨yX11_parseInteger, cX11_parseInteger, 4, (some .int), 5, _, M_X11_parseInteger hl, ⟨by decide, by decide⟩, ⟨by decide, by decide, by decide +kernel⟩, ⟨(gk_wm 1765 (by decide +kernel)), (gk_wm 99 (by decide +kernel))⟩, Or.inr (Or.inr (Or.inr (Or.inl ⟨rfl, rfl, (gk_wm 1764 (by decide +kernel)), (gk_wm 84 (by decide +kernel)), gk_wm 1762 (by decide +kernel), by decide, rfl⟩)))⟩), (fun _ h => absurd h List.not_mem_nil)⟩)⟩)⟩)⟩)⟩)⟩)
theorem sp_X11_parseSource : ∀ q ∈ L_X11_parseSource, gk_Sq RX11 gk_W1 6 q := (List.forall_mem_cons.mpr ⟨⟨fun h => absurd h (by decide), fun h => absurd h (by decide), fun h => absurd h (by decide), fun h => absurd h (by decide), fun h => absurd h (by decide), fun h => absurd h (by decide)⟩, (List.forall_mem_cons.mpr ⟨⟨fun h => absurd h (by decide), fun h => absurd h (by decide), fun h => absurd h (by decide), fun h => absurd h (by decide), fun h => absurd h (by decide), fun h => absurd h (by decide)⟩, (List.forall_mem_cons.mpr ⟨⟨fun h => absurd h (by decide), fun h => absurd h (by decide), fun h => absurd h (by decide), fun h => absurd h (by decide), fun h => absurd h (by decide), fun h => absurd h (by decide)⟩, (List.forall_mem_cons.mpr ⟨⟨fun h => absurd h (by decide), fun h => absurd h (by decide), fun h => absurd h (by decide), fun h => absurd h (by decide), fun h => absurd h (by decide), fun h => absurd h (by decide)⟩, (List.forall_mem_cons.mpr ⟨⟨fun h => absurd h (by decide), fun h => absurd h (by decide), fun h => absurd h (by decide), fun h => absurd h (by decide), fun h => absurd h (by decide), fun h => absurd h (by decide)⟩, (List.forall_mem_cons.mpr ⟨⟨fun h => absurd h (by decide), fun h => absurd h (by decide), fun h => absurd h (by decide), fun h => absurd h (by decide), fun h => absurd h (by decide), fun h => absurd h (by decide)⟩, (fun _ h => absurd h List.not_mem_nil)⟩)⟩)⟩)⟩)⟩)⟩)
theorem M_X11_parseSource {l : Launch} (hl : l.stackTraces = false) : gk_Mt l yX11_parseSource (.code yX11_parseSource cX11_parseSource 10 none :: gk_W1) 6 0 S_X11_parseSource := gk_meth hl gk_cw_ok (by decide +kernel) rfl m_X11_parseSource pX11_ok (gk_Sp_of sp_X11_parseSource) pX11_st (fun ci m S h => absurd h (by intro h; cases h)) (xf_X11 6) (fun idx kd ci mm cost S2 h h5 => lk_X11_parseSource hl _ (gk_lk_mem h) h5)

end GKV

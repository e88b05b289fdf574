/-! THE TEXT, 12: right statements; the class reads microphones and vehicles -/
section GKV
variable {c : ByteArray} {P : gk_C} {cs : Nat → Option gk_M0} {rt : Option FieldType} {uf : Nat} {sc : Option Nat} {K : gk_K} {V : gk_V}
variable {L : List (Option Value)} {r : List Value} {n : Nat} {fl : gk_F} {x : gk_X} {y : gk_Y} {u pc pc2 : Nat}
theorem pM1_0 {c : Nat → Int32} {t : Nat} {Q : gk_P} (h : (pM1 c t Q).2.1 = 0) : Q.2.1 = 0 ∧ nM Q.2.2 < 8 ∧ (pM1 c t Q).2.2 = Q.2.2 := by
  obtain ⟨h1, h2⟩ := pA_0 h
  obtain ⟨h3, h4, h5⟩ := pQ_0 n3_0 h1
  exact ⟨h3, of_decide_eq_true h4, h2.trans (by rw [h5])⟩
theorem pV1_0 {c : Nat → Int32} {t : Nat} {Q : gk_P} (h : (pV1 c t Q).2.1 = 0) : Q.2.1 = 0 ∧ nV Q.2.2 < 4 ∧ (pV1 c t Q).2.2 = Q.2.2 := by
  obtain ⟨h1, h2⟩ := pA_0 h
  obtain ⟨h3, h4, h5⟩ := pQ_0 n3_0 h1
  exact ⟨h3, of_decide_eq_true h4, h2.trans (by rw [h5])⟩
theorem pS1_0 {c : Nat → Int32} {t : Nat} {Q : gk_P} (h : (pS1 c t Q).2.1 = 0) : Q.2.1 = 0 ∧ nS Q.2.2 < 6 ∧ (pS1 c t Q).2.2 = Q.2.2 := by
  obtain ⟨h1, h2⟩ := pA_0 h
  obtain ⟨h3, h4, h5⟩ := pQ_0 n3_0 h1
  exact ⟨h3, of_decide_eq_true h4, h2.trans (by rw [h5])⟩
theorem pM_0 {c : Nat → Int32} {t : Nat} {Q : gk_P} (h : (pM5 c t Q).2.1 = 0) : ((pM1 c t Q).2.1 = 0 ∧ (pM2 c t Q).2.1 = 0 ∧ (pM3 c t Q).2.1 = 0 ∧ (pM4 c t Q).2.1 = 0) ∧ nM Q.2.2 < 8 ∧ (pM5 c t Q).2.2 = Q.2.2 ∧ (gI (-5000) ≤ vI c t (pM1 c t Q) ∧ vI c t (pM1 c t Q) ≤ gI 5000) ∧ (gI (-100) ≤ vI c t (pM2 c t Q) ∧ vI c t (pM2 c t Q) ≤ gI 99) ∧ (gI 0 ≤ vN c t (pM3 c t Q) ∧ vN c t (pM3 c t Q) ≤ gI 500) ∧ (gI 0 ≤ vN c t (pM4 c t Q) ∧ vN c t (pM4 c t Q) ≤ gI 9) := by
  obtain ⟨a4, b4, c4⟩ := pN_0 ⟨by decide, by decide⟩ ⟨by decide, by decide⟩ h
  obtain ⟨a3, b3, c3⟩ := pN_0 ⟨by decide, by decide⟩ ⟨by decide, by decide⟩ a4
  obtain ⟨a2, b2, c2⟩ := pI_0 ⟨by decide, by decide⟩ ⟨by decide, by decide⟩ a3
  obtain ⟨a1, b1, c1⟩ := pI_0 ⟨by decide, by decide⟩ ⟨by decide, by decide⟩ a2
  obtain ⟨a0, b0, c0⟩ := pM1_0 a1
  exact ⟨⟨a1, a2, a3, a4⟩, b0, c4.trans (c3.trans (c2.trans (c1.trans c0))), b1, b2, b3, b4⟩
theorem pMic_ok {c : Nat → Int32} {t : Nat} {Q : gk_P} (hQ : gOK Q.2.2) (h : (pM5 c t Q).2.1 = 0) : gOK (gAM (pM5 c t Q).2.2 (nM (pM5 c t Q).2.2) (vI c t (pM1 c t Q)) (vI c t (pM2 c t Q)) (vN c t (pM3 c t Q)) (vN c t (pM4 c t Q))) := by
  obtain ⟨-, h8, hg, h1, h2, h3, h4⟩ := pM_0 h
  rw [hg]
  exact gOK_AM hQ h8 h1 h2 h3 h4
theorem pV_0 {c : Nat → Int32} {t : Nat} {Q : gk_P} (h : (pV4 c t Q).2.1 = 0) : ((pV1 c t Q).2.1 = 0 ∧ (pV2 c t Q).2.1 = 0 ∧ (pV3 c t Q).2.1 = 0) ∧ nV Q.2.2 < 4 ∧ (pV4 c t Q).2.2 = Q.2.2 ∧ (gI (-20000) ≤ vI c t (pV1 c t Q) ∧ vI c t (pV1 c t Q) ≤ gI 20000) ∧ (gI (-50) ≤ vI c t (pV2 c t Q) ∧ vI c t (pV2 c t Q) ≤ gI 50) ∧ (gI 100 ≤ vI c t (pV3 c t Q) ∧ vI c t (pV3 c t Q) ≤ gI 5000) := by
  obtain ⟨a3, b3, c3⟩ := pI_0 ⟨by decide, by decide⟩ ⟨by decide, by decide⟩ h
  obtain ⟨a2, b2, c2⟩ := pI_0 ⟨by decide, by decide⟩ ⟨by decide, by decide⟩ a3
  obtain ⟨a1, b1, c1⟩ := pI_0 ⟨by decide, by decide⟩ ⟨by decide, by decide⟩ a2
  obtain ⟨a0, b0, c0⟩ := pV1_0 a1
  exact ⟨⟨a1, a2, a3⟩, b0, c3.trans (c2.trans (c1.trans c0)), b1, b2, b3⟩
theorem pVeh_ok {c : Nat → Int32} {t : Nat} {Q : gk_P} (hQ : gOK Q.2.2) (h : (pV4 c t Q).2.1 = 0) : gOK (gAV (pV4 c t Q).2.2 (nV (pV4 c t Q).2.2) (vI c t (pV1 c t Q)) (vI c t (pV2 c t Q)) (vI c t (pV3 c t Q))) := by
  obtain ⟨-, h8, hg, h1, h2, h3⟩ := pV_0 h
  rw [hg]
  exact gOK_AV hQ h8 h1 h2 h3
theorem CP.put {c : Nat → Int32} {t m : Nat} {x0 : gk_X} {Q : gk_P} {x x2 : gk_X} {y : gk_Y} {g : Nat → Int32} (h : CP c t m x0 Q x y) (h0 : Q.2.1 = 0) (h1 : RS 44 g x2 y) (h2 : gOK g) (h3 : ∀ i k, ¬ (44 ≤ i ∧ i < 44 + 43) → x2 i k = x i k) : CP c t m x0 (Q.1, 0, g) x2 y := by
  obtain ⟨a1, a2, a3, a4, a5, a6, a7, a8⟩ := h
  refine ⟨fun i k b1 b2 => (h3 i k (by omega)).trans (a1 i k b1 b2), ⟨(h3 98 3 (by omega)).trans a2.1, fun j hj => ?_⟩, (h3 97 3 (by omega)).trans a3, (h3 97 0 (by omega)).trans (a4.trans (by rw [h0])), (h3 97 1 (by omega)).trans a5, a6, Nat.zero_le 3, fun _ => ⟨h1, h2⟩⟩
  rw [h3 99 j (by omega), h3 100 j (by omega), h3 101 j (by omega)]
  exact a2.2 j hj
theorem gn_6 {g : Nat → Int32} (h : gWf g) : g 6 = nI (nV g) := by
  obtain ⟨nv4, ns6, nm8, z6, z7, z8⟩ := wf_n h
  rw [← gI_self (g 6)]
  exact congrArg gI z6
theorem gn_7 {g : Nat → Int32} (h : gWf g) : g 7 = nI (nS g) := by
  obtain ⟨nv4, ns6, nm8, z6, z7, z8⟩ := wf_n h
  rw [← gI_self (g 7)]
  exact congrArg gI z7
theorem gn_8 {g : Nat → Int32} (h : gWf g) : g 8 = nI (nM g) := by
  obtain ⟨nv4, ns6, nm8, z6, z7, z8⟩ := wf_n h
  rw [← gI_self (g 8)]
  exact congrArg gI z8
theorem pMic_e5 {c : Nat → Int32} {t : Nat} {Q : gk_P} (h : ¬ (pM5 c t Q).2.1 = 0) : pMic c t Q = pM5 c t Q := pG_e h
theorem pMic_e4 {c : Nat → Int32} {t : Nat} {Q : gk_P} (h : ¬ (pM4 c t Q).2.1 = 0) : pMic c t Q = pM4 c t Q := by
  have e : pM5 c t Q = pM4 c t Q := pN_e h
  rw [pMic_e5 (by rw [e]; exact h), e]
theorem pMic_e3 {c : Nat → Int32} {t : Nat} {Q : gk_P} (h : ¬ (pM3 c t Q).2.1 = 0) : pMic c t Q = pM3 c t Q := by
  have e : pM4 c t Q = pM3 c t Q := pN_e h
  rw [pMic_e4 (by rw [e]; exact h), e]
theorem pMic_e2 {c : Nat → Int32} {t : Nat} {Q : gk_P} (h : ¬ (pM2 c t Q).2.1 = 0) : pMic c t Q = pM2 c t Q := by
  have e : pM3 c t Q = pM2 c t Q := pI_e h
  rw [pMic_e3 (by rw [e]; exact h), e]
theorem pMic_e1 {c : Nat → Int32} {t : Nat} {Q : gk_P} (h : ¬ (pM1 c t Q).2.1 = 0) : pMic c t Q = pM1 c t Q := by
  have e : pM2 c t Q = pM1 c t Q := pI_e h
  rw [pMic_e2 (by rw [e]; exact h), e]
theorem pVeh_e4 {c : Nat → Int32} {t : Nat} {Q : gk_P} (h : ¬ (pV4 c t Q).2.1 = 0) : pVeh c t Q = pV4 c t Q := pG_e h
theorem pVeh_e3 {c : Nat → Int32} {t : Nat} {Q : gk_P} (h : ¬ (pV3 c t Q).2.1 = 0) : pVeh c t Q = pV3 c t Q := by
  have e : pV4 c t Q = pV3 c t Q := pI_e h
  rw [pVeh_e4 (by rw [e]; exact h), e]
theorem pVeh_e2 {c : Nat → Int32} {t : Nat} {Q : gk_P} (h : ¬ (pV2 c t Q).2.1 = 0) : pVeh c t Q = pV2 c t Q := by
  have e : pV3 c t Q = pV2 c t Q := pI_e h
  rw [pVeh_e3 (by rw [e]; exact h), e]
theorem pVeh_e1 {c : Nat → Int32} {t : Nat} {Q : gk_P} (h : ¬ (pV1 c t Q).2.1 = 0) : pVeh c t Q = pV1 c t Q := by
  have e : pV2 c t Q = pV1 c t Q := pI_e h
  rw [pVeh_e2 (by rw [e]; exact h), e]
def S_X5_readMicrophone : gk_S := fun as n fl x y K => ∃ (B : Nat → Int32) (t : Nat) (m : Nat) (x0 : gk_X) (Q : gk_P), as = [.ref 97, .ref 44] ∧ (n = 202 ∧ fl = gk_fT) ∧ (CH B t m) ∧ (CP B t m x0 Q x y) ∧ (Q.2.1 = 0) ∧ (KK B t Q.1 = 5) ∧ (x 97 5 = nI 0) ∧ (∀ x2 : gk_X, CP B t m x0 (pMic B t Q) x2 y → K (.inl (some (.int (eB (pMic B t Q))))) n fl x2 y)
theorem r_X5_readMicrophone (w : gk_W c P cs (fun _ _ => none) rt uf sc K V) {idx : Nat} {B : Nat → Int32} {t : Nat} {m : Nat} {x0 : gk_X} {Q : gk_P} (hd : decode c pc = .ok (.invokevirtual idx, 3)) (hp : pc + 3 = pc2) (hc : cs idx = some (1, 5, 2, 0, S_X5_readMicrophone)) (h8 : Nat.ble (r.map Value.category).sum 8 = true) (hp0 : CH B t m) (hp1 : CP B t m x0 Q x y) (hp2 : Q.2.1 = 0) (hp3 : KK B t Q.1 = 5) (hp4 : x 97 5 = nI 0) (kk0 : ∀ x2 : gk_X, CP B t m x0 (pMic B t Q) x2 y → V pc2 L ((.int (eB (pMic B t Q))) :: r) 202 gk_fT x2 y u) : V pc L (.ref 44 :: .ref 97 :: r) 202 gk_fT x y u :=
  g_callv w hd hp hc (as := [.ref 97, .ref 44]) rfl h8 rfl rfl rfl (Or.inr (Or.inl ⟨Or.inl rfl, _, _, rfl, (gk_kd_j rfl rfl), rfl⟩)) (Or.inl rfl) ⟨B, t, m, x0, Q, rfl, ⟨rfl, rfl⟩, hp0, hp1, hp2, hp3, hp4, kk0⟩
def L_X5_readMicrophone : List (Nat × gk_M0) := [(76, (1, 5, 3, 0, S_X5_readNumber)), (83, (1, 5, 3, 0, S_X5_readInteger)), (99, (1, 5, 3, 0, S_X5_readWord)), (102, (1, 4, 5, 0, S_X4_putMicrophone))]
def cs_X5_readMicrophone : Nat → Option gk_M0 := gk_lk L_X5_readMicrophone
theorem m_X5_readMicrophone : ∀ (as : List Value) (n : Nat) (fl : gk_F) (x : gk_X) (y : gk_Y) (K : gk_K), S_X5_readMicrophone as n fl x y K → (gk_L0 as).length ≤ 3 ∧ ∀ V : gk_V, gk_W cX5_readMicrophone pX5 cs_X5_readMicrophone (fun _ _ => none) (some .boolean) 0 none K V → V 0 (gk_en as 3) [] n fl x y 0 := by
  intro as n fl x y K hS
  obtain ⟨B, t, m, x0, Q, rfl, ⟨rfl, rfl⟩, hp0, hp1, hp2, hp3, hp4, q0⟩ := hS
  refine ⟨Nat.le_of_ble_eq_true rfl, fun V w => ?_⟩
  show V 0 [some (.ref 97), some (.ref 44), none] [] 202 gk_fT x y 0
  obtain ⟨hs, hok⟩ := hp1.2.2.2.2.2.2.2 hp2
  obtain ⟨nv4, ns6, nm8, z6, z7, z8⟩ := wf_n hok.1
  have hcn : x 44 6 = nI (nM Q.2.2) := hs.1.1.2.2.trans (gn_8 hok.1)
  refine s_aload_n (pc2 := 1) w dX5_readMicrophone_0 rfl rfl ?_
  refine s_aload_n (pc2 := 2) w dX5_readMicrophone_1 rfl rfl ?_
  refine m_getI (pc2 := 5) (ci := 4) (k := 6) w dX5_readMicrophone_2 rfl rfl rfl rfl rfl ?_
  rw [hcn]
  refine s_bipush (pc2 := 7) (v := gI 8) w dX5_readMicrophone_5 rfl rfl ?_
  refine r_X5_readWord (pc2 := 10) (a := nM Q.2.2) (b := 8) w dX5_readMicrophone_7 rfl rfl rfl hp0 hp1 hp2 (by rw [hp3]; decide) rfl rfl (by omega) (by decide) (fun x1 h1 u1 w1 => ?_)
  have g1 : CP B t m x0 (pM1 B t Q) x1 y := h1
  have a1 : AR (fun _ => 0) 0 x1 := ⟨u1.trans hp4, fun k hk => absurd hk (Nat.not_lt_zero k)⟩
  refine s_if_eq (pc2 := 13) (tgt := 62) w dX5_readMicrophone_10 rfl (by decide) (fun c10 => ?_) (fun c10 => ?_)
  · refine s_iconst (pc2 := 63) (v := gI 0) w dX5_readMicrophone_62 rfl rfl ?_
    refine s_istore_n (pc2 := 64) (k2 := 2) w dX5_readMicrophone_63 rfl rfl rfl ?_
    dsimp only [gk_s1, gk_s2, gk_cl]
    refine s_iload_n (pc2 := 65) w dX5_readMicrophone_64 rfl rfl ?_
    refine s_if_eq (pc2 := 68) (tgt := 97) w dX5_readMicrophone_65 rfl (by decide) (fun _ => ?_) (fun h0 => absurd (rfl) h0)
    refine s_iload_n (pc2 := 98) w dX5_readMicrophone_97 rfl rfl ?_
    refine s_ireturn w dX5_readMicrophone_98 rfl (by first | rfl | decide) ?_
    have n9 : ¬ (pM1 B t Q).2.1 = 0 := (eB_0 _).mp c10
    rw [pMic_e1 n9, eB_2 n9] at q0
    exact q0 _ g1
  · have e1 : (pM1 B t Q).2.1 = 0 := Decidable.byContradiction (fun h => c10 ((eB_0 _).mpr h))
    refine s_aload_n (pc2 := 14) w dX5_readMicrophone_13 rfl rfl ?_
    refine s_sipush (pc2 := 17) (v := gI (-5000)) w dX5_readMicrophone_14 rfl rfl ?_
    refine s_sipush (pc2 := 20) (v := gI 5000) w dX5_readMicrophone_17 rfl rfl ?_
    refine r_X5_readInteger (pc2 := 23) (lo := -5000) (hi := 5000) w dX5_readMicrophone_20 rfl rfl rfl hp0 g1 e1 a1 (by decide) rfl rfl ⟨by decide, by decide⟩ ⟨by decide, by decide⟩ (fun x2 h2 w2 => ?_)
    have g2 : CP B t m x0 (pM2 B t Q) x2 y := h2
    refine s_if_eq (pc2 := 26) (tgt := 62) w dX5_readMicrophone_23 rfl (by decide) (fun c23 => ?_) (fun c23 => ?_)
    · refine s_iconst (pc2 := 63) (v := gI 0) w dX5_readMicrophone_62 rfl rfl ?_
      refine s_istore_n (pc2 := 64) (k2 := 2) w dX5_readMicrophone_63 rfl rfl rfl ?_
      dsimp only [gk_s1, gk_s2, gk_cl]
      refine s_iload_n (pc2 := 65) w dX5_readMicrophone_64 rfl rfl ?_
      refine s_if_eq (pc2 := 68) (tgt := 97) w dX5_readMicrophone_65 rfl (by decide) (fun _ => ?_) (fun h0 => absurd (rfl) h0)
      refine s_iload_n (pc2 := 98) w dX5_readMicrophone_97 rfl rfl ?_
      refine s_ireturn w dX5_readMicrophone_98 rfl (by first | rfl | decide) ?_
      have n9 : ¬ (pM2 B t Q).2.1 = 0 := (eB_0 _).mp c23
      rw [pMic_e2 n9, eB_2 n9] at q0
      exact q0 _ g2
    · have e2 : (pM2 B t Q).2.1 = 0 := Decidable.byContradiction (fun h => c23 ((eB_0 _).mpr h))
      have a2 := w2 e2
      refine s_aload_n (pc2 := 27) w dX5_readMicrophone_26 rfl rfl ?_
      refine s_bipush (pc2 := 29) (v := gI (-100)) w dX5_readMicrophone_27 rfl rfl ?_
      refine s_bipush (pc2 := 31) (v := gI 99) w dX5_readMicrophone_29 rfl rfl ?_
      refine r_X5_readInteger (pc2 := 34) (lo := -100) (hi := 99) w dX5_readMicrophone_31 rfl rfl rfl hp0 g2 e2 a2 (by decide) rfl rfl ⟨by decide, by decide⟩ ⟨by decide, by decide⟩ (fun x3 h3 w3 => ?_)
      have g3 : CP B t m x0 (pM3 B t Q) x3 y := h3
      refine s_if_eq (pc2 := 37) (tgt := 62) w dX5_readMicrophone_34 rfl (by decide) (fun c34 => ?_) (fun c34 => ?_)
      · refine s_iconst (pc2 := 63) (v := gI 0) w dX5_readMicrophone_62 rfl rfl ?_
        refine s_istore_n (pc2 := 64) (k2 := 2) w dX5_readMicrophone_63 rfl rfl rfl ?_
        dsimp only [gk_s1, gk_s2, gk_cl]
        refine s_iload_n (pc2 := 65) w dX5_readMicrophone_64 rfl rfl ?_
        refine s_if_eq (pc2 := 68) (tgt := 97) w dX5_readMicrophone_65 rfl (by decide) (fun _ => ?_) (fun h0 => absurd (rfl) h0)
        refine s_iload_n (pc2 := 98) w dX5_readMicrophone_97 rfl rfl ?_
        refine s_ireturn w dX5_readMicrophone_98 rfl (by first | rfl | decide) ?_
        have n9 : ¬ (pM3 B t Q).2.1 = 0 := (eB_0 _).mp c34
        rw [pMic_e3 n9, eB_2 n9] at q0
        exact q0 _ g3
      · have e3 : (pM3 B t Q).2.1 = 0 := Decidable.byContradiction (fun h => c34 ((eB_0 _).mpr h))
        have a3 := w3 e3
        refine s_aload_n (pc2 := 38) w dX5_readMicrophone_37 rfl rfl ?_
        refine s_iconst (pc2 := 39) (v := gI 0) w dX5_readMicrophone_38 rfl rfl ?_
        refine s_sipush (pc2 := 42) (v := gI 500) w dX5_readMicrophone_39 rfl rfl ?_
        refine r_X5_readNumber (pc2 := 45) (lo := 0) (hi := 500) w dX5_readMicrophone_42 rfl rfl rfl hp0 g3 e3 a3 (by decide) rfl rfl ⟨by decide, by decide⟩ ⟨by decide, by decide⟩ (fun x4 h4 w4 => ?_)
        have g4 : CP B t m x0 (pM4 B t Q) x4 y := h4
        refine s_if_eq (pc2 := 48) (tgt := 62) w dX5_readMicrophone_45 rfl (by decide) (fun c45 => ?_) (fun c45 => ?_)
        · refine s_iconst (pc2 := 63) (v := gI 0) w dX5_readMicrophone_62 rfl rfl ?_
          refine s_istore_n (pc2 := 64) (k2 := 2) w dX5_readMicrophone_63 rfl rfl rfl ?_
          dsimp only [gk_s1, gk_s2, gk_cl]
          refine s_iload_n (pc2 := 65) w dX5_readMicrophone_64 rfl rfl ?_
          refine s_if_eq (pc2 := 68) (tgt := 97) w dX5_readMicrophone_65 rfl (by decide) (fun _ => ?_) (fun h0 => absurd (rfl) h0)
          refine s_iload_n (pc2 := 98) w dX5_readMicrophone_97 rfl rfl ?_
          refine s_ireturn w dX5_readMicrophone_98 rfl (by first | rfl | decide) ?_
          have n9 : ¬ (pM4 B t Q).2.1 = 0 := (eB_0 _).mp c45
          rw [pMic_e4 n9, eB_2 n9] at q0
          exact q0 _ g4
        · have e4 : (pM4 B t Q).2.1 = 0 := Decidable.byContradiction (fun h => c45 ((eB_0 _).mpr h))
          have a4 := w4 e4
          refine s_aload_n (pc2 := 49) w dX5_readMicrophone_48 rfl rfl ?_
          refine s_iconst (pc2 := 50) (v := gI 0) w dX5_readMicrophone_49 rfl rfl ?_
          refine s_bipush (pc2 := 52) (v := gI 9) w dX5_readMicrophone_50 rfl rfl ?_
          refine r_X5_readNumber (pc2 := 55) (lo := 0) (hi := 9) w dX5_readMicrophone_52 rfl rfl rfl hp0 g4 e4 a4 (by decide) rfl rfl ⟨by decide, by decide⟩ ⟨by decide, by decide⟩ (fun x5 h5 w5 => ?_)
          have g5 : CP B t m x0 (pM5 B t Q) x5 y := h5
          refine s_if_eq (pc2 := 58) (tgt := 62) w dX5_readMicrophone_55 rfl (by decide) (fun c55 => ?_) (fun c55 => ?_)
          · refine s_iconst (pc2 := 63) (v := gI 0) w dX5_readMicrophone_62 rfl rfl ?_
            refine s_istore_n (pc2 := 64) (k2 := 2) w dX5_readMicrophone_63 rfl rfl rfl ?_
            dsimp only [gk_s1, gk_s2, gk_cl]
            refine s_iload_n (pc2 := 65) w dX5_readMicrophone_64 rfl rfl ?_
            refine s_if_eq (pc2 := 68) (tgt := 97) w dX5_readMicrophone_65 rfl (by decide) (fun _ => ?_) (fun h0 => absurd (rfl) h0)
            refine s_iload_n (pc2 := 98) w dX5_readMicrophone_97 rfl rfl ?_
            refine s_ireturn w dX5_readMicrophone_98 rfl (by first | rfl | decide) ?_
            have n9 : ¬ (pM5 B t Q).2.1 = 0 := (eB_0 _).mp c55
            rw [pMic_e5 n9, eB_2 n9] at q0
            exact q0 _ g5
          · have e5 : (pM5 B t Q).2.1 = 0 := Decidable.byContradiction (fun h => c55 ((eB_0 _).mpr h))
            have a5 := w5 e5
            obtain ⟨s1, s2⟩ := g5.2.2.2.2.2.2.2 e5
            have hroom := (pM_0 e5).2.1
            have hg := (pM_0 e5).2.2.1
            refine s_iconst (pc2 := 59) (v := gI 1) w dX5_readMicrophone_58 rfl rfl ?_
            refine s_goto (tgt := 63) w dX5_readMicrophone_59 (by decide) ?_
            refine s_istore_n (pc2 := 64) (k2 := 2) w dX5_readMicrophone_63 rfl rfl rfl ?_
            dsimp only [gk_s1, gk_s2, gk_cl]
            refine s_iload_n (pc2 := 65) w dX5_readMicrophone_64 rfl rfl ?_
            refine s_if_eq (pc2 := 68) (tgt := 97) w dX5_readMicrophone_65 rfl (by decide) (fun h0 => absurd h0 (by decide)) (fun _ => ?_)
            refine s_aload_n (pc2 := 69) w dX5_readMicrophone_68 rfl rfl ?_
            refine s_aload_n (pc2 := 70) w dX5_readMicrophone_69 rfl rfl ?_
            refine m_getR (pc2 := 73) (ci := 5) (k := 4) (j2 := 102) w dX5_readMicrophone_70 rfl rfl rfl rfl rfl rfl ?_
            refine s_iconst (pc2 := 74) (v := gI 0) w dX5_readMicrophone_73 rfl rfl ?_
            refine m_ialoadN (pc2 := 75) (t := 0) (N := 20) w dX5_readMicrophone_74 rfl rfl rfl rfl (by decide) rfl ?_
            rw [show x5 102 0 = vI B t (pM1 B t Q) from a5.2 0 (by decide)]
            refine s_aload_n (pc2 := 76) w dX5_readMicrophone_75 rfl rfl ?_
            refine m_getR (pc2 := 79) (ci := 5) (k := 4) (j2 := 102) w dX5_readMicrophone_76 rfl rfl rfl rfl rfl rfl ?_
            refine s_iconst (pc2 := 80) (v := gI 1) w dX5_readMicrophone_79 rfl rfl ?_
            refine m_ialoadN (pc2 := 81) (t := 1) (N := 20) w dX5_readMicrophone_80 rfl rfl rfl rfl (by decide) rfl ?_
            rw [show x5 102 1 = vI B t (pM2 B t Q) from a5.2 1 (by decide)]
            refine s_aload_n (pc2 := 82) w dX5_readMicrophone_81 rfl rfl ?_
            refine m_getR (pc2 := 85) (ci := 5) (k := 4) (j2 := 102) w dX5_readMicrophone_82 rfl rfl rfl rfl rfl rfl ?_
            refine s_iconst (pc2 := 86) (v := gI 2) w dX5_readMicrophone_85 rfl rfl ?_
            refine m_ialoadN (pc2 := 87) (t := 2) (N := 20) w dX5_readMicrophone_86 rfl rfl rfl rfl (by decide) rfl ?_
            rw [show x5 102 2 = vN B t (pM3 B t Q) from a5.2 2 (by decide)]
            refine s_aload_n (pc2 := 88) w dX5_readMicrophone_87 rfl rfl ?_
            refine m_getR (pc2 := 91) (ci := 5) (k := 4) (j2 := 102) w dX5_readMicrophone_88 rfl rfl rfl rfl rfl rfl ?_
            refine s_iconst (pc2 := 92) (v := gI 3) w dX5_readMicrophone_91 rfl rfl ?_
            refine m_ialoadN (pc2 := 93) (t := 3) (N := 20) w dX5_readMicrophone_92 rfl rfl rfl rfl (by decide) rfl ?_
            rw [show x5 102 3 = vN B t (pM4 B t Q) from a5.2 3 (by decide)]
            refine r_X4_putMicrophone (pc2 := 96) w dX5_readMicrophone_93 rfl rfl rfl rfl (Or.inr rfl) s1 s2.1 s2.2.2 (fun _ x9 v1 v2 => ?_) (fun h => absurd (by rw [hg]; exact hroom) h)
            refine s_pop (pc2 := 97) w dX5_readMicrophone_96 rfl rfl ?_
            refine s_iload_n (pc2 := 98) w dX5_readMicrophone_97 rfl rfl ?_
            refine s_ireturn w dX5_readMicrophone_98 rfl (by first | rfl | decide) ?_
            have e9 := pMic_ok (c := B) (t := t) hok e5
            have f9 : pMic B t Q = _ := pG_1 e5
            rw [f9] at q0
            exact q0 x9 (g5.put e5 v1 e9 v2)
theorem lk_X5_readMicrophone {l : Launch} (hl : l.stackTraces = false) : ∀ q ∈ L_X5_readMicrophone, (q.2.1 < 5 → gk_Lk l RX5 gk_W1 3 q.1 q.2.1 q.2.2.1 q.2.2.2.1 q.2.2.2.2.1 q.2.2.2.2.2) := (List.forall_mem_cons.mpr ⟨(fun _ => ⟨yX5_readNumber, cX5_readNumber, 3, (some .boolean), 2, _, M_X5_readNumber hl, ⟨by decide, by decide⟩, ⟨by decide, by decide, by decide +kernel⟩, ⟨(gk_wm 638 (by decide +kernel)), (gk_wm 97 (by decide +kernel))⟩, Or.inr (Or.inr (Or.inr (Or.inl ⟨rfl, rfl, (gk_wm 637 (by decide +kernel)), (gk_wm 14 (by decide +kernel)), gk_wm 635 (by decide +kernel), by decide, rfl⟩)))⟩), (List.forall_mem_cons.mpr ⟨(fun _ => ⟨yX5_readInteger, cX5_readInteger, 3, (some .boolean), 2, _, M_X5_readInteger hl, ⟨by decide, by decide⟩, ⟨by decide, by decide, by decide +kernel⟩, ⟨(gk_wm 625 (by decide +kernel)), (gk_wm 97 (by decide +kernel))⟩, Or.inr (Or.inr (Or.inr (Or.inl ⟨rfl, rfl, (gk_wm 624 (by decide +kernel)), (gk_wm 12 (by decide +kernel)), gk_wm 622 (by decide +kernel), by decide, rfl⟩)))⟩), (List.forall_mem_cons.mpr ⟨(fun _ => ⟨yX5_readWord, cX5_readWord, 3, (some .boolean), 1, _, M_X5_readWord hl, ⟨by decide, by decide⟩, ⟨by decide, by decide, by decide +kernel⟩, ⟨(gk_wm 617 (by decide +kernel)), (gk_wm 97 (by decide +kernel))⟩, Or.inr (Or.inr (Or.inr (Or.inl ⟨rfl, rfl, (gk_wm 616 (by decide +kernel)), (gk_wm 10 (by decide +kernel)), gk_wm 614 (by decide +kernel), by decide, rfl⟩)))⟩), (List.forall_mem_cons.mpr ⟨(fun _ => ⟨yX4_putMicrophone, cX4_putMicrophone, 7, (some .int), 1, _, M_X4_putMicrophone hl, ⟨by decide, by decide⟩, ⟨by decide, by decide, by decide +kernel⟩, ⟨(gk_wm 642 (by decide +kernel)), (gk_wm 90 (by decide +kernel))⟩, Or.inr (Or.inr (Or.inr (Or.inl ⟨rfl, rfl, (gk_wm 640 (by decide +kernel)), (gk_wm 641 (by decide +kernel)), gk_wm 639 (by decide +kernel), by decide, rfl⟩)))⟩), (fun _ h => absurd h List.not_mem_nil)⟩)⟩)⟩)⟩)
theorem sp_X5_readMicrophone : ∀ q ∈ L_X5_readMicrophone, gk_Sq RX5 gk_W1 3 q := (List.forall_mem_cons.mpr ⟨⟨fun h => absurd h (by decide), fun h => absurd h (by decide), fun h => absurd h (by decide), fun h => absurd h (by decide), fun h => absurd h (by decide), fun h => absurd h (by decide)⟩, (List.forall_mem_cons.mpr ⟨⟨fun h => absurd h (by decide), fun h => absurd h (by decide), fun h => absurd h (by decide), fun h => absurd h (by decide), fun h => absurd h (by decide), fun h => absurd h (by decide)⟩, (List.forall_mem_cons.mpr ⟨⟨fun h => absurd h (by decide), fun h => absurd h (by decide), fun h => absurd h (by decide), fun h => absurd h (by decide), fun h => absurd h (by decide), fun h => absurd h (by decide)⟩, (List.forall_mem_cons.mpr ⟨⟨fun h => absurd h (by decide), fun h => absurd h (by decide), fun h => absurd h (by decide), fun h => absurd h (by decide), fun h => absurd h (by decide), fun h => absurd h (by decide)⟩, (fun _ h => absurd h List.not_mem_nil)⟩)⟩)⟩)⟩)
theorem M_X5_readMicrophone {l : Launch} (hl : l.stackTraces = false) : gk_Mt l yX5_readMicrophone (.code yX5_readMicrophone cX5_readMicrophone 3 (some .boolean) :: gk_W1) 3 0 S_X5_readMicrophone := gk_meth hl gk_cw_ok (by decide +kernel) rfl m_X5_readMicrophone pX5_ok (gk_Sp_of sp_X5_readMicrophone) pX5_st (fun ci m S h => absurd h (by intro h; cases h)) (xf_X5 3) (fun idx kd ci mm cost S2 h h5 => lk_X5_readMicrophone hl _ (gk_lk_mem h) h5)

def S_X5_readVehicle : gk_S := fun as n fl x y K => ∃ (B : Nat → Int32) (t : Nat) (m : Nat) (x0 : gk_X) (Q : gk_P), as = [.ref 97, .ref 44] ∧ (n = 202 ∧ fl = gk_fT) ∧ (CH B t m) ∧ (CP B t m x0 Q x y) ∧ (Q.2.1 = 0) ∧ (KK B t Q.1 = 6) ∧ (x 97 5 = nI 0) ∧ (∀ x2 : gk_X, CP B t m x0 (pVeh B t Q) x2 y → K (.inl (some (.int (eB (pVeh B t Q))))) n fl x2 y)
theorem r_X5_readVehicle (w : gk_W c P cs (fun _ _ => none) rt uf sc K V) {idx : Nat} {B : Nat → Int32} {t : Nat} {m : Nat} {x0 : gk_X} {Q : gk_P} (hd : decode c pc = .ok (.invokevirtual idx, 3)) (hp : pc + 3 = pc2) (hc : cs idx = some (1, 5, 2, 0, S_X5_readVehicle)) (h8 : Nat.ble (r.map Value.category).sum 8 = true) (hp0 : CH B t m) (hp1 : CP B t m x0 Q x y) (hp2 : Q.2.1 = 0) (hp3 : KK B t Q.1 = 6) (hp4 : x 97 5 = nI 0) (kk0 : ∀ x2 : gk_X, CP B t m x0 (pVeh B t Q) x2 y → V pc2 L ((.int (eB (pVeh B t Q))) :: r) 202 gk_fT x2 y u) : V pc L (.ref 44 :: .ref 97 :: r) 202 gk_fT x y u :=
  g_callv w hd hp hc (as := [.ref 97, .ref 44]) rfl h8 rfl rfl rfl (Or.inr (Or.inl ⟨Or.inl rfl, _, _, rfl, (gk_kd_j rfl rfl), rfl⟩)) (Or.inl rfl) ⟨B, t, m, x0, Q, rfl, ⟨rfl, rfl⟩, hp0, hp1, hp2, hp3, hp4, kk0⟩
def L_X5_readVehicle : List (Nat × gk_M0) := [(83, (1, 5, 3, 0, S_X5_readInteger)), (99, (1, 5, 3, 0, S_X5_readWord)), (109, (1, 4, 4, 0, S_X4_putVehicle))]
def cs_X5_readVehicle : Nat → Option gk_M0 := gk_lk L_X5_readVehicle
theorem m_X5_readVehicle : ∀ (as : List Value) (n : Nat) (fl : gk_F) (x : gk_X) (y : gk_Y) (K : gk_K), S_X5_readVehicle as n fl x y K → (gk_L0 as).length ≤ 3 ∧ ∀ V : gk_V, gk_W cX5_readVehicle pX5 cs_X5_readVehicle (fun _ _ => none) (some .boolean) 0 none K V → V 0 (gk_en as 3) [] n fl x y 0 := by
  intro as n fl x y K hS
  obtain ⟨B, t, m, x0, Q, rfl, ⟨rfl, rfl⟩, hp0, hp1, hp2, hp3, hp4, q0⟩ := hS
  refine ⟨Nat.le_of_ble_eq_true rfl, fun V w => ?_⟩
  show V 0 [some (.ref 97), some (.ref 44), none] [] 202 gk_fT x y 0
  obtain ⟨hs, hok⟩ := hp1.2.2.2.2.2.2.2 hp2
  obtain ⟨nv4, ns6, nm8, z6, z7, z8⟩ := wf_n hok.1
  have hcn : x 44 4 = nI (nV Q.2.2) := hs.1.1.1.trans (gn_6 hok.1)
  refine s_aload_n (pc2 := 1) w dX5_readVehicle_0 rfl rfl ?_
  refine s_aload_n (pc2 := 2) w dX5_readVehicle_1 rfl rfl ?_
  refine m_getI (pc2 := 5) (ci := 4) (k := 4) w dX5_readVehicle_2 rfl rfl rfl rfl rfl ?_
  rw [hcn]
  refine s_iconst (pc2 := 6) (v := gI 4) w dX5_readVehicle_5 rfl rfl ?_
  refine r_X5_readWord (pc2 := 9) (a := nV Q.2.2) (b := 4) w dX5_readVehicle_6 rfl rfl rfl hp0 hp1 hp2 (by rw [hp3]; decide) rfl rfl (by omega) (by decide) (fun x1 h1 u1 w1 => ?_)
  have g1 : CP B t m x0 (pV1 B t Q) x1 y := h1
  have a1 : AR (fun _ => 0) 0 x1 := ⟨u1.trans hp4, fun k hk => absurd hk (Nat.not_lt_zero k)⟩
  refine s_if_eq (pc2 := 12) (tgt := 52) w dX5_readVehicle_9 rfl (by decide) (fun c9 => ?_) (fun c9 => ?_)
  · refine s_iconst (pc2 := 53) (v := gI 0) w dX5_readVehicle_52 rfl rfl ?_
    refine s_istore_n (pc2 := 54) (k2 := 2) w dX5_readVehicle_53 rfl rfl rfl ?_
    dsimp only [gk_s1, gk_s2, gk_cl]
    refine s_iload_n (pc2 := 55) w dX5_readVehicle_54 rfl rfl ?_
    refine s_if_eq (pc2 := 58) (tgt := 81) w dX5_readVehicle_55 rfl (by decide) (fun _ => ?_) (fun h0 => absurd (rfl) h0)
    refine s_iload_n (pc2 := 82) w dX5_readVehicle_81 rfl rfl ?_
    refine s_ireturn w dX5_readVehicle_82 rfl (by first | rfl | decide) ?_
    have n9 : ¬ (pV1 B t Q).2.1 = 0 := (eB_0 _).mp c9
    rw [pVeh_e1 n9, eB_2 n9] at q0
    exact q0 _ g1
  · have e1 : (pV1 B t Q).2.1 = 0 := Decidable.byContradiction (fun h => c9 ((eB_0 _).mpr h))
    refine s_aload_n (pc2 := 13) w dX5_readVehicle_12 rfl rfl ?_
    refine s_sipush (pc2 := 16) (v := gI (-20000)) w dX5_readVehicle_13 rfl rfl ?_
    refine s_sipush (pc2 := 19) (v := gI 20000) w dX5_readVehicle_16 rfl rfl ?_
    refine r_X5_readInteger (pc2 := 22) (lo := -20000) (hi := 20000) w dX5_readVehicle_19 rfl rfl rfl hp0 g1 e1 a1 (by decide) rfl rfl ⟨by decide, by decide⟩ ⟨by decide, by decide⟩ (fun x2 h2 w2 => ?_)
    have g2 : CP B t m x0 (pV2 B t Q) x2 y := h2
    refine s_if_eq (pc2 := 25) (tgt := 52) w dX5_readVehicle_22 rfl (by decide) (fun c22 => ?_) (fun c22 => ?_)
    · refine s_iconst (pc2 := 53) (v := gI 0) w dX5_readVehicle_52 rfl rfl ?_
      refine s_istore_n (pc2 := 54) (k2 := 2) w dX5_readVehicle_53 rfl rfl rfl ?_
      dsimp only [gk_s1, gk_s2, gk_cl]
      refine s_iload_n (pc2 := 55) w dX5_readVehicle_54 rfl rfl ?_
      refine s_if_eq (pc2 := 58) (tgt := 81) w dX5_readVehicle_55 rfl (by decide) (fun _ => ?_) (fun h0 => absurd (rfl) h0)
      refine s_iload_n (pc2 := 82) w dX5_readVehicle_81 rfl rfl ?_
      refine s_ireturn w dX5_readVehicle_82 rfl (by first | rfl | decide) ?_
      have n9 : ¬ (pV2 B t Q).2.1 = 0 := (eB_0 _).mp c22
      rw [pVeh_e2 n9, eB_2 n9] at q0
      exact q0 _ g2
    · have e2 : (pV2 B t Q).2.1 = 0 := Decidable.byContradiction (fun h => c22 ((eB_0 _).mpr h))
      have a2 := w2 e2
      refine s_aload_n (pc2 := 26) w dX5_readVehicle_25 rfl rfl ?_
      refine s_bipush (pc2 := 28) (v := gI (-50)) w dX5_readVehicle_26 rfl rfl ?_
      refine s_bipush (pc2 := 30) (v := gI 50) w dX5_readVehicle_28 rfl rfl ?_
      refine r_X5_readInteger (pc2 := 33) (lo := -50) (hi := 50) w dX5_readVehicle_30 rfl rfl rfl hp0 g2 e2 a2 (by decide) rfl rfl ⟨by decide, by decide⟩ ⟨by decide, by decide⟩ (fun x3 h3 w3 => ?_)
      have g3 : CP B t m x0 (pV3 B t Q) x3 y := h3
      refine s_if_eq (pc2 := 36) (tgt := 52) w dX5_readVehicle_33 rfl (by decide) (fun c33 => ?_) (fun c33 => ?_)
      · refine s_iconst (pc2 := 53) (v := gI 0) w dX5_readVehicle_52 rfl rfl ?_
        refine s_istore_n (pc2 := 54) (k2 := 2) w dX5_readVehicle_53 rfl rfl rfl ?_
        dsimp only [gk_s1, gk_s2, gk_cl]
        refine s_iload_n (pc2 := 55) w dX5_readVehicle_54 rfl rfl ?_
        refine s_if_eq (pc2 := 58) (tgt := 81) w dX5_readVehicle_55 rfl (by decide) (fun _ => ?_) (fun h0 => absurd (rfl) h0)
        refine s_iload_n (pc2 := 82) w dX5_readVehicle_81 rfl rfl ?_
        refine s_ireturn w dX5_readVehicle_82 rfl (by first | rfl | decide) ?_
        have n9 : ¬ (pV3 B t Q).2.1 = 0 := (eB_0 _).mp c33
        rw [pVeh_e3 n9, eB_2 n9] at q0
        exact q0 _ g3
      · have e3 : (pV3 B t Q).2.1 = 0 := Decidable.byContradiction (fun h => c33 ((eB_0 _).mpr h))
        have a3 := w3 e3
        refine s_aload_n (pc2 := 37) w dX5_readVehicle_36 rfl rfl ?_
        refine s_bipush (pc2 := 39) (v := gI 100) w dX5_readVehicle_37 rfl rfl ?_
        refine s_sipush (pc2 := 42) (v := gI 5000) w dX5_readVehicle_39 rfl rfl ?_
        refine r_X5_readInteger (pc2 := 45) (lo := 100) (hi := 5000) w dX5_readVehicle_42 rfl rfl rfl hp0 g3 e3 a3 (by decide) rfl rfl ⟨by decide, by decide⟩ ⟨by decide, by decide⟩ (fun x4 h4 w4 => ?_)
        have g4 : CP B t m x0 (pV4 B t Q) x4 y := h4
        refine s_if_eq (pc2 := 48) (tgt := 52) w dX5_readVehicle_45 rfl (by decide) (fun c45 => ?_) (fun c45 => ?_)
        · refine s_iconst (pc2 := 53) (v := gI 0) w dX5_readVehicle_52 rfl rfl ?_
          refine s_istore_n (pc2 := 54) (k2 := 2) w dX5_readVehicle_53 rfl rfl rfl ?_
          dsimp only [gk_s1, gk_s2, gk_cl]
          refine s_iload_n (pc2 := 55) w dX5_readVehicle_54 rfl rfl ?_
          refine s_if_eq (pc2 := 58) (tgt := 81) w dX5_readVehicle_55 rfl (by decide) (fun _ => ?_) (fun h0 => absurd (rfl) h0)
          refine s_iload_n (pc2 := 82) w dX5_readVehicle_81 rfl rfl ?_
          refine s_ireturn w dX5_readVehicle_82 rfl (by first | rfl | decide) ?_
          have n9 : ¬ (pV4 B t Q).2.1 = 0 := (eB_0 _).mp c45
          rw [pVeh_e4 n9, eB_2 n9] at q0
          exact q0 _ g4
        · have e4 : (pV4 B t Q).2.1 = 0 := Decidable.byContradiction (fun h => c45 ((eB_0 _).mpr h))
          have a4 := w4 e4
          obtain ⟨s1, s2⟩ := g4.2.2.2.2.2.2.2 e4
          have hroom := (pV_0 e4).2.1
          have hg := (pV_0 e4).2.2.1
          refine s_iconst (pc2 := 49) (v := gI 1) w dX5_readVehicle_48 rfl rfl ?_
          refine s_goto (tgt := 53) w dX5_readVehicle_49 (by decide) ?_
          refine s_istore_n (pc2 := 54) (k2 := 2) w dX5_readVehicle_53 rfl rfl rfl ?_
          dsimp only [gk_s1, gk_s2, gk_cl]
          refine s_iload_n (pc2 := 55) w dX5_readVehicle_54 rfl rfl ?_
          refine s_if_eq (pc2 := 58) (tgt := 81) w dX5_readVehicle_55 rfl (by decide) (fun h0 => absurd h0 (by decide)) (fun _ => ?_)
          refine s_aload_n (pc2 := 59) w dX5_readVehicle_58 rfl rfl ?_
          refine s_aload_n (pc2 := 60) w dX5_readVehicle_59 rfl rfl ?_
          refine m_getR (pc2 := 63) (ci := 5) (k := 4) (j2 := 102) w dX5_readVehicle_60 rfl rfl rfl rfl rfl rfl ?_
          refine s_iconst (pc2 := 64) (v := gI 0) w dX5_readVehicle_63 rfl rfl ?_
          refine m_ialoadN (pc2 := 65) (t := 0) (N := 20) w dX5_readVehicle_64 rfl rfl rfl rfl (by decide) rfl ?_
          rw [show x4 102 0 = vI B t (pV1 B t Q) from a4.2 0 (by decide)]
          refine s_aload_n (pc2 := 66) w dX5_readVehicle_65 rfl rfl ?_
          refine m_getR (pc2 := 69) (ci := 5) (k := 4) (j2 := 102) w dX5_readVehicle_66 rfl rfl rfl rfl rfl rfl ?_
          refine s_iconst (pc2 := 70) (v := gI 1) w dX5_readVehicle_69 rfl rfl ?_
          refine m_ialoadN (pc2 := 71) (t := 1) (N := 20) w dX5_readVehicle_70 rfl rfl rfl rfl (by decide) rfl ?_
          rw [show x4 102 1 = vI B t (pV2 B t Q) from a4.2 1 (by decide)]
          refine s_aload_n (pc2 := 72) w dX5_readVehicle_71 rfl rfl ?_
          refine m_getR (pc2 := 75) (ci := 5) (k := 4) (j2 := 102) w dX5_readVehicle_72 rfl rfl rfl rfl rfl rfl ?_
          refine s_iconst (pc2 := 76) (v := gI 2) w dX5_readVehicle_75 rfl rfl ?_
          refine m_ialoadN (pc2 := 77) (t := 2) (N := 20) w dX5_readVehicle_76 rfl rfl rfl rfl (by decide) rfl ?_
          rw [show x4 102 2 = vI B t (pV3 B t Q) from a4.2 2 (by decide)]
          refine r_X4_putVehicle (pc2 := 80) w dX5_readVehicle_77 rfl rfl rfl rfl (Or.inr rfl) s1 s2.1 (fun _ x9 v1 v2 => ?_) (fun h => absurd (by rw [hg]; exact hroom) h)
          refine s_pop (pc2 := 81) w dX5_readVehicle_80 rfl rfl ?_
          refine s_iload_n (pc2 := 82) w dX5_readVehicle_81 rfl rfl ?_
          refine s_ireturn w dX5_readVehicle_82 rfl (by first | rfl | decide) ?_
          have e9 := pVeh_ok (c := B) (t := t) hok e4
          have f9 : pVeh B t Q = _ := pG_1 e4
          rw [f9] at q0
          exact q0 x9 (g4.put e4 v1 e9 v2)
theorem lk_X5_readVehicle {l : Launch} (hl : l.stackTraces = false) : ∀ q ∈ L_X5_readVehicle, (q.2.1 < 5 → gk_Lk l RX5 gk_W1 3 q.1 q.2.1 q.2.2.1 q.2.2.2.1 q.2.2.2.2.1 q.2.2.2.2.2) := (List.forall_mem_cons.mpr ⟨(fun _ => ⟨yX5_readInteger, cX5_readInteger, 3, (some .boolean), 2, _, M_X5_readInteger hl, ⟨by decide, by decide⟩, ⟨by decide, by decide, by decide +kernel⟩, ⟨(gk_wm 625 (by decide +kernel)), (gk_wm 97 (by decide +kernel))⟩, Or.inr (Or.inr (Or.inr (Or.inl ⟨rfl, rfl, (gk_wm 624 (by decide +kernel)), (gk_wm 12 (by decide +kernel)), gk_wm 622 (by decide +kernel), by decide, rfl⟩)))⟩), (List.forall_mem_cons.mpr ⟨(fun _ => ⟨yX5_readWord, cX5_readWord, 3, (some .boolean), 1, _, M_X5_readWord hl, ⟨by decide, by decide⟩, ⟨by decide, by decide, by decide +kernel⟩, ⟨(gk_wm 617 (by decide +kernel)), (gk_wm 97 (by decide +kernel))⟩, Or.inr (Or.inr (Or.inr (Or.inl ⟨rfl, rfl, (gk_wm 616 (by decide +kernel)), (gk_wm 10 (by decide +kernel)), gk_wm 614 (by decide +kernel), by decide, rfl⟩)))⟩), (List.forall_mem_cons.mpr ⟨(fun _ => ⟨yX4_putVehicle, cX4_putVehicle, 5, (some .int), 1, _, M_X4_putVehicle hl, ⟨by decide, by decide⟩, ⟨by decide, by decide, by decide +kernel⟩, ⟨(gk_wm 653 (by decide +kernel)), (gk_wm 90 (by decide +kernel))⟩, Or.inr (Or.inr (Or.inr (Or.inl ⟨rfl, rfl, (gk_wm 651 (by decide +kernel)), (gk_wm 652 (by decide +kernel)), gk_wm 650 (by decide +kernel), by decide, rfl⟩)))⟩), (fun _ h => absurd h List.not_mem_nil)⟩)⟩)⟩)
theorem sp_X5_readVehicle : ∀ q ∈ L_X5_readVehicle, gk_Sq RX5 gk_W1 3 q := (List.forall_mem_cons.mpr ⟨⟨fun h => absurd h (by decide), fun h => absurd h (by decide), fun h => absurd h (by decide), fun h => absurd h (by decide), fun h => absurd h (by decide), fun h => absurd h (by decide)⟩, (List.forall_mem_cons.mpr ⟨⟨fun h => absurd h (by decide), fun h => absurd h (by decide), fun h => absurd h (by decide), fun h => absurd h (by decide), fun h => absurd h (by decide), fun h => absurd h (by decide)⟩, (List.forall_mem_cons.mpr ⟨⟨fun h => absurd h (by decide), fun h => absurd h (by decide), fun h => absurd h (by decide), fun h => absurd h (by decide), fun h => absurd h (by decide), fun h => absurd h (by decide)⟩, (fun _ h => absurd h List.not_mem_nil)⟩)⟩)⟩)
theorem M_X5_readVehicle {l : Launch} (hl : l.stackTraces = false) : gk_Mt l yX5_readVehicle (.code yX5_readVehicle cX5_readVehicle 3 (some .boolean) :: gk_W1) 3 0 S_X5_readVehicle := gk_meth hl gk_cw_ok (by decide +kernel) rfl m_X5_readVehicle pX5_ok (gk_Sp_of sp_X5_readVehicle) pX5_st (fun ci m S h => absurd h (by intro h; cases h)) (xf_X5 3) (fun idx kd ci mm cost S2 h h5 => lk_X5_readVehicle hl _ (gk_lk_mem h) h5)

end GKV

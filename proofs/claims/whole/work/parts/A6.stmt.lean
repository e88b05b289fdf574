/-! THE TEXT, 18: the class reads it all -/
section GKV
variable {c : ByteArray} {P : gk_C} {cs : Nat → Option gk_M0} {rt : Option FieldType} {uf : Nat} {sc : Option Nat} {K : gk_K} {V : gk_V}
variable {L : List (Option Value)} {r : List Value} {n : Nat} {fl : gk_F} {x : gk_X} {y : gk_Y} {u pc pc2 : Nat}
def pSet (c : Nat → Int32) (t k : Nat) (Q : gk_P) : gk_P := if k = 8 then pG (fun g => gU g 0 (vN c t Q)) (pN c t 100 1000 Q) else if k = 9 then pG (fun g => gU g 1 (vI c t Q)) (pI c t (-90) 90 Q) else if k = 10 then pG (fun g => gU g 4 (vN c t Q)) (pN c t 0 99 Q) else pG (fun g => gU g 2 1) Q
theorem RS_u0 {g : Nat → Int32} {x : gk_X} {y : gk_Y} {v : Int32} (hw : gWf g) (h : RS 44 g x y) : RS 44 (gU g 0 v) (gk_up x 44 7 v) y := by
  obtain ⟨⟨r4, r5, r6⟩, r7, r8, r9, r11, r12, r15, r13, r14⟩ := h.1
  exact RS_lo hw h (fun k h1 h2 => gU_ne (by omega)) (fun i k h1 h2 => gk_up_ne (by omega)) ⟨⟨r4, r5, r6⟩, rfl, r8, r9, r11, r12, r15, r13, r14⟩ h.2.1
theorem RS_u1 {g : Nat → Int32} {x : gk_X} {y : gk_Y} {v : Int32} (hw : gWf g) (h : RS 44 g x y) : RS 44 (gU g 1 v) (gk_up x 44 8 v) y := by
  obtain ⟨⟨r4, r5, r6⟩, r7, r8, r9, r11, r12, r15, r13, r14⟩ := h.1
  exact RS_lo hw h (fun k h1 h2 => gU_ne (by omega)) (fun i k h1 h2 => gk_up_ne (by omega)) ⟨⟨r4, r5, r6⟩, r7, rfl, r9, r11, r12, r15, r13, r14⟩ h.2.1
theorem RS_u4 {g : Nat → Int32} {x : gk_X} {y : gk_Y} {v : Int32} (hw : gWf g) (h : RS 44 g x y) : RS 44 (gU g 4 v) (gk_up x 44 9 v) y := by
  obtain ⟨⟨r4, r5, r6⟩, r7, r8, r9, r11, r12, r15, r13, r14⟩ := h.1
  exact RS_lo hw h (fun k h1 h2 => gU_ne (by omega)) (fun i k h1 h2 => gk_up_ne (by omega)) ⟨⟨r4, r5, r6⟩, r7, r8, rfl, r11, r12, r15, r13, r14⟩ h.2.1
theorem RS_u2 {g : Nat → Int32} {x : gk_X} {y : gk_Y} {v : Int32} (hw : gWf g) (h : RS 44 g x y) : RS 44 (gU g 2 v) (gk_up x 44 11 v) y := by
  obtain ⟨⟨r4, r5, r6⟩, r7, r8, r9, r11, r12, r15, r13, r14⟩ := h.1
  exact RS_lo hw h (fun k h1 h2 => gU_ne (by omega)) (fun i k h1 h2 => gk_up_ne (by omega)) ⟨⟨r4, r5, r6⟩, r7, r8, r9, rfl, r12, r15, r13, r14⟩ h.2.1
theorem cl_RS (x : gk_X) (y : gk_Y) : RS 44 gN (clX x 44) (clY y 44) := by
  have z6 : nV gN = 0 := by decide
  have z7 : nS gN = 0 := by decide
  have z8 : nM gN = 0 := by decide
  refine ⟨⟨⟨rfl, rfl, rfl⟩, rfl, rfl, rfl, rfl, rfl, rfl, rfl, fun h => absurd h (by decide)⟩, rfl, fun v hv => absurd hv (by omega), fun a ha => absurd ha (by omega), fun m hm => absurd hm (by omega), fun m hm => absurd hm (by omega), fun h => absurd h (by decide), fun _ => ⟨rfl, rfl, rfl, rfl⟩⟩
theorem cl_fr (x : gk_X) {i k : Nat} (h : ¬ (44 ≤ i ∧ i < 87)) : clX x 44 i k = x i k := by
  unfold clX
  rw [gk_up_ne (by omega), gk_up_ne (by omega), gk_up_ne (by omega), gk_up_ne (by omega), gk_up_ne (by omega), gk_up_ne (by omega), gk_up_ne (by omega), gk_up_ne (by omega), gk_up_ne (by omega), gk_up_ne (by omega), gk_up_ne (by omega), gk_up_ne (by omega), gk_up_ne (by omega), gk_up_ne (by omega), gk_up_ne (by omega)]
theorem pLd_e {c : Nat → Int32} {t : Nat} {Q : gk_P} (h : ¬ Q.2.1 = 0) : ∀ k, pLd c t k Q = (0, Q)
  | 0 => rfl
  | k + 1 => if_neg (fun h2 => h h2.1)
theorem pLd_s {c : Nat → Int32} {t k : Nat} {Q : gk_P} (h0 : Q.2.1 = 0) (h : ¬ KK c t Q.1 = 0) : pLd c t (k + 1) Q = ((pLd c t k (pSt c t Q)).1 + 1, (pLd c t k (pSt c t Q)).2) := if_pos ⟨h0, h⟩
theorem pLd_0 {c : Nat → Int32} {t k : Nat} {Q : gk_P} (h : KK c t Q.1 = 0) : pLd c t (k + 1) Q = (0, Q) := if_neg (fun h2 => h2.2 h)
/-- the reading's start -/
def pZ : gk_P := (0, 0, gN)
def S_X5_readSetting : gk_S := fun as n fl x y K => ∃ (k_ : Int32) (B : Nat → Int32) (t : Nat) (m : Nat) (x0 : gk_X) (Q : gk_P) (kd : Nat), as = [.ref 97, .ref 44, .int k_] ∧ (n = 202 ∧ fl = gk_fT) ∧ (CH B t m) ∧ (CP B t m x0 Q x y) ∧ (Q.2.1 = 0) ∧ (k_ = nI kd) ∧ (8 ≤ kd ∧ kd ≤ 11) ∧ (x 97 5 = nI 0) ∧ (∀ x2 : gk_X, CP B t m x0 (pSet B t kd Q) x2 y → K (.inl (some (.int (eB (pSet B t kd Q))))) n fl x2 y)
theorem r_X5_readSetting (w : gk_W c P cs (fun _ _ => none) rt uf sc K V) {idx : Nat} {k_ : Int32} {B : Nat → Int32} {t : Nat} {m : Nat} {x0 : gk_X} {Q : gk_P} {kd : Nat} (hd : decode c pc = .ok (.invokevirtual idx, 3)) (hp : pc + 3 = pc2) (hc : cs idx = some (1, 5, 3, 0, S_X5_readSetting)) (h8 : Nat.ble (r.map Value.category).sum 8 = true) (hp0 : CH B t m) (hp1 : CP B t m x0 Q x y) (hp2 : Q.2.1 = 0) (hp3 : k_ = nI kd) (hp4 : 8 ≤ kd ∧ kd ≤ 11) (hp5 : x 97 5 = nI 0) (kk0 : ∀ x2 : gk_X, CP B t m x0 (pSet B t kd Q) x2 y → V pc2 L ((.int (eB (pSet B t kd Q))) :: r) 202 gk_fT x2 y u) : V pc L (.int k_ :: .ref 44 :: .ref 97 :: r) 202 gk_fT x y u :=
  g_callv w hd hp hc (as := [.ref 97, .ref 44, .int k_]) rfl h8 rfl rfl rfl (Or.inr (Or.inl ⟨Or.inl rfl, _, _, rfl, (gk_kd_j rfl rfl), rfl⟩)) (Or.inl rfl) ⟨k_, B, t, m, x0, Q, kd, rfl, ⟨rfl, rfl⟩, hp0, hp1, hp2, hp3, hp4, hp5, kk0⟩
def L_X5_readSetting : List (Nat × gk_M0) := [(76, (1, 5, 3, 0, S_X5_readNumber)), (83, (1, 5, 3, 0, S_X5_readInteger))]
def cs_X5_readSetting : Nat → Option gk_M0 := gk_lk L_X5_readSetting
theorem m_X5_readSetting : ∀ (as : List Value) (n : Nat) (fl : gk_F) (x : gk_X) (y : gk_Y) (K : gk_K), S_X5_readSetting as n fl x y K → (gk_L0 as).length ≤ 4 ∧ ∀ V : gk_V, gk_W cX5_readSetting pX5 cs_X5_readSetting (fun _ _ => none) (some .boolean) 0 none K V → V 0 (gk_en as 4) [] n fl x y 0 := by
  intro as n fl x y K hS
  obtain ⟨k_, B, t, m, x0, Q, kd, rfl, ⟨rfl, rfl⟩, hp0, hp1, hp2, hp3, hp4, hp5, q0⟩ := hS
  refine ⟨Nat.le_of_ble_eq_true rfl, fun V w => ?_⟩
  show V 0 [some (.ref 97), some (.ref 44), some (.int k_), none] [] 202 gk_fT x y 0
  subst hp3
  obtain ⟨hs, hok⟩ := hp1.2.2.2.2.2.2.2 hp2
  have a1 : AR (fun _ => 0) 0 x := ⟨hp5, fun k hk => absurd hk (Nat.not_lt_zero k)⟩
  refine s_iconst (pc2 := 1) (v := gI 1) w dX5_readSetting_0 rfl rfl ?_
  refine s_istore_n (pc2 := 2) (k2 := 3) w dX5_readSetting_1 rfl rfl rfl ?_
  dsimp only [gk_s1, gk_s2, gk_cl]
  refine s_iload_n (pc2 := 3) w dX5_readSetting_2 rfl rfl ?_
  refine s_bipush (pc2 := 5) (v := gI 8) w dX5_readSetting_3 rfl rfl ?_
  refine s_ic_ne (pc2 := 8) (tgt := 42) w dX5_readSetting_5 rfl (by decide) (fun c5 => ?_) (fun c5 => ?_)
  · have n8 : ¬ kd = 8 := fun h => c5 ((nI_eq2 (b := 8) (by omega) (by omega)).mpr h)
    refine s_iload_n (pc2 := 43) w dX5_readSetting_42 rfl rfl ?_
    refine s_bipush (pc2 := 45) (v := gI 9) w dX5_readSetting_43 rfl rfl ?_
    refine s_ic_ne (pc2 := 48) (tgt := 81) w dX5_readSetting_45 rfl (by decide) (fun c45 => ?_) (fun c45 => ?_)
    · have n9 : ¬ kd = 9 := fun h => c45 ((nI_eq2 (b := 9) (by omega) (by omega)).mpr h)
      refine s_iload_n (pc2 := 82) w dX5_readSetting_81 rfl rfl ?_
      refine s_bipush (pc2 := 84) (v := gI 10) w dX5_readSetting_82 rfl rfl ?_
      refine s_ic_ne (pc2 := 87) (tgt := 119) w dX5_readSetting_84 rfl (by decide) (fun c84 => ?_) (fun c84 => ?_)
      · have n10 : ¬ kd = 10 := fun h => c84 ((nI_eq2 (b := 10) (by omega) (by omega)).mpr h)
        refine s_aload_n (pc2 := 120) w dX5_readSetting_119 rfl rfl ?_
        refine s_iconst (pc2 := 121) (v := gI 1) w dX5_readSetting_120 rfl rfl ?_
        refine m_putI (pc2 := 124) (ci := 4) (k := 11) w dX5_readSetting_121 rfl rfl rfl rfl rfl (fun _ => Or.inr rfl) ?_
        refine s_iload_n (pc2 := 125) w dX5_readSetting_124 rfl rfl ?_
        refine s_ireturn w dX5_readSetting_125 rfl (by first | exact eB_n _ | rfl) ?_
        rw [show pSet B t kd Q = pG (fun g => gU g 2 1) Q from (if_neg n8).trans ((if_neg n9).trans (if_neg n10)), pG_1 hp2] at q0
        exact q0 _ (hp1.put hp2 (RS_u2 hok.1 hs) (gOK_2 hok (Or.inr rfl)) (fun i k h => gk_up_ne (by omega)))
      · have ek : kd = 10 := (nI_eq2 (b := 10) (by omega) (by omega)).mp c84
        refine s_aload_n (pc2 := 88) w dX5_readSetting_87 rfl rfl ?_
        refine s_iconst (pc2 := 89) (v := gI 0) w dX5_readSetting_88 rfl rfl ?_
        refine s_bipush (pc2 := 91) (v := gI 99) w dX5_readSetting_89 rfl rfl ?_
        refine r_X5_readNumber (pc2 := 94) (lo := 0) (hi := 99) w dX5_readSetting_91 rfl rfl rfl hp0 hp1 hp2 a1 (by decide) rfl rfl ⟨by decide, by decide⟩ ⟨by decide, by decide⟩ (fun x2 g2 w2 => ?_)
        refine s_istore_n (pc2 := 95) (k2 := 3) w dX5_readSetting_94 rfl rfl rfl ?_
        dsimp only [gk_s1, gk_s2, gk_cl]
        refine s_aload_n (pc2 := 96) w dX5_readSetting_95 rfl rfl ?_
        refine s_iload_n (pc2 := 97) w dX5_readSetting_96 rfl rfl ?_
        refine s_if_eq (pc2 := 100) (tgt := 109) w dX5_readSetting_97 rfl (by decide) (fun c97 => ?_) (fun c97 => ?_)
        · refine s_aload_n (pc2 := 110) w dX5_readSetting_109 rfl rfl ?_
          refine m_getI (pc2 := 113) (ci := 4) (k := 9) w dX5_readSetting_110 rfl rfl rfl rfl rfl ?_
          refine m_putI (pc2 := 116) (ci := 4) (k := 9) w dX5_readSetting_113 rfl rfl rfl rfl rfl (by intro h; cases h) ?_
          refine s_goto (tgt := 124) w dX5_readSetting_116 (by decide) ?_
          refine s_iload_n (pc2 := 125) w dX5_readSetting_124 rfl rfl ?_
          refine s_ireturn w dX5_readSetting_125 rfl (by first | exact eB_n _ | rfl) ?_
          rw [show pSet B t kd Q = pG (fun g => gU g 4 (vN B t Q)) (pN B t 0 99 Q) from (if_neg n8).trans ((if_neg n9).trans (if_pos ek))] at q0
          have n2 : ¬ (pN B t 0 99 Q).2.1 = 0 := (eB_0 _).mp c97
          rw [pG_e n2] at q0
          rw [gk_up_sf rfl]
          exact q0 x2 g2
        · have e2 : (pN B t 0 99 Q).2.1 = 0 := Decidable.byContradiction (fun h => c97 ((eB_0 _).mpr h))
          refine s_aload_n (pc2 := 101) w dX5_readSetting_100 rfl rfl ?_
          refine m_getR (pc2 := 104) (ci := 5) (k := 4) (j2 := 102) w dX5_readSetting_101 rfl rfl rfl rfl rfl rfl ?_
          refine s_iconst (pc2 := 105) (v := gI 0) w dX5_readSetting_104 rfl rfl ?_
          refine m_ialoadN (pc2 := 106) (t := 0) (N := 20) w dX5_readSetting_105 rfl rfl rfl rfl (by decide) rfl ?_
          rw [show x2 102 0 = vN B t Q from (w2 e2).2 0 (by decide)]
          refine s_goto (tgt := 113) w dX5_readSetting_106 (by decide) ?_
          refine m_putI (pc2 := 116) (ci := 4) (k := 9) w dX5_readSetting_113 rfl rfl rfl rfl rfl (by intro h; cases h) ?_
          refine s_goto (tgt := 124) w dX5_readSetting_116 (by decide) ?_
          refine s_iload_n (pc2 := 125) w dX5_readSetting_124 rfl rfl ?_
          refine s_ireturn w dX5_readSetting_125 rfl (by first | exact eB_n _ | rfl) ?_
          rw [show pSet B t kd Q = pG (fun g => gU g 4 (vN B t Q)) (pN B t 0 99 Q) from (if_neg n8).trans ((if_neg n9).trans (if_pos ek))] at q0
          obtain ⟨-, r1, r2⟩ := pN_0 ⟨by decide, by decide⟩ ⟨by decide, by decide⟩ e2
          obtain ⟨s1, s2⟩ := g2.2.2.2.2.2.2.2 e2
          rw [pG_1 e2] at q0
          rw [eB_1 e2]
          exact q0 _ (g2.put e2 (RS_u4 s2.1 s1) (gOK_4 s2 r1) (fun i k h => gk_up_ne (by omega)))
    · have ek : kd = 9 := (nI_eq2 (b := 9) (by omega) (by omega)).mp c45
      refine s_aload_n (pc2 := 49) w dX5_readSetting_48 rfl rfl ?_
      refine s_bipush (pc2 := 51) (v := gI (-90)) w dX5_readSetting_49 rfl rfl ?_
      refine s_bipush (pc2 := 53) (v := gI 90) w dX5_readSetting_51 rfl rfl ?_
      refine r_X5_readInteger (pc2 := 56) (lo := -90) (hi := 90) w dX5_readSetting_53 rfl rfl rfl hp0 hp1 hp2 a1 (by decide) rfl rfl ⟨by decide, by decide⟩ ⟨by decide, by decide⟩ (fun x2 g2 w2 => ?_)
      refine s_istore_n (pc2 := 57) (k2 := 3) w dX5_readSetting_56 rfl rfl rfl ?_
      dsimp only [gk_s1, gk_s2, gk_cl]
      refine s_aload_n (pc2 := 58) w dX5_readSetting_57 rfl rfl ?_
      refine s_iload_n (pc2 := 59) w dX5_readSetting_58 rfl rfl ?_
      refine s_if_eq (pc2 := 62) (tgt := 71) w dX5_readSetting_59 rfl (by decide) (fun c59 => ?_) (fun c59 => ?_)
      · refine s_aload_n (pc2 := 72) w dX5_readSetting_71 rfl rfl ?_
        refine m_getI (pc2 := 75) (ci := 4) (k := 8) w dX5_readSetting_72 rfl rfl rfl rfl rfl ?_
        refine m_putI (pc2 := 78) (ci := 4) (k := 8) w dX5_readSetting_75 rfl rfl rfl rfl rfl (by intro h; cases h) ?_
        refine s_goto (tgt := 124) w dX5_readSetting_78 (by decide) ?_
        refine s_iload_n (pc2 := 125) w dX5_readSetting_124 rfl rfl ?_
        refine s_ireturn w dX5_readSetting_125 rfl (by first | exact eB_n _ | rfl) ?_
        rw [show pSet B t kd Q = pG (fun g => gU g 1 (vI B t Q)) (pI B t (-90) 90 Q) from (if_neg n8).trans (if_pos ek)] at q0
        have n2 : ¬ (pI B t (-90) 90 Q).2.1 = 0 := (eB_0 _).mp c59
        rw [pG_e n2] at q0
        rw [gk_up_sf rfl]
        exact q0 x2 g2
      · have e2 : (pI B t (-90) 90 Q).2.1 = 0 := Decidable.byContradiction (fun h => c59 ((eB_0 _).mpr h))
        refine s_aload_n (pc2 := 63) w dX5_readSetting_62 rfl rfl ?_
        refine m_getR (pc2 := 66) (ci := 5) (k := 4) (j2 := 102) w dX5_readSetting_63 rfl rfl rfl rfl rfl rfl ?_
        refine s_iconst (pc2 := 67) (v := gI 0) w dX5_readSetting_66 rfl rfl ?_
        refine m_ialoadN (pc2 := 68) (t := 0) (N := 20) w dX5_readSetting_67 rfl rfl rfl rfl (by decide) rfl ?_
        rw [show x2 102 0 = vI B t Q from (w2 e2).2 0 (by decide)]
        refine s_goto (tgt := 75) w dX5_readSetting_68 (by decide) ?_
        refine m_putI (pc2 := 78) (ci := 4) (k := 8) w dX5_readSetting_75 rfl rfl rfl rfl rfl (by intro h; cases h) ?_
        refine s_goto (tgt := 124) w dX5_readSetting_78 (by decide) ?_
        refine s_iload_n (pc2 := 125) w dX5_readSetting_124 rfl rfl ?_
        refine s_ireturn w dX5_readSetting_125 rfl (by first | exact eB_n _ | rfl) ?_
        rw [show pSet B t kd Q = pG (fun g => gU g 1 (vI B t Q)) (pI B t (-90) 90 Q) from (if_neg n8).trans (if_pos ek)] at q0
        obtain ⟨-, r1, r2⟩ := pI_0 ⟨by decide, by decide⟩ ⟨by decide, by decide⟩ e2
        obtain ⟨s1, s2⟩ := g2.2.2.2.2.2.2.2 e2
        rw [pG_1 e2] at q0
        rw [eB_1 e2]
        exact q0 _ (g2.put e2 (RS_u1 s2.1 s1) (gOK_1 s2 r1) (fun i k h => gk_up_ne (by omega)))
  · have ek : kd = 8 := (nI_eq2 (b := 8) (by omega) (by omega)).mp c5
    refine s_aload_n (pc2 := 9) w dX5_readSetting_8 rfl rfl ?_
    refine s_bipush (pc2 := 11) (v := gI 100) w dX5_readSetting_9 rfl rfl ?_
    refine s_sipush (pc2 := 14) (v := gI 1000) w dX5_readSetting_11 rfl rfl ?_
    refine r_X5_readNumber (pc2 := 17) (lo := 100) (hi := 1000) w dX5_readSetting_14 rfl rfl rfl hp0 hp1 hp2 a1 (by decide) rfl rfl ⟨by decide, by decide⟩ ⟨by decide, by decide⟩ (fun x2 g2 w2 => ?_)
    refine s_istore_n (pc2 := 18) (k2 := 3) w dX5_readSetting_17 rfl rfl rfl ?_
    dsimp only [gk_s1, gk_s2, gk_cl]
    refine s_aload_n (pc2 := 19) w dX5_readSetting_18 rfl rfl ?_
    refine s_iload_n (pc2 := 20) w dX5_readSetting_19 rfl rfl ?_
    refine s_if_eq (pc2 := 23) (tgt := 32) w dX5_readSetting_20 rfl (by decide) (fun c20 => ?_) (fun c20 => ?_)
    · refine s_aload_n (pc2 := 33) w dX5_readSetting_32 rfl rfl ?_
      refine m_getI (pc2 := 36) (ci := 4) (k := 7) w dX5_readSetting_33 rfl rfl rfl rfl rfl ?_
      refine m_putI (pc2 := 39) (ci := 4) (k := 7) w dX5_readSetting_36 rfl rfl rfl rfl rfl (by intro h; cases h) ?_
      refine s_goto (tgt := 124) w dX5_readSetting_39 (by decide) ?_
      refine s_iload_n (pc2 := 125) w dX5_readSetting_124 rfl rfl ?_
      refine s_ireturn w dX5_readSetting_125 rfl (by first | exact eB_n _ | rfl) ?_
      rw [show pSet B t kd Q = pG (fun g => gU g 0 (vN B t Q)) (pN B t 100 1000 Q) from if_pos ek] at q0
      have n2 : ¬ (pN B t 100 1000 Q).2.1 = 0 := (eB_0 _).mp c20
      rw [pG_e n2] at q0
      rw [gk_up_sf rfl]
      exact q0 x2 g2
    · have e2 : (pN B t 100 1000 Q).2.1 = 0 := Decidable.byContradiction (fun h => c20 ((eB_0 _).mpr h))
      refine s_aload_n (pc2 := 24) w dX5_readSetting_23 rfl rfl ?_
      refine m_getR (pc2 := 27) (ci := 5) (k := 4) (j2 := 102) w dX5_readSetting_24 rfl rfl rfl rfl rfl rfl ?_
      refine s_iconst (pc2 := 28) (v := gI 0) w dX5_readSetting_27 rfl rfl ?_
      refine m_ialoadN (pc2 := 29) (t := 0) (N := 20) w dX5_readSetting_28 rfl rfl rfl rfl (by decide) rfl ?_
      rw [show x2 102 0 = vN B t Q from (w2 e2).2 0 (by decide)]
      refine s_goto (tgt := 36) w dX5_readSetting_29 (by decide) ?_
      refine m_putI (pc2 := 39) (ci := 4) (k := 7) w dX5_readSetting_36 rfl rfl rfl rfl rfl (by intro h; cases h) ?_
      refine s_goto (tgt := 124) w dX5_readSetting_39 (by decide) ?_
      refine s_iload_n (pc2 := 125) w dX5_readSetting_124 rfl rfl ?_
      refine s_ireturn w dX5_readSetting_125 rfl (by first | exact eB_n _ | rfl) ?_
      rw [show pSet B t kd Q = pG (fun g => gU g 0 (vN B t Q)) (pN B t 100 1000 Q) from if_pos ek] at q0
      obtain ⟨-, r1, r2⟩ := pN_0 ⟨by decide, by decide⟩ ⟨by decide, by decide⟩ e2
      obtain ⟨s1, s2⟩ := g2.2.2.2.2.2.2.2 e2
      rw [pG_1 e2] at q0
      rw [eB_1 e2]
      exact q0 _ (g2.put e2 (RS_u0 s2.1 s1) (gOK_0 s2 r1) (fun i k h => gk_up_ne (by omega)))
theorem lk_X5_readSetting {l : Launch} (hl : l.stackTraces = false) : ∀ q ∈ L_X5_readSetting, (q.2.1 < 5 → gk_Lk l RX5 gk_W1 3 q.1 q.2.1 q.2.2.1 q.2.2.2.1 q.2.2.2.2.1 q.2.2.2.2.2) := (List.forall_mem_cons.mpr ⟨(fun _ => ⟨yX5_readNumber, cX5_readNumber, 3, (some .boolean), 2, _, M_X5_readNumber hl, ⟨by decide, by decide⟩, ⟨by decide, by decide, by decide +kernel⟩, ⟨(gk_wm 638 (by decide +kernel)), (gk_wm 97 (by decide +kernel))⟩, Or.inr (Or.inr (Or.inr (Or.inl ⟨rfl, rfl, (gk_wm 637 (by decide +kernel)), (gk_wm 14 (by decide +kernel)), gk_wm 635 (by decide +kernel), by decide, rfl⟩)))⟩), (List.forall_mem_cons.mpr ⟨(fun _ => ⟨yX5_readInteger, cX5_readInteger, 3, (some .boolean), 2, _, M_X5_readInteger hl, ⟨by decide, by decide⟩, ⟨by decide, by decide, by decide +kernel⟩, ⟨(gk_wm 625 (by decide +kernel)), (gk_wm 97 (by decide +kernel))⟩, Or.inr (Or.inr (Or.inr (Or.inl ⟨rfl, rfl, (gk_wm 624 (by decide +kernel)), (gk_wm 12 (by decide +kernel)), gk_wm 622 (by decide +kernel), by decide, rfl⟩)))⟩), (fun _ h => absurd h List.not_mem_nil)⟩)⟩)
theorem sp_X5_readSetting : ∀ q ∈ L_X5_readSetting, gk_Sq RX5 gk_W1 3 q := (List.forall_mem_cons.mpr ⟨⟨fun h => absurd h (by decide), fun h => absurd h (by decide), fun h => absurd h (by decide), fun h => absurd h (by decide), fun h => absurd h (by decide), fun h => absurd h (by decide)⟩, (List.forall_mem_cons.mpr ⟨⟨fun h => absurd h (by decide), fun h => absurd h (by decide), fun h => absurd h (by decide), fun h => absurd h (by decide), fun h => absurd h (by decide), fun h => absurd h (by decide)⟩, (fun _ h => absurd h List.not_mem_nil)⟩)⟩)
theorem M_X5_readSetting {l : Launch} (hl : l.stackTraces = false) : gk_Mt l yX5_readSetting (.code yX5_readSetting cX5_readSetting 4 (some .boolean) :: gk_W1) 3 0 S_X5_readSetting := gk_meth hl gk_cw_ok (by decide +kernel) rfl m_X5_readSetting pX5_ok (gk_Sp_of sp_X5_readSetting) pX5_st (fun ci m S h => absurd h (by intro h; cases h)) (xf_X5 3) (fun idx kd ci mm cost S2 h h5 => lk_X5_readSetting hl _ (gk_lk_mem h) h5)

theorem pB_k {c : Nat → Int32} {t : Nat} {Q : gk_P} (h0 : Q.2.1 = 0) (h : 8 ≤ KK c t Q.1 ∧ KK c t Q.1 ≤ 11) : pB c t Q = pSet c t (KK c t Q.1) (pAd c t Q) := by
  unfold pB pSet
  rw [if_neg (by omega), if_neg (by omega), if_neg (by omega)]
  by_cases h8 : KK c t Q.1 = 8
  · rw [if_pos h8, if_pos h8]
  rw [if_neg h8, if_neg h8]
  by_cases h9 : KK c t Q.1 = 9
  · rw [if_pos h9, if_pos h9]
  rw [if_neg h9, if_neg h9]
  by_cases h10 : KK c t Q.1 = 10
  · rw [if_pos h10, if_pos h10]
  rw [if_neg h10, if_neg h10]
  have h11 : KK c t Q.1 = 11 := by omega
  rw [show pQ (decide (KK c t Q.1 = 11)) 1 Q = Q from if_neg (fun h2 => by rw [decide_eq_true h11] at h2; exact absurd h2.2 (by decide))]
theorem pB_n {c : Nat → Int32} {t : Nat} {Q : gk_P} (h0 : Q.2.1 = 0) (h : ¬ (5 ≤ KK c t Q.1 ∧ KK c t Q.1 ≤ 11)) : pB c t Q = (Q.1, 1, Q.2.2) := by
  unfold pB
  rw [if_neg (by omega), if_neg (by omega), if_neg (by omega), if_neg (by omega), if_neg (by omega), if_neg (by omega)]
  have h11 : ¬ KK c t Q.1 = 11 := by omega
  rw [show pQ (decide (KK c t Q.1 = 11)) 1 Q = (Q.1, 1, Q.2.2) from if_pos ⟨h0, decide_eq_false h11⟩, pA_e n1_0, pG_e n1_0]
theorem CP.a0 {c : Nat → Int32} {t m : Nat} {x0 : gk_X} {Q : gk_P} {x : gk_X} {y : gk_Y} (h : CP c t m x0 Q x y) (v : Int32) : CP c t m x0 Q (gk_up x 97 5 v) y :=
  h.mk (fun i k h1 h2 => gk_up_ne (by omega)) (gk_up_ne (by omega)) ((gk_up_ne (by omega)).trans h.2.2.1) ((gk_up_ne (by omega)).trans h.2.2.2.1) h.2.2.2.2.2.1 h.2.2.2.2.2.2.1 rfl (fun e => e)
theorem st_ok : ∀ k, k < 7 → ∃ off, (#[42, 48, 54, 60, 60, 60, 60] : Array Int)[k]? = some off ∧ (18 : Int) + off = (([60, 66, 72, 78, 78, 78, 78].getD k 0 : Nat) : Int) := fun k hk => by
  have h : ∀ k, k < 7 → (#[42, 48, 54, 60, 60, 60, 60] : Array Int)[k]? = some ((([60, 66, 72, 78, 78, 78, 78].getD k 0 : Nat) : Int) - 18) := by decide +kernel
  exact ⟨_, h k hk, by omega⟩
def S_X5_readStatement : gk_S := fun as n fl x y K => ∃ (B : Nat → Int32) (t : Nat) (m : Nat) (x0 : gk_X) (Q : gk_P), as = [.ref 97, .ref 44] ∧ (n = 202 ∧ fl = gk_fT) ∧ (CH B t m) ∧ (CP B t m x0 Q x y) ∧ (Q.2.1 = 0) ∧ (∀ x2 : gk_X, CP B t m x0 (pB B t Q) x2 y → K (.inl (some (.int (eB (pB B t Q))))) n fl x2 y)
theorem r_X5_readStatement (w : gk_W c P cs (fun _ _ => none) rt uf sc K V) {idx : Nat} {B : Nat → Int32} {t : Nat} {m : Nat} {x0 : gk_X} {Q : gk_P} (hd : decode c pc = .ok (.invokevirtual idx, 3)) (hp : pc + 3 = pc2) (hc : cs idx = some (1, 5, 2, 0, S_X5_readStatement)) (h8 : Nat.ble (r.map Value.category).sum 8 = true) (hp0 : CH B t m) (hp1 : CP B t m x0 Q x y) (hp2 : Q.2.1 = 0) (kk0 : ∀ x2 : gk_X, CP B t m x0 (pB B t Q) x2 y → V pc2 L ((.int (eB (pB B t Q))) :: r) 202 gk_fT x2 y u) : V pc L (.ref 44 :: .ref 97 :: r) 202 gk_fT x y u :=
  g_callv w hd hp hc (as := [.ref 97, .ref 44]) rfl h8 rfl rfl rfl (Or.inr (Or.inl ⟨Or.inl rfl, _, _, rfl, (gk_kd_j rfl rfl), rfl⟩)) (Or.inl rfl) ⟨B, t, m, x0, Q, rfl, ⟨rfl, rfl⟩, hp0, hp1, hp2, kk0⟩
def L_X5_readStatement : List (Nat × gk_M0) := [(41, (1, 8, 2, 0, S_X9_kindAt)), (56, (1, 5, 2, 0, S_X5_fail)), (63, (1, 5, 2, 0, S_X5_readMicrophone)), (66, (1, 5, 2, 0, S_X5_readVehicle)), (69, (1, 5, 2, 0, S_X5_readSource)), (72, (1, 5, 3, 0, S_X5_readSetting))]
def cs_X5_readStatement : Nat → Option gk_M0 := gk_lk L_X5_readStatement
theorem m_X5_readStatement : ∀ (as : List Value) (n : Nat) (fl : gk_F) (x : gk_X) (y : gk_Y) (K : gk_K), S_X5_readStatement as n fl x y K → (gk_L0 as).length ≤ 3 ∧ ∀ V : gk_V, gk_W cX5_readStatement pX5 cs_X5_readStatement (fun _ _ => none) (some .boolean) 0 none K V → V 0 (gk_en as 3) [] n fl x y 0 := by
  intro as n fl x y K hS
  obtain ⟨B, t, m, x0, Q, rfl, ⟨rfl, rfl⟩, hp0, hp1, hp2, q0⟩ := hS
  refine ⟨Nat.le_of_ble_eq_true rfl, fun V w => ?_⟩
  show V 0 [some (.ref 97), some (.ref 44), none] [] 202 gk_fT x y 0
  have hb1 := hp1.2.2.2.2.2.1
  have hb2 := hp0.1
  have hpA : CP B t m x0 Q (gk_up x 97 5 0) y := hp1.a0 0
  refine s_aload_n (pc2 := 1) w dX5_readStatement_0 rfl rfl ?_
  refine s_iconst (pc2 := 2) (v := 0) w dX5_readStatement_1 rfl rfl ?_
  refine m_putI (pc2 := 5) (ci := 5) (k := 5) w dX5_readStatement_2 rfl rfl rfl rfl rfl (by intro h; cases h) ?_
  refine s_aload_n (pc2 := 6) w dX5_readStatement_5 rfl rfl ?_
  refine m_getR (pc2 := 9) (ci := 5) (k := 2) (j2 := 98) w dX5_readStatement_6 rfl rfl rfl rfl rfl rfl ?_
  refine s_aload_n (pc2 := 10) w dX5_readStatement_9 rfl rfl ?_
  refine m_getI (pc2 := 13) (ci := 5) (k := 3) w dX5_readStatement_10 rfl rfl rfl rfl rfl ?_
  refine r_X9_kindAt (pc2 := 16) w dX5_readStatement_13 rfl rfl rfl hpA.2.2.1 (by omega) ?_
  rw [CP.kd hp0 hpA]
  refine s_istore_n (pc2 := 17) (k2 := 2) w dX5_readStatement_16 rfl rfl rfl ?_
  dsimp only [gk_s1, gk_s2, gk_cl]
  refine s_iload_n (pc2 := 18) w dX5_readStatement_17 rfl rfl ?_
  have hk5 : (nI (KK B t Q.1)).toInt = (KK B t Q.1 : Int) := by have := tk_le B t (tp B t Q.1); rw [gI_nI, gI_of ⟨by unfold KK; omega, by unfold KK; omega⟩]
  by_cases hk : 5 ≤ KK B t Q.1 ∧ KK B t Q.1 ≤ 11
  · obtain h5 | h5 | h5 | h5 : KK B t Q.1 = 5 ∨ KK B t Q.1 = 6 ∨ KK B t Q.1 = 7 ∨ 8 ≤ KK B t Q.1 := by omega
    · refine s_tabIn (tgt := 60) w dX5_readStatement_18 (by rw [hk5, h5]; decide) (by rw [hk5, h5]; decide) (by rw [hk5, h5]; rfl) (by decide) ?_
      refine s_aload_n (pc2 := 61) w dX5_readStatement_60 rfl rfl ?_
      refine s_aload_n (pc2 := 62) w dX5_readStatement_61 rfl rfl ?_
      refine r_X5_readMicrophone (pc2 := 65) w dX5_readStatement_62 rfl rfl rfl hp0 hpA hp2 h5 (gk_up_in _ _ _ _) (fun x2 g2 => ?_)
      refine s_ireturn w dX5_readStatement_65 rfl (eB_n _) ?_
      rw [show pB B t Q = pMic B t Q from if_pos h5] at q0
      exact q0 x2 g2
    · refine s_tabIn (tgt := 66) w dX5_readStatement_18 (by rw [hk5, h5]; decide) (by rw [hk5, h5]; decide) (by rw [hk5, h5]; rfl) (by decide) ?_
      refine s_aload_n (pc2 := 67) w dX5_readStatement_66 rfl rfl ?_
      refine s_aload_n (pc2 := 68) w dX5_readStatement_67 rfl rfl ?_
      refine r_X5_readVehicle (pc2 := 71) w dX5_readStatement_68 rfl rfl rfl hp0 hpA hp2 h5 (gk_up_in _ _ _ _) (fun x2 g2 => ?_)
      refine s_ireturn w dX5_readStatement_71 rfl (eB_n _) ?_
      rw [show pB B t Q = pVeh B t Q from (if_neg (by omega)).trans (if_pos h5)] at q0
      exact q0 x2 g2
    · refine s_tabIn (tgt := 72) w dX5_readStatement_18 (by rw [hk5, h5]; decide) (by rw [hk5, h5]; decide) (by rw [hk5, h5]; rfl) (by decide) ?_
      refine s_aload_n (pc2 := 73) w dX5_readStatement_72 rfl rfl ?_
      refine s_aload_n (pc2 := 74) w dX5_readStatement_73 rfl rfl ?_
      refine r_X5_readSource (pc2 := 77) w dX5_readStatement_74 rfl rfl rfl hp0 hpA hp2 h5 (gk_up_in _ _ _ _) (fun x2 g2 => ?_)
      refine s_ireturn w dX5_readStatement_77 rfl (eB_n _) ?_
      rw [show pB B t Q = pSrc B t Q from (if_neg (by omega)).trans ((if_neg (by omega)).trans (if_pos h5))] at q0
      exact q0 x2 g2
    · obtain ⟨off, o1, o2⟩ := st_ok (KK B t Q.1 - 5) (by omega)
      have o3 : ([60, 66, 72, 78, 78, 78, 78] : List Nat).getD (KK B t Q.1 - 5) 0 = 78 := (by decide : ∀ k, k < 7 → 3 ≤ k → ([60, 66, 72, 78, 78, 78, 78] : List Nat).getD k 0 = 78) _ (by omega) (by omega)
      refine s_tabIn (tgt := 78) (off := off) w dX5_readStatement_18 (by rw [hk5]; omega) (by rw [hk5]; omega) (by rw [hk5, show ((KK B t Q.1 : Int) - 5).toNat = KK B t Q.1 - 5 from by omega]; exact o1) (by rw [o3] at o2; exact o2) ?_
      refine s_aload_n (pc2 := 79) w dX5_readStatement_78 rfl rfl ?_
      refine s_dup (pc2 := 80) w dX5_readStatement_79 rfl rfl ?_
      refine m_getI (pc2 := 83) (ci := 5) (k := 3) w dX5_readStatement_80 rfl rfl rfl rfl rfl ?_
      rw [hpA.2.2.1]
      refine s_iconst (pc2 := 84) (v := 1) w dX5_readStatement_83 rfl rfl ?_
      refine s_iadd (pc2 := 85) w dX5_readStatement_84 rfl ?_
      rw [show nI Q.1 + 1 = nI (Q.1 + 1) from nI_ad Q.1 1]
      refine m_putI (pc2 := 88) (ci := 5) (k := 3) w dX5_readStatement_85 rfl rfl rfl rfl rfl (by intro h; cases h) ?_
      refine s_aload_n (pc2 := 89) w dX5_readStatement_88 rfl rfl ?_
      refine s_aload_n (pc2 := 90) w dX5_readStatement_89 rfl rfl ?_
      refine s_iload_n (pc2 := 91) w dX5_readStatement_90 rfl rfl ?_
      refine r_X5_readSetting (pc2 := 94) (kd := KK B t Q.1) w dX5_readStatement_91 rfl rfl rfl hp0 (hpA.step hp0 hp2 (by omega)) (by rw [pA_1 hp2 (by omega)]) rfl ⟨h5, hk.2⟩ ((gk_up_ne (by omega)).trans (gk_up_in _ _ _ _)) (fun x2 g2 => ?_)
      refine s_ireturn w dX5_readStatement_94 rfl (eB_n _) ?_
      rw [pB_k hp2 ⟨h5, hk.2⟩] at q0
      exact q0 x2 g2
  · refine s_tabOut (tgt := 95) w dX5_readStatement_18 (by rw [hk5]; omega) (by decide) ?_
    refine s_aload_n (pc2 := 96) w dX5_readStatement_95 rfl rfl ?_
    refine s_iconst (pc2 := 97) (v := 1) w dX5_readStatement_96 rfl rfl ?_
    refine r_X5_fail (pc2 := 100) w dX5_readStatement_97 rfl rfl rfl ?_
    refine s_ireturn w dX5_readStatement_100 rfl (by first | rfl | decide) ?_
    rw [pB_n hp2 hk] at q0
    exact q0 _ (hpA.fail (k := 1) (by decide) (by decide))
theorem lk_X5_readStatement {l : Launch} (hl : l.stackTraces = false) : ∀ q ∈ L_X5_readStatement, (q.2.1 < 5 → gk_Lk l RX5 gk_W1 4 q.1 q.2.1 q.2.2.1 q.2.2.2.1 q.2.2.2.2.1 q.2.2.2.2.2) := (List.forall_mem_cons.mpr ⟨(fun _ => ⟨yX9_kindAt, cX9_kindAt, 2, (some .int), 0, _, M_X9_kindAt hl, ⟨by decide, by decide⟩, ⟨by decide, by decide, by decide +kernel⟩, ⟨(gk_wm 605 (by decide +kernel)), (gk_wm 98 (by decide +kernel))⟩, Or.inr (Or.inr (Or.inr (Or.inl ⟨rfl, rfl, (gk_wm 603 (by decide +kernel)), (gk_wm 604 (by decide +kernel)), gk_wm 602 (by decide +kernel), by decide, rfl⟩)))⟩), (List.forall_mem_cons.mpr ⟨(fun _ => ⟨yX5_fail, cX5_fail, 2, (some .boolean), 0, _, M_X5_fail hl, ⟨by decide, by decide⟩, ⟨by decide, by decide, by decide +kernel⟩, ⟨(gk_wm 621 (by decide +kernel)), (gk_wm 97 (by decide +kernel))⟩, Or.inr (Or.inr (Or.inr (Or.inl ⟨rfl, rfl, (gk_wm 620 (by decide +kernel)), (gk_wm 11 (by decide +kernel)), gk_wm 618 (by decide +kernel), by decide, rfl⟩)))⟩), (List.forall_mem_cons.mpr ⟨(fun _ => ⟨yX5_readMicrophone, cX5_readMicrophone, 3, (some .boolean), 3, _, M_X5_readMicrophone hl, ⟨by decide, by decide⟩, ⟨by decide, by decide, by decide +kernel⟩, ⟨(gk_wm 613 (by decide +kernel)), (gk_wm 97 (by decide +kernel))⟩, Or.inr (Or.inr (Or.inr (Or.inl ⟨rfl, rfl, (gk_wm 612 (by decide +kernel)), (gk_wm 9 (by decide +kernel)), gk_wm 610 (by decide +kernel), by decide, rfl⟩)))⟩), (List.forall_mem_cons.mpr ⟨(fun _ => ⟨yX5_readVehicle, cX5_readVehicle, 3, (some .boolean), 3, _, M_X5_readVehicle hl, ⟨by decide, by decide⟩, ⟨by decide, by decide, by decide +kernel⟩, ⟨(gk_wm 649 (by decide +kernel)), (gk_wm 97 (by decide +kernel))⟩, Or.inr (Or.inr (Or.inr (Or.inl ⟨rfl, rfl, (gk_wm 648 (by decide +kernel)), (gk_wm 15 (by decide +kernel)), gk_wm 646 (by decide +kernel), by decide, rfl⟩)))⟩), (List.forall_mem_cons.mpr ⟨(fun _ => ⟨yX5_readSource, cX5_readSource, 4, (some .boolean), 3, _, M_X5_readSource hl, ⟨by decide, by decide⟩, ⟨by decide, by decide, by decide +kernel⟩, ⟨(gk_wm 657 (by decide +kernel)), (gk_wm 97 (by decide +kernel))⟩, Or.inr (Or.inr (Or.inr (Or.inl ⟨rfl, rfl, (gk_wm 656 (by decide +kernel)), (gk_wm 16 (by decide +kernel)), gk_wm 654 (by decide +kernel), by decide, rfl⟩)))⟩), (List.forall_mem_cons.mpr ⟨(fun _ => ⟨yX5_readSetting, cX5_readSetting, 4, (some .boolean), 3, _, M_X5_readSetting hl, ⟨by decide, by decide⟩, ⟨by decide, by decide, by decide +kernel⟩, ⟨(gk_wm 684 (by decide +kernel)), (gk_wm 97 (by decide +kernel))⟩, Or.inr (Or.inr (Or.inr (Or.inl ⟨rfl, rfl, (gk_wm 683 (by decide +kernel)), (gk_wm 19 (by decide +kernel)), gk_wm 681 (by decide +kernel), by decide, rfl⟩)))⟩), (fun _ h => absurd h List.not_mem_nil)⟩)⟩)⟩)⟩)⟩)⟩)
theorem sp_X5_readStatement : ∀ q ∈ L_X5_readStatement, gk_Sq RX5 gk_W1 4 q := (List.forall_mem_cons.mpr ⟨⟨fun h => absurd h (by decide), fun h => absurd h (by decide), fun h => absurd h (by decide), fun h => absurd h (by decide), fun h => absurd h (by decide), fun h => absurd h (by decide)⟩, (List.forall_mem_cons.mpr ⟨⟨fun h => absurd h (by decide), fun h => absurd h (by decide), fun h => absurd h (by decide), fun h => absurd h (by decide), fun h => absurd h (by decide), fun h => absurd h (by decide)⟩, (List.forall_mem_cons.mpr ⟨⟨fun h => absurd h (by decide), fun h => absurd h (by decide), fun h => absurd h (by decide), fun h => absurd h (by decide), fun h => absurd h (by decide), fun h => absurd h (by decide)⟩, (List.forall_mem_cons.mpr ⟨⟨fun h => absurd h (by decide), fun h => absurd h (by decide), fun h => absurd h (by decide), fun h => absurd h (by decide), fun h => absurd h (by decide), fun h => absurd h (by decide)⟩, (List.forall_mem_cons.mpr ⟨⟨fun h => absurd h (by decide), fun h => absurd h (by decide), fun h => absurd h (by decide), fun h => absurd h (by decide), fun h => absurd h (by decide), fun h => absurd h (by decide)⟩, (List.forall_mem_cons.mpr ⟨⟨fun h => absurd h (by decide), fun h => absurd h (by decide), fun h => absurd h (by decide), fun h => absurd h (by decide), fun h => absurd h (by decide), fun h => absurd h (by decide)⟩, (fun _ h => absurd h List.not_mem_nil)⟩)⟩)⟩)⟩)⟩)⟩)
theorem M_X5_readStatement {l : Launch} (hl : l.stackTraces = false) : gk_Mt l yX5_readStatement (.code yX5_readStatement cX5_readStatement 3 (some .boolean) :: gk_W1) 4 0 S_X5_readStatement := gk_meth hl gk_cw_ok (by decide +kernel) rfl m_X5_readStatement pX5_ok (gk_Sp_of sp_X5_readStatement) pX5_st (fun ci m S h => absurd h (by intro h; cases h)) (xf_X5 4) (fun idx kd ci mm cost S2 h h5 => lk_X5_readStatement hl _ (gk_lk_mem h) h5)

end GKV

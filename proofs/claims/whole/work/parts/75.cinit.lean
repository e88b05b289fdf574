/-! THE METHODS, 44: the class made anew -/
section GKV
variable {c : ByteArray} {P : gk_C} {cs : Nat → Option gk_M0} {rt : Option FieldType} {uf : Nat} {sc : Option Nat} {K : gk_K} {V : gk_V}
variable {L : List (Option Value)} {r : List Value} {n : Nat} {fl : gk_F} {x : gk_X} {y : gk_Y} {u pc pc2 : Nat}
theorem fk_9 : ∀ k, k < 8 → gk_fk 9 k = 2 → k = 0 ∨ k = 1 ∨ k = 2 ∨ k = 3 ∨ k = 4 ∨ k = 5 ∨ k = 6 ∨ k = 7 := by decide
theorem fe_X10n (fl : gk_F) : gk_fe (gk_uf (fr (gk_f0 (gk_uf (fr (gk_f0 (gk_uf (fr (gk_f0 (gk_uf (fr (gk_f0 (gk_uf (fr (gk_f0 (gk_uf (gk_f0 (gk_uf (gk_f0 (gk_uf (gk_f0 (gk_uf (fr (gk_f0 (gk_uf (fr (gk_f0 fl 1) 1 44) 0 0) 44) 44 87) 0 1) 87) 0 2) 88) 0 3) 89) 0 4) 90) 90 95) 0 5) 95) 95 97) 0 6) 97) 97 103) 0 7) 103) 103 146) 87 0) 146) 146 189) 87 1) (fr fl 0 189) 189 := by
  refine fe_obj (by decide) (fun i k h => absurd h (Nat.not_lt_zero _)) (fun i h1 h2 k => ?_) (fun k a b => ?_)
  · by_cases e1 : i < 44
    · rw [uf_ne (by omega), fr_ne (by omega), f0_ne (by omega), uf_ne (by omega), fr_ne (by omega), f0_ne (by omega), uf_ne (by omega), fr_ne (by omega), f0_ne (by omega), uf_ne (by omega), fr_ne (by omega), f0_ne (by omega), uf_ne (by omega), fr_ne (by omega), f0_ne (by omega), uf_ne (by omega), f0_ne (by omega), uf_ne (by omega), f0_ne (by omega), uf_ne (by omega), f0_ne (by omega), uf_ne (by omega), fr_ne (by omega), f0_ne (by omega), uf_ne (by omega), fr_in (by omega)]
      exact ⟨fun _ _ _ => rfl, fun _ _ => rfl⟩
    by_cases e44 : i < 87
    · rw [uf_ne (by omega), fr_ne (by omega), f0_ne (by omega), uf_ne (by omega), fr_ne (by omega), f0_ne (by omega), uf_ne (by omega), fr_ne (by omega), f0_ne (by omega), uf_ne (by omega), fr_ne (by omega), f0_ne (by omega), uf_ne (by omega), fr_ne (by omega), f0_ne (by omega), uf_ne (by omega), f0_ne (by omega), uf_ne (by omega), f0_ne (by omega), uf_ne (by omega), f0_ne (by omega), uf_ne (by omega), fr_in (by omega)]
      exact ⟨fun _ _ _ => rfl, fun _ _ => rfl⟩
    by_cases e87 : i = 87
    · subst e87
      refine ⟨fun a => absurd a (by decide), fun _ b => ?_⟩
      have hk : k = 0 ∨ k = 1 := by have : gk_ln 87 = 2 := rfl; omega
      rcases hk with rfl | rfl
      · rw [uf_ne (by omega), fr_ne (by omega), f0_ne (by omega), uf_in]
      · rw [uf_in]
    by_cases e88 : i = 88
    · subst e88
      exact ⟨fun a => absurd a (by decide), fun a => absurd a (by decide)⟩
    by_cases e89 : i = 89
    · subst e89
      exact ⟨fun _ _ b => (fk_2 b).elim, fun a => absurd a (by decide)⟩
    by_cases e90 : i < 95
    · rw [uf_ne (by omega), fr_ne (by omega), f0_ne (by omega), uf_ne (by omega), fr_ne (by omega), f0_ne (by omega), uf_ne (by omega), fr_ne (by omega), f0_ne (by omega), uf_ne (by omega), fr_ne (by omega), f0_ne (by omega), uf_ne (by omega), fr_in (by omega)]
      exact ⟨fun _ _ _ => rfl, fun _ _ => rfl⟩
    by_cases e95 : i < 97
    · rw [uf_ne (by omega), fr_ne (by omega), f0_ne (by omega), uf_ne (by omega), fr_ne (by omega), f0_ne (by omega), uf_ne (by omega), fr_ne (by omega), f0_ne (by omega), uf_ne (by omega), fr_in (by omega)]
      exact ⟨fun _ _ _ => rfl, fun _ _ => rfl⟩
    by_cases e97 : i < 103
    · rw [uf_ne (by omega), fr_ne (by omega), f0_ne (by omega), uf_ne (by omega), fr_ne (by omega), f0_ne (by omega), uf_ne (by omega), fr_in (by omega)]
      exact ⟨fun _ _ _ => rfl, fun _ _ => rfl⟩
    by_cases e103 : i < 146
    · rw [uf_ne (by omega), fr_ne (by omega), f0_ne (by omega), uf_ne (by omega), fr_in (by omega)]
      exact ⟨fun _ _ _ => rfl, fun _ _ => rfl⟩
    rw [uf_ne (by omega), fr_in (by omega)]
    exact ⟨fun _ _ _ => rfl, fun _ _ => rfl⟩
  · rcases fk_9 k a b with rfl | rfl | rfl | rfl | rfl | rfl | rfl | rfl
    · rw [uf_ne (by omega), fr_ne (by omega), f0_ne (by omega), uf_ne (by omega), fr_ne (by omega), f0_ne (by omega), uf_ne (by omega), fr_ne (by omega), f0_ne (by omega), uf_ne (by omega), fr_ne (by omega), f0_ne (by omega), uf_ne (by omega), fr_ne (by omega), f0_ne (by omega), uf_ne (by omega), f0_ne (by omega), uf_ne (by omega), f0_ne (by omega), uf_ne (by omega), f0_ne (by omega), uf_ne (by omega), fr_ne (by omega), f0_ne (by omega), uf_in]
    · rw [uf_ne (by omega), fr_ne (by omega), f0_ne (by omega), uf_ne (by omega), fr_ne (by omega), f0_ne (by omega), uf_ne (by omega), fr_ne (by omega), f0_ne (by omega), uf_ne (by omega), fr_ne (by omega), f0_ne (by omega), uf_ne (by omega), fr_ne (by omega), f0_ne (by omega), uf_ne (by omega), f0_ne (by omega), uf_ne (by omega), f0_ne (by omega), uf_ne (by omega), f0_ne (by omega), uf_in]
    · rw [uf_ne (by omega), fr_ne (by omega), f0_ne (by omega), uf_ne (by omega), fr_ne (by omega), f0_ne (by omega), uf_ne (by omega), fr_ne (by omega), f0_ne (by omega), uf_ne (by omega), fr_ne (by omega), f0_ne (by omega), uf_ne (by omega), fr_ne (by omega), f0_ne (by omega), uf_ne (by omega), f0_ne (by omega), uf_ne (by omega), f0_ne (by omega), uf_in]
    · rw [uf_ne (by omega), fr_ne (by omega), f0_ne (by omega), uf_ne (by omega), fr_ne (by omega), f0_ne (by omega), uf_ne (by omega), fr_ne (by omega), f0_ne (by omega), uf_ne (by omega), fr_ne (by omega), f0_ne (by omega), uf_ne (by omega), fr_ne (by omega), f0_ne (by omega), uf_ne (by omega), f0_ne (by omega), uf_in]
    · rw [uf_ne (by omega), fr_ne (by omega), f0_ne (by omega), uf_ne (by omega), fr_ne (by omega), f0_ne (by omega), uf_ne (by omega), fr_ne (by omega), f0_ne (by omega), uf_ne (by omega), fr_ne (by omega), f0_ne (by omega), uf_ne (by omega), fr_ne (by omega), f0_ne (by omega), uf_in]
    · rw [uf_ne (by omega), fr_ne (by omega), f0_ne (by omega), uf_ne (by omega), fr_ne (by omega), f0_ne (by omega), uf_ne (by omega), fr_ne (by omega), f0_ne (by omega), uf_ne (by omega), fr_ne (by omega), f0_ne (by omega), uf_in]
    · rw [uf_ne (by omega), fr_ne (by omega), f0_ne (by omega), uf_ne (by omega), fr_ne (by omega), f0_ne (by omega), uf_ne (by omega), fr_ne (by omega), f0_ne (by omega), uf_in]
    · rw [uf_ne (by omega), fr_ne (by omega), f0_ne (by omega), uf_ne (by omega), fr_ne (by omega), f0_ne (by omega), uf_in]
/-- the class's cells at first -/
def iX (x : gk_X) : gk_X := clX (zr (clX (zr (gk_up (zr (clX (zr (clX (zr x 1 44) 1) 44 87) 44) 87 98) 97 1 (-1)) 98 146) 103) 146 189) 146
def iY (y : gk_Y) : gk_Y := clY (zy (clY (zy (clY (zy (clY (zy y 1 44) 1) 44 87) 44) 87 146) 103) 146 189) 146
def S_X10_initr : gk_S := fun as n fl x y K => as = [.ref 0] ∧ (n = 1) ∧ (K (.inl none) 189 (gk_uf (fr (gk_f0 (gk_uf (fr (gk_f0 (gk_uf (fr (gk_f0 (gk_uf (fr (gk_f0 (gk_uf (fr (gk_f0 (gk_uf (gk_f0 (gk_uf (gk_f0 (gk_uf (gk_f0 (gk_uf (fr (gk_f0 (gk_uf (fr (gk_f0 fl 1) 1 44) 0 0) 44) 44 87) 0 1) 87) 0 2) 88) 0 3) 89) 0 4) 90) 90 95) 0 5) 95) 95 97) 0 6) 97) 97 103) 0 7) 103) 103 146) 87 0) 146) 146 189) 87 1) (iX x) (iY y))
def L_X10_initr : List (Nat × gk_M0) := [(0, (99, 9, 0, 0, fun _ _ _ _ _ _ => False)), (1, (9, 0, 0, 0, fun _ _ _ _ _ _ => False)), (9, (2, 4, 1, 2312, S_X4_init)), (29, (2, 2, 1, 0, S_X2_init)), (36, (2, 0, 1, 522, S_X0_init)), (43, (2, 7, 1, 501, S_X8_init)), (50, (2, 5, 1, 1532, S_X5_init))]
def cs_X10_initr : Nat → Option gk_M0 := gk_lk L_X10_initr
theorem m_X10_initr : ∀ (as : List Value) (n : Nat) (fl : gk_F) (x : gk_X) (y : gk_Y) (K : gk_K), S_X10_initr as n fl x y K → (gk_L0 as).length ≤ 2 ∧ ∀ V : gk_V, gk_W cX10_init pX10 cs_X10_initr (fun _ _ => none) none 11896 none K V → V 0 (gk_en as 2) [] n fl x y 0 := by
  intro as n fl x y K hS
  obtain ⟨rfl, hp0, q0⟩ := hS
  refine ⟨Nat.le_of_ble_eq_true rfl, fun V w => ?_⟩
  show V 0 [some (.ref 0), none] [] n fl x y 0
  subst hp0
  refine s_aload_n (pc2 := 1) w dX10_init_0 rfl rfl ?_
  refine s_obj (pc2 := 4) w dX10_init_1 rfl rfl rfl ?_
  refine s_aload_n (pc2 := 5) w dX10_init_4 rfl rfl ?_
  refine g_new (pc2 := 8) (ci := 4) w dX10_init_5 rfl rfl rfl rfl (by decide) rfl (Nat.le_of_ble_eq_true rfl) ?_
  rw [zr_1, zy_1]
  try simp only [Nat.reduceAdd]
  refine s_dup (pc2 := 9) w dX10_init_8 rfl rfl ?_
  refine r_X4_init (pc2 := 12) w dX10_init_9 rfl rfl rfl (Nat.le_of_ble_eq_true rfl) rfl (by decide) (by unfold BLK; decide) rfl ?_
  try simp only [Nat.reduceAdd]
  rw [zr_s (by decide) (by decide), zy_s (by decide) (by decide)]
  refine g_putR (pc2 := 15) (ci := 9) (k := 0) w dX10_init_12 rfl rfl (by decide) rfl rfl rfl rfl (by decide) ⟨_, _, rfl⟩ ?_
  refine s_aload_n (pc2 := 16) w dX10_init_15 rfl rfl ?_
  refine g_new (pc2 := 19) (ci := 4) w dX10_init_16 rfl rfl rfl rfl (by decide) rfl (Nat.le_of_ble_eq_true rfl) ?_
  rw [zr_1, zy_1]
  try simp only [Nat.reduceAdd]
  refine s_dup (pc2 := 20) w dX10_init_19 rfl rfl ?_
  refine r_X4_init (pc2 := 23) w dX10_init_20 rfl rfl rfl (Nat.le_of_ble_eq_true rfl) rfl (by decide) (by unfold BLK; decide) rfl ?_
  try simp only [Nat.reduceAdd]
  rw [zr_s (by decide) (by decide), zy_s (by decide) (by decide)]
  refine g_putR (pc2 := 26) (ci := 9) (k := 1) w dX10_init_23 rfl rfl (by decide) rfl rfl rfl rfl (by decide) ⟨_, _, rfl⟩ ?_
  refine s_aload_n (pc2 := 27) w dX10_init_26 rfl rfl ?_
  refine s_iconst (pc2 := 28) (v := 2) w dX10_init_27 rfl rfl ?_
  refine g_anewarray (pc2 := 31) (kd := 27) w dX10_init_28 rfl rfl (by decide) rfl rfl rfl (by decide) (by decide) rfl (Nat.le_of_ble_eq_true rfl) ?_
  rw [zr_1, zy_1]
  try simp only [Nat.reduceAdd]
  refine g_putR (pc2 := 34) (ci := 9) (k := 2) w dX10_init_31 rfl rfl (by decide) rfl rfl rfl rfl (by decide) ⟨_, _, rfl⟩ ?_
  refine s_aload_n (pc2 := 35) w dX10_init_34 rfl rfl ?_
  refine s_iconst (pc2 := 36) (v := 2) w dX10_init_35 rfl rfl ?_
  refine g_newarray (pc2 := 38) w dX10_init_36 rfl (by decide) rfl (by decide) (by decide) rfl (Nat.le_of_ble_eq_true rfl) ?_
  rw [zr_1, zy_1, zr_s (by decide) (by decide), zy_s (by decide) (by decide)]
  try simp only [Nat.reduceAdd]
  refine g_putR (pc2 := 41) (ci := 9) (k := 3) w dX10_init_38 rfl rfl (by decide) rfl rfl rfl rfl (by decide) ⟨_, _, rfl⟩ ?_
  refine s_aload_n (pc2 := 42) w dX10_init_41 rfl rfl ?_
  refine g_new (pc2 := 45) (ci := 2) w dX10_init_42 rfl rfl rfl rfl (by decide) rfl (Nat.le_of_ble_eq_true rfl) ?_
  rw [zr_1, zy_1, zr_s (by decide) (by decide), zy_s (by decide) (by decide)]
  try simp only [Nat.reduceAdd]
  refine s_dup (pc2 := 46) w dX10_init_45 rfl rfl ?_
  refine r_X2_init (pc2 := 49) w dX10_init_46 rfl rfl rfl rfl (by decide) ?_
  refine g_putR (pc2 := 52) (ci := 9) (k := 4) w dX10_init_49 rfl rfl (by decide) rfl rfl rfl rfl (by decide) ⟨_, _, rfl⟩ ?_
  refine s_aload_n (pc2 := 53) w dX10_init_52 rfl rfl ?_
  refine g_new (pc2 := 56) (ci := 0) w dX10_init_53 rfl rfl rfl rfl (by decide) rfl (Nat.le_of_ble_eq_true rfl) ?_
  rw [zr_1, zy_1, zr_s (by decide) (by decide), zy_s (by decide) (by decide)]
  try simp only [Nat.reduceAdd]
  refine s_dup (pc2 := 57) w dX10_init_56 rfl rfl ?_
  refine r_X0_init (pc2 := 60) w dX10_init_57 rfl rfl rfl (Nat.le_of_ble_eq_true rfl) rfl (by decide) (by decide) rfl rfl rfl rfl rfl rfl rfl ?_
  try simp only [Nat.reduceAdd]
  rw [zr_s (by decide) (by decide), zy_s (by decide) (by decide)]
  refine g_putR (pc2 := 63) (ci := 9) (k := 5) w dX10_init_60 rfl rfl (by decide) rfl rfl rfl rfl (by decide) ⟨_, _, rfl⟩ ?_
  refine s_aload_n (pc2 := 64) w dX10_init_63 rfl rfl ?_
  refine g_new (pc2 := 67) (ci := 7) w dX10_init_64 rfl rfl rfl rfl (by decide) rfl (Nat.le_of_ble_eq_true rfl) ?_
  rw [zr_1, zy_1, zr_s (by decide) (by decide), zy_s (by decide) (by decide)]
  try simp only [Nat.reduceAdd]
  refine s_dup (pc2 := 68) w dX10_init_67 rfl rfl ?_
  refine r_X8_init (pc2 := 71) w dX10_init_68 rfl rfl rfl (Nat.le_of_ble_eq_true rfl) rfl (by decide) (by decide) rfl rfl rfl ?_
  try simp only [Nat.reduceAdd]
  rw [zr_s (by decide) (by decide), zy_s (by decide) (by decide)]
  refine g_putR (pc2 := 74) (ci := 9) (k := 6) w dX10_init_71 rfl rfl (by decide) rfl rfl rfl rfl (by decide) ⟨_, _, rfl⟩ ?_
  refine s_aload_n (pc2 := 75) w dX10_init_74 rfl rfl ?_
  refine g_new (pc2 := 78) (ci := 5) w dX10_init_75 rfl rfl rfl rfl (by decide) rfl (Nat.le_of_ble_eq_true rfl) ?_
  rw [zr_1, zy_1, zr_s (by decide) (by decide), zy_s (by decide) (by decide)]
  try simp only [Nat.reduceAdd]
  refine s_dup (pc2 := 79) w dX10_init_78 rfl rfl ?_
  refine r_X5_init (pc2 := 82) w dX10_init_79 rfl rfl rfl (Nat.le_of_ble_eq_true rfl) rfl (by decide) (by decide) rfl rfl rfl rfl rfl rfl rfl rfl rfl rfl ?_
  try simp only [Nat.reduceAdd]
  rw [zy_s (by decide) (by decide)]
  refine g_putR (pc2 := 85) (ci := 9) (k := 7) w dX10_init_82 rfl rfl (by decide) rfl rfl rfl rfl (by decide) ⟨_, _, rfl⟩ ?_
  refine s_iconst (pc2 := 86) (v := 0) w dX10_init_85 rfl rfl ?_
  refine s_istore_n (pc2 := 87) (k2 := 1) w dX10_init_86 rfl rfl rfl ?_
  dsimp only [gk_s1, gk_s2, gk_cl]
  refine s_iload_n (pc2 := 88) w dX10_init_87 rfl rfl ?_
  refine s_iconst (pc2 := 89) (v := 2) w dX10_init_88 rfl rfl ?_
  refine s_ic_ge (pc2 := 92) (tgt := 111) w dX10_init_89 rfl (by decide) (fun h0 => absurd h0 (by decide)) (fun _ => ?_)
  refine s_aload_n (pc2 := 93) w dX10_init_92 rfl rfl ?_
  refine g_getR (pc2 := 96) (ci := 9) (k := 2) (j2 := 87) w dX10_init_93 rfl rfl (by decide) rfl rfl rfl (by rw [uf_ne (by omega), fr_ne (by omega), f0_ne (by omega), uf_ne (by omega), fr_ne (by omega), f0_ne (by omega), uf_ne (by omega), fr_ne (by omega), f0_ne (by omega), uf_ne (by omega), f0_ne (by omega), uf_ne (by omega), f0_ne (by omega), uf_in]) rfl ?_
  refine s_iload_n (pc2 := 97) w dX10_init_96 rfl rfl ?_
  refine g_new (pc2 := 100) (ci := 4) w dX10_init_97 rfl rfl rfl rfl (by decide) rfl (Nat.le_of_ble_eq_true rfl) ?_
  rw [zr_1, zy_1, zr_s (by decide) (by decide), zy_s (by decide) (by decide)]
  try simp only [Nat.reduceAdd]
  refine s_dup (pc2 := 101) w dX10_init_100 rfl rfl ?_
  refine r_X4_init (pc2 := 104) w dX10_init_101 rfl rfl rfl (Nat.le_of_ble_eq_true rfl) rfl (by decide) (by unfold BLK; decide) rfl ?_
  try simp only [Nat.reduceAdd]
  rw [zr_s (by decide) (by decide), zy_s (by decide) (by decide)]
  refine g_aastore (pc2 := 105) (kd := 27) (j2 := 103) w dX10_init_104 rfl rfl rfl rfl (by decide) (show vp_in (nI 0) 2 from vp_in_nI (by decide) (by decide)) (by decide) (by decide) ?_
  rw [show (0 : Int32).toNatClampNeg = 0 from by decide]
  refine s_iinc (pc2 := 108) w dX10_init_105 rfl rfl rfl rfl ?_
  dsimp only [gk_s1, gk_s2, gk_cl]
  rw [show (0 : Int32) + Int32.ofInt 1 = 1 from by decide]
  refine s_goto (tgt := 87) w dX10_init_108 (by decide) ?_
  refine s_iload_n (pc2 := 88) w dX10_init_87 rfl rfl ?_
  refine s_iconst (pc2 := 89) (v := 2) w dX10_init_88 rfl rfl ?_
  refine s_ic_ge (pc2 := 92) (tgt := 111) w dX10_init_89 rfl (by decide) (fun h0 => absurd h0 (by decide)) (fun _ => ?_)
  refine s_aload_n (pc2 := 93) w dX10_init_92 rfl rfl ?_
  refine g_getR (pc2 := 96) (ci := 9) (k := 2) (j2 := 87) w dX10_init_93 rfl rfl (by decide) rfl rfl rfl (by rw [uf_ne (by omega), fr_ne (by omega), f0_ne (by omega), uf_ne (by omega), fr_ne (by omega), f0_ne (by omega), uf_ne (by omega), fr_ne (by omega), f0_ne (by omega), uf_ne (by omega), fr_ne (by omega), f0_ne (by omega), uf_ne (by omega), f0_ne (by omega), uf_ne (by omega), f0_ne (by omega), uf_in]) rfl ?_
  refine s_iload_n (pc2 := 97) w dX10_init_96 rfl rfl ?_
  refine g_new (pc2 := 100) (ci := 4) w dX10_init_97 rfl rfl rfl rfl (by decide) rfl (Nat.le_of_ble_eq_true rfl) ?_
  rw [zr_1, zy_1]
  try simp only [Nat.reduceAdd]
  refine s_dup (pc2 := 101) w dX10_init_100 rfl rfl ?_
  refine r_X4_init (pc2 := 104) w dX10_init_101 rfl rfl rfl (Nat.le_of_ble_eq_true rfl) rfl (by decide) (by unfold BLK; decide) rfl ?_
  try simp only [Nat.reduceAdd]
  rw [zr_s (by decide) (by decide), zy_s (by decide) (by decide)]
  refine g_aastore (pc2 := 105) (kd := 27) (j2 := 146) w dX10_init_104 rfl rfl rfl rfl (by decide) (show vp_in (nI 1) 2 from vp_in_nI (by decide) (by decide)) (by decide) (by decide) ?_
  rw [show (1 : Int32).toNatClampNeg = 1 from by decide]
  refine s_iinc (pc2 := 108) w dX10_init_105 rfl rfl rfl rfl ?_
  dsimp only [gk_s1, gk_s2, gk_cl]
  rw [show (1 : Int32) + Int32.ofInt 1 = 2 from by decide]
  refine s_goto (tgt := 87) w dX10_init_108 (by decide) ?_
  refine s_iload_n (pc2 := 88) w dX10_init_87 rfl rfl ?_
  refine s_iconst (pc2 := 89) (v := 2) w dX10_init_88 rfl rfl ?_
  refine s_ic_ge (pc2 := 92) (tgt := 111) w dX10_init_89 rfl (by decide) (fun _ => ?_) (fun h0 => absurd (by decide) h0)
  refine s_return w dX10_init_111 rfl ?_
  exact q0
  
  
  
theorem lk_X10_initr {l : Launch} (hl : l.stackTraces = false) : ∀ q ∈ L_X10_initr, (q.2.1 < 5 → gk_Lk l RX10 gk_W1 6 q.1 q.2.1 q.2.2.1 q.2.2.2.1 q.2.2.2.2.1 q.2.2.2.2.2) := (List.forall_mem_cons.mpr ⟨(fun h => absurd h (by decide)), (List.forall_mem_cons.mpr ⟨(fun h => absurd h (by decide)), (List.forall_mem_cons.mpr ⟨(fun _ => ⟨yX4_init, cX4_init, 2, none, 3, _, M_X4_init hl, ⟨by decide, by decide⟩, ⟨by decide, by decide, by decide +kernel⟩, ⟨(gk_wm 126 (by decide +kernel)), (gk_wm 90 (by decide +kernel))⟩, Or.inr (Or.inr (Or.inr (Or.inr (Or.inr ⟨rfl, rfl, rfl, (gk_wm 125 (by decide +kernel)), rfl, nt_X4_init, Or.inl (gk_wm 124 (by decide +kernel))⟩))))⟩), (List.forall_mem_cons.mpr ⟨(fun _ => ⟨yX2_init, cX2_init, 1, none, 1, _, M_X2_init hl, ⟨by decide, by decide⟩, ⟨by decide, by decide, by decide +kernel⟩, ⟨(gk_wm 311 (by decide +kernel)), (gk_wm 94 (by decide +kernel))⟩, Or.inr (Or.inr (Or.inr (Or.inr (Or.inr ⟨rfl, rfl, rfl, (gk_wm 310 (by decide +kernel)), rfl, nt_X2_init, Or.inr ⟨_, gk_nsm 4 rfl⟩⟩))))⟩), (List.forall_mem_cons.mpr ⟨(fun _ => ⟨yX0_init, cX0_init, 1, none, 2, _, M_X0_init hl, ⟨by decide, by decide⟩, ⟨by decide, by decide, by decide +kernel⟩, ⟨(gk_wm 328 (by decide +kernel)), (gk_wm 95 (by decide +kernel))⟩, Or.inr (Or.inr (Or.inr (Or.inr (Or.inr ⟨rfl, rfl, rfl, (gk_wm 327 (by decide +kernel)), rfl, nt_X0_init, Or.inr ⟨_, gk_nsm 5 rfl⟩⟩))))⟩), (List.forall_mem_cons.mpr ⟨(fun _ => ⟨yX8_init, cX8_init, 1, none, 1, _, M_X8_init hl, ⟨by decide, by decide⟩, ⟨by decide, by decide, by decide +kernel⟩, ⟨(gk_wm 349 (by decide +kernel)), (gk_wm 96 (by decide +kernel))⟩, Or.inr (Or.inr (Or.inr (Or.inr (Or.inr ⟨rfl, rfl, rfl, (gk_wm 348 (by decide +kernel)), rfl, nt_X8_init, Or.inr ⟨_, gk_nsm 7 rfl⟩⟩))))⟩), (List.forall_mem_cons.mpr ⟨(fun _ => ⟨yX5_init, cX5_init, 1, none, 2, _, M_X5_init hl, ⟨by decide, by decide⟩, ⟨by decide, by decide, by decide +kernel⟩, ⟨(gk_wm 364 (by decide +kernel)), (gk_wm 97 (by decide +kernel))⟩, Or.inr (Or.inr (Or.inr (Or.inr (Or.inr ⟨rfl, rfl, rfl, (gk_wm 363 (by decide +kernel)), rfl, nt_X5_init, Or.inr ⟨_, gk_nsm 8 rfl⟩⟩))))⟩), (fun _ h => absurd h List.not_mem_nil)⟩)⟩)⟩)⟩)⟩)⟩)⟩)
theorem sp_X10_initr : ∀ q ∈ L_X10_initr, gk_Sq RX10 gk_W1 6 q := (List.forall_mem_cons.mpr ⟨⟨fun h => absurd h (by decide), fun h => absurd h (by decide), fun h => absurd h (by decide), fun h => absurd h (by decide), fun h => absurd h (by decide), fun _ => rfl⟩, (List.forall_mem_cons.mpr ⟨⟨fun h => absurd h (by decide), fun h => absurd h (by decide), fun h => absurd h (by decide), fun h => absurd h (by decide), fun _ => ⟨by decide, gk_wm 119 (by decide +kernel), (gk_wm 120 (by decide +kernel)), gk_wm 121 (by decide +kernel)⟩, fun h => absurd h (by decide)⟩, (List.forall_mem_cons.mpr ⟨⟨fun h => absurd h (by decide), fun h => absurd h (by decide), fun h => absurd h (by decide), fun h => absurd h (by decide), fun h => absurd h (by decide), fun h => absurd h (by decide)⟩, (List.forall_mem_cons.mpr ⟨⟨fun h => absurd h (by decide), fun h => absurd h (by decide), fun h => absurd h (by decide), fun h => absurd h (by decide), fun h => absurd h (by decide), fun h => absurd h (by decide)⟩, (List.forall_mem_cons.mpr ⟨⟨fun h => absurd h (by decide), fun h => absurd h (by decide), fun h => absurd h (by decide), fun h => absurd h (by decide), fun h => absurd h (by decide), fun h => absurd h (by decide)⟩, (List.forall_mem_cons.mpr ⟨⟨fun h => absurd h (by decide), fun h => absurd h (by decide), fun h => absurd h (by decide), fun h => absurd h (by decide), fun h => absurd h (by decide), fun h => absurd h (by decide)⟩, (List.forall_mem_cons.mpr ⟨⟨fun h => absurd h (by decide), fun h => absurd h (by decide), fun h => absurd h (by decide), fun h => absurd h (by decide), fun h => absurd h (by decide), fun h => absurd h (by decide)⟩, (fun _ h => absurd h List.not_mem_nil)⟩)⟩)⟩)⟩)⟩)⟩)⟩)
theorem M_X10_initr {l : Launch} (hl : l.stackTraces = false) : gk_Mt l yX10_init (.code yX10_init cX10_init 2 none :: gk_W1) 6 11896 S_X10_initr := gk_meth hl gk_cw_ok (by decide +kernel) rfl m_X10_initr pX10_ok (gk_Sp_of sp_X10_initr) pX10_st (fun ci m S h => rfl) (xf_X10 (by decide)) (fun idx kd ci mm cost S2 h h5 => lk_X10_initr hl _ (gk_lk_mem h) h5)

def S_X10_init : gk_S := fun as n fl x y K => as = [.ref 0] ∧ (0 < n) ∧ (n = 1) ∧ (K (.inl none) 189 (fr fl 0 189) (iX x) (iY y))
theorem r_X10_init (w : gk_W c P cs (fun _ _ => none) rt uf sc K V) {idx : Nat}  (hd : decode c pc = .ok (.invokespecial idx, 3)) (hp : pc + 3 = pc2) (hc : cs idx = some (2, 9, 1, 11896, S_X10_init)) (h8 : Nat.ble (r.map Value.category).sum 8 = true) (hu : u + 11896 ≤ uf) (hp0 : 0 < n) (hp1 : n = 1) (kk0 : V pc2 L r 189 (fr fl 0 189) (iX x) (iY y) (u + 11896)) : V pc L (.ref 0 :: r) n fl x y u :=
  g_calli w hd hp hc (as := [.ref 0]) rfl h8 rfl rfl rfl (Or.inr (Or.inl ⟨Or.inr rfl, _, _, rfl, hp0, rfl⟩)) (Or.inr hu) ⟨rfl, hp0, hp1, kk0⟩
theorem nt_X10_init : gk_nt S_X10_init := fun _ _ _ _ _ _ ⟨e0, e1, e2, e3⟩ => ⟨e0, e1, e2, e3⟩
theorem M_X10_init {l : Launch} (hl : l.stackTraces = false) : gk_Mt l yX10_init (.code yX10_init cX10_init 2 none :: gk_W1) 6 11896 S_X10_init := gk_Mt_fl (M_X10_initr hl) (fun as n fl x y K ⟨e0, _, hp1, q0⟩ => ⟨e0, hp1, ⟨_, fe_X10n fl, q0⟩⟩)
end GKV

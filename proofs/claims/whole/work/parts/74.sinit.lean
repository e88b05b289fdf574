/-! THE METHODS, 43: a scene made anew -/
section GKV
variable {c : ByteArray} {P : gk_C} {cs : Nat → Option gk_M0} {rt : Option FieldType} {uf : Nat} {sc : Option Nat} {K : gk_K} {V : gk_V}
variable {L : List (Option Value)} {r : List Value} {n : Nat} {fl : gk_F} {x : gk_X} {y : gk_Y} {u pc pc2 : Nat}
/-- the marks while a scene's things are made -/
def mkB (fl : gk_F) (j : Nat) : gk_F := gk_uf (gk_f0 (gk_uf (gk_f0 (gk_uf (gk_f0 (gk_uf (gk_f0 fl (j + 1)) j 0) (j + 1 + 1)) j 1) (j + 1 + 1 + 1)) j 2) (j + 1 + 1 + 1 + 1)) j 3
def mkV (B : gk_F) (j : Nat) : Nat → gk_F
  | 0 => B
  | t + 1 => gk_uf (gk_f0 (mkV B j t) (t + (j + 5))) (j + 1) t
def mkS (B : gk_F) (j : Nat) : Nat → gk_F
  | 0 => B
  | t + 1 => gk_uf (fr (gk_f0 (mkS B j t) (3 * t + (j + 9))) (3 * t + (j + 9)) (3 * t + (j + 9) + 1 + 1 + 1)) (j + 2) t
def mkM (B : gk_F) (j : Nat) : Nat → gk_F
  | 0 => B
  | t + 1 => gk_uf (fr (gk_f0 (mkM B j t) (2 * t + (j + 27))) (2 * t + (j + 27)) (2 * t + (j + 27) + 1 + 1)) (j + 3) t
theorem mkV_ne {B : gk_F} {j i k : Nat} (h1 : i ≠ j + 1) : ∀ t, ¬ (j + 5 ≤ i ∧ i < j + 5 + t) → mkV B j t i k = B i k
  | 0, _ => rfl
  | t + 1, h => by
    show gk_uf (gk_f0 (mkV B j t) (t + (j + 5))) (j + 1) t i k = B i k
    rw [uf_ne (by omega), f0_ne (by omega)]
    exact mkV_ne h1 t (by omega)
theorem mkV_in {B : gk_F} {j k : Nat} : ∀ t, k < t → mkV B j t (j + 1) k = true
  | t + 1, h => by
    show gk_uf (gk_f0 (mkV B j t) (t + (j + 5))) (j + 1) t (j + 1) k = true
    by_cases e : k = t
    · rw [e]; exact uf_in _ _ _
    · rw [uf_ne (by omega), f0_ne (by omega)]
      exact mkV_in t (by omega)
theorem mkS_ne {B : gk_F} {j i k : Nat} (h1 : i ≠ j + 2) : ∀ t, ¬ (j + 9 ≤ i ∧ i < j + 9 + 3 * t) → mkS B j t i k = B i k
  | 0, _ => rfl
  | t + 1, h => by
    show gk_uf (fr (gk_f0 (mkS B j t) (3 * t + (j + 9))) (3 * t + (j + 9)) (3 * t + (j + 9) + 1 + 1 + 1)) (j + 2) t i k = B i k
    rw [uf_ne (by omega), fr_ne (by omega), f0_ne (by omega)]
    exact mkS_ne h1 t (by omega)
theorem mkS_in {B : gk_F} {j k : Nat} : ∀ t, k < t → mkS B j t (j + 2) k = true
  | t + 1, h => by
    show gk_uf (fr (gk_f0 (mkS B j t) (3 * t + (j + 9))) (3 * t + (j + 9)) (3 * t + (j + 9) + 1 + 1 + 1)) (j + 2) t (j + 2) k = true
    by_cases e : k = t
    · rw [e]; exact uf_in _ _ _
    · rw [uf_ne (by omega), fr_ne (by omega), f0_ne (by omega)]
      exact mkS_in t (by omega)
theorem mkS_bl {B : gk_F} {j i k : Nat} : ∀ t, j + 9 ≤ i → i < j + 9 + 3 * t → mkS B j t i k = true
  | 0, h1, h2 => by omega
  | t + 1, h1, h2 => by
    show gk_uf (fr (gk_f0 (mkS B j t) (3 * t + (j + 9))) (3 * t + (j + 9)) (3 * t + (j + 9) + 1 + 1 + 1)) (j + 2) t i k = true
    rw [uf_ne (by omega)]
    by_cases e : i < j + 9 + 3 * t
    · rw [fr_ne (by omega), f0_ne (by omega)]
      exact mkS_bl t h1 e
    · exact fr_in (by omega)
theorem mkM_ne {B : gk_F} {j i k : Nat} (h1 : i ≠ j + 3) : ∀ t, ¬ (j + 27 ≤ i ∧ i < j + 27 + 2 * t) → mkM B j t i k = B i k
  | 0, _ => rfl
  | t + 1, h => by
    show gk_uf (fr (gk_f0 (mkM B j t) (2 * t + (j + 27))) (2 * t + (j + 27)) (2 * t + (j + 27) + 1 + 1)) (j + 3) t i k = B i k
    rw [uf_ne (by omega), fr_ne (by omega), f0_ne (by omega)]
    exact mkM_ne h1 t (by omega)
theorem mkM_in {B : gk_F} {j k : Nat} : ∀ t, k < t → mkM B j t (j + 3) k = true
  | t + 1, h => by
    show gk_uf (fr (gk_f0 (mkM B j t) (2 * t + (j + 27))) (2 * t + (j + 27)) (2 * t + (j + 27) + 1 + 1)) (j + 3) t (j + 3) k = true
    by_cases e : k = t
    · rw [e]; exact uf_in _ _ _
    · rw [uf_ne (by omega), fr_ne (by omega), f0_ne (by omega)]
      exact mkM_in t (by omega)
theorem mkM_bl {B : gk_F} {j i k : Nat} : ∀ t, j + 27 ≤ i → i < j + 27 + 2 * t → mkM B j t i k = true
  | 0, h1, h2 => by omega
  | t + 1, h1, h2 => by
    show gk_uf (fr (gk_f0 (mkM B j t) (2 * t + (j + 27))) (2 * t + (j + 27)) (2 * t + (j + 27) + 1 + 1)) (j + 3) t i k = true
    rw [uf_ne (by omega)]
    by_cases e : i < j + 27 + 2 * t
    · rw [fr_ne (by omega), f0_ne (by omega)]
      exact mkM_bl t h1 e
    · exact fr_in (by omega)
theorem mkB_j (fl : gk_F) (j : Nat) : mkB fl j j 0 = true ∧ mkB fl j j 1 = true ∧ mkB fl j j 2 = true ∧ mkB fl j j 3 = true := by
  unfold mkB
  refine ⟨?_, ?_, ?_, ?_⟩
  · rw [uf_ne (by omega), f0_ne (by omega), uf_ne (by omega), f0_ne (by omega), uf_ne (by omega), f0_ne (by omega), uf_in]
  · rw [uf_ne (by omega), f0_ne (by omega), uf_ne (by omega), f0_ne (by omega), uf_in]
  · rw [uf_ne (by omega), f0_ne (by omega), uf_in]
  · rw [uf_in]
theorem mkB_lo {fl : gk_F} {j i k : Nat} (h : i < j) : mkB fl j i k = fl i k := by
  unfold mkB
  rw [uf_ne (by omega), f0_ne (by omega), uf_ne (by omega), f0_ne (by omega), uf_ne (by omega), f0_ne (by omega), uf_ne (by omega), f0_ne (by omega)]
theorem fk_4 : ∀ k, k < 16 → gk_fk 4 k = 2 → k = 0 ∨ k = 1 ∨ k = 2 ∨ k = 3 := by decide
theorem fe_X4n {fl : gk_F} {j : Nat} (hb : BLK j) : gk_fe (mkM (mkS (mkV (mkB fl j) j 4) j 6) j 8) (fr fl j (j + 43)) (j + 43) := by
  obtain ⟨k0, k1, l1, k2, l2, k3, l3, k4⟩ := blk hb
  refine fe_obj (by rw [k0]; decide) (fun i k h => ?_) (fun i h1 h2 k => ?_) (fun k a b => ?_)
  · rw [mkM_ne (by omega) 8 (by omega), mkS_ne (by omega) 6 (by omega), mkV_ne (by omega) 4 (by omega), mkB_lo h]
  · by_cases e1 : i = j + 1
    · subst e1
      rw [mkM_ne (by omega) 8 (by omega), mkS_ne (by omega) 6 (by omega)]
      exact ⟨fun a => by omega, fun _ b => mkV_in 4 (by omega)⟩
    by_cases e2 : i = j + 2
    · subst e2
      rw [mkM_ne (by omega) 8 (by omega)]
      exact ⟨fun a => by omega, fun _ b => mkS_in 6 (by omega)⟩
    by_cases e3 : i = j + 3
    · subst e3
      exact ⟨fun a => by omega, fun _ b => mkM_in 8 (by omega)⟩
    by_cases e4 : i = j + 4
    · subst e4
      exact ⟨fun _ _ c => by rw [k4] at c; exact (fk_3 c).elim, fun a => by omega⟩
    by_cases e5 : i < j + 9
    · obtain ⟨t, rfl⟩ : ∃ t, i = t + (j + 5) := ⟨i - (j + 5), by omega⟩
      have := blkV (n := t) hb (by omega)
      exact ⟨fun _ _ c => by rw [this] at c; exact (fk_3 c).elim, fun a => by omega⟩
    by_cases e6 : i < j + 27
    · rw [mkM_ne (by omega) 8 (by omega), mkS_bl 6 (by omega) (by omega)]
      exact ⟨fun _ _ _ => rfl, fun _ _ => rfl⟩
    · rw [mkM_bl 8 (by omega) (by omega)]
      exact ⟨fun _ _ _ => rfl, fun _ _ => rfl⟩
  · rw [k0] at a b
    obtain ⟨b0, b1, b2, b3⟩ := mkB_j fl j
    rw [mkM_ne (by omega) 8 (by omega), mkS_ne (by omega) 6 (by omega), mkV_ne (by omega) 4 (by omega)]
    rcases fk_4 k a b with rfl | rfl | rfl | rfl
    · exact b0
    · exact b1
    · exact b2
    · exact b3
def S_X4_initr : gk_S := fun as n fl x y K => ∃ (j : Nat), as = [.ref j] ∧ gk_kd j = 4 ∧ (BLK j) ∧ (n = j + 1) ∧ (K (.inl none) (j + 43) (mkM (mkS (mkV (mkB fl j) j 4) j 6) j 8) (clX (zr x (j + 1) (j + 43)) j) (clY (zy y (j + 1) (j + 43)) j))
def L_X4_initr : List (Nat × gk_M0) := [(0, (99, 4, 0, 0, fun _ _ _ _ _ _ => False)), (3, (9, 0, 0, 0, fun _ _ _ _ _ _ => False)), (29, (2, 3, 1, 0, S_X3_init)), (34, (2, 6, 1, 22, S_X7_init)), (35, (2, 1, 1, 257, S_X1_init)), (36, (1, 4, 1, 0, S_X4_clear))]
def cs_X4_initr : Nat → Option gk_M0 := gk_lk L_X4_initr
theorem m_X4_initr : ∀ (as : List Value) (n : Nat) (fl : gk_F) (x : gk_X) (y : gk_Y) (K : gk_K), S_X4_initr as n fl x y K → (gk_L0 as).length ≤ 2 ∧ ∀ V : gk_V, gk_W cX4_init pX4 cs_X4_initr (fun _ _ => none) none 2312 none K V → V 0 (gk_en as 2) [] n fl x y 0 := by
  intro as n fl x y K hS
  obtain ⟨j, rfl, hk0, hp0, hp1, q0⟩ := hS
  refine ⟨Nat.le_of_ble_eq_true rfl, fun V w => ?_⟩
  show V 0 [some (.ref j), none] [] n fl x y 0
  subst hp1
  obtain ⟨k0, k1, l1, k2, l2, k3, l3, k4⟩ := blk hp0
  have hj : j < 147 := by unfold BLK at hp0; omega
  obtain ⟨b0, b1, b2, b3⟩ := mkB_j fl j
  have nf3 : gk_nf 3 = 4 := rfl
  have nf6 : gk_nf 6 = 4 := rfl
  have nf1 : gk_nf 1 = 5 := rfl
  have key96 : ∀ (k t : Nat), t + k = 8 → V 96 [some (.ref j), some (.int (nI t))] [] (2 * t + (j + 27)) (mkM (mkS (mkV (mkB fl j) j 4) j 6) j t) (zr x (j + 1) (2 * t + (j + 27))) (zy y (j + 1) (2 * t + (j + 27))) (208 + 263 * t) := by
    intro k
    induction k with
    | zero =>
      intro t ht
      obtain rfl : t = 8 := by omega
      rw [show 2 * 8 + (j + 27) = j + 43 from by omega]
      refine s_iload_n (pc2 := 97) w dX4_init_96 rfl rfl ?_
      refine s_bipush (pc2 := 99) (v := 8) w dX4_init_97 rfl rfl ?_
      refine s_ic_ge (pc2 := 102) (tgt := 121) w dX4_init_99 rfl (by decide) (fun _ => ?_) (fun h0 => absurd (by rw [gI_nI, show (8 : Int32) = gI 8 from rfl, gI_le ⟨by omega, by omega⟩ ⟨by omega, by omega⟩]; omega) h0)
      refine s_aload_n (pc2 := 122) w dX4_init_121 rfl rfl ?_
      refine r_X4_clear (pc2 := 125) w dX4_init_122 rfl rfl rfl (by first | exact hk0 | exact k1 | exact k2 | exact k3 | exact k4 | exact kn) (by omega) (by omega) k4 ((mkM_ne (by omega) 8 (by omega)).trans ((mkS_ne (by omega) 6 (by omega)).trans ((mkV_ne (by omega) 4 (by omega)).trans b3))) ?_
      refine s_return w dX4_init_125 rfl ?_
      exact q0
    | succ k ih =>
      intro t ht
      have kn := (blkM hp0 (show t < 8 by omega)).1
      refine s_iload_n (pc2 := 97) w dX4_init_96 rfl rfl ?_
      refine s_bipush (pc2 := 99) (v := 8) w dX4_init_97 rfl rfl ?_
      refine s_ic_ge (pc2 := 102) (tgt := 121) w dX4_init_99 rfl (by decide) (fun h0 => absurd h0 (by rw [gI_nI, show (8 : Int32) = gI 8 from rfl, gI_le ⟨by omega, by omega⟩ ⟨by omega, by omega⟩]; omega)) (fun _ => ?_)
      refine s_aload_n (pc2 := 103) w dX4_init_102 rfl rfl ?_
      refine g_getR (pc2 := 106) (ci := 4) (k := 2) (j2 := (j + 3)) w dX4_init_103 rfl rfl (by omega) (by first | exact hk0 | exact k1 | exact k2 | exact k3 | exact k4 | exact kn) rfl rfl ((mkM_ne (by omega) t (by omega)).trans ((mkS_ne (by omega) 6 (by omega)).trans ((mkV_ne (by omega) 4 (by omega)).trans b2))) rfl ?_
      refine s_iload_n (pc2 := 107) w dX4_init_106 rfl rfl ?_
      refine g_new (pc2 := 110) (ci := 1) w dX4_init_107 rfl rfl rfl (blkM hp0 (show t < 8 by omega)).1 (by omega) rfl (by omega) ?_
      rw [zr_1, zy_1, zr_s (by omega) (by omega), zy_s (by omega) (by omega)]
      refine s_dup (pc2 := 111) w dX4_init_110 rfl rfl ?_
      refine r_X1_init (pc2 := 114) w dX4_init_111 rfl rfl rfl (by omega) (by first | exact hk0 | exact k1 | exact k2 | exact k3 | exact k4 | exact kn) (by omega) (by omega) (blkM hp0 (show t < 8 by omega)).2.1 (blkM hp0 (show t < 8 by omega)).2.2 rfl ?_
      rw [zr_s (by omega) (by omega), zy_s (by omega) (by omega)]
      refine g_aastore (pc2 := 115) (kd := 26) (j2 := (2 * t + (j + 27))) w dX4_init_114 rfl k3 rfl rfl (by omega) (vp_in_nI (by rw [l3]; omega) (by omega)) (by rw [nI_clamp (by omega)]; show _ + (24 + 2 * t) = _; omega) (by omega) ?_
      rw [nI_clamp (by omega)]
      refine s_iinc (pc2 := 118) w dX4_init_115 rfl rfl rfl rfl ?_
      dsimp only [gk_s1, gk_s2, gk_cl]
      refine s_goto (tgt := 96) w dX4_init_118 (by decide) ?_
      have h := ih (t + 1) (by omega)
      rw [show 2 * (t + 1) + (j + 27) = 2 * t + (j + 27) + 1 + 1 from by omega, show 208 + 263 * (t + 1) = 208 + 263 * t + gk_nf 1 + 1 + 257 from by omega] at h
      rw [nI_s]
      exact h
  have key69 : ∀ (k t : Nat), t + k = 6 → V 69 [some (.ref j), some (.int (nI t))] [] (3 * t + (j + 9)) (mkS (mkV (mkB fl j) j 4) j t) (zr x (j + 1) (3 * t + (j + 9))) (zy y (j + 1) (3 * t + (j + 9))) (46 + 27 * t) := by
    intro k
    induction k with
    | zero =>
      intro t ht
      obtain rfl : t = 6 := by omega
      refine s_iload_n (pc2 := 70) w dX4_init_69 rfl rfl ?_
      refine s_bipush (pc2 := 72) (v := 6) w dX4_init_70 rfl rfl ?_
      refine s_ic_ge (pc2 := 75) (tgt := 94) w dX4_init_72 rfl (by decide) (fun _ => ?_) (fun h0 => absurd (by rw [gI_nI, show (6 : Int32) = gI 6 from rfl, gI_le ⟨by omega, by omega⟩ ⟨by omega, by omega⟩]; omega) h0)
      refine s_iconst (pc2 := 95) (v := 0) w dX4_init_94 rfl rfl ?_
      refine s_istore_n (pc2 := 96) (k2 := 1) w dX4_init_95 rfl rfl rfl ?_
      dsimp only [gk_s1, gk_s2, gk_cl]
      have h := key96 8 0 (by omega)
      rw [show 2 * 0 + (j + 27) = 3 * 6 + (j + 9) from by omega] at h
      exact h
    | succ k ih =>
      intro t ht
      have kn := (blkS hp0 (show t < 6 by omega)).1
      refine s_iload_n (pc2 := 70) w dX4_init_69 rfl rfl ?_
      refine s_bipush (pc2 := 72) (v := 6) w dX4_init_70 rfl rfl ?_
      refine s_ic_ge (pc2 := 75) (tgt := 94) w dX4_init_72 rfl (by decide) (fun h0 => absurd h0 (by rw [gI_nI, show (6 : Int32) = gI 6 from rfl, gI_le ⟨by omega, by omega⟩ ⟨by omega, by omega⟩]; omega)) (fun _ => ?_)
      refine s_aload_n (pc2 := 76) w dX4_init_75 rfl rfl ?_
      refine g_getR (pc2 := 79) (ci := 4) (k := 1) (j2 := (j + 2)) w dX4_init_76 rfl rfl (by omega) (by first | exact hk0 | exact k1 | exact k2 | exact k3 | exact k4 | exact kn) rfl rfl ((mkS_ne (by omega) t (by omega)).trans ((mkV_ne (by omega) 4 (by omega)).trans b1)) rfl ?_
      refine s_iload_n (pc2 := 80) w dX4_init_79 rfl rfl ?_
      refine g_new (pc2 := 83) (ci := 6) w dX4_init_80 rfl rfl rfl (blkS hp0 (show t < 6 by omega)).1 (by omega) rfl (by omega) ?_
      rw [zr_1, zy_1, zr_s (by omega) (by omega), zy_s (by omega) (by omega)]
      refine s_dup (pc2 := 84) w dX4_init_83 rfl rfl ?_
      refine r_X7_init (pc2 := 87) w dX4_init_84 rfl rfl rfl (by omega) (by first | exact hk0 | exact k1 | exact k2 | exact k3 | exact k4 | exact kn) (by omega) (by omega) rfl (blkS hp0 (show t < 6 by omega)).2.1 (blkS hp0 (show t < 6 by omega)).2.2.1 (blkS hp0 (show t < 6 by omega)).2.2.2 ?_
      rw [zr_s (by omega) (by omega), zy_s (by omega) (by omega)]
      refine g_aastore (pc2 := 88) (kd := 25) (j2 := (3 * t + (j + 9))) w dX4_init_87 rfl k2 rfl rfl (by omega) (vp_in_nI (by rw [l2]; omega) (by omega)) (by rw [nI_clamp (by omega)]; show _ + (7 + 3 * t) = _; omega) (by omega) ?_
      rw [nI_clamp (by omega)]
      refine s_iinc (pc2 := 91) w dX4_init_88 rfl rfl rfl rfl ?_
      dsimp only [gk_s1, gk_s2, gk_cl]
      refine s_goto (tgt := 69) w dX4_init_91 (by decide) ?_
      have h := ih (t + 1) (by omega)
      rw [show 3 * (t + 1) + (j + 9) = 3 * t + (j + 9) + 1 + 1 + 1 from by omega, show 46 + 27 * (t + 1) = 46 + 27 * t + gk_nf 6 + 1 + 22 from by omega] at h
      rw [nI_s]
      exact h
  have key43 : ∀ (k t : Nat), t + k = 4 → V 43 [some (.ref j), some (.int (nI t))] [] (t + (j + 5)) (mkV (mkB fl j) j t) (zr x (j + 1) (t + (j + 5))) (zy y (j + 1) (t + (j + 5))) (26 + 5 * t) := by
    intro k
    induction k with
    | zero =>
      intro t ht
      obtain rfl : t = 4 := by omega
      refine s_iload_n (pc2 := 44) w dX4_init_43 rfl rfl ?_
      refine s_iconst (pc2 := 45) (v := 4) w dX4_init_44 rfl rfl ?_
      refine s_ic_ge (pc2 := 48) (tgt := 67) w dX4_init_45 rfl (by decide) (fun _ => ?_) (fun h0 => absurd (by rw [gI_nI, show (4 : Int32) = gI 4 from rfl, gI_le ⟨by omega, by omega⟩ ⟨by omega, by omega⟩]; omega) h0)
      refine s_iconst (pc2 := 68) (v := 0) w dX4_init_67 rfl rfl ?_
      refine s_istore_n (pc2 := 69) (k2 := 1) w dX4_init_68 rfl rfl rfl ?_
      dsimp only [gk_s1, gk_s2, gk_cl]
      have h := key69 6 0 (by omega)
      rw [show 3 * 0 + (j + 9) = 4 + (j + 5) from by omega] at h
      exact h
    | succ k ih =>
      intro t ht
      have kn := (blkV hp0 (show t < 4 by omega))
      refine s_iload_n (pc2 := 44) w dX4_init_43 rfl rfl ?_
      refine s_iconst (pc2 := 45) (v := 4) w dX4_init_44 rfl rfl ?_
      refine s_ic_ge (pc2 := 48) (tgt := 67) w dX4_init_45 rfl (by decide) (fun h0 => absurd h0 (by rw [gI_nI, show (4 : Int32) = gI 4 from rfl, gI_le ⟨by omega, by omega⟩ ⟨by omega, by omega⟩]; omega)) (fun _ => ?_)
      refine s_aload_n (pc2 := 49) w dX4_init_48 rfl rfl ?_
      refine g_getR (pc2 := 52) (ci := 4) (k := 0) (j2 := (j + 1)) w dX4_init_49 rfl rfl (by omega) (by first | exact hk0 | exact k1 | exact k2 | exact k3 | exact k4 | exact kn) rfl rfl ((mkV_ne (by omega) t (by omega)).trans b0) rfl ?_
      refine s_iload_n (pc2 := 53) w dX4_init_52 rfl rfl ?_
      refine g_new (pc2 := 56) (ci := 3) w dX4_init_53 rfl rfl rfl (blkV hp0 (show t < 4 by omega)) (by omega) rfl (by omega) ?_
      rw [zr_1, zy_1, zr_s (by omega) (by omega), zy_s (by omega) (by omega)]
      refine s_dup (pc2 := 57) w dX4_init_56 rfl rfl ?_
      refine r_X3_init (pc2 := 60) w dX4_init_57 rfl rfl rfl (by first | exact hk0 | exact k1 | exact k2 | exact k3 | exact k4 | exact kn) (by omega) ?_
      refine g_aastore (pc2 := 61) (kd := 24) (j2 := (t + (j + 5))) w dX4_init_60 rfl k1 rfl rfl (by omega) (vp_in_nI (by rw [l1]; omega) (by omega)) (by rw [nI_clamp (by omega)]; show _ + (4 + t) = _; omega) (by omega) ?_
      rw [nI_clamp (by omega)]
      refine s_iinc (pc2 := 64) w dX4_init_61 rfl rfl rfl rfl ?_
      dsimp only [gk_s1, gk_s2, gk_cl]
      refine s_goto (tgt := 43) w dX4_init_64 (by decide) ?_
      have h := ih (t + 1) (by omega)
      rw [show (t + 1) + (j + 5) = t + (j + 5) + 1 from by omega, show 26 + 5 * (t + 1) = 26 + 5 * t + gk_nf 3 + 1 from by omega] at h
      rw [nI_s]
      exact h
  refine s_aload_n (pc2 := 1) w dX4_init_0 rfl rfl ?_
  refine s_obj (pc2 := 4) w dX4_init_1 rfl rfl rfl ?_
  refine s_aload_n (pc2 := 5) w dX4_init_4 rfl rfl ?_
  refine s_iconst (pc2 := 6) (v := 4) w dX4_init_5 rfl rfl ?_
  refine g_anewarray (pc2 := 9) (kd := 24) w dX4_init_6 rfl rfl (by decide) k1 rfl rfl (by rw [l1]; decide) (by omega) rfl (by rw [l1]; exact Nat.le_of_ble_eq_true rfl) ?_
  rw [zr_1, zy_1]
  rw [l1]
  refine g_putR (pc2 := 12) (ci := 4) (k := 0) w dX4_init_9 rfl rfl (by omega) (by first | exact hk0 | exact k1 | exact k2 | exact k3 | exact k4 | exact kn) rfl rfl rfl (by omega) ⟨_, _, rfl⟩ ?_
  refine s_aload_n (pc2 := 13) w dX4_init_12 rfl rfl ?_
  refine s_bipush (pc2 := 15) (v := 6) w dX4_init_13 rfl rfl ?_
  refine g_anewarray (pc2 := 18) (kd := 25) w dX4_init_15 rfl rfl (by decide) k2 rfl rfl (by rw [l2]; decide) (by omega) rfl (by rw [show gk_ln (j + 1 + 1) = 6 from l2]; exact Nat.le_of_ble_eq_true rfl) ?_
  rw [zr_1, zy_1, zr_s (by omega) (by omega), zy_s (by omega) (by omega)]
  rw [show gk_ln (j + 1 + 1) = 6 from l2]
  refine g_putR (pc2 := 21) (ci := 4) (k := 1) w dX4_init_18 rfl rfl (by omega) (by first | exact hk0 | exact k1 | exact k2 | exact k3 | exact k4 | exact kn) rfl rfl rfl (by omega) ⟨_, _, rfl⟩ ?_
  refine s_aload_n (pc2 := 22) w dX4_init_21 rfl rfl ?_
  refine s_bipush (pc2 := 24) (v := 8) w dX4_init_22 rfl rfl ?_
  refine g_anewarray (pc2 := 27) (kd := 26) w dX4_init_24 rfl rfl (by decide) k3 rfl rfl (by rw [l3]; decide) (by omega) rfl (by rw [show gk_ln (j + 1 + 1 + 1) = 8 from l3]; exact Nat.le_of_ble_eq_true rfl) ?_
  rw [zr_1, zy_1, zr_s (by omega) (by omega), zy_s (by omega) (by omega)]
  rw [show gk_ln (j + 1 + 1 + 1) = 8 from l3]
  refine g_putR (pc2 := 30) (ci := 4) (k := 2) w dX4_init_27 rfl rfl (by omega) (by first | exact hk0 | exact k1 | exact k2 | exact k3 | exact k4 | exact kn) rfl rfl rfl (by omega) ⟨_, _, rfl⟩ ?_
  refine s_aload_n (pc2 := 31) w dX4_init_30 rfl rfl ?_
  refine g_new (pc2 := 34) (ci := 3) w dX4_init_31 rfl rfl rfl k4 (by omega) rfl (Nat.le_of_ble_eq_true rfl) ?_
  rw [zr_1, zy_1, zr_s (by omega) (by omega), zy_s (by omega) (by omega)]
  refine s_dup (pc2 := 35) w dX4_init_34 rfl rfl ?_
  refine r_X3_init (pc2 := 38) w dX4_init_35 rfl rfl rfl (by first | exact hk0 | exact k1 | exact k2 | exact k3 | exact k4 | exact kn) (by omega) ?_
  refine g_putR (pc2 := 41) (ci := 4) (k := 3) w dX4_init_38 rfl rfl (by omega) (by first | exact hk0 | exact k1 | exact k2 | exact k3 | exact k4 | exact kn) rfl rfl rfl (by omega) ⟨_, _, rfl⟩ ?_
  refine s_iconst (pc2 := 42) (v := 0) w dX4_init_41 rfl rfl ?_
  refine s_istore_n (pc2 := 43) (k2 := 1) w dX4_init_42 rfl rfl rfl ?_
  dsimp only [gk_s1, gk_s2, gk_cl]
  have h := key43 4 0 (by omega)
  rw [show 0 + (j + 5) = j + 1 + 1 + 1 + 1 + 1 from by omega] at h
  exact h
theorem lk_X4_initr {l : Launch} (hl : l.stackTraces = false) : ∀ q ∈ L_X4_initr, (q.2.1 < 5 → gk_Lk l RX4 gk_W1 3 q.1 q.2.1 q.2.2.1 q.2.2.2.1 q.2.2.2.2.1 q.2.2.2.2.2) := (List.forall_mem_cons.mpr ⟨(fun h => absurd h (by decide)), (List.forall_mem_cons.mpr ⟨(fun h => absurd h (by decide)), (List.forall_mem_cons.mpr ⟨(fun _ => ⟨yX3_init, cX3_init, 1, none, 1, _, M_X3_init hl, ⟨by decide, by decide⟩, ⟨by decide, by decide, by decide +kernel⟩, ⟨(gk_wm 137 (by decide +kernel)), (gk_wm 91 (by decide +kernel))⟩, Or.inr (Or.inr (Or.inr (Or.inr (Or.inr ⟨rfl, rfl, rfl, (gk_wm 136 (by decide +kernel)), rfl, nt_X3_init, Or.inr ⟨_, gk_nsm 0 rfl⟩⟩))))⟩), (List.forall_mem_cons.mpr ⟨(fun _ => ⟨yX7_init, cX7_init, 1, none, 2, _, M_X7_init hl, ⟨by decide, by decide⟩, ⟨by decide, by decide, by decide +kernel⟩, ⟨(gk_wm 159 (by decide +kernel)), (gk_wm 92 (by decide +kernel))⟩, Or.inr (Or.inr (Or.inr (Or.inr (Or.inr ⟨rfl, rfl, rfl, (gk_wm 158 (by decide +kernel)), rfl, nt_X7_init, Or.inr ⟨_, gk_nsm 1 rfl⟩⟩))))⟩), (List.forall_mem_cons.mpr ⟨(fun _ => ⟨yX1_init, cX1_init, 1, none, 1, _, M_X1_init hl, ⟨by decide, by decide⟩, ⟨by decide, by decide, by decide +kernel⟩, ⟨(gk_wm 184 (by decide +kernel)), (gk_wm 93 (by decide +kernel))⟩, Or.inr (Or.inr (Or.inr (Or.inr (Or.inr ⟨rfl, rfl, rfl, (gk_wm 183 (by decide +kernel)), rfl, nt_X1_init, Or.inr ⟨_, gk_nsm 3 rfl⟩⟩))))⟩), (List.forall_mem_cons.mpr ⟨(fun _ => ⟨yX4_clear, cX4_clear, 1, none, 1, _, M_X4_clear hl, ⟨by decide, by decide⟩, ⟨by decide, by decide, by decide +kernel⟩, ⟨(gk_wm 219 (by decide +kernel)), (gk_wm 90 (by decide +kernel))⟩, Or.inr (Or.inr (Or.inr (Or.inl ⟨rfl, rfl, (gk_wm 217 (by decide +kernel)), (gk_wm 218 (by decide +kernel)), gk_wm 216 (by decide +kernel), by decide, rfl⟩)))⟩), (fun _ h => absurd h List.not_mem_nil)⟩)⟩)⟩)⟩)⟩)⟩)
theorem sp_X4_initr : ∀ q ∈ L_X4_initr, gk_Sq RX4 gk_W1 3 q := (List.forall_mem_cons.mpr ⟨⟨fun h => absurd h (by decide), fun h => absurd h (by decide), fun h => absurd h (by decide), fun h => absurd h (by decide), fun h => absurd h (by decide), fun _ => rfl⟩, (List.forall_mem_cons.mpr ⟨⟨fun h => absurd h (by decide), fun h => absurd h (by decide), fun h => absurd h (by decide), fun h => absurd h (by decide), fun _ => ⟨by decide, gk_wm 127 (by decide +kernel), (gk_wm 120 (by decide +kernel)), gk_wm 121 (by decide +kernel)⟩, fun h => absurd h (by decide)⟩, (List.forall_mem_cons.mpr ⟨⟨fun h => absurd h (by decide), fun h => absurd h (by decide), fun h => absurd h (by decide), fun h => absurd h (by decide), fun h => absurd h (by decide), fun h => absurd h (by decide)⟩, (List.forall_mem_cons.mpr ⟨⟨fun h => absurd h (by decide), fun h => absurd h (by decide), fun h => absurd h (by decide), fun h => absurd h (by decide), fun h => absurd h (by decide), fun h => absurd h (by decide)⟩, (List.forall_mem_cons.mpr ⟨⟨fun h => absurd h (by decide), fun h => absurd h (by decide), fun h => absurd h (by decide), fun h => absurd h (by decide), fun h => absurd h (by decide), fun h => absurd h (by decide)⟩, (List.forall_mem_cons.mpr ⟨⟨fun h => absurd h (by decide), fun h => absurd h (by decide), fun h => absurd h (by decide), fun h => absurd h (by decide), fun h => absurd h (by decide), fun h => absurd h (by decide)⟩, (fun _ h => absurd h List.not_mem_nil)⟩)⟩)⟩)⟩)⟩)⟩)
theorem M_X4_initr {l : Launch} (hl : l.stackTraces = false) : gk_Mt l yX4_init (.code yX4_init cX4_init 2 none :: gk_W1) 3 2312 S_X4_initr := gk_meth hl gk_cw_ok (by decide +kernel) rfl m_X4_initr pX4_ok (gk_Sp_of sp_X4_initr) pX4_st (fun ci m S h => rfl) (xf_X4 3) (fun idx kd ci mm cost S2 h h5 => lk_X4_initr hl _ (gk_lk_mem h) h5)

def S_X4_init : gk_S := fun as n fl x y K => ∃ (j : Nat), as = [.ref j] ∧ gk_kd j = 4 ∧ (j < n) ∧ (BLK j) ∧ (n = j + 1) ∧ (K (.inl none) (j + 43) (fr fl j (j + 43)) (clX (zr x (j + 1) (j + 43)) j) (clY (zy y (j + 1) (j + 43)) j))
theorem r_X4_init (w : gk_W c P cs (fun _ _ => none) rt uf sc K V) {idx : Nat} {j : Nat} (hd : decode c pc = .ok (.invokespecial idx, 3)) (hp : pc + 3 = pc2) (hc : cs idx = some (2, 4, 1, 2312, S_X4_init)) (h8 : Nat.ble (r.map Value.category).sum 8 = true) (hu : u + 2312 ≤ uf) (hk0 : gk_kd j = 4) (hp0 : j < n) (hp1 : BLK j) (hp2 : n = j + 1) (kk0 : V pc2 L r (j + 43) (fr fl j (j + 43)) (clX (zr x (j + 1) (j + 43)) j) (clY (zy y (j + 1) (j + 43)) j) (u + 2312)) : V pc L (.ref j :: r) n fl x y u :=
  g_calli w hd hp hc (as := [.ref j]) rfl h8 rfl rfl rfl (Or.inr (Or.inl ⟨Or.inr rfl, _, _, rfl, hp0, hk0⟩)) (Or.inr hu) ⟨j, rfl, hk0, hp0, hp1, hp2, kk0⟩
theorem nt_X4_init : gk_nt S_X4_init := fun _ _ _ _ _ _ ⟨j, e0, e1, e2, e3, e4, e5⟩ => ⟨j, e0, e1, e2, e3, e4, e5⟩
theorem M_X4_init {l : Launch} (hl : l.stackTraces = false) : gk_Mt l yX4_init (.code yX4_init cX4_init 2 none :: gk_W1) 3 2312 S_X4_init := gk_Mt_fl (M_X4_initr hl) (fun as n fl x y K ⟨j, e0, hk0, _, hp1, hp2, q0⟩ => ⟨j, e0, hk0, hp1, hp2, ⟨_, fe_X4n hp1, q0⟩⟩)
end GKV

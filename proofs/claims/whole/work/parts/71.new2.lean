/-! THE METHODS, 40: what is made anew, 2 -/
section GKV
variable {c : ByteArray} {P : gk_C} {cs : Nat → Option gk_M0} {rt : Option FieldType} {uf : Nat} {sc : Option Nat} {K : gk_K} {V : gk_V}
variable {L : List (Option Value)} {r : List Value} {n : Nat} {fl : gk_F} {x : gk_X} {y : gk_Y} {u pc pc2 : Nat}
theorem fe_obj {fl F : gk_F} {j m : Nat} (hk : gk_kd j < 11) (hF : ∀ i k, i < j → F i k = fl i k) (hin : ∀ i, j < i → i < m → ∀ k, (gk_kd i < 11 → k < gk_nf (gk_kd i) → gk_fk (gk_kd i) k = 2 → F i k = true) ∧ (24 ≤ gk_kd i → k < gk_ln i → F i k = true)) (hj : ∀ k, k < gk_nf (gk_kd j) → gk_fk (gk_kd j) k = 2 → F j k = true) : gk_fe F (fr fl j m) m := by
  intro i hi k
  rcases Nat.lt_or_ge i j with h | h
  · rw [hF i k h, fr_ne (by omega)]
    exact ⟨fun _ _ _ => rfl, fun _ _ => rfl⟩
  rw [fr_in ⟨h, hi⟩]
  rcases Nat.lt_or_ge j i with h2 | h2
  · exact hin i h2 hi k
  · obtain rfl : i = j := by omega
    exact ⟨fun _ a b => hj k a b, fun a _ => by omega⟩
theorem fk_3 {k : Nat} (h : gk_fk 3 k = 2) : False := by
  have : gk_fk 3 k = 0 := rfl
  omega
theorem fk_2 {k : Nat} (h : gk_fk 2 k = 2) : False := by
  have : gk_fk 2 k = 1 := rfl
  omega
theorem fk_8 {k : Nat} (h : gk_fk 8 k = 2) : k = 0 ∨ k = 1 ∨ k = 2 := by
  rcases k with _ | _ | _ | k
  · exact Or.inl rfl
  · exact Or.inr (Or.inl rfl)
  · exact Or.inr (Or.inr rfl)
  · exact absurd h (by show ¬ gk_fk 8 (k + 1 + 1 + 1) = 2; intro h; cases h)
theorem fk_0 {k : Nat} (a : k < gk_nf 0) (h : gk_fk 0 k = 2) : k = 0 ∨ k = 1 ∨ k = 2 ∨ k = 3 := by
  have : gk_nf 0 = 4 := rfl
  omega
theorem fk_5 {k : Nat} (h : gk_fk 5 k = 2) : k = 2 ∨ k = 4 := by
  rcases k with _ | _ | _ | _ | _ | k
  · cases h
  · cases h
  · exact Or.inl rfl
  · cases h
  · exact Or.inr rfl
  · exact absurd h (by show ¬ gk_fk 5 (k + 1 + 1 + 1 + 1 + 1) = 2; intro h; cases h)
theorem fe_X7n {fl : gk_F} {j n : Nat} (hk0 : gk_kd j = 6) (hp0 : j < n) (hp1 : n + 2 ≤ 202) (hp2 : n = j + 1) (hp3 : gk_kd n = 3) (hp4 : gk_kd (n + 1) = 20) (hp5 : gk_ln (n + 1) = 16) : gk_fe (gk_uf (gk_f0 (gk_uf (gk_f0 fl n) j 0) (n + 1)) j 1) (fr fl j (n + 1 + 1)) (n + 1 + 1) := by
  refine fe_obj (by rw [hk0]; decide) (fun i k h => by rw [uf_ne (by omega), f0_ne (by omega), uf_ne (by omega), f0_ne (by omega)]) (fun i h1 h2 k => ?_) (fun k a b => ?_)
  · have hc : i = n ∨ i = (n + 1) := by omega
    rcases hc with rfl | rfl
    · exact ⟨fun _ _ b => by rw [hp3] at b; exact (fk_3 b).elim, fun a _ => by omega⟩
    · exact ⟨fun a _ _ => by omega, fun a _ => by omega⟩
  · rw [hk0] at a b
    have hb := fk_6 b
    rcases hb with rfl | rfl
    · rw [uf_ne (by omega), f0_ne (by omega), uf_in]
    · rw [uf_in]
def S_X7_initr : gk_S := fun as n fl x y K => ∃ (j : Nat), as = [.ref j] ∧ gk_kd j = 6 ∧ (j < n) ∧ (n + 2 ≤ 202) ∧ (n = j + 1) ∧ (gk_kd n = 3) ∧ (gk_kd (n + 1) = 20) ∧ (gk_ln (n + 1) = 16) ∧ (K (.inl none) (n + 1 + 1) (gk_uf (gk_f0 (gk_uf (gk_f0 fl n) j 0) (n + 1)) j 1) (zr x n (n + 1 + 1)) (zy y n (n + 1 + 1)))
def L_X7_initr : List (Nat × gk_M0) := [(0, (99, 6, 0, 0, fun _ _ _ _ _ _ => False)), (3, (9, 0, 0, 0, fun _ _ _ _ _ _ => False)), (11, (2, 3, 1, 0, S_X3_init))]
def cs_X7_initr : Nat → Option gk_M0 := gk_lk L_X7_initr
theorem m_X7_initr : ∀ (as : List Value) (n : Nat) (fl : gk_F) (x : gk_X) (y : gk_Y) (K : gk_K), S_X7_initr as n fl x y K → (gk_L0 as).length ≤ 1 ∧ ∀ V : gk_V, gk_W cX7_init pX7 cs_X7_initr (fun _ _ => none) none 22 none K V → V 0 (gk_en as 1) [] n fl x y 0 := by
  intro as n fl x y K hS
  obtain ⟨j, rfl, hk0, hp0, hp1, hp2, hp3, hp4, hp5, q0⟩ := hS
  refine ⟨Nat.le_of_ble_eq_true rfl, fun V w => ?_⟩
  show V 0 [some (.ref j)] [] n fl x y 0
  refine s_aload_n (pc2 := 1) w dX7_init_0 rfl rfl ?_
  refine s_obj (pc2 := 4) w dX7_init_1 rfl rfl rfl ?_
  refine s_aload_n (pc2 := 5) w dX7_init_4 rfl rfl ?_
  refine g_new (pc2 := 8) (ci := 3) w dX7_init_5 rfl rfl rfl hp3 (by omega) rfl (Nat.le_of_ble_eq_true rfl) ?_
  rw [zr_1, zy_1]
  refine s_dup (pc2 := 9) w dX7_init_8 rfl rfl ?_
  refine r_X3_init (pc2 := 12) w dX7_init_9 rfl rfl rfl (by first | exact hk0 | assumption) (by omega) ?_
  refine g_putR (pc2 := 15) (ci := 6) (k := 0) w dX7_init_12 rfl rfl (by omega) (by first | exact hk0 | assumption) rfl rfl (by rw [hp2]; rfl) (by omega) ⟨_, _, rfl⟩ ?_
  refine s_aload_n (pc2 := 16) w dX7_init_15 rfl rfl ?_
  refine s_bipush (pc2 := 18) (v := 16) w dX7_init_16 rfl rfl ?_
  refine g_newarray (pc2 := 20) w dX7_init_18 rfl (by decide) hp4 (by rw [hp5]; decide) (by omega) rfl (by rw [hp5]; exact Nat.le_of_ble_eq_true rfl) ?_
  rw [zr_1, zy_1, zr_s (by omega) (by omega), zy_s (by omega) (by omega)]
  rw [hp5]
  refine g_putR (pc2 := 23) (ci := 6) (k := 1) w dX7_init_20 rfl rfl (by omega) (by first | exact hk0 | assumption) rfl rfl (by rw [hp2]; rfl) (by omega) ⟨_, _, rfl⟩ ?_
  refine s_return w dX7_init_23 rfl ?_
  exact q0
theorem lk_X7_initr {l : Launch} (hl : l.stackTraces = false) : ∀ q ∈ L_X7_initr, (q.2.1 < 5 → gk_Lk l RX7 gk_W1 2 q.1 q.2.1 q.2.2.1 q.2.2.2.1 q.2.2.2.2.1 q.2.2.2.2.2) := (List.forall_mem_cons.mpr ⟨(fun h => absurd h (by decide)), (List.forall_mem_cons.mpr ⟨(fun h => absurd h (by decide)), (List.forall_mem_cons.mpr ⟨(fun _ => ⟨yX3_init, cX3_init, 1, none, 1, _, M_X3_init hl, ⟨by decide, by decide⟩, ⟨by decide, by decide, by decide +kernel⟩, ⟨(gk_wm 137 (by decide +kernel)), (gk_wm 91 (by decide +kernel))⟩, Or.inr (Or.inr (Or.inr (Or.inr (Or.inr ⟨rfl, rfl, rfl, (gk_wm 136 (by decide +kernel)), rfl, nt_X3_init, Or.inr ⟨_, gk_nsm 2 rfl⟩⟩))))⟩), (fun _ h => absurd h List.not_mem_nil)⟩)⟩)⟩)
theorem sp_X7_initr : ∀ q ∈ L_X7_initr, gk_Sq RX7 gk_W1 2 q := (List.forall_mem_cons.mpr ⟨⟨fun h => absurd h (by decide), fun h => absurd h (by decide), fun h => absurd h (by decide), fun h => absurd h (by decide), fun h => absurd h (by decide), fun _ => rfl⟩, (List.forall_mem_cons.mpr ⟨⟨fun h => absurd h (by decide), fun h => absurd h (by decide), fun h => absurd h (by decide), fun h => absurd h (by decide), fun _ => ⟨by decide, gk_wm 160 (by decide +kernel), (gk_wm 120 (by decide +kernel)), gk_wm 121 (by decide +kernel)⟩, fun h => absurd h (by decide)⟩, (List.forall_mem_cons.mpr ⟨⟨fun h => absurd h (by decide), fun h => absurd h (by decide), fun h => absurd h (by decide), fun h => absurd h (by decide), fun h => absurd h (by decide), fun h => absurd h (by decide)⟩, (fun _ h => absurd h List.not_mem_nil)⟩)⟩)⟩)
theorem M_X7_initr {l : Launch} (hl : l.stackTraces = false) : gk_Mt l yX7_init (.code yX7_init cX7_init 1 none :: gk_W1) 2 22 S_X7_initr := gk_meth hl gk_cw_ok (by decide +kernel) rfl m_X7_initr pX7_ok (gk_Sp_of sp_X7_initr) pX7_st (fun ci m S h => rfl) (xf_X7 2) (fun idx kd ci mm cost S2 h h5 => lk_X7_initr hl _ (gk_lk_mem h) h5)

def S_X7_init : gk_S := fun as n fl x y K => ∃ (j : Nat), as = [.ref j] ∧ gk_kd j = 6 ∧ (j < n) ∧ (n + 2 ≤ 202) ∧ (n = j + 1) ∧ (gk_kd n = 3) ∧ (gk_kd (n + 1) = 20) ∧ (gk_ln (n + 1) = 16) ∧ (K (.inl none) (n + 1 + 1) (fr fl j (n + 1 + 1)) (zr x n (n + 1 + 1)) (zy y n (n + 1 + 1)))
theorem r_X7_init (w : gk_W c P cs (fun _ _ => none) rt uf sc K V) {idx : Nat} {j : Nat} (hd : decode c pc = .ok (.invokespecial idx, 3)) (hp : pc + 3 = pc2) (hc : cs idx = some (2, 6, 1, 22, S_X7_init)) (h8 : Nat.ble (r.map Value.category).sum 8 = true) (hu : u + 22 ≤ uf) (hk0 : gk_kd j = 6) (hp0 : j < n) (hp1 : n + 2 ≤ 202) (hp2 : n = j + 1) (hp3 : gk_kd n = 3) (hp4 : gk_kd (n + 1) = 20) (hp5 : gk_ln (n + 1) = 16) (kk0 : V pc2 L r (n + 1 + 1) (fr fl j (n + 1 + 1)) (zr x n (n + 1 + 1)) (zy y n (n + 1 + 1)) (u + 22)) : V pc L (.ref j :: r) n fl x y u :=
  g_calli w hd hp hc (as := [.ref j]) rfl h8 rfl rfl rfl (Or.inr (Or.inl ⟨Or.inr rfl, _, _, rfl, hp0, hk0⟩)) (Or.inr hu) ⟨j, rfl, hk0, hp0, hp1, hp2, hp3, hp4, hp5, kk0⟩
theorem nt_X7_init : gk_nt S_X7_init := fun _ _ _ _ _ _ ⟨j, e0, e1, e2, e3, e4, e5, e6, e7, e8⟩ => ⟨j, e0, e1, e2, e3, e4, e5, e6, e7, e8⟩
theorem M_X7_init {l : Launch} (hl : l.stackTraces = false) : gk_Mt l yX7_init (.code yX7_init cX7_init 1 none :: gk_W1) 2 22 S_X7_init := gk_Mt_fl (M_X7_initr hl) (fun as n fl x y K ⟨j, e0, hk0, hp0, hp1, hp2, hp3, hp4, hp5, q0⟩ => ⟨j, e0, hk0, hp0, hp1, hp2, hp3, hp4, hp5, ⟨_, fe_X7n hk0 hp0 hp1 hp2 hp3 hp4 hp5, q0⟩⟩)

theorem fe_X9n {fl : gk_F} {j n : Nat} (hk0 : gk_kd j = 8) (hp0 : j < n) (hp1 : n + 3 ≤ 202) (hp2 : n = j + 1) (hp3 : gk_kd n = 20) (hp4 : gk_ln n = 501) (hp5 : gk_kd (n + 1) = 20) (hp6 : gk_ln (n + 1) = 501) (hp7 : gk_kd (n + 1 + 1) = 20) (hp8 : gk_ln (n + 1 + 1) = 501) : gk_fe (gk_uf (gk_f0 (gk_uf (gk_f0 (gk_uf (gk_f0 fl n) j 0) (n + 1)) j 1) (n + 1 + 1)) j 2) (fr fl j (n + 1 + 1 + 1)) (n + 1 + 1 + 1) := by
  refine fe_obj (by rw [hk0]; decide) (fun i k h => by rw [uf_ne (by omega), f0_ne (by omega), uf_ne (by omega), f0_ne (by omega), uf_ne (by omega), f0_ne (by omega)]) (fun i h1 h2 k => ?_) (fun k a b => ?_)
  · have hc : i = n ∨ i = (n + 1) ∨ i = (n + 1 + 1) := by omega
    rcases hc with rfl | rfl | rfl
    · exact ⟨fun a _ _ => by omega, fun a _ => by omega⟩
    · exact ⟨fun a _ _ => by omega, fun a _ => by omega⟩
    · exact ⟨fun a _ _ => by omega, fun a _ => by omega⟩
  · rw [hk0] at a b
    have hb := fk_8 b
    rcases hb with rfl | rfl | rfl
    · rw [uf_ne (by omega), f0_ne (by omega), uf_ne (by omega), f0_ne (by omega), uf_in]
    · rw [uf_ne (by omega), f0_ne (by omega), uf_in]
    · rw [uf_in]
def S_X9_initr : gk_S := fun as n fl x y K => ∃ (j : Nat), as = [.ref j] ∧ gk_kd j = 8 ∧ (j < n) ∧ (n + 3 ≤ 202) ∧ (n = j + 1) ∧ (gk_kd n = 20) ∧ (gk_ln n = 501) ∧ (gk_kd (n + 1) = 20) ∧ (gk_ln (n + 1) = 501) ∧ (gk_kd (n + 1 + 1) = 20) ∧ (gk_ln (n + 1 + 1) = 501) ∧ (K (.inl none) (n + 1 + 1 + 1) (gk_uf (gk_f0 (gk_uf (gk_f0 (gk_uf (gk_f0 fl n) j 0) (n + 1)) j 1) (n + 1 + 1)) j 2) (zr x n (n + 1 + 1 + 1)) (zy y n (n + 1 + 1 + 1)))
def L_X9_initr : List (Nat × gk_M0) := [(0, (99, 8, 0, 0, fun _ _ _ _ _ _ => False)), (3, (9, 0, 0, 0, fun _ _ _ _ _ _ => False))]
def cs_X9_initr : Nat → Option gk_M0 := gk_lk L_X9_initr
theorem m_X9_initr : ∀ (as : List Value) (n : Nat) (fl : gk_F) (x : gk_X) (y : gk_Y) (K : gk_K), S_X9_initr as n fl x y K → (gk_L0 as).length ≤ 1 ∧ ∀ V : gk_V, gk_W cX9_init pX9 cs_X9_initr (fun _ _ => none) none 1506 none K V → V 0 (gk_en as 1) [] n fl x y 0 := by
  intro as n fl x y K hS
  obtain ⟨j, rfl, hk0, hp0, hp1, hp2, hp3, hp4, hp5, hp6, hp7, hp8, q0⟩ := hS
  refine ⟨Nat.le_of_ble_eq_true rfl, fun V w => ?_⟩
  show V 0 [some (.ref j)] [] n fl x y 0
  refine s_aload_n (pc2 := 1) w dX9_init_0 rfl rfl ?_
  refine s_obj (pc2 := 4) w dX9_init_1 rfl rfl rfl ?_
  refine s_aload_n (pc2 := 5) w dX9_init_4 rfl rfl ?_
  refine s_sipush (pc2 := 8) (v := 501) w dX9_init_5 rfl rfl ?_
  refine g_newarray (pc2 := 10) w dX9_init_8 rfl (by decide) hp3 (by rw [hp4]; decide) (by omega) rfl (by rw [hp4]; exact Nat.le_of_ble_eq_true rfl) ?_
  rw [zr_1, zy_1]
  rw [hp4]
  refine g_putR (pc2 := 13) (ci := 8) (k := 0) w dX9_init_10 rfl rfl (by omega) (by first | exact hk0 | assumption) rfl rfl (by rw [hp2]; rfl) (by omega) ⟨_, _, rfl⟩ ?_
  refine s_aload_n (pc2 := 14) w dX9_init_13 rfl rfl ?_
  refine s_sipush (pc2 := 17) (v := 501) w dX9_init_14 rfl rfl ?_
  refine g_newarray (pc2 := 19) w dX9_init_17 rfl (by decide) hp5 (by rw [hp6]; decide) (by omega) rfl (by rw [hp6]; exact Nat.le_of_ble_eq_true rfl) ?_
  rw [zr_1, zy_1, zr_s (by omega) (by omega), zy_s (by omega) (by omega)]
  rw [hp6]
  refine g_putR (pc2 := 22) (ci := 8) (k := 1) w dX9_init_19 rfl rfl (by omega) (by first | exact hk0 | assumption) rfl rfl (by rw [hp2]; rfl) (by omega) ⟨_, _, rfl⟩ ?_
  refine s_aload_n (pc2 := 23) w dX9_init_22 rfl rfl ?_
  refine s_sipush (pc2 := 26) (v := 501) w dX9_init_23 rfl rfl ?_
  refine g_newarray (pc2 := 28) w dX9_init_26 rfl (by decide) hp7 (by rw [hp8]; decide) (by omega) rfl (by rw [hp8]; exact Nat.le_of_ble_eq_true rfl) ?_
  rw [zr_1, zy_1, zr_s (by omega) (by omega), zy_s (by omega) (by omega)]
  rw [hp8]
  refine g_putR (pc2 := 31) (ci := 8) (k := 2) w dX9_init_28 rfl rfl (by omega) (by first | exact hk0 | assumption) rfl rfl (by rw [hp2]; rfl) (by omega) ⟨_, _, rfl⟩ ?_
  refine s_return w dX9_init_31 rfl ?_
  exact q0
theorem lk_X9_initr {l : Launch} (hl : l.stackTraces = false) : ∀ q ∈ L_X9_initr, (q.2.1 < 5 → gk_Lk l RX9 gk_W1 1 q.1 q.2.1 q.2.2.1 q.2.2.2.1 q.2.2.2.2.1 q.2.2.2.2.2) := (List.forall_mem_cons.mpr ⟨(fun h => absurd h (by decide)), (List.forall_mem_cons.mpr ⟨(fun h => absurd h (by decide)), (fun _ h => absurd h List.not_mem_nil)⟩)⟩)
theorem sp_X9_initr : ∀ q ∈ L_X9_initr, gk_Sq RX9 gk_W1 1 q := (List.forall_mem_cons.mpr ⟨⟨fun h => absurd h (by decide), fun h => absurd h (by decide), fun h => absurd h (by decide), fun h => absurd h (by decide), fun h => absurd h (by decide), fun _ => rfl⟩, (List.forall_mem_cons.mpr ⟨⟨fun h => absurd h (by decide), fun h => absurd h (by decide), fun h => absurd h (by decide), fun h => absurd h (by decide), fun _ => ⟨by decide, gk_wm 371 (by decide +kernel), (gk_wm 120 (by decide +kernel)), gk_wm 121 (by decide +kernel)⟩, fun h => absurd h (by decide)⟩, (fun _ h => absurd h List.not_mem_nil)⟩)⟩)
theorem M_X9_initr {l : Launch} (hl : l.stackTraces = false) : gk_Mt l yX9_init (.code yX9_init cX9_init 1 none :: gk_W1) 1 1506 S_X9_initr := gk_meth hl gk_cw_ok (by decide +kernel) rfl m_X9_initr pX9_ok (gk_Sp_of sp_X9_initr) pX9_st (fun ci m S h => rfl) (xf_X9 1) (fun idx kd ci mm cost S2 h h5 => lk_X9_initr hl _ (gk_lk_mem h) h5)

def S_X9_init : gk_S := fun as n fl x y K => ∃ (j : Nat), as = [.ref j] ∧ gk_kd j = 8 ∧ (j < n) ∧ (n + 3 ≤ 202) ∧ (n = j + 1) ∧ (gk_kd n = 20) ∧ (gk_ln n = 501) ∧ (gk_kd (n + 1) = 20) ∧ (gk_ln (n + 1) = 501) ∧ (gk_kd (n + 1 + 1) = 20) ∧ (gk_ln (n + 1 + 1) = 501) ∧ (K (.inl none) (n + 1 + 1 + 1) (fr fl j (n + 1 + 1 + 1)) (zr x n (n + 1 + 1 + 1)) (zy y n (n + 1 + 1 + 1)))
theorem r_X9_init (w : gk_W c P cs (fun _ _ => none) rt uf sc K V) {idx : Nat} {j : Nat} (hd : decode c pc = .ok (.invokespecial idx, 3)) (hp : pc + 3 = pc2) (hc : cs idx = some (2, 8, 1, 1506, S_X9_init)) (h8 : Nat.ble (r.map Value.category).sum 8 = true) (hu : u + 1506 ≤ uf) (hk0 : gk_kd j = 8) (hp0 : j < n) (hp1 : n + 3 ≤ 202) (hp2 : n = j + 1) (hp3 : gk_kd n = 20) (hp4 : gk_ln n = 501) (hp5 : gk_kd (n + 1) = 20) (hp6 : gk_ln (n + 1) = 501) (hp7 : gk_kd (n + 1 + 1) = 20) (hp8 : gk_ln (n + 1 + 1) = 501) (kk0 : V pc2 L r (n + 1 + 1 + 1) (fr fl j (n + 1 + 1 + 1)) (zr x n (n + 1 + 1 + 1)) (zy y n (n + 1 + 1 + 1)) (u + 1506)) : V pc L (.ref j :: r) n fl x y u :=
  g_calli w hd hp hc (as := [.ref j]) rfl h8 rfl rfl rfl (Or.inr (Or.inl ⟨Or.inr rfl, _, _, rfl, hp0, hk0⟩)) (Or.inr hu) ⟨j, rfl, hk0, hp0, hp1, hp2, hp3, hp4, hp5, hp6, hp7, hp8, kk0⟩
theorem nt_X9_init : gk_nt S_X9_init := fun _ _ _ _ _ _ ⟨j, e0, e1, e2, e3, e4, e5, e6, e7, e8, e9, e10, e11⟩ => ⟨j, e0, e1, e2, e3, e4, e5, e6, e7, e8, e9, e10, e11⟩
theorem M_X9_init {l : Launch} (hl : l.stackTraces = false) : gk_Mt l yX9_init (.code yX9_init cX9_init 1 none :: gk_W1) 1 1506 S_X9_init := gk_Mt_fl (M_X9_initr hl) (fun as n fl x y K ⟨j, e0, hk0, hp0, hp1, hp2, hp3, hp4, hp5, hp6, hp7, hp8, q0⟩ => ⟨j, e0, hk0, hp0, hp1, hp2, hp3, hp4, hp5, hp6, hp7, hp8, ⟨_, fe_X9n hk0 hp0 hp1 hp2 hp3 hp4 hp5 hp6 hp7 hp8, q0⟩⟩)

theorem fe_X0n {fl : gk_F} {j n : Nat} (hk0 : gk_kd j = 0) (hp0 : j < n) (hp1 : n + 4 ≤ 202) (hp2 : n = j + 1) (hp3 : gk_kd n = 20) (hp4 : gk_ln n = 256) (hp5 : gk_kd (n + 1) = 20) (hp6 : gk_ln (n + 1) = 256) (hp7 : gk_kd (n + 1 + 1) = 2) (hp8 : gk_kd (n + 1 + 1 + 1) = 2) : gk_fe (gk_uf (gk_f0 (gk_uf (gk_f0 (gk_uf (gk_f0 (gk_uf (gk_f0 fl n) j 0) (n + 1)) j 1) (n + 1 + 1)) j 2) (n + 1 + 1 + 1)) j 3) (fr fl j (n + 1 + 1 + 1 + 1)) (n + 1 + 1 + 1 + 1) := by
  refine fe_obj (by rw [hk0]; decide) (fun i k h => by rw [uf_ne (by omega), f0_ne (by omega), uf_ne (by omega), f0_ne (by omega), uf_ne (by omega), f0_ne (by omega), uf_ne (by omega), f0_ne (by omega)]) (fun i h1 h2 k => ?_) (fun k a b => ?_)
  · have hc : i = n ∨ i = (n + 1) ∨ i = (n + 1 + 1) ∨ i = (n + 1 + 1 + 1) := by omega
    rcases hc with rfl | rfl | rfl | rfl
    · exact ⟨fun a _ _ => by omega, fun a _ => by omega⟩
    · exact ⟨fun a _ _ => by omega, fun a _ => by omega⟩
    · exact ⟨fun _ _ b => by rw [hp7] at b; exact (fk_2 b).elim, fun a _ => by omega⟩
    · exact ⟨fun _ _ b => by rw [hp8] at b; exact (fk_2 b).elim, fun a _ => by omega⟩
  · rw [hk0] at a b
    have hb := fk_0 a b
    rcases hb with rfl | rfl | rfl | rfl
    · rw [uf_ne (by omega), f0_ne (by omega), uf_ne (by omega), f0_ne (by omega), uf_ne (by omega), f0_ne (by omega), uf_in]
    · rw [uf_ne (by omega), f0_ne (by omega), uf_ne (by omega), f0_ne (by omega), uf_in]
    · rw [uf_ne (by omega), f0_ne (by omega), uf_in]
    · rw [uf_in]
def S_X0_initr : gk_S := fun as n fl x y K => ∃ (j : Nat), as = [.ref j] ∧ gk_kd j = 0 ∧ (j < n) ∧ (n + 4 ≤ 202) ∧ (n = j + 1) ∧ (gk_kd n = 20) ∧ (gk_ln n = 256) ∧ (gk_kd (n + 1) = 20) ∧ (gk_ln (n + 1) = 256) ∧ (gk_kd (n + 1 + 1) = 2) ∧ (gk_kd (n + 1 + 1 + 1) = 2) ∧ (K (.inl none) (n + 1 + 1 + 1 + 1) (gk_uf (gk_f0 (gk_uf (gk_f0 (gk_uf (gk_f0 (gk_uf (gk_f0 fl n) j 0) (n + 1)) j 1) (n + 1 + 1)) j 2) (n + 1 + 1 + 1)) j 3) (zr x n (n + 1 + 1 + 1 + 1)) (zy y n (n + 1 + 1 + 1 + 1)))
def L_X0_initr : List (Nat × gk_M0) := [(0, (99, 0, 0, 0, fun _ _ _ _ _ _ => False)), (3, (9, 0, 0, 0, fun _ _ _ _ _ _ => False)), (20, (2, 2, 1, 0, S_X2_init))]
def cs_X0_initr : Nat → Option gk_M0 := gk_lk L_X0_initr
theorem m_X0_initr : ∀ (as : List Value) (n : Nat) (fl : gk_F) (x : gk_X) (y : gk_Y) (K : gk_K), S_X0_initr as n fl x y K → (gk_L0 as).length ≤ 1 ∧ ∀ V : gk_V, gk_W cX0_init pX0 cs_X0_initr (fun _ _ => none) none 522 none K V → V 0 (gk_en as 1) [] n fl x y 0 := by
  intro as n fl x y K hS
  obtain ⟨j, rfl, hk0, hp0, hp1, hp2, hp3, hp4, hp5, hp6, hp7, hp8, q0⟩ := hS
  refine ⟨Nat.le_of_ble_eq_true rfl, fun V w => ?_⟩
  show V 0 [some (.ref j)] [] n fl x y 0
  refine s_aload_n (pc2 := 1) w dX0_init_0 rfl rfl ?_
  refine s_obj (pc2 := 4) w dX0_init_1 rfl rfl rfl ?_
  refine s_aload_n (pc2 := 5) w dX0_init_4 rfl rfl ?_
  refine s_sipush (pc2 := 8) (v := 256) w dX0_init_5 rfl rfl ?_
  refine g_newarray (pc2 := 10) w dX0_init_8 rfl (by decide) hp3 (by rw [hp4]; decide) (by omega) rfl (by rw [hp4]; exact Nat.le_of_ble_eq_true rfl) ?_
  rw [zr_1, zy_1]
  rw [hp4]
  refine g_putR (pc2 := 13) (ci := 0) (k := 0) w dX0_init_10 rfl rfl (by omega) (by first | exact hk0 | assumption) rfl rfl (by rw [hp2]; rfl) (by omega) ⟨_, _, rfl⟩ ?_
  refine s_aload_n (pc2 := 14) w dX0_init_13 rfl rfl ?_
  refine s_sipush (pc2 := 17) (v := 256) w dX0_init_14 rfl rfl ?_
  refine g_newarray (pc2 := 19) w dX0_init_17 rfl (by decide) hp5 (by rw [hp6]; decide) (by omega) rfl (by rw [hp6]; exact Nat.le_of_ble_eq_true rfl) ?_
  rw [zr_1, zy_1, zr_s (by omega) (by omega), zy_s (by omega) (by omega)]
  rw [hp6]
  refine g_putR (pc2 := 22) (ci := 0) (k := 1) w dX0_init_19 rfl rfl (by omega) (by first | exact hk0 | assumption) rfl rfl (by rw [hp2]; rfl) (by omega) ⟨_, _, rfl⟩ ?_
  refine s_aload_n (pc2 := 23) w dX0_init_22 rfl rfl ?_
  refine g_new (pc2 := 26) (ci := 2) w dX0_init_23 rfl rfl rfl hp7 (by omega) rfl (Nat.le_of_ble_eq_true rfl) ?_
  rw [zr_1, zy_1, zr_s (by omega) (by omega), zy_s (by omega) (by omega)]
  refine s_dup (pc2 := 27) w dX0_init_26 rfl rfl ?_
  refine r_X2_init (pc2 := 30) w dX0_init_27 rfl rfl rfl (by first | exact hk0 | assumption) (by omega) ?_
  refine g_putR (pc2 := 33) (ci := 0) (k := 2) w dX0_init_30 rfl rfl (by omega) (by first | exact hk0 | assumption) rfl rfl (by rw [hp2]; rfl) (by omega) ⟨_, _, rfl⟩ ?_
  refine s_aload_n (pc2 := 34) w dX0_init_33 rfl rfl ?_
  refine g_new (pc2 := 37) (ci := 2) w dX0_init_34 rfl rfl rfl hp8 (by omega) rfl (Nat.le_of_ble_eq_true rfl) ?_
  rw [zr_1, zy_1, zr_s (by omega) (by omega), zy_s (by omega) (by omega)]
  refine s_dup (pc2 := 38) w dX0_init_37 rfl rfl ?_
  refine r_X2_init (pc2 := 41) w dX0_init_38 rfl rfl rfl (by first | exact hk0 | assumption) (by omega) ?_
  refine g_putR (pc2 := 44) (ci := 0) (k := 3) w dX0_init_41 rfl rfl (by omega) (by first | exact hk0 | assumption) rfl rfl (by rw [hp2]; rfl) (by omega) ⟨_, _, rfl⟩ ?_
  refine s_return w dX0_init_44 rfl ?_
  exact q0
theorem lk_X0_initr {l : Launch} (hl : l.stackTraces = false) : ∀ q ∈ L_X0_initr, (q.2.1 < 5 → gk_Lk l RX0 gk_W1 2 q.1 q.2.1 q.2.2.1 q.2.2.2.1 q.2.2.2.2.1 q.2.2.2.2.2) := (List.forall_mem_cons.mpr ⟨(fun h => absurd h (by decide)), (List.forall_mem_cons.mpr ⟨(fun h => absurd h (by decide)), (List.forall_mem_cons.mpr ⟨(fun _ => ⟨yX2_init, cX2_init, 1, none, 1, _, M_X2_init hl, ⟨by decide, by decide⟩, ⟨by decide, by decide, by decide +kernel⟩, ⟨(gk_wm 311 (by decide +kernel)), (gk_wm 94 (by decide +kernel))⟩, Or.inr (Or.inr (Or.inr (Or.inr (Or.inr ⟨rfl, rfl, rfl, (gk_wm 310 (by decide +kernel)), rfl, nt_X2_init, Or.inr ⟨_, gk_nsm 6 rfl⟩⟩))))⟩), (fun _ h => absurd h List.not_mem_nil)⟩)⟩)⟩)
theorem sp_X0_initr : ∀ q ∈ L_X0_initr, gk_Sq RX0 gk_W1 2 q := (List.forall_mem_cons.mpr ⟨⟨fun h => absurd h (by decide), fun h => absurd h (by decide), fun h => absurd h (by decide), fun h => absurd h (by decide), fun h => absurd h (by decide), fun _ => rfl⟩, (List.forall_mem_cons.mpr ⟨⟨fun h => absurd h (by decide), fun h => absurd h (by decide), fun h => absurd h (by decide), fun h => absurd h (by decide), fun _ => ⟨by decide, gk_wm 329 (by decide +kernel), (gk_wm 120 (by decide +kernel)), gk_wm 121 (by decide +kernel)⟩, fun h => absurd h (by decide)⟩, (List.forall_mem_cons.mpr ⟨⟨fun h => absurd h (by decide), fun h => absurd h (by decide), fun h => absurd h (by decide), fun h => absurd h (by decide), fun h => absurd h (by decide), fun h => absurd h (by decide)⟩, (fun _ h => absurd h List.not_mem_nil)⟩)⟩)⟩)
theorem M_X0_initr {l : Launch} (hl : l.stackTraces = false) : gk_Mt l yX0_init (.code yX0_init cX0_init 1 none :: gk_W1) 2 522 S_X0_initr := gk_meth hl gk_cw_ok (by decide +kernel) rfl m_X0_initr pX0_ok (gk_Sp_of sp_X0_initr) pX0_st (fun ci m S h => rfl) (xf_X0 2) (fun idx kd ci mm cost S2 h h5 => lk_X0_initr hl _ (gk_lk_mem h) h5)

def S_X0_init : gk_S := fun as n fl x y K => ∃ (j : Nat), as = [.ref j] ∧ gk_kd j = 0 ∧ (j < n) ∧ (n + 4 ≤ 202) ∧ (n = j + 1) ∧ (gk_kd n = 20) ∧ (gk_ln n = 256) ∧ (gk_kd (n + 1) = 20) ∧ (gk_ln (n + 1) = 256) ∧ (gk_kd (n + 1 + 1) = 2) ∧ (gk_kd (n + 1 + 1 + 1) = 2) ∧ (K (.inl none) (n + 1 + 1 + 1 + 1) (fr fl j (n + 1 + 1 + 1 + 1)) (zr x n (n + 1 + 1 + 1 + 1)) (zy y n (n + 1 + 1 + 1 + 1)))
theorem r_X0_init (w : gk_W c P cs (fun _ _ => none) rt uf sc K V) {idx : Nat} {j : Nat} (hd : decode c pc = .ok (.invokespecial idx, 3)) (hp : pc + 3 = pc2) (hc : cs idx = some (2, 0, 1, 522, S_X0_init)) (h8 : Nat.ble (r.map Value.category).sum 8 = true) (hu : u + 522 ≤ uf) (hk0 : gk_kd j = 0) (hp0 : j < n) (hp1 : n + 4 ≤ 202) (hp2 : n = j + 1) (hp3 : gk_kd n = 20) (hp4 : gk_ln n = 256) (hp5 : gk_kd (n + 1) = 20) (hp6 : gk_ln (n + 1) = 256) (hp7 : gk_kd (n + 1 + 1) = 2) (hp8 : gk_kd (n + 1 + 1 + 1) = 2) (kk0 : V pc2 L r (n + 1 + 1 + 1 + 1) (fr fl j (n + 1 + 1 + 1 + 1)) (zr x n (n + 1 + 1 + 1 + 1)) (zy y n (n + 1 + 1 + 1 + 1)) (u + 522)) : V pc L (.ref j :: r) n fl x y u :=
  g_calli w hd hp hc (as := [.ref j]) rfl h8 rfl rfl rfl (Or.inr (Or.inl ⟨Or.inr rfl, _, _, rfl, hp0, hk0⟩)) (Or.inr hu) ⟨j, rfl, hk0, hp0, hp1, hp2, hp3, hp4, hp5, hp6, hp7, hp8, kk0⟩
theorem nt_X0_init : gk_nt S_X0_init := fun _ _ _ _ _ _ ⟨j, e0, e1, e2, e3, e4, e5, e6, e7, e8, e9, e10, e11⟩ => ⟨j, e0, e1, e2, e3, e4, e5, e6, e7, e8, e9, e10, e11⟩
theorem M_X0_init {l : Launch} (hl : l.stackTraces = false) : gk_Mt l yX0_init (.code yX0_init cX0_init 1 none :: gk_W1) 2 522 S_X0_init := gk_Mt_fl (M_X0_initr hl) (fun as n fl x y K ⟨j, e0, hk0, hp0, hp1, hp2, hp3, hp4, hp5, hp6, hp7, hp8, q0⟩ => ⟨j, e0, hk0, hp0, hp1, hp2, hp3, hp4, hp5, hp6, hp7, hp8, ⟨_, fe_X0n hk0 hp0 hp1 hp2 hp3 hp4 hp5 hp6 hp7 hp8, q0⟩⟩)

theorem fe_X5n {fl : gk_F} {j n : Nat} (hk0 : gk_kd j = 5) (hp0 : j < n) (hp1 : n + 5 ≤ 202) (hp2 : n = j + 1) (hp3 : gk_kd n = 8) (hp4 : gk_kd (n + 1) = 20) (hp5 : gk_ln (n + 1) = 501) (hp6 : gk_kd (n + 1 + 1) = 20) (hp7 : gk_ln (n + 1 + 1) = 501) (hp8 : gk_kd (n + 1 + 1 + 1) = 20) (hp9 : gk_ln (n + 1 + 1 + 1) = 501) (hp10 : gk_kd (n + 1 + 1 + 1 + 1) = 20) (hp11 : gk_ln (n + 1 + 1 + 1 + 1) = 20) : gk_fe (gk_uf (gk_f0 (gk_uf (fr (gk_f0 fl n) n (n + 1 + 1 + 1 + 1)) j 2) (n + 1 + 1 + 1 + 1)) j 4) (fr fl j (n + 1 + 1 + 1 + 1 + 1)) (n + 1 + 1 + 1 + 1 + 1) := by
  refine fe_obj (by rw [hk0]; decide) (fun i k h => by rw [uf_ne (by omega), f0_ne (by omega), uf_ne (by omega), fr_ne (by omega), f0_ne (by omega)]) (fun i h1 h2 k => ?_) (fun k a b => ?_)
  · have hc : i = n ∨ i = (n + 1) ∨ i = (n + 1 + 1) ∨ i = (n + 1 + 1 + 1) ∨ i = (n + 1 + 1 + 1 + 1) := by omega
    rcases hc with rfl | rfl | rfl | rfl | rfl
    · exact ⟨fun _ _ _ => by rw [uf_ne (by omega), f0_ne (by omega), uf_ne (by omega), fr_in (by omega)], fun a _ => by omega⟩
    · exact ⟨fun a _ _ => by omega, fun a _ => by omega⟩
    · exact ⟨fun a _ _ => by omega, fun a _ => by omega⟩
    · exact ⟨fun a _ _ => by omega, fun a _ => by omega⟩
    · exact ⟨fun a _ _ => by omega, fun a _ => by omega⟩
  · rw [hk0] at a b
    have hb := fk_5 b
    rcases hb with rfl | rfl
    · rw [uf_ne (by omega), f0_ne (by omega), uf_in]
    · rw [uf_in]
def S_X5_initr : gk_S := fun as n fl x y K => ∃ (j : Nat), as = [.ref j] ∧ gk_kd j = 5 ∧ (j < n) ∧ (n + 5 ≤ 202) ∧ (n = j + 1) ∧ (gk_kd n = 8) ∧ (gk_kd (n + 1) = 20) ∧ (gk_ln (n + 1) = 501) ∧ (gk_kd (n + 1 + 1) = 20) ∧ (gk_ln (n + 1 + 1) = 501) ∧ (gk_kd (n + 1 + 1 + 1) = 20) ∧ (gk_ln (n + 1 + 1 + 1) = 501) ∧ (gk_kd (n + 1 + 1 + 1 + 1) = 20) ∧ (gk_ln (n + 1 + 1 + 1 + 1) = 20) ∧ (K (.inl none) (n + 1 + 1 + 1 + 1 + 1) (gk_uf (gk_f0 (gk_uf (fr (gk_f0 fl n) n (n + 1 + 1 + 1 + 1)) j 2) (n + 1 + 1 + 1 + 1)) j 4) (zr (gk_up x j 1 (-1)) n (n + 1 + 1 + 1 + 1 + 1)) (zy y n (n + 1 + 1 + 1 + 1 + 1)))
def L_X5_initr : List (Nat × gk_M0) := [(0, (99, 5, 0, 0, fun _ _ _ _ _ _ => False)), (3, (9, 0, 0, 0, fun _ _ _ _ _ _ => False)), (17, (2, 8, 1, 1506, S_X9_init))]
def cs_X5_initr : Nat → Option gk_M0 := gk_lk L_X5_initr
theorem m_X5_initr : ∀ (as : List Value) (n : Nat) (fl : gk_F) (x : gk_X) (y : gk_Y) (K : gk_K), S_X5_initr as n fl x y K → (gk_L0 as).length ≤ 1 ∧ ∀ V : gk_V, gk_W cX5_init pX5 cs_X5_initr (fun _ _ => none) none 1532 none K V → V 0 (gk_en as 1) [] n fl x y 0 := by
  intro as n fl x y K hS
  obtain ⟨j, rfl, hk0, hp0, hp1, hp2, hp3, hp4, hp5, hp6, hp7, hp8, hp9, hp10, hp11, q0⟩ := hS
  refine ⟨Nat.le_of_ble_eq_true rfl, fun V w => ?_⟩
  show V 0 [some (.ref j)] [] n fl x y 0
  refine s_aload_n (pc2 := 1) w dX5_init_0 rfl rfl ?_
  refine s_obj (pc2 := 4) w dX5_init_1 rfl rfl rfl ?_
  refine s_aload_n (pc2 := 5) w dX5_init_4 rfl rfl ?_
  refine s_iconst (pc2 := 6) (v := (-1)) w dX5_init_5 rfl rfl ?_
  refine g_putI (pc2 := 9) (ci := 5) (k := 1) w dX5_init_6 rfl rfl (by omega) (by first | exact hk0 | assumption) rfl rfl (by intro h; cases h) ?_
  refine s_aload_n (pc2 := 10) w dX5_init_9 rfl rfl ?_
  refine g_new (pc2 := 13) (ci := 8) w dX5_init_10 rfl rfl rfl hp3 (by omega) rfl (Nat.le_of_ble_eq_true rfl) ?_
  rw [zr_1, zy_1]
  refine s_dup (pc2 := 14) w dX5_init_13 rfl rfl ?_
  refine r_X9_init (pc2 := 17) w dX5_init_14 rfl rfl rfl (Nat.le_of_ble_eq_true rfl) (by first | exact hk0 | assumption) (by omega) (by omega) rfl hp4 hp5 hp6 hp7 hp8 hp9 ?_
  rw [zr_s (by omega) (by omega), zy_s (by omega) (by omega)]
  refine g_putR (pc2 := 20) (ci := 5) (k := 2) w dX5_init_17 rfl rfl (by omega) (by first | exact hk0 | assumption) rfl rfl (by rw [hp2]; rfl) (by omega) ⟨_, _, rfl⟩ ?_
  refine s_aload_n (pc2 := 21) w dX5_init_20 rfl rfl ?_
  refine s_bipush (pc2 := 23) (v := 20) w dX5_init_21 rfl rfl ?_
  refine g_newarray (pc2 := 25) w dX5_init_23 rfl (by decide) hp10 (by rw [hp11]; decide) (by omega) rfl (by rw [hp11]; exact Nat.le_of_ble_eq_true rfl) ?_
  rw [zr_1, zy_1, zr_s (by omega) (by omega), zy_s (by omega) (by omega)]
  rw [hp11]
  refine g_putR (pc2 := 28) (ci := 5) (k := 4) w dX5_init_25 rfl rfl (by omega) (by first | exact hk0 | assumption) rfl rfl (by rw [hp2]; rfl) (by omega) ⟨_, _, rfl⟩ ?_
  refine s_return w dX5_init_28 rfl ?_
  exact q0
theorem lk_X5_initr {l : Launch} (hl : l.stackTraces = false) : ∀ q ∈ L_X5_initr, (q.2.1 < 5 → gk_Lk l RX5 gk_W1 2 q.1 q.2.1 q.2.2.1 q.2.2.2.1 q.2.2.2.2.1 q.2.2.2.2.2) := (List.forall_mem_cons.mpr ⟨(fun h => absurd h (by decide)), (List.forall_mem_cons.mpr ⟨(fun h => absurd h (by decide)), (List.forall_mem_cons.mpr ⟨(fun _ => ⟨yX9_init, cX9_init, 1, none, 1, _, M_X9_init hl, ⟨by decide, by decide⟩, ⟨by decide, by decide, by decide +kernel⟩, ⟨(gk_wm 370 (by decide +kernel)), (gk_wm 98 (by decide +kernel))⟩, Or.inr (Or.inr (Or.inr (Or.inr (Or.inr ⟨rfl, rfl, rfl, (gk_wm 369 (by decide +kernel)), rfl, nt_X9_init, Or.inr ⟨_, gk_nsm 9 rfl⟩⟩))))⟩), (fun _ h => absurd h List.not_mem_nil)⟩)⟩)⟩)
theorem sp_X5_initr : ∀ q ∈ L_X5_initr, gk_Sq RX5 gk_W1 2 q := (List.forall_mem_cons.mpr ⟨⟨fun h => absurd h (by decide), fun h => absurd h (by decide), fun h => absurd h (by decide), fun h => absurd h (by decide), fun h => absurd h (by decide), fun _ => rfl⟩, (List.forall_mem_cons.mpr ⟨⟨fun h => absurd h (by decide), fun h => absurd h (by decide), fun h => absurd h (by decide), fun h => absurd h (by decide), fun _ => ⟨by decide, gk_wm 365 (by decide +kernel), (gk_wm 120 (by decide +kernel)), gk_wm 121 (by decide +kernel)⟩, fun h => absurd h (by decide)⟩, (List.forall_mem_cons.mpr ⟨⟨fun h => absurd h (by decide), fun h => absurd h (by decide), fun h => absurd h (by decide), fun h => absurd h (by decide), fun h => absurd h (by decide), fun h => absurd h (by decide)⟩, (fun _ h => absurd h List.not_mem_nil)⟩)⟩)⟩)
theorem M_X5_initr {l : Launch} (hl : l.stackTraces = false) : gk_Mt l yX5_init (.code yX5_init cX5_init 1 none :: gk_W1) 2 1532 S_X5_initr := gk_meth hl gk_cw_ok (by decide +kernel) rfl m_X5_initr pX5_ok (gk_Sp_of sp_X5_initr) pX5_st (fun ci m S h => rfl) (xf_X5 2) (fun idx kd ci mm cost S2 h h5 => lk_X5_initr hl _ (gk_lk_mem h) h5)

def S_X5_init : gk_S := fun as n fl x y K => ∃ (j : Nat), as = [.ref j] ∧ gk_kd j = 5 ∧ (j < n) ∧ (n + 5 ≤ 202) ∧ (n = j + 1) ∧ (gk_kd n = 8) ∧ (gk_kd (n + 1) = 20) ∧ (gk_ln (n + 1) = 501) ∧ (gk_kd (n + 1 + 1) = 20) ∧ (gk_ln (n + 1 + 1) = 501) ∧ (gk_kd (n + 1 + 1 + 1) = 20) ∧ (gk_ln (n + 1 + 1 + 1) = 501) ∧ (gk_kd (n + 1 + 1 + 1 + 1) = 20) ∧ (gk_ln (n + 1 + 1 + 1 + 1) = 20) ∧ (K (.inl none) (n + 1 + 1 + 1 + 1 + 1) (fr fl j (n + 1 + 1 + 1 + 1 + 1)) (zr (gk_up x j 1 (-1)) n (n + 1 + 1 + 1 + 1 + 1)) (zy y n (n + 1 + 1 + 1 + 1 + 1)))
theorem r_X5_init (w : gk_W c P cs (fun _ _ => none) rt uf sc K V) {idx : Nat} {j : Nat} (hd : decode c pc = .ok (.invokespecial idx, 3)) (hp : pc + 3 = pc2) (hc : cs idx = some (2, 5, 1, 1532, S_X5_init)) (h8 : Nat.ble (r.map Value.category).sum 8 = true) (hu : u + 1532 ≤ uf) (hk0 : gk_kd j = 5) (hp0 : j < n) (hp1 : n + 5 ≤ 202) (hp2 : n = j + 1) (hp3 : gk_kd n = 8) (hp4 : gk_kd (n + 1) = 20) (hp5 : gk_ln (n + 1) = 501) (hp6 : gk_kd (n + 1 + 1) = 20) (hp7 : gk_ln (n + 1 + 1) = 501) (hp8 : gk_kd (n + 1 + 1 + 1) = 20) (hp9 : gk_ln (n + 1 + 1 + 1) = 501) (hp10 : gk_kd (n + 1 + 1 + 1 + 1) = 20) (hp11 : gk_ln (n + 1 + 1 + 1 + 1) = 20) (kk0 : V pc2 L r (n + 1 + 1 + 1 + 1 + 1) (fr fl j (n + 1 + 1 + 1 + 1 + 1)) (zr (gk_up x j 1 (-1)) n (n + 1 + 1 + 1 + 1 + 1)) (zy y n (n + 1 + 1 + 1 + 1 + 1)) (u + 1532)) : V pc L (.ref j :: r) n fl x y u :=
  g_calli w hd hp hc (as := [.ref j]) rfl h8 rfl rfl rfl (Or.inr (Or.inl ⟨Or.inr rfl, _, _, rfl, hp0, hk0⟩)) (Or.inr hu) ⟨j, rfl, hk0, hp0, hp1, hp2, hp3, hp4, hp5, hp6, hp7, hp8, hp9, hp10, hp11, kk0⟩
theorem nt_X5_init : gk_nt S_X5_init := fun _ _ _ _ _ _ ⟨j, e0, e1, e2, e3, e4, e5, e6, e7, e8, e9, e10, e11, e12, e13, e14⟩ => ⟨j, e0, e1, e2, e3, e4, e5, e6, e7, e8, e9, e10, e11, e12, e13, e14⟩
theorem M_X5_init {l : Launch} (hl : l.stackTraces = false) : gk_Mt l yX5_init (.code yX5_init cX5_init 1 none :: gk_W1) 2 1532 S_X5_init := gk_Mt_fl (M_X5_initr hl) (fun as n fl x y K ⟨j, e0, hk0, hp0, hp1, hp2, hp3, hp4, hp5, hp6, hp7, hp8, hp9, hp10, hp11, q0⟩ => ⟨j, e0, hk0, hp0, hp1, hp2, hp3, hp4, hp5, hp6, hp7, hp8, hp9, hp10, hp11, ⟨_, fe_X5n hk0 hp0 hp1 hp2 hp3 hp4 hp5 hp6 hp7 hp8 hp9 hp10 hp11, q0⟩⟩)

end GKV

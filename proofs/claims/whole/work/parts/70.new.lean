/-! THE METHODS, 39: what is made anew, 1 -/
section GKV
variable {c : ByteArray} {P : gk_C} {cs : Nat → Option gk_M0} {rt : Option FieldType} {uf : Nat} {sc : Option Nat} {K : gk_K} {V : gk_V}
variable {L : List (Option Value)} {r : List Value} {n : Nat} {fl : gk_F} {x : gk_X} {y : gk_Y} {u pc pc2 : Nat}
def zr (x : gk_X) (a b : Nat) : gk_X := fun i k => if a ≤ i ∧ i < b then 0 else x i k
def zy (y : gk_Y) (a b : Nat) : gk_Y := fun i k => if a ≤ i ∧ i < b then 0 else y i k
def fr (fl : gk_F) (a b : Nat) : gk_F := fun i k => if a ≤ i ∧ i < b then true else fl i k
theorem zr_1 (x : gk_X) (n : Nat) : gk_u0 x n = zr x n (n + 1) := by
  funext i k
  unfold gk_u0 zr
  by_cases h : i = n
  · rw [if_pos h, if_pos (by omega)]
  · rw [if_neg h, if_neg (by omega)]
theorem zy_1 (x : gk_Y) (n : Nat) : gk_v0 x n = zy x n (n + 1) := by
  funext i k
  unfold gk_v0 zy
  by_cases h : i = n
  · rw [if_pos h, if_pos (by omega)]
  · rw [if_neg h, if_neg (by omega)]
theorem zr_s {x : gk_X} {a b c : Nat} (h1 : a ≤ b) (h2 : b ≤ c) : zr (zr x a b) b c = zr x a c := by
  funext i k
  unfold zr
  by_cases h : b ≤ i ∧ i < c
  · rw [if_pos h, if_pos (by omega)]
  · rw [if_neg h]
    by_cases h3 : a ≤ i ∧ i < b
    · rw [if_pos h3, if_pos (by omega)]
    · rw [if_neg h3, if_neg (by omega)]
theorem zy_s {x : gk_Y} {a b c : Nat} (h1 : a ≤ b) (h2 : b ≤ c) : zy (zy x a b) b c = zy x a c := by
  funext i k
  unfold zy
  by_cases h : b ≤ i ∧ i < c
  · rw [if_pos h, if_pos (by omega)]
  · rw [if_neg h]
    by_cases h3 : a ≤ i ∧ i < b
    · rw [if_pos h3, if_pos (by omega)]
    · rw [if_neg h3, if_neg (by omega)]
theorem uf_in (f : gk_F) (i k : Nat) : gk_uf f i k i k = true := if_pos ⟨rfl, rfl⟩
theorem uf_ne {f : gk_F} {i k j l : Nat} (h : ¬ (j = i ∧ l = k)) : gk_uf f i k j l = f j l := if_neg h
theorem f0_ne {f : gk_F} {i j l : Nat} (h : j ≠ i) : gk_f0 f i j l = f j l := if_neg h
theorem fr_in {f : gk_F} {a b i k : Nat} (h : a ≤ i ∧ i < b) : fr f a b i k = true := if_pos h
theorem fr_ne {f : gk_F} {a b i k : Nat} (h : ¬ (a ≤ i ∧ i < b)) : fr f a b i k = f i k := if_neg h
theorem fk_1 {k : Nat} (h : gk_fk 1 k = 2) : k = 0 := by
  rcases k with _ | k
  · rfl
  · exact absurd h (by show ¬ gk_fk 1 (k + 1) = 2; intro h; cases h)
theorem fk_6 {k : Nat} (h : gk_fk 6 k = 2) : k = 0 ∨ k = 1 := by
  rcases k with _ | _ | k
  · exact Or.inl rfl
  · exact Or.inr rfl
  · exact absurd h (by show ¬ gk_fk 6 (k + 1 + 1) = 2; intro h; cases h)
theorem fk_7 {k : Nat} (h : gk_fk 7 k = 2) : k = 0 := by
  rcases k with _ | k
  · rfl
  · exact absurd h (by show ¬ gk_fk 7 (k + 1) = 2; intro h; cases h)
def S_X3_init : gk_S := fun as n fl x y K => ∃ (j : Nat), as = [.ref j] ∧ gk_kd j = 3 ∧ (j < n) ∧ (K (.inl none) n fl x y)
theorem r_X3_init (w : gk_W c P cs (fun _ _ => none) rt uf sc K V) {idx : Nat} {j : Nat} (hd : decode c pc = .ok (.invokespecial idx, 3)) (hp : pc + 3 = pc2) (hc : cs idx = some (2, 3, 1, 0, S_X3_init)) (h8 : Nat.ble (r.map Value.category).sum 8 = true) (hk0 : gk_kd j = 3) (hp0 : j < n) (kk0 : V pc2 L r n fl x y u) : V pc L (.ref j :: r) n fl x y u :=
  g_calli w hd hp hc (as := [.ref j]) rfl h8 rfl rfl rfl (Or.inr (Or.inl ⟨Or.inr rfl, _, _, rfl, hp0, hk0⟩)) (Or.inl rfl) ⟨j, rfl, hk0, hp0, kk0⟩
theorem nt_X3_init : gk_nt S_X3_init := fun _ _ _ _ _ _ ⟨j, e0, e1, e2, e3⟩ => ⟨j, e0, e1, e2, e3⟩
def L_X3_init : List (Nat × gk_M0) := [(0, (99, 3, 0, 0, fun _ _ _ _ _ _ => False)), (3, (9, 0, 0, 0, fun _ _ _ _ _ _ => False))]
def cs_X3_init : Nat → Option gk_M0 := gk_lk L_X3_init
theorem m_X3_init : ∀ (as : List Value) (n : Nat) (fl : gk_F) (x : gk_X) (y : gk_Y) (K : gk_K), S_X3_init as n fl x y K → (gk_L0 as).length ≤ 1 ∧ ∀ V : gk_V, gk_W cX3_init pX3 cs_X3_init (fun _ _ => none) none 0 none K V → V 0 (gk_en as 1) [] n fl x y 0 := by
  intro as n fl x y K hS
  obtain ⟨j, rfl, hk0, hp0, q0⟩ := hS
  refine ⟨Nat.le_of_ble_eq_true rfl, fun V w => ?_⟩
  show V 0 [some (.ref j)] [] n fl x y 0
  refine s_aload_n (pc2 := 1) w dX3_init_0 rfl rfl ?_
  refine s_obj (pc2 := 4) w dX3_init_1 rfl rfl rfl ?_
  refine s_return w dX3_init_4 rfl ?_
  exact q0
theorem lk_X3_init {l : Launch} (hl : l.stackTraces = false) : ∀ q ∈ L_X3_init, (q.2.1 < 5 → gk_Lk l RX3 gk_W1 1 q.1 q.2.1 q.2.2.1 q.2.2.2.1 q.2.2.2.2.1 q.2.2.2.2.2) := (List.forall_mem_cons.mpr ⟨(fun h => absurd h (by decide)), (List.forall_mem_cons.mpr ⟨(fun h => absurd h (by decide)), (fun _ h => absurd h List.not_mem_nil)⟩)⟩)
theorem sp_X3_init : ∀ q ∈ L_X3_init, gk_Sq RX3 gk_W1 1 q := (List.forall_mem_cons.mpr ⟨⟨fun h => absurd h (by decide), fun h => absurd h (by decide), fun h => absurd h (by decide), fun h => absurd h (by decide), fun h => absurd h (by decide), fun _ => rfl⟩, (List.forall_mem_cons.mpr ⟨⟨fun h => absurd h (by decide), fun h => absurd h (by decide), fun h => absurd h (by decide), fun h => absurd h (by decide), fun _ => ⟨by decide, gk_wm 138 (by decide +kernel), (gk_wm 120 (by decide +kernel)), gk_wm 121 (by decide +kernel)⟩, fun h => absurd h (by decide)⟩, (fun _ h => absurd h List.not_mem_nil)⟩)⟩)
theorem M_X3_init {l : Launch} (hl : l.stackTraces = false) : gk_Mt l yX3_init (.code yX3_init cX3_init 1 none :: gk_W1) 1 0 S_X3_init := gk_meth hl gk_cw_ok (by decide +kernel) rfl m_X3_init pX3_ok (gk_Sp_of sp_X3_init) pX3_st (fun ci m S h => rfl) (xf_X3 1) (fun idx kd ci mm cost S2 h h5 => lk_X3_init hl _ (gk_lk_mem h) h5)

def S_X2_init : gk_S := fun as n fl x y K => ∃ (j : Nat), as = [.ref j] ∧ gk_kd j = 2 ∧ (j < n) ∧ (K (.inl none) n fl x y)
theorem r_X2_init (w : gk_W c P cs (fun _ _ => none) rt uf sc K V) {idx : Nat} {j : Nat} (hd : decode c pc = .ok (.invokespecial idx, 3)) (hp : pc + 3 = pc2) (hc : cs idx = some (2, 2, 1, 0, S_X2_init)) (h8 : Nat.ble (r.map Value.category).sum 8 = true) (hk0 : gk_kd j = 2) (hp0 : j < n) (kk0 : V pc2 L r n fl x y u) : V pc L (.ref j :: r) n fl x y u :=
  g_calli w hd hp hc (as := [.ref j]) rfl h8 rfl rfl rfl (Or.inr (Or.inl ⟨Or.inr rfl, _, _, rfl, hp0, hk0⟩)) (Or.inl rfl) ⟨j, rfl, hk0, hp0, kk0⟩
theorem nt_X2_init : gk_nt S_X2_init := fun _ _ _ _ _ _ ⟨j, e0, e1, e2, e3⟩ => ⟨j, e0, e1, e2, e3⟩
def L_X2_init : List (Nat × gk_M0) := [(0, (99, 2, 0, 0, fun _ _ _ _ _ _ => False)), (3, (9, 0, 0, 0, fun _ _ _ _ _ _ => False))]
def cs_X2_init : Nat → Option gk_M0 := gk_lk L_X2_init
theorem m_X2_init : ∀ (as : List Value) (n : Nat) (fl : gk_F) (x : gk_X) (y : gk_Y) (K : gk_K), S_X2_init as n fl x y K → (gk_L0 as).length ≤ 1 ∧ ∀ V : gk_V, gk_W cX2_init pX2 cs_X2_init (fun _ _ => none) none 0 none K V → V 0 (gk_en as 1) [] n fl x y 0 := by
  intro as n fl x y K hS
  obtain ⟨j, rfl, hk0, hp0, q0⟩ := hS
  refine ⟨Nat.le_of_ble_eq_true rfl, fun V w => ?_⟩
  show V 0 [some (.ref j)] [] n fl x y 0
  refine s_aload_n (pc2 := 1) w dX2_init_0 rfl rfl ?_
  refine s_obj (pc2 := 4) w dX2_init_1 rfl rfl rfl ?_
  refine s_return w dX2_init_4 rfl ?_
  exact q0
theorem lk_X2_init {l : Launch} (hl : l.stackTraces = false) : ∀ q ∈ L_X2_init, (q.2.1 < 5 → gk_Lk l RX2 gk_W1 1 q.1 q.2.1 q.2.2.1 q.2.2.2.1 q.2.2.2.2.1 q.2.2.2.2.2) := (List.forall_mem_cons.mpr ⟨(fun h => absurd h (by decide)), (List.forall_mem_cons.mpr ⟨(fun h => absurd h (by decide)), (fun _ h => absurd h List.not_mem_nil)⟩)⟩)
theorem sp_X2_init : ∀ q ∈ L_X2_init, gk_Sq RX2 gk_W1 1 q := (List.forall_mem_cons.mpr ⟨⟨fun h => absurd h (by decide), fun h => absurd h (by decide), fun h => absurd h (by decide), fun h => absurd h (by decide), fun h => absurd h (by decide), fun _ => rfl⟩, (List.forall_mem_cons.mpr ⟨⟨fun h => absurd h (by decide), fun h => absurd h (by decide), fun h => absurd h (by decide), fun h => absurd h (by decide), fun _ => ⟨by decide, gk_wm 312 (by decide +kernel), (gk_wm 120 (by decide +kernel)), gk_wm 121 (by decide +kernel)⟩, fun h => absurd h (by decide)⟩, (fun _ h => absurd h List.not_mem_nil)⟩)⟩)
theorem M_X2_init {l : Launch} (hl : l.stackTraces = false) : gk_Mt l yX2_init (.code yX2_init cX2_init 1 none :: gk_W1) 1 0 S_X2_init := gk_meth hl gk_cw_ok (by decide +kernel) rfl m_X2_init pX2_ok (gk_Sp_of sp_X2_init) pX2_st (fun ci m S h => rfl) (xf_X2 1) (fun idx kd ci mm cost S2 h h5 => lk_X2_init hl _ (gk_lk_mem h) h5)

theorem fe_X1 {fl : gk_F} {j n : Nat} (hk : gk_kd j = 1) (hn : n = j + 1) (h20 : gk_kd n = 20) : gk_fe (gk_uf (gk_f0 fl n) j 0) (fr fl j (n + 1)) (n + 1) := by
  subst hn
  intro i hi k
  rcases Nat.lt_or_ge i j with h | h
  · rw [uf_ne (by omega), f0_ne (by omega), fr_ne (by omega)]
    exact ⟨fun _ _ _ => rfl, fun _ _ => rfl⟩
  rw [fr_in ⟨h, by omega⟩]
  rcases Nat.lt_or_ge j i with h2 | h2
  · obtain rfl : i = j + 1 := by omega
    exact ⟨fun a _ _ => by omega, fun a _ => by omega⟩
  · obtain rfl : i = j := by omega
    refine ⟨fun _ _ b => ?_, fun a _ => by omega⟩
    rw [hk] at b
    obtain rfl := fk_1 b
    exact uf_in _ _ _
def S_X1_initr : gk_S := fun as n fl x y K => ∃ (j : Nat), as = [.ref j] ∧ gk_kd j = 1 ∧ (j < n) ∧ (n < 202) ∧ (gk_kd n = 20) ∧ (gk_ln n = 256) ∧ (n = j + 1) ∧ (K (.inl none) (n + 1) (gk_uf (gk_f0 fl n) j 0) (zr x n (n + 1)) (zy y n (n + 1)))
def L_X1_initr : List (Nat × gk_M0) := [(0, (99, 1, 0, 0, fun _ _ _ _ _ _ => False)), (3, (9, 0, 0, 0, fun _ _ _ _ _ _ => False))]
def cs_X1_initr : Nat → Option gk_M0 := gk_lk L_X1_initr
theorem m_X1_initr : ∀ (as : List Value) (n : Nat) (fl : gk_F) (x : gk_X) (y : gk_Y) (K : gk_K), S_X1_initr as n fl x y K → (gk_L0 as).length ≤ 1 ∧ ∀ V : gk_V, gk_W cX1_init pX1 cs_X1_initr (fun _ _ => none) none 257 none K V → V 0 (gk_en as 1) [] n fl x y 0 := by
  intro as n fl x y K hS
  obtain ⟨j, rfl, hk0, hp0, hp1, hp2, hp3, hp4, q0⟩ := hS
  refine ⟨Nat.le_of_ble_eq_true rfl, fun V w => ?_⟩
  show V 0 [some (.ref j)] [] n fl x y 0
  refine s_aload_n (pc2 := 1) w dX1_init_0 rfl rfl ?_
  refine s_obj (pc2 := 4) w dX1_init_1 rfl rfl rfl ?_
  refine s_aload_n (pc2 := 5) w dX1_init_4 rfl rfl ?_
  refine s_sipush (pc2 := 8) (v := 256) w dX1_init_5 rfl rfl ?_
  refine g_newarray (pc2 := 10) w dX1_init_8 rfl (by decide) hp2 (by rw [hp3]; decide) hp1 rfl (by rw [hp3]; decide) ?_
  rw [zr_1, zy_1]
  refine g_putR (pc2 := 13) (ci := 1) (k := 0) w dX1_init_10 rfl rfl (by omega) (by first | exact hk0 | exact hp2) rfl rfl hp4.symm (by omega) ⟨_, _, rfl⟩ ?_
  refine s_return w dX1_init_13 rfl ?_
  exact q0
theorem lk_X1_initr {l : Launch} (hl : l.stackTraces = false) : ∀ q ∈ L_X1_initr, (q.2.1 < 5 → gk_Lk l RX1 gk_W1 1 q.1 q.2.1 q.2.2.1 q.2.2.2.1 q.2.2.2.2.1 q.2.2.2.2.2) := (List.forall_mem_cons.mpr ⟨(fun h => absurd h (by decide)), (List.forall_mem_cons.mpr ⟨(fun h => absurd h (by decide)), (fun _ h => absurd h List.not_mem_nil)⟩)⟩)
theorem sp_X1_initr : ∀ q ∈ L_X1_initr, gk_Sq RX1 gk_W1 1 q := (List.forall_mem_cons.mpr ⟨⟨fun h => absurd h (by decide), fun h => absurd h (by decide), fun h => absurd h (by decide), fun h => absurd h (by decide), fun h => absurd h (by decide), fun _ => rfl⟩, (List.forall_mem_cons.mpr ⟨⟨fun h => absurd h (by decide), fun h => absurd h (by decide), fun h => absurd h (by decide), fun h => absurd h (by decide), fun _ => ⟨by decide, gk_wm 185 (by decide +kernel), (gk_wm 120 (by decide +kernel)), gk_wm 121 (by decide +kernel)⟩, fun h => absurd h (by decide)⟩, (fun _ h => absurd h List.not_mem_nil)⟩)⟩)
theorem M_X1_initr {l : Launch} (hl : l.stackTraces = false) : gk_Mt l yX1_init (.code yX1_init cX1_init 1 none :: gk_W1) 1 257 S_X1_initr := gk_meth hl gk_cw_ok (by decide +kernel) rfl m_X1_initr pX1_ok (gk_Sp_of sp_X1_initr) pX1_st (fun ci m S h => rfl) (xf_X1 1) (fun idx kd ci mm cost S2 h h5 => lk_X1_initr hl _ (gk_lk_mem h) h5)

def S_X1_init : gk_S := fun as n fl x y K => ∃ (j : Nat), as = [.ref j] ∧ gk_kd j = 1 ∧ (j < n) ∧ (n < 202) ∧ (gk_kd n = 20) ∧ (gk_ln n = 256) ∧ (n = j + 1) ∧ (K (.inl none) (n + 1) (fr fl j (n + 1)) (zr x n (n + 1)) (zy y n (n + 1)))
theorem r_X1_init (w : gk_W c P cs (fun _ _ => none) rt uf sc K V) {idx : Nat} {j : Nat} (hd : decode c pc = .ok (.invokespecial idx, 3)) (hp : pc + 3 = pc2) (hc : cs idx = some (2, 1, 1, 257, S_X1_init)) (h8 : Nat.ble (r.map Value.category).sum 8 = true) (hu : u + 257 ≤ uf) (hk0 : gk_kd j = 1) (hp0 : j < n) (hp1 : n < 202) (hp2 : gk_kd n = 20) (hp3 : gk_ln n = 256) (hp4 : n = j + 1) (kk0 : V pc2 L r (n + 1) (fr fl j (n + 1)) (zr x n (n + 1)) (zy y n (n + 1)) (u + 257)) : V pc L (.ref j :: r) n fl x y u :=
  g_calli w hd hp hc (as := [.ref j]) rfl h8 rfl rfl rfl (Or.inr (Or.inl ⟨Or.inr rfl, _, _, rfl, hp0, hk0⟩)) (Or.inr hu) ⟨j, rfl, hk0, hp0, hp1, hp2, hp3, hp4, kk0⟩
theorem nt_X1_init : gk_nt S_X1_init := fun _ _ _ _ _ _ ⟨j, e0, e1, e2, e3, e4, e5, e6, e7⟩ => ⟨j, e0, e1, e2, e3, e4, e5, e6, e7⟩
theorem M_X1_init {l : Launch} (hl : l.stackTraces = false) : gk_Mt l yX1_init (.code yX1_init cX1_init 1 none :: gk_W1) 1 257 S_X1_init := gk_Mt_fl (M_X1_initr hl) (fun as n fl x y K ⟨j, e0, hk0, hp0, hp1, hp2, hp3, hp4, q0⟩ => ⟨j, e0, hk0, hp0, hp1, hp2, hp3, hp4, ⟨_, fe_X1 hk0 hp4 hp2, q0⟩⟩)

theorem fe_X8 {fl : gk_F} {j n : Nat} (hk : gk_kd j = 7) (hn : n = j + 1) (h20 : gk_kd n = 20) : gk_fe (gk_uf (gk_f0 fl n) j 0) (fr fl j (n + 1)) (n + 1) := by
  subst hn
  intro i hi k
  rcases Nat.lt_or_ge i j with h | h
  · rw [uf_ne (by omega), f0_ne (by omega), fr_ne (by omega)]
    exact ⟨fun _ _ _ => rfl, fun _ _ => rfl⟩
  rw [fr_in ⟨h, by omega⟩]
  rcases Nat.lt_or_ge j i with h2 | h2
  · obtain rfl : i = j + 1 := by omega
    exact ⟨fun a _ _ => by omega, fun a _ => by omega⟩
  · obtain rfl : i = j := by omega
    refine ⟨fun _ _ b => ?_, fun a _ => by omega⟩
    rw [hk] at b
    obtain rfl := fk_7 b
    exact uf_in _ _ _
def S_X8_initr : gk_S := fun as n fl x y K => ∃ (j : Nat), as = [.ref j] ∧ gk_kd j = 7 ∧ (j < n) ∧ (n < 202) ∧ (gk_kd n = 20) ∧ (gk_ln n = 500) ∧ (n = j + 1) ∧ (K (.inl none) (n + 1) (gk_uf (gk_f0 fl n) j 0) (zr x n (n + 1)) (zy y n (n + 1)))
def L_X8_initr : List (Nat × gk_M0) := [(0, (99, 7, 0, 0, fun _ _ _ _ _ _ => False)), (3, (9, 0, 0, 0, fun _ _ _ _ _ _ => False))]
def cs_X8_initr : Nat → Option gk_M0 := gk_lk L_X8_initr
theorem m_X8_initr : ∀ (as : List Value) (n : Nat) (fl : gk_F) (x : gk_X) (y : gk_Y) (K : gk_K), S_X8_initr as n fl x y K → (gk_L0 as).length ≤ 1 ∧ ∀ V : gk_V, gk_W cX8_init pX8 cs_X8_initr (fun _ _ => none) none 501 none K V → V 0 (gk_en as 1) [] n fl x y 0 := by
  intro as n fl x y K hS
  obtain ⟨j, rfl, hk0, hp0, hp1, hp2, hp3, hp4, q0⟩ := hS
  refine ⟨Nat.le_of_ble_eq_true rfl, fun V w => ?_⟩
  show V 0 [some (.ref j)] [] n fl x y 0
  refine s_aload_n (pc2 := 1) w dX8_init_0 rfl rfl ?_
  refine s_obj (pc2 := 4) w dX8_init_1 rfl rfl rfl ?_
  refine s_aload_n (pc2 := 5) w dX8_init_4 rfl rfl ?_
  refine s_sipush (pc2 := 8) (v := 500) w dX8_init_5 rfl rfl ?_
  refine g_newarray (pc2 := 10) w dX8_init_8 rfl (by decide) hp2 (by rw [hp3]; decide) hp1 rfl (by rw [hp3]; decide) ?_
  rw [zr_1, zy_1]
  refine g_putR (pc2 := 13) (ci := 7) (k := 0) w dX8_init_10 rfl rfl (by omega) (by first | exact hk0 | exact hp2) rfl rfl hp4.symm (by omega) ⟨_, _, rfl⟩ ?_
  refine s_return w dX8_init_13 rfl ?_
  exact q0
theorem lk_X8_initr {l : Launch} (hl : l.stackTraces = false) : ∀ q ∈ L_X8_initr, (q.2.1 < 5 → gk_Lk l RX8 gk_W1 1 q.1 q.2.1 q.2.2.1 q.2.2.2.1 q.2.2.2.2.1 q.2.2.2.2.2) := (List.forall_mem_cons.mpr ⟨(fun h => absurd h (by decide)), (List.forall_mem_cons.mpr ⟨(fun h => absurd h (by decide)), (fun _ h => absurd h List.not_mem_nil)⟩)⟩)
theorem sp_X8_initr : ∀ q ∈ L_X8_initr, gk_Sq RX8 gk_W1 1 q := (List.forall_mem_cons.mpr ⟨⟨fun h => absurd h (by decide), fun h => absurd h (by decide), fun h => absurd h (by decide), fun h => absurd h (by decide), fun h => absurd h (by decide), fun _ => rfl⟩, (List.forall_mem_cons.mpr ⟨⟨fun h => absurd h (by decide), fun h => absurd h (by decide), fun h => absurd h (by decide), fun h => absurd h (by decide), fun _ => ⟨by decide, gk_wm 350 (by decide +kernel), (gk_wm 120 (by decide +kernel)), gk_wm 121 (by decide +kernel)⟩, fun h => absurd h (by decide)⟩, (fun _ h => absurd h List.not_mem_nil)⟩)⟩)
theorem M_X8_initr {l : Launch} (hl : l.stackTraces = false) : gk_Mt l yX8_init (.code yX8_init cX8_init 1 none :: gk_W1) 1 501 S_X8_initr := gk_meth hl gk_cw_ok (by decide +kernel) rfl m_X8_initr pX8_ok (gk_Sp_of sp_X8_initr) pX8_st (fun ci m S h => rfl) (xf_X8 1) (fun idx kd ci mm cost S2 h h5 => lk_X8_initr hl _ (gk_lk_mem h) h5)

def S_X8_init : gk_S := fun as n fl x y K => ∃ (j : Nat), as = [.ref j] ∧ gk_kd j = 7 ∧ (j < n) ∧ (n < 202) ∧ (gk_kd n = 20) ∧ (gk_ln n = 500) ∧ (n = j + 1) ∧ (K (.inl none) (n + 1) (fr fl j (n + 1)) (zr x n (n + 1)) (zy y n (n + 1)))
theorem r_X8_init (w : gk_W c P cs (fun _ _ => none) rt uf sc K V) {idx : Nat} {j : Nat} (hd : decode c pc = .ok (.invokespecial idx, 3)) (hp : pc + 3 = pc2) (hc : cs idx = some (2, 7, 1, 501, S_X8_init)) (h8 : Nat.ble (r.map Value.category).sum 8 = true) (hu : u + 501 ≤ uf) (hk0 : gk_kd j = 7) (hp0 : j < n) (hp1 : n < 202) (hp2 : gk_kd n = 20) (hp3 : gk_ln n = 500) (hp4 : n = j + 1) (kk0 : V pc2 L r (n + 1) (fr fl j (n + 1)) (zr x n (n + 1)) (zy y n (n + 1)) (u + 501)) : V pc L (.ref j :: r) n fl x y u :=
  g_calli w hd hp hc (as := [.ref j]) rfl h8 rfl rfl rfl (Or.inr (Or.inl ⟨Or.inr rfl, _, _, rfl, hp0, hk0⟩)) (Or.inr hu) ⟨j, rfl, hk0, hp0, hp1, hp2, hp3, hp4, kk0⟩
theorem nt_X8_init : gk_nt S_X8_init := fun _ _ _ _ _ _ ⟨j, e0, e1, e2, e3, e4, e5, e6, e7⟩ => ⟨j, e0, e1, e2, e3, e4, e5, e6, e7⟩
theorem M_X8_init {l : Launch} (hl : l.stackTraces = false) : gk_Mt l yX8_init (.code yX8_init cX8_init 1 none :: gk_W1) 1 501 S_X8_init := gk_Mt_fl (M_X8_initr hl) (fun as n fl x y K ⟨j, e0, hk0, hp0, hp1, hp2, hp3, hp4, q0⟩ => ⟨j, e0, hk0, hp0, hp1, hp2, hp3, hp4, ⟨_, fe_X8 hk0 hp4 hp2, q0⟩⟩)

end GKV

/-! THE METHODS, 2: the reference, its small ones -/
section GKV
variable {c : ByteArray} {P : gk_C} {cs : Nat → Option gk_M0} {rt : Option FieldType} {uf : Nat} {sc : Option Nat} {K : gk_K} {V : gk_V}
variable {L : List (Option Value)} {r : List Value} {n : Nat} {fl : gk_F} {x : gk_X} {y : gk_Y} {u pc pc2 : Nat}
def S_X11_vehicle : gk_S := fun as n fl x y K => ∃ (v : Int32) (f : Int32) (a : Nat) (b : Nat), as = [.ref 189, .int v, .int f] ∧ (n = 202 ∧ fl = gk_fT) ∧ (v = nI a) ∧ (f = nI b) ∧ (16 + 3 * a + b < 2234) ∧ (K (.inl (some (.int (x 190 (16 + 3 * a + b))))) n fl x y)
theorem r_X11_vehicle (w : gk_W c P cs (fun _ _ => none) rt uf sc K V) {idx : Nat} {v : Int32} {f : Int32} {a : Nat} {b : Nat} (hd : decode c pc = .ok (.invokevirtual idx, 3)) (hp : pc + 3 = pc2) (hc : cs idx = some (1, 10, 3, 0, S_X11_vehicle)) (h8 : Nat.ble (r.map Value.category).sum 8 = true) (hp0 : v = nI a) (hp1 : f = nI b) (hp2 : 16 + 3 * a + b < 2234) (kk0 : V pc2 L ((.int (x 190 (16 + 3 * a + b))) :: r) 202 gk_fT x y u) : V pc L (.int f :: .int v :: .ref 189 :: r) 202 gk_fT x y u :=
  g_callv w hd hp hc (as := [.ref 189, .int v, .int f]) rfl h8 rfl rfl rfl (Or.inr (Or.inl ⟨Or.inl rfl, _, _, rfl, (gk_kd_j rfl rfl), rfl⟩)) (Or.inl rfl) ⟨v, f, a, b, rfl, ⟨rfl, rfl⟩, hp0, hp1, hp2, kk0⟩
def L_X11_vehicle : List (Nat × gk_M0) := []
def cs_X11_vehicle : Nat → Option gk_M0 := gk_lk L_X11_vehicle
theorem m_X11_vehicle : ∀ (as : List Value) (n : Nat) (fl : gk_F) (x : gk_X) (y : gk_Y) (K : gk_K), S_X11_vehicle as n fl x y K → (gk_L0 as).length ≤ 3 ∧ ∀ V : gk_V, gk_W cX11_vehicle pX11 cs_X11_vehicle (fun _ _ => none) (some .int) 0 none K V → V 0 (gk_en as 3) [] n fl x y 0 := by
  intro as n fl x y K hS
  obtain ⟨v, f, a, b, rfl, ⟨rfl, rfl⟩, hp0, hp1, hp2, q0⟩ := hS
  refine ⟨Nat.le_of_ble_eq_true rfl, fun V w => ?_⟩
  show V 0 [some (.ref 189), some (.int v), some (.int f)] [] 202 gk_fT x y 0
  subst hp0 hp1
  refine s_aload_n (pc2 := 1) w dX11_vehicle_0 rfl rfl ?_
  refine m_getR (pc2 := 4) (ci := 10) (k := 0) (j2 := 190) w dX11_vehicle_1 rfl rfl (by first | assumption | rfl) rfl rfl rfl ?_
  refine s_bipush (pc2 := 6) (v := gI 16) w dX11_vehicle_4 rfl rfl ?_
  refine s_iconst (pc2 := 7) (v := gI 3) w dX11_vehicle_6 rfl rfl ?_
  refine s_iload_n (pc2 := 8) w dX11_vehicle_7 rfl rfl ?_
  refine s_imul (pc2 := 9) w dX11_vehicle_8 rfl ?_
  refine s_iadd (pc2 := 10) w dX11_vehicle_9 rfl ?_
  refine s_iload_n (pc2 := 11) w dX11_vehicle_10 rfl rfl ?_
  refine s_iadd (pc2 := 12) w dX11_vehicle_11 rfl ?_
  refine m_ialoadN (pc2 := 13) (t := 16 + 3 * a + b) w dX11_vehicle_12 rfl (by first | assumption | rfl) rfl (by simp only [gI_nI, gI_add, gI_mul, gI_sub, gI_inc]; exact congrArg gI (by omega)) hp2 rfl ?_
  refine s_ireturn w dX11_vehicle_13 rfl rfl ?_
  exact q0
theorem lk_X11_vehicle {l : Launch} (hl : l.stackTraces = false) : ∀ q ∈ L_X11_vehicle, (q.2.1 < 5 → gk_Lk l RX11 gk_W1 0 q.1 q.2.1 q.2.2.1 q.2.2.2.1 q.2.2.2.2.1 q.2.2.2.2.2) := (fun _ h => absurd h List.not_mem_nil)
theorem sp_X11_vehicle : ∀ q ∈ L_X11_vehicle, gk_Sq RX11 gk_W1 0 q := (fun _ h => absurd h List.not_mem_nil)
theorem M_X11_vehicle {l : Launch} (hl : l.stackTraces = false) : gk_Mt l yX11_vehicle (.code yX11_vehicle cX11_vehicle 3 (some .int) :: gk_W1) 0 0 S_X11_vehicle := gk_meth hl gk_cw_ok (by decide +kernel) rfl m_X11_vehicle pX11_ok (gk_Sp_of sp_X11_vehicle) pX11_st (fun ci m S h => absurd h (by intro h; cases h)) (xf_X11 0) (fun idx kd ci mm cost S2 h h5 => lk_X11_vehicle hl _ (gk_lk_mem h) h5)

def S_X11_source : gk_S := fun as n fl x y K => ∃ (v : Int32) (f : Int32) (a : Nat) (b : Nat), as = [.ref 189, .int v, .int f] ∧ (n = 202 ∧ fl = gk_fT) ∧ (v = nI a) ∧ (f = nI b) ∧ (28 + 21 * a + b < 2234) ∧ (K (.inl (some (.int (x 190 (28 + 21 * a + b))))) n fl x y)
theorem r_X11_source (w : gk_W c P cs (fun _ _ => none) rt uf sc K V) {idx : Nat} {v : Int32} {f : Int32} {a : Nat} {b : Nat} (hd : decode c pc = .ok (.invokevirtual idx, 3)) (hp : pc + 3 = pc2) (hc : cs idx = some (1, 10, 3, 0, S_X11_source)) (h8 : Nat.ble (r.map Value.category).sum 8 = true) (hp0 : v = nI a) (hp1 : f = nI b) (hp2 : 28 + 21 * a + b < 2234) (kk0 : V pc2 L ((.int (x 190 (28 + 21 * a + b))) :: r) 202 gk_fT x y u) : V pc L (.int f :: .int v :: .ref 189 :: r) 202 gk_fT x y u :=
  g_callv w hd hp hc (as := [.ref 189, .int v, .int f]) rfl h8 rfl rfl rfl (Or.inr (Or.inl ⟨Or.inl rfl, _, _, rfl, (gk_kd_j rfl rfl), rfl⟩)) (Or.inl rfl) ⟨v, f, a, b, rfl, ⟨rfl, rfl⟩, hp0, hp1, hp2, kk0⟩
def L_X11_source : List (Nat × gk_M0) := []
def cs_X11_source : Nat → Option gk_M0 := gk_lk L_X11_source
theorem m_X11_source : ∀ (as : List Value) (n : Nat) (fl : gk_F) (x : gk_X) (y : gk_Y) (K : gk_K), S_X11_source as n fl x y K → (gk_L0 as).length ≤ 3 ∧ ∀ V : gk_V, gk_W cX11_source pX11 cs_X11_source (fun _ _ => none) (some .int) 0 none K V → V 0 (gk_en as 3) [] n fl x y 0 := by
  intro as n fl x y K hS
  obtain ⟨v, f, a, b, rfl, ⟨rfl, rfl⟩, hp0, hp1, hp2, q0⟩ := hS
  refine ⟨Nat.le_of_ble_eq_true rfl, fun V w => ?_⟩
  show V 0 [some (.ref 189), some (.int v), some (.int f)] [] 202 gk_fT x y 0
  subst hp0 hp1
  refine s_aload_n (pc2 := 1) w dX11_source_0 rfl rfl ?_
  refine m_getR (pc2 := 4) (ci := 10) (k := 0) (j2 := 190) w dX11_source_1 rfl rfl (by first | assumption | rfl) rfl rfl rfl ?_
  refine s_bipush (pc2 := 6) (v := gI 28) w dX11_source_4 rfl rfl ?_
  refine s_bipush (pc2 := 8) (v := gI 21) w dX11_source_6 rfl rfl ?_
  refine s_iload_n (pc2 := 9) w dX11_source_8 rfl rfl ?_
  refine s_imul (pc2 := 10) w dX11_source_9 rfl ?_
  refine s_iadd (pc2 := 11) w dX11_source_10 rfl ?_
  refine s_iload_n (pc2 := 12) w dX11_source_11 rfl rfl ?_
  refine s_iadd (pc2 := 13) w dX11_source_12 rfl ?_
  refine m_ialoadN (pc2 := 14) (t := 28 + 21 * a + b) w dX11_source_13 rfl (by first | assumption | rfl) rfl (by simp only [gI_nI, gI_add, gI_mul, gI_sub, gI_inc]; exact congrArg gI (by omega)) hp2 rfl ?_
  refine s_ireturn w dX11_source_14 rfl rfl ?_
  exact q0
theorem lk_X11_source {l : Launch} (hl : l.stackTraces = false) : ∀ q ∈ L_X11_source, (q.2.1 < 5 → gk_Lk l RX11 gk_W1 0 q.1 q.2.1 q.2.2.1 q.2.2.2.1 q.2.2.2.2.1 q.2.2.2.2.2) := (fun _ h => absurd h List.not_mem_nil)
theorem sp_X11_source : ∀ q ∈ L_X11_source, gk_Sq RX11 gk_W1 0 q := (fun _ h => absurd h List.not_mem_nil)
theorem M_X11_source {l : Launch} (hl : l.stackTraces = false) : gk_Mt l yX11_source (.code yX11_source cX11_source 3 (some .int) :: gk_W1) 0 0 S_X11_source := gk_meth hl gk_cw_ok (by decide +kernel) rfl m_X11_source pX11_ok (gk_Sp_of sp_X11_source) pX11_st (fun ci m S h => absurd h (by intro h; cases h)) (xf_X11 0) (fun idx kd ci mm cost S2 h h5 => lk_X11_source hl _ (gk_lk_mem h) h5)

def S_X11_microphone : gk_S := fun as n fl x y K => ∃ (v : Int32) (f : Int32) (a : Nat) (b : Nat), as = [.ref 189, .int v, .int f] ∧ (n = 202 ∧ fl = gk_fT) ∧ (v = nI a) ∧ (f = nI b) ∧ (154 + 4 * a + b < 2234) ∧ (K (.inl (some (.int (x 190 (154 + 4 * a + b))))) n fl x y)
theorem r_X11_microphone (w : gk_W c P cs (fun _ _ => none) rt uf sc K V) {idx : Nat} {v : Int32} {f : Int32} {a : Nat} {b : Nat} (hd : decode c pc = .ok (.invokevirtual idx, 3)) (hp : pc + 3 = pc2) (hc : cs idx = some (1, 10, 3, 0, S_X11_microphone)) (h8 : Nat.ble (r.map Value.category).sum 8 = true) (hp0 : v = nI a) (hp1 : f = nI b) (hp2 : 154 + 4 * a + b < 2234) (kk0 : V pc2 L ((.int (x 190 (154 + 4 * a + b))) :: r) 202 gk_fT x y u) : V pc L (.int f :: .int v :: .ref 189 :: r) 202 gk_fT x y u :=
  g_callv w hd hp hc (as := [.ref 189, .int v, .int f]) rfl h8 rfl rfl rfl (Or.inr (Or.inl ⟨Or.inl rfl, _, _, rfl, (gk_kd_j rfl rfl), rfl⟩)) (Or.inl rfl) ⟨v, f, a, b, rfl, ⟨rfl, rfl⟩, hp0, hp1, hp2, kk0⟩
def L_X11_microphone : List (Nat × gk_M0) := []
def cs_X11_microphone : Nat → Option gk_M0 := gk_lk L_X11_microphone
theorem m_X11_microphone : ∀ (as : List Value) (n : Nat) (fl : gk_F) (x : gk_X) (y : gk_Y) (K : gk_K), S_X11_microphone as n fl x y K → (gk_L0 as).length ≤ 3 ∧ ∀ V : gk_V, gk_W cX11_microphone pX11 cs_X11_microphone (fun _ _ => none) (some .int) 0 none K V → V 0 (gk_en as 3) [] n fl x y 0 := by
  intro as n fl x y K hS
  obtain ⟨v, f, a, b, rfl, ⟨rfl, rfl⟩, hp0, hp1, hp2, q0⟩ := hS
  refine ⟨Nat.le_of_ble_eq_true rfl, fun V w => ?_⟩
  show V 0 [some (.ref 189), some (.int v), some (.int f)] [] 202 gk_fT x y 0
  subst hp0 hp1
  refine s_aload_n (pc2 := 1) w dX11_microphone_0 rfl rfl ?_
  refine m_getR (pc2 := 4) (ci := 10) (k := 0) (j2 := 190) w dX11_microphone_1 rfl rfl (by first | assumption | rfl) rfl rfl rfl ?_
  refine s_sipush (pc2 := 7) (v := gI 154) w dX11_microphone_4 rfl rfl ?_
  refine s_iconst (pc2 := 8) (v := gI 4) w dX11_microphone_7 rfl rfl ?_
  refine s_iload_n (pc2 := 9) w dX11_microphone_8 rfl rfl ?_
  refine s_imul (pc2 := 10) w dX11_microphone_9 rfl ?_
  refine s_iadd (pc2 := 11) w dX11_microphone_10 rfl ?_
  refine s_iload_n (pc2 := 12) w dX11_microphone_11 rfl rfl ?_
  refine s_iadd (pc2 := 13) w dX11_microphone_12 rfl ?_
  refine m_ialoadN (pc2 := 14) (t := 154 + 4 * a + b) w dX11_microphone_13 rfl (by first | assumption | rfl) rfl (by simp only [gI_nI, gI_add, gI_mul, gI_sub, gI_inc]; exact congrArg gI (by omega)) hp2 rfl ?_
  refine s_ireturn w dX11_microphone_14 rfl rfl ?_
  exact q0
theorem lk_X11_microphone {l : Launch} (hl : l.stackTraces = false) : ∀ q ∈ L_X11_microphone, (q.2.1 < 5 → gk_Lk l RX11 gk_W1 0 q.1 q.2.1 q.2.2.1 q.2.2.2.1 q.2.2.2.2.1 q.2.2.2.2.2) := (fun _ h => absurd h List.not_mem_nil)
theorem sp_X11_microphone : ∀ q ∈ L_X11_microphone, gk_Sq RX11 gk_W1 0 q := (fun _ h => absurd h List.not_mem_nil)
theorem M_X11_microphone {l : Launch} (hl : l.stackTraces = false) : gk_Mt l yX11_microphone (.code yX11_microphone cX11_microphone 3 (some .int) :: gk_W1) 0 0 S_X11_microphone := gk_meth hl gk_cw_ok (by decide +kernel) rfl m_X11_microphone pX11_ok (gk_Sp_of sp_X11_microphone) pX11_st (fun ci m S h => absurd h (by intro h; cases h)) (xf_X11 0) (fun idx kd ci mm cost S2 h h5 => lk_X11_microphone hl _ (gk_lk_mem h) h5)

def S_X11_replace : gk_S := fun as n fl x y K => ∃ (p : Int32) (v : Int32) (a : Nat), as = [.ref 189, .int p, .int v] ∧ (n = 202 ∧ fl = gk_fT) ∧ (p = nI a) ∧ (a < 2234) ∧ (K (.inl (some (.int (x 190 a)))) n fl (gk_up x 190 a v) y)
theorem r_X11_replace (w : gk_W c P cs (fun _ _ => none) rt uf sc K V) {idx : Nat} {p : Int32} {v : Int32} {a : Nat} (hd : decode c pc = .ok (.invokevirtual idx, 3)) (hp : pc + 3 = pc2) (hc : cs idx = some (1, 10, 3, 0, S_X11_replace)) (h8 : Nat.ble (r.map Value.category).sum 8 = true) (hp0 : p = nI a) (hp1 : a < 2234) (kk0 : V pc2 L ((.int (x 190 a)) :: r) 202 gk_fT (gk_up x 190 a v) y u) : V pc L (.int v :: .int p :: .ref 189 :: r) 202 gk_fT x y u :=
  g_callv w hd hp hc (as := [.ref 189, .int p, .int v]) rfl h8 rfl rfl rfl (Or.inr (Or.inl ⟨Or.inl rfl, _, _, rfl, (gk_kd_j rfl rfl), rfl⟩)) (Or.inl rfl) ⟨p, v, a, rfl, ⟨rfl, rfl⟩, hp0, hp1, kk0⟩
def L_X11_replace : List (Nat × gk_M0) := []
def cs_X11_replace : Nat → Option gk_M0 := gk_lk L_X11_replace
theorem m_X11_replace : ∀ (as : List Value) (n : Nat) (fl : gk_F) (x : gk_X) (y : gk_Y) (K : gk_K), S_X11_replace as n fl x y K → (gk_L0 as).length ≤ 4 ∧ ∀ V : gk_V, gk_W cX11_replace pX11 cs_X11_replace (fun _ _ => none) (some .int) 0 none K V → V 0 (gk_en as 4) [] n fl x y 0 := by
  intro as n fl x y K hS
  obtain ⟨p, v, a, rfl, ⟨rfl, rfl⟩, hp0, hp1, q0⟩ := hS
  refine ⟨Nat.le_of_ble_eq_true rfl, fun V w => ?_⟩
  show V 0 [some (.ref 189), some (.int p), some (.int v), none] [] 202 gk_fT x y 0
  refine s_aload_n (pc2 := 1) w dX11_replace_0 rfl rfl ?_
  refine m_getR (pc2 := 4) (ci := 10) (k := 0) (j2 := 190) w dX11_replace_1 rfl rfl (by first | assumption | rfl) rfl rfl rfl ?_
  refine s_iload_n (pc2 := 5) w dX11_replace_4 rfl rfl ?_
  refine m_ialoadN (pc2 := 6) (t := a) w dX11_replace_5 rfl (by first | assumption | rfl) rfl hp0 hp1 rfl ?_
  refine s_istore_n (pc2 := 7) (k2 := 3) w dX11_replace_6 rfl rfl rfl ?_
  dsimp only [gk_s1, gk_s2, gk_cl]
  refine s_aload_n (pc2 := 8) w dX11_replace_7 rfl rfl ?_
  refine m_getR (pc2 := 11) (ci := 10) (k := 0) (j2 := 190) w dX11_replace_8 rfl rfl (by first | assumption | rfl) rfl rfl rfl ?_
  refine s_iload_n (pc2 := 12) w dX11_replace_11 rfl rfl ?_
  refine s_iload_n (pc2 := 13) w dX11_replace_12 rfl rfl ?_
  refine m_iastoreN (pc2 := 14) (t := a) w dX11_replace_13 rfl (by first | assumption | rfl) rfl hp0 hp1 rfl ?_
  refine s_iload_n (pc2 := 15) w dX11_replace_14 rfl rfl ?_
  refine s_ireturn w dX11_replace_15 rfl rfl ?_
  exact q0
theorem lk_X11_replace {l : Launch} (hl : l.stackTraces = false) : ∀ q ∈ L_X11_replace, (q.2.1 < 5 → gk_Lk l RX11 gk_W1 0 q.1 q.2.1 q.2.2.1 q.2.2.2.1 q.2.2.2.2.1 q.2.2.2.2.2) := (fun _ h => absurd h List.not_mem_nil)
theorem sp_X11_replace : ∀ q ∈ L_X11_replace, gk_Sq RX11 gk_W1 0 q := (fun _ h => absurd h List.not_mem_nil)
theorem M_X11_replace {l : Launch} (hl : l.stackTraces = false) : gk_Mt l yX11_replace (.code yX11_replace cX11_replace 4 (some .int) :: gk_W1) 0 0 S_X11_replace := gk_meth hl gk_cw_ok (by decide +kernel) rfl m_X11_replace pX11_ok (gk_Sp_of sp_X11_replace) pX11_st (fun ci m S h => absurd h (by intro h; cases h)) (xf_X11 0) (fun idx kd ci mm cost S2 h h5 => lk_X11_replace hl _ (gk_lk_mem h) h5)

def S_X11_isVehicle : gk_S := fun as n fl x y K => ∃ (v : Int32), as = [.ref 189, .int v] ∧ (n = 202 ∧ fl = gk_fT) ∧ (K (.inl (some (.int (if 0 ≤ v ∧ v ≤ x 190 6 - 1 then 1 else 0)))) n fl x y)
theorem r_X11_isVehicle (w : gk_W c P cs (fun _ _ => none) rt uf sc K V) {idx : Nat} {v : Int32} (hd : decode c pc = .ok (.invokevirtual idx, 3)) (hp : pc + 3 = pc2) (hc : cs idx = some (1, 10, 2, 0, S_X11_isVehicle)) (h8 : Nat.ble (r.map Value.category).sum 8 = true) (kk0 : V pc2 L ((.int (if 0 ≤ v ∧ v ≤ x 190 6 - 1 then 1 else 0)) :: r) 202 gk_fT x y u) : V pc L (.int v :: .ref 189 :: r) 202 gk_fT x y u :=
  g_callv w hd hp hc (as := [.ref 189, .int v]) rfl h8 rfl rfl rfl (Or.inr (Or.inl ⟨Or.inl rfl, _, _, rfl, (gk_kd_j rfl rfl), rfl⟩)) (Or.inl rfl) ⟨v, rfl, ⟨rfl, rfl⟩, kk0⟩
def L_X11_isVehicle : List (Nat × gk_M0) := [(52, (0, 10, 3, 0, S_X11_isBetween))]
def cs_X11_isVehicle : Nat → Option gk_M0 := gk_lk L_X11_isVehicle
theorem m_X11_isVehicle : ∀ (as : List Value) (n : Nat) (fl : gk_F) (x : gk_X) (y : gk_Y) (K : gk_K), S_X11_isVehicle as n fl x y K → (gk_L0 as).length ≤ 2 ∧ ∀ V : gk_V, gk_W cX11_isVehicle pX11 cs_X11_isVehicle (fun _ _ => none) (some .boolean) 0 none K V → V 0 (gk_en as 2) [] n fl x y 0 := by
  intro as n fl x y K hS
  obtain ⟨v, rfl, ⟨rfl, rfl⟩, q0⟩ := hS
  refine ⟨Nat.le_of_ble_eq_true rfl, fun V w => ?_⟩
  show V 0 [some (.ref 189), some (.int v)] [] 202 gk_fT x y 0
  refine s_iload_n (pc2 := 1) w dX11_isVehicle_0 rfl rfl ?_
  refine s_iconst (pc2 := 2) (v := 0) w dX11_isVehicle_1 rfl rfl ?_
  refine s_aload_n (pc2 := 3) w dX11_isVehicle_2 rfl rfl ?_
  refine m_getR (pc2 := 6) (ci := 10) (k := 0) (j2 := 190) w dX11_isVehicle_3 rfl rfl (by first | assumption | rfl) rfl rfl rfl ?_
  refine s_bipush (pc2 := 8) (v := 6) w dX11_isVehicle_6 rfl rfl ?_
  refine m_ialoadN (pc2 := 9) (t := 6) w dX11_isVehicle_8 rfl (by first | assumption | rfl) rfl rfl (by decide) rfl ?_
  refine s_iconst (pc2 := 10) (v := 1) w dX11_isVehicle_9 rfl rfl ?_
  refine s_isub (pc2 := 11) w dX11_isVehicle_10 rfl ?_
  refine r_X11_isBetween (pc2 := 14) w dX11_isVehicle_11 rfl rfl rfl ?_
  refine s_ireturn w dX11_isVehicle_14 rfl g_nz ?_
  exact q0
theorem lk_X11_isVehicle {l : Launch} (hl : l.stackTraces = false) : ∀ q ∈ L_X11_isVehicle, (q.2.1 < 5 → gk_Lk l RX11 gk_W1 1 q.1 q.2.1 q.2.2.1 q.2.2.2.1 q.2.2.2.2.1 q.2.2.2.2.2) := (List.forall_mem_cons.mpr ⟨(fun _ => ⟨yX11_isBetween, cX11_isBetween, 3, (some .boolean), 0, _, M_X11_isBetween hl, ⟨by decide, by decide⟩, ⟨by decide, by decide, by decide +kernel⟩, ⟨(gk_wm 1334 (by decide +kernel)), (gk_wm 99 (by decide +kernel))⟩, Or.inl ⟨rfl, rfl, (gk_wm 1333 (by decide +kernel)), gk_wm 1332 (by decide +kernel)⟩⟩), (fun _ h => absurd h List.not_mem_nil)⟩)
theorem sp_X11_isVehicle : ∀ q ∈ L_X11_isVehicle, gk_Sq RX11 gk_W1 1 q := (List.forall_mem_cons.mpr ⟨⟨fun h => absurd h (by decide), fun h => absurd h (by decide), fun h => absurd h (by decide), fun h => absurd h (by decide), fun h => absurd h (by decide), fun h => absurd h (by decide)⟩, (fun _ h => absurd h List.not_mem_nil)⟩)
theorem M_X11_isVehicle {l : Launch} (hl : l.stackTraces = false) : gk_Mt l yX11_isVehicle (.code yX11_isVehicle cX11_isVehicle 2 (some .boolean) :: gk_W1) 1 0 S_X11_isVehicle := gk_meth hl gk_cw_ok (by decide +kernel) rfl m_X11_isVehicle pX11_ok (gk_Sp_of sp_X11_isVehicle) pX11_st (fun ci m S h => absurd h (by intro h; cases h)) (xf_X11 1) (fun idx kd ci mm cost S2 h h5 => lk_X11_isVehicle hl _ (gk_lk_mem h) h5)

def S_X11_isSource : gk_S := fun as n fl x y K => ∃ (v : Int32), as = [.ref 189, .int v] ∧ (n = 202 ∧ fl = gk_fT) ∧ (K (.inl (some (.int (if 0 ≤ v ∧ v ≤ x 190 7 - 1 then 1 else 0)))) n fl x y)
theorem r_X11_isSource (w : gk_W c P cs (fun _ _ => none) rt uf sc K V) {idx : Nat} {v : Int32} (hd : decode c pc = .ok (.invokevirtual idx, 3)) (hp : pc + 3 = pc2) (hc : cs idx = some (1, 10, 2, 0, S_X11_isSource)) (h8 : Nat.ble (r.map Value.category).sum 8 = true) (kk0 : V pc2 L ((.int (if 0 ≤ v ∧ v ≤ x 190 7 - 1 then 1 else 0)) :: r) 202 gk_fT x y u) : V pc L (.int v :: .ref 189 :: r) 202 gk_fT x y u :=
  g_callv w hd hp hc (as := [.ref 189, .int v]) rfl h8 rfl rfl rfl (Or.inr (Or.inl ⟨Or.inl rfl, _, _, rfl, (gk_kd_j rfl rfl), rfl⟩)) (Or.inl rfl) ⟨v, rfl, ⟨rfl, rfl⟩, kk0⟩
def L_X11_isSource : List (Nat × gk_M0) := [(52, (0, 10, 3, 0, S_X11_isBetween))]
def cs_X11_isSource : Nat → Option gk_M0 := gk_lk L_X11_isSource
theorem m_X11_isSource : ∀ (as : List Value) (n : Nat) (fl : gk_F) (x : gk_X) (y : gk_Y) (K : gk_K), S_X11_isSource as n fl x y K → (gk_L0 as).length ≤ 2 ∧ ∀ V : gk_V, gk_W cX11_isSource pX11 cs_X11_isSource (fun _ _ => none) (some .boolean) 0 none K V → V 0 (gk_en as 2) [] n fl x y 0 := by
  intro as n fl x y K hS
  obtain ⟨v, rfl, ⟨rfl, rfl⟩, q0⟩ := hS
  refine ⟨Nat.le_of_ble_eq_true rfl, fun V w => ?_⟩
  show V 0 [some (.ref 189), some (.int v)] [] 202 gk_fT x y 0
  refine s_iload_n (pc2 := 1) w dX11_isSource_0 rfl rfl ?_
  refine s_iconst (pc2 := 2) (v := 0) w dX11_isSource_1 rfl rfl ?_
  refine s_aload_n (pc2 := 3) w dX11_isSource_2 rfl rfl ?_
  refine m_getR (pc2 := 6) (ci := 10) (k := 0) (j2 := 190) w dX11_isSource_3 rfl rfl (by first | assumption | rfl) rfl rfl rfl ?_
  refine s_bipush (pc2 := 8) (v := 7) w dX11_isSource_6 rfl rfl ?_
  refine m_ialoadN (pc2 := 9) (t := 7) w dX11_isSource_8 rfl (by first | assumption | rfl) rfl rfl (by decide) rfl ?_
  refine s_iconst (pc2 := 10) (v := 1) w dX11_isSource_9 rfl rfl ?_
  refine s_isub (pc2 := 11) w dX11_isSource_10 rfl ?_
  refine r_X11_isBetween (pc2 := 14) w dX11_isSource_11 rfl rfl rfl ?_
  refine s_ireturn w dX11_isSource_14 rfl g_nz ?_
  exact q0
theorem lk_X11_isSource {l : Launch} (hl : l.stackTraces = false) : ∀ q ∈ L_X11_isSource, (q.2.1 < 5 → gk_Lk l RX11 gk_W1 1 q.1 q.2.1 q.2.2.1 q.2.2.2.1 q.2.2.2.2.1 q.2.2.2.2.2) := (List.forall_mem_cons.mpr ⟨(fun _ => ⟨yX11_isBetween, cX11_isBetween, 3, (some .boolean), 0, _, M_X11_isBetween hl, ⟨by decide, by decide⟩, ⟨by decide, by decide, by decide +kernel⟩, ⟨(gk_wm 1334 (by decide +kernel)), (gk_wm 99 (by decide +kernel))⟩, Or.inl ⟨rfl, rfl, (gk_wm 1333 (by decide +kernel)), gk_wm 1332 (by decide +kernel)⟩⟩), (fun _ h => absurd h List.not_mem_nil)⟩)
theorem sp_X11_isSource : ∀ q ∈ L_X11_isSource, gk_Sq RX11 gk_W1 1 q := (List.forall_mem_cons.mpr ⟨⟨fun h => absurd h (by decide), fun h => absurd h (by decide), fun h => absurd h (by decide), fun h => absurd h (by decide), fun h => absurd h (by decide), fun h => absurd h (by decide)⟩, (fun _ h => absurd h List.not_mem_nil)⟩)
theorem M_X11_isSource {l : Launch} (hl : l.stackTraces = false) : gk_Mt l yX11_isSource (.code yX11_isSource cX11_isSource 2 (some .boolean) :: gk_W1) 1 0 S_X11_isSource := gk_meth hl gk_cw_ok (by decide +kernel) rfl m_X11_isSource pX11_ok (gk_Sp_of sp_X11_isSource) pX11_st (fun ci m S h => absurd h (by intro h; cases h)) (xf_X11 1) (fun idx kd ci mm cost S2 h h5 => lk_X11_isSource hl _ (gk_lk_mem h) h5)

def S_X11_isMicrophone : gk_S := fun as n fl x y K => ∃ (v : Int32), as = [.ref 189, .int v] ∧ (n = 202 ∧ fl = gk_fT) ∧ (K (.inl (some (.int (if 0 ≤ v ∧ v ≤ x 190 8 - 1 then 1 else 0)))) n fl x y)
theorem r_X11_isMicrophone (w : gk_W c P cs (fun _ _ => none) rt uf sc K V) {idx : Nat} {v : Int32} (hd : decode c pc = .ok (.invokevirtual idx, 3)) (hp : pc + 3 = pc2) (hc : cs idx = some (1, 10, 2, 0, S_X11_isMicrophone)) (h8 : Nat.ble (r.map Value.category).sum 8 = true) (kk0 : V pc2 L ((.int (if 0 ≤ v ∧ v ≤ x 190 8 - 1 then 1 else 0)) :: r) 202 gk_fT x y u) : V pc L (.int v :: .ref 189 :: r) 202 gk_fT x y u :=
  g_callv w hd hp hc (as := [.ref 189, .int v]) rfl h8 rfl rfl rfl (Or.inr (Or.inl ⟨Or.inl rfl, _, _, rfl, (gk_kd_j rfl rfl), rfl⟩)) (Or.inl rfl) ⟨v, rfl, ⟨rfl, rfl⟩, kk0⟩
def L_X11_isMicrophone : List (Nat × gk_M0) := [(52, (0, 10, 3, 0, S_X11_isBetween))]
def cs_X11_isMicrophone : Nat → Option gk_M0 := gk_lk L_X11_isMicrophone
theorem m_X11_isMicrophone : ∀ (as : List Value) (n : Nat) (fl : gk_F) (x : gk_X) (y : gk_Y) (K : gk_K), S_X11_isMicrophone as n fl x y K → (gk_L0 as).length ≤ 2 ∧ ∀ V : gk_V, gk_W cX11_isMicrophone pX11 cs_X11_isMicrophone (fun _ _ => none) (some .boolean) 0 none K V → V 0 (gk_en as 2) [] n fl x y 0 := by
  intro as n fl x y K hS
  obtain ⟨v, rfl, ⟨rfl, rfl⟩, q0⟩ := hS
  refine ⟨Nat.le_of_ble_eq_true rfl, fun V w => ?_⟩
  show V 0 [some (.ref 189), some (.int v)] [] 202 gk_fT x y 0
  refine s_iload_n (pc2 := 1) w dX11_isMicrophone_0 rfl rfl ?_
  refine s_iconst (pc2 := 2) (v := 0) w dX11_isMicrophone_1 rfl rfl ?_
  refine s_aload_n (pc2 := 3) w dX11_isMicrophone_2 rfl rfl ?_
  refine m_getR (pc2 := 6) (ci := 10) (k := 0) (j2 := 190) w dX11_isMicrophone_3 rfl rfl (by first | assumption | rfl) rfl rfl rfl ?_
  refine s_bipush (pc2 := 8) (v := 8) w dX11_isMicrophone_6 rfl rfl ?_
  refine m_ialoadN (pc2 := 9) (t := 8) w dX11_isMicrophone_8 rfl (by first | assumption | rfl) rfl rfl (by decide) rfl ?_
  refine s_iconst (pc2 := 10) (v := 1) w dX11_isMicrophone_9 rfl rfl ?_
  refine s_isub (pc2 := 11) w dX11_isMicrophone_10 rfl ?_
  refine r_X11_isBetween (pc2 := 14) w dX11_isMicrophone_11 rfl rfl rfl ?_
  refine s_ireturn w dX11_isMicrophone_14 rfl g_nz ?_
  exact q0
theorem lk_X11_isMicrophone {l : Launch} (hl : l.stackTraces = false) : ∀ q ∈ L_X11_isMicrophone, (q.2.1 < 5 → gk_Lk l RX11 gk_W1 1 q.1 q.2.1 q.2.2.1 q.2.2.2.1 q.2.2.2.2.1 q.2.2.2.2.2) := (List.forall_mem_cons.mpr ⟨(fun _ => ⟨yX11_isBetween, cX11_isBetween, 3, (some .boolean), 0, _, M_X11_isBetween hl, ⟨by decide, by decide⟩, ⟨by decide, by decide, by decide +kernel⟩, ⟨(gk_wm 1334 (by decide +kernel)), (gk_wm 99 (by decide +kernel))⟩, Or.inl ⟨rfl, rfl, (gk_wm 1333 (by decide +kernel)), gk_wm 1332 (by decide +kernel)⟩⟩), (fun _ h => absurd h List.not_mem_nil)⟩)
theorem sp_X11_isMicrophone : ∀ q ∈ L_X11_isMicrophone, gk_Sq RX11 gk_W1 1 q := (List.forall_mem_cons.mpr ⟨⟨fun h => absurd h (by decide), fun h => absurd h (by decide), fun h => absurd h (by decide), fun h => absurd h (by decide), fun h => absurd h (by decide), fun h => absurd h (by decide)⟩, (fun _ h => absurd h List.not_mem_nil)⟩)
theorem M_X11_isMicrophone {l : Launch} (hl : l.stackTraces = false) : gk_Mt l yX11_isMicrophone (.code yX11_isMicrophone cX11_isMicrophone 2 (some .boolean) :: gk_W1) 1 0 S_X11_isMicrophone := gk_meth hl gk_cw_ok (by decide +kernel) rfl m_X11_isMicrophone pX11_ok (gk_Sp_of sp_X11_isMicrophone) pX11_st (fun ci m S h => absurd h (by intro h; cases h)) (xf_X11 1) (fun idx kd ci mm cost S2 h h5 => lk_X11_isMicrophone hl _ (gk_lk_mem h) h5)

def S_X11_isHeight : gk_S := fun as n fl x y K => ∃ (v : Int32), as = [.int v] ∧ (n = 202 ∧ fl = gk_fT) ∧ (K (.inl (some (.int (if 0 ≤ v ∧ v ≤ 500 then 1 else 0)))) n fl x y)
theorem r_X11_isHeight (w : gk_W c P cs (fun _ _ => none) rt uf sc K V) {idx : Nat} {v : Int32} (hd : decode c pc = .ok (.invokestatic idx, 3)) (hp : pc + 3 = pc2) (hc : cs idx = some (0, 10, 1, 0, S_X11_isHeight)) (h8 : Nat.ble (r.map Value.category).sum 8 = true) (kk0 : V pc2 L ((.int (if 0 ≤ v ∧ v ≤ 500 then 1 else 0)) :: r) 202 gk_fT x y u) : V pc L (.int v :: r) 202 gk_fT x y u :=
  g_calls w hd hp hc (as := [.int v]) rfl h8 rfl rfl rfl (Or.inl rfl) (Or.inl rfl) ⟨v, rfl, ⟨rfl, rfl⟩, kk0⟩
def L_X11_isHeight : List (Nat × gk_M0) := [(52, (0, 10, 3, 0, S_X11_isBetween))]
def cs_X11_isHeight : Nat → Option gk_M0 := gk_lk L_X11_isHeight
theorem m_X11_isHeight : ∀ (as : List Value) (n : Nat) (fl : gk_F) (x : gk_X) (y : gk_Y) (K : gk_K), S_X11_isHeight as n fl x y K → (gk_L0 as).length ≤ 1 ∧ ∀ V : gk_V, gk_W cX11_isHeight pX11 cs_X11_isHeight (fun _ _ => none) (some .boolean) 0 none K V → V 0 (gk_en as 1) [] n fl x y 0 := by
  intro as n fl x y K hS
  obtain ⟨v, rfl, ⟨rfl, rfl⟩, q0⟩ := hS
  refine ⟨Nat.le_of_ble_eq_true rfl, fun V w => ?_⟩
  show V 0 [some (.int v)] [] 202 gk_fT x y 0
  refine s_iload_n (pc2 := 1) w dX11_isHeight_0 rfl rfl ?_
  refine s_iconst (pc2 := 2) (v := 0) w dX11_isHeight_1 rfl rfl ?_
  refine s_sipush (pc2 := 5) (v := 500) w dX11_isHeight_2 rfl rfl ?_
  refine r_X11_isBetween (pc2 := 8) w dX11_isHeight_5 rfl rfl rfl ?_
  refine s_ireturn w dX11_isHeight_8 rfl g_nz ?_
  exact q0
theorem lk_X11_isHeight {l : Launch} (hl : l.stackTraces = false) : ∀ q ∈ L_X11_isHeight, (q.2.1 < 5 → gk_Lk l RX11 gk_W1 1 q.1 q.2.1 q.2.2.1 q.2.2.2.1 q.2.2.2.2.1 q.2.2.2.2.2) := (List.forall_mem_cons.mpr ⟨(fun _ => ⟨yX11_isBetween, cX11_isBetween, 3, (some .boolean), 0, _, M_X11_isBetween hl, ⟨by decide, by decide⟩, ⟨by decide, by decide, by decide +kernel⟩, ⟨(gk_wm 1334 (by decide +kernel)), (gk_wm 99 (by decide +kernel))⟩, Or.inl ⟨rfl, rfl, (gk_wm 1333 (by decide +kernel)), gk_wm 1332 (by decide +kernel)⟩⟩), (fun _ h => absurd h List.not_mem_nil)⟩)
theorem sp_X11_isHeight : ∀ q ∈ L_X11_isHeight, gk_Sq RX11 gk_W1 1 q := (List.forall_mem_cons.mpr ⟨⟨fun h => absurd h (by decide), fun h => absurd h (by decide), fun h => absurd h (by decide), fun h => absurd h (by decide), fun h => absurd h (by decide), fun h => absurd h (by decide)⟩, (fun _ h => absurd h List.not_mem_nil)⟩)
theorem M_X11_isHeight {l : Launch} (hl : l.stackTraces = false) : gk_Mt l yX11_isHeight (.code yX11_isHeight cX11_isHeight 1 (some .boolean) :: gk_W1) 1 0 S_X11_isHeight := gk_meth hl gk_cw_ok (by decide +kernel) rfl m_X11_isHeight pX11_ok (gk_Sp_of sp_X11_isHeight) pX11_st (fun ci m S h => absurd h (by intro h; cases h)) (xf_X11 1) (fun idx kd ci mm cost S2 h h5 => lk_X11_isHeight hl _ (gk_lk_mem h) h5)

def S_X11_isOffset : gk_S := fun as n fl x y K => ∃ (v : Int32), as = [.int v] ∧ (n = 202 ∧ fl = gk_fT) ∧ (K (.inl (some (.int (if -1000 ≤ v ∧ v ≤ 1000 then 1 else 0)))) n fl x y)
theorem r_X11_isOffset (w : gk_W c P cs (fun _ _ => none) rt uf sc K V) {idx : Nat} {v : Int32} (hd : decode c pc = .ok (.invokestatic idx, 3)) (hp : pc + 3 = pc2) (hc : cs idx = some (0, 10, 1, 0, S_X11_isOffset)) (h8 : Nat.ble (r.map Value.category).sum 8 = true) (kk0 : V pc2 L ((.int (if -1000 ≤ v ∧ v ≤ 1000 then 1 else 0)) :: r) 202 gk_fT x y u) : V pc L (.int v :: r) 202 gk_fT x y u :=
  g_calls w hd hp hc (as := [.int v]) rfl h8 rfl rfl rfl (Or.inl rfl) (Or.inl rfl) ⟨v, rfl, ⟨rfl, rfl⟩, kk0⟩
def L_X11_isOffset : List (Nat × gk_M0) := [(52, (0, 10, 3, 0, S_X11_isBetween))]
def cs_X11_isOffset : Nat → Option gk_M0 := gk_lk L_X11_isOffset
theorem m_X11_isOffset : ∀ (as : List Value) (n : Nat) (fl : gk_F) (x : gk_X) (y : gk_Y) (K : gk_K), S_X11_isOffset as n fl x y K → (gk_L0 as).length ≤ 1 ∧ ∀ V : gk_V, gk_W cX11_isOffset pX11 cs_X11_isOffset (fun _ _ => none) (some .boolean) 0 none K V → V 0 (gk_en as 1) [] n fl x y 0 := by
  intro as n fl x y K hS
  obtain ⟨v, rfl, ⟨rfl, rfl⟩, q0⟩ := hS
  refine ⟨Nat.le_of_ble_eq_true rfl, fun V w => ?_⟩
  show V 0 [some (.int v)] [] 202 gk_fT x y 0
  refine s_iload_n (pc2 := 1) w dX11_isOffset_0 rfl rfl ?_
  refine s_sipush (pc2 := 4) (v := (-1000)) w dX11_isOffset_1 rfl rfl ?_
  refine s_sipush (pc2 := 7) (v := 1000) w dX11_isOffset_4 rfl rfl ?_
  refine r_X11_isBetween (pc2 := 10) w dX11_isOffset_7 rfl rfl rfl ?_
  refine s_ireturn w dX11_isOffset_10 rfl g_nz ?_
  exact q0
theorem lk_X11_isOffset {l : Launch} (hl : l.stackTraces = false) : ∀ q ∈ L_X11_isOffset, (q.2.1 < 5 → gk_Lk l RX11 gk_W1 1 q.1 q.2.1 q.2.2.1 q.2.2.2.1 q.2.2.2.2.1 q.2.2.2.2.2) := (List.forall_mem_cons.mpr ⟨(fun _ => ⟨yX11_isBetween, cX11_isBetween, 3, (some .boolean), 0, _, M_X11_isBetween hl, ⟨by decide, by decide⟩, ⟨by decide, by decide, by decide +kernel⟩, ⟨(gk_wm 1334 (by decide +kernel)), (gk_wm 99 (by decide +kernel))⟩, Or.inl ⟨rfl, rfl, (gk_wm 1333 (by decide +kernel)), gk_wm 1332 (by decide +kernel)⟩⟩), (fun _ h => absurd h List.not_mem_nil)⟩)
theorem sp_X11_isOffset : ∀ q ∈ L_X11_isOffset, gk_Sq RX11 gk_W1 1 q := (List.forall_mem_cons.mpr ⟨⟨fun h => absurd h (by decide), fun h => absurd h (by decide), fun h => absurd h (by decide), fun h => absurd h (by decide), fun h => absurd h (by decide), fun h => absurd h (by decide)⟩, (fun _ h => absurd h List.not_mem_nil)⟩)
theorem M_X11_isOffset {l : Launch} (hl : l.stackTraces = false) : gk_Mt l yX11_isOffset (.code yX11_isOffset cX11_isOffset 1 (some .boolean) :: gk_W1) 1 0 S_X11_isOffset := gk_meth hl gk_cw_ok (by decide +kernel) rfl m_X11_isOffset pX11_ok (gk_Sp_of sp_X11_isOffset) pX11_st (fun ci m S h => absurd h (by intro h; cases h)) (xf_X11 1) (fun idx kd ci mm cost S2 h h5 => lk_X11_isOffset hl _ (gk_lk_mem h) h5)

def S_X11_isValue : gk_S := fun as n fl x y K => ∃ (v : Int32), as = [.int v] ∧ (n = 202 ∧ fl = gk_fT) ∧ (K (.inl (some (.int (if -99 ≤ v ∧ v ≤ 99 then 1 else 0)))) n fl x y)
theorem r_X11_isValue (w : gk_W c P cs (fun _ _ => none) rt uf sc K V) {idx : Nat} {v : Int32} (hd : decode c pc = .ok (.invokestatic idx, 3)) (hp : pc + 3 = pc2) (hc : cs idx = some (0, 10, 1, 0, S_X11_isValue)) (h8 : Nat.ble (r.map Value.category).sum 8 = true) (kk0 : V pc2 L ((.int (if -99 ≤ v ∧ v ≤ 99 then 1 else 0)) :: r) 202 gk_fT x y u) : V pc L (.int v :: r) 202 gk_fT x y u :=
  g_calls w hd hp hc (as := [.int v]) rfl h8 rfl rfl rfl (Or.inl rfl) (Or.inl rfl) ⟨v, rfl, ⟨rfl, rfl⟩, kk0⟩
def L_X11_isValue : List (Nat × gk_M0) := [(52, (0, 10, 3, 0, S_X11_isBetween))]
def cs_X11_isValue : Nat → Option gk_M0 := gk_lk L_X11_isValue
theorem m_X11_isValue : ∀ (as : List Value) (n : Nat) (fl : gk_F) (x : gk_X) (y : gk_Y) (K : gk_K), S_X11_isValue as n fl x y K → (gk_L0 as).length ≤ 1 ∧ ∀ V : gk_V, gk_W cX11_isValue pX11 cs_X11_isValue (fun _ _ => none) (some .boolean) 0 none K V → V 0 (gk_en as 1) [] n fl x y 0 := by
  intro as n fl x y K hS
  obtain ⟨v, rfl, ⟨rfl, rfl⟩, q0⟩ := hS
  refine ⟨Nat.le_of_ble_eq_true rfl, fun V w => ?_⟩
  show V 0 [some (.int v)] [] 202 gk_fT x y 0
  refine s_iload_n (pc2 := 1) w dX11_isValue_0 rfl rfl ?_
  refine s_bipush (pc2 := 3) (v := (-99)) w dX11_isValue_1 rfl rfl ?_
  refine s_bipush (pc2 := 5) (v := 99) w dX11_isValue_3 rfl rfl ?_
  refine r_X11_isBetween (pc2 := 8) w dX11_isValue_5 rfl rfl rfl ?_
  refine s_ireturn w dX11_isValue_8 rfl g_nz ?_
  exact q0
theorem lk_X11_isValue {l : Launch} (hl : l.stackTraces = false) : ∀ q ∈ L_X11_isValue, (q.2.1 < 5 → gk_Lk l RX11 gk_W1 1 q.1 q.2.1 q.2.2.1 q.2.2.2.1 q.2.2.2.2.1 q.2.2.2.2.2) := (List.forall_mem_cons.mpr ⟨(fun _ => ⟨yX11_isBetween, cX11_isBetween, 3, (some .boolean), 0, _, M_X11_isBetween hl, ⟨by decide, by decide⟩, ⟨by decide, by decide, by decide +kernel⟩, ⟨(gk_wm 1334 (by decide +kernel)), (gk_wm 99 (by decide +kernel))⟩, Or.inl ⟨rfl, rfl, (gk_wm 1333 (by decide +kernel)), gk_wm 1332 (by decide +kernel)⟩⟩), (fun _ h => absurd h List.not_mem_nil)⟩)
theorem sp_X11_isValue : ∀ q ∈ L_X11_isValue, gk_Sq RX11 gk_W1 1 q := (List.forall_mem_cons.mpr ⟨⟨fun h => absurd h (by decide), fun h => absurd h (by decide), fun h => absurd h (by decide), fun h => absurd h (by decide), fun h => absurd h (by decide), fun h => absurd h (by decide)⟩, (fun _ h => absurd h List.not_mem_nil)⟩)
theorem M_X11_isValue {l : Launch} (hl : l.stackTraces = false) : gk_Mt l yX11_isValue (.code yX11_isValue cX11_isValue 1 (some .boolean) :: gk_W1) 1 0 S_X11_isValue := gk_meth hl gk_cw_ok (by decide +kernel) rfl m_X11_isValue pX11_ok (gk_Sp_of sp_X11_isValue) pX11_st (fun ci m S h => absurd h (by intro h; cases h)) (xf_X11 1) (fun idx kd ci mm cost S2 h h5 => lk_X11_isValue hl _ (gk_lk_mem h) h5)

def S_X11_isPeriod : gk_S := fun as n fl x y K => ∃ (v : Int32), as = [.int v] ∧ (n = 202 ∧ fl = gk_fT) ∧ (K (.inl (some (.int (if 1 ≤ v ∧ v ≤ 64 then 1 else 0)))) n fl x y)
theorem r_X11_isPeriod (w : gk_W c P cs (fun _ _ => none) rt uf sc K V) {idx : Nat} {v : Int32} (hd : decode c pc = .ok (.invokestatic idx, 3)) (hp : pc + 3 = pc2) (hc : cs idx = some (0, 10, 1, 0, S_X11_isPeriod)) (h8 : Nat.ble (r.map Value.category).sum 8 = true) (kk0 : V pc2 L ((.int (if 1 ≤ v ∧ v ≤ 64 then 1 else 0)) :: r) 202 gk_fT x y u) : V pc L (.int v :: r) 202 gk_fT x y u :=
  g_calls w hd hp hc (as := [.int v]) rfl h8 rfl rfl rfl (Or.inl rfl) (Or.inl rfl) ⟨v, rfl, ⟨rfl, rfl⟩, kk0⟩
def L_X11_isPeriod : List (Nat × gk_M0) := [(52, (0, 10, 3, 0, S_X11_isBetween))]
def cs_X11_isPeriod : Nat → Option gk_M0 := gk_lk L_X11_isPeriod
theorem m_X11_isPeriod : ∀ (as : List Value) (n : Nat) (fl : gk_F) (x : gk_X) (y : gk_Y) (K : gk_K), S_X11_isPeriod as n fl x y K → (gk_L0 as).length ≤ 1 ∧ ∀ V : gk_V, gk_W cX11_isPeriod pX11 cs_X11_isPeriod (fun _ _ => none) (some .boolean) 0 none K V → V 0 (gk_en as 1) [] n fl x y 0 := by
  intro as n fl x y K hS
  obtain ⟨v, rfl, ⟨rfl, rfl⟩, q0⟩ := hS
  refine ⟨Nat.le_of_ble_eq_true rfl, fun V w => ?_⟩
  show V 0 [some (.int v)] [] 202 gk_fT x y 0
  refine s_iload_n (pc2 := 1) w dX11_isPeriod_0 rfl rfl ?_
  refine s_iconst (pc2 := 2) (v := 1) w dX11_isPeriod_1 rfl rfl ?_
  refine s_bipush (pc2 := 4) (v := 64) w dX11_isPeriod_2 rfl rfl ?_
  refine r_X11_isBetween (pc2 := 7) w dX11_isPeriod_4 rfl rfl rfl ?_
  refine s_ireturn w dX11_isPeriod_7 rfl g_nz ?_
  exact q0
theorem lk_X11_isPeriod {l : Launch} (hl : l.stackTraces = false) : ∀ q ∈ L_X11_isPeriod, (q.2.1 < 5 → gk_Lk l RX11 gk_W1 1 q.1 q.2.1 q.2.2.1 q.2.2.2.1 q.2.2.2.2.1 q.2.2.2.2.2) := (List.forall_mem_cons.mpr ⟨(fun _ => ⟨yX11_isBetween, cX11_isBetween, 3, (some .boolean), 0, _, M_X11_isBetween hl, ⟨by decide, by decide⟩, ⟨by decide, by decide, by decide +kernel⟩, ⟨(gk_wm 1334 (by decide +kernel)), (gk_wm 99 (by decide +kernel))⟩, Or.inl ⟨rfl, rfl, (gk_wm 1333 (by decide +kernel)), gk_wm 1332 (by decide +kernel)⟩⟩), (fun _ h => absurd h List.not_mem_nil)⟩)
theorem sp_X11_isPeriod : ∀ q ∈ L_X11_isPeriod, gk_Sq RX11 gk_W1 1 q := (List.forall_mem_cons.mpr ⟨⟨fun h => absurd h (by decide), fun h => absurd h (by decide), fun h => absurd h (by decide), fun h => absurd h (by decide), fun h => absurd h (by decide), fun h => absurd h (by decide)⟩, (fun _ h => absurd h List.not_mem_nil)⟩)
theorem M_X11_isPeriod {l : Launch} (hl : l.stackTraces = false) : gk_Mt l yX11_isPeriod (.code yX11_isPeriod cX11_isPeriod 1 (some .boolean) :: gk_W1) 1 0 S_X11_isPeriod := gk_meth hl gk_cw_ok (by decide +kernel) rfl m_X11_isPeriod pX11_ok (gk_Sp_of sp_X11_isPeriod) pX11_st (fun ci m S h => absurd h (by intro h; cases h)) (xf_X11 1) (fun idx kd ci mm cost S2 h h5 => lk_X11_isPeriod hl _ (gk_lk_mem h) h5)

def S_X11_isLetter : gk_S := fun as n fl x y K => ∃ (v : Int32), as = [.int v] ∧ (n = 202 ∧ fl = gk_fT) ∧ (K (.inl (some (.int (if 97 ≤ v ∧ v ≤ 122 then 1 else 0)))) n fl x y)
theorem r_X11_isLetter (w : gk_W c P cs (fun _ _ => none) rt uf sc K V) {idx : Nat} {v : Int32} (hd : decode c pc = .ok (.invokestatic idx, 3)) (hp : pc + 3 = pc2) (hc : cs idx = some (0, 10, 1, 0, S_X11_isLetter)) (h8 : Nat.ble (r.map Value.category).sum 8 = true) (kk0 : V pc2 L ((.int (if 97 ≤ v ∧ v ≤ 122 then 1 else 0)) :: r) 202 gk_fT x y u) : V pc L (.int v :: r) 202 gk_fT x y u :=
  g_calls w hd hp hc (as := [.int v]) rfl h8 rfl rfl rfl (Or.inl rfl) (Or.inl rfl) ⟨v, rfl, ⟨rfl, rfl⟩, kk0⟩
def L_X11_isLetter : List (Nat × gk_M0) := [(52, (0, 10, 3, 0, S_X11_isBetween))]
def cs_X11_isLetter : Nat → Option gk_M0 := gk_lk L_X11_isLetter
theorem m_X11_isLetter : ∀ (as : List Value) (n : Nat) (fl : gk_F) (x : gk_X) (y : gk_Y) (K : gk_K), S_X11_isLetter as n fl x y K → (gk_L0 as).length ≤ 1 ∧ ∀ V : gk_V, gk_W cX11_isLetter pX11 cs_X11_isLetter (fun _ _ => none) (some .boolean) 0 none K V → V 0 (gk_en as 1) [] n fl x y 0 := by
  intro as n fl x y K hS
  obtain ⟨v, rfl, ⟨rfl, rfl⟩, q0⟩ := hS
  refine ⟨Nat.le_of_ble_eq_true rfl, fun V w => ?_⟩
  show V 0 [some (.int v)] [] 202 gk_fT x y 0
  refine s_iload_n (pc2 := 1) w dX11_isLetter_0 rfl rfl ?_
  refine s_bipush (pc2 := 3) (v := 97) w dX11_isLetter_1 rfl rfl ?_
  refine s_bipush (pc2 := 5) (v := 122) w dX11_isLetter_3 rfl rfl ?_
  refine r_X11_isBetween (pc2 := 8) w dX11_isLetter_5 rfl rfl rfl ?_
  refine s_ireturn w dX11_isLetter_8 rfl g_nz ?_
  exact q0
theorem lk_X11_isLetter {l : Launch} (hl : l.stackTraces = false) : ∀ q ∈ L_X11_isLetter, (q.2.1 < 5 → gk_Lk l RX11 gk_W1 1 q.1 q.2.1 q.2.2.1 q.2.2.2.1 q.2.2.2.2.1 q.2.2.2.2.2) := (List.forall_mem_cons.mpr ⟨(fun _ => ⟨yX11_isBetween, cX11_isBetween, 3, (some .boolean), 0, _, M_X11_isBetween hl, ⟨by decide, by decide⟩, ⟨by decide, by decide, by decide +kernel⟩, ⟨(gk_wm 1334 (by decide +kernel)), (gk_wm 99 (by decide +kernel))⟩, Or.inl ⟨rfl, rfl, (gk_wm 1333 (by decide +kernel)), gk_wm 1332 (by decide +kernel)⟩⟩), (fun _ h => absurd h List.not_mem_nil)⟩)
theorem sp_X11_isLetter : ∀ q ∈ L_X11_isLetter, gk_Sq RX11 gk_W1 1 q := (List.forall_mem_cons.mpr ⟨⟨fun h => absurd h (by decide), fun h => absurd h (by decide), fun h => absurd h (by decide), fun h => absurd h (by decide), fun h => absurd h (by decide), fun h => absurd h (by decide)⟩, (fun _ h => absurd h List.not_mem_nil)⟩)
theorem M_X11_isLetter {l : Launch} (hl : l.stackTraces = false) : gk_Mt l yX11_isLetter (.code yX11_isLetter cX11_isLetter 1 (some .boolean) :: gk_W1) 1 0 S_X11_isLetter := gk_meth hl gk_cw_ok (by decide +kernel) rfl m_X11_isLetter pX11_ok (gk_Sp_of sp_X11_isLetter) pX11_st (fun ci m S h => absurd h (by intro h; cases h)) (xf_X11 1) (fun idx kd ci mm cost S2 h h5 => lk_X11_isLetter hl _ (gk_lk_mem h) h5)

def S_X11_isDigit : gk_S := fun as n fl x y K => ∃ (v : Int32), as = [.int v] ∧ (n = 202 ∧ fl = gk_fT) ∧ (K (.inl (some (.int (if 48 ≤ v ∧ v ≤ 57 then 1 else 0)))) n fl x y)
theorem r_X11_isDigit (w : gk_W c P cs (fun _ _ => none) rt uf sc K V) {idx : Nat} {v : Int32} (hd : decode c pc = .ok (.invokestatic idx, 3)) (hp : pc + 3 = pc2) (hc : cs idx = some (0, 10, 1, 0, S_X11_isDigit)) (h8 : Nat.ble (r.map Value.category).sum 8 = true) (kk0 : V pc2 L ((.int (if 48 ≤ v ∧ v ≤ 57 then 1 else 0)) :: r) 202 gk_fT x y u) : V pc L (.int v :: r) 202 gk_fT x y u :=
  g_calls w hd hp hc (as := [.int v]) rfl h8 rfl rfl rfl (Or.inl rfl) (Or.inl rfl) ⟨v, rfl, ⟨rfl, rfl⟩, kk0⟩
def L_X11_isDigit : List (Nat × gk_M0) := [(52, (0, 10, 3, 0, S_X11_isBetween))]
def cs_X11_isDigit : Nat → Option gk_M0 := gk_lk L_X11_isDigit
theorem m_X11_isDigit : ∀ (as : List Value) (n : Nat) (fl : gk_F) (x : gk_X) (y : gk_Y) (K : gk_K), S_X11_isDigit as n fl x y K → (gk_L0 as).length ≤ 1 ∧ ∀ V : gk_V, gk_W cX11_isDigit pX11 cs_X11_isDigit (fun _ _ => none) (some .boolean) 0 none K V → V 0 (gk_en as 1) [] n fl x y 0 := by
  intro as n fl x y K hS
  obtain ⟨v, rfl, ⟨rfl, rfl⟩, q0⟩ := hS
  refine ⟨Nat.le_of_ble_eq_true rfl, fun V w => ?_⟩
  show V 0 [some (.int v)] [] 202 gk_fT x y 0
  refine s_iload_n (pc2 := 1) w dX11_isDigit_0 rfl rfl ?_
  refine s_bipush (pc2 := 3) (v := 48) w dX11_isDigit_1 rfl rfl ?_
  refine s_bipush (pc2 := 5) (v := 57) w dX11_isDigit_3 rfl rfl ?_
  refine r_X11_isBetween (pc2 := 8) w dX11_isDigit_5 rfl rfl rfl ?_
  refine s_ireturn w dX11_isDigit_8 rfl g_nz ?_
  exact q0
theorem lk_X11_isDigit {l : Launch} (hl : l.stackTraces = false) : ∀ q ∈ L_X11_isDigit, (q.2.1 < 5 → gk_Lk l RX11 gk_W1 1 q.1 q.2.1 q.2.2.1 q.2.2.2.1 q.2.2.2.2.1 q.2.2.2.2.2) := (List.forall_mem_cons.mpr ⟨(fun _ => ⟨yX11_isBetween, cX11_isBetween, 3, (some .boolean), 0, _, M_X11_isBetween hl, ⟨by decide, by decide⟩, ⟨by decide, by decide, by decide +kernel⟩, ⟨(gk_wm 1334 (by decide +kernel)), (gk_wm 99 (by decide +kernel))⟩, Or.inl ⟨rfl, rfl, (gk_wm 1333 (by decide +kernel)), gk_wm 1332 (by decide +kernel)⟩⟩), (fun _ h => absurd h List.not_mem_nil)⟩)
theorem sp_X11_isDigit : ∀ q ∈ L_X11_isDigit, gk_Sq RX11 gk_W1 1 q := (List.forall_mem_cons.mpr ⟨⟨fun h => absurd h (by decide), fun h => absurd h (by decide), fun h => absurd h (by decide), fun h => absurd h (by decide), fun h => absurd h (by decide), fun h => absurd h (by decide)⟩, (fun _ h => absurd h List.not_mem_nil)⟩)
theorem M_X11_isDigit {l : Launch} (hl : l.stackTraces = false) : gk_Mt l yX11_isDigit (.code yX11_isDigit cX11_isDigit 1 (some .boolean) :: gk_W1) 1 0 S_X11_isDigit := gk_meth hl gk_cw_ok (by decide +kernel) rfl m_X11_isDigit pX11_ok (gk_Sp_of sp_X11_isDigit) pX11_st (fun ci m S h => absurd h (by intro h; cases h)) (xf_X11 1) (fun idx kd ci mm cost S2 h h5 => lk_X11_isDigit hl _ (gk_lk_mem h) h5)

def S_X11_isVehiclePlace : gk_S := fun as n fl x y K => ∃ (a : Int32) (b : Int32) (e : Int32), as = [.int a, .int b, .int e] ∧ (n = 202 ∧ fl = gk_fT) ∧ (K (.inl (some (.int (if (-20000 ≤ a ∧ a ≤ 20000) ∧ (-50 ≤ b ∧ b ≤ 50) ∧ (100 ≤ e ∧ e ≤ 5000) then 1 else 0)))) n fl x y)
theorem r_X11_isVehiclePlace (w : gk_W c P cs (fun _ _ => none) rt uf sc K V) {idx : Nat} {a : Int32} {b : Int32} {e : Int32} (hd : decode c pc = .ok (.invokestatic idx, 3)) (hp : pc + 3 = pc2) (hc : cs idx = some (0, 10, 3, 0, S_X11_isVehiclePlace)) (h8 : Nat.ble (r.map Value.category).sum 8 = true) (kk0 : V pc2 L ((.int (if (-20000 ≤ a ∧ a ≤ 20000) ∧ (-50 ≤ b ∧ b ≤ 50) ∧ (100 ≤ e ∧ e ≤ 5000) then 1 else 0)) :: r) 202 gk_fT x y u) : V pc L (.int e :: .int b :: .int a :: r) 202 gk_fT x y u :=
  g_calls w hd hp hc (as := [.int a, .int b, .int e]) rfl h8 rfl rfl rfl (Or.inl rfl) (Or.inl rfl) ⟨a, b, e, rfl, ⟨rfl, rfl⟩, kk0⟩
def L_X11_isVehiclePlace : List (Nat × gk_M0) := [(52, (0, 10, 3, 0, S_X11_isBetween))]
def cs_X11_isVehiclePlace : Nat → Option gk_M0 := gk_lk L_X11_isVehiclePlace
theorem m_X11_isVehiclePlace : ∀ (as : List Value) (n : Nat) (fl : gk_F) (x : gk_X) (y : gk_Y) (K : gk_K), S_X11_isVehiclePlace as n fl x y K → (gk_L0 as).length ≤ 3 ∧ ∀ V : gk_V, gk_W cX11_isVehiclePlace pX11 cs_X11_isVehiclePlace (fun _ _ => none) (some .boolean) 0 none K V → V 0 (gk_en as 3) [] n fl x y 0 := by
  intro as n fl x y K hS
  obtain ⟨a, b, e, rfl, ⟨rfl, rfl⟩, q0⟩ := hS
  refine ⟨Nat.le_of_ble_eq_true rfl, fun V w => ?_⟩
  show V 0 [some (.int a), some (.int b), some (.int e)] [] 202 gk_fT x y 0
  refine s_iload_n (pc2 := 1) w dX11_isVehiclePlace_0 rfl rfl ?_
  refine s_sipush (pc2 := 4) (v := (-20000)) w dX11_isVehiclePlace_1 rfl rfl ?_
  refine s_sipush (pc2 := 7) (v := 20000) w dX11_isVehiclePlace_4 rfl rfl ?_
  refine r_X11_isBetween (pc2 := 10) w dX11_isVehiclePlace_7 rfl rfl rfl ?_
  refine s_if_eq (pc2 := 13) (tgt := 40) w dX11_isVehiclePlace_10 rfl (by decide) (fun c10 => ?_) (fun c10 => ?_)
  · refine s_iconst (pc2 := 41) (v := 0) w dX11_isVehiclePlace_40 rfl rfl ?_
    refine s_ireturn w dX11_isVehiclePlace_41 rfl (by first | rfl | decide) ?_
    rw [g_b0] at c10
    rw [if_neg (fun h => c10 h.1)] at q0
    exact q0
  · refine s_iload_n (pc2 := 14) w dX11_isVehiclePlace_13 rfl rfl ?_
    refine s_bipush (pc2 := 16) (v := (-50)) w dX11_isVehiclePlace_14 rfl rfl ?_
    refine s_bipush (pc2 := 18) (v := 50) w dX11_isVehiclePlace_16 rfl rfl ?_
    refine r_X11_isBetween (pc2 := 21) w dX11_isVehiclePlace_18 rfl rfl rfl ?_
    refine s_if_eq (pc2 := 24) (tgt := 40) w dX11_isVehiclePlace_21 rfl (by decide) (fun c21 => ?_) (fun c21 => ?_)
    · refine s_iconst (pc2 := 41) (v := 0) w dX11_isVehiclePlace_40 rfl rfl ?_
      refine s_ireturn w dX11_isVehiclePlace_41 rfl (by first | rfl | decide) ?_
      rw [g_b0] at c21
      rw [if_neg (fun h => c21 h.2.1)] at q0
      exact q0
    · refine s_iload_n (pc2 := 25) w dX11_isVehiclePlace_24 rfl rfl ?_
      refine s_bipush (pc2 := 27) (v := 100) w dX11_isVehiclePlace_25 rfl rfl ?_
      refine s_sipush (pc2 := 30) (v := 5000) w dX11_isVehiclePlace_27 rfl rfl ?_
      refine r_X11_isBetween (pc2 := 33) w dX11_isVehiclePlace_30 rfl rfl rfl ?_
      refine s_if_eq (pc2 := 36) (tgt := 40) w dX11_isVehiclePlace_33 rfl (by decide) (fun c33 => ?_) (fun c33 => ?_)
      · refine s_iconst (pc2 := 41) (v := 0) w dX11_isVehiclePlace_40 rfl rfl ?_
        refine s_ireturn w dX11_isVehiclePlace_41 rfl (by first | rfl | decide) ?_
        rw [g_b0] at c33
        rw [if_neg (fun h => c33 h.2.2)] at q0
        exact q0
      · refine s_iconst (pc2 := 37) (v := 1) w dX11_isVehiclePlace_36 rfl rfl ?_
        refine s_goto (tgt := 41) w dX11_isVehiclePlace_37 (by decide) ?_
        refine s_ireturn w dX11_isVehiclePlace_41 rfl (by first | rfl | decide) ?_
        rw [g_b0, Classical.not_not] at c10
        rw [g_b0, Classical.not_not] at c21
        rw [g_b0, Classical.not_not] at c33
        rw [if_pos ⟨c10, c21, c33⟩] at q0
        exact q0
theorem lk_X11_isVehiclePlace {l : Launch} (hl : l.stackTraces = false) : ∀ q ∈ L_X11_isVehiclePlace, (q.2.1 < 5 → gk_Lk l RX11 gk_W1 1 q.1 q.2.1 q.2.2.1 q.2.2.2.1 q.2.2.2.2.1 q.2.2.2.2.2) := (List.forall_mem_cons.mpr ⟨(fun _ => ⟨yX11_isBetween, cX11_isBetween, 3, (some .boolean), 0, _, M_X11_isBetween hl, ⟨by decide, by decide⟩, ⟨by decide, by decide, by decide +kernel⟩, ⟨(gk_wm 1334 (by decide +kernel)), (gk_wm 99 (by decide +kernel))⟩, Or.inl ⟨rfl, rfl, (gk_wm 1333 (by decide +kernel)), gk_wm 1332 (by decide +kernel)⟩⟩), (fun _ h => absurd h List.not_mem_nil)⟩)
theorem sp_X11_isVehiclePlace : ∀ q ∈ L_X11_isVehiclePlace, gk_Sq RX11 gk_W1 1 q := (List.forall_mem_cons.mpr ⟨⟨fun h => absurd h (by decide), fun h => absurd h (by decide), fun h => absurd h (by decide), fun h => absurd h (by decide), fun h => absurd h (by decide), fun h => absurd h (by decide)⟩, (fun _ h => absurd h List.not_mem_nil)⟩)
theorem M_X11_isVehiclePlace {l : Launch} (hl : l.stackTraces = false) : gk_Mt l yX11_isVehiclePlace (.code yX11_isVehiclePlace cX11_isVehiclePlace 3 (some .boolean) :: gk_W1) 1 0 S_X11_isVehiclePlace := gk_meth hl gk_cw_ok (by decide +kernel) rfl m_X11_isVehiclePlace pX11_ok (gk_Sp_of sp_X11_isVehiclePlace) pX11_st (fun ci m S h => absurd h (by intro h; cases h)) (xf_X11 1) (fun idx kd ci mm cost S2 h h5 => lk_X11_isVehiclePlace hl _ (gk_lk_mem h) h5)

def S_X11_isMicrophonePlace : gk_S := fun as n fl x y K => ∃ (a : Int32) (b : Int32) (e : Int32), as = [.int a, .int b, .int e] ∧ (n = 202 ∧ fl = gk_fT) ∧ (K (.inl (some (.int (if (-5000 ≤ a ∧ a ≤ 5000) ∧ (-100 ≤ b ∧ b ≤ 99) ∧ (0 ≤ e ∧ e ≤ 500) then 1 else 0)))) n fl x y)
theorem r_X11_isMicrophonePlace (w : gk_W c P cs (fun _ _ => none) rt uf sc K V) {idx : Nat} {a : Int32} {b : Int32} {e : Int32} (hd : decode c pc = .ok (.invokestatic idx, 3)) (hp : pc + 3 = pc2) (hc : cs idx = some (0, 10, 3, 0, S_X11_isMicrophonePlace)) (h8 : Nat.ble (r.map Value.category).sum 8 = true) (kk0 : V pc2 L ((.int (if (-5000 ≤ a ∧ a ≤ 5000) ∧ (-100 ≤ b ∧ b ≤ 99) ∧ (0 ≤ e ∧ e ≤ 500) then 1 else 0)) :: r) 202 gk_fT x y u) : V pc L (.int e :: .int b :: .int a :: r) 202 gk_fT x y u :=
  g_calls w hd hp hc (as := [.int a, .int b, .int e]) rfl h8 rfl rfl rfl (Or.inl rfl) (Or.inl rfl) ⟨a, b, e, rfl, ⟨rfl, rfl⟩, kk0⟩
def L_X11_isMicrophonePlace : List (Nat × gk_M0) := [(52, (0, 10, 3, 0, S_X11_isBetween)), (81, (0, 10, 1, 0, S_X11_isHeight))]
def cs_X11_isMicrophonePlace : Nat → Option gk_M0 := gk_lk L_X11_isMicrophonePlace
theorem m_X11_isMicrophonePlace : ∀ (as : List Value) (n : Nat) (fl : gk_F) (x : gk_X) (y : gk_Y) (K : gk_K), S_X11_isMicrophonePlace as n fl x y K → (gk_L0 as).length ≤ 3 ∧ ∀ V : gk_V, gk_W cX11_isMicrophonePlace pX11 cs_X11_isMicrophonePlace (fun _ _ => none) (some .boolean) 0 none K V → V 0 (gk_en as 3) [] n fl x y 0 := by
  intro as n fl x y K hS
  obtain ⟨a, b, e, rfl, ⟨rfl, rfl⟩, q0⟩ := hS
  refine ⟨Nat.le_of_ble_eq_true rfl, fun V w => ?_⟩
  show V 0 [some (.int a), some (.int b), some (.int e)] [] 202 gk_fT x y 0
  refine s_iload_n (pc2 := 1) w dX11_isMicrophonePlace_0 rfl rfl ?_
  refine s_sipush (pc2 := 4) (v := (-5000)) w dX11_isMicrophonePlace_1 rfl rfl ?_
  refine s_sipush (pc2 := 7) (v := 5000) w dX11_isMicrophonePlace_4 rfl rfl ?_
  refine r_X11_isBetween (pc2 := 10) w dX11_isMicrophonePlace_7 rfl rfl rfl ?_
  refine s_if_eq (pc2 := 13) (tgt := 35) w dX11_isMicrophonePlace_10 rfl (by decide) (fun c10 => ?_) (fun c10 => ?_)
  · refine s_iconst (pc2 := 36) (v := 0) w dX11_isMicrophonePlace_35 rfl rfl ?_
    refine s_ireturn w dX11_isMicrophonePlace_36 rfl (by first | rfl | decide) ?_
    rw [g_b0] at c10
    rw [if_neg (fun h => c10 h.1)] at q0
    exact q0
  · refine s_iload_n (pc2 := 14) w dX11_isMicrophonePlace_13 rfl rfl ?_
    refine s_bipush (pc2 := 16) (v := (-100)) w dX11_isMicrophonePlace_14 rfl rfl ?_
    refine s_bipush (pc2 := 18) (v := 99) w dX11_isMicrophonePlace_16 rfl rfl ?_
    refine r_X11_isBetween (pc2 := 21) w dX11_isMicrophonePlace_18 rfl rfl rfl ?_
    refine s_if_eq (pc2 := 24) (tgt := 35) w dX11_isMicrophonePlace_21 rfl (by decide) (fun c21 => ?_) (fun c21 => ?_)
    · refine s_iconst (pc2 := 36) (v := 0) w dX11_isMicrophonePlace_35 rfl rfl ?_
      refine s_ireturn w dX11_isMicrophonePlace_36 rfl (by first | rfl | decide) ?_
      rw [g_b0] at c21
      rw [if_neg (fun h => c21 h.2.1)] at q0
      exact q0
    · refine s_iload_n (pc2 := 25) w dX11_isMicrophonePlace_24 rfl rfl ?_
      refine r_X11_isHeight (pc2 := 28) w dX11_isMicrophonePlace_25 rfl rfl rfl ?_
      refine s_if_eq (pc2 := 31) (tgt := 35) w dX11_isMicrophonePlace_28 rfl (by decide) (fun c28 => ?_) (fun c28 => ?_)
      · refine s_iconst (pc2 := 36) (v := 0) w dX11_isMicrophonePlace_35 rfl rfl ?_
        refine s_ireturn w dX11_isMicrophonePlace_36 rfl (by first | rfl | decide) ?_
        rw [g_b0] at c28
        rw [if_neg (fun h => c28 h.2.2)] at q0
        exact q0
      · refine s_iconst (pc2 := 32) (v := 1) w dX11_isMicrophonePlace_31 rfl rfl ?_
        refine s_goto (tgt := 36) w dX11_isMicrophonePlace_32 (by decide) ?_
        refine s_ireturn w dX11_isMicrophonePlace_36 rfl (by first | rfl | decide) ?_
        rw [g_b0, Classical.not_not] at c10
        rw [g_b0, Classical.not_not] at c21
        rw [g_b0, Classical.not_not] at c28
        rw [if_pos ⟨c10, c21, c28⟩] at q0
        exact q0
theorem lk_X11_isMicrophonePlace {l : Launch} (hl : l.stackTraces = false) : ∀ q ∈ L_X11_isMicrophonePlace, (q.2.1 < 5 → gk_Lk l RX11 gk_W1 2 q.1 q.2.1 q.2.2.1 q.2.2.2.1 q.2.2.2.2.1 q.2.2.2.2.2) := (List.forall_mem_cons.mpr ⟨(fun _ => ⟨yX11_isBetween, cX11_isBetween, 3, (some .boolean), 0, _, M_X11_isBetween hl, ⟨by decide, by decide⟩, ⟨by decide, by decide, by decide +kernel⟩, ⟨(gk_wm 1334 (by decide +kernel)), (gk_wm 99 (by decide +kernel))⟩, Or.inl ⟨rfl, rfl, (gk_wm 1333 (by decide +kernel)), gk_wm 1332 (by decide +kernel)⟩⟩), (List.forall_mem_cons.mpr ⟨(fun _ => ⟨yX11_isHeight, cX11_isHeight, 1, (some .boolean), 1, _, M_X11_isHeight hl, ⟨by decide, by decide⟩, ⟨by decide, by decide, by decide +kernel⟩, ⟨(gk_wm 1379 (by decide +kernel)), (gk_wm 99 (by decide +kernel))⟩, Or.inl ⟨rfl, rfl, (gk_wm 1378 (by decide +kernel)), gk_wm 1377 (by decide +kernel)⟩⟩), (fun _ h => absurd h List.not_mem_nil)⟩)⟩)
theorem sp_X11_isMicrophonePlace : ∀ q ∈ L_X11_isMicrophonePlace, gk_Sq RX11 gk_W1 2 q := (List.forall_mem_cons.mpr ⟨⟨fun h => absurd h (by decide), fun h => absurd h (by decide), fun h => absurd h (by decide), fun h => absurd h (by decide), fun h => absurd h (by decide), fun h => absurd h (by decide)⟩, (List.forall_mem_cons.mpr ⟨⟨fun h => absurd h (by decide), fun h => absurd h (by decide), fun h => absurd h (by decide), fun h => absurd h (by decide), fun h => absurd h (by decide), fun h => absurd h (by decide)⟩, (fun _ h => absurd h List.not_mem_nil)⟩)⟩)
theorem M_X11_isMicrophonePlace {l : Launch} (hl : l.stackTraces = false) : gk_Mt l yX11_isMicrophonePlace (.code yX11_isMicrophonePlace cX11_isMicrophonePlace 3 (some .boolean) :: gk_W1) 2 0 S_X11_isMicrophonePlace := gk_meth hl gk_cw_ok (by decide +kernel) rfl m_X11_isMicrophonePlace pX11_ok (gk_Sp_of sp_X11_isMicrophonePlace) pX11_st (fun ci m S h => absurd h (by intro h; cases h)) (xf_X11 2) (fun idx kd ci mm cost S2 h h5 => lk_X11_isMicrophonePlace hl _ (gk_lk_mem h) h5)

def S_X11_thrown : gk_S := fun as n fl x y K => as = [.ref 189] ∧ (n = 202 ∧ fl = gk_fT) ∧ (K (.inl (some (.int (x 189 4)))) n fl x y)
theorem r_X11_thrown (w : gk_W c P cs (fun _ _ => none) rt uf sc K V) {idx : Nat}  (hd : decode c pc = .ok (.invokevirtual idx, 3)) (hp : pc + 3 = pc2) (hc : cs idx = some (1, 10, 1, 0, S_X11_thrown)) (h8 : Nat.ble (r.map Value.category).sum 8 = true) (kk0 : V pc2 L ((.int (x 189 4)) :: r) 202 gk_fT x y u) : V pc L (.ref 189 :: r) 202 gk_fT x y u :=
  g_callv w hd hp hc (as := [.ref 189]) rfl h8 rfl rfl rfl (Or.inr (Or.inl ⟨Or.inl rfl, _, _, rfl, (gk_kd_j rfl rfl), rfl⟩)) (Or.inl rfl) ⟨rfl, ⟨rfl, rfl⟩, kk0⟩
def L_X11_thrown : List (Nat × gk_M0) := []
def cs_X11_thrown : Nat → Option gk_M0 := gk_lk L_X11_thrown
theorem m_X11_thrown : ∀ (as : List Value) (n : Nat) (fl : gk_F) (x : gk_X) (y : gk_Y) (K : gk_K), S_X11_thrown as n fl x y K → (gk_L0 as).length ≤ 1 ∧ ∀ V : gk_V, gk_W cX11_thrown pX11 cs_X11_thrown (fun _ _ => none) (some .int) 0 none K V → V 0 (gk_en as 1) [] n fl x y 0 := by
  intro as n fl x y K hS
  obtain ⟨rfl, ⟨rfl, rfl⟩, q0⟩ := hS
  refine ⟨Nat.le_of_ble_eq_true rfl, fun V w => ?_⟩
  show V 0 [some (.ref 189)] [] 202 gk_fT x y 0
  refine s_aload_n (pc2 := 1) w dX11_thrown_0 rfl rfl ?_
  refine m_getI (pc2 := 4) (ci := 10) (k := 4) w dX11_thrown_1 rfl rfl (by first | assumption | rfl) rfl rfl ?_
  refine s_ireturn w dX11_thrown_4 rfl rfl ?_
  exact q0
theorem lk_X11_thrown {l : Launch} (hl : l.stackTraces = false) : ∀ q ∈ L_X11_thrown, (q.2.1 < 5 → gk_Lk l RX11 gk_W1 0 q.1 q.2.1 q.2.2.1 q.2.2.2.1 q.2.2.2.2.1 q.2.2.2.2.2) := (fun _ h => absurd h List.not_mem_nil)
theorem sp_X11_thrown : ∀ q ∈ L_X11_thrown, gk_Sq RX11 gk_W1 0 q := (fun _ h => absurd h List.not_mem_nil)
theorem M_X11_thrown {l : Launch} (hl : l.stackTraces = false) : gk_Mt l yX11_thrown (.code yX11_thrown cX11_thrown 1 (some .int) :: gk_W1) 0 0 S_X11_thrown := gk_meth hl gk_cw_ok (by decide +kernel) rfl m_X11_thrown pX11_ok (gk_Sp_of sp_X11_thrown) pX11_st (fun ci m S h => absurd h (by intro h; cases h)) (xf_X11 0) (fun idx kd ci mm cost S2 h h5 => lk_X11_thrown hl _ (gk_lk_mem h) h5)

def S_X11_fail : gk_S := fun as n fl x y K => ∃ (v : Int32), as = [.ref 189, .int v] ∧ (n = 202 ∧ fl = gk_fT) ∧ (K (.inl (some (.int 0))) n fl (gk_up x 189 4 v) y)
theorem r_X11_fail (w : gk_W c P cs (fun _ _ => none) rt uf sc K V) {idx : Nat} {v : Int32} (hd : decode c pc = .ok (.invokevirtual idx, 3)) (hp : pc + 3 = pc2) (hc : cs idx = some (1, 10, 2, 0, S_X11_fail)) (h8 : Nat.ble (r.map Value.category).sum 8 = true) (kk0 : V pc2 L ((.int 0) :: r) 202 gk_fT (gk_up x 189 4 v) y u) : V pc L (.int v :: .ref 189 :: r) 202 gk_fT x y u :=
  g_callv w hd hp hc (as := [.ref 189, .int v]) rfl h8 rfl rfl rfl (Or.inr (Or.inl ⟨Or.inl rfl, _, _, rfl, (gk_kd_j rfl rfl), rfl⟩)) (Or.inl rfl) ⟨v, rfl, ⟨rfl, rfl⟩, kk0⟩
def L_X11_fail : List (Nat × gk_M0) := []
def cs_X11_fail : Nat → Option gk_M0 := gk_lk L_X11_fail
theorem m_X11_fail : ∀ (as : List Value) (n : Nat) (fl : gk_F) (x : gk_X) (y : gk_Y) (K : gk_K), S_X11_fail as n fl x y K → (gk_L0 as).length ≤ 2 ∧ ∀ V : gk_V, gk_W cX11_fail pX11 cs_X11_fail (fun _ _ => none) (some .int) 0 none K V → V 0 (gk_en as 2) [] n fl x y 0 := by
  intro as n fl x y K hS
  obtain ⟨v, rfl, ⟨rfl, rfl⟩, q0⟩ := hS
  refine ⟨Nat.le_of_ble_eq_true rfl, fun V w => ?_⟩
  show V 0 [some (.ref 189), some (.int v)] [] 202 gk_fT x y 0
  refine s_aload_n (pc2 := 1) w dX11_fail_0 rfl rfl ?_
  refine s_iload_n (pc2 := 2) w dX11_fail_1 rfl rfl ?_
  refine m_putI (pc2 := 5) (ci := 10) (k := 4) w dX11_fail_2 rfl rfl (by first | assumption | rfl) rfl rfl (by intro h; cases h) ?_
  refine s_iconst (pc2 := 6) (v := 0) w dX11_fail_5 rfl rfl ?_
  refine s_ireturn w dX11_fail_6 rfl rfl ?_
  exact q0
theorem lk_X11_fail {l : Launch} (hl : l.stackTraces = false) : ∀ q ∈ L_X11_fail, (q.2.1 < 5 → gk_Lk l RX11 gk_W1 0 q.1 q.2.1 q.2.2.1 q.2.2.2.1 q.2.2.2.2.1 q.2.2.2.2.2) := (fun _ h => absurd h List.not_mem_nil)
theorem sp_X11_fail : ∀ q ∈ L_X11_fail, gk_Sq RX11 gk_W1 0 q := (fun _ h => absurd h List.not_mem_nil)
theorem M_X11_fail {l : Launch} (hl : l.stackTraces = false) : gk_Mt l yX11_fail (.code yX11_fail cX11_fail 2 (some .int) :: gk_W1) 0 0 S_X11_fail := gk_meth hl gk_cw_ok (by decide +kernel) rfl m_X11_fail pX11_ok (gk_Sp_of sp_X11_fail) pX11_st (fun ci m S h => absurd h (by intro h; cases h)) (xf_X11 0) (fun idx kd ci mm cost S2 h h5 => lk_X11_fail hl _ (gk_lk_mem h) h5)

def S_X11_errorCode : gk_S := fun as n fl x y K => as = [.ref 189] ∧ (n = 202 ∧ fl = gk_fT) ∧ (K (.inl (some (.int (gk_up x 189 4 0 189 17)))) n fl (gk_up x 189 4 0) y)
theorem r_X11_errorCode (w : gk_W c P cs (fun _ _ => none) rt uf sc K V) {idx : Nat}  (hd : decode c pc = .ok (.invokevirtual idx, 3)) (hp : pc + 3 = pc2) (hc : cs idx = some (1, 10, 1, 0, S_X11_errorCode)) (h8 : Nat.ble (r.map Value.category).sum 8 = true) (kk0 : V pc2 L ((.int (gk_up x 189 4 0 189 17)) :: r) 202 gk_fT (gk_up x 189 4 0) y u) : V pc L (.ref 189 :: r) 202 gk_fT x y u :=
  g_callv w hd hp hc (as := [.ref 189]) rfl h8 rfl rfl rfl (Or.inr (Or.inl ⟨Or.inl rfl, _, _, rfl, (gk_kd_j rfl rfl), rfl⟩)) (Or.inl rfl) ⟨rfl, ⟨rfl, rfl⟩, kk0⟩
def L_X11_errorCode : List (Nat × gk_M0) := []
def cs_X11_errorCode : Nat → Option gk_M0 := gk_lk L_X11_errorCode
theorem m_X11_errorCode : ∀ (as : List Value) (n : Nat) (fl : gk_F) (x : gk_X) (y : gk_Y) (K : gk_K), S_X11_errorCode as n fl x y K → (gk_L0 as).length ≤ 1 ∧ ∀ V : gk_V, gk_W cX11_errorCode pX11 cs_X11_errorCode (fun _ _ => none) (some .int) 0 none K V → V 0 (gk_en as 1) [] n fl x y 0 := by
  intro as n fl x y K hS
  obtain ⟨rfl, ⟨rfl, rfl⟩, q0⟩ := hS
  refine ⟨Nat.le_of_ble_eq_true rfl, fun V w => ?_⟩
  show V 0 [some (.ref 189)] [] 202 gk_fT x y 0
  refine s_aload_n (pc2 := 1) w dX11_errorCode_0 rfl rfl ?_
  refine s_iconst (pc2 := 2) (v := 0) w dX11_errorCode_1 rfl rfl ?_
  refine m_putI (pc2 := 5) (ci := 10) (k := 4) w dX11_errorCode_2 rfl rfl (by first | assumption | rfl) rfl rfl (by intro h; cases h) ?_
  refine s_aload_n (pc2 := 6) w dX11_errorCode_5 rfl rfl ?_
  refine m_getI (pc2 := 9) (ci := 10) (k := 17) w dX11_errorCode_6 rfl rfl (by first | assumption | rfl) rfl rfl ?_
  refine s_ireturn w dX11_errorCode_9 rfl rfl ?_
  exact q0
theorem lk_X11_errorCode {l : Launch} (hl : l.stackTraces = false) : ∀ q ∈ L_X11_errorCode, (q.2.1 < 5 → gk_Lk l RX11 gk_W1 0 q.1 q.2.1 q.2.2.1 q.2.2.2.1 q.2.2.2.2.1 q.2.2.2.2.2) := (fun _ h => absurd h List.not_mem_nil)
theorem sp_X11_errorCode : ∀ q ∈ L_X11_errorCode, gk_Sq RX11 gk_W1 0 q := (fun _ h => absurd h List.not_mem_nil)
theorem M_X11_errorCode {l : Launch} (hl : l.stackTraces = false) : gk_Mt l yX11_errorCode (.code yX11_errorCode cX11_errorCode 1 (some .int) :: gk_W1) 0 0 S_X11_errorCode := gk_meth hl gk_cw_ok (by decide +kernel) rfl m_X11_errorCode pX11_ok (gk_Sp_of sp_X11_errorCode) pX11_st (fun ci m S h => absurd h (by intro h; cases h)) (xf_X11 0) (fun idx kd ci mm cost S2 h h5 => lk_X11_errorCode hl _ (gk_lk_mem h) h5)

def S_X11_errorPosition : gk_S := fun as n fl x y K => as = [.ref 189] ∧ (n = 202 ∧ fl = gk_fT) ∧ (K (.inl (some (.int (gk_up x 189 4 0 189 18)))) n fl (gk_up x 189 4 0) y)
theorem r_X11_errorPosition (w : gk_W c P cs (fun _ _ => none) rt uf sc K V) {idx : Nat}  (hd : decode c pc = .ok (.invokevirtual idx, 3)) (hp : pc + 3 = pc2) (hc : cs idx = some (1, 10, 1, 0, S_X11_errorPosition)) (h8 : Nat.ble (r.map Value.category).sum 8 = true) (kk0 : V pc2 L ((.int (gk_up x 189 4 0 189 18)) :: r) 202 gk_fT (gk_up x 189 4 0) y u) : V pc L (.ref 189 :: r) 202 gk_fT x y u :=
  g_callv w hd hp hc (as := [.ref 189]) rfl h8 rfl rfl rfl (Or.inr (Or.inl ⟨Or.inl rfl, _, _, rfl, (gk_kd_j rfl rfl), rfl⟩)) (Or.inl rfl) ⟨rfl, ⟨rfl, rfl⟩, kk0⟩
def L_X11_errorPosition : List (Nat × gk_M0) := []
def cs_X11_errorPosition : Nat → Option gk_M0 := gk_lk L_X11_errorPosition
theorem m_X11_errorPosition : ∀ (as : List Value) (n : Nat) (fl : gk_F) (x : gk_X) (y : gk_Y) (K : gk_K), S_X11_errorPosition as n fl x y K → (gk_L0 as).length ≤ 1 ∧ ∀ V : gk_V, gk_W cX11_errorPosition pX11 cs_X11_errorPosition (fun _ _ => none) (some .int) 0 none K V → V 0 (gk_en as 1) [] n fl x y 0 := by
  intro as n fl x y K hS
  obtain ⟨rfl, ⟨rfl, rfl⟩, q0⟩ := hS
  refine ⟨Nat.le_of_ble_eq_true rfl, fun V w => ?_⟩
  show V 0 [some (.ref 189)] [] 202 gk_fT x y 0
  refine s_aload_n (pc2 := 1) w dX11_errorPosition_0 rfl rfl ?_
  refine s_iconst (pc2 := 2) (v := 0) w dX11_errorPosition_1 rfl rfl ?_
  refine m_putI (pc2 := 5) (ci := 10) (k := 4) w dX11_errorPosition_2 rfl rfl (by first | assumption | rfl) rfl rfl (by intro h; cases h) ?_
  refine s_aload_n (pc2 := 6) w dX11_errorPosition_5 rfl rfl ?_
  refine m_getI (pc2 := 9) (ci := 10) (k := 18) w dX11_errorPosition_6 rfl rfl (by first | assumption | rfl) rfl rfl ?_
  refine s_ireturn w dX11_errorPosition_9 rfl rfl ?_
  exact q0
theorem lk_X11_errorPosition {l : Launch} (hl : l.stackTraces = false) : ∀ q ∈ L_X11_errorPosition, (q.2.1 < 5 → gk_Lk l RX11 gk_W1 0 q.1 q.2.1 q.2.2.1 q.2.2.2.1 q.2.2.2.2.1 q.2.2.2.2.2) := (fun _ h => absurd h List.not_mem_nil)
theorem sp_X11_errorPosition : ∀ q ∈ L_X11_errorPosition, gk_Sq RX11 gk_W1 0 q := (fun _ h => absurd h List.not_mem_nil)
theorem M_X11_errorPosition {l : Launch} (hl : l.stackTraces = false) : gk_Mt l yX11_errorPosition (.code yX11_errorPosition cX11_errorPosition 1 (some .int) :: gk_W1) 0 0 S_X11_errorPosition := gk_meth hl gk_cw_ok (by decide +kernel) rfl m_X11_errorPosition pX11_ok (gk_Sp_of sp_X11_errorPosition) pX11_st (fun ci m S h => absurd h (by intro h; cases h)) (xf_X11 0) (fun idx kd ci mm cost S2 h h5 => lk_X11_errorPosition hl _ (gk_lk_mem h) h5)

end GKV

/-! THE METHODS, 31: the class, small ones of the face -/
section GKV
variable {c : ByteArray} {P : gk_C} {cs : Nat → Option gk_M0} {rt : Option FieldType} {uf : Nat} {sc : Option Nat} {K : gk_K} {V : gk_V}
variable {L : List (Option Value)} {r : List Value} {n : Nat} {fl : gk_F} {x : gk_X} {y : gk_Y} {u pc pc2 : Nat}
/-- the class's scene says g; nothing else but its own rows has changed -/
def COk (g : Nat → Int32) (x x2 : gk_X) (y y2 : gk_Y) : Prop := RS 1 g x2 y2 ∧ CX x2 x ∧ CY y2 y
theorem COk.ini {g : Nat → Int32} {x : gk_X} {y : gk_Y} (h : RS 1 g x y) : COk g x x y y := ⟨h, fun _ _ _ => rfl, fun _ _ _ => rfl⟩
theorem COk.cy {g : Nat → Int32} {x x2 : gk_X} {y y2 y3 : gk_Y} (hw : gWf g) (h : COk g x x2 y y2) (h3 : ∀ i k, ¬ (89 ≤ i ∧ i ≤ 94) → y3 i k = y2 i k) : COk g x x2 y y3 := ⟨h.1.cg hw (fun _ _ _ _ => rfl) (fun k => h3 1 k (by omega)), h.2.1, fun i k h4 => (h3 i k (by omega)).trans (h.2.2 i k h4)⟩
theorem COk.cx {g : Nat → Int32} {x x2 x3 : gk_X} {y y2 : gk_Y} (hw : gWf g) (h : COk g x x2 y y2) (h3 : ∀ i k, ¬ (89 ≤ i ∧ i ≤ 94) → x3 i k = x2 i k) : COk g x x3 y y2 := ⟨h.1.cg hw (fun i k h1 h2 => h3 i k (by omega)) (fun _ => rfl), fun i k h4 => (h3 i k (by omega)).trans (h.2.1 i k h4), h.2.2⟩
def S_X3_put : gk_S := fun as n fl x y K => ∃ (j : Nat) (a : Int32) (b : Int32) (e : Int32) (d : Int32), as = [.ref j, .int a, .int b, .int e, .int d] ∧ (n = 202 ∧ fl = gk_fT) ∧ gk_kd j = 3 ∧ (K (.inl none) n fl (gk_up (gk_up (gk_up (gk_up x j 0 a) j 1 b) j 2 e) j 3 d) y)
theorem r_X3_put (w : gk_W c P cs (fun _ _ => none) rt uf sc K V) {idx : Nat} {j : Nat} {a : Int32} {b : Int32} {e : Int32} {d : Int32} (hd : decode c pc = .ok (.invokevirtual idx, 3)) (hp : pc + 3 = pc2) (hc : cs idx = some (1, 3, 5, 0, S_X3_put)) (h8 : Nat.ble (r.map Value.category).sum 8 = true) (hk0 : gk_kd j = 3) (kk0 : V pc2 L r 202 gk_fT (gk_up (gk_up (gk_up (gk_up x j 0 a) j 1 b) j 2 e) j 3 d) y u) : V pc L (.int d :: .int e :: .int b :: .int a :: .ref j :: r) 202 gk_fT x y u :=
  g_callv w hd hp hc (as := [.ref j, .int a, .int b, .int e, .int d]) rfl h8 rfl rfl rfl (Or.inr (Or.inl ⟨Or.inl rfl, _, _, rfl, (gk_kd_j hk0 rfl), hk0⟩)) (Or.inl rfl) ⟨j, a, b, e, d, rfl, ⟨rfl, rfl⟩, hk0, kk0⟩
def L_X3_put : List (Nat × gk_M0) := []
def cs_X3_put : Nat → Option gk_M0 := gk_lk L_X3_put
theorem m_X3_put : ∀ (as : List Value) (n : Nat) (fl : gk_F) (x : gk_X) (y : gk_Y) (K : gk_K), S_X3_put as n fl x y K → (gk_L0 as).length ≤ 5 ∧ ∀ V : gk_V, gk_W cX3_put pX3 cs_X3_put (fun _ _ => none) none 0 none K V → V 0 (gk_en as 5) [] n fl x y 0 := by
  intro as n fl x y K hS
  obtain ⟨j, a, b, e, d, rfl, ⟨rfl, rfl⟩, hk0, q0⟩ := hS
  refine ⟨Nat.le_of_ble_eq_true rfl, fun V w => ?_⟩
  show V 0 [some (.ref j), some (.int a), some (.int b), some (.int e), some (.int d)] [] 202 gk_fT x y 0
  refine s_aload_n (pc2 := 1) w dX3_put_0 rfl rfl ?_
  refine s_iload_n (pc2 := 2) w dX3_put_1 rfl rfl ?_
  refine m_putI (pc2 := 5) (ci := 3) (k := 0) w dX3_put_2 rfl rfl hk0 rfl rfl (by intro h; cases h) ?_
  refine s_aload_n (pc2 := 6) w dX3_put_5 rfl rfl ?_
  refine s_iload_n (pc2 := 7) w dX3_put_6 rfl rfl ?_
  refine m_putI (pc2 := 10) (ci := 3) (k := 1) w dX3_put_7 rfl rfl hk0 rfl rfl (by intro h; cases h) ?_
  refine s_aload_n (pc2 := 11) w dX3_put_10 rfl rfl ?_
  refine s_iload_n (pc2 := 12) w dX3_put_11 rfl rfl ?_
  refine m_putI (pc2 := 15) (ci := 3) (k := 2) w dX3_put_12 rfl rfl hk0 rfl rfl (by intro h; cases h) ?_
  refine s_aload_n (pc2 := 16) w dX3_put_15 rfl rfl ?_
  refine s_iload (pc2 := 18) w dX3_put_16 rfl rfl ?_
  refine m_putI (pc2 := 21) (ci := 3) (k := 3) w dX3_put_18 rfl rfl hk0 rfl rfl (by intro h; cases h) ?_
  refine s_return w dX3_put_21 rfl ?_
  exact q0
theorem lk_X3_put {l : Launch} (hl : l.stackTraces = false) : ∀ q ∈ L_X3_put, (q.2.1 < 5 → gk_Lk l RX3 gk_W1 0 q.1 q.2.1 q.2.2.1 q.2.2.2.1 q.2.2.2.2.1 q.2.2.2.2.2) := (fun _ h => absurd h List.not_mem_nil)
theorem sp_X3_put : ∀ q ∈ L_X3_put, gk_Sq RX3 gk_W1 0 q := (fun _ h => absurd h List.not_mem_nil)
theorem M_X3_put {l : Launch} (hl : l.stackTraces = false) : gk_Mt l yX3_put (.code yX3_put cX3_put 5 none :: gk_W1) 0 0 S_X3_put := gk_meth hl gk_cw_ok (by decide +kernel) rfl m_X3_put pX3_ok (gk_Sp_of sp_X3_put) pX3_st (fun ci m S h => absurd h (by intro h; cases h)) (xf_X3 0) (fun idx kd ci mm cost S2 h h5 => lk_X3_put hl _ (gk_lk_mem h) h5)

def S_X3_ride : gk_S := fun as n fl x y K => ∃ (j : Nat) (p : Nat) (o : Int32) (h : Int32), as = [.ref j, .ref p, .int o, .int h] ∧ (n = 202 ∧ fl = gk_fT) ∧ gk_kd j = 3 ∧ gk_kd p = 3 ∧ (K (.inl none) n fl (gk_up (gk_up (gk_up (gk_up x j 0 (x p 0 + o)) j 1 (x p 1)) j 2 (x p 2)) j 3 h) y)
theorem r_X3_ride (w : gk_W c P cs (fun _ _ => none) rt uf sc K V) {idx : Nat} {j : Nat} {p : Nat} {o : Int32} {h : Int32} (hd : decode c pc = .ok (.invokevirtual idx, 3)) (hp : pc + 3 = pc2) (hc : cs idx = some (1, 3, 4, 0, S_X3_ride)) (h8 : Nat.ble (r.map Value.category).sum 8 = true) (hk0 : gk_kd j = 3) (hk1 : gk_kd p = 3) (kk0 : V pc2 L r 202 gk_fT (gk_up (gk_up (gk_up (gk_up x j 0 (x p 0 + o)) j 1 (x p 1)) j 2 (x p 2)) j 3 h) y u) : V pc L (.int h :: .int o :: .ref p :: .ref j :: r) 202 gk_fT x y u :=
  g_callv w hd hp hc (as := [.ref j, .ref p, .int o, .int h]) rfl h8 rfl rfl rfl (Or.inr (Or.inl ⟨Or.inl rfl, _, _, rfl, (gk_kd_j hk0 rfl), hk0⟩)) (Or.inl rfl) ⟨j, p, o, h, rfl, ⟨rfl, rfl⟩, hk0, hk1, kk0⟩
def L_X3_ride : List (Nat × gk_M0) := [(24, (1, 3, 5, 0, S_X3_put))]
def cs_X3_ride : Nat → Option gk_M0 := gk_lk L_X3_ride
theorem m_X3_ride : ∀ (as : List Value) (n : Nat) (fl : gk_F) (x : gk_X) (y : gk_Y) (K : gk_K), S_X3_ride as n fl x y K → (gk_L0 as).length ≤ 4 ∧ ∀ V : gk_V, gk_W cX3_ride pX3 cs_X3_ride (fun _ _ => none) none 0 none K V → V 0 (gk_en as 4) [] n fl x y 0 := by
  intro as n fl x y K hS
  obtain ⟨j, p, o, h, rfl, ⟨rfl, rfl⟩, hk0, hk1, q0⟩ := hS
  refine ⟨Nat.le_of_ble_eq_true rfl, fun V w => ?_⟩
  show V 0 [some (.ref j), some (.ref p), some (.int o), some (.int h)] [] 202 gk_fT x y 0
  refine s_aload_n (pc2 := 1) w dX3_ride_0 rfl rfl ?_
  refine s_aload_n (pc2 := 2) w dX3_ride_1 rfl rfl ?_
  refine m_getI (pc2 := 5) (ci := 3) (k := 0) w dX3_ride_2 rfl rfl (by first | exact hk1 | exact hk0) rfl rfl ?_
  refine s_iload_n (pc2 := 6) w dX3_ride_5 rfl rfl ?_
  refine s_iadd (pc2 := 7) w dX3_ride_6 rfl ?_
  refine s_aload_n (pc2 := 8) w dX3_ride_7 rfl rfl ?_
  refine m_getI (pc2 := 11) (ci := 3) (k := 1) w dX3_ride_8 rfl rfl (by first | exact hk1 | exact hk0) rfl rfl ?_
  refine s_aload_n (pc2 := 12) w dX3_ride_11 rfl rfl ?_
  refine m_getI (pc2 := 15) (ci := 3) (k := 2) w dX3_ride_12 rfl rfl (by first | exact hk1 | exact hk0) rfl rfl ?_
  refine s_iload_n (pc2 := 16) w dX3_ride_15 rfl rfl ?_
  refine r_X3_put (pc2 := 19) w dX3_ride_16 rfl rfl rfl (by first | exact hk1 | exact hk0) ?_
  refine s_return w dX3_ride_19 rfl ?_
  exact q0
theorem lk_X3_ride {l : Launch} (hl : l.stackTraces = false) : ∀ q ∈ L_X3_ride, (q.2.1 < 5 → gk_Lk l RX3 gk_W1 1 q.1 q.2.1 q.2.2.1 q.2.2.2.1 q.2.2.2.2.1 q.2.2.2.2.2) := (List.forall_mem_cons.mpr ⟨(fun _ => ⟨yX3_put, cX3_put, 5, none, 0, _, M_X3_put hl, ⟨by decide, by decide⟩, ⟨by decide, by decide, by decide +kernel⟩, ⟨(gk_wm 223 (by decide +kernel)), (gk_wm 91 (by decide +kernel))⟩, Or.inr (Or.inr (Or.inr (Or.inl ⟨rfl, rfl, (gk_wm 221 (by decide +kernel)), (gk_wm 222 (by decide +kernel)), gk_wm 670 (by decide +kernel), by decide, rfl⟩)))⟩), (fun _ h => absurd h List.not_mem_nil)⟩)
theorem sp_X3_ride : ∀ q ∈ L_X3_ride, gk_Sq RX3 gk_W1 1 q := (List.forall_mem_cons.mpr ⟨⟨fun h => absurd h (by decide), fun h => absurd h (by decide), fun h => absurd h (by decide), fun h => absurd h (by decide), fun h => absurd h (by decide), fun h => absurd h (by decide)⟩, (fun _ h => absurd h List.not_mem_nil)⟩)
theorem M_X3_ride {l : Launch} (hl : l.stackTraces = false) : gk_Mt l yX3_ride (.code yX3_ride cX3_ride 4 none :: gk_W1) 1 0 S_X3_ride := gk_meth hl gk_cw_ok (by decide +kernel) rfl m_X3_ride pX3_ok (gk_Sp_of sp_X3_ride) pX3_st (fun ci m S h => absurd h (by intro h; cases h)) (xf_X3 1) (fun idx kd ci mm cost S2 h h5 => lk_X3_ride hl _ (gk_lk_mem h) h5)

def S_X3_copyFrom : gk_S := fun as n fl x y K => ∃ (j : Nat) (p : Nat), as = [.ref j, .ref p] ∧ (n = 202 ∧ fl = gk_fT) ∧ gk_kd j = 3 ∧ gk_kd p = 3 ∧ (K (.inl none) n fl (gk_up (gk_up (gk_up (gk_up x j 0 (x p 0)) j 1 (x p 1)) j 2 (x p 2)) j 3 (x p 3)) y)
theorem r_X3_copyFrom (w : gk_W c P cs (fun _ _ => none) rt uf sc K V) {idx : Nat} {j : Nat} {p : Nat} (hd : decode c pc = .ok (.invokevirtual idx, 3)) (hp : pc + 3 = pc2) (hc : cs idx = some (1, 3, 2, 0, S_X3_copyFrom)) (h8 : Nat.ble (r.map Value.category).sum 8 = true) (hk0 : gk_kd j = 3) (hk1 : gk_kd p = 3) (kk0 : V pc2 L r 202 gk_fT (gk_up (gk_up (gk_up (gk_up x j 0 (x p 0)) j 1 (x p 1)) j 2 (x p 2)) j 3 (x p 3)) y u) : V pc L (.ref p :: .ref j :: r) 202 gk_fT x y u :=
  g_callv w hd hp hc (as := [.ref j, .ref p]) rfl h8 rfl rfl rfl (Or.inr (Or.inl ⟨Or.inl rfl, _, _, rfl, (gk_kd_j hk0 rfl), hk0⟩)) (Or.inl rfl) ⟨j, p, rfl, ⟨rfl, rfl⟩, hk0, hk1, kk0⟩
def L_X3_copyFrom : List (Nat × gk_M0) := [(24, (1, 3, 5, 0, S_X3_put))]
def cs_X3_copyFrom : Nat → Option gk_M0 := gk_lk L_X3_copyFrom
theorem m_X3_copyFrom : ∀ (as : List Value) (n : Nat) (fl : gk_F) (x : gk_X) (y : gk_Y) (K : gk_K), S_X3_copyFrom as n fl x y K → (gk_L0 as).length ≤ 2 ∧ ∀ V : gk_V, gk_W cX3_copyFrom pX3 cs_X3_copyFrom (fun _ _ => none) none 0 none K V → V 0 (gk_en as 2) [] n fl x y 0 := by
  intro as n fl x y K hS
  obtain ⟨j, p, rfl, ⟨rfl, rfl⟩, hk0, hk1, q0⟩ := hS
  refine ⟨Nat.le_of_ble_eq_true rfl, fun V w => ?_⟩
  show V 0 [some (.ref j), some (.ref p)] [] 202 gk_fT x y 0
  refine s_aload_n (pc2 := 1) w dX3_copyFrom_0 rfl rfl ?_
  refine s_aload_n (pc2 := 2) w dX3_copyFrom_1 rfl rfl ?_
  refine m_getI (pc2 := 5) (ci := 3) (k := 0) w dX3_copyFrom_2 rfl rfl (by first | exact hk1 | exact hk0) rfl rfl ?_
  refine s_aload_n (pc2 := 6) w dX3_copyFrom_5 rfl rfl ?_
  refine m_getI (pc2 := 9) (ci := 3) (k := 1) w dX3_copyFrom_6 rfl rfl (by first | exact hk1 | exact hk0) rfl rfl ?_
  refine s_aload_n (pc2 := 10) w dX3_copyFrom_9 rfl rfl ?_
  refine m_getI (pc2 := 13) (ci := 3) (k := 2) w dX3_copyFrom_10 rfl rfl (by first | exact hk1 | exact hk0) rfl rfl ?_
  refine s_aload_n (pc2 := 14) w dX3_copyFrom_13 rfl rfl ?_
  refine m_getI (pc2 := 17) (ci := 3) (k := 3) w dX3_copyFrom_14 rfl rfl (by first | exact hk1 | exact hk0) rfl rfl ?_
  refine r_X3_put (pc2 := 20) w dX3_copyFrom_17 rfl rfl rfl (by first | exact hk1 | exact hk0) ?_
  refine s_return w dX3_copyFrom_20 rfl ?_
  exact q0
theorem lk_X3_copyFrom {l : Launch} (hl : l.stackTraces = false) : ∀ q ∈ L_X3_copyFrom, (q.2.1 < 5 → gk_Lk l RX3 gk_W1 1 q.1 q.2.1 q.2.2.1 q.2.2.2.1 q.2.2.2.2.1 q.2.2.2.2.2) := (List.forall_mem_cons.mpr ⟨(fun _ => ⟨yX3_put, cX3_put, 5, none, 0, _, M_X3_put hl, ⟨by decide, by decide⟩, ⟨by decide, by decide, by decide +kernel⟩, ⟨(gk_wm 223 (by decide +kernel)), (gk_wm 91 (by decide +kernel))⟩, Or.inr (Or.inr (Or.inr (Or.inl ⟨rfl, rfl, (gk_wm 221 (by decide +kernel)), (gk_wm 222 (by decide +kernel)), gk_wm 670 (by decide +kernel), by decide, rfl⟩)))⟩), (fun _ h => absurd h List.not_mem_nil)⟩)
theorem sp_X3_copyFrom : ∀ q ∈ L_X3_copyFrom, gk_Sq RX3 gk_W1 1 q := (List.forall_mem_cons.mpr ⟨⟨fun h => absurd h (by decide), fun h => absurd h (by decide), fun h => absurd h (by decide), fun h => absurd h (by decide), fun h => absurd h (by decide), fun h => absurd h (by decide)⟩, (fun _ h => absurd h List.not_mem_nil)⟩)
theorem M_X3_copyFrom {l : Launch} (hl : l.stackTraces = false) : gk_Mt l yX3_copyFrom (.code yX3_copyFrom cX3_copyFrom 2 none :: gk_W1) 1 0 S_X3_copyFrom := gk_meth hl gk_cw_ok (by decide +kernel) rfl m_X3_copyFrom pX3_ok (gk_Sp_of sp_X3_copyFrom) pX3_st (fun ci m S h => absurd h (by intro h; cases h)) (xf_X3 1) (fun idx kd ci mm cost S2 h h5 => lk_X3_copyFrom hl _ (gk_lk_mem h) h5)

def S_X3_timeNearestTo : gk_S := fun as n fl x y K => ∃ (j : Nat) (o : Int32) (D : Nat → Int32), as = [.ref j, .int o] ∧ (n = 202 ∧ fl = gk_fT) ∧ gk_kd j = 3 ∧ (∀ t : Nat, t < 256 → (if (0 : Int32) ≤ x j 0 + x j 1 * nI t - o then x j 0 + x j 1 * nI t - o else 0 - (x j 0 + x j 1 * nI t - o)) = D t) ∧ (K (.inl (some (.int (gk_mn D (0, 2147483647) 256).1))) n fl x y)
theorem r_X3_timeNearestTo (w : gk_W c P cs (fun _ _ => none) rt uf sc K V) {idx : Nat} {j : Nat} {o : Int32} {D : Nat → Int32} (hd : decode c pc = .ok (.invokevirtual idx, 3)) (hp : pc + 3 = pc2) (hc : cs idx = some (1, 3, 2, 0, S_X3_timeNearestTo)) (h8 : Nat.ble (r.map Value.category).sum 8 = true) (hk0 : gk_kd j = 3) (hp0 : ∀ t : Nat, t < 256 → (if (0 : Int32) ≤ x j 0 + x j 1 * nI t - o then x j 0 + x j 1 * nI t - o else 0 - (x j 0 + x j 1 * nI t - o)) = D t) (kk0 : V pc2 L ((.int (gk_mn D (0, 2147483647) 256).1) :: r) 202 gk_fT x y u) : V pc L (.int o :: .ref j :: r) 202 gk_fT x y u :=
  g_callv w hd hp hc (as := [.ref j, .int o]) rfl h8 rfl rfl rfl (Or.inr (Or.inl ⟨Or.inl rfl, _, _, rfl, (gk_kd_j hk0 rfl), hk0⟩)) (Or.inl rfl) ⟨j, o, D, rfl, ⟨rfl, rfl⟩, hk0, hp0, kk0⟩
def L_X3_timeNearestTo : List (Nat × gk_M0) := [(31, (7, 0, 0, 0, fun _ _ _ _ _ _ => False))]
def cs_X3_timeNearestTo : Nat → Option gk_M0 := gk_lk L_X3_timeNearestTo
theorem m_X3_timeNearestTo : ∀ (as : List Value) (n : Nat) (fl : gk_F) (x : gk_X) (y : gk_Y) (K : gk_K), S_X3_timeNearestTo as n fl x y K → (gk_L0 as).length ≤ 6 ∧ ∀ V : gk_V, gk_W cX3_timeNearestTo pX3 cs_X3_timeNearestTo (fun _ _ => none) (some .int) 0 none K V → V 0 (gk_en as 6) [] n fl x y 0 := by
  intro as n fl x y K hS
  obtain ⟨j, o, D, rfl, ⟨rfl, rfl⟩, hk0, hp0, q0⟩ := hS
  refine ⟨Nat.le_of_ble_eq_true rfl, fun V w => ?_⟩
  show V 0 [some (.ref j), some (.int o), none, none, none, none] [] 202 gk_fT x y 0
  refine s_iconst (pc2 := 1) (v := 0) w dX3_timeNearestTo_0 rfl rfl ?_
  refine s_istore_n (pc2 := 2) (k2 := 2) w dX3_timeNearestTo_1 rfl rfl rfl ?_
  dsimp only [gk_s1, gk_s2, gk_cl]
  refine s_ldc (pc2 := 4) (v := 2147483647) w dX3_timeNearestTo_2 rfl rfl ?_
  refine s_istore_n (pc2 := 5) (k2 := 3) w dX3_timeNearestTo_4 rfl rfl rfl ?_
  dsimp only [gk_s1, gk_s2, gk_cl]
  refine s_iconst (pc2 := 6) (v := 0) w dX3_timeNearestTo_5 rfl rfl ?_
  refine s_istore (pc2 := 8) w dX3_timeNearestTo_6 rfl rfl ?_
  dsimp only [gk_s1, gk_s2, gk_cl]
  have key : ∀ (k n : Nat) (l5 : Option Value), n + k = 256 → V 8 [some (.ref j), some (.int o), some (.int (gk_mn D (0, 2147483647) n).1), some (.int (gk_mn D (0, 2147483647) n).2), some (.int (nI n)), l5] [] 202 gk_fT x y 0 := by
    intro k
    induction k with
    | zero =>
      intro n l5 ht
      have hn : n = 256 := by omega
      subst hn
      refine s_iload (pc2 := 10) w dX3_timeNearestTo_8 rfl rfl ?_
      refine s_sipush (pc2 := 13) (v := gI 256) w dX3_timeNearestTo_10 rfl rfl ?_
      refine s_ic_ge (pc2 := 16) (tgt := 53) w dX3_timeNearestTo_13 rfl (by decide) (fun _ => ?_) (fun h0 => absurd (by rw [gI_nI, gI_le ⟨by omega, by omega⟩ ⟨by omega, by omega⟩]; omega) h0)
      refine s_iload_n (pc2 := 54) w dX3_timeNearestTo_53 rfl rfl ?_
      refine s_ireturn w dX3_timeNearestTo_54 rfl rfl ?_
      exact q0
    | succ k ih =>
      intro n l5 ht
      refine s_iload (pc2 := 10) w dX3_timeNearestTo_8 rfl rfl ?_
      refine s_sipush (pc2 := 13) (v := gI 256) w dX3_timeNearestTo_10 rfl rfl ?_
      refine s_ic_ge (pc2 := 16) (tgt := 53) w dX3_timeNearestTo_13 rfl (by decide) (fun h0 => absurd h0 (by rw [gI_nI, gI_le ⟨by omega, by omega⟩ ⟨by omega, by omega⟩]; omega)) (fun _ => ?_)
      refine s_aload_n (pc2 := 17) w dX3_timeNearestTo_16 rfl rfl ?_
      refine m_getI (pc2 := 20) (ci := 3) (k := 0) w dX3_timeNearestTo_17 rfl rfl hk0 rfl rfl ?_
      refine s_aload_n (pc2 := 21) w dX3_timeNearestTo_20 rfl rfl ?_
      refine m_getI (pc2 := 24) (ci := 3) (k := 1) w dX3_timeNearestTo_21 rfl rfl hk0 rfl rfl ?_
      refine s_iload (pc2 := 26) w dX3_timeNearestTo_24 rfl rfl ?_
      refine s_imul (pc2 := 27) w dX3_timeNearestTo_26 rfl ?_
      refine s_iadd (pc2 := 28) w dX3_timeNearestTo_27 rfl ?_
      refine s_iload_n (pc2 := 29) w dX3_timeNearestTo_28 rfl rfl ?_
      refine s_isub (pc2 := 30) w dX3_timeNearestTo_29 rfl ?_
      refine s_abs (pc2 := 33) w dX3_timeNearestTo_30 rfl rfl rfl ?_
      rw [hp0 n (by omega)]
      refine s_istore (pc2 := 35) w dX3_timeNearestTo_33 rfl rfl ?_
      dsimp only [gk_s1, gk_s2, gk_cl]
      refine s_iload (pc2 := 37) w dX3_timeNearestTo_35 rfl rfl ?_
      refine s_iload_n (pc2 := 38) w dX3_timeNearestTo_37 rfl rfl ?_
      refine s_ic_ge (pc2 := 41) (tgt := 47) w dX3_timeNearestTo_38 rfl (by decide) (fun c38 => ?_) (fun c38 => ?_)
      · refine s_iinc (pc2 := 50) w dX3_timeNearestTo_47 rfl rfl rfl rfl ?_
        dsimp only [gk_s1, gk_s2, gk_cl]
        rw [nI_s]
        refine s_goto (tgt := 8) w dX3_timeNearestTo_50 (by decide) ?_
        have ih9 := ih (n + 1) (some (.int (D n))) (by omega)
        rw [mn_f c38] at ih9
        exact ih9
      · refine s_iload (pc2 := 43) w dX3_timeNearestTo_41 rfl rfl ?_
        refine s_istore_n (pc2 := 44) (k2 := 3) w dX3_timeNearestTo_43 rfl rfl rfl ?_
        dsimp only [gk_s1, gk_s2, gk_cl]
        refine s_iload (pc2 := 46) w dX3_timeNearestTo_44 rfl rfl ?_
        refine s_istore_n (pc2 := 47) (k2 := 2) w dX3_timeNearestTo_46 rfl rfl rfl ?_
        dsimp only [gk_s1, gk_s2, gk_cl]
        refine s_iinc (pc2 := 50) w dX3_timeNearestTo_47 rfl rfl rfl rfl ?_
        dsimp only [gk_s1, gk_s2, gk_cl]
        rw [nI_s]
        refine s_goto (tgt := 8) w dX3_timeNearestTo_50 (by decide) ?_
        have ih9 := ih (n + 1) (some (.int (D n))) (by omega)
        rw [mn_t c38] at ih9
        exact ih9
  exact key 256 0 none (by omega)
theorem lk_X3_timeNearestTo {l : Launch} (hl : l.stackTraces = false) : ∀ q ∈ L_X3_timeNearestTo, (q.2.1 < 5 → gk_Lk l RX3 gk_W1 1 q.1 q.2.1 q.2.2.1 q.2.2.2.1 q.2.2.2.2.1 q.2.2.2.2.2) := (List.forall_mem_cons.mpr ⟨(fun h => absurd h (by decide)), (fun _ h => absurd h List.not_mem_nil)⟩)
theorem sp_X3_timeNearestTo : ∀ q ∈ L_X3_timeNearestTo, gk_Sq RX3 gk_W1 1 q := (List.forall_mem_cons.mpr ⟨⟨fun h => absurd h (by decide), fun h => absurd h (by decide), fun _ => ⟨by decide, gk_wm 959 (by decide +kernel), (gk_wm 960 (by decide +kernel)), (gk_wm 107 (by decide +kernel)), gk_wm 961 (by decide +kernel)⟩, fun h => absurd h (by decide), fun h => absurd h (by decide), fun h => absurd h (by decide)⟩, (fun _ h => absurd h List.not_mem_nil)⟩)
theorem M_X3_timeNearestTo {l : Launch} (hl : l.stackTraces = false) : gk_Mt l yX3_timeNearestTo (.code yX3_timeNearestTo cX3_timeNearestTo 6 (some .int) :: gk_W1) 1 0 S_X3_timeNearestTo := gk_meth hl gk_cw_ok (by decide +kernel) rfl m_X3_timeNearestTo pX3_ok (gk_Sp_of sp_X3_timeNearestTo) pX3_st (fun ci m S h => absurd h (by intro h; cases h)) (xf_X3 1) (fun idx kd ci mm cost S2 h h5 => lk_X3_timeNearestTo hl _ (gk_lk_mem h) h5)

def S_X10_requireSource : gk_S := fun as n fl x y K => ∃ (v : Int32) (g : Nat → Int32), as = [.ref 0, .int v] ∧ (n = 202 ∧ fl = gk_fT) ∧ (RS 1 g x y) ∧ (gWf g) ∧ ((0 ≤ v ∧ v < g 7) → ∀ a : Nat, v = nI a → a < nS g → K (.inl (some (.ref (3 * a + 10)))) n fl x y) ∧ (¬ (0 ≤ v ∧ v < g 7) → K (.inr 2) n fl x y)
theorem r_X10_requireSource (w : gk_W c P cs (fun _ _ => none) rt uf sc K V) {idx : Nat} {v : Int32} {g : Nat → Int32} (hd : decode c pc = .ok (.invokevirtual idx, 3)) (hp : pc + 3 = pc2) (hc : cs idx = some (1, 9, 2, 1, S_X10_requireSource)) (h8 : Nat.ble (r.map Value.category).sum 8 = true) (hu : u + 1 ≤ uf) (hp0 : RS 1 g x y) (hp1 : gWf g) (kk0 : (0 ≤ v ∧ v < g 7) → ∀ a : Nat, v = nI a → a < nS g → V pc2 L ((.ref (3 * a + 10)) :: r) 202 gk_fT x y (u + 1)) (kk1 : ¬ (0 ≤ v ∧ v < g 7) → K (.inr 2) 202 gk_fT x y) : V pc L (.int v :: .ref 0 :: r) 202 gk_fT x y u :=
  g_callv w hd hp hc (as := [.ref 0, .int v]) rfl h8 rfl rfl rfl (Or.inr (Or.inl ⟨Or.inl rfl, _, _, rfl, (gk_kd_j rfl rfl), rfl⟩)) (Or.inr hu) ⟨v, g, rfl, ⟨rfl, rfl⟩, hp0, hp1, kk0, kk1⟩
def L_X10_requireSource : List (Nat × gk_M0) := [(91, (0, 9, 2, 1, S_X10_requireNumber))]
def cs_X10_requireSource : Nat → Option gk_M0 := gk_lk L_X10_requireSource
theorem m_X10_requireSource : ∀ (as : List Value) (n : Nat) (fl : gk_F) (x : gk_X) (y : gk_Y) (K : gk_K), S_X10_requireSource as n fl x y K → (gk_L0 as).length ≤ 2 ∧ ∀ V : gk_V, gk_W cX10_requireSource pX10 cs_X10_requireSource (fun _ _ => none) (some (.object "TrackArray$Source")) 1 none K V → V 0 (gk_en as 2) [] n fl x y 0 := by
  intro as n fl x y K hS
  obtain ⟨v, g, rfl, ⟨rfl, rfl⟩, hp0, hp1, q0, q1⟩ := hS
  refine ⟨Nat.le_of_ble_eq_true rfl, fun V w => ?_⟩
  show V 0 [some (.ref 0), some (.int v)] [] 202 gk_fT x y 0
  obtain ⟨nv4, ns6, nm8, z6, z7, z8⟩ := wf_n hp1
  have e7 : x 1 5 = g 7 := hp0.1.1.2.1
  refine s_iload_n (pc2 := 1) w dX10_requireSource_0 rfl rfl ?_
  refine s_aload_n (pc2 := 2) w dX10_requireSource_1 rfl rfl ?_
  refine m_getR (pc2 := 5) (ci := 9) (k := 0) (j2 := 1) w dX10_requireSource_2 rfl rfl rfl rfl rfl rfl ?_
  refine m_getI (pc2 := 8) (ci := 4) (k := 5) w dX10_requireSource_5 rfl rfl rfl rfl rfl ?_
  rw [e7]
  refine r_X10_requireNumber (pc2 := 11) w dX10_requireSource_8 rfl rfl rfl (Nat.le_of_ble_eq_true rfl) (fun h8 => ?_) q1
  obtain ⟨a, rfl, ah⟩ := ix_n h8
  have ah : a < nS g := ah
  refine s_aload_n (pc2 := 12) w dX10_requireSource_11 rfl rfl ?_
  refine m_getR (pc2 := 15) (ci := 9) (k := 0) (j2 := 1) w dX10_requireSource_12 rfl rfl rfl rfl rfl rfl ?_
  refine m_getR (pc2 := 18) (ci := 4) (k := 1) (j2 := 3) w dX10_requireSource_15 rfl rfl rfl rfl rfl rfl ?_
  refine s_iload_n (pc2 := 19) w dX10_requireSource_18 rfl rfl ?_
  refine m_aaloadN (pc2 := 20) (t := a) (kd := 25) (j2 := (3 * a + 10)) (N := 6) w dX10_requireSource_19 rfl rfl rfl rfl rfl rfl (by omega) rfl (by show 3 + (7 + 3 * a) = 3 * a + 10; omega) ?_
  refine s_areturn w dX10_requireSource_20 rfl (Or.inl ⟨_, rfl⟩) ?_
  exact q0 h8 a rfl ah
theorem lk_X10_requireSource {l : Launch} (hl : l.stackTraces = false) : ∀ q ∈ L_X10_requireSource, (q.2.1 < 5 → gk_Lk l RX10 gk_W1 7 q.1 q.2.1 q.2.2.1 q.2.2.2.1 q.2.2.2.2.1 q.2.2.2.2.2) := (List.forall_mem_cons.mpr ⟨(fun _ => ⟨yX10_requireNumber, cX10_requireNumber, 2, none, 6, _, M_X10_requireNumber hl, ⟨by decide, by decide⟩, ⟨by decide, by decide, by decide +kernel⟩, ⟨(gk_wm 854 (by decide +kernel)), (gk_wm 89 (by decide +kernel))⟩, Or.inl ⟨rfl, rfl, (gk_wm 853 (by decide +kernel)), gk_wm 852 (by decide +kernel)⟩⟩), (fun _ h => absurd h List.not_mem_nil)⟩)
theorem sp_X10_requireSource : ∀ q ∈ L_X10_requireSource, gk_Sq RX10 gk_W1 7 q := (List.forall_mem_cons.mpr ⟨⟨fun h => absurd h (by decide), fun h => absurd h (by decide), fun h => absurd h (by decide), fun h => absurd h (by decide), fun h => absurd h (by decide), fun h => absurd h (by decide)⟩, (fun _ h => absurd h List.not_mem_nil)⟩)
theorem M_X10_requireSource {l : Launch} (hl : l.stackTraces = false) : gk_Mt l yX10_requireSource (.code yX10_requireSource cX10_requireSource 2 (some (.object "TrackArray$Source")) :: gk_W1) 7 1 S_X10_requireSource := gk_meth hl gk_cw_ok (by decide +kernel) rfl m_X10_requireSource pX10_ok (gk_Sp_of sp_X10_requireSource) pX10_st (fun ci m S h => absurd h (by intro h; cases h)) (xf_X10 (by decide)) (fun idx kd ci mm cost S2 h h5 => lk_X10_requireSource hl _ (gk_lk_mem h) h5)

def S_X10_requireMicrophone : gk_S := fun as n fl x y K => ∃ (v : Int32) (g : Nat → Int32), as = [.ref 0, .int v] ∧ (n = 202 ∧ fl = gk_fT) ∧ (RS 1 g x y) ∧ (gWf g) ∧ ((0 ≤ v ∧ v < g 8) → ∀ a : Nat, v = nI a → a < nM g → K (.inl (some (.ref (2 * a + 28)))) n fl x y) ∧ (¬ (0 ≤ v ∧ v < g 8) → K (.inr 2) n fl x y)
theorem r_X10_requireMicrophone (w : gk_W c P cs (fun _ _ => none) rt uf sc K V) {idx : Nat} {v : Int32} {g : Nat → Int32} (hd : decode c pc = .ok (.invokevirtual idx, 3)) (hp : pc + 3 = pc2) (hc : cs idx = some (1, 9, 2, 1, S_X10_requireMicrophone)) (h8 : Nat.ble (r.map Value.category).sum 8 = true) (hu : u + 1 ≤ uf) (hp0 : RS 1 g x y) (hp1 : gWf g) (kk0 : (0 ≤ v ∧ v < g 8) → ∀ a : Nat, v = nI a → a < nM g → V pc2 L ((.ref (2 * a + 28)) :: r) 202 gk_fT x y (u + 1)) (kk1 : ¬ (0 ≤ v ∧ v < g 8) → K (.inr 2) 202 gk_fT x y) : V pc L (.int v :: .ref 0 :: r) 202 gk_fT x y u :=
  g_callv w hd hp hc (as := [.ref 0, .int v]) rfl h8 rfl rfl rfl (Or.inr (Or.inl ⟨Or.inl rfl, _, _, rfl, (gk_kd_j rfl rfl), rfl⟩)) (Or.inr hu) ⟨v, g, rfl, ⟨rfl, rfl⟩, hp0, hp1, kk0, kk1⟩
def L_X10_requireMicrophone : List (Nat × gk_M0) := [(91, (0, 9, 2, 1, S_X10_requireNumber))]
def cs_X10_requireMicrophone : Nat → Option gk_M0 := gk_lk L_X10_requireMicrophone
theorem m_X10_requireMicrophone : ∀ (as : List Value) (n : Nat) (fl : gk_F) (x : gk_X) (y : gk_Y) (K : gk_K), S_X10_requireMicrophone as n fl x y K → (gk_L0 as).length ≤ 2 ∧ ∀ V : gk_V, gk_W cX10_requireMicrophone pX10 cs_X10_requireMicrophone (fun _ _ => none) (some (.object "TrackArray$Microphone")) 1 none K V → V 0 (gk_en as 2) [] n fl x y 0 := by
  intro as n fl x y K hS
  obtain ⟨v, g, rfl, ⟨rfl, rfl⟩, hp0, hp1, q0, q1⟩ := hS
  refine ⟨Nat.le_of_ble_eq_true rfl, fun V w => ?_⟩
  show V 0 [some (.ref 0), some (.int v)] [] 202 gk_fT x y 0
  obtain ⟨nv4, ns6, nm8, z6, z7, z8⟩ := wf_n hp1
  have e7 : x 1 6 = g 8 := hp0.1.1.2.2
  refine s_iload_n (pc2 := 1) w dX10_requireMicrophone_0 rfl rfl ?_
  refine s_aload_n (pc2 := 2) w dX10_requireMicrophone_1 rfl rfl ?_
  refine m_getR (pc2 := 5) (ci := 9) (k := 0) (j2 := 1) w dX10_requireMicrophone_2 rfl rfl rfl rfl rfl rfl ?_
  refine m_getI (pc2 := 8) (ci := 4) (k := 6) w dX10_requireMicrophone_5 rfl rfl rfl rfl rfl ?_
  rw [e7]
  refine r_X10_requireNumber (pc2 := 11) w dX10_requireMicrophone_8 rfl rfl rfl (Nat.le_of_ble_eq_true rfl) (fun h8 => ?_) q1
  obtain ⟨a, rfl, ah⟩ := ix_n h8
  have ah : a < nM g := ah
  refine s_aload_n (pc2 := 12) w dX10_requireMicrophone_11 rfl rfl ?_
  refine m_getR (pc2 := 15) (ci := 9) (k := 0) (j2 := 1) w dX10_requireMicrophone_12 rfl rfl rfl rfl rfl rfl ?_
  refine m_getR (pc2 := 18) (ci := 4) (k := 2) (j2 := 4) w dX10_requireMicrophone_15 rfl rfl rfl rfl rfl rfl ?_
  refine s_iload_n (pc2 := 19) w dX10_requireMicrophone_18 rfl rfl ?_
  refine m_aaloadN (pc2 := 20) (t := a) (kd := 26) (j2 := (2 * a + 28)) (N := 8) w dX10_requireMicrophone_19 rfl rfl rfl rfl rfl rfl (by omega) rfl (by show 4 + (24 + 2 * a) = 2 * a + 28; omega) ?_
  refine s_areturn w dX10_requireMicrophone_20 rfl (Or.inl ⟨_, rfl⟩) ?_
  exact q0 h8 a rfl ah
theorem lk_X10_requireMicrophone {l : Launch} (hl : l.stackTraces = false) : ∀ q ∈ L_X10_requireMicrophone, (q.2.1 < 5 → gk_Lk l RX10 gk_W1 7 q.1 q.2.1 q.2.2.1 q.2.2.2.1 q.2.2.2.2.1 q.2.2.2.2.2) := (List.forall_mem_cons.mpr ⟨(fun _ => ⟨yX10_requireNumber, cX10_requireNumber, 2, none, 6, _, M_X10_requireNumber hl, ⟨by decide, by decide⟩, ⟨by decide, by decide, by decide +kernel⟩, ⟨(gk_wm 854 (by decide +kernel)), (gk_wm 89 (by decide +kernel))⟩, Or.inl ⟨rfl, rfl, (gk_wm 853 (by decide +kernel)), gk_wm 852 (by decide +kernel)⟩⟩), (fun _ h => absurd h List.not_mem_nil)⟩)
theorem sp_X10_requireMicrophone : ∀ q ∈ L_X10_requireMicrophone, gk_Sq RX10 gk_W1 7 q := (List.forall_mem_cons.mpr ⟨⟨fun h => absurd h (by decide), fun h => absurd h (by decide), fun h => absurd h (by decide), fun h => absurd h (by decide), fun h => absurd h (by decide), fun h => absurd h (by decide)⟩, (fun _ h => absurd h List.not_mem_nil)⟩)
theorem M_X10_requireMicrophone {l : Launch} (hl : l.stackTraces = false) : gk_Mt l yX10_requireMicrophone (.code yX10_requireMicrophone cX10_requireMicrophone 2 (some (.object "TrackArray$Microphone")) :: gk_W1) 7 1 S_X10_requireMicrophone := gk_meth hl gk_cw_ok (by decide +kernel) rfl m_X10_requireMicrophone pX10_ok (gk_Sp_of sp_X10_requireMicrophone) pX10_st (fun ci m S h => absurd h (by intro h; cases h)) (xf_X10 (by decide)) (fun idx kd ci mm cost S2 h h5 => lk_X10_requireMicrophone hl _ (gk_lk_mem h) h5)

def S_X10_layPath : gk_S := fun as n fl x y K => ∃ (m : Int32) (s : Int32) (f : Int32) (g : Nat → Int32) (rf : Bool), as = [.ref 0, .int m, .int s, .int f] ∧ (n = 202 ∧ fl = gk_fT) ∧ (RS 1 g x y) ∧ (gWf g) ∧ (f = if rf then 1 else 0) ∧ (((0 ≤ m ∧ m < g 8) ∧ (0 ≤ s ∧ s < g 7)) → ∀ (y2 : gk_Y), gk_PL y2 89 (pA g (cN m) (cN s)) (pS g (cN s)) (pBe g (cN m) (cN s) rf) → (∀ i k, i ≠ 89 → y2 i k = y i k) → K (.inl none) n fl x y2) ∧ (¬ ((0 ≤ m ∧ m < g 8) ∧ (0 ≤ s ∧ s < g 7)) → K (.inr 2) n fl x y)
theorem r_X10_layPath (w : gk_W c P cs (fun _ _ => none) rt uf sc K V) {idx : Nat} {m : Int32} {s : Int32} {f : Int32} {g : Nat → Int32} {rf : Bool} (hd : decode c pc = .ok (.invokevirtual idx, 3)) (hp : pc + 3 = pc2) (hc : cs idx = some (1, 9, 4, 2, S_X10_layPath)) (h8 : Nat.ble (r.map Value.category).sum 8 = true) (hu : u + 2 ≤ uf) (hp0 : RS 1 g x y) (hp1 : gWf g) (hp2 : f = if rf then 1 else 0) (kk0 : ((0 ≤ m ∧ m < g 8) ∧ (0 ≤ s ∧ s < g 7)) → ∀ (y2 : gk_Y), gk_PL y2 89 (pA g (cN m) (cN s)) (pS g (cN s)) (pBe g (cN m) (cN s) rf) → (∀ i k, i ≠ 89 → y2 i k = y i k) → V pc2 L r 202 gk_fT x y2 (u + 2)) (kk1 : ¬ ((0 ≤ m ∧ m < g 8) ∧ (0 ≤ s ∧ s < g 7)) → K (.inr 2) 202 gk_fT x y) : V pc L (.int f :: .int s :: .int m :: .ref 0 :: r) 202 gk_fT x y u :=
  g_callv w hd hp hc (as := [.ref 0, .int m, .int s, .int f]) rfl h8 rfl rfl rfl (Or.inr (Or.inl ⟨Or.inl rfl, _, _, rfl, (gk_kd_j rfl rfl), rfl⟩)) (Or.inr hu) ⟨m, s, f, g, rf, rfl, ⟨rfl, rfl⟩, hp0, hp1, hp2, kk0, kk1⟩
def L_X10_layPath : List (Nat × gk_M0) := [(99, (1, 9, 2, 1, S_X10_requireSource)), (112, (1, 9, 2, 1, S_X10_requireMicrophone)), (293, (1, 2, 5, 0, S_X2_lay))]
def cs_X10_layPath : Nat → Option gk_M0 := gk_lk L_X10_layPath
theorem m_X10_layPath : ∀ (as : List Value) (n : Nat) (fl : gk_F) (x : gk_X) (y : gk_Y) (K : gk_K), S_X10_layPath as n fl x y K → (gk_L0 as).length ≤ 6 ∧ ∀ V : gk_V, gk_W cX10_layPath pX10 cs_X10_layPath (fun _ _ => none) none 2 none K V → V 0 (gk_en as 6) [] n fl x y 0 := by
  intro as n fl x y K hS
  obtain ⟨m, s, f, g, rf, rfl, ⟨rfl, rfl⟩, hp0, hp1, hp2, q0, q1⟩ := hS
  refine ⟨Nat.le_of_ble_eq_true rfl, fun V w => ?_⟩
  show V 0 [some (.ref 0), some (.int m), some (.int s), some (.int f), none, none] [] 202 gk_fT x y 0
  obtain ⟨nv4, ns6, nm8, z6, z7, z8⟩ := wf_n hp1
  refine s_aload_n (pc2 := 1) w dX10_layPath_0 rfl rfl ?_
  refine s_iload_n (pc2 := 2) w dX10_layPath_1 rfl rfl ?_
  refine r_X10_requireMicrophone (pc2 := 5) w dX10_layPath_2 rfl rfl rfl (Nat.le_of_ble_eq_true rfl) hp0 hp1 (fun h2 a ha1 ah => ?_) (fun h => q1 (fun hc => h hc.1))
  subst ha1
  obtain ⟨j1, j2, j3⟩ := kd_m (show a < 8 by omega)
  refine s_astore (pc2 := 7) w dX10_layPath_5 rfl rfl ?_
  dsimp only [gk_s1, gk_s2, gk_cl]
  refine s_aload_n (pc2 := 8) w dX10_layPath_7 rfl rfl ?_
  refine s_iload_n (pc2 := 9) w dX10_layPath_8 rfl rfl ?_
  refine r_X10_requireSource (pc2 := 12) w dX10_layPath_9 rfl rfl rfl (Nat.le_of_ble_eq_true rfl) hp0 hp1 (fun h9 b hb1 bh => ?_) (fun h => q1 (fun hc => h hc.2))
  subst hb1
  obtain ⟨k1, k2, k3, k4⟩ := kd_s (show b < 6 by omega)
  rw [cN_n a (by omega), cN_n b (by omega)] at q0
  refine s_astore (pc2 := 14) w dX10_layPath_12 rfl rfl ?_
  dsimp only [gk_s1, gk_s2, gk_cl]
  refine s_aload_n (pc2 := 15) w dX10_layPath_14 rfl rfl ?_
  refine m_getR (pc2 := 18) (ci := 9) (k := 4) (j2 := 89) w dX10_layPath_15 rfl rfl rfl rfl rfl rfl ?_
  refine s_aload (pc2 := 20) w dX10_layPath_18 rfl rfl ?_
  refine m_getR (pc2 := 23) (ci := 6) (k := 0) (j2 := (3 * b + 11)) w dX10_layPath_20 rfl rfl (by first | exact k1 | exact k2 | exact j1) rfl rfl rfl ?_
  refine s_iconst (pc2 := 24) (v := 0) w dX10_layPath_23 rfl rfl ?_
  refine s_aload (pc2 := 26) w dX10_layPath_24 rfl rfl ?_
  refine s_iload_n (pc2 := 27) w dX10_layPath_26 rfl rfl ?_
  refine r_X2_lay (pc2 := 30) (rf := rf) (sh := 0) w dX10_layPath_27 rfl rfl rfl rfl (by first | exact k1 | exact k2 | exact j1) (by first | exact k1 | exact k2 | exact j1) (rs_PP hp1 hp0.2.2.2.1 bh) (rs_MP hp1 hp0.2.2.2.2.1 ah) rfl (by omega) hp2 ?_
  refine s_return w dX10_layPath_30 rfl ?_
  refine q0 ⟨h2, h9⟩ _ ?_ (fun i k h => gk_ly_ne h)
  have h := gk_ly_PL y 89 (gz g (16 + 3 * sV g b + 0) + gz g (28 + 21 * b + 1) + 0 - gz g (154 + 4 * a + 0)) (gz g (16 + 3 * sV g b + 1)) (gk_be (gz g (16 + 3 * sV g b + 2)) (gz g (28 + 21 * b + 2)) (gz g (154 + 4 * a + 1)) (gz g (154 + 4 * a + 2)) rf)
  rw [show gz g (16 + 3 * sV g b + 0) + gz g (28 + 21 * b + 1) + 0 - gz g (154 + 4 * a + 0) = pA g a b by unfold pA; omega] at h ⊢
  exact h
theorem lk_X10_layPath {l : Launch} (hl : l.stackTraces = false) : ∀ q ∈ L_X10_layPath, (q.2.1 < 5 → gk_Lk l RX10 gk_W1 8 q.1 q.2.1 q.2.2.1 q.2.2.2.1 q.2.2.2.2.1 q.2.2.2.2.2) := (List.forall_mem_cons.mpr ⟨(fun _ => ⟨yX10_requireSource, cX10_requireSource, 2, (some (.object "TrackArray$Source")), 7, _, M_X10_requireSource hl, ⟨by decide, by decide⟩, ⟨by decide, by decide, by decide +kernel⟩, ⟨(gk_wm 882 (by decide +kernel)), (gk_wm 89 (by decide +kernel))⟩, Or.inr (Or.inr (Or.inr (Or.inl ⟨rfl, rfl, (gk_wm 881 (by decide +kernel)), (gk_wm 22 (by decide +kernel)), gk_wm 879 (by decide +kernel), by decide, rfl⟩)))⟩), (List.forall_mem_cons.mpr ⟨(fun _ => ⟨yX10_requireMicrophone, cX10_requireMicrophone, 2, (some (.object "TrackArray$Microphone")), 7, _, M_X10_requireMicrophone hl, ⟨by decide, by decide⟩, ⟨by decide, by decide, by decide +kernel⟩, ⟨(gk_wm 902 (by decide +kernel)), (gk_wm 89 (by decide +kernel))⟩, Or.inr (Or.inr (Or.inr (Or.inl ⟨rfl, rfl, (gk_wm 901 (by decide +kernel)), (gk_wm 23 (by decide +kernel)), gk_wm 899 (by decide +kernel), by decide, rfl⟩)))⟩), (List.forall_mem_cons.mpr ⟨(fun _ => ⟨yX2_lay, cX2_lay, 11, none, 0, _, M_X2_lay hl, ⟨by decide, by decide⟩, ⟨by decide, by decide, by decide +kernel⟩, ⟨(gk_wm 462 (by decide +kernel)), (gk_wm 94 (by decide +kernel))⟩, Or.inr (Or.inr (Or.inr (Or.inl ⟨rfl, rfl, (gk_wm 460 (by decide +kernel)), (gk_wm 461 (by decide +kernel)), gk_wm 933 (by decide +kernel), by decide, rfl⟩)))⟩), (fun _ h => absurd h List.not_mem_nil)⟩)⟩)⟩)
theorem sp_X10_layPath : ∀ q ∈ L_X10_layPath, gk_Sq RX10 gk_W1 8 q := (List.forall_mem_cons.mpr ⟨⟨fun h => absurd h (by decide), fun h => absurd h (by decide), fun h => absurd h (by decide), fun h => absurd h (by decide), fun h => absurd h (by decide), fun h => absurd h (by decide)⟩, (List.forall_mem_cons.mpr ⟨⟨fun h => absurd h (by decide), fun h => absurd h (by decide), fun h => absurd h (by decide), fun h => absurd h (by decide), fun h => absurd h (by decide), fun h => absurd h (by decide)⟩, (List.forall_mem_cons.mpr ⟨⟨fun h => absurd h (by decide), fun h => absurd h (by decide), fun h => absurd h (by decide), fun h => absurd h (by decide), fun h => absurd h (by decide), fun h => absurd h (by decide)⟩, (fun _ h => absurd h List.not_mem_nil)⟩)⟩)⟩)
theorem M_X10_layPath {l : Launch} (hl : l.stackTraces = false) : gk_Mt l yX10_layPath (.code yX10_layPath cX10_layPath 6 none :: gk_W1) 8 2 S_X10_layPath := gk_meth hl gk_cw_ok (by decide +kernel) rfl m_X10_layPath pX10_ok (gk_Sp_of sp_X10_layPath) pX10_st (fun ci m S h => absurd h (by intro h; cases h)) (xf_X10 (by decide)) (fun idx kd ci mm cost S2 h h5 => lk_X10_layPath hl _ (gk_lk_mem h) h5)

end GKV

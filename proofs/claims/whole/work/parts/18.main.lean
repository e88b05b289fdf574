/-! once all is made: the rules with every cell there, and every reference set -/
def gk_fT : gk_F := fun _ _ => true
theorem gk_kd_lt {j : Nat} (h : gk_kd j < 28) : j < 202 := by
  rcases Nat.lt_or_ge j 202 with q | q
  · exact q
  · exfalso
    unfold gk_kd at h
    rw [if_neg (by omega), if_neg (by omega), if_neg (by omega), if_neg (by omega), if_neg (by omega), if_neg (by omega)] at h
    rw [show ([10, 20, 20, 20, 21, 20, 20, 20, 20, 22, 20, 22, 23] : List Nat).getD (j - 189) 99 = 99 by rw [List.getD_eq_getElem?_getD, List.getElem?_eq_none (by simp; omega)]; rfl] at h
    omega
theorem gk_kd_j {j ci : Nat} (h : gk_kd j = ci) (h2 : Nat.ble (ci + 1) 28 = true) : j < 202 := gk_kd_lt (by rw [h]; exact Nat.le_of_ble_eq_true h2)
theorem gk_nsm {w : Jvm.Cond} (i : Nat) (h : gk_nest[i]? = some w) : w ∈ gk_nest := List.mem_of_getElem? h
theorem gk_lit (n : Nat) : (OfNat.ofNat n : Int32) = nI n := rfl
theorem gk_ixN {i : Int32} {t N : Nat} (h : i = nI t) (ht : t < N) (hN : Nat.ble N 10000 = true) : vp_in i N ∧ i.toNatClampNeg = t := by
  have hN2 := Nat.le_of_ble_eq_true hN
  subst h
  exact ⟨vp_in_nI ht (by omega), nI_clamp (by omega)⟩
def gk_Sq (own : String) (Ts : List Jvm.Cond) (d : Nat) (q : Nat × gk_M0) : Prop := (q.2.1 = 5 → 1 ≤ d ∧ Jvm.Cond.methodLink own q.1 Lib.Math.max.name ∈ Ts ∧ Jvm.Cond.static Lib.Math.max.name ∈ Ts ∧ Jvm.Cond.initialized "java/lang/Math" ∈ Ts ∧ Jvm.Cond.code Lib.Math.max.name Lib.Math.max.code 2 (some .int) ∈ Ts) ∧ (q.2.1 = 6 → 1 ≤ d ∧ Jvm.Cond.methodLink own q.1 Lib.Math.min.name ∈ Ts ∧ Jvm.Cond.static Lib.Math.min.name ∈ Ts ∧ Jvm.Cond.initialized "java/lang/Math" ∈ Ts ∧ Jvm.Cond.code Lib.Math.min.name Lib.Math.min.code 2 (some .int) ∈ Ts) ∧ (q.2.1 = 7 → 1 ≤ d ∧ Jvm.Cond.methodLink own q.1 Lib.Math.abs.name ∈ Ts ∧ Jvm.Cond.static Lib.Math.abs.name ∈ Ts ∧ Jvm.Cond.initialized "java/lang/Math" ∈ Ts ∧ Jvm.Cond.code Lib.Math.abs.name Lib.Math.abs.code 1 (some .int) ∈ Ts) ∧ (q.2.1 = 8 → 1 ≤ d ∧ Jvm.Cond.methodLink own q.1 arraycopyName ∈ Ts ∧ Jvm.Cond.native arraycopyName ∈ Ts ∧ Jvm.Cond.static arraycopyName ∈ Ts ∧ Jvm.Cond.initialized "java/lang/System" ∈ Ts) ∧ (q.2.1 = 9 → 1 ≤ d ∧ Jvm.Cond.methodLink own q.1 Lib.objectInit ∈ Ts ∧ Jvm.Cond.instanceMethod Lib.objectInit ∈ Ts ∧ Jvm.Cond.code Lib.objectInit ⟨#[0xb1]⟩ 1 none ∈ Ts) ∧ (q.2.1 = 99 → gk_R q.2.2.1 = own)
theorem gk_Sp_of {own : String} {Ts : List Jvm.Cond} {d : Nat} {L : List (Nat × gk_M0)} (h : ∀ q ∈ L, gk_Sq own Ts d q) : gk_Sp own (gk_lk L) Ts d := fun _ _ _ _ _ _ hc => h _ (gk_lk_mem hc)
theorem gk_Xf_300 {own : String} {f : List (Nat × Nat × Nat)} {l : List (Nat × Int64)} {i : List (Nat × Int32)} {s n : List (Nat × Nat)} {d : Nat} (h : n.all (fun q => Nat.ble (q.2 + 1) 300) = true) : gk_Xf own (gk_lk f, gk_lk l, gk_lk i, gk_lk s, gk_lk n) d := fun idx is ic q ek _ _ h3 => by
  have := Nat.le_of_ble_eq_true (List.all_eq_true.mp h _ (gk_lk_mem h3))
  omega
theorem xf_X0 (d : Nat) : gk_Xf RX0 pX0 d := gk_Xf_300 (by decide +kernel)
theorem xf_X1 (d : Nat) : gk_Xf RX1 pX1 d := gk_Xf_300 (by decide +kernel)
theorem xf_X2 (d : Nat) : gk_Xf RX2 pX2 d := gk_Xf_300 (by decide +kernel)
theorem xf_X3 (d : Nat) : gk_Xf RX3 pX3 d := gk_Xf_300 (by decide +kernel)
theorem xf_X4 (d : Nat) : gk_Xf RX4 pX4 d := gk_Xf_300 (by decide +kernel)
theorem xf_X5 (d : Nat) : gk_Xf RX5 pX5 d := gk_Xf_300 (by decide +kernel)
theorem xf_X6 (d : Nat) : gk_Xf RX6 pX6 d := gk_Xf_300 (by decide +kernel)
theorem xf_X7 (d : Nat) : gk_Xf RX7 pX7 d := gk_Xf_300 (by decide +kernel)
theorem xf_X8 (d : Nat) : gk_Xf RX8 pX8 d := gk_Xf_300 (by decide +kernel)
theorem xf_X9 (d : Nat) : gk_Xf RX9 pX9 d := gk_Xf_300 (by decide +kernel)
theorem xf_X11 (d : Nat) : gk_Xf RX11 pX11 d := gk_Xf_300 (by decide +kernel)
theorem xf_J9 (d : Nat) : gk_Xf RJ9 pJ9 d := gk_Xf_300 (by decide +kernel)
theorem xf_J7 (d : Nat) : gk_Xf RJ7 pJ7 d := gk_Xf_300 (by decide +kernel)
theorem xf_L (d : Nat) : gk_Xf RL pL d := gk_Xf_300 (by decide +kernel)
theorem xw_0 : ∀ w ∈ Jvm.Cond.classLink RX10 130 (gk_xn 0) :: Jvm.Cond.initialized (gk_xn 0) :: vx_atS RX10 134 (gk_xn 0) gk_ch, w ∈ gk_W1 ∨ w ∈ gk_face := by decide +kernel
theorem xw_1 : ∀ w ∈ Jvm.Cond.classLink RX10 272 (gk_xn 1) :: Jvm.Cond.initialized (gk_xn 1) :: vx_atS RX10 276 (gk_xn 1) gk_ch, w ∈ gk_W1 ∨ w ∈ gk_face := by decide +kernel
theorem xw_2 : ∀ w ∈ Jvm.Cond.classLink RX10 279 (gk_xn 2) :: Jvm.Cond.initialized (gk_xn 2) :: vx_atS RX10 283 (gk_xn 2) gk_ch, w ∈ gk_W1 ∨ w ∈ gk_face := by decide +kernel
theorem xl_X10 : nX10.all (fun q => Nat.ble (q.2 + 1) 100 || Nat.ble 224 q.2 || (q.2 == 100 && q.1 == 130) || (q.2 == 101 && q.1 == 272) || (q.2 == 102 && q.1 == 279)) = true ∧ nX10.all (fun q => Nat.ble (q.2 + 1) 300 || (q.2 == 300 && q.1 == 134) || (q.2 == 301 && q.1 == 276) || (q.2 == 302 && q.1 == 283)) = true := by decide +kernel
theorem xf_X10 {d : Nat} (hd : 6 ≤ d) : gk_Xf RX10 pX10 d := fun idx is ic q ek h1 _ h3 => by
  have e1 := List.all_eq_true.mp xl_X10.1 _ (gk_lk_mem h1)
  have e3 := List.all_eq_true.mp xl_X10.2 _ (gk_lk_mem h3)
  simp only [Bool.or_eq_true, Bool.and_eq_true, Nat.ble_eq, beq_iff_eq] at e1 e3
  have e4 : ek = 0 ∧ idx = 130 ∧ ic = 134 ∨ ek = 1 ∧ idx = 272 ∧ ic = 276 ∨ ek = 2 ∧ idx = 279 ∧ ic = 283 := by omega
  rcases e4 with ⟨rfl, rfl, rfl⟩ | ⟨rfl, rfl, rfl⟩ | ⟨rfl, rfl, rfl⟩
  · exact ⟨hd, by decide +kernel, xw_0⟩
  · exact ⟨hd, by decide +kernel, xw_1⟩
  · exact ⟨hd, by decide +kernel, xw_2⟩
section GKM
variable {c : ByteArray} {P : gk_C} {cs : Nat → Option gk_M0} {xh : Nat → Nat → Option (Nat × Nat)} {rt : Option FieldType} {uf : Nat} {sc : Option Nat} {K : gk_K} {V : gk_V}
variable {L : List (Option Value)} {r : List Value} {n : Nat} {fl : gk_F} {x : gk_X} {y : gk_Y} {u pc pc2 : Nat}
theorem m_getI (w : gk_W c P cs xh rt uf sc K V) {idx ci k j : Nat} (hd : decode c pc = .ok (.getfield idx, 3)) (hp : pc + 3 = pc2) (hf : P.1 idx = some (ci, k)) (hkd : gk_kd j = ci) (hk : (Nat.ble (k + 1) (gk_nf ci) && Nat.ble (ci + 1) 28) = true) (hK : gk_fk ci k = 0) (kk : V pc2 L (.int (x j k) :: r) 202 gk_fT x y u) : V pc L (.ref j :: r) 202 gk_fT x y u := by
  have hk2 : Nat.ble (k + 1) (gk_nf ci) = true ∧ Nat.ble (ci + 1) 28 = true := by simpa using hk
  exact g_getI w hd hp hf (gk_kd_j hkd hk2.2) hkd hk2.1 hK kk
theorem m_getL (w : gk_W c P cs xh rt uf sc K V) {idx ci k j : Nat} (hd : decode c pc = .ok (.getfield idx, 3)) (hp : pc + 3 = pc2) (hf : P.1 idx = some (ci, k)) (hkd : gk_kd j = ci) (hk : (Nat.ble (k + 1) (gk_nf ci) && Nat.ble (ci + 1) 28) = true) (hK : gk_fk ci k = 1) (kk : V pc2 L (.long (y j k) :: r) 202 gk_fT x y u) : V pc L (.ref j :: r) 202 gk_fT x y u := by
  have hk2 : Nat.ble (k + 1) (gk_nf ci) = true ∧ Nat.ble (ci + 1) 28 = true := by simpa using hk
  exact g_getL w hd hp hf (gk_kd_j hkd hk2.2) hkd hk2.1 hK kk
theorem m_getR (w : gk_W c P cs xh rt uf sc K V) {idx ci k j : Nat} {j2 : Nat} (hd : decode c pc = .ok (.getfield idx, 3)) (hp : pc + 3 = pc2) (hf : P.1 idx = some (ci, k)) (hkd : gk_kd j = ci) (hk : (Nat.ble (k + 1) (gk_nf ci) && Nat.ble (ci + 1) 28) = true) (hK : gk_fk ci k = 2) (h2 : j + gk_fo ci k = j2) (kk : V pc2 L (.ref j2 :: r) 202 gk_fT x y u) : V pc L (.ref j :: r) 202 gk_fT x y u := by
  have hk2 : Nat.ble (k + 1) (gk_nf ci) = true ∧ Nat.ble (ci + 1) 28 = true := by simpa using hk
  exact g_getR w hd hp hf (gk_kd_j hkd hk2.2) hkd hk2.1 hK rfl h2 kk
theorem m_putI (w : gk_W c P cs xh rt uf sc K V) {idx ci k j : Nat} {v : Int32} (hd : decode c pc = .ok (.putfield idx, 3)) (hp : pc + 3 = pc2) (hf : P.1 idx = some (ci, k)) (hkd : gk_kd j = ci) (hk : (Nat.ble (k + 1) (gk_nf ci) && Nat.ble (ci + 1) 28) = true) (hK : gk_fk ci k = 0) (hz : gk_bz ci k = true → (v = 0 ∨ v = 1)) (kk : V pc2 L r 202 gk_fT (gk_up x j k v) y u) : V pc L (.int v :: .ref j :: r) 202 gk_fT x y u := by
  have hk2 : Nat.ble (k + 1) (gk_nf ci) = true ∧ Nat.ble (ci + 1) 28 = true := by simpa using hk
  exact g_putI w hd hp hf (gk_kd_j hkd hk2.2) hkd hk2.1 hK hz kk
theorem m_putL (w : gk_W c P cs xh rt uf sc K V) {idx ci k j : Nat} {v : Int64} (hd : decode c pc = .ok (.putfield idx, 3)) (hp : pc + 3 = pc2) (hf : P.1 idx = some (ci, k)) (hkd : gk_kd j = ci) (hk : (Nat.ble (k + 1) (gk_nf ci) && Nat.ble (ci + 1) 28) = true) (hK : gk_fk ci k = 1) (kk : V pc2 L r 202 gk_fT x (gk_uy y j k v) u) : V pc L (.long v :: .ref j :: r) 202 gk_fT x y u := by
  have hk2 : Nat.ble (k + 1) (gk_nf ci) = true ∧ Nat.ble (ci + 1) 28 = true := by simpa using hk
  exact g_putL w hd hp hf (gk_kd_j hkd hk2.2) hkd hk2.1 hK kk
theorem m_ialoadN (w : gk_W c P cs xh rt uf sc K V) {i : Int32} {j t N : Nat} (hd : decode c pc = .ok (.iaload, 1)) (hp : pc + 1 = pc2) (hkd : gk_kd j = 20) (hl : gk_ln j = N) (hi : i = nI t) (ht : t < N) (hN : Nat.ble N 10000 = true)  (kk : V pc2 L (.int (x j t) :: r) 202 gk_fT x y u) : V pc L (.int i :: .ref j :: r) 202 gk_fT x y u := by
  subst hl
  obtain ⟨h1, h2⟩ := gk_ixN hi ht hN
  exact g_iaload w hd hp hkd (gk_kd_j hkd rfl) h1  (by rw [h2]; exact kk)
theorem m_baloadN (w : gk_W c P cs xh rt uf sc K V) {i : Int32} {j t N : Nat} (hd : decode c pc = .ok (.baload, 1)) (hp : pc + 1 = pc2) (hkd : gk_kd j = 21) (hl : gk_ln j = N) (hi : i = nI t) (ht : t < N) (hN : Nat.ble N 10000 = true)  (kk : V pc2 L (.int (x j t) :: r) 202 gk_fT x y u) : V pc L (.int i :: .ref j :: r) 202 gk_fT x y u := by
  subst hl
  obtain ⟨h1, h2⟩ := gk_ixN hi ht hN
  exact g_baload w hd hp hkd (gk_kd_j hkd rfl) h1  (by rw [h2]; exact kk)
theorem m_laloadN (w : gk_W c P cs xh rt uf sc K V) {i : Int32} {j t N : Nat} (hd : decode c pc = .ok (.laload, 1)) (hp : pc + 1 = pc2) (hkd : gk_kd j = 22) (hl : gk_ln j = N) (hi : i = nI t) (ht : t < N) (hN : Nat.ble N 10000 = true)  (kk : V pc2 L (.long (y j t) :: r) 202 gk_fT x y u) : V pc L (.int i :: .ref j :: r) 202 gk_fT x y u := by
  subst hl
  obtain ⟨h1, h2⟩ := gk_ixN hi ht hN
  exact g_laload w hd hp hkd (gk_kd_j hkd rfl) h1  (by rw [h2]; exact kk)
theorem m_daloadN (w : gk_W c P cs xh rt uf sc K V) {i : Int32} {j t N : Nat} (hd : decode c pc = .ok (.daload, 1)) (hp : pc + 1 = pc2) (hkd : gk_kd j = 23) (hl : gk_ln j = N) (hi : i = nI t) (ht : t < N) (hN : Nat.ble N 10000 = true)  (kk : V pc2 L (.double (y j t).toUInt64 :: r) 202 gk_fT x y u) : V pc L (.int i :: .ref j :: r) 202 gk_fT x y u := by
  subst hl
  obtain ⟨h1, h2⟩ := gk_ixN hi ht hN
  exact g_daload w hd hp hkd (gk_kd_j hkd rfl) h1  (by rw [h2]; exact kk)
theorem m_iastoreN (w : gk_W c P cs xh rt uf sc K V) {i : Int32} {j t N : Nat} {v : Int32} (hd : decode c pc = .ok (.iastore, 1)) (hp : pc + 1 = pc2) (hkd : gk_kd j = 20) (hl : gk_ln j = N) (hi : i = nI t) (ht : t < N) (hN : Nat.ble N 10000 = true)  (kk : V pc2 L (r) 202 gk_fT (gk_up x j t v) y u) : V pc L (.int v :: .int i :: .ref j :: r) 202 gk_fT x y u := by
  subst hl
  obtain ⟨h1, h2⟩ := gk_ixN hi ht hN
  exact g_iastore w hd hp hkd (gk_kd_j hkd rfl) h1  (by rw [h2]; exact kk)
theorem m_bastoreN (w : gk_W c P cs xh rt uf sc K V) {i : Int32} {j t N : Nat} {v : Int32} (hd : decode c pc = .ok (.bastore, 1)) (hp : pc + 1 = pc2) (hkd : gk_kd j = 21) (hl : gk_ln j = N) (hi : i = nI t) (ht : t < N) (hN : Nat.ble N 10000 = true) (hz : v = 0 ∨ v = 1) (kk : V pc2 L (r) 202 gk_fT (gk_up x j t v) y u) : V pc L (.int v :: .int i :: .ref j :: r) 202 gk_fT x y u := by
  subst hl
  obtain ⟨h1, h2⟩ := gk_ixN hi ht hN
  exact g_bastore w hd hp hkd (gk_kd_j hkd rfl) h1 hz (by rw [h2]; exact kk)
theorem m_lastoreN (w : gk_W c P cs xh rt uf sc K V) {i : Int32} {j t N : Nat} {v : Int64} (hd : decode c pc = .ok (.lastore, 1)) (hp : pc + 1 = pc2) (hkd : gk_kd j = 22) (hl : gk_ln j = N) (hi : i = nI t) (ht : t < N) (hN : Nat.ble N 10000 = true)  (kk : V pc2 L (r) 202 gk_fT x (gk_uy y j t v) u) : V pc L (.long v :: .int i :: .ref j :: r) 202 gk_fT x y u := by
  subst hl
  obtain ⟨h1, h2⟩ := gk_ixN hi ht hN
  exact g_lastore w hd hp hkd (gk_kd_j hkd rfl) h1  (by rw [h2]; exact kk)
theorem m_dastoreN (w : gk_W c P cs xh rt uf sc K V) {i : Int32} {j t N : Nat} {v : UInt64} (hd : decode c pc = .ok (.dastore, 1)) (hp : pc + 1 = pc2) (hkd : gk_kd j = 23) (hl : gk_ln j = N) (hi : i = nI t) (ht : t < N) (hN : Nat.ble N 10000 = true)  (kk : V pc2 L (r) 202 gk_fT x (gk_uy y j t v.toInt64) u) : V pc L (.double v :: .int i :: .ref j :: r) 202 gk_fT x y u := by
  subst hl
  obtain ⟨h1, h2⟩ := gk_ixN hi ht hN
  exact g_dastore w hd hp hkd (gk_kd_j hkd rfl) h1  (by rw [h2]; exact kk)
theorem g_ialoadN (w : gk_W c P cs xh rt uf sc K V) {i : Int32} {j t N : Nat} (hd : decode c pc = .ok (.iaload, 1)) (hp : pc + 1 = pc2) (hkd : gk_kd j = 20) (hl : gk_ln j = N) (hj : j < n) (hi : i = nI t) (ht : t < N) (hN : Nat.ble N 10000 = true)  (kk : V pc2 L (.int (x j t) :: r) n fl x y u) : V pc L (.int i :: .ref j :: r) n fl x y u := by
  subst hl
  obtain ⟨h1, h2⟩ := gk_ixN hi ht hN
  exact g_iaload w hd hp hkd (hj) h1  (by rw [h2]; exact kk)
theorem g_baloadN (w : gk_W c P cs xh rt uf sc K V) {i : Int32} {j t N : Nat} (hd : decode c pc = .ok (.baload, 1)) (hp : pc + 1 = pc2) (hkd : gk_kd j = 21) (hl : gk_ln j = N) (hj : j < n) (hi : i = nI t) (ht : t < N) (hN : Nat.ble N 10000 = true)  (kk : V pc2 L (.int (x j t) :: r) n fl x y u) : V pc L (.int i :: .ref j :: r) n fl x y u := by
  subst hl
  obtain ⟨h1, h2⟩ := gk_ixN hi ht hN
  exact g_baload w hd hp hkd (hj) h1  (by rw [h2]; exact kk)
theorem g_laloadN (w : gk_W c P cs xh rt uf sc K V) {i : Int32} {j t N : Nat} (hd : decode c pc = .ok (.laload, 1)) (hp : pc + 1 = pc2) (hkd : gk_kd j = 22) (hl : gk_ln j = N) (hj : j < n) (hi : i = nI t) (ht : t < N) (hN : Nat.ble N 10000 = true)  (kk : V pc2 L (.long (y j t) :: r) n fl x y u) : V pc L (.int i :: .ref j :: r) n fl x y u := by
  subst hl
  obtain ⟨h1, h2⟩ := gk_ixN hi ht hN
  exact g_laload w hd hp hkd (hj) h1  (by rw [h2]; exact kk)
theorem g_daloadN (w : gk_W c P cs xh rt uf sc K V) {i : Int32} {j t N : Nat} (hd : decode c pc = .ok (.daload, 1)) (hp : pc + 1 = pc2) (hkd : gk_kd j = 23) (hl : gk_ln j = N) (hj : j < n) (hi : i = nI t) (ht : t < N) (hN : Nat.ble N 10000 = true)  (kk : V pc2 L (.double (y j t).toUInt64 :: r) n fl x y u) : V pc L (.int i :: .ref j :: r) n fl x y u := by
  subst hl
  obtain ⟨h1, h2⟩ := gk_ixN hi ht hN
  exact g_daload w hd hp hkd (hj) h1  (by rw [h2]; exact kk)
theorem g_iastoreN (w : gk_W c P cs xh rt uf sc K V) {i : Int32} {j t N : Nat} {v : Int32} (hd : decode c pc = .ok (.iastore, 1)) (hp : pc + 1 = pc2) (hkd : gk_kd j = 20) (hl : gk_ln j = N) (hj : j < n) (hi : i = nI t) (ht : t < N) (hN : Nat.ble N 10000 = true)  (kk : V pc2 L (r) n fl (gk_up x j t v) y u) : V pc L (.int v :: .int i :: .ref j :: r) n fl x y u := by
  subst hl
  obtain ⟨h1, h2⟩ := gk_ixN hi ht hN
  exact g_iastore w hd hp hkd (hj) h1  (by rw [h2]; exact kk)
theorem g_bastoreN (w : gk_W c P cs xh rt uf sc K V) {i : Int32} {j t N : Nat} {v : Int32} (hd : decode c pc = .ok (.bastore, 1)) (hp : pc + 1 = pc2) (hkd : gk_kd j = 21) (hl : gk_ln j = N) (hj : j < n) (hi : i = nI t) (ht : t < N) (hN : Nat.ble N 10000 = true) (hz : v = 0 ∨ v = 1) (kk : V pc2 L (r) n fl (gk_up x j t v) y u) : V pc L (.int v :: .int i :: .ref j :: r) n fl x y u := by
  subst hl
  obtain ⟨h1, h2⟩ := gk_ixN hi ht hN
  exact g_bastore w hd hp hkd (hj) h1 hz (by rw [h2]; exact kk)
theorem g_lastoreN (w : gk_W c P cs xh rt uf sc K V) {i : Int32} {j t N : Nat} {v : Int64} (hd : decode c pc = .ok (.lastore, 1)) (hp : pc + 1 = pc2) (hkd : gk_kd j = 22) (hl : gk_ln j = N) (hj : j < n) (hi : i = nI t) (ht : t < N) (hN : Nat.ble N 10000 = true)  (kk : V pc2 L (r) n fl x (gk_uy y j t v) u) : V pc L (.long v :: .int i :: .ref j :: r) n fl x y u := by
  subst hl
  obtain ⟨h1, h2⟩ := gk_ixN hi ht hN
  exact g_lastore w hd hp hkd (hj) h1  (by rw [h2]; exact kk)
theorem g_dastoreN (w : gk_W c P cs xh rt uf sc K V) {i : Int32} {j t N : Nat} {v : UInt64} (hd : decode c pc = .ok (.dastore, 1)) (hp : pc + 1 = pc2) (hkd : gk_kd j = 23) (hl : gk_ln j = N) (hj : j < n) (hi : i = nI t) (ht : t < N) (hN : Nat.ble N 10000 = true)  (kk : V pc2 L (r) n fl x (gk_uy y j t v.toInt64) u) : V pc L (.double v :: .int i :: .ref j :: r) n fl x y u := by
  subst hl
  obtain ⟨h1, h2⟩ := gk_ixN hi ht hN
  exact g_dastore w hd hp hkd (hj) h1  (by rw [h2]; exact kk)
theorem m_aaloadN (w : gk_W c P cs xh rt uf sc K V) {i : Int32} {j t N kd j2 : Nat} (hd : decode c pc = .ok (.aaload, 1)) (hp : pc + 1 = pc2) (hkd : gk_kd j = kd) (hl : gk_ln j = N) (h24 : Nat.ble 24 kd = true) (h28 : Nat.ble (kd + 1) 28 = true) (hi : i = nI t) (ht : t < N) (hN : Nat.ble N 10000 = true) (h2 : j + gk_eo kd t = j2) (kk : V pc2 L (.ref j2 :: r) 202 gk_fT x y u) : V pc L (.int i :: .ref j :: r) 202 gk_fT x y u := by
  subst hl
  obtain ⟨h1, h3⟩ := gk_ixN hi ht hN
  exact g_aaload w hd hp hkd h24 h28 (gk_kd_j hkd h28) h1 rfl (by rw [h3]; exact h2) kk
theorem m_alen (w : gk_W c P cs xh rt uf sc K V) {j kd : Nat} {N : Int32} (hd : decode c pc = .ok (.arraylength, 1)) (hp : pc + 1 = pc2) (hkd : gk_kd j = kd) (h20 : Nat.ble 20 kd = true) (h28 : Nat.ble (kd + 1) 28 = true) (hN : nI (gk_ln j) = N) (kk : V pc2 L (.int N :: r) 202 gk_fT x y u) : V pc L (.ref j :: r) 202 gk_fT x y u := g_alen w hd hp hkd h20 h28 (gk_kd_j hkd h28) hN kk
end GKM

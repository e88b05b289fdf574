/-! THE METHODS, 1: leaves -/
section GKV
variable {c : ByteArray} {P : gk_C} {cs : Nat → Option gk_M0} {rt : Option FieldType} {uf : Nat} {sc : Option Nat} {K : gk_K} {V : gk_V}
variable {L : List (Option Value)} {r : List Value} {n : Nat} {fl : gk_F} {x : gk_X} {y : gk_Y} {u pc pc2 : Nat}
theorem g_nz {P : Prop} [Decidable P] : narrow .boolean (.int (if P then 1 else 0)) = .int (if P then 1 else 0) := by split <;> rfl
theorem g_b0 {P : Prop} [Decidable P] : ((if P then (1 : Int32) else 0) = 0) ↔ ¬ P := by
  by_cases h : P
  · rw [if_pos h]; exact ⟨fun h2 => absurd h2 (by decide), fun h2 => absurd h h2⟩
  · rw [if_neg h]; exact ⟨fun _ => h, fun _ => rfl⟩
def S_X10_root : gk_S := fun as n fl x y K => ∃ (v : Int64) (s : Int), as = [.long v] ∧ (n = 202 ∧ fl = gk_fT) ∧ (v = gL s) ∧ (0 ≤ s) ∧ (s < 17179869184) ∧ (K (.inl (some (.int (gI (gk_rt s))))) n fl x y)
theorem r_X10_root (w : gk_W c P cs (fun _ _ => none) rt uf sc K V) {idx : Nat} {v : Int64} {s : Int} (hd : decode c pc = .ok (.invokestatic idx, 3)) (hp : pc + 3 = pc2) (hc : cs idx = some (0, 9, 1, 0, S_X10_root)) (h8 : Nat.ble (r.map Value.category).sum 8 = true) (hp0 : v = gL s) (hp1 : 0 ≤ s) (hp2 : s < 17179869184) (kk0 : V pc2 L ((.int (gI (gk_rt s))) :: r) 202 gk_fT x y u) : V pc L (.long v :: r) 202 gk_fT x y u :=
  g_calls w hd hp hc (as := [.long v]) rfl h8 rfl rfl rfl (Or.inl rfl) (Or.inl rfl) ⟨v, s, rfl, ⟨rfl, rfl⟩, hp0, hp1, hp2, kk0⟩
theorem nt_X10_root : gk_nt S_X10_root := fun _ _ _ _ _ _ ⟨v, s, e0, e1, e2, e3, e4, e5⟩ => ⟨v, s, e0, e1, e2, e3, e4, e5⟩
def S_X10_quotient : gk_S := fun as n fl x y K => ∃ (a : Int64) (b : Int64), as = [.long a, .long b] ∧ (n = 202 ∧ fl = gk_fT) ∧ (K (.inl (some (.long (if b = 0 then 0 else a / b)))) n fl x y)
theorem r_X10_quotient (w : gk_W c P cs (fun _ _ => none) rt uf sc K V) {idx : Nat} {a : Int64} {b : Int64} (hd : decode c pc = .ok (.invokestatic idx, 3)) (hp : pc + 3 = pc2) (hc : cs idx = some (0, 9, 2, 0, S_X10_quotient)) (h8 : Nat.ble (r.map Value.category).sum 8 = true) (kk0 : V pc2 L ((.long (if b = 0 then 0 else a / b)) :: r) 202 gk_fT x y u) : V pc L (.long b :: .long a :: r) 202 gk_fT x y u :=
  g_calls w hd hp hc (as := [.long a, .long b]) rfl h8 rfl rfl rfl (Or.inl rfl) (Or.inl rfl) ⟨a, b, rfl, ⟨rfl, rfl⟩, kk0⟩
theorem nt_X10_quotient : gk_nt S_X10_quotient := fun _ _ _ _ _ _ ⟨a, b, e0, e1, e2⟩ => ⟨a, b, e0, e1, e2⟩
def S_X10_elementAt : gk_S := fun as n fl x y K => ∃ (j : Nat) (i : Int32) (N : Nat), as = [.ref j, .int i] ∧ (n = 202 ∧ fl = gk_fT) ∧ (gk_kd j = 20) ∧ (gk_ln j = N) ∧ (Nat.ble N 10000 = true) ∧ (K (.inl (some (.int (if i < 0 ∨ nI N ≤ i then 0 else x j i.toNatClampNeg)))) n fl x y)
theorem r_X10_elementAt (w : gk_W c P cs (fun _ _ => none) rt uf sc K V) {idx : Nat} {j : Nat} {i : Int32} {N : Nat} (hd : decode c pc = .ok (.invokestatic idx, 3)) (hp : pc + 3 = pc2) (hc : cs idx = some (0, 9, 2, 0, S_X10_elementAt)) (h8 : Nat.ble (r.map Value.category).sum 8 = true) (hp0 : gk_kd j = 20) (hp1 : gk_ln j = N) (hp2 : Nat.ble N 10000 = true) (kk0 : V pc2 L ((.int (if i < 0 ∨ nI N ≤ i then 0 else x j i.toNatClampNeg)) :: r) 202 gk_fT x y u) : V pc L (.int i :: .ref j :: r) 202 gk_fT x y u :=
  g_calls w hd hp hc (as := [.ref j, .int i]) rfl h8 rfl rfl rfl (Or.inl rfl) (Or.inl rfl) ⟨j, i, N, rfl, ⟨rfl, rfl⟩, hp0, hp1, hp2, kk0⟩
theorem nt_X10_elementAt : gk_nt S_X10_elementAt := fun _ _ _ _ _ _ ⟨j, i, N, e0, e1, e2, e3, e4, e5⟩ => ⟨j, i, N, e0, e1, e2, e3, e4, e5⟩
def S_X10_outward : gk_S := fun as n fl x y K => ∃ (v : Int32) (t : Int), as = [.int v] ∧ (n = 202 ∧ fl = gk_fT) ∧ (v = gI t) ∧ (0 ≤ t) ∧ (t < 100000) ∧ (K (.inl (some (.int (gI (if t % 2 = 0 then -(t / 2) else t / 2))))) n fl x y)
theorem r_X10_outward (w : gk_W c P cs (fun _ _ => none) rt uf sc K V) {idx : Nat} {v : Int32} {t : Int} (hd : decode c pc = .ok (.invokestatic idx, 3)) (hp : pc + 3 = pc2) (hc : cs idx = some (0, 9, 1, 0, S_X10_outward)) (h8 : Nat.ble (r.map Value.category).sum 8 = true) (hp0 : v = gI t) (hp1 : 0 ≤ t) (hp2 : t < 100000) (kk0 : V pc2 L ((.int (gI (if t % 2 = 0 then -(t / 2) else t / 2))) :: r) 202 gk_fT x y u) : V pc L (.int v :: r) 202 gk_fT x y u :=
  g_calls w hd hp hc (as := [.int v]) rfl h8 rfl rfl rfl (Or.inl rfl) (Or.inl rfl) ⟨v, t, rfl, ⟨rfl, rfl⟩, hp0, hp1, hp2, kk0⟩
def S_X10_requireRange : gk_S := fun as n fl x y K => ∃ (v : Int32) (a : Int32) (b : Int32), as = [.int v, .int a, .int b] ∧ (n = 202 ∧ fl = gk_fT) ∧ (a ≤ v ∧ v ≤ b → K (.inl none) n fl x y) ∧ (¬ (a ≤ v ∧ v ≤ b) → K (.inr 0) n fl x y)
theorem r_X10_requireRange (w : gk_W c P cs (fun _ _ => none) rt uf sc K V) {idx : Nat} {v : Int32} {a : Int32} {b : Int32} (hd : decode c pc = .ok (.invokestatic idx, 3)) (hp : pc + 3 = pc2) (hc : cs idx = some (0, 9, 3, 1, S_X10_requireRange)) (h8 : Nat.ble (r.map Value.category).sum 8 = true) (hu : u + 1 ≤ uf) (kk0 : a ≤ v ∧ v ≤ b → V pc2 L r 202 gk_fT x y (u + 1)) (kk1 : ¬ (a ≤ v ∧ v ≤ b) → K (.inr 0) 202 gk_fT x y) : V pc L (.int b :: .int a :: .int v :: r) 202 gk_fT x y u :=
  g_calls w hd hp hc (as := [.int v, .int a, .int b]) rfl h8 rfl rfl rfl (Or.inl rfl) (Or.inr hu) ⟨v, a, b, rfl, ⟨rfl, rfl⟩, kk0, kk1⟩
def S_X10_requireTime : gk_S := fun as n fl x y K => ∃ (v : Int32), as = [.int v] ∧ (n = 202 ∧ fl = gk_fT) ∧ (0 ≤ v ∧ v ≤ 255 → K (.inl none) n fl x y) ∧ (¬ (0 ≤ v ∧ v ≤ 255) → K (.inr 0) n fl x y)
theorem r_X10_requireTime (w : gk_W c P cs (fun _ _ => none) rt uf sc K V) {idx : Nat} {v : Int32} (hd : decode c pc = .ok (.invokestatic idx, 3)) (hp : pc + 3 = pc2) (hc : cs idx = some (0, 9, 1, 1, S_X10_requireTime)) (h8 : Nat.ble (r.map Value.category).sum 8 = true) (hu : u + 1 ≤ uf) (kk0 : 0 ≤ v ∧ v ≤ 255 → V pc2 L r 202 gk_fT x y (u + 1)) (kk1 : ¬ (0 ≤ v ∧ v ≤ 255) → K (.inr 0) 202 gk_fT x y) : V pc L (.int v :: r) 202 gk_fT x y u :=
  g_calls w hd hp hc (as := [.int v]) rfl h8 rfl rfl rfl (Or.inl rfl) (Or.inr hu) ⟨v, rfl, ⟨rfl, rfl⟩, kk0, kk1⟩
def S_X10_requireWindow : gk_S := fun as n fl x y K => ∃ (v : Int32) (b : Int32), as = [.int v, .int b] ∧ (n = 202 ∧ fl = gk_fT) ∧ (0 ≤ v ∧ v ≤ b ∧ b ≤ 255 → K (.inl none) n fl x y) ∧ (¬ (0 ≤ v ∧ v ≤ b ∧ b ≤ 255) → K (.inr 0) n fl x y)
theorem r_X10_requireWindow (w : gk_W c P cs (fun _ _ => none) rt uf sc K V) {idx : Nat} {v : Int32} {b : Int32} (hd : decode c pc = .ok (.invokestatic idx, 3)) (hp : pc + 3 = pc2) (hc : cs idx = some (0, 9, 2, 2, S_X10_requireWindow)) (h8 : Nat.ble (r.map Value.category).sum 8 = true) (hu : u + 2 ≤ uf) (kk0 : 0 ≤ v ∧ v ≤ b ∧ b ≤ 255 → V pc2 L r 202 gk_fT x y (u + 2)) (kk1 : ¬ (0 ≤ v ∧ v ≤ b ∧ b ≤ 255) → K (.inr 0) 202 gk_fT x y) : V pc L (.int b :: .int v :: r) 202 gk_fT x y u :=
  g_calls w hd hp hc (as := [.int v, .int b]) rfl h8 rfl rfl rfl (Or.inl rfl) (Or.inr hu) ⟨v, b, rfl, ⟨rfl, rfl⟩, kk0, kk1⟩
def S_X10_requireNumber : gk_S := fun as n fl x y K => ∃ (v : Int32) (b : Int32), as = [.int v, .int b] ∧ (n = 202 ∧ fl = gk_fT) ∧ (0 ≤ v ∧ v < b → K (.inl none) n fl x y) ∧ (¬ (0 ≤ v ∧ v < b) → K (.inr 2) n fl x y)
theorem r_X10_requireNumber (w : gk_W c P cs (fun _ _ => none) rt uf sc K V) {idx : Nat} {v : Int32} {b : Int32} (hd : decode c pc = .ok (.invokestatic idx, 3)) (hp : pc + 3 = pc2) (hc : cs idx = some (0, 9, 2, 1, S_X10_requireNumber)) (h8 : Nat.ble (r.map Value.category).sum 8 = true) (hu : u + 1 ≤ uf) (kk0 : 0 ≤ v ∧ v < b → V pc2 L r 202 gk_fT x y (u + 1)) (kk1 : ¬ (0 ≤ v ∧ v < b) → K (.inr 2) 202 gk_fT x y) : V pc L (.int b :: .int v :: r) 202 gk_fT x y u :=
  g_calls w hd hp hc (as := [.int v, .int b]) rfl h8 rfl rfl rfl (Or.inl rfl) (Or.inr hu) ⟨v, b, rfl, ⟨rfl, rfl⟩, kk0, kk1⟩
def S_X10_requireRoom : gk_S := fun as n fl x y K => ∃ (v : Int32), as = [.int v] ∧ (n = 202 ∧ fl = gk_fT) ∧ (¬ v = -1 → K (.inl (some (.int v))) n fl x y) ∧ (v = -1 → K (.inr 1) n fl x y)
theorem r_X10_requireRoom (w : gk_W c P cs (fun _ _ => none) rt uf sc K V) {idx : Nat} {v : Int32} (hd : decode c pc = .ok (.invokestatic idx, 3)) (hp : pc + 3 = pc2) (hc : cs idx = some (0, 9, 1, 1, S_X10_requireRoom)) (h8 : Nat.ble (r.map Value.category).sum 8 = true) (hu : u + 1 ≤ uf) (kk0 : ¬ v = -1 → V pc2 L ((.int v) :: r) 202 gk_fT x y (u + 1)) (kk1 : v = -1 → K (.inr 1) 202 gk_fT x y) : V pc L (.int v :: r) 202 gk_fT x y u :=
  g_calls w hd hp hc (as := [.int v]) rfl h8 rfl rfl rfl (Or.inl rfl) (Or.inr hu) ⟨v, rfl, ⟨rfl, rfl⟩, kk0, kk1⟩
def S_X11_isBetween : gk_S := fun as n fl x y K => ∃ (v : Int32) (a : Int32) (b : Int32), as = [.int v, .int a, .int b] ∧ (n = 202 ∧ fl = gk_fT) ∧ (K (.inl (some (.int (if a ≤ v ∧ v ≤ b then 1 else 0)))) n fl x y)
theorem r_X11_isBetween (w : gk_W c P cs (fun _ _ => none) rt uf sc K V) {idx : Nat} {v : Int32} {a : Int32} {b : Int32} (hd : decode c pc = .ok (.invokestatic idx, 3)) (hp : pc + 3 = pc2) (hc : cs idx = some (0, 10, 3, 0, S_X11_isBetween)) (h8 : Nat.ble (r.map Value.category).sum 8 = true) (kk0 : V pc2 L ((.int (if a ≤ v ∧ v ≤ b then 1 else 0)) :: r) 202 gk_fT x y u) : V pc L (.int b :: .int a :: .int v :: r) 202 gk_fT x y u :=
  g_calls w hd hp hc (as := [.int v, .int a, .int b]) rfl h8 rfl rfl rfl (Or.inl rfl) (Or.inl rfl) ⟨v, a, b, rfl, ⟨rfl, rfl⟩, kk0⟩
def S_X11_isTime : gk_S := fun as n fl x y K => ∃ (v : Int32), as = [.int v] ∧ (n = 202 ∧ fl = gk_fT) ∧ (K (.inl (some (.int (if 0 ≤ v ∧ v ≤ 255 then 1 else 0)))) n fl x y)
theorem r_X11_isTime (w : gk_W c P cs (fun _ _ => none) rt uf sc K V) {idx : Nat} {v : Int32} (hd : decode c pc = .ok (.invokestatic idx, 3)) (hp : pc + 3 = pc2) (hc : cs idx = some (0, 10, 1, 0, S_X11_isTime)) (h8 : Nat.ble (r.map Value.category).sum 8 = true) (kk0 : V pc2 L ((.int (if 0 ≤ v ∧ v ≤ 255 then 1 else 0)) :: r) 202 gk_fT x y u) : V pc L (.int v :: r) 202 gk_fT x y u :=
  g_calls w hd hp hc (as := [.int v]) rfl h8 rfl rfl rfl (Or.inl rfl) (Or.inl rfl) ⟨v, rfl, ⟨rfl, rfl⟩, kk0⟩
def S_X11_isWindow : gk_S := fun as n fl x y K => ∃ (v : Int32) (b : Int32), as = [.int v, .int b] ∧ (n = 202 ∧ fl = gk_fT) ∧ (K (.inl (some (.int (if 0 ≤ v ∧ v ≤ b ∧ b ≤ 255 then 1 else 0)))) n fl x y)
theorem r_X11_isWindow (w : gk_W c P cs (fun _ _ => none) rt uf sc K V) {idx : Nat} {v : Int32} {b : Int32} (hd : decode c pc = .ok (.invokestatic idx, 3)) (hp : pc + 3 = pc2) (hc : cs idx = some (0, 10, 2, 0, S_X11_isWindow)) (h8 : Nat.ble (r.map Value.category).sum 8 = true) (kk0 : V pc2 L ((.int (if 0 ≤ v ∧ v ≤ b ∧ b ≤ 255 then 1 else 0)) :: r) 202 gk_fT x y u) : V pc L (.int b :: .int v :: r) 202 gk_fT x y u :=
  g_calls w hd hp hc (as := [.int v, .int b]) rfl h8 rfl rfl rfl (Or.inl rfl) (Or.inl rfl) ⟨v, b, rfl, ⟨rfl, rfl⟩, kk0⟩
def pX10q : gk_C := (pX10.1, pX10.2.1, pX10.2.2.1, pX10.2.2.2.1, fun _ => none)
theorem pX10q_ok : gk_Pf RX10 pX10q gk_W1 := by
  obtain ⟨a, b, c, -, -⟩ := pX10_ok
  refine ⟨a, b, c, ?_, ?_⟩ <;> (intro _ _ h; cases h)
theorem pX10q_st : ∀ idx q, pX10q.2.2.2.1 idx = some q → q < gk_nS ∧ (gk_sq q).1 = RX10 ∧ (gk_sq q).2.1 = idx := pX10_st
theorem xf_X10q (d : Nat) : gk_Xf RX10 pX10q d := by
  intro _ _ _ _ _ h
  cases h
theorem rt_aux {j : Nat} {r s : Int} (hj : j ≤ 16) (h0 : 0 ≤ r) (h1 : r * r ≤ s) (hs : s < 17179869184) : ∃ p : Int, (2 : Int) ^ j = p ∧ (2 : Int) ^ (j + 1) = 2 * p ∧ (4 : Int) ^ j = p * p ∧ 0 < p ∧ p ≤ 65536 ∧ (r < 131072 ∧ 0 ≤ r * r) ∧ 0 ≤ r * p ∧ r * p ≤ 8589934592 ∧ 0 < p * p ∧ p * p ≤ 4294967296 ∧ (r + p) * (r + p) = r * r + 2 * (r * p) + p * p ∧ (r + 2 * p) * (r + 2 * p) = (r + p + p) * (r + p + p) ∧ (r + p) * p = r * p + p * p := by
  have hp : (0 : Int) < 2 ^ j := Int.pow_pos (by decide)
  have hp2 : (2 : Int) ^ j ≤ 2 ^ 16 := by
    have : (2 : Nat) ^ j ≤ 2 ^ 16 := Nat.pow_le_pow_right (by decide) hj
    exact_mod_cast this
  have hr : r < 131072 := by
    rcases Int.lt_or_le r 131072 with h | h
    · exact h
    · have := Int.mul_le_mul h h (by decide) h0
      omega
  have e4 : (4 : Int) ^ j = 2 ^ j * 2 ^ j := by rw [← Int.mul_pow]; rfl
  have e2 : (2 : Int) ^ (j + 1) = 2 * 2 ^ j := by rw [Int.pow_succ, Int.mul_comm]
  have a1 := Int.mul_nonneg h0 (Int.le_of_lt hp)
  have a2 : r * 2 ^ j ≤ 131072 * 65536 := Int.mul_le_mul (by omega) hp2 (by omega) (by decide)
  have a3 := Int.mul_pos hp hp
  have a4 : (2 : Int) ^ j * 2 ^ j ≤ 65536 * 65536 := Int.mul_le_mul hp2 hp2 (by omega) (by decide)
  generalize (2 : Int) ^ j = p at *
  refine ⟨p, rfl, e2, e4, hp, hp2, ⟨hr, Int.mul_nonneg h0 h0⟩, a1, by omega, a3, by omega, ?_, ?_, Int.add_mul r p p⟩
  · rw [Int.add_mul, Int.mul_add, Int.mul_add, Int.mul_comm p r]; omega
  · rw [show r + 2 * p = r + p + p by omega]
def L_X10_root : List (Nat × gk_M0) := []
def cs_X10_root : Nat → Option gk_M0 := gk_lk L_X10_root
theorem m_X10_root : ∀ (as : List Value) (n : Nat) (fl : gk_F) (x : gk_X) (y : gk_Y) (K : gk_K), S_X10_root as n fl x y K → (gk_L0 as).length ≤ 8 ∧ ∀ V : gk_V, gk_W cX10_root pX10q cs_X10_root (fun _ _ => none) (some .int) 0 none K V → V 0 (gk_en as 8) [] n fl x y 0 := by
  intro as n fl x y K hS
  obtain ⟨v, s, rfl, ⟨rfl, rfl⟩, hp0, hp1, hp2, q0⟩ := hS
  refine ⟨Nat.le_of_ble_eq_true rfl, fun V w => ?_⟩
  show V 0 [some (.long v), none, none, none, none, none, none, none] [] 202 gk_fT x y 0
  subst hp0
  have key : ∀ (j : Nat), j ≤ 17 → ∀ (r d e : Int), 0 ≤ r → r * r ≤ s → s < (r + 2 ^ j) * (r + 2 ^ j) → d = (if j = 0 then 0 else 4 ^ (j - 1)) → e = r * 2 ^ j → V 10 [some (.long (gL s)), none, some (.long (gL (s - r * r))), none, some (.long (gL e)), none, some (.long (gL d)), none] [] 202 gk_fT x y 0 := by
    intro j
    induction j with
    | zero =>
      intro _ r d e h0 h1 h2 hd he
      rw [if_pos rfl] at hd
      have he2 : e = r := by rw [he]; exact Int.mul_one r
      subst hd
      subst he2
      refine s_lload (pc2 := 12) w dX10_root_10 rfl rfl ?_
      refine s_lconst (pc2 := 13) (v := 0) w dX10_root_12 rfl rfl ?_
      refine s_lcmp (pc2 := 14) w dX10_root_13 rfl ?_
      refine s_if_eq (pc2 := 17) (tgt := 62) w dX10_root_14 rfl (by decide) (fun _ => ?_) (fun h0 => absurd ((lc_eq _ _).mpr rfl) h0)
      refine s_lload (pc2 := 64) w dX10_root_62 rfl rfl ?_
      refine s_l2i (pc2 := 65) w dX10_root_64 rfl ?_
      refine s_ireturn w dX10_root_65 rfl rfl ?_
      rw [gLI, ← gk_rt_u h0 h1 h2]
      exact q0
    | succ j ih =>
      intro hj r d e h0 h1 h2 hd he
      rw [if_neg (by omega), Nat.add_sub_cancel] at hd
      obtain ⟨p, ep, e2, e4, hp, hp3, ⟨hr, hr0⟩, a1, a2, a3, a4, a5, a6, a7⟩ := rt_aux (by omega : j ≤ 16) h0 h1 hp2
      rw [e2] at h2 he
      rw [e4] at hd
      have he2 : e = 2 * (r * p) := by rw [he]; rw [Int.mul_left_comm]
      have k53 : ∀ (r e : Int), 0 ≤ r → r * r ≤ s → s < (r + p) * (r + p) → e = r * p → V 53 [some (.long (gL s)), none, some (.long (gL (s - r * r))), none, some (.long (gL e)), none, some (.long (gL d)), none] [] 202 gk_fT x y 0 := by
        intro r e h0 h1 h2 he
        refine s_lload (pc2 := 55) w dX10_root_53 rfl rfl ?_
        refine s_iconst (pc2 := 56) (v := 2) w dX10_root_55 rfl rfl ?_
        refine s_lshr (pc2 := 57) w dX10_root_56 rfl ?_
        rw [show (2 : Int32) = nI 2 from rfl, gL_sr d (by omega) (by omega) 2 (by decide)]
        refine s_lstore (pc2 := 59) w dX10_root_57 rfl rfl ?_
        dsimp only [gk_s1, gk_s2, gk_cl]
        refine s_goto (tgt := 10) w dX10_root_59 (by decide) ?_
        refine ih (by omega) r _ e h0 h1 (by rw [ep]; exact h2) ?_ (by rw [ep]; exact he)
        by_cases hz : j = 0
        · subst hz; rw [if_pos rfl, hd]; have : p = 1 := by rw [← ep]; rfl
          subst this; decide
        · rw [if_neg hz, hd, ← e4]; obtain ⟨k, rfl⟩ : ∃ k, j = k + 1 := ⟨j - 1, by omega⟩
          rw [Nat.add_sub_cancel, Int.pow_succ]; exact Int.mul_ediv_cancel _ (by decide)
      refine s_lload (pc2 := 12) w dX10_root_10 rfl rfl ?_
      refine s_lconst (pc2 := 13) (v := 0) w dX10_root_12 rfl rfl ?_
      refine s_lcmp (pc2 := 14) w dX10_root_13 rfl ?_
      refine s_if_eq (pc2 := 17) (tgt := 62) w dX10_root_14 rfl (by decide) (fun h0 => absurd h0 (by intro h9; rw [lc_eq, show (0 : Int64) = gL 0 from rfl, gL_eq ⟨by omega, by omega⟩ ⟨by omega, by omega⟩] at h9; omega)) (fun _ => ?_)
      refine s_lload_n (pc2 := 18) w dX10_root_17 rfl rfl ?_
      refine s_lload (pc2 := 20) w dX10_root_18 rfl rfl ?_
      refine s_lload (pc2 := 22) w dX10_root_20 rfl rfl ?_
      refine s_ladd (pc2 := 23) w dX10_root_22 rfl ?_
      refine s_lcmp (pc2 := 24) w dX10_root_23 rfl ?_
      refine s_if_lt (pc2 := 27) (tgt := 47) w dX10_root_24 rfl (by decide) (fun c24 => ?_) (fun c24 => ?_)
      · refine s_lload (pc2 := 49) w dX10_root_47 rfl rfl ?_
        refine s_iconst (pc2 := 50) (v := 1) w dX10_root_49 rfl rfl ?_
        refine s_lshr (pc2 := 51) w dX10_root_50 rfl ?_
        rw [show (1 : Int32) = nI 1 from rfl, gL_sr e (by omega) (by omega) 1 (by decide)]
        refine s_lstore (pc2 := 53) w dX10_root_51 rfl rfl ?_
        dsimp only [gk_s1, gk_s2, gk_cl]
        refine k53 r _ h0 h1 ?_ ?_
        · rw [gL_add, lc_lt, gL_lt ⟨by omega, by omega⟩ ⟨by omega, by omega⟩] at c24; omega
        · omega
      · refine s_lload_n (pc2 := 28) w dX10_root_27 rfl rfl ?_
        refine s_lload (pc2 := 30) w dX10_root_28 rfl rfl ?_
        refine s_lload (pc2 := 32) w dX10_root_30 rfl rfl ?_
        refine s_ladd (pc2 := 33) w dX10_root_32 rfl ?_
        refine s_lsub (pc2 := 34) w dX10_root_33 rfl ?_
        rw [gL_add, gL_sub]
        refine s_lstore_n (pc2 := 35) (k2 := 2) w dX10_root_34 rfl rfl rfl ?_
        dsimp only [gk_s1, gk_s2, gk_cl]
        refine s_lload (pc2 := 37) w dX10_root_35 rfl rfl ?_
        refine s_iconst (pc2 := 38) (v := 1) w dX10_root_37 rfl rfl ?_
        refine s_lshr (pc2 := 39) w dX10_root_38 rfl ?_
        refine s_lload (pc2 := 41) w dX10_root_39 rfl rfl ?_
        refine s_ladd (pc2 := 42) w dX10_root_41 rfl ?_
        rw [show (1 : Int32) = nI 1 from rfl, gL_sr e (by omega) (by omega) 1 (by decide), gL_add]
        refine s_lstore (pc2 := 44) w dX10_root_42 rfl rfl ?_
        dsimp only [gk_s1, gk_s2, gk_cl]
        refine s_goto (tgt := 53) w dX10_root_44 (by decide) ?_
        rw [gL_add, lc_lt, gL_lt ⟨by omega, by omega⟩ ⟨by omega, by omega⟩] at c24
        have e9 : s - r * r - (e + d) = s - (r + p) * (r + p) := by omega
        rw [e9]
        refine k53 (r + p) _ (by omega) (by omega) (by rw [← a6]; exact h2) ?_
        rw [a7]; omega
  refine s_lload_n (pc2 := 1) w dX10_root_0 rfl rfl ?_
  refine s_lstore_n (pc2 := 2) (k2 := 2) w dX10_root_1 rfl rfl rfl ?_
  dsimp only [gk_s1, gk_s2, gk_cl]
  refine s_lconst (pc2 := 3) (v := 0) w dX10_root_2 rfl rfl ?_
  refine s_lstore (pc2 := 5) w dX10_root_3 rfl rfl ?_
  dsimp only [gk_s1, gk_s2, gk_cl]
  refine s_ldc2_w (pc2 := 8) (v := 4294967296) w dX10_root_5 rfl rfl ?_
  refine s_lstore (pc2 := 10) w dX10_root_8 rfl rfl ?_
  dsimp only [gk_s1, gk_s2, gk_cl]
  have h := key 17 (Nat.le_refl _) 0 4294967296 0 (by decide) (by omega) (by rw [show ((0 : Int) + 2 ^ 17) * (0 + 2 ^ 17) = 17179869184 by decide]; exact hp2) (by decide) (by decide)
  rw [show s - 0 * 0 = s by omega] at h
  exact h
theorem lk_X10_root {l : Launch} (hl : l.stackTraces = false) : ∀ q ∈ L_X10_root, (q.2.1 < 5 → gk_Lk l RX10 gk_W1 0 q.1 q.2.1 q.2.2.1 q.2.2.2.1 q.2.2.2.2.1 q.2.2.2.2.2) := (fun _ h => absurd h List.not_mem_nil)
theorem sp_X10_root : ∀ q ∈ L_X10_root, gk_Sq RX10 gk_W1 0 q := (fun _ h => absurd h List.not_mem_nil)
theorem M_X10_root {l : Launch} (hl : l.stackTraces = false) : gk_Mt l yX10_root (.code yX10_root cX10_root 8 (some .int) :: gk_W1) 0 0 S_X10_root := gk_meth hl gk_cw_ok (by decide +kernel) rfl m_X10_root pX10q_ok (gk_Sp_of sp_X10_root) pX10q_st (fun ci m S h => absurd h (by intro h; cases h)) (xf_X10q 0) (fun idx kd ci mm cost S2 h h5 => lk_X10_root hl _ (gk_lk_mem h) h5)

def L_X10_quotient : List (Nat × gk_M0) := []
def cs_X10_quotient : Nat → Option gk_M0 := gk_lk L_X10_quotient
theorem m_X10_quotient : ∀ (as : List Value) (n : Nat) (fl : gk_F) (x : gk_X) (y : gk_Y) (K : gk_K), S_X10_quotient as n fl x y K → (gk_L0 as).length ≤ 4 ∧ ∀ V : gk_V, gk_W cX10_quotient pX10q cs_X10_quotient (fun _ _ => none) (some .long) 0 none K V → V 0 (gk_en as 4) [] n fl x y 0 := by
  intro as n fl x y K hS
  obtain ⟨a, b, rfl, ⟨rfl, rfl⟩, q0⟩ := hS
  refine ⟨Nat.le_of_ble_eq_true rfl, fun V w => ?_⟩
  show V 0 [some (.long a), none, some (.long b), none] [] 202 gk_fT x y 0
  refine s_lload_n (pc2 := 1) w dX10_quotient_0 rfl rfl ?_
  refine s_lconst (pc2 := 2) (v := 0) w dX10_quotient_1 rfl rfl ?_
  refine s_lcmp (pc2 := 3) w dX10_quotient_2 rfl ?_
  refine s_if_ne (pc2 := 6) (tgt := 10) w dX10_quotient_3 rfl (by decide) (fun c3 => ?_) (fun c3 => ?_)
  · refine s_lload_n (pc2 := 11) w dX10_quotient_10 rfl rfl ?_
    refine s_lload_n (pc2 := 12) w dX10_quotient_11 rfl rfl ?_
    refine s_ldiv (pc2 := 13) w dX10_quotient_12 rfl (fun h => c3 ((lc_eq _ _).mpr h)) ?_
    refine s_lreturn w dX10_quotient_13 rfl ?_
    rw [if_neg (fun h => c3 ((lc_eq _ _).mpr h))] at q0
    exact q0
  · refine s_lconst (pc2 := 7) (v := 0) w dX10_quotient_6 rfl rfl ?_
    refine s_goto (tgt := 13) w dX10_quotient_7 (by decide) ?_
    refine s_lreturn w dX10_quotient_13 rfl ?_
    rw [if_pos ((lc_eq _ _).mp c3)] at q0
    exact q0
theorem lk_X10_quotient {l : Launch} (hl : l.stackTraces = false) : ∀ q ∈ L_X10_quotient, (q.2.1 < 5 → gk_Lk l RX10 gk_W1 0 q.1 q.2.1 q.2.2.1 q.2.2.2.1 q.2.2.2.2.1 q.2.2.2.2.2) := (fun _ h => absurd h List.not_mem_nil)
theorem sp_X10_quotient : ∀ q ∈ L_X10_quotient, gk_Sq RX10 gk_W1 0 q := (fun _ h => absurd h List.not_mem_nil)
theorem M_X10_quotient {l : Launch} (hl : l.stackTraces = false) : gk_Mt l yX10_quotient (.code yX10_quotient cX10_quotient 4 (some .long) :: gk_W1) 0 0 S_X10_quotient := gk_meth hl gk_cw_ok (by decide +kernel) rfl m_X10_quotient pX10q_ok (gk_Sp_of sp_X10_quotient) pX10q_st (fun ci m S h => absurd h (by intro h; cases h)) (xf_X10q 0) (fun idx kd ci mm cost S2 h h5 => lk_X10_quotient hl _ (gk_lk_mem h) h5)

def L_X10_elementAt : List (Nat × gk_M0) := []
def cs_X10_elementAt : Nat → Option gk_M0 := gk_lk L_X10_elementAt
theorem m_X10_elementAt : ∀ (as : List Value) (n : Nat) (fl : gk_F) (x : gk_X) (y : gk_Y) (K : gk_K), S_X10_elementAt as n fl x y K → (gk_L0 as).length ≤ 2 ∧ ∀ V : gk_V, gk_W cX10_elementAt pX10q cs_X10_elementAt (fun _ _ => none) (some .int) 0 none K V → V 0 (gk_en as 2) [] n fl x y 0 := by
  intro as n fl x y K hS
  obtain ⟨j, i, N, rfl, ⟨rfl, rfl⟩, hp0, hp1, hp2, q0⟩ := hS
  refine ⟨Nat.le_of_ble_eq_true rfl, fun V w => ?_⟩
  show V 0 [some (.ref j), some (.int i)] [] 202 gk_fT x y 0
  refine s_iload_n (pc2 := 1) w dX10_elementAt_0 rfl rfl ?_
  have k10 : i < 0 ∨ nI N ≤ i → V 10 [some (.ref j), some (.int i)] [] 202 gk_fT x y 0 := by
    intro h
    refine s_iconst (pc2 := 11) (v := 0) w dX10_elementAt_10 rfl rfl ?_
    refine s_goto (tgt := 17) w dX10_elementAt_11 (by decide) ?_
    refine s_ireturn w dX10_elementAt_17 rfl rfl ?_
    rw [if_pos h] at q0
    exact q0
  refine s_if_lt (pc2 := 4) (tgt := 10) w dX10_elementAt_1 rfl (by decide) (fun c1 => k10 (Or.inl c1)) (fun c1 => ?_)
  refine s_iload_n (pc2 := 5) w dX10_elementAt_4 rfl rfl ?_
  refine s_aload_n (pc2 := 6) w dX10_elementAt_5 rfl rfl ?_
  refine m_alen (pc2 := 7) (kd := 20) (N := nI N) w dX10_elementAt_6 rfl hp0 rfl rfl (by rw [hp1]) ?_
  refine s_ic_lt (pc2 := 10) (tgt := 14) w dX10_elementAt_7 rfl (by decide) (fun c7 => ?_) (fun c7 => k10 (Or.inr (g_nlt.mp c7)))
  refine s_aload_n (pc2 := 15) w dX10_elementAt_14 rfl rfl ?_
  refine s_iload_n (pc2 := 16) w dX10_elementAt_15 rfl rfl ?_
  have hN := Nat.le_of_ble_eq_true hp2
  obtain ⟨a, rfl, ha⟩ := gI_ex i
  rw [show (0 : Int32) = gI 0 from rfl, gI_lt ha ⟨by decide, by decide⟩] at c1
  rw [gI_nI, gI_lt ha ⟨by omega, by omega⟩] at c7
  have hcl : (gI a).toNatClampNeg = a.toNat := by
    show (gI a).toInt.toNat = a.toNat
    rw [gI_of ha]
  refine m_ialoadN (pc2 := 17) (t := a.toNat) w dX10_elementAt_16 rfl hp0 hp1 (by rw [gI_nI, Int.toNat_of_nonneg (by omega)]) (by omega) hp2 ?_
  refine s_ireturn w dX10_elementAt_17 rfl rfl ?_
  rw [if_neg (by rw [show (0 : Int32) = gI 0 from rfl, gI_lt ha ⟨by decide, by decide⟩, gI_nI, gI_le ⟨by omega, by omega⟩ ha]; omega), hcl] at q0
  exact q0
theorem lk_X10_elementAt {l : Launch} (hl : l.stackTraces = false) : ∀ q ∈ L_X10_elementAt, (q.2.1 < 5 → gk_Lk l RX10 gk_W1 0 q.1 q.2.1 q.2.2.1 q.2.2.2.1 q.2.2.2.2.1 q.2.2.2.2.2) := (fun _ h => absurd h List.not_mem_nil)
theorem sp_X10_elementAt : ∀ q ∈ L_X10_elementAt, gk_Sq RX10 gk_W1 0 q := (fun _ h => absurd h List.not_mem_nil)
theorem M_X10_elementAt {l : Launch} (hl : l.stackTraces = false) : gk_Mt l yX10_elementAt (.code yX10_elementAt cX10_elementAt 2 (some .int) :: gk_W1) 0 0 S_X10_elementAt := gk_meth hl gk_cw_ok (by decide +kernel) rfl m_X10_elementAt pX10q_ok (gk_Sp_of sp_X10_elementAt) pX10q_st (fun ci m S h => absurd h (by intro h; cases h)) (xf_X10q 0) (fun idx kd ci mm cost S2 h h5 => lk_X10_elementAt hl _ (gk_lk_mem h) h5)
def L_X10_outward : List (Nat × gk_M0) := []
def cs_X10_outward : Nat → Option gk_M0 := gk_lk L_X10_outward
theorem m_X10_outward : ∀ (as : List Value) (n : Nat) (fl : gk_F) (x : gk_X) (y : gk_Y) (K : gk_K), S_X10_outward as n fl x y K → (gk_L0 as).length ≤ 1 ∧ ∀ V : gk_V, gk_W cX10_outward pX10q cs_X10_outward (fun _ _ => none) (some .int) 0 none K V → V 0 (gk_en as 1) [] n fl x y 0 := by
  intro as n fl x y K hS
  obtain ⟨v, t, rfl, ⟨rfl, rfl⟩, hp0, hp1, hp2, q0⟩ := hS
  refine ⟨Nat.le_of_ble_eq_true rfl, fun V w => ?_⟩
  show V 0 [some (.int v)] [] 202 gk_fT x y 0
  subst hp0
  refine s_iload_n (pc2 := 1) w dX10_outward_0 rfl rfl ?_
  refine s_iconst (pc2 := 2) (v := 2) w dX10_outward_1 rfl rfl ?_
  refine s_irem (pc2 := 3) w dX10_outward_2 rfl (by decide) ?_
  rw [show (2 : Int32) = gI 2 from rfl, gI_rem ⟨by omega, by omega⟩ ⟨by decide, by decide⟩, Int.tmod_eq_emod_of_nonneg hp1]
  refine s_if_ne (pc2 := 6) (tgt := 13) w dX10_outward_3 rfl (by decide) (fun c3 => ?_) (fun c3 => ?_)
  · refine s_iload_n (pc2 := 14) w dX10_outward_13 rfl rfl ?_
    refine s_iconst (pc2 := 15) (v := 2) w dX10_outward_14 rfl rfl ?_
    refine s_idiv (pc2 := 16) w dX10_outward_15 rfl (by decide) ?_
    refine s_ireturn w dX10_outward_16 rfl rfl ?_
    rw [show (0 : Int32) = gI 0 from rfl, gI_eq ⟨by omega, by omega⟩ ⟨by decide, by decide⟩] at c3
    rw [if_neg c3] at q0
    rw [show (2 : Int32) = gI 2 from rfl, gI_div ⟨by omega, by omega⟩ ⟨by decide, by decide⟩, Int.tdiv_eq_ediv_of_nonneg hp1]
    exact q0
  · refine s_iload_n (pc2 := 7) w dX10_outward_6 rfl rfl ?_
    refine s_iconst (pc2 := 8) (v := 2) w dX10_outward_7 rfl rfl ?_
    refine s_idiv (pc2 := 9) w dX10_outward_8 rfl (by decide) ?_
    refine s_ineg (pc2 := 10) w dX10_outward_9 rfl ?_
    refine s_goto (tgt := 16) w dX10_outward_10 (by decide) ?_
    refine s_ireturn w dX10_outward_16 rfl rfl ?_
    rw [show (0 : Int32) = gI 0 from rfl, gI_eq ⟨by omega, by omega⟩ ⟨by decide, by decide⟩] at c3
    rw [if_pos c3] at q0
    rw [show (2 : Int32) = gI 2 from rfl, gI_div ⟨by omega, by omega⟩ ⟨by decide, by decide⟩, Int.tdiv_eq_ediv_of_nonneg hp1, gI_neg]
    exact q0
theorem lk_X10_outward {l : Launch} (hl : l.stackTraces = false) : ∀ q ∈ L_X10_outward, (q.2.1 < 5 → gk_Lk l RX10 gk_W1 0 q.1 q.2.1 q.2.2.1 q.2.2.2.1 q.2.2.2.2.1 q.2.2.2.2.2) := (fun _ h => absurd h List.not_mem_nil)
theorem sp_X10_outward : ∀ q ∈ L_X10_outward, gk_Sq RX10 gk_W1 0 q := (fun _ h => absurd h List.not_mem_nil)
theorem M_X10_outward {l : Launch} (hl : l.stackTraces = false) : gk_Mt l yX10_outward (.code yX10_outward cX10_outward 1 (some .int) :: gk_W1) 0 0 S_X10_outward := gk_meth hl gk_cw_ok (by decide +kernel) rfl m_X10_outward pX10q_ok (gk_Sp_of sp_X10_outward) pX10q_st (fun ci m S h => absurd h (by intro h; cases h)) (xf_X10q 0) (fun idx kd ci mm cost S2 h h5 => lk_X10_outward hl _ (gk_lk_mem h) h5)

def L_X10_requireRange : List (Nat × gk_M0) := []
def cs_X10_requireRange : Nat → Option gk_M0 := gk_lk L_X10_requireRange
theorem m_X10_requireRange : ∀ (as : List Value) (n : Nat) (fl : gk_F) (x : gk_X) (y : gk_Y) (K : gk_K), S_X10_requireRange as n fl x y K → (gk_L0 as).length ≤ 3 ∧ ∀ V : gk_V, gk_W cX10_requireRange pX10 cs_X10_requireRange (fun _ _ => none) none 1 none K V → V 0 (gk_en as 3) [] n fl x y 0 := by
  intro as n fl x y K hS
  obtain ⟨v, a, b, rfl, ⟨rfl, rfl⟩, q0, q1⟩ := hS
  refine ⟨Nat.le_of_ble_eq_true rfl, fun V w => ?_⟩
  show V 0 [some (.int v), some (.int a), some (.int b)] [] 202 gk_fT x y 0
  refine s_iload_n (pc2 := 1) w dX10_requireRange_0 rfl rfl ?_
  refine s_iload_n (pc2 := 2) w dX10_requireRange_1 rfl rfl ?_
  refine s_ic_lt (pc2 := 5) (tgt := 10) w dX10_requireRange_2 rfl (by decide) (fun c2 => ?_) (fun c2 => ?_)
  · refine g_throwW (ek := 0) w dX10_requireRange_10 rfl dX10_requireRange_13 dX10_requireRange_14 rfl dX10_requireRange_17 rfl dX10_requireRange_20 rfl (Nat.le_of_ble_eq_true rfl) ?_
    exact q1 (fun h => absurd c2 (g_nlt.mpr h.1))
  · refine s_iload_n (pc2 := 6) w dX10_requireRange_5 rfl rfl ?_
    refine s_iload_n (pc2 := 7) w dX10_requireRange_6 rfl rfl ?_
    refine s_ic_le (pc2 := 10) (tgt := 21) w dX10_requireRange_7 rfl (by decide) (fun c7 => ?_) (fun c7 => ?_)
    · refine s_return w dX10_requireRange_21 rfl ?_
      exact q0 ⟨g_nlt.mp c2, c7⟩
    · refine g_throwW (ek := 0) w dX10_requireRange_10 rfl dX10_requireRange_13 dX10_requireRange_14 rfl dX10_requireRange_17 rfl dX10_requireRange_20 rfl (Nat.le_of_ble_eq_true rfl) ?_
      exact q1 (fun h => c7 h.2)
theorem lk_X10_requireRange {l : Launch} (hl : l.stackTraces = false) : ∀ q ∈ L_X10_requireRange, (q.2.1 < 5 → gk_Lk l RX10 gk_W1 6 q.1 q.2.1 q.2.2.1 q.2.2.2.1 q.2.2.2.2.1 q.2.2.2.2.2) := (fun _ h => absurd h List.not_mem_nil)
theorem sp_X10_requireRange : ∀ q ∈ L_X10_requireRange, gk_Sq RX10 gk_W1 6 q := (fun _ h => absurd h List.not_mem_nil)
theorem M_X10_requireRange {l : Launch} (hl : l.stackTraces = false) : gk_Mt l yX10_requireRange (.code yX10_requireRange cX10_requireRange 3 none :: gk_W1) 6 1 S_X10_requireRange := gk_meth hl gk_cw_ok (by decide +kernel) rfl m_X10_requireRange pX10_ok (gk_Sp_of sp_X10_requireRange) pX10_st (fun ci m S h => absurd h (by intro h; cases h)) (xf_X10 (by decide)) (fun idx kd ci mm cost S2 h h5 => lk_X10_requireRange hl _ (gk_lk_mem h) h5)

def L_X10_requireTime : List (Nat × gk_M0) := [(55, (0, 9, 3, 1, S_X10_requireRange))]
def cs_X10_requireTime : Nat → Option gk_M0 := gk_lk L_X10_requireTime
theorem m_X10_requireTime : ∀ (as : List Value) (n : Nat) (fl : gk_F) (x : gk_X) (y : gk_Y) (K : gk_K), S_X10_requireTime as n fl x y K → (gk_L0 as).length ≤ 1 ∧ ∀ V : gk_V, gk_W cX10_requireTime pX10 cs_X10_requireTime (fun _ _ => none) none 1 none K V → V 0 (gk_en as 1) [] n fl x y 0 := by
  intro as n fl x y K hS
  obtain ⟨v, rfl, ⟨rfl, rfl⟩, q0, q1⟩ := hS
  refine ⟨Nat.le_of_ble_eq_true rfl, fun V w => ?_⟩
  show V 0 [some (.int v)] [] 202 gk_fT x y 0
  refine s_iload_n (pc2 := 1) w dX10_requireTime_0 rfl rfl ?_
  refine s_iconst (pc2 := 2) (v := 0) w dX10_requireTime_1 rfl rfl ?_
  refine s_sipush (pc2 := 5) (v := 255) w dX10_requireTime_2 rfl rfl ?_
  refine r_X10_requireRange (pc2 := 8) w dX10_requireTime_5 rfl rfl rfl (Nat.le_of_ble_eq_true rfl) (fun h5 => ?_) q1
  refine s_return w dX10_requireTime_8 rfl ?_
  exact q0 h5
theorem lk_X10_requireTime {l : Launch} (hl : l.stackTraces = false) : ∀ q ∈ L_X10_requireTime, (q.2.1 < 5 → gk_Lk l RX10 gk_W1 7 q.1 q.2.1 q.2.2.1 q.2.2.2.1 q.2.2.2.2.1 q.2.2.2.2.2) := (List.forall_mem_cons.mpr ⟨(fun _ => ⟨yX10_requireRange, cX10_requireRange, 3, none, 6, _, M_X10_requireRange hl, ⟨by decide, by decide⟩, ⟨by decide, by decide, by decide +kernel⟩, ⟨(gk_wm 733 (by decide +kernel)), (gk_wm 89 (by decide +kernel))⟩, Or.inl ⟨rfl, rfl, (gk_wm 732 (by decide +kernel)), gk_wm 731 (by decide +kernel)⟩⟩), (fun _ h => absurd h List.not_mem_nil)⟩)
theorem sp_X10_requireTime : ∀ q ∈ L_X10_requireTime, gk_Sq RX10 gk_W1 7 q := (List.forall_mem_cons.mpr ⟨⟨fun h => absurd h (by decide), fun h => absurd h (by decide), fun h => absurd h (by decide), fun h => absurd h (by decide), fun h => absurd h (by decide), fun h => absurd h (by decide)⟩, (fun _ h => absurd h List.not_mem_nil)⟩)
theorem M_X10_requireTime {l : Launch} (hl : l.stackTraces = false) : gk_Mt l yX10_requireTime (.code yX10_requireTime cX10_requireTime 1 none :: gk_W1) 7 1 S_X10_requireTime := gk_meth hl gk_cw_ok (by decide +kernel) rfl m_X10_requireTime pX10_ok (gk_Sp_of sp_X10_requireTime) pX10_st (fun ci m S h => absurd h (by intro h; cases h)) (xf_X10 (by decide)) (fun idx kd ci mm cost S2 h h5 => lk_X10_requireTime hl _ (gk_lk_mem h) h5)

def L_X10_requireWindow : List (Nat × gk_M0) := [(55, (0, 9, 3, 1, S_X10_requireRange)), (137, (0, 9, 1, 1, S_X10_requireTime))]
def cs_X10_requireWindow : Nat → Option gk_M0 := gk_lk L_X10_requireWindow
theorem m_X10_requireWindow : ∀ (as : List Value) (n : Nat) (fl : gk_F) (x : gk_X) (y : gk_Y) (K : gk_K), S_X10_requireWindow as n fl x y K → (gk_L0 as).length ≤ 2 ∧ ∀ V : gk_V, gk_W cX10_requireWindow pX10 cs_X10_requireWindow (fun _ _ => none) none 2 none K V → V 0 (gk_en as 2) [] n fl x y 0 := by
  intro as n fl x y K hS
  obtain ⟨v, b, rfl, ⟨rfl, rfl⟩, q0, q1⟩ := hS
  refine ⟨Nat.le_of_ble_eq_true rfl, fun V w => ?_⟩
  show V 0 [some (.int v), some (.int b)] [] 202 gk_fT x y 0
  refine s_iload_n (pc2 := 1) w dX10_requireWindow_0 rfl rfl ?_
  refine r_X10_requireTime (pc2 := 4) w dX10_requireWindow_1 rfl rfl rfl (Nat.le_of_ble_eq_true rfl) (fun h1 => ?_) (fun h => q1 (fun h2 => h ⟨h2.1, Int32.le_trans h2.2.1 h2.2.2⟩))
  refine s_iload_n (pc2 := 5) w dX10_requireWindow_4 rfl rfl ?_
  refine s_iload_n (pc2 := 6) w dX10_requireWindow_5 rfl rfl ?_
  refine s_sipush (pc2 := 9) (v := 255) w dX10_requireWindow_6 rfl rfl ?_
  refine r_X10_requireRange (pc2 := 12) w dX10_requireWindow_9 rfl rfl rfl (Nat.le_of_ble_eq_true rfl) (fun h9 => ?_) (fun h => q1 (fun h2 => h h2.2))
  refine s_return w dX10_requireWindow_12 rfl ?_
  exact q0 ⟨h1.1, h9.1, h9.2⟩
theorem lk_X10_requireWindow {l : Launch} (hl : l.stackTraces = false) : ∀ q ∈ L_X10_requireWindow, (q.2.1 < 5 → gk_Lk l RX10 gk_W1 8 q.1 q.2.1 q.2.2.1 q.2.2.2.1 q.2.2.2.2.1 q.2.2.2.2.2) := (List.forall_mem_cons.mpr ⟨(fun _ => ⟨yX10_requireRange, cX10_requireRange, 3, none, 6, _, M_X10_requireRange hl, ⟨by decide, by decide⟩, ⟨by decide, by decide, by decide +kernel⟩, ⟨(gk_wm 733 (by decide +kernel)), (gk_wm 89 (by decide +kernel))⟩, Or.inl ⟨rfl, rfl, (gk_wm 732 (by decide +kernel)), gk_wm 731 (by decide +kernel)⟩⟩), (List.forall_mem_cons.mpr ⟨(fun _ => ⟨yX10_requireTime, cX10_requireTime, 1, none, 7, _, M_X10_requireTime hl, ⟨by decide, by decide⟩, ⟨by decide, by decide, by decide +kernel⟩, ⟨(gk_wm 920 (by decide +kernel)), (gk_wm 89 (by decide +kernel))⟩, Or.inl ⟨rfl, rfl, (gk_wm 919 (by decide +kernel)), gk_wm 918 (by decide +kernel)⟩⟩), (fun _ h => absurd h List.not_mem_nil)⟩)⟩)
theorem sp_X10_requireWindow : ∀ q ∈ L_X10_requireWindow, gk_Sq RX10 gk_W1 8 q := (List.forall_mem_cons.mpr ⟨⟨fun h => absurd h (by decide), fun h => absurd h (by decide), fun h => absurd h (by decide), fun h => absurd h (by decide), fun h => absurd h (by decide), fun h => absurd h (by decide)⟩, (List.forall_mem_cons.mpr ⟨⟨fun h => absurd h (by decide), fun h => absurd h (by decide), fun h => absurd h (by decide), fun h => absurd h (by decide), fun h => absurd h (by decide), fun h => absurd h (by decide)⟩, (fun _ h => absurd h List.not_mem_nil)⟩)⟩)
theorem M_X10_requireWindow {l : Launch} (hl : l.stackTraces = false) : gk_Mt l yX10_requireWindow (.code yX10_requireWindow cX10_requireWindow 2 none :: gk_W1) 8 2 S_X10_requireWindow := gk_meth hl gk_cw_ok (by decide +kernel) rfl m_X10_requireWindow pX10_ok (gk_Sp_of sp_X10_requireWindow) pX10_st (fun ci m S h => absurd h (by intro h; cases h)) (xf_X10 (by decide)) (fun idx kd ci mm cost S2 h h5 => lk_X10_requireWindow hl _ (gk_lk_mem h) h5)

def L_X10_requireNumber : List (Nat × gk_M0) := []
def cs_X10_requireNumber : Nat → Option gk_M0 := gk_lk L_X10_requireNumber
theorem m_X10_requireNumber : ∀ (as : List Value) (n : Nat) (fl : gk_F) (x : gk_X) (y : gk_Y) (K : gk_K), S_X10_requireNumber as n fl x y K → (gk_L0 as).length ≤ 2 ∧ ∀ V : gk_V, gk_W cX10_requireNumber pX10 cs_X10_requireNumber (fun _ _ => none) none 1 none K V → V 0 (gk_en as 2) [] n fl x y 0 := by
  intro as n fl x y K hS
  obtain ⟨v, b, rfl, ⟨rfl, rfl⟩, q0, q1⟩ := hS
  refine ⟨Nat.le_of_ble_eq_true rfl, fun V w => ?_⟩
  show V 0 [some (.int v), some (.int b)] [] 202 gk_fT x y 0
  refine s_iload_n (pc2 := 1) w dX10_requireNumber_0 rfl rfl ?_
  refine s_if_lt (pc2 := 4) (tgt := 9) w dX10_requireNumber_1 rfl (by decide) (fun c1 => ?_) (fun c1 => ?_)
  · refine g_throwW (ek := 2) w dX10_requireNumber_9 rfl dX10_requireNumber_12 dX10_requireNumber_13 rfl dX10_requireNumber_16 rfl dX10_requireNumber_19 rfl (Nat.le_of_ble_eq_true rfl) ?_
    exact q1 (fun h => absurd c1 (g_nlt.mpr h.1))
  · refine s_iload_n (pc2 := 5) w dX10_requireNumber_4 rfl rfl ?_
    refine s_iload_n (pc2 := 6) w dX10_requireNumber_5 rfl rfl ?_
    refine s_ic_lt (pc2 := 9) (tgt := 20) w dX10_requireNumber_6 rfl (by decide) (fun c6 => ?_) (fun c6 => ?_)
    · refine s_return w dX10_requireNumber_20 rfl ?_
      exact q0 ⟨g_nlt.mp c1, c6⟩
    · refine g_throwW (ek := 2) w dX10_requireNumber_9 rfl dX10_requireNumber_12 dX10_requireNumber_13 rfl dX10_requireNumber_16 rfl dX10_requireNumber_19 rfl (Nat.le_of_ble_eq_true rfl) ?_
      exact q1 (fun h => c6 h.2)
theorem lk_X10_requireNumber {l : Launch} (hl : l.stackTraces = false) : ∀ q ∈ L_X10_requireNumber, (q.2.1 < 5 → gk_Lk l RX10 gk_W1 6 q.1 q.2.1 q.2.2.1 q.2.2.2.1 q.2.2.2.2.1 q.2.2.2.2.2) := (fun _ h => absurd h List.not_mem_nil)
theorem sp_X10_requireNumber : ∀ q ∈ L_X10_requireNumber, gk_Sq RX10 gk_W1 6 q := (fun _ h => absurd h List.not_mem_nil)
theorem M_X10_requireNumber {l : Launch} (hl : l.stackTraces = false) : gk_Mt l yX10_requireNumber (.code yX10_requireNumber cX10_requireNumber 2 none :: gk_W1) 6 1 S_X10_requireNumber := gk_meth hl gk_cw_ok (by decide +kernel) rfl m_X10_requireNumber pX10_ok (gk_Sp_of sp_X10_requireNumber) pX10_st (fun ci m S h => absurd h (by intro h; cases h)) (xf_X10 (by decide)) (fun idx kd ci mm cost S2 h h5 => lk_X10_requireNumber hl _ (gk_lk_mem h) h5)

def L_X10_requireRoom : List (Nat × gk_M0) := []
def cs_X10_requireRoom : Nat → Option gk_M0 := gk_lk L_X10_requireRoom
theorem m_X10_requireRoom : ∀ (as : List Value) (n : Nat) (fl : gk_F) (x : gk_X) (y : gk_Y) (K : gk_K), S_X10_requireRoom as n fl x y K → (gk_L0 as).length ≤ 1 ∧ ∀ V : gk_V, gk_W cX10_requireRoom pX10 cs_X10_requireRoom (fun _ _ => none) (some .int) 1 none K V → V 0 (gk_en as 1) [] n fl x y 0 := by
  intro as n fl x y K hS
  obtain ⟨v, rfl, ⟨rfl, rfl⟩, q0, q1⟩ := hS
  refine ⟨Nat.le_of_ble_eq_true rfl, fun V w => ?_⟩
  show V 0 [some (.int v)] [] 202 gk_fT x y 0
  refine s_iload_n (pc2 := 1) w dX10_requireRoom_0 rfl rfl ?_
  refine s_iconst (pc2 := 2) (v := (-1)) w dX10_requireRoom_1 rfl rfl ?_
  refine s_ic_ne (pc2 := 5) (tgt := 16) w dX10_requireRoom_2 rfl (by decide) (fun c2 => ?_) (fun c2 => ?_)
  · refine s_iload_n (pc2 := 17) w dX10_requireRoom_16 rfl rfl ?_
    refine s_ireturn w dX10_requireRoom_17 rfl rfl ?_
    exact q0 c2
  · refine g_throwW (ek := 1) w dX10_requireRoom_5 rfl dX10_requireRoom_8 dX10_requireRoom_9 rfl dX10_requireRoom_12 rfl dX10_requireRoom_15 rfl (Nat.le_of_ble_eq_true rfl) ?_
    exact q1 c2
theorem lk_X10_requireRoom {l : Launch} (hl : l.stackTraces = false) : ∀ q ∈ L_X10_requireRoom, (q.2.1 < 5 → gk_Lk l RX10 gk_W1 6 q.1 q.2.1 q.2.2.1 q.2.2.2.1 q.2.2.2.2.1 q.2.2.2.2.2) := (fun _ h => absurd h List.not_mem_nil)
theorem sp_X10_requireRoom : ∀ q ∈ L_X10_requireRoom, gk_Sq RX10 gk_W1 6 q := (fun _ h => absurd h List.not_mem_nil)
theorem M_X10_requireRoom {l : Launch} (hl : l.stackTraces = false) : gk_Mt l yX10_requireRoom (.code yX10_requireRoom cX10_requireRoom 1 (some .int) :: gk_W1) 6 1 S_X10_requireRoom := gk_meth hl gk_cw_ok (by decide +kernel) rfl m_X10_requireRoom pX10_ok (gk_Sp_of sp_X10_requireRoom) pX10_st (fun ci m S h => absurd h (by intro h; cases h)) (xf_X10 (by decide)) (fun idx kd ci mm cost S2 h h5 => lk_X10_requireRoom hl _ (gk_lk_mem h) h5)

def L_X11_isBetween : List (Nat × gk_M0) := []
def cs_X11_isBetween : Nat → Option gk_M0 := gk_lk L_X11_isBetween
theorem m_X11_isBetween : ∀ (as : List Value) (n : Nat) (fl : gk_F) (x : gk_X) (y : gk_Y) (K : gk_K), S_X11_isBetween as n fl x y K → (gk_L0 as).length ≤ 3 ∧ ∀ V : gk_V, gk_W cX11_isBetween pX11 cs_X11_isBetween (fun _ _ => none) (some .boolean) 0 none K V → V 0 (gk_en as 3) [] n fl x y 0 := by
  intro as n fl x y K hS
  obtain ⟨v, a, b, rfl, ⟨rfl, rfl⟩, q0⟩ := hS
  refine ⟨Nat.le_of_ble_eq_true rfl, fun V w => ?_⟩
  show V 0 [some (.int v), some (.int a), some (.int b)] [] 202 gk_fT x y 0
  refine s_iload_n (pc2 := 1) w dX11_isBetween_0 rfl rfl ?_
  refine s_iload_n (pc2 := 2) w dX11_isBetween_1 rfl rfl ?_
  refine s_ic_lt (pc2 := 5) (tgt := 14) w dX11_isBetween_2 rfl (by decide) (fun c2 => ?_) (fun c2 => ?_)
  · refine s_iconst (pc2 := 15) (v := 0) w dX11_isBetween_14 rfl rfl ?_
    refine s_ireturn w dX11_isBetween_15 rfl (by first | rfl | decide) ?_
    rw [if_neg (fun h => absurd c2 (g_nlt.mpr h.1))] at q0
    exact q0
  · refine s_iload_n (pc2 := 6) w dX11_isBetween_5 rfl rfl ?_
    refine s_iload_n (pc2 := 7) w dX11_isBetween_6 rfl rfl ?_
    refine s_ic_gt (pc2 := 10) (tgt := 14) w dX11_isBetween_7 rfl (by decide) (fun c7 => ?_) (fun c7 => ?_)
    · refine s_iconst (pc2 := 15) (v := 0) w dX11_isBetween_14 rfl rfl ?_
      refine s_ireturn w dX11_isBetween_15 rfl (by first | rfl | decide) ?_
      rw [if_neg (fun h => absurd c7 (g_nlt.mpr h.2))] at q0
      exact q0
    · refine s_iconst (pc2 := 11) (v := 1) w dX11_isBetween_10 rfl rfl ?_
      refine s_goto (tgt := 15) w dX11_isBetween_11 (by decide) ?_
      refine s_ireturn w dX11_isBetween_15 rfl (by first | rfl | decide) ?_
      rw [if_pos ⟨g_nlt.mp c2, g_nlt.mp c7⟩] at q0
      exact q0
theorem lk_X11_isBetween {l : Launch} (hl : l.stackTraces = false) : ∀ q ∈ L_X11_isBetween, (q.2.1 < 5 → gk_Lk l RX11 gk_W1 0 q.1 q.2.1 q.2.2.1 q.2.2.2.1 q.2.2.2.2.1 q.2.2.2.2.2) := (fun _ h => absurd h List.not_mem_nil)
theorem sp_X11_isBetween : ∀ q ∈ L_X11_isBetween, gk_Sq RX11 gk_W1 0 q := (fun _ h => absurd h List.not_mem_nil)
theorem M_X11_isBetween {l : Launch} (hl : l.stackTraces = false) : gk_Mt l yX11_isBetween (.code yX11_isBetween cX11_isBetween 3 (some .boolean) :: gk_W1) 0 0 S_X11_isBetween := gk_meth hl gk_cw_ok (by decide +kernel) rfl m_X11_isBetween pX11_ok (gk_Sp_of sp_X11_isBetween) pX11_st (fun ci m S h => absurd h (by intro h; cases h)) (xf_X11 0) (fun idx kd ci mm cost S2 h h5 => lk_X11_isBetween hl _ (gk_lk_mem h) h5)

def L_X11_isTime : List (Nat × gk_M0) := [(52, (0, 10, 3, 0, S_X11_isBetween))]
def cs_X11_isTime : Nat → Option gk_M0 := gk_lk L_X11_isTime
theorem m_X11_isTime : ∀ (as : List Value) (n : Nat) (fl : gk_F) (x : gk_X) (y : gk_Y) (K : gk_K), S_X11_isTime as n fl x y K → (gk_L0 as).length ≤ 1 ∧ ∀ V : gk_V, gk_W cX11_isTime pX11 cs_X11_isTime (fun _ _ => none) (some .boolean) 0 none K V → V 0 (gk_en as 1) [] n fl x y 0 := by
  intro as n fl x y K hS
  obtain ⟨v, rfl, ⟨rfl, rfl⟩, q0⟩ := hS
  refine ⟨Nat.le_of_ble_eq_true rfl, fun V w => ?_⟩
  show V 0 [some (.int v)] [] 202 gk_fT x y 0
  refine s_iload_n (pc2 := 1) w dX11_isTime_0 rfl rfl ?_
  refine s_iconst (pc2 := 2) (v := 0) w dX11_isTime_1 rfl rfl ?_
  refine s_sipush (pc2 := 5) (v := 255) w dX11_isTime_2 rfl rfl ?_
  refine r_X11_isBetween (pc2 := 8) w dX11_isTime_5 rfl rfl rfl ?_
  refine s_ireturn w dX11_isTime_8 rfl g_nz ?_
  exact q0
theorem lk_X11_isTime {l : Launch} (hl : l.stackTraces = false) : ∀ q ∈ L_X11_isTime, (q.2.1 < 5 → gk_Lk l RX11 gk_W1 1 q.1 q.2.1 q.2.2.1 q.2.2.2.1 q.2.2.2.2.1 q.2.2.2.2.2) := (List.forall_mem_cons.mpr ⟨(fun _ => ⟨yX11_isBetween, cX11_isBetween, 3, (some .boolean), 0, _, M_X11_isBetween hl, ⟨by decide, by decide⟩, ⟨by decide, by decide, by decide +kernel⟩, ⟨(gk_wm 1334 (by decide +kernel)), (gk_wm 99 (by decide +kernel))⟩, Or.inl ⟨rfl, rfl, (gk_wm 1333 (by decide +kernel)), gk_wm 1332 (by decide +kernel)⟩⟩), (fun _ h => absurd h List.not_mem_nil)⟩)
theorem sp_X11_isTime : ∀ q ∈ L_X11_isTime, gk_Sq RX11 gk_W1 1 q := (List.forall_mem_cons.mpr ⟨⟨fun h => absurd h (by decide), fun h => absurd h (by decide), fun h => absurd h (by decide), fun h => absurd h (by decide), fun h => absurd h (by decide), fun h => absurd h (by decide)⟩, (fun _ h => absurd h List.not_mem_nil)⟩)
theorem M_X11_isTime {l : Launch} (hl : l.stackTraces = false) : gk_Mt l yX11_isTime (.code yX11_isTime cX11_isTime 1 (some .boolean) :: gk_W1) 1 0 S_X11_isTime := gk_meth hl gk_cw_ok (by decide +kernel) rfl m_X11_isTime pX11_ok (gk_Sp_of sp_X11_isTime) pX11_st (fun ci m S h => absurd h (by intro h; cases h)) (xf_X11 1) (fun idx kd ci mm cost S2 h h5 => lk_X11_isTime hl _ (gk_lk_mem h) h5)

def L_X11_isWindow : List (Nat × gk_M0) := [(52, (0, 10, 3, 0, S_X11_isBetween)), (56, (0, 10, 1, 0, S_X11_isTime))]
def cs_X11_isWindow : Nat → Option gk_M0 := gk_lk L_X11_isWindow
theorem m_X11_isWindow : ∀ (as : List Value) (n : Nat) (fl : gk_F) (x : gk_X) (y : gk_Y) (K : gk_K), S_X11_isWindow as n fl x y K → (gk_L0 as).length ≤ 2 ∧ ∀ V : gk_V, gk_W cX11_isWindow pX11 cs_X11_isWindow (fun _ _ => none) (some .boolean) 0 none K V → V 0 (gk_en as 2) [] n fl x y 0 := by
  intro as n fl x y K hS
  obtain ⟨v, b, rfl, ⟨rfl, rfl⟩, q0⟩ := hS
  refine ⟨Nat.le_of_ble_eq_true rfl, fun V w => ?_⟩
  show V 0 [some (.int v), some (.int b)] [] 202 gk_fT x y 0
  refine s_iload_n (pc2 := 1) w dX11_isWindow_0 rfl rfl ?_
  refine r_X11_isTime (pc2 := 4) w dX11_isWindow_1 rfl rfl rfl ?_
  refine s_if_eq (pc2 := 7) (tgt := 22) w dX11_isWindow_4 rfl (by decide) (fun c4 => ?_) (fun c4 => ?_)
  · refine s_iconst (pc2 := 23) (v := 0) w dX11_isWindow_22 rfl rfl ?_
    refine s_ireturn w dX11_isWindow_23 rfl (by first | rfl | decide) ?_
    rw [g_b0] at c4
    rw [if_neg (fun h => c4 ⟨h.1, Int32.le_trans h.2.1 h.2.2⟩)] at q0
    exact q0
  · refine s_iload_n (pc2 := 8) w dX11_isWindow_7 rfl rfl ?_
    refine s_iload_n (pc2 := 9) w dX11_isWindow_8 rfl rfl ?_
    refine s_sipush (pc2 := 12) (v := 255) w dX11_isWindow_9 rfl rfl ?_
    refine r_X11_isBetween (pc2 := 15) w dX11_isWindow_12 rfl rfl rfl ?_
    refine s_if_eq (pc2 := 18) (tgt := 22) w dX11_isWindow_15 rfl (by decide) (fun c15 => ?_) (fun c15 => ?_)
    · refine s_iconst (pc2 := 23) (v := 0) w dX11_isWindow_22 rfl rfl ?_
      refine s_ireturn w dX11_isWindow_23 rfl (by first | rfl | decide) ?_
      rw [g_b0] at c15
      rw [if_neg (fun h => c15 h.2)] at q0
      exact q0
    · refine s_iconst (pc2 := 19) (v := 1) w dX11_isWindow_18 rfl rfl ?_
      refine s_goto (tgt := 23) w dX11_isWindow_19 (by decide) ?_
      refine s_ireturn w dX11_isWindow_23 rfl (by first | rfl | decide) ?_
      rw [g_b0, Classical.not_not] at c4 c15
      rw [if_pos ⟨c4.1, c15.1, c15.2⟩] at q0
      exact q0
theorem lk_X11_isWindow {l : Launch} (hl : l.stackTraces = false) : ∀ q ∈ L_X11_isWindow, (q.2.1 < 5 → gk_Lk l RX11 gk_W1 2 q.1 q.2.1 q.2.2.1 q.2.2.2.1 q.2.2.2.2.1 q.2.2.2.2.2) := (List.forall_mem_cons.mpr ⟨(fun _ => ⟨yX11_isBetween, cX11_isBetween, 3, (some .boolean), 0, _, M_X11_isBetween hl, ⟨by decide, by decide⟩, ⟨by decide, by decide, by decide +kernel⟩, ⟨(gk_wm 1334 (by decide +kernel)), (gk_wm 99 (by decide +kernel))⟩, Or.inl ⟨rfl, rfl, (gk_wm 1333 (by decide +kernel)), gk_wm 1332 (by decide +kernel)⟩⟩), (List.forall_mem_cons.mpr ⟨(fun _ => ⟨yX11_isTime, cX11_isTime, 1, (some .boolean), 1, _, M_X11_isTime hl, ⟨by decide, by decide⟩, ⟨by decide, by decide, by decide +kernel⟩, ⟨(gk_wm 1432 (by decide +kernel)), (gk_wm 99 (by decide +kernel))⟩, Or.inl ⟨rfl, rfl, (gk_wm 1431 (by decide +kernel)), gk_wm 1430 (by decide +kernel)⟩⟩), (fun _ h => absurd h List.not_mem_nil)⟩)⟩)
theorem sp_X11_isWindow : ∀ q ∈ L_X11_isWindow, gk_Sq RX11 gk_W1 2 q := (List.forall_mem_cons.mpr ⟨⟨fun h => absurd h (by decide), fun h => absurd h (by decide), fun h => absurd h (by decide), fun h => absurd h (by decide), fun h => absurd h (by decide), fun h => absurd h (by decide)⟩, (List.forall_mem_cons.mpr ⟨⟨fun h => absurd h (by decide), fun h => absurd h (by decide), fun h => absurd h (by decide), fun h => absurd h (by decide), fun h => absurd h (by decide), fun h => absurd h (by decide)⟩, (fun _ h => absurd h List.not_mem_nil)⟩)⟩)
theorem M_X11_isWindow {l : Launch} (hl : l.stackTraces = false) : gk_Mt l yX11_isWindow (.code yX11_isWindow cX11_isWindow 2 (some .boolean) :: gk_W1) 2 0 S_X11_isWindow := gk_meth hl gk_cw_ok (by decide +kernel) rfl m_X11_isWindow pX11_ok (gk_Sp_of sp_X11_isWindow) pX11_st (fun ci m S h => absurd h (by intro h; cases h)) (xf_X11 2) (fun idx kd ci mm cost S2 h h5 => lk_X11_isWindow hl _ (gk_lk_mem h) h5)

end GKV

/-! THE METHODS, 1: leaves -/
section GKV
variable {c : ByteArray} {P : gk_C} {cs : Nat → Option gk_M0} {rt : Option FieldType} {uf : Nat} {sc : Option Nat} {K : gk_K} {V : gk_V}
variable {L : List (Option Value)} {r : List Value} {n : Nat} {fl : gk_F} {x : gk_X} {y : gk_Y} {u pc pc2 : Nat}
theorem g_nz {P : Prop} [Decidable P] : narrow .boolean (.int (if P then 1 else 0)) = .int (if P then 1 else 0) := by split <;> rfl
theorem g_b0 {P : Prop} [Decidable P] : ((if P then (1 : Int32) else 0) = 0) ↔ ¬ P := by
  by_cases h : P
  · rw [if_pos h]; exact ⟨fun h2 => absurd h2 (by decide), fun h2 => absurd h h2⟩
  · rw [if_neg h]; exact ⟨fun _ => h, fun _ => rfl⟩
def S_X10_root : gk_S := fun as n fl x y K => ∃ (v : Int64) (s : Int), as = [.long v] ∧ (n = 202 ∧ fl = gk_fT) ∧ (v = gL s) ∧ (0 ≤ s) ∧ (s < 17179869184) ∧ (K (.inl (some (.int (gI (gk_rt s))))) n fl x y)
theorem r_X10_root (w : gk_W c P cs (fun _ _ => none) rt uf sc K V) {idx : Nat} {v : Int64} {s : Int} (hd : decode c pc = .ok (.invokestatic idx, 3)) (hp : pc + 3 = pc2) (hc : cs idx = some (0, 0, 1, 0, S_X10_root)) (h8 : Nat.ble (r.map Value.category).sum 8 = true) (hp0 : v = gL s) (hp1 : 0 ≤ s) (hp2 : s < 17179869184) (kk0 : V pc2 L ((.int (gI (gk_rt s))) :: r) 202 gk_fT x y u) : V pc L (.long v :: r) 202 gk_fT x y u :=
  g_calls w hd hp hc (as := [.long v]) rfl h8 rfl rfl rfl (Or.inl rfl) (Or.inl rfl) ⟨v, s, rfl, ⟨rfl, rfl⟩, hp0, hp1, hp2, kk0⟩
theorem nt_X10_root : gk_nt S_X10_root := fun _ _ _ _ _ _ ⟨v, s, e0, e1, e2, e3, e4, e5⟩ => ⟨v, s, e0, e1, e2, e3, e4, e5⟩
def S_X10_quotient : gk_S := fun as n fl x y K => ∃ (a : Int64) (b : Int64), as = [.long a, .long b] ∧ (n = 202 ∧ fl = gk_fT) ∧ (K (.inl (some (.long (if b = 0 then 0 else a / b)))) n fl x y)
theorem r_X10_quotient (w : gk_W c P cs (fun _ _ => none) rt uf sc K V) {idx : Nat} {a : Int64} {b : Int64} (hd : decode c pc = .ok (.invokestatic idx, 3)) (hp : pc + 3 = pc2) (hc : cs idx = some (0, 0, 2, 0, S_X10_quotient)) (h8 : Nat.ble (r.map Value.category).sum 8 = true) (kk0 : V pc2 L ((.long (if b = 0 then 0 else a / b)) :: r) 202 gk_fT x y u) : V pc L (.long b :: .long a :: r) 202 gk_fT x y u :=
  g_calls w hd hp hc (as := [.long a, .long b]) rfl h8 rfl rfl rfl (Or.inl rfl) (Or.inl rfl) ⟨a, b, rfl, ⟨rfl, rfl⟩, kk0⟩
theorem nt_X10_quotient : gk_nt S_X10_quotient := fun _ _ _ _ _ _ ⟨a, b, e0, e1, e2⟩ => ⟨a, b, e0, e1, e2⟩
def S_X10_elementAt : gk_S := fun as n fl x y K => ∃ (j : Nat) (i : Int32) (N : Nat), as = [.ref j, .int i] ∧ (n = 202 ∧ fl = gk_fT) ∧ (gk_kd j = 20) ∧ (gk_ln j = N) ∧ (Nat.ble N 10000 = true) ∧ (K (.inl (some (.int (if i < 0 ∨ nI N ≤ i then 0 else x j i.toNatClampNeg)))) n fl x y)
theorem r_X10_elementAt (w : gk_W c P cs (fun _ _ => none) rt uf sc K V) {idx : Nat} {j : Nat} {i : Int32} {N : Nat} (hd : decode c pc = .ok (.invokestatic idx, 3)) (hp : pc + 3 = pc2) (hc : cs idx = some (0, 0, 2, 0, S_X10_elementAt)) (h8 : Nat.ble (r.map Value.category).sum 8 = true) (hp0 : gk_kd j = 20) (hp1 : gk_ln j = N) (hp2 : Nat.ble N 10000 = true) (kk0 : V pc2 L ((.int (if i < 0 ∨ nI N ≤ i then 0 else x j i.toNatClampNeg)) :: r) 202 gk_fT x y u) : V pc L (.int i :: .ref j :: r) 202 gk_fT x y u :=
  g_calls w hd hp hc (as := [.ref j, .int i]) rfl h8 rfl rfl rfl (Or.inl rfl) (Or.inl rfl) ⟨j, i, N, rfl, ⟨rfl, rfl⟩, hp0, hp1, hp2, kk0⟩
theorem nt_X10_elementAt : gk_nt S_X10_elementAt := fun _ _ _ _ _ _ ⟨j, i, N, e0, e1, e2, e3, e4, e5⟩ => ⟨j, i, N, e0, e1, e2, e3, e4, e5⟩
def S_X10_outward : gk_S := fun as n fl x y K => ∃ (v : Int32) (t : Int), as = [.int v] ∧ (n = 202 ∧ fl = gk_fT) ∧ (v = gI t) ∧ (0 ≤ t) ∧ (t < 100000) ∧ (K (.inl (some (.int (gI (if t % 2 = 0 then -(t / 2) else t / 2))))) n fl x y)
theorem r_X10_outward (w : gk_W c P cs (fun _ _ => none) rt uf sc K V) {idx : Nat} {v : Int32} {t : Int} (hd : decode c pc = .ok (.invokestatic idx, 3)) (hp : pc + 3 = pc2) (hc : cs idx = some (0, 0, 1, 0, S_X10_outward)) (h8 : Nat.ble (r.map Value.category).sum 8 = true) (hp0 : v = gI t) (hp1 : 0 ≤ t) (hp2 : t < 100000) (kk0 : V pc2 L ((.int (gI (if t % 2 = 0 then -(t / 2) else t / 2))) :: r) 202 gk_fT x y u) : V pc L (.int v :: r) 202 gk_fT x y u :=
  g_calls w hd hp hc (as := [.int v]) rfl h8 rfl rfl rfl (Or.inl rfl) (Or.inl rfl) ⟨v, t, rfl, ⟨rfl, rfl⟩, hp0, hp1, hp2, kk0⟩
def S_X10_requireRange : gk_S := fun as n fl x y K => ∃ (v : Int32) (a : Int32) (b : Int32), as = [.int v, .int a, .int b] ∧ (n = 202 ∧ fl = gk_fT) ∧ (a ≤ v ∧ v ≤ b → K (.inl none) n fl x y) ∧ (¬ (a ≤ v ∧ v ≤ b) → K (.inr 0) n fl x y)
theorem r_X10_requireRange (w : gk_W c P cs (fun _ _ => none) rt uf sc K V) {idx : Nat} {v : Int32} {a : Int32} {b : Int32} (hd : decode c pc = .ok (.invokestatic idx, 3)) (hp : pc + 3 = pc2) (hc : cs idx = some (0, 0, 3, 1, S_X10_requireRange)) (h8 : Nat.ble (r.map Value.category).sum 8 = true) (hu : u + 1 ≤ uf) (kk0 : a ≤ v ∧ v ≤ b → V pc2 L r 202 gk_fT x y (u + 1)) (kk1 : ¬ (a ≤ v ∧ v ≤ b) → K (.inr 0) 202 gk_fT x y) : V pc L (.int b :: .int a :: .int v :: r) 202 gk_fT x y u :=
  g_calls w hd hp hc (as := [.int v, .int a, .int b]) rfl h8 rfl rfl rfl (Or.inl rfl) (Or.inr hu) ⟨v, a, b, rfl, ⟨rfl, rfl⟩, kk0, kk1⟩
def S_X10_requireTime : gk_S := fun as n fl x y K => ∃ (v : Int32), as = [.int v] ∧ (n = 202 ∧ fl = gk_fT) ∧ (0 ≤ v ∧ v ≤ 255 → K (.inl none) n fl x y) ∧ (¬ (0 ≤ v ∧ v ≤ 255) → K (.inr 0) n fl x y)
theorem r_X10_requireTime (w : gk_W c P cs (fun _ _ => none) rt uf sc K V) {idx : Nat} {v : Int32} (hd : decode c pc = .ok (.invokestatic idx, 3)) (hp : pc + 3 = pc2) (hc : cs idx = some (0, 0, 1, 1, S_X10_requireTime)) (h8 : Nat.ble (r.map Value.category).sum 8 = true) (hu : u + 1 ≤ uf) (kk0 : 0 ≤ v ∧ v ≤ 255 → V pc2 L r 202 gk_fT x y (u + 1)) (kk1 : ¬ (0 ≤ v ∧ v ≤ 255) → K (.inr 0) 202 gk_fT x y) : V pc L (.int v :: r) 202 gk_fT x y u :=
  g_calls w hd hp hc (as := [.int v]) rfl h8 rfl rfl rfl (Or.inl rfl) (Or.inr hu) ⟨v, rfl, ⟨rfl, rfl⟩, kk0, kk1⟩
def S_X10_requireWindow : gk_S := fun as n fl x y K => ∃ (v : Int32) (b : Int32), as = [.int v, .int b] ∧ (n = 202 ∧ fl = gk_fT) ∧ (0 ≤ v ∧ v ≤ b ∧ b ≤ 255 → K (.inl none) n fl x y) ∧ (¬ (0 ≤ v ∧ v ≤ b ∧ b ≤ 255) → K (.inr 0) n fl x y)
theorem r_X10_requireWindow (w : gk_W c P cs (fun _ _ => none) rt uf sc K V) {idx : Nat} {v : Int32} {b : Int32} (hd : decode c pc = .ok (.invokestatic idx, 3)) (hp : pc + 3 = pc2) (hc : cs idx = some (0, 0, 2, 2, S_X10_requireWindow)) (h8 : Nat.ble (r.map Value.category).sum 8 = true) (hu : u + 2 ≤ uf) (kk0 : 0 ≤ v ∧ v ≤ b ∧ b ≤ 255 → V pc2 L r 202 gk_fT x y (u + 2)) (kk1 : ¬ (0 ≤ v ∧ v ≤ b ∧ b ≤ 255) → K (.inr 0) 202 gk_fT x y) : V pc L (.int b :: .int v :: r) 202 gk_fT x y u :=
  g_calls w hd hp hc (as := [.int v, .int b]) rfl h8 rfl rfl rfl (Or.inl rfl) (Or.inr hu) ⟨v, b, rfl, ⟨rfl, rfl⟩, kk0, kk1⟩
def S_X10_requireNumber : gk_S := fun as n fl x y K => ∃ (v : Int32) (b : Int32), as = [.int v, .int b] ∧ (n = 202 ∧ fl = gk_fT) ∧ (0 ≤ v ∧ v < b → K (.inl none) n fl x y) ∧ (¬ (0 ≤ v ∧ v < b) → K (.inr 2) n fl x y)
theorem r_X10_requireNumber (w : gk_W c P cs (fun _ _ => none) rt uf sc K V) {idx : Nat} {v : Int32} {b : Int32} (hd : decode c pc = .ok (.invokestatic idx, 3)) (hp : pc + 3 = pc2) (hc : cs idx = some (0, 0, 2, 1, S_X10_requireNumber)) (h8 : Nat.ble (r.map Value.category).sum 8 = true) (hu : u + 1 ≤ uf) (kk0 : 0 ≤ v ∧ v < b → V pc2 L r 202 gk_fT x y (u + 1)) (kk1 : ¬ (0 ≤ v ∧ v < b) → K (.inr 2) 202 gk_fT x y) : V pc L (.int b :: .int v :: r) 202 gk_fT x y u :=
  g_calls w hd hp hc (as := [.int v, .int b]) rfl h8 rfl rfl rfl (Or.inl rfl) (Or.inr hu) ⟨v, b, rfl, ⟨rfl, rfl⟩, kk0, kk1⟩
def S_X10_requireRoom : gk_S := fun as n fl x y K => ∃ (v : Int32), as = [.int v] ∧ (n = 202 ∧ fl = gk_fT) ∧ (¬ v = -1 → K (.inl (some (.int v))) n fl x y) ∧ (v = -1 → K (.inr 1) n fl x y)
theorem r_X10_requireRoom (w : gk_W c P cs (fun _ _ => none) rt uf sc K V) {idx : Nat} {v : Int32} (hd : decode c pc = .ok (.invokestatic idx, 3)) (hp : pc + 3 = pc2) (hc : cs idx = some (0, 0, 1, 1, S_X10_requireRoom)) (h8 : Nat.ble (r.map Value.category).sum 8 = true) (hu : u + 1 ≤ uf) (kk0 : ¬ v = -1 → V pc2 L ((.int v) :: r) 202 gk_fT x y (u + 1)) (kk1 : v = -1 → K (.inr 1) 202 gk_fT x y) : V pc L (.int v :: r) 202 gk_fT x y u :=
  g_calls w hd hp hc (as := [.int v]) rfl h8 rfl rfl rfl (Or.inl rfl) (Or.inr hu) ⟨v, rfl, ⟨rfl, rfl⟩, kk0, kk1⟩
def S_X11_isBetween : gk_S := fun as n fl x y K => ∃ (v : Int32) (a : Int32) (b : Int32), as = [.int v, .int a, .int b] ∧ (n = 202 ∧ fl = gk_fT) ∧ (K (.inl (some (.int (if a ≤ v ∧ v ≤ b then 1 else 0)))) n fl x y)
theorem r_X11_isBetween (w : gk_W c P cs (fun _ _ => none) rt uf sc K V) {idx : Nat} {v : Int32} {a : Int32} {b : Int32} (hd : decode c pc = .ok (.invokestatic idx, 3)) (hp : pc + 3 = pc2) (hc : cs idx = some (0, 0, 3, 0, S_X11_isBetween)) (h8 : Nat.ble (r.map Value.category).sum 8 = true) (kk0 : V pc2 L ((.int (if a ≤ v ∧ v ≤ b then 1 else 0)) :: r) 202 gk_fT x y u) : V pc L (.int b :: .int a :: .int v :: r) 202 gk_fT x y u :=
  g_calls w hd hp hc (as := [.int v, .int a, .int b]) rfl h8 rfl rfl rfl (Or.inl rfl) (Or.inl rfl) ⟨v, a, b, rfl, ⟨rfl, rfl⟩, kk0⟩
def S_X11_isTime : gk_S := fun as n fl x y K => ∃ (v : Int32), as = [.int v] ∧ (n = 202 ∧ fl = gk_fT) ∧ (K (.inl (some (.int (if 0 ≤ v ∧ v ≤ 255 then 1 else 0)))) n fl x y)
theorem r_X11_isTime (w : gk_W c P cs (fun _ _ => none) rt uf sc K V) {idx : Nat} {v : Int32} (hd : decode c pc = .ok (.invokestatic idx, 3)) (hp : pc + 3 = pc2) (hc : cs idx = some (0, 0, 1, 0, S_X11_isTime)) (h8 : Nat.ble (r.map Value.category).sum 8 = true) (kk0 : V pc2 L ((.int (if 0 ≤ v ∧ v ≤ 255 then 1 else 0)) :: r) 202 gk_fT x y u) : V pc L (.int v :: r) 202 gk_fT x y u :=
  g_calls w hd hp hc (as := [.int v]) rfl h8 rfl rfl rfl (Or.inl rfl) (Or.inl rfl) ⟨v, rfl, ⟨rfl, rfl⟩, kk0⟩
def S_X11_isWindow : gk_S := fun as n fl x y K => ∃ (v : Int32) (b : Int32), as = [.int v, .int b] ∧ (n = 202 ∧ fl = gk_fT) ∧ (K (.inl (some (.int (if 0 ≤ v ∧ v ≤ b ∧ b ≤ 255 then 1 else 0)))) n fl x y)
theorem r_X11_isWindow (w : gk_W c P cs (fun _ _ => none) rt uf sc K V) {idx : Nat} {v : Int32} {b : Int32} (hd : decode c pc = .ok (.invokestatic idx, 3)) (hp : pc + 3 = pc2) (hc : cs idx = some (0, 0, 2, 0, S_X11_isWindow)) (h8 : Nat.ble (r.map Value.category).sum 8 = true) (kk0 : V pc2 L ((.int (if 0 ≤ v ∧ v ≤ b ∧ b ≤ 255 then 1 else 0)) :: r) 202 gk_fT x y u) : V pc L (.int b :: .int v :: r) 202 gk_fT x y u :=
  g_calls w hd hp hc (as := [.int v, .int b]) rfl h8 rfl rfl rfl (Or.inl rfl) (Or.inl rfl) ⟨v, b, rfl, ⟨rfl, rfl⟩, kk0⟩
def pX10q : gk_C := (pX10.1, pX10.2.1, pX10.2.2.1, pX10.2.2.2.1, fun _ => none)
theorem pX10q_ok : gk_Pf RX10 pX10q gk_W1 := by
  obtain ⟨a, b, c, -, -⟩ := pX10_ok
  refine ⟨a, b, c, ?_, ?_⟩ <;> (intro _ _ h; cases h)
theorem pX10q_st : ∀ idx q, pX10q.2.2.2.1 idx = some q → q < gk_nS ∧ (gk_sq q).1 = RX10 ∧ (gk_sq q).2.1 = idx := pX10_st
theorem xf_X10q (d : Nat) : gk_Xf RX10 pX10q d := by
  intro _ _ _ _ _ h
  cases h
theorem rt_aux {j : Nat} {r s : Int} (hj : j ≤ 16) (h0 : 0 ≤ r) (h1 : r * r ≤ s) (hs : s < 17179869184) : ∃ p : Int, (2 : Int) ^ j = p ∧ (2 : Int) ^ (j + 1) = 2 * p ∧ (4 : Int) ^ j = p * p ∧ 0 < p ∧ p ≤ 65536 ∧ (r < 131072 ∧ 0 ≤ r * r) ∧ 0 ≤ r * p ∧ r * p ≤ 8589934592 ∧ 0 < p * p ∧ p * p ≤ 4294967296 ∧ (r + p) * (r + p) = r * r + 2 * (r * p) + p * p ∧ (r + 2 * p) * (r + 2 * p) = (r + p + p) * (r + p + p) ∧ (r + p) * p = r * p + p * p := by
  have hp : (0 : Int) < 2 ^ j := Int.pow_pos (by decide)
  have hp2 : (2 : Int) ^ j ≤ 2 ^ 16 := by
    have : (2 : Nat) ^ j ≤ 2 ^ 16 := Nat.pow_le_pow_right (by decide) hj
    exact_mod_cast this
  have hr : r < 131072 := by
    rcases Int.lt_or_le r 131072 with h | h
    · exact h
    · have := Int.mul_le_mul h h (by decide) h0
      omega
  have e4 : (4 : Int) ^ j = 2 ^ j * 2 ^ j := by rw [← Int.mul_pow]; rfl
  have e2 : (2 : Int) ^ (j + 1) = 2 * 2 ^ j := by rw [Int.pow_succ, Int.mul_comm]
  have a1 := Int.mul_nonneg h0 (Int.le_of_lt hp)
  have a2 : r * 2 ^ j ≤ 131072 * 65536 := Int.mul_le_mul (by omega) hp2 (by omega) (by decide)
  have a3 := Int.mul_pos hp hp
  have a4 : (2 : Int) ^ j * 2 ^ j ≤ 65536 * 65536 := Int.mul_le_mul hp2 hp2 (by omega) (by decide)
  generalize (2 : Int) ^ j = p at *
  refine ⟨p, rfl, e2, e4, hp, hp2, ⟨hr, Int.mul_nonneg h0 h0⟩, a1, by omega, a3, by omega, ?_, ?_, Int.add_mul r p p⟩
  · rw [Int.add_mul, Int.mul_add, Int.mul_add, Int.mul_comm p r]; omega
  · rw [show r + 2 * p = r + p + p by omega]
def L_X10_root : List (Nat × gk_M0) := []
def cs_X10_root : Nat → Option gk_M0 := gk_lk L_X10_root
theorem m_X10_root : ∀ (as : List Value) (n : Nat) (fl : gk_F) (x : gk_X) (y : gk_Y) (K : gk_K), S_X10_root as n fl x y K → (gk_L0 as).length ≤ 8 ∧ ∀ V : gk_V, gk_W cX10_root pX10q cs_X10_root (fun _ _ => none) (some .int) 0 none K V → V 0 (gk_en as 8) [] n fl x y 0 := by
  intro as n fl x y K hS
  obtain ⟨v, s, rfl, ⟨rfl, rfl⟩, hp0, hp1, hp2, q0⟩ := hS
  refine ⟨Nat.le_of_ble_eq_true rfl, fun V w => ?_⟩
  show V 0 [some (.long v), none, none, none, none, none, none, none] [] 202 gk_fT x y 0
  subst hp0
  have key : ∀ (j : Nat), j ≤ 17 → ∀ (r d e : Int), 0 ≤ r → r * r ≤ s → s < (r + 2 ^ j) * (r + 2 ^ j) → d = (if j = 0 then 0 else 4 ^ (j - 1)) → e = r * 2 ^ j → V 10 [some (.long (gL s)), none, some (.long (gL (s - r * r))), none, some (.long (gL e)), none, some (.long (gL d)), none] [] 202 gk_fT x y 0 := by
    intro j
    induction j with
    | zero =>
      intro _ r d e h0 h1 h2 hd he
      rw [if_pos rfl] at hd
      have he2 : e = r := by rw [he]; exact Int.mul_one r
      subst hd
      subst he2
      refine s_lload (pc2 := 12) w dX10_root_10 rfl rfl ?_
      refine s_lconst (pc2 := 13) (v := 0) w dX10_root_12 rfl rfl ?_
      refine s_lcmp (pc2 := 14) w dX10_root_13 rfl ?_
      refine s_if_eq (pc2 := 17) (tgt := 62) w dX10_root_14 rfl (by decide) (fun _ => ?_) (fun h0 => absurd ((lc_eq _ _).mpr rfl) h0)
      refine s_lload (pc2 := 64) w dX10_root_62 rfl rfl ?_
      refine s_l2i (pc2 := 65) w dX10_root_64 rfl ?_
      refine s_ireturn w dX10_root_65 rfl rfl ?_
      rw [gLI, ← gk_rt_u h0 h1 h2]
      exact q0
    | succ j ih =>
      intro hj r d e h0 h1 h2 hd he
      rw [if_neg (by omega), Nat.add_sub_cancel] at hd
      obtain ⟨p, ep, e2, e4, hp, hp3, ⟨hr, hr0⟩, a1, a2, a3, a4, a5, a6, a7⟩ := rt_aux (by omega : j ≤ 16) h0 h1 hp2
      rw [e2] at h2 he
      rw [e4] at hd
      have he2 : e = 2 * (r * p) := by rw [he]; rw [Int.mul_left_comm]
      have k53 : ∀ (r e : Int), 0 ≤ r → r * r ≤ s → s < (r + p) * (r + p) → e = r * p → V 53 [some (.long (gL s)), none, some (.long (gL (s - r * r))), none, some (.long (gL e)), none, some (.long (gL d)), none] [] 202 gk_fT x y 0 := by
        intro r e h0 h1 h2 he
        refine s_lload (pc2 := 55) w dX10_root_53 rfl rfl ?_
        refine s_iconst (pc2 := 56) (v := 2) w dX10_root_55 rfl rfl ?_
        refine s_lshr (pc2 := 57) w dX10_root_56 rfl ?_
        rw [show (2 : Int32) = nI 2 from rfl, gL_sr d (by omega) (by omega) 2 (by decide)]
        refine s_lstore (pc2 := 59) w dX10_root_57 rfl rfl ?_
        dsimp only [gk_s1, gk_s2, gk_cl]
        refine s_goto (tgt := 10) w dX10_root_59 (by decide) ?_
        refine ih (by omega) r _ e h0 h1 (by rw [ep]; exact h2) ?_ (by rw [ep]; exact he)
        by_cases hz : j = 0
        · subst hz; rw [if_pos rfl, hd]; have : p = 1 := by rw [← ep]; rfl
          subst this; decide
        · rw [if_neg hz, hd, ← e4]; obtain ⟨k, rfl⟩ : ∃ k, j = k + 1 := ⟨j - 1, by omega⟩
          rw [Nat.add_sub_cancel, Int.pow_succ]; exact Int.mul_ediv_cancel _ (by decide)
      refine s_lload (pc2 := 12) w dX10_root_10 rfl rfl ?_
      refine s_lconst (pc2 := 13) (v := 0) w dX10_root_12 rfl rfl ?_
      refine s_lcmp (pc2 := 14) w dX10_root_13 rfl ?_
      refine s_if_eq (pc2 := 17) (tgt := 62) w dX10_root_14 rfl (by decide) (fun h0 => absurd h0 (by intro h9; rw [lc_eq, show (0 : Int64) = gL 0 from rfl, gL_eq ⟨by omega, by omega⟩ ⟨by omega, by omega⟩] at h9; omega)) (fun _ => ?_)
      refine s_lload_n (pc2 := 18) w dX10_root_17 rfl rfl ?_
      refine s_lload (pc2 := 20) w dX10_root_18 rfl rfl ?_
      refine s_lload (pc2 := 22) w dX10_root_20 rfl rfl ?_
      refine s_ladd (pc2 := 23) w dX10_root_22 rfl ?_
      refine s_lcmp (pc2 := 24) w dX10_root_23 rfl ?_
      refine s_if_lt (pc2 := 27) (tgt := 47) w dX10_root_24 rfl (by decide) (fun c24 => ?_) (fun c24 => ?_)
      · refine s_lload (pc2 := 49) w dX10_root_47 rfl rfl ?_
        refine s_iconst (pc2 := 50) (v := 1) w dX10_root_49 rfl rfl ?_
        refine s_lshr (pc2 := 51) w dX10_root_50 rfl ?_
        rw [show (1 : Int32) = nI 1 from rfl, gL_sr e (by omega) (by omega) 1 (by decide)]
        refine s_lstore (pc2 := 53) w dX10_root_51 rfl rfl ?_
        dsimp only [gk_s1, gk_s2, gk_cl]
        refine k53 r _ h0 h1 ?_ ?_
        · rw [gL_add, lc_lt, gL_lt ⟨by omega, by omega⟩ ⟨by omega, by omega⟩] at c24; omega
        · omega
      · refine s_lload_n (pc2 := 28) w dX10_root_27 rfl rfl ?_
        refine s_lload (pc2 := 30) w dX10_root_28 rfl rfl ?_
        refine s_lload (pc2 := 32) w dX10_root_30 rfl rfl ?_
        refine s_ladd (pc2 := 33) w dX10_root_32 rfl ?_
        refine s_lsub (pc2 := 34) w dX10_root_33 rfl ?_
        rw [gL_add, gL_sub]
        refine s_lstore_n (pc2 := 35) (k2 := 2) w dX10_root_34 rfl rfl rfl ?_
        dsimp only [gk_s1, gk_s2, gk_cl]
        refine s_lload (pc2 := 37) w dX10_root_35 rfl rfl ?_
        refine s_iconst (pc2 := 38) (v := 1) w dX10_root_37 rfl rfl ?_
        refine s_lshr (pc2 := 39) w dX10_root_38 rfl ?_
        refine s_lload (pc2 := 41) w dX10_root_39 rfl rfl ?_
        refine s_ladd (pc2 := 42) w dX10_root_41 rfl ?_
        rw [show (1 : Int32) = nI 1 from rfl, gL_sr e (by omega) (by omega) 1 (by decide), gL_add]
        refine s_lstore (pc2 := 44) w dX10_root_42 rfl rfl ?_
        dsimp only [gk_s1, gk_s2, gk_cl]
        refine s_goto (tgt := 53) w dX10_root_44 (by decide) ?_
        rw [gL_add, lc_lt, gL_lt ⟨by omega, by omega⟩ ⟨by omega, by omega⟩] at c24
        have e9 : s - r * r - (e + d) = s - (r + p) * (r + p) := by omega
        rw [e9]
        refine k53 (r + p) _ (by omega) (by omega) (by rw [← a6]; exact h2) ?_
        rw [a7]; omega
  refine s_lload_n (pc2 := 1) w dX10_root_0 rfl rfl ?_
  refine s_lstore_n (pc2 := 2) (k2 := 2) w dX10_root_1 rfl rfl rfl ?_
  dsimp only [gk_s1, gk_s2, gk_cl]
  refine s_lconst (pc2 := 3) (v := 0) w dX10_root_2 rfl rfl ?_
  refine s_lstore (pc2 := 5) w dX10_root_3 rfl rfl ?_
  dsimp only [gk_s1, gk_s2, gk_cl]
  refine s_ldc2_w (pc2 := 8) (v := 4294967296) w dX10_root_5 rfl rfl ?_
  refine s_lstore (pc2 := 10) w dX10_root_8 rfl rfl ?_
  dsimp only [gk_s1, gk_s2, gk_cl]
  have h := key 17 (Nat.le_refl _) 0 4294967296 0 (by decide) (by omega) (by rw [show ((0 : Int) + 2 ^ 17) * (0 + 2 ^ 17) = 17179869184 by decide]; exact hp2) (by decide) (by decide)
  rw [show s - 0 * 0 = s by omega] at h
  exact h
theorem lk_X10_root {l : Launch} (hl : l.stackTraces = false) : ∀ q ∈ L_X10_root, (q.2.1 < 5 → gk_Lk l RX10 gk_W1 0 q.1 q.2.1 q.2.2.1 q.2.2.2.1 q.2.2.2.2.1 q.2.2.2.2.2) := (fun _ h => absurd h List.not_mem_nil)
theorem sp_X10_root : ∀ q ∈ L_X10_root, gk_Sq RX10 gk_W1 0 q := (fun _ h => absurd h List.not_mem_nil)
theorem M_X10_root {l : Launch} (hl : l.stackTraces = false) : gk_Mt l yX10_root (.code yX10_root cX10_root 8 (some .int) :: gk_W1) 0 0 S_X10_root := gk_meth hl gk_cw_ok (by decide +kernel) rfl m_X10_root pX10q_ok (gk_Sp_of sp_X10_root) pX10q_st (fun ci m S h => absurd h (by intro h; cases h)) (xf_X10q 0) (fun idx kd ci mm cost S2 h h5 => lk_X10_root hl _ (gk_lk_mem h) h5)

end GKV

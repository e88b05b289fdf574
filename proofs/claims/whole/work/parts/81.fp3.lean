/-! FLOATING POINT, 3: what a double stands for -/
def dv (r : UInt64) : Jvm.FP.Core.Datum := Jvm.FP.Core.decode Jvm.FP.Core.b64 r.toNat
theorem de64_can {s : Bool} {c : Nat} {q : Int} (h1 : 4503599627370496 ≤ c) (h2 : c < 9007199254740992) (q1 : -1074 ≤ q) (q2 : q ≤ 971) : Jvm.FP.Core.decode Jvm.FP.Core.b64 (Jvm.FP.Core.encode Jvm.FP.Core.b64 (.fin s c q)) = .fin s c q := by
  unfold Jvm.FP.Core.encode
  have h : ¬ c < Jvm.FP.Core.b64.tails := by rw [t64]; omega
  simp only [if_neg h]
  clear h
  obtain ⟨k, hk⟩ : ∃ k, k = (q - Jvm.FP.Core.b64.qmin).toNat + 1 := ⟨_, rfl⟩
  rw [m64] at hk
  have hk1 : 1 ≤ k := by omega
  have hk2 : k ≤ 2046 := by omega
  obtain ⟨c2, rfl⟩ : ∃ c2, c = c2 + 4503599627370496 := ⟨c - 4503599627370496, by omega⟩
  rw [m64, ← hk]
  have e : -1074 + ((k : Int) - 1) = q := by omega
  unfold Jvm.FP.Core.decode Jvm.FP.Core.assemble Jvm.FP.Core.fieldE Jvm.FP.Core.fieldT Jvm.FP.Core.fieldS
  rw [t64, e64, m64, Nat.add_sub_cancel]
  cases s
  · rw [show (false.toNat * 2048 + k) * 4503599627370496 + c2 = k * 4503599627370496 + c2 from by show (0 * 2048 + k) * 4503599627370496 + c2 = _; omega]
    rw [if_neg (by omega), if_neg (by omega), show (k * 4503599627370496 + c2) / 4503599627370496 / 2048 % 2 = 0 from by omega, show (k * 4503599627370496 + c2) % 4503599627370496 = c2 from by omega, show (k * 4503599627370496 + c2) / 4503599627370496 % 2048 = k from by omega, e, Nat.add_comm]
    rfl
  · rw [show (true.toNat * 2048 + k) * 4503599627370496 + c2 = (2048 + k) * 4503599627370496 + c2 from by show (1 * 2048 + k) * 4503599627370496 + c2 = _; omega]
    rw [if_neg (by omega), if_neg (by omega), show ((2048 + k) * 4503599627370496 + c2) / 4503599627370496 / 2048 % 2 = 1 from by omega, show ((2048 + k) * 4503599627370496 + c2) % 4503599627370496 = c2 from by omega, show ((2048 + k) * 4503599627370496 + c2) / 4503599627370496 % 2048 = k from by omega, e, Nat.add_comm]
    rfl
theorem en64_lt {s : Bool} {c : Nat} {q : Int} (hc : c < 9007199254740992) (hq : q ≤ 971) : Jvm.FP.Core.encode Jvm.FP.Core.b64 (.fin s c q) < 18446744073709551616 := by
  have hs : s.toNat ≤ 1 := by cases s <;> decide
  unfold Jvm.FP.Core.encode
  by_cases h : c < Jvm.FP.Core.b64.tails
  · simp only [if_pos h]
    rw [t64] at h
    unfold Jvm.FP.Core.assemble
    rw [t64, e64]
    omega
  · simp only [if_neg h]
    rw [t64] at h
    unfold Jvm.FP.Core.assemble
    rw [t64, e64, m64]
    omega
theorem en64_inf {s : Bool} : Jvm.FP.Core.encode Jvm.FP.Core.b64 (.inf s) < 18446744073709551616 := by cases s <;> decide +kernel
theorem dv_of {n : Nat} (h : n < 18446744073709551616) : dv (UInt64.ofNat n) = Jvm.FP.Core.decode Jvm.FP.Core.b64 n := by
  unfold dv
  rw [UInt64.toNat_ofNat_of_lt' h]
theorem dv_can {s : Bool} {c : Nat} {q : Int} (h1 : 4503599627370496 ≤ c) (h2 : c < 9007199254740992) (q1 : -1074 ≤ q) (q2 : q ≤ 971) : dv (UInt64.ofNat (Jvm.FP.Core.encode Jvm.FP.Core.b64 (.fin s c q))) = .fin s c q := by
  rw [dv_of (en64_lt h2 q2), de64_can h1 h2 q1 q2]
theorem dv_good {d : Jvm.FP.Core.Datum} (h : fGood Jvm.FP.Core.b64 d) : dv (UInt64.ofNat (Jvm.FP.Core.encode Jvm.FP.Core.b64 d)) ≠ .nan := by
  cases d with
  | nan => exact h.elim
  | inf s =>
    rw [dv_of en64_inf, de64_inf]
    intro e; cases e
  | fin s c q =>
    have hc : c < 9007199254740992 := by rw [← p64]; exact h.1
    have hq : q ≤ 971 := by rw [← x64]; exact h.2
    obtain ⟨q2, e2⟩ := de64_fin (s := s) hc hq
    rw [dv_of (en64_lt hc hq), e2]
    intro e; cases e
theorem lg_b {a n : Nat} (h1 : 2 ^ n ≤ a) (h2 : a < 2 ^ (n + 1)) : a.log2 = n := by
  have h0 : a ≠ 0 := by
    have := Nat.pow_pos (a := 2) (n := n) (by decide)
    omega
  have a1 : n ≤ a.log2 := (Nat.le_log2 h0).mpr h1
  have a2 : a.log2 < n + 1 := (Nat.log2_lt h0).mpr h2
  omega
/-- a whole number above 0 as a double -/
theorem dv_int {i : Int} (h1 : 1 ≤ i) (h2 : i < 9223372036854775808) : ∃ (c : Nat) (q : Int), dv (UInt64.ofNat (Jvm.FP.Core.fromInt Jvm.FP.Core.b64 i)) = .fin false c q ∧ 4503599627370496 ≤ c ∧ c < 9007199254740992 ∧ -53 ≤ q ∧ q ≤ 12 := by
  have hn : i.natAbs ≠ 0 := by omega
  obtain ⟨l1, l2⟩ := ld_hi i.natAbs 1
  have lg : i.natAbs.log2 < 63 := (Nat.log2_lt hn).mpr (by omega)
  have l0 : (1 : Nat).log2 = 0 := by decide
  rw [l0] at l1 l2
  obtain ⟨c, q, e, c1, c2, q1, q2⟩ := rr64 (s := false) (e := 0) hn (by decide : (1 : Nat) ≠ 0) (by omega) (by omega)
  refine ⟨c, q, ?_, c1, c2, by omega, by omega⟩
  unfold Jvm.FP.Core.fromInt Jvm.FP.Core.ofInt
  rw [decide_eq_false (show ¬ i < 0 by omega)]
  show dv (UInt64.ofNat (Jvm.FP.Core.encode Jvm.FP.Core.b64 (Jvm.FP.Core.roundRatio Jvm.FP.Core.b64 false i.natAbs 1 0))) = _
  rw [e]
  exact dv_can c1 c2 (by omega) (by omega)
theorem dv_div {a b : UInt64} {c d : Nat} {q r : Int} (ha : dv a = .fin false c q) (c1 : 4503599627370496 ≤ c) (c2 : c < 9007199254740992) (hb : dv b = .fin false d r) (d1 : 4503599627370496 ≤ d) (d2 : d < 9007199254740992) (h1 : -900 ≤ q - r) (h2 : q - r ≤ 900) : ∃ (c3 : Nat) (q3 : Int), dv (Jvm.FP.Core.ddiv a b) = .fin false c3 q3 ∧ 4503599627370496 ≤ c3 ∧ c3 < 9007199254740992 ∧ q - r - 53 ≤ q3 ∧ q3 ≤ q - r - 51 := by
  obtain ⟨l1, l2⟩ := ld_hi c d
  rw [lg_b (n := 52) c1 c2, lg_b (n := 52) d1 d2] at l1 l2
  obtain ⟨c3, q3, e, e1, e2, e3, e4⟩ := rr64 (s := false) (e := q - r) (show c ≠ 0 by omega) (show d ≠ 0 by omega) (by omega) (by omega)
  refine ⟨c3, q3, ?_, e1, e2, by omega, by omega⟩
  unfold Jvm.FP.Core.ddiv Jvm.FP.Core.div
  unfold dv at ha hb
  rw [ha, hb]
  show dv (UInt64.ofNat (Jvm.FP.Core.encode Jvm.FP.Core.b64 (if d = 0 then _ else Jvm.FP.Core.roundRatio Jvm.FP.Core.b64 false c d (q - r)))) = _
  rw [if_neg (by omega), e]
  exact dv_can e1 e2 (by omega) (by omega)
theorem dv_mul {a b : UInt64} {c d : Nat} {q r : Int} (ha : dv a = .fin false c q) (c1 : 4503599627370496 ≤ c) (c2 : c < 9007199254740992) (hb : dv b = .fin false d r) (d1 : 4503599627370496 ≤ d) (d2 : d < 9007199254740992) (h1 : -900 ≤ q + r) (h2 : q + r ≤ 800) : ∃ (c3 : Nat) (q3 : Int), dv (Jvm.FP.Core.dmul a b) = .fin false c3 q3 ∧ 4503599627370496 ≤ c3 ∧ c3 < 9007199254740992 ∧ q + r + 51 ≤ q3 ∧ q3 ≤ q + r + 54 := by
  have m1 : 4503599627370496 * 4503599627370496 ≤ c * d := Nat.mul_le_mul c1 d1
  have m2 : c * d < 9007199254740992 * 9007199254740992 := Nat.lt_of_le_of_lt (Nat.mul_le_mul_left c (Nat.le_of_lt d2)) (Nat.mul_lt_mul_of_pos_right c2 (by decide))
  obtain ⟨l1, l2⟩ := ld_hi (c * d) 1
  have hn : c * d ≠ 0 := by omega
  have g1 : 104 ≤ (c * d).log2 := (Nat.le_log2 hn).mpr (Nat.le_trans (by decide) m1)
  have g2 : (c * d).log2 < 106 := (Nat.log2_lt hn).mpr (Nat.lt_of_lt_of_le m2 (by decide))
  rw [show (1 : Nat).log2 = 0 from by decide] at l1 l2
  obtain ⟨c3, q3, e, e1, e2, e3, e4⟩ := rr64 (s := false) (e := q + r) hn (by decide : (1 : Nat) ≠ 0) (by omega) (by omega)
  refine ⟨c3, q3, ?_, e1, e2, by omega, by omega⟩
  unfold Jvm.FP.Core.dmul Jvm.FP.Core.mul
  unfold dv at ha hb
  rw [ha, hb]
  show dv (UInt64.ofNat (Jvm.FP.Core.encode Jvm.FP.Core.b64 (Jvm.FP.Core.roundRatio Jvm.FP.Core.b64 false (c * d) 1 (q + r)))) = _
  rw [e]
  exact dv_can e1 e2 (by omega) (by omega)

/-! FLOATING POINT, 2: the leading digit -/
theorem ld_lo {num den : Nat} (hn : num ≠ 0) (hd : den ≠ 0) : den * 2 ^ (Jvm.FP.Core.leading num den).toNat ≤ num * 2 ^ (-(Jvm.FP.Core.leading num den)).toNat := by
  unfold Jvm.FP.Core.leading
  have h1 : 2 ^ num.log2 ≤ num := Nat.log2_self_le hn
  have h2 : den < 2 ^ (den.log2 + 1) := Nat.lt_log2_self
  generalize num.log2 = a at h1 ⊢
  generalize den.log2 = b at h2 ⊢
  show den * 2 ^ (if den * 2 ^ ((a : Int) - (b : Int)).toNat ≤ num * 2 ^ (-((a : Int) - (b : Int))).toNat then (a : Int) - (b : Int) else (a : Int) - (b : Int) - 1).toNat ≤ num * 2 ^ (-(if den * 2 ^ ((a : Int) - (b : Int)).toNat ≤ num * 2 ^ (-((a : Int) - (b : Int))).toNat then (a : Int) - (b : Int) else (a : Int) - (b : Int) - 1)).toNat
  by_cases h : den * 2 ^ ((a : Int) - (b : Int)).toNat ≤ num * 2 ^ (-((a : Int) - (b : Int))).toNat
  · rw [if_pos h]; exact h
  · rw [if_neg h]
    rcases Nat.lt_or_ge b a with q | q
    · rw [show ((a : Int) - (b : Int) - 1).toNat = a - b - 1 from by omega, show (-((a : Int) - (b : Int) - 1)).toNat = 0 from by omega, Nat.pow_zero, Nat.mul_one]
      have e : 2 ^ (b + 1) * 2 ^ (a - b - 1) = 2 ^ a := by rw [← Nat.pow_add]; congr 1; omega
      exact Nat.le_trans (Nat.mul_le_mul_right _ (Nat.le_of_lt h2)) (Nat.le_trans (Nat.le_of_eq e) h1)
    · rw [show ((a : Int) - (b : Int) - 1).toNat = 0 from by omega, show (-((a : Int) - (b : Int) - 1)).toNat = b + 1 - a from by omega, Nat.pow_zero, Nat.mul_one]
      have e : 2 ^ a * 2 ^ (b + 1 - a) = 2 ^ (b + 1) := by rw [← Nat.pow_add]; congr 1; omega
      exact Nat.le_trans (Nat.le_of_lt h2) (Nat.le_trans (Nat.le_of_eq e.symm) (Nat.mul_le_mul_right _ h1))
theorem ld_hi (num den : Nat) : Jvm.FP.Core.leading num den ≤ (num.log2 : Int) - (den.log2 : Int) ∧ (num.log2 : Int) - (den.log2 : Int) - 1 ≤ Jvm.FP.Core.leading num den := by
  unfold Jvm.FP.Core.leading
  generalize (num.log2 : Int) - (den.log2 : Int) = k
  show (if den * 2 ^ k.toNat ≤ num * 2 ^ (-k).toNat then k else k - 1) ≤ k ∧ k - 1 ≤ (if den * 2 ^ k.toNat ≤ num * 2 ^ (-k).toNat then k else k - 1)
  by_cases h : den * 2 ^ k.toNat ≤ num * 2 ^ (-k).toNat
  · rw [if_pos h]; omega
  · rw [if_neg h]; omega
theorem nr_le {a b c : Nat} (hb : b ≠ 0) (h : c * b ≤ a) : c ≤ Jvm.FP.Core.nearest a b := by
  have h1 : c ≤ a / b := (Nat.le_div_iff_mul_le (Nat.pos_of_ne_zero hb)).mpr h
  unfold Jvm.FP.Core.nearest
  by_cases h2 : 2 * (a % b) < b
  · rw [if_pos h2]; exact h1
  · rw [if_neg h2]
    by_cases h3 : b < 2 * (a % b)
    · rw [if_pos h3]; omega
    · rw [if_neg h3]; omega
theorem rr64 {s : Bool} {num den : Nat} {e : Int} (hn : num ≠ 0) (hd : den ≠ 0) (h1 : -1022 ≤ Jvm.FP.Core.leading num den + e) (h2 : Jvm.FP.Core.leading num den + e ≤ 1000) : ∃ (c : Nat) (q : Int), Jvm.FP.Core.roundRatio Jvm.FP.Core.b64 s num den e = .fin s c q ∧ 4503599627370496 ≤ c ∧ c < 9007199254740992 ∧ Jvm.FP.Core.leading num den + e - 52 ≤ q ∧ q ≤ Jvm.FP.Core.leading num den + e - 51 := by
  have h0 := ld_lo hn hd
  have hq : Jvm.FP.Core.quantum Jvm.FP.Core.b64 num den e = Jvm.FP.Core.leading num den + e - 52 := by
    unfold Jvm.FP.Core.quantum
    rw [m64, show ((Jvm.FP.Core.b64.p : Nat) : Int) - 1 = 52 from rfl]
    omega
  unfold Jvm.FP.Core.roundRatio
  rw [if_neg hn, hq]
  generalize Jvm.FP.Core.leading num den = k at h0 h1 h2 ⊢
  have hc : 4503599627370496 ≤ Jvm.FP.Core.nearest (Jvm.FP.Core.unitsNum num e (k + e - 52)) (Jvm.FP.Core.unitsDen den e (k + e - 52)) := by
    unfold Jvm.FP.Core.unitsNum Jvm.FP.Core.unitsDen
    refine nr_le (Nat.mul_ne_zero hd (Nat.ne_of_gt (Nat.pow_pos (by decide)))) ?_
    rw [show e - (k + e - 52) = 52 - k from by omega, show k + e - 52 - e = k - 52 from by omega, show (4503599627370496 : Nat) = 2 ^ 52 from rfl]
    rcases Int.lt_or_le 52 k with q | q
    · rw [show (52 - k).toNat = 0 from by omega, Nat.pow_zero, Nat.mul_one]
      rw [show (-k).toNat = 0 from by omega, Nat.pow_zero, Nat.mul_one] at h0
      refine Nat.le_trans (Nat.le_of_eq ?_) h0
      rw [Nat.mul_comm (2 ^ 52), Nat.mul_assoc, ← Nat.pow_add]
      congr 2
      omega
    · rw [show (k - 52).toNat = 0 from by omega, Nat.pow_zero, Nat.mul_one]
      rcases Int.lt_or_le k 0 with q2 | q2
      · rw [show k.toNat = 0 from by omega, Nat.pow_zero, Nat.mul_one] at h0
        rw [show (52 - k).toNat = (-k).toNat + 52 from by omega, Nat.pow_add, ← Nat.mul_assoc, Nat.mul_comm]
        exact Nat.mul_le_mul_right _ h0
      · rw [show (-k).toNat = 0 from by omega, Nat.pow_zero, Nat.mul_one] at h0
        have e2 : 2 ^ 52 * den = den * 2 ^ k.toNat * 2 ^ (52 - k).toNat := by
          rw [Nat.mul_assoc, ← Nat.pow_add, Nat.mul_comm]
          congr 2
          omega
        rw [e2]
        exact Nat.mul_le_mul_right _ h0
  unfold Jvm.FP.Core.roundAt Jvm.FP.Core.settle
  generalize Jvm.FP.Core.nearest (Jvm.FP.Core.unitsNum num e (k + e - 52)) (Jvm.FP.Core.unitsDen den e (k + e - 52)) = c at hc ⊢
  unfold Jvm.FP.Core.bound
  rw [p64, x64, t64]
  by_cases h : c < 9007199254740992
  · rw [if_pos h, if_pos (by omega)]
    exact ⟨c, _, rfl, hc, h, by omega, by omega⟩
  · rw [if_neg h, if_pos (by omega)]
    exact ⟨_, _, rfl, by decide, by decide, by omega, by omega⟩

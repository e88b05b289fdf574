/-! FLOATING POINT, 1: what is rounded encodes to no NaN -/
def fGood (f : Jvm.FP.Core.Fmt) : Jvm.FP.Core.Datum → Prop
  | .nan => False
  | .inf _ => True
  | .fin _ c q => c < 2 ^ f.p ∧ q ≤ f.qmax
theorem fg_bound {f : Jvm.FP.Core.Fmt} {s : Bool} {c : Nat} {q : Int} (hc : c < 2 ^ f.p) : fGood f (Jvm.FP.Core.bound f s c q) := by
  unfold Jvm.FP.Core.bound
  by_cases h : q ≤ f.qmax
  · rw [if_pos h]; exact ⟨hc, h⟩
  · rw [if_neg h]; exact trivial
theorem fg_settle {f : Jvm.FP.Core.Fmt} {s : Bool} {c : Nat} {q : Int} (ht : f.tails < 2 ^ f.p) : fGood f (Jvm.FP.Core.settle f s c q) := by
  unfold Jvm.FP.Core.settle
  by_cases h : c < 2 ^ f.p
  · rw [if_pos h]; exact fg_bound h
  · rw [if_neg h]; exact fg_bound ht
theorem fg_rr {f : Jvm.FP.Core.Fmt} {s : Bool} {num den : Nat} {e : Int} (ht : f.tails < 2 ^ f.p) (hq : f.qmin ≤ f.qmax) : fGood f (Jvm.FP.Core.roundRatio f s num den e) := by
  unfold Jvm.FP.Core.roundRatio
  by_cases h : num = 0
  · rw [if_pos h]; exact ⟨Nat.pow_pos (by decide), hq⟩
  · rw [if_neg h]; exact fg_settle ht
theorem t64 : Jvm.FP.Core.b64.tails = 4503599627370496 := rfl
theorem e64 : Jvm.FP.Core.b64.exps = 2048 := rfl
theorem p64 : (2 : Nat) ^ Jvm.FP.Core.b64.p = 9007199254740992 := rfl
theorem m64 : Jvm.FP.Core.b64.qmin = -1074 := rfl
theorem x64 : Jvm.FP.Core.b64.qmax = 971 := rfl
theorem fg64 {s : Bool} {num den : Nat} {e : Int} : fGood Jvm.FP.Core.b64 (Jvm.FP.Core.roundRatio Jvm.FP.Core.b64 s num den e) := fg_rr (by rw [t64, p64]; decide) (by rw [m64, x64]; decide)
/-- encoded and decoded again: the sign and the digits stay -/
theorem de64_fin {s : Bool} {c : Nat} {q : Int} (hc : c < 9007199254740992) (hq : q ≤ 971) : ∃ q2, Jvm.FP.Core.decode Jvm.FP.Core.b64 (Jvm.FP.Core.encode Jvm.FP.Core.b64 (.fin s c q)) = .fin s c q2 := by
  unfold Jvm.FP.Core.encode
  by_cases h : c < Jvm.FP.Core.b64.tails
  · simp only [if_pos h]
    rw [t64] at h
    unfold Jvm.FP.Core.decode Jvm.FP.Core.assemble Jvm.FP.Core.fieldE Jvm.FP.Core.fieldT Jvm.FP.Core.fieldS
    rw [t64, e64]
    cases s
    · rw [show (false.toNat * 2048 + 0) * 4503599627370496 + c = c from by show (0 * 2048 + 0) * 4503599627370496 + c = c; omega]
      rw [if_neg (by omega), if_pos (by omega), show c / 4503599627370496 / 2048 % 2 = 0 from by omega, show c % 4503599627370496 = c from by omega]
      exact ⟨_, rfl⟩
    · rw [show (true.toNat * 2048 + 0) * 4503599627370496 + c = 9223372036854775808 + c from by show (1 * 2048 + 0) * 4503599627370496 + c = _; omega]
      rw [if_neg (by omega), if_pos (by omega), show (9223372036854775808 + c) / 4503599627370496 / 2048 % 2 = 1 from by omega, show (9223372036854775808 + c) % 4503599627370496 = c from by omega]
      exact ⟨_, rfl⟩
  · simp only [if_neg h]
    rw [t64] at h
    obtain ⟨k, hk⟩ : ∃ k, k = (q - Jvm.FP.Core.b64.qmin).toNat + 1 := ⟨_, rfl⟩
    rw [m64] at hk
    have hk1 : 1 ≤ k := by omega
    have hk2 : k ≤ 2046 := by omega
    obtain ⟨c2, rfl⟩ : ∃ c2, c = c2 + 4503599627370496 := ⟨c - 4503599627370496, by omega⟩
    rw [m64, ← hk]
    unfold Jvm.FP.Core.decode Jvm.FP.Core.assemble Jvm.FP.Core.fieldE Jvm.FP.Core.fieldT Jvm.FP.Core.fieldS
    rw [t64, e64, Nat.add_sub_cancel]
    cases s
    · rw [show (false.toNat * 2048 + k) * 4503599627370496 + c2 = k * 4503599627370496 + c2 from by show (0 * 2048 + k) * 4503599627370496 + c2 = _; omega]
      rw [if_neg (by omega), if_neg (by omega), show (k * 4503599627370496 + c2) / 4503599627370496 / 2048 % 2 = 0 from by omega, show (k * 4503599627370496 + c2) % 4503599627370496 = c2 from by omega, Nat.add_comm]
      exact ⟨_, rfl⟩
    · rw [show (true.toNat * 2048 + k) * 4503599627370496 + c2 = (2048 + k) * 4503599627370496 + c2 from by show (1 * 2048 + k) * 4503599627370496 + c2 = _; omega]
      rw [if_neg (by omega), if_neg (by omega), show ((2048 + k) * 4503599627370496 + c2) / 4503599627370496 / 2048 % 2 = 1 from by omega, show ((2048 + k) * 4503599627370496 + c2) % 4503599627370496 = c2 from by omega, Nat.add_comm]
      exact ⟨_, rfl⟩
theorem de64_inf {s : Bool} : Jvm.FP.Core.decode Jvm.FP.Core.b64 (Jvm.FP.Core.encode Jvm.FP.Core.b64 (.inf s)) = .inf s := by
  cases s <;> decide +kernel
/-- no NaN: the test of the rules -/
theorem vf64_of {r : UInt64} (h : Jvm.FP.Core.decode Jvm.FP.Core.b64 r.toNat ≠ .nan) : vf_n64 r := by
  unfold vf_n64
  rw [UInt64.le_iff_toNat_le, UInt64.toNat_and]
  rw [show (0x7fffffffffffffff : UInt64).toNat = 2 ^ 63 - 1 from rfl, Nat.and_two_pow_sub_one_eq_mod, show (0x7ff0000000000000 : UInt64).toNat = 9218868437227405312 from rfl]
  rcases Nat.lt_or_ge 9218868437227405312 (r.toNat % 2 ^ 63) with q | q
  · exfalso
    apply h
    unfold Jvm.FP.Core.decode Jvm.FP.Core.fieldE Jvm.FP.Core.fieldT
    rw [t64, e64, if_pos (by omega), if_neg (by omega)]
  · exact q

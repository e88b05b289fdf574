/-! FLOATING POINT, 4: single precision; the two measures -/
theorem t32 : Jvm.FP.Core.b32.tails = 8388608 := rfl
theorem e32 : Jvm.FP.Core.b32.exps = 256 := rfl
theorem p32 : (2 : Nat) ^ Jvm.FP.Core.b32.p = 16777216 := rfl
theorem m32 : Jvm.FP.Core.b32.qmin = -149 := rfl
theorem x32 : Jvm.FP.Core.b32.qmax = 104 := rfl
theorem fg32 {s : Bool} {num den : Nat} {e : Int} : fGood Jvm.FP.Core.b32 (Jvm.FP.Core.roundRatio Jvm.FP.Core.b32 s num den e) := fg_rr (by rw [t32, p32]; decide) (by rw [m32, x32]; decide)
theorem de32_fin {s : Bool} {c : Nat} {q : Int} (hc : c < 16777216) (hq : q ≤ 104) : ∃ q2, Jvm.FP.Core.decode Jvm.FP.Core.b32 (Jvm.FP.Core.encode Jvm.FP.Core.b32 (.fin s c q)) = .fin s c q2 := by
  unfold Jvm.FP.Core.encode
  by_cases h : c < Jvm.FP.Core.b32.tails
  · simp only [if_pos h]
    rw [t32] at h
    unfold Jvm.FP.Core.decode Jvm.FP.Core.assemble Jvm.FP.Core.fieldE Jvm.FP.Core.fieldT Jvm.FP.Core.fieldS
    rw [t32, e32]
    cases s
    · rw [show (false.toNat * 256 + 0) * 8388608 + c = c from by show (0 * 256 + 0) * 8388608 + c = c; omega]
      rw [if_neg (by omega), if_pos (by omega), show c / 8388608 / 256 % 2 = 0 from by omega, show c % 8388608 = c from by omega]
      exact ⟨_, rfl⟩
    · rw [show (true.toNat * 256 + 0) * 8388608 + c = 2147483648 + c from by show (1 * 256 + 0) * 8388608 + c = _; omega]
      rw [if_neg (by omega), if_pos (by omega), show (2147483648 + c) / 8388608 / 256 % 2 = 1 from by omega, show (2147483648 + c) % 8388608 = c from by omega]
      exact ⟨_, rfl⟩
  · simp only [if_neg h]
    rw [t32] at h
    obtain ⟨k, hk⟩ : ∃ k, k = (q - Jvm.FP.Core.b32.qmin).toNat + 1 := ⟨_, rfl⟩
    rw [m32] at hk
    have hk1 : 1 ≤ k := by omega
    have hk2 : k ≤ 254 := by omega
    obtain ⟨c2, rfl⟩ : ∃ c2, c = c2 + 8388608 := ⟨c - 8388608, by omega⟩
    rw [m32, ← hk]
    unfold Jvm.FP.Core.decode Jvm.FP.Core.assemble Jvm.FP.Core.fieldE Jvm.FP.Core.fieldT Jvm.FP.Core.fieldS
    rw [t32, e32, Nat.add_sub_cancel]
    cases s
    · rw [show (false.toNat * 256 + k) * 8388608 + c2 = k * 8388608 + c2 from by show (0 * 256 + k) * 8388608 + c2 = _; omega]
      rw [if_neg (by omega), if_neg (by omega), show (k * 8388608 + c2) / 8388608 / 256 % 2 = 0 from by omega, show (k * 8388608 + c2) % 8388608 = c2 from by omega, Nat.add_comm]
      exact ⟨_, rfl⟩
    · rw [show (true.toNat * 256 + k) * 8388608 + c2 = (256 + k) * 8388608 + c2 from by show (1 * 256 + k) * 8388608 + c2 = _; omega]
      rw [if_neg (by omega), if_neg (by omega), show ((256 + k) * 8388608 + c2) / 8388608 / 256 % 2 = 1 from by omega, show ((256 + k) * 8388608 + c2) % 8388608 = c2 from by omega, Nat.add_comm]
      exact ⟨_, rfl⟩
theorem de32_inf {s : Bool} : Jvm.FP.Core.decode Jvm.FP.Core.b32 (Jvm.FP.Core.encode Jvm.FP.Core.b32 (.inf s)) = .inf s := by
  cases s <;> decide +kernel
theorem vf32_of {r : UInt32} (h : Jvm.FP.Core.decode Jvm.FP.Core.b32 r.toNat ≠ .nan) : vf_n32 r := by
  unfold vf_n32
  rw [UInt32.le_iff_toNat_le, UInt32.toNat_and]
  rw [show (0x7fffffff : UInt32).toNat = 2 ^ 31 - 1 from rfl, Nat.and_two_pow_sub_one_eq_mod, show (0x7f800000 : UInt32).toNat = 2139095040 from rfl]
  rcases Nat.lt_or_ge 2139095040 (r.toNat % 2 ^ 31) with q | q
  · exfalso
    apply h
    unfold Jvm.FP.Core.decode Jvm.FP.Core.fieldE Jvm.FP.Core.fieldT
    rw [t32, e32, if_pos (by omega), if_neg (by omega)]
  · exact q
def svv (r : UInt32) : Jvm.FP.Core.Datum := Jvm.FP.Core.decode Jvm.FP.Core.b32 r.toNat
theorem en32_lt {s : Bool} {c : Nat} {q : Int} (hc : c < 16777216) (hq : q ≤ 104) : Jvm.FP.Core.encode Jvm.FP.Core.b32 (.fin s c q) < 4294967296 := by
  have hs : s.toNat ≤ 1 := by cases s <;> decide
  unfold Jvm.FP.Core.encode
  by_cases h : c < Jvm.FP.Core.b32.tails
  · simp only [if_pos h]
    rw [t32] at h
    unfold Jvm.FP.Core.assemble
    rw [t32, e32]
    omega
  · simp only [if_neg h]
    rw [t32] at h
    unfold Jvm.FP.Core.assemble
    rw [t32, e32, m32]
    omega
theorem en32_inf {s : Bool} : Jvm.FP.Core.encode Jvm.FP.Core.b32 (.inf s) < 4294967296 := by cases s <;> decide +kernel
theorem sv_of {n : Nat} (h : n < 4294967296) : svv (UInt32.ofNat n) = Jvm.FP.Core.decode Jvm.FP.Core.b32 n := by
  unfold svv
  rw [UInt32.toNat_ofNat_of_lt' h]
theorem sv_good {d : Jvm.FP.Core.Datum} (h : fGood Jvm.FP.Core.b32 d) : svv (UInt32.ofNat (Jvm.FP.Core.encode Jvm.FP.Core.b32 d)) ≠ .nan := by
  cases d with
  | nan => exact h.elim
  | inf s =>
    rw [sv_of en32_inf, de32_inf]
    intro e; cases e
  | fin s c q =>
    have hc : c < 16777216 := by rw [← p32]; exact h.1
    have hq : q ≤ 104 := by rw [← x32]; exact h.2
    obtain ⟨q2, e2⟩ := de32_fin (s := s) hc hq
    rw [sv_of (en32_lt hc hq), e2]
    intro e; cases e
theorem dv_0 : dv 0 = .fin false 0 (-1074) := by decide +kernel
theorem i2d_p {N : Int32} (h : 1 ≤ N.toInt) : ∃ (c : Nat) (q : Int), dv (Jvm.FP.Core.i2d N) = .fin false c q ∧ 4503599627370496 ≤ c ∧ c < 9007199254740992 ∧ -53 ≤ q ∧ q ≤ 12 := dv_int h (by have := Int32.toInt_lt N; omega)
theorem l2d_p {N : Int64} (h : 1 ≤ N.toInt) : ∃ (c : Nat) (q : Int), dv (Jvm.FP.Core.l2d N) = .fin false c q ∧ 4503599627370496 ≤ c ∧ c < 9007199254740992 ∧ -53 ≤ q ∧ q ≤ 12 := dv_int h (by have := Int64.toInt_lt N; omega)
/-- nothing over something -/
theorem dv_div0 {a b : UInt64} {d : Nat} {q r : Int} (ha : dv a = .fin false 0 q) (hb : dv b = .fin false d r) (hd : d ≠ 0) : Jvm.FP.Core.ddiv a b = 0 := by
  unfold Jvm.FP.Core.ddiv Jvm.FP.Core.div
  unfold dv at ha hb
  rw [ha, hb]
  show UInt64.ofNat (Jvm.FP.Core.encode Jvm.FP.Core.b64 (if d = 0 then _ else Jvm.FP.Core.roundRatio Jvm.FP.Core.b64 false 0 d (q - r))) = 0
  rw [if_neg hd]
  unfold Jvm.FP.Core.roundRatio
  rw [if_pos rfl]
  decide +kernel
/-- the mean -/
def mP (E : Int64) (N : Int32) : UInt64 := Jvm.FP.ddiv (Jvm.FP.l2d E) (Jvm.FP.i2d N)
theorem mP_0 {N : Int32} (h : 1 ≤ N.toInt) : mP 0 N = 0 := by
  obtain ⟨c, q, e, c1, -⟩ := i2d_p h
  exact dv_div0 (q := -1074) (by decide +kernel) e (by omega)
theorem mP_1 {E : Int64} {N : Int32} (hE : 1 ≤ E.toInt) (h : 1 ≤ N.toInt) : ∃ (c : Nat) (q : Int), dv (mP E N) = .fin false c q ∧ 4503599627370496 ≤ c ∧ c < 9007199254740992 ∧ -120 ≤ q ∧ q ≤ 20 := by
  obtain ⟨c, q, e, c1, c2, c3, c4⟩ := i2d_p h
  obtain ⟨d, r, e2, d1, d2, d3, d4⟩ := l2d_p hE
  obtain ⟨c3, q3, e3, f1, f2, f3, f4⟩ := dv_div e2 d1 d2 e c1 c2 (by omega) (by omega)
  exact ⟨c3, q3, e3, f1, f2, by omega, by omega⟩
theorem mP_n {E : Int64} {N : Int32} (hE : 0 ≤ E.toInt) (h : 1 ≤ N.toInt) : vf_n64 (mP E N) := by
  refine vf64_of ?_
  show dv (mP E N) ≠ .nan
  by_cases e : E = 0
  · rw [e, mP_0 h, dv_0]
    intro h; cases h
  · obtain ⟨c, q, e2, -⟩ := mP_1 (E := E) (by
      have : E.toInt ≠ 0 := fun q => e (Int64.toInt_inj.mp (by rw [q]; rfl))
      omega) h
    rw [e2]
    intro h; cases h

/-! NUMBERS: ints and longs out of Int -/
def gI (a : Int) : Int32 := Int32.ofInt a
def gL (a : Int) : Int64 := Int64.ofInt a
/-- an Int that is an int's; a long's -/
def gR (a : Int) : Prop := -2147483648 ≤ a ∧ a ≤ 2147483647
def gQ (a : Int) : Prop := -9223372036854775808 ≤ a ∧ a ≤ 9223372036854775807
theorem gI_add (a b : Int) : gI a + gI b = gI (a + b) := (Int32.ofInt_add a b).symm
theorem gI_sub (a b : Int) : gI a - gI b = gI (a - b) := (Int32.ofInt_sub a b).symm
theorem gI_mul (a b : Int) : gI a * gI b = gI (a * b) := (Int32.ofInt_mul a b).symm
theorem gI_neg (a : Int) : -gI a = gI (-a) := (Int32.ofInt_neg a).symm
theorem gL_add (a b : Int) : gL a + gL b = gL (a + b) := (Int64.ofInt_add a b).symm
theorem gL_sub (a b : Int) : gL a - gL b = gL (a - b) := (Int64.ofInt_sub a b).symm
theorem gL_mul (a b : Int) : gL a * gL b = gL (a * b) := (Int64.ofInt_mul a b).symm
theorem gI_self (v : Int32) : gI v.toInt = v := Int32.ofInt_toInt v
theorem gL_self (v : Int64) : gL v.toInt = v := Int64.ofInt_toInt v
theorem gI_ex (v : Int32) : ∃ a, v = gI a ∧ gR a := ⟨v.toInt, (gI_self v).symm, Int32.le_toInt v, Int32.toInt_le v⟩
theorem gR_toInt (v : Int32) : gR v.toInt := ⟨Int32.le_toInt v, Int32.toInt_le v⟩
theorem gQ_toInt (v : Int64) : gQ v.toInt := ⟨Int64.le_toInt v, Int64.toInt_le v⟩
theorem gI_of {a : Int} (h : gR a) : (gI a).toInt = a := Int32.toInt_ofInt_of_le h.1 (by have := h.2; omega)
theorem gL_of {a : Int} (h : gQ a) : (gL a).toInt = a := Int64.toInt_ofInt_of_le h.1 (by have := h.2; omega)
theorem gI_lt {a b : Int} (ha : gR a) (hb : gR b) : gI a < gI b ↔ a < b := by rw [Int32.lt_iff_toInt_lt, gI_of ha, gI_of hb]
theorem gI_le {a b : Int} (ha : gR a) (hb : gR b) : gI a ≤ gI b ↔ a ≤ b := by rw [Int32.le_iff_toInt_le, gI_of ha, gI_of hb]
theorem gI_eq {a b : Int} (ha : gR a) (hb : gR b) : gI a = gI b ↔ a = b := by rw [← Int32.toInt_inj, gI_of ha, gI_of hb]
theorem gL_lt {a b : Int} (ha : gQ a) (hb : gQ b) : gL a < gL b ↔ a < b := by rw [Int64.lt_iff_toInt_lt, gL_of ha, gL_of hb]
theorem gL_le {a b : Int} (ha : gQ a) (hb : gQ b) : gL a ≤ gL b ↔ a ≤ b := by rw [Int64.le_iff_toInt_le, gL_of ha, gL_of hb]
theorem gL_eq {a b : Int} (ha : gQ a) (hb : gQ b) : gL a = gL b ↔ a = b := by rw [← Int64.toInt_inj, gL_of ha, gL_of hb]
theorem gIL {a : Int} (h : gR a) : (gI a).toInt64 = gL a := Int32.toInt64_ofInt h.1 h.2
theorem gI64 (v : Int32) : v.toInt64 = gL v.toInt := (Int64.ofInt_int32ToInt v).symm
theorem gLI (a : Int) : (gL a).toInt32 = gI a := Int64.toInt32_ofInt
theorem gI_div {a b : Int} (ha : gR a) (hb : gR b) : gI a / gI b = gI (a.tdiv b) := (Int32.ofInt_tdiv ha.1 ha.2 hb.1 hb.2).symm
theorem gL_div {a b : Int} (ha : gQ a) (hb : gQ b) : gL a / gL b = gL (a.tdiv b) := (Int64.ofInt_tdiv ha.1 ha.2 hb.1 hb.2).symm
theorem gI_rem {a b : Int} (ha : gR a) (hb : gR b) : gI a - gI a / gI b * gI b = gI (a.tmod b) := by
  rw [gI_div ha hb, gI_mul, gI_sub, Int.mul_comm]
  congr 1
  have := Int.mul_tdiv_add_tmod a b
  omega
theorem gL_rem {a b : Int} (ha : gQ a) (hb : gQ b) : gL a - gL a / gL b * gL b = gL (a.tmod b) := by
  rw [gL_div ha hb, gL_mul, gL_sub, Int.mul_comm]
  congr 1
  have := Int.mul_tdiv_add_tmod a b
  omega
theorem gI_nI (n : Nat) : nI n = gI n := rfl
theorem gL_lN (n : Nat) : lN n = gL n := rfl
theorem gI_inc (a b : Int) : gI a + Int32.ofInt b = gI (a + b) := gI_add a b
theorem gI_lit (n : Nat) : (OfNat.ofNat n : Int32) = gI (n : Int) := rfl
theorem gL_lit (n : Nat) : (OfNat.ofNat n : Int64) = gL (n : Int) := rfl
theorem g_nlt {a b : Int32} : ¬ a < b ↔ b ≤ a := by rw [Int32.lt_iff_toInt_lt, Int32.le_iff_toInt_le]; omega
theorem g_nle {a b : Int32} : ¬ a ≤ b ↔ b < a := by rw [Int32.lt_iff_toInt_lt, Int32.le_iff_toInt_le]; omega
/-- lcmp, then a test against 0 -/
theorem lc_lt (a b : Int64) : lg_cmp a b < 0 ↔ a < b := by
  unfold lg_cmp
  by_cases h : a > b
  · rw [if_pos h]; constructor
    · intro h2; exact absurd h2 (by decide)
    · intro h2; have h1 : b < a := h; rw [Int64.lt_iff_toInt_lt] at h1 h2; omega
  · rw [if_neg h]
    by_cases h3 : a = b
    · rw [if_pos h3]; constructor
      · intro h2; exact absurd h2 (by decide)
      · intro h2; subst h3; rw [Int64.lt_iff_toInt_lt] at h2; omega
    · rw [if_neg h3]; constructor
      · intro _; have h1 : ¬ b < a := h; rw [Int64.lt_iff_toInt_lt] at h1 ⊢; rw [← Int64.toInt_inj] at h3; omega
      · intro _; decide
theorem lc_eq (a b : Int64) : lg_cmp a b = 0 ↔ a = b := by
  unfold lg_cmp
  by_cases h : a > b
  · rw [if_pos h]; constructor
    · intro h2; exact absurd h2 (by decide)
    · intro h2; subst h2; have h1 : a < a := h; rw [Int64.lt_iff_toInt_lt] at h1; omega
  · rw [if_neg h]
    by_cases h3 : a = b
    · rw [if_pos h3]; exact ⟨fun _ => h3, fun _ => rfl⟩
    · rw [if_neg h3]; exact ⟨fun h2 => absurd h2 (by decide), fun h2 => absurd h2 h3⟩
theorem lc_le (a b : Int64) : lg_cmp a b ≤ 0 ↔ a ≤ b := by
  have h1 := lc_lt a b
  have h2 := lc_eq a b
  have h3 : lg_cmp a b ≤ 0 ↔ (lg_cmp a b < 0 ∨ lg_cmp a b = 0) := by rw [Int32.le_iff_toInt_le, Int32.lt_iff_toInt_lt, ← Int32.toInt_inj]; omega
  rw [h3, h1, h2, Int64.lt_iff_toInt_lt, ← Int64.toInt_inj, Int64.le_iff_toInt_le]; omega
theorem lc_ge (a b : Int64) : 0 ≤ lg_cmp a b ↔ b ≤ a := by
  have h1 := lc_lt a b
  rw [Int32.lt_iff_toInt_lt, Int64.lt_iff_toInt_lt] at h1
  rw [Int32.le_iff_toInt_le, Int64.le_iff_toInt_le]
  have : (0 : Int32).toInt = 0 := by decide
  omega
theorem lc_gt (a b : Int64) : 0 < lg_cmp a b ↔ b < a := by
  have h1 := lc_le a b
  rw [Int32.le_iff_toInt_le, Int64.le_iff_toInt_le] at h1
  rw [Int32.lt_iff_toInt_lt, Int64.lt_iff_toInt_lt]
  have : (0 : Int32).toInt = 0 := by decide
  omega
theorem gL_sr (n : Int) (h0 : 0 ≤ n) (h : n ≤ 9223372036854775807) (k : Nat) (hk : k < 63) : gL n >>> ((nI k).toInt64 &&& 63) = gL (n / ((2 ^ k : Nat) : Int)) := by
  have hc : ∀ k, k < 63 → ((nI k).toInt64 &&& 63).toBitVec.smod 64 = BitVec.ofNat 64 k := by decide +kernel
  have hb : ∀ k, k < 63 → (BitVec.ofNat 64 k).toNat = k := by decide +kernel
  obtain ⟨m, rfl⟩ := Int.eq_ofNat_of_zero_le h0
  have hm : m < 2 ^ 63 := by omega
  rw [← Int64.toBitVec_inj, Int64.toBitVec_shiftRight, hc k hk]
  apply BitVec.eq_of_toInt_eq
  have h1 : (gL (m : Int)).toBitVec = BitVec.ofNat 64 m := rfl
  have h2 : (gL ((m : Int) / ((2 ^ k : Nat) : Int))).toBitVec = BitVec.ofNat 64 (m / 2 ^ k) := by
    rw [← Int.natCast_ediv]; rfl
  have hd : m / 2 ^ k ≤ m := Nat.div_le_self _ _
  rw [h1, h2, BitVec.sshiftRight_eq', hb k hk, BitVec.toInt_sshiftRight]
  rw [BitVec.toInt_eq_toNat_of_lt (by rw [BitVec.toNat_ofNat]; omega), BitVec.toNat_ofNat, Nat.mod_eq_of_lt (by omega), Int.shiftRight_eq_div_pow]
  rw [← Int.natCast_ediv]
  generalize m / 2 ^ k = q at hd
  rw [BitVec.toInt_eq_toNat_of_lt (by rw [BitVec.toNat_ofNat]; omega), BitVec.toNat_ofNat, Nat.mod_eq_of_lt (by omega)]
/-- the square root, rounded down -/
def gk_isq : Nat → Nat
  | 0 => 0
  | n + 1 => if (gk_isq n + 1) * (gk_isq n + 1) ≤ n + 1 then gk_isq n + 1 else gk_isq n
theorem gk_isq_s : ∀ n : Nat, gk_isq n * gk_isq n ≤ n ∧ n < (gk_isq n + 1) * (gk_isq n + 1)
  | 0 => ⟨Nat.le_refl _, by decide⟩
  | n + 1 => by
    obtain ⟨h1, h2⟩ := gk_isq_s n
    unfold gk_isq
    split
    · rename_i h
      refine ⟨h, ?_⟩
      have e : (gk_isq n + 1 + 1) * (gk_isq n + 1 + 1) = (gk_isq n + 1) * (gk_isq n + 1) + 2 * gk_isq n + 3 := by
        rw [Nat.add_mul, Nat.mul_add]; omega
      omega
    · rename_i h
      exact ⟨by omega, by omega⟩
theorem gk_sq_lt {a b : Nat} (h : a * a < b * b) : a < b := by
  rcases Nat.lt_or_ge a b with h1 | h1
  · exact h1
  · exact absurd (Nat.mul_le_mul h1 h1) (by omega)
theorem gk_isq_u {n r : Nat} (h1 : r * r ≤ n) (h2 : n < (r + 1) * (r + 1)) : gk_isq n = r := by
  obtain ⟨a1, a2⟩ := gk_isq_s n
  have b1 : r < gk_isq n + 1 := gk_sq_lt (by omega)
  have b2 : gk_isq n < r + 1 := gk_sq_lt (by omega)
  omega
/-- of an Int -/
def gk_rt (s : Int) : Int := (gk_isq s.toNat : Nat)
theorem gk_rt_nn (s : Int) : 0 ≤ gk_rt s := Int.natCast_nonneg _
theorem gk_rt_u {s r : Int} (h0 : 0 ≤ r) (h1 : r * r ≤ s) (h2 : s < (r + 1) * (r + 1)) : gk_rt s = r := by
  obtain ⟨k, rfl⟩ := Int.eq_ofNat_of_zero_le h0
  have hs : 0 ≤ s := Int.le_trans (Int.natCast_nonneg (k * k)) (by rw [Int.natCast_mul]; exact h1)
  obtain ⟨n, rfl⟩ := Int.eq_ofNat_of_zero_le hs
  unfold gk_rt
  rw [Int.toNat_natCast, gk_isq_u (by exact_mod_cast h1) (by exact_mod_cast h2)]
theorem gk_rt_s {s : Int} (h : 0 ≤ s) : gk_rt s * gk_rt s ≤ s ∧ s < (gk_rt s + 1) * (gk_rt s + 1) := by
  obtain ⟨n, rfl⟩ := Int.eq_ofNat_of_zero_le h
  have := gk_isq_s n
  unfold gk_rt
  rw [Int.toNat_natCast]
  exact ⟨by exact_mod_cast this.1, by exact_mod_cast this.2⟩
theorem gk_rt_lt {s b : Int} (h0 : 0 < b) (h : s < b * b) : gk_rt s < b := by
  rcases Int.lt_or_le (gk_rt s) b with h1 | h1
  · exact h1
  · rcases Int.lt_or_le s 0 with h2 | h2
    · have : gk_rt s = 0 := by unfold gk_rt; rw [Int.toNat_eq_zero.mpr (by omega)]; rfl
      omega
    · have := (gk_rt_s h2).1
      have h3 := Int.mul_le_mul h1 h1 (by omega) (gk_rt_nn s)
      omega

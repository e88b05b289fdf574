/-! THE TEXT, 6: its tokens, as numbers -/
def tL (v : Int32) : Bool := decide (97 ≤ v ∧ v ≤ 122)
def tD (v : Int32) : Bool := decide (48 ≤ v ∧ v ≤ 57)
def tW (v : Int32) : Bool := decide (v = 32 ∨ v = 10)
/-- over a run of bytes, at most n -/
def rn (p : Int32 → Bool) (c : Nat → Int32) : Nat → Nat → Nat
  | 0, a => a
  | n + 1, a => if p (c a) = true then rn p c n (a + 1) else a
theorem rn_no {p : Int32 → Bool} {c : Nat → Int32} {a : Nat} (h : ¬ p (c a) = true) : ∀ n, rn p c n a = a
  | 0 => rfl
  | n + 1 => by
    unfold rn
    rw [if_neg h]
theorem rn_st {p : Int32 → Bool} {c : Nat → Int32} {a t : Nat} (h : p (c a) = true) (ht : a < t) : rn p c (t - a) a = rn p c (t - (a + 1)) (a + 1) := by
  obtain ⟨k, e⟩ : ∃ k, t - a = k + 1 := ⟨t - a - 1, by omega⟩
  rw [e, show t - (a + 1) = k from by omega]
  show (if p (c a) = true then rn p c k (a + 1) else a) = _
  rw [if_pos h]
theorem rn_ge {p : Int32 → Bool} {c : Nat → Int32} : ∀ n a, a ≤ rn p c n a ∧ rn p c n a ≤ a + n
  | 0, a => ⟨Nat.le_refl _, Nat.le_refl _⟩
  | n + 1, a => by
    have h := rn_ge (p := p) (c := c) n (a + 1)
    unfold rn
    split
    · omega
    · omega
theorem rn_all {p : Int32 → Bool} {c : Nat → Int32} : ∀ n a k, a ≤ k → k < rn p c n a → p (c k) = true
  | 0, a, k, h1, h2 => by
    have h2 : k < a := h2
    omega
  | n + 1, a, k, h1, h2 => by
    unfold rn at h2
    split at h2
    · next h =>
      rcases Nat.eq_or_lt_of_le h1 with e | h3
      · rw [← e]; exact h
      · exact rn_all n (a + 1) k h3 h2
    · omega
/-- the next place that is no space; the end of the token at a place -/
def tz (c : Nat → Int32) (t a : Nat) : Nat := rn tW c (t - a) a
def te (c : Nat → Int32) (t a : Nat) : Nat := if t ≤ a then a else if tL (c a) = true then rn tL c (t - a) a else if tD (c a) = true then rn tD c (t - a) a else a + 1
/-- where the token with a number starts -/
def tp (c : Nat → Int32) (t : Nat) : Nat → Nat
  | 0 => tz c t 0
  | i + 1 => tz c t (te c t (tp c t i))
def wdl (c : Nat → Int32) (a n : Nat) : List Int32 := (List.range n).map (fun k => c (a + k))
def sqL (q : Nat) : List Int32 := (gk_sq q).2.2.2
def kW (l : List Int32) : Nat := if l = sqL 0 then 5 else if l = sqL 1 then 6 else if l = sqL 2 then 7 else if l = sqL 3 then 8 else if l = sqL 4 then 9 else if l = sqL 5 then 10 else if l = sqL 6 then 11 else 1
/-- what the token at a place is: 0 the end, 1 a wrong one, 2 a semicolon, 3 a minus, 4 a number, 5 on: words -/
def tk (c : Nat → Int32) (t a : Nat) : Nat := if t ≤ a then 0 else if tL (c a) = true then kW (wdl c a (te c t a - a)) else if tD (c a) = true then 4 else if c a = 59 then 2 else if c a = 45 then 3 else 1
def kR (c : Nat → Int32) (t a : Nat) : Nat := if t ≤ a then 0 else if tL (c a) = true then 2 else if tD (c a) = true then 3 else if c a = 59 then 4 else if c a = 45 then 5 else 1
def dg (v : Int32) : Nat := v.toInt.toNat - 48
def fC (c : Nat → Int32) : Nat → Nat → Nat → Nat
  | 0, _, v => v
  | n + 1, a, v => fC c n (a + 1) (min (v * 10 + dg (c a)) 1000000)
def fR (c : Nat → Int32) : Nat → Nat → Nat → Nat
  | 0, _, v => v
  | n + 1, a, v => fR c n (a + 1) (if 20000 < v then v else 10 * v + dg (c a))
theorem f_tie {c : Nat → Int32} : ∀ n a v w, ((v ≤ 20000 ∧ v = w) ∨ (20000 < v ∧ 20000 < w)) → min (fC c n a v) 20001 = min (fR c n a w) 20001
  | 0, a, v, w, h => by
    show min v 20001 = min w 20001
    omega
  | n + 1, a, v, w, h => by
    unfold fC fR
    refine f_tie n (a + 1) _ _ ?_
    split
    · omega
    · omega
theorem fC_le {c : Nat → Int32} : ∀ n a v, v ≤ 1000000 → fC c n a v ≤ 1000000
  | 0, a, v, h => h
  | n + 1, a, v, h => by
    unfold fC
    exact fC_le n (a + 1) _ (by omega)
theorem fR_le {c : Nat → Int32} : ∀ n a v, (∀ k, a ≤ k → k < a + n → dg (c k) ≤ 9) → v ≤ 200009 → fR c n a v ≤ 200009
  | 0, a, v, _, h => h
  | n + 1, a, v, hd, h => by
    unfold fR
    have h9 := hd a (by omega) (by omega)
    refine fR_le n (a + 1) _ (fun k h1 h2 => hd k (by omega) (by omega)) ?_
    split
    · exact h
    · omega
/-- a number token's value on both sides, and what is common -/
def vC (c : Nat → Int32) (t a : Nat) : Nat := if t ≤ a then 0 else if tL (c a) = true then 0 else if tD (c a) = true then fC c (te c t a - a) a 0 else 0
def vR (c : Nat → Int32) (t a : Nat) : Nat := if t ≤ a then 0 else if tL (c a) = true then 0 else if tD (c a) = true then fR c (te c t a - a) a 0 else 0
def tv (c : Nat → Int32) (t a : Nat) : Nat := min (vC c t a) 20001
theorem tD_dg {v : Int32} (h : tD v = true) : dg v ≤ 9 ∧ v = gI (48 + dg v) := by
  have h := of_decide_eq_true h
  obtain ⟨h1, h2⟩ := h
  rw [Int32.le_iff_toInt_le] at h1 h2
  have e1 : (48 : Int32).toInt = 48 := by decide
  have e2 : (57 : Int32).toInt = 57 := by decide
  have e3 : ((48 + dg v : Nat) : Int) = v.toInt := by
    unfold dg
    omega
  refine ⟨by unfold dg; omega, ?_⟩
  have e4 : (48 : Int) + (dg v : Int) = v.toInt := by omega
  rw [e4]
  exact (gI_self v).symm
theorem tv_R (c : Nat → Int32) (t a : Nat) : tv c t a = min (vR c t a) 20001 := by
  unfold tv vC vR
  split
  · rfl
  · split
    · rfl
    · split
      · exact f_tie _ _ _ _ (Or.inl ⟨by omega, rfl⟩)
      · rfl
theorem vC_le (c : Nat → Int32) (t a : Nat) : vC c t a ≤ 1000000 := by
  unfold vC
  split
  · omega
  · split
    · omega
    · split
      · exact fC_le _ _ _ (by omega)
      · omega
theorem te_D {c : Nat → Int32} {t a : Nat} (h1 : ¬ t ≤ a) (h2 : ¬ tL (c a) = true) (h3 : tD (c a) = true) : te c t a = rn tD c (t - a) a := by
  unfold te
  rw [if_neg h1, if_neg h2, if_pos h3]
theorem te_L {c : Nat → Int32} {t a : Nat} (h1 : ¬ t ≤ a) (h2 : tL (c a) = true) : te c t a = rn tL c (t - a) a := by
  unfold te
  rw [if_neg h1, if_pos h2]
theorem te_S {c : Nat → Int32} {t a : Nat} (h1 : ¬ t ≤ a) (h2 : ¬ tL (c a) = true) (h3 : ¬ tD (c a) = true) : te c t a = a + 1 := by
  unfold te
  rw [if_neg h1, if_neg h2, if_neg h3]
theorem te_0 {c : Nat → Int32} {t a : Nat} (h1 : t ≤ a) : te c t a = a := by
  unfold te
  rw [if_pos h1]
theorem te_b {c : Nat → Int32} {t a : Nat} (h : a ≤ t) : a ≤ te c t a ∧ te c t a ≤ t ∧ (a < t → a < te c t a) := by
  unfold te
  split
  · omega
  · next h1 =>
    split
    · next h2 =>
      have := rn_ge (p := tL) (c := c) (t - (a + 1)) (a + 1)
      rw [rn_st h2 (by omega)]
      omega
    · split
      · next h2 =>
        have := rn_ge (p := tD) (c := c) (t - (a + 1)) (a + 1)
        rw [rn_st h2 (by omega)]
        omega
      · omega
theorem tz_b {c : Nat → Int32} {t a : Nat} (h : a ≤ t) : a ≤ tz c t a ∧ tz c t a ≤ t := by
  have := rn_ge (p := tW) (c := c) (t - a) a
  unfold tz
  omega
theorem tz_t (c : Nat → Int32) (t : Nat) : tz c t t = t := by
  have := tz_b (c := c) (t := t) (a := t) (Nat.le_refl _)
  omega
theorem tp_le (c : Nat → Int32) (t : Nat) : ∀ i, tp c t i ≤ t
  | 0 => (tz_b (Nat.zero_le _)).2
  | i + 1 => (tz_b (te_b (tp_le c t i)).2.1).2
theorem tp_end {c : Nat → Int32} {t i : Nat} (h : tp c t i = t) : tp c t (i + 1) = t := by
  show tz c t (te c t (tp c t i)) = t
  rw [h, te_0 (Nat.le_refl _), tz_t]
theorem kW_ne (l : List Int32) : kW l = 1 ∨ (5 ≤ kW l ∧ kW l ≤ 11) := by
  unfold kW
  repeat' split
  all_goals decide
theorem tk_0 {c : Nat → Int32} {t a : Nat} (h : a ≤ t) : tk c t a = 0 ↔ a = t := by
  have hk := kW_ne (wdl c a (te c t a - a))
  unfold tk
  constructor
  · intro h2
    rcases Nat.lt_or_ge a t with h3 | h3
    · rw [if_neg (by omega)] at h2
      split at h2
      · omega
      · repeat' split at h2
        all_goals exact absurd h2 (by decide)
    · omega
  · intro h2
    rw [if_pos (by omega)]
theorem tk_le (c : Nat → Int32) (t a : Nat) : tk c t a ≤ 11 := by
  have h := kW_ne (wdl c a (te c t a - a))
  unfold tk
  split
  · omega
  split
  · omega
  repeat' split
  all_goals omega
/-- the kinds of both sides -/
theorem kR_0 (c : Nat → Int32) (t a : Nat) : (kR c t a = 0 ↔ tk c t a = 0) ∧ (kR c t a = 3 ↔ tk c t a = 4) ∧ (kR c t a = 4 ↔ tk c t a = 2) ∧ (kR c t a = 5 ↔ tk c t a = 3) ∧ kR c t a ≤ 5 := by
  have h := kW_ne (wdl c a (te c t a - a))
  unfold kR tk
  by_cases h1 : t ≤ a
  · rw [if_pos h1, if_pos h1]; omega
  rw [if_neg h1, if_neg h1]
  by_cases h2 : tL (c a) = true
  · rw [if_pos h2, if_pos h2]; omega
  rw [if_neg h2, if_neg h2]
  by_cases h3 : tD (c a) = true
  · rw [if_pos h3, if_pos h3]; omega
  rw [if_neg h3, if_neg h3]
  by_cases h4 : c a = 59
  · rw [if_pos h4, if_pos h4]; omega
  rw [if_neg h4, if_neg h4]
  by_cases h5 : c a = 45
  · rw [if_pos h5, if_pos h5]; omega
  rw [if_neg h5, if_neg h5]
  omega
theorem sL_ne : ∀ q, q < 7 → kW (sqL q) = 5 + q := by decide +kernel
theorem kW_w {q : Nat} (hq : q < 7) (l : List Int32) : kW l = 5 + q ↔ l = sqL q := by
  constructor
  · intro h
    unfold kW at h
    by_cases h0 : l = sqL 0
    · rw [if_pos h0] at h; rw [show q = 0 from by omega]; exact h0
    rw [if_neg h0] at h
    by_cases h1 : l = sqL 1
    · rw [if_pos h1] at h; rw [show q = 1 from by omega]; exact h1
    rw [if_neg h1] at h
    by_cases h2 : l = sqL 2
    · rw [if_pos h2] at h; rw [show q = 2 from by omega]; exact h2
    rw [if_neg h2] at h
    by_cases h3 : l = sqL 3
    · rw [if_pos h3] at h; rw [show q = 3 from by omega]; exact h3
    rw [if_neg h3] at h
    by_cases h4 : l = sqL 4
    · rw [if_pos h4] at h; rw [show q = 4 from by omega]; exact h4
    rw [if_neg h4] at h
    by_cases h5 : l = sqL 5
    · rw [if_pos h5] at h; rw [show q = 5 from by omega]; exact h5
    rw [if_neg h5] at h
    by_cases h6 : l = sqL 6
    · rw [if_pos h6] at h; rw [show q = 6 from by omega]; exact h6
    rw [if_neg h6] at h
    omega
  · intro h
    rw [h]
    exact sL_ne q hq
theorem tk_w {c : Nat → Int32} {t a q : Nat} (hq : q < 7) : tk c t a = 5 + q ↔ (kR c t a = 2 ∧ wdl c a (te c t a - a) = sqL q) := by
  unfold tk kR
  by_cases h1 : t ≤ a
  · rw [if_pos h1, if_pos h1]
    exact ⟨fun h => by omega, fun h => absurd h.1 (by decide)⟩
  rw [if_neg h1, if_neg h1]
  by_cases h2 : tL (c a) = true
  · rw [if_pos h2, if_pos h2, kW_w hq]
    exact ⟨fun h => ⟨rfl, h⟩, fun h => h.2⟩
  rw [if_neg h2, if_neg h2]
  by_cases h3 : tD (c a) = true
  · rw [if_pos h3, if_pos h3]
    exact ⟨fun h => by omega, fun h => absurd h.1 (by decide)⟩
  rw [if_neg h3, if_neg h3]
  by_cases h4 : c a = 59
  · rw [if_pos h4, if_pos h4]
    exact ⟨fun h => by omega, fun h => absurd h.1 (by decide)⟩
  rw [if_neg h4, if_neg h4]
  by_cases h5 : c a = 45
  · rw [if_pos h5, if_pos h5]
    exact ⟨fun h => by omega, fun h => absurd h.1 (by decide)⟩
  rw [if_neg h5, if_neg h5]
  exact ⟨fun h => by omega, fun h => absurd h.1 (by decide)⟩
/-- words packed into a number -/
def pkw (c : Nat → Int32) (a : Nat) : Nat → Int
  | 0 => 0
  | j + 1 => 27 * pkw c a j + (c (a + j)).toInt - 96
theorem pkw_b {c : Nat → Int32} {a : Nat} : ∀ j, j ≤ 10 → (∀ k, k < j → 97 ≤ (c (a + k)).toInt ∧ (c (a + k)).toInt ≤ 122) → 0 ≤ pkw c a j ∧ pkw c a j < ((27 ^ j : Nat) : Int)
  | 0, _, _ => by
    show (0 : Int) ≤ 0 ∧ (0 : Int) < ((1 : Nat) : Int)
    omega
  | j + 1, hj, h => by
    have h1 := pkw_b j (by omega) (fun k hk => h k (by omega))
    have h2 := h j (by omega)
    rw [show pkw c a (j + 1) = 27 * pkw c a j + (c (a + j)).toInt - 96 from rfl, Nat.pow_succ]
    omega
theorem pkw_eq {c d : Nat → Int32} {a b : Nat} : ∀ j, (∀ k, k < j → 97 ≤ (c (a + k)).toInt ∧ (c (a + k)).toInt ≤ 122) → (∀ k, k < j → 97 ≤ (d (b + k)).toInt ∧ (d (b + k)).toInt ≤ 122) → pkw c a j = pkw d b j → ∀ k, k < j → c (a + k) = d (b + k)
  | 0, _, _, _, k, hk => absurd hk (Nat.not_lt_zero k)
  | j + 1, h1, h2, h3, k, hk => by
    have e : 27 * pkw c a j + (c (a + j)).toInt - 96 = 27 * pkw d b j + (d (b + j)).toInt - 96 := h3
    have h4 := h1 j (by omega)
    have h5 := h2 j (by omega)
    have e2 : pkw c a j = pkw d b j := by omega
    rcases Nat.lt_or_ge k j with h6 | h6
    · exact pkw_eq j (fun k hk => h1 k (by omega)) (fun k hk => h2 k (by omega)) e2 k h6
    · obtain rfl : k = j := by omega
      rw [← Int32.toInt_inj]
      omega
theorem pkw_cg {c d : Nat → Int32} {a b : Nat} : ∀ j, (∀ k, k < j → c (a + k) = d (b + k)) → pkw c a j = pkw d b j
  | 0, _ => rfl
  | j + 1, h => by
    show 27 * pkw c a j + (c (a + j)).toInt - 96 = 27 * pkw d b j + (d (b + j)).toInt - 96
    rw [pkw_cg j (fun k hk => h k (by omega)), h j (by omega)]
theorem wdl_eq {c : Nat → Int32} {a n : Nat} {l : List Int32} : wdl c a n = l ↔ n = l.length ∧ ∀ k, k < n → c (a + k) = l.getD k 0 := by
  constructor
  · rintro rfl
    refine ⟨by simp only [wdl, List.length_map, List.length_range], fun k hk => ?_⟩
    rw [List.getD_eq_getElem?_getD, wdl, List.getElem?_map, List.getElem?_range hk]
    rfl
  · rintro ⟨h1, h2⟩
    apply List.ext_getElem?
    intro k
    rcases Nat.lt_or_ge k n with h3 | h3
    · rw [wdl, List.getElem?_map, List.getElem?_range h3, List.getElem?_eq_getElem (by omega)]
      show some (c (a + k)) = _
      rw [h2 k h3, List.getD_eq_getElem?_getD, List.getElem?_eq_getElem (by omega)]
      rfl
    · rw [List.getElem?_eq_none (by rw [wdl, List.length_map, List.length_range]; exact h3), List.getElem?_eq_none (by omega)]

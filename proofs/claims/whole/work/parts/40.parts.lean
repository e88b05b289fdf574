/-! THE METHODS, 21: parts for a place -/
section GKV
variable {c : ByteArray} {P : gk_C} {cs : Nat → Option gk_M0} {rt : Option FieldType} {uf : Nat} {sc : Option Nat} {K : gk_K} {V : gk_V}
variable {L : List (Option Value)} {r : List Value} {n : Nat} {fl : gk_F} {x : gk_X} {y : gk_Y} {u pc pc2 : Nat}
/-- the sample at which the focus' time is heard -/
def fN (g : Nat → Int32) (m : Nat) (by_ : Int) (t : Nat) : Int := (t : Int) + (gk_dl (fA g m by_) (fS g) (fBe g m false) t + gz g 0 - 1) / gz g 0
theorem fN_b {g : Nat → Int32} {m : Nat} {by_ : Int} (hc : 100 ≤ gz g 0 ∧ gz g 0 ≤ 1000) (hp : gk_PB (fA g m by_) (fS g) (fBe g m false)) {t : Nat} (ht : t < 256) : (t : Int) ≤ fN g m by_ t ∧ fN g m by_ t ≤ 100000 := by
  have hd := gk_dlb hp (t := (t : Int)) (by omega) (by omega)
  have h1 : 0 ≤ (gk_dl (fA g m by_) (fS g) (fBe g m false) t + gz g 0 - 1) / gz g 0 := Int.ediv_nonneg (by omega) (by omega)
  have h2 : (gk_dl (fA g m by_) (fS g) (fBe g m false) t + gz g 0 - 1) / gz g 0 ≤ gk_dl (fA g m by_) (fS g) (fBe g m false) t + gz g 0 - 1 := Int.ediv_le_self _ (by omega)
  unfold fN
  omega
/-- a sample of a record, as a number -/
def rcI (g : Nat → Int32) (m : Nat) (s : Int) : Int := (gk_at (fun i => g (186 + 256 * m + i)) (gI s)).toInt
/-- the parts before a time -/
def gk_pr (g : Nat → Int32) (m : Nat) (by_ : Int) : Nat → Nat → Int
  | 0, _ => 0
  | n + 1, k => if k = n then rcI g m (fN g m by_ n) - (if g 5 = 1 ∧ fN g m by_ n ≤ 255 then gk_cu g (fA g m by_) (fS g) (fBe g m false) (fBe g m true) (fN g m by_ n).toNat n (gk_pr g m by_ n) else 0) else gk_pr g m by_ n k
theorem gk_pr_lo (g : Nat → Int32) (m : Nat) (by_ : Int) {k : Nat} : ∀ {n n2 : Nat}, k < n → n ≤ n2 → gk_pr g m by_ n2 k = gk_pr g m by_ n k
  | n, 0, h, h2 => by omega
  | n, n2 + 1, h, h2 => by
    by_cases h3 : n = n2 + 1
    · rw [h3]
    · exact (if_neg (by omega)).trans (gk_pr_lo g m by_ h (by omega))
def gk_pt (g : Nat → Int32) (m : Nat) (by_ : Int) (k : Nat) : Int := gk_pr g m by_ (k + 1) k
end GKV

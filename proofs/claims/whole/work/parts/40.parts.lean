/-! THE METHODS, 21: parts for a place -/
section GKV
variable {c : ByteArray} {P : gk_C} {cs : Nat → Option gk_M0} {rt : Option FieldType} {uf : Nat} {sc : Option Nat} {K : gk_K} {V : gk_V}
variable {L : List (Option Value)} {r : List Value} {n : Nat} {fl : gk_F} {x : gk_X} {y : gk_Y} {u pc pc2 : Nat}
/-- the sample at which the focus' time is heard -/
def fN (g : Nat → Int32) (m : Nat) (by_ : Int) (t : Nat) : Int := (t : Int) + (gk_dl (fA g m by_) (fS g) (fBe g m false) t + gz g 0 - 1) / gz g 0
theorem fN_b {g : Nat → Int32} {m : Nat} {by_ : Int} (hc : 100 ≤ gz g 0 ∧ gz g 0 ≤ 1000) (hp : gk_PB (fA g m by_) (fS g) (fBe g m false)) {t : Nat} (ht : t < 256) : (t : Int) ≤ fN g m by_ t ∧ fN g m by_ t ≤ 100000 := by
  have hd := gk_dlb hp (t := (t : Int)) (by omega) (by omega)
  have h1 : 0 ≤ (gk_dl (fA g m by_) (fS g) (fBe g m false) t + gz g 0 - 1) / gz g 0 := Int.ediv_nonneg (by omega) (by omega)
  have h2 : (gk_dl (fA g m by_) (fS g) (fBe g m false) t + gz g 0 - 1) / gz g 0 ≤ gk_dl (fA g m by_) (fS g) (fBe g m false) t + gz g 0 - 1 := Int.ediv_le_self _ (by omega)
  unfold fN
  omega
/-- a sample of a record, as a number -/
def rcI (g : Nat → Int32) (m : Nat) (s : Int) : Int := (gk_at (fun i => g (186 + 256 * m + i)) (gI s)).toInt
/-- the parts before a time -/
def gk_pr (g : Nat → Int32) (m : Nat) (by_ : Int) : Nat → Nat → Int
  | 0, _ => 0
  | n + 1, k => if k = n then rcI g m (fN g m by_ n) - (if g 5 = 1 ∧ fN g m by_ n ≤ 255 then gk_cu g (fA g m by_) (fS g) (fBe g m false) (fBe g m true) (fN g m by_ n).toNat n (gk_pr g m by_ n) else 0) else gk_pr g m by_ n k
theorem gk_pr_lo (g : Nat → Int32) (m : Nat) (by_ : Int) {k : Nat} : ∀ {n n2 : Nat}, k < n → n ≤ n2 → gk_pr g m by_ n2 k = gk_pr g m by_ n k
  | n, 0, h, h2 => by omega
  | n, n2 + 1, h, h2 => by
    by_cases h3 : n = n2 + 1
    · rw [h3]
    · exact (if_neg (by omega)).trans (gk_pr_lo g m by_ h (by omega))
def gk_pt (g : Nat → Int32) (m : Nat) (by_ : Int) (k : Nat) : Int := gk_pr g m by_ (k + 1) k
theorem rt_mono {s t : Int} (h0 : 0 ≤ s) (h : s ≤ t) : gk_rt s ≤ gk_rt t := by
  rcases Int.lt_or_le (gk_rt t) (gk_rt s) with h1 | h1
  · have h2 := (gk_rt_s h0).1
    have h3 := (gk_rt_s (show 0 ≤ t by omega)).2
    have h4 := Int.mul_le_mul (show gk_rt t + 1 ≤ gk_rt s by omega) (show gk_rt t + 1 ≤ gk_rt s by omega) (by have := gk_rt_nn t; omega) (gk_rt_nn s)
    omega
  · exact h1
theorem dl_le {A S B B2 t : Int} (hB : 0 ≤ B) (h : B ≤ B2) : gk_dl A S B t ≤ gk_dl A S B2 t := by
  refine rt_mono ?_ (by omega)
  have : 0 ≤ (A + S * t) * (A + S * t) := by
    rcases Int.le_total 0 (A + S * t) with h3 | h3
    · exact Int.mul_nonneg h3 h3
    · exact Int.mul_nonneg_of_nonpos_of_nonpos h3 h3
  omega
theorem be_le {py ph my mh : Int} (h1 : 0 ≤ ph) (h2 : 0 ≤ mh) : gk_be py ph my mh false ≤ gk_be py ph my mh true := by
  unfold gk_be
  simp only [Bool.false_eq_true, if_false, if_true]
  have h := Int.mul_nonneg h1 h2
  have e1 : (ph - mh) * (ph - mh) = ph * ph - ph * mh - (mh * ph - mh * mh) := by rw [Int.sub_mul, Int.mul_sub, Int.mul_sub]
  have e2 : (-ph - mh) * (-ph - mh) = ph * ph + ph * mh + (mh * ph + mh * mh) := by
    rw [show -ph - mh = -(ph + mh) by omega, Int.neg_mul_neg, Int.add_mul, Int.mul_add, Int.mul_add]
  have e3 := Int.mul_comm mh ph
  omega
theorem rp_b2 {sp : Bool} {gr v d e : Int} (hg : -90 ≤ gr ∧ gr ≤ 90) (hv : -120000 ≤ v ∧ v ≤ 120000) (hd : 0 ≤ d) (he : d ≤ e) : -108000 ≤ gk_rp sp gr v d e ∧ gk_rp sp gr v d e ≤ 108000 := by
  have h1 : -120000 ≤ (if sp then (v * (1000 + d)).tdiv (1000 + e) else v) ∧ (if sp then (v * (1000 + d)).tdiv (1000 + e) else v) ≤ 120000 := by
    cases sp
    · exact hv
    · rw [if_pos rfl]
      have h2 : ((v * (1000 + d)).tdiv (1000 + e)).natAbs ≤ 120000 := by
        rw [Int.natAbs_tdiv, Int.natAbs_mul]
        refine Nat.div_le_of_le_mul ?_
        rw [Nat.mul_comm]
        exact Nat.mul_le_mul (by omega) (by omega)
      omega
  unfold gk_rp
  generalize (if sp then (v * (1000 + d)).tdiv (1000 + e) else v) = w at h1
  have h3 := gk_mulb (a := w) (b := gr) (A := 120000) (B := 90) (by omega) h1.2 (by omega) hg.2
  have h2 : ((w * gr).tdiv 100).natAbs ≤ 108000 := by
    rw [Int.natAbs_tdiv]
    show (w * gr).natAbs / 100 ≤ 108000
    omega
  omega
/-- the records' bounds -/
def gWr (g : Nat → Int32) : Prop := ∀ m, m < nM g → ∀ k, k < 256 → -12000 ≤ gz g (186 + 256 * m + k) ∧ gz g (186 + 256 * m + k) ≤ 12000
theorem rcI_b {g : Nat → Int32} (hr : gWr g) {m : Nat} (hm : m < nM g) (s : Int) : -12000 ≤ rcI g m s ∧ rcI g m s ≤ 12000 := by
  unfold rcI gk_at
  split
  · rename_i hv
    refine hr m hm _ ?_
    have ha := gR_toInt (gI s)
    rw [← gI_self (gI s)] at hv
    rw [show (0 : Int32) = gI 0 from rfl, show (255 : Int32) = gI 255 from rfl, gI_le ⟨by decide, by decide⟩ ha, gI_le ha ⟨by decide, by decide⟩] at hv
    show (gI s).toInt.toNat < 256
    omega
  · exact ⟨by decide, by decide⟩
theorem gk_pr_b {g : Nat → Int32} (hw : gWf g) (hr : gWr g) (h2 : ¬ g 10 = 2) {m : Nat} (hm : m < nM g) {by_ : Int} (hb : -2000 ≤ by_ ∧ by_ ≤ 2000) : ∀ n, n ≤ 256 → ∀ k, -120000 ≤ gk_pr g m by_ n k ∧ gk_pr g m by_ n k ≤ 120000
  | 0, _, _ => ⟨show (-120000 : Int) ≤ 0 by decide, show (0 : Int) ≤ 120000 by decide⟩
  | n + 1, hn, k => by
    unfold gk_pr
    split
    · have h1 := rcI_b hr hm (fN g m by_ n)
      split
      · rename_i h3
        unfold gk_cu
        have hc := gk_last_c (gk_lp2 (fA g m by_) (fS g) (fBe g m true) (gz g 0) (fN g m by_ n).toNat) ((fN g m by_ n).toNat + 1)
        generalize gk_last (gk_lp2 (fA g m by_) (fS g) (fBe g m true) (gz g 0) (fN g m by_ n).toNat) ((fN g m by_ n).toNat + 1) = e at hc
        show _ ≤ rcI g m (fN g m by_ n) - (if e = -1 ∨ (n : Int) ≤ e then 0 else _) ∧ rcI g m (fN g m by_ n) - (if e = -1 ∨ (n : Int) ≤ e then 0 else _) ≤ _
        split
        · omega
        · rename_i h4
          have he : 0 ≤ e ∧ e ≤ 256 := by rcases hc with h | ⟨k, h, h5⟩ <;> omega
          obtain ⟨-, -, k3, k4, -, -, hpb⟩ := wf_focus hw h2 hm hb
          have hmw := hw.2.2.2.1 m hm
          have hle : gk_dl (fA g m by_) (fS g) (fBe g m false) e ≤ gk_dl (fA g m by_) (fS g) (fBe g m true) e := dl_le (hpb false).2.2.2.2.1 (be_le k4.1 hmw.2.2.1.1)
          have hd := gk_dlb (hpb false) he.1 he.2
          have := rp_b2 (sp := gSp g) hw.1.2.1 (gk_pr_b hw hr h2 hm hb n (by omega) e.toNat) hd.1 hle
          omega
      · omega
    · exact gk_pr_b hw hr h2 hm hb n (by omega) k
end GKV

/-! FLOATING POINT, 5: the crest -/
theorem f32_t : Jvm.FP.Core.b32.tails < 2 ^ Jvm.FP.Core.b32.p := by decide
theorem rd32 {d : Jvm.FP.Core.Datum} (h : d ≠ .nan) : fGood Jvm.FP.Core.b32 (Jvm.FP.Core.round Jvm.FP.Core.b32 d) := by
  cases d with
  | nan => exact absurd rfl h
  | inf s => exact trivial
  | fin s c q => exact fg32
theorem rd64 {d : Jvm.FP.Core.Datum} (h : d ≠ .nan) : fGood Jvm.FP.Core.b64 (Jvm.FP.Core.round Jvm.FP.Core.b64 d) := by
  cases d with
  | nan => exact absurd rfl h
  | inf s => exact trivial
  | fin s c q => exact fg64
theorem d2f_n {a : UInt64} (h : dv a ≠ .nan) : svv (Jvm.FP.d2f a) ≠ .nan ∧ vf_n32 (Jvm.FP.d2f a) := by
  have e : Jvm.FP.d2f a = UInt32.ofNat (Jvm.FP.Core.encode Jvm.FP.Core.b32 (Jvm.FP.Core.round Jvm.FP.Core.b32 (dv a))) := by
    unfold Jvm.FP.d2f Jvm.FP.Core.dIsNaN Jvm.FP.Core.isNaN
    rw [decide_eq_false (show ¬ Jvm.FP.Core.decode Jvm.FP.Core.b64 a.toNat = .nan from h)]
    rfl
  have n := sv_good (rd32 h)
  rw [← e] at n
  exact ⟨n, vf32_of n⟩
theorem f2d_n {a : UInt32} (h : svv a ≠ .nan) : dv (Jvm.FP.f2d a) ≠ .nan ∧ vf_n64 (Jvm.FP.f2d a) := by
  have e : Jvm.FP.f2d a = UInt64.ofNat (Jvm.FP.Core.encode Jvm.FP.Core.b64 (Jvm.FP.Core.round Jvm.FP.Core.b64 (svv a))) := by
    unfold Jvm.FP.f2d Jvm.FP.Core.fIsNaN Jvm.FP.Core.isNaN
    rw [decide_eq_false (show ¬ Jvm.FP.Core.decode Jvm.FP.Core.b32 a.toNat = .nan from h)]
    rfl
  have n := dv_good (rd64 h)
  rw [← e] at n
  exact ⟨n, vf64_of n⟩
theorem or_self {d : Jvm.FP.Core.Datum} (h : d ≠ .nan) : Jvm.FP.Core.order d d = some .eq := by
  cases d with
  | nan => exact absurd rfl h
  | inf s => cases s <;> decide
  | fin s c q =>
    show some (compare _ _) = some .eq
    exact congrArg some (Int.compare_eq_eq.mpr rfl)
theorem dc_self {a : UInt64} (h : dv a ≠ .nan) : Op.cmpValue (Jvm.FP.dcmp a a) .l = 0 := by
  have : Jvm.FP.dcmp a a = some .eq := or_self h
  rw [this]
  rfl
theorem dc_zero {E : Int64} {N : Int32} (hE : 0 ≤ E.toInt) (h : 1 ≤ N.toInt) : Op.cmpValue (Jvm.FP.dcmp (mP E N) Jvm.FP.dconst0) .l = 0 ↔ E = 0 := by
  constructor
  · intro hc
    by_cases e : E = 0
    · exact e
    exfalso
    obtain ⟨c, q, e2, c1, -⟩ := mP_1 (E := E) (by
      have : E.toInt ≠ 0 := fun q => e (Int64.toInt_inj.mp (by rw [q]; rfl))
      omega) h
    have hd : Jvm.FP.dcmp (mP E N) Jvm.FP.dconst0 = some .gt := by
      show Jvm.FP.Core.order (dv (mP E N)) (dv 0) = _
      rw [e2, dv_0]
      show some (compare (((Jvm.FP.Core.inUnits c q (min q (-1074)) : Nat) : Int)) (((Jvm.FP.Core.inUnits 0 (-1074) (min q (-1074)) : Nat) : Int))) = some .gt
      congr 1
      apply Int.compare_eq_gt.mpr
      unfold Jvm.FP.Core.inUnits
      rw [Nat.zero_mul]
      have : 0 < c * 2 ^ (q - min q (-1074)).toNat := Nat.mul_pos (by omega) (Nat.pow_pos (by decide))
      omega
    rw [hd] at hc
    exact absurd hc (by decide)
  · intro e
    rw [e, mP_0 h]
    decide +kernel
/-- the crest before it is shortened -/
def cQ (p : Int32) (M : UInt64) : UInt64 := Jvm.FP.ddiv (Jvm.FP.dmul (Jvm.FP.i2d p) (Jvm.FP.i2d p)) M
theorem pp_0 : Jvm.FP.dmul (Jvm.FP.i2d 0) (Jvm.FP.i2d 0) = 0 := by decide +kernel
theorem pp_n {p : Int32} (h : 0 ≤ p.toInt) : vf_n64 (Jvm.FP.dmul (Jvm.FP.i2d p) (Jvm.FP.i2d p)) := by
  refine vf64_of ?_
  show dv (Jvm.FP.dmul (Jvm.FP.i2d p) (Jvm.FP.i2d p)) ≠ .nan
  by_cases e : p = 0
  · rw [e, pp_0, dv_0]
    intro h; cases h
  · obtain ⟨c, q, e2, c1, c2, c3, c4⟩ := i2d_p (N := p) (by
      have : p.toInt ≠ 0 := fun q => e (Int32.toInt_inj.mp (by rw [q]; rfl))
      omega)
    obtain ⟨c5, q5, e5, -⟩ := dv_mul e2 c1 c2 e2 c1 c2 (by omega) (by omega)
    intro hh
    rw [show dv (Jvm.FP.dmul (Jvm.FP.i2d p) (Jvm.FP.i2d p)) = _ from e5] at hh
    cases hh
theorem cQ_n {p : Int32} {E : Int64} {N : Int32} (hp : 0 ≤ p.toInt) (hE : 0 ≤ E.toInt) (h0 : ¬ E = 0) (hN : 1 ≤ N.toInt) : dv (cQ p (mP E N)) ≠ .nan ∧ vf_n64 (cQ p (mP E N)) := by
  have key : dv (cQ p (mP E N)) ≠ .nan := by
    obtain ⟨d, r, e2, d1, d2, d3, d4⟩ := mP_1 (E := E) (by
      have : E.toInt ≠ 0 := fun q => h0 (Int64.toInt_inj.mp (by rw [q]; rfl))
      omega) hN
    by_cases e : p = 0
    · unfold cQ
      rw [e, pp_0]
      rw [show Jvm.FP.ddiv 0 (mP E N) = 0 from dv_div0 dv_0 e2 (by omega), dv_0]
      intro h; cases h
    · obtain ⟨c, q, e3, c1, c2, c3, c4⟩ := i2d_p (N := p) (by
        have : p.toInt ≠ 0 := fun q => e (Int32.toInt_inj.mp (by rw [q]; rfl))
        omega)
      obtain ⟨c5, q5, e5, f1, f2, f3, f4⟩ := dv_mul e3 c1 c2 e3 c1 c2 (by omega) (by omega)
      obtain ⟨c6, q6, e6, -⟩ := dv_div e5 f1 f2 e2 d1 d2 (by omega) (by omega)
      intro hh
      rw [show dv (cQ p (mP E N)) = _ from e6] at hh
      cases hh
  exact ⟨key, vf64_of key⟩
/-- the crest -/
def cR (p : Int32) (E : Int64) (N : Int32) : UInt32 := if E = 0 then Jvm.FP.fconst0 else Jvm.FP.d2f (cQ p (mP E N))
theorem cR_n {p : Int32} {E : Int64} {N : Int32} (hp : 0 ≤ p.toInt) (hE : 0 ≤ E.toInt) (hN : 1 ≤ N.toInt) : svv (cR p E N) ≠ .nan := by
  unfold cR
  by_cases h0 : E = 0
  · rw [if_pos h0]
    decide +kernel
  · rw [if_neg h0]
    exact (d2f_n (cQ_n hp hE h0 hN).1).1

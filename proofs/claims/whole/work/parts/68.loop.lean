/-! THE LAW, 6: its loop -/
section GKV
variable {c : ByteArray} {P : gk_C} {cs : Nat → Option gk_M0} {rt : Option FieldType} {uf : Nat} {sc : Option Nat} {K : gk_K} {V : gk_V}
variable {L : List (Option Value)} {r : List Value} {n : Nat} {fl : gk_F} {x : gk_X} {y : gk_Y} {u pc pc2 : Nat}
variable {Ls : Nat} {sv : Nat → Int32}
/-- the cases' places -/
def lcs (q : Nat) : Nat := [236, 292, 348, 389, 437, 517, 621, 689, 781, 849, 905, 973, 1081, 1189, 1257, 1270, 1338, 1429, 1497, 1565, 1644, 1724, 1784, 1844, 1880, 1921, 1989, 2057, 2113, 2192, 2271, 2351, 2430, 2522, 2602, 2693, 2782, 2872, 2928, 2984, 2997, 3010, 3023, 3059].getD q 0
def CaseOK (V : gk_V) (sv : Nat → Int32) (Ls uf q : Nat) : Prop := ∀ (i : Int32) (x : gk_X) (y : gk_Y) (u : Nat) (q6 q7 q8 : Option Value), (∀ j : Nat, 1 ≤ j → j ≤ 5 → vp_in (i + nI j) Ls) → u + 6 ≤ uf → LI sv x y → (∀ (x2 : gk_X) (y2 : gk_Y) (q6 q7 q8 : Option Value) (u2 : Nat), u2 ≤ u + 6 → LI sv x2 y2 → V 3095 [some (.ref 5000), some (.ref 0), some (.ref 189), some (.ref 200), some (.ref 201), some (.int i), q6, q7, q8] [] 202 gk_fT x2 y2 u2) → V (lcs q) [some (.ref 5000), some (.ref 0), some (.ref 189), some (.ref 200), some (.ref 201), some (.int i), q6, q7, q8] [] 202 gk_fT x y u
theorem and_63 (a : Int32) : 0 ≤ (a &&& 63).toInt ∧ (a &&& 63).toInt ≤ 63 := by
  have e : (a &&& 63).toInt = (((a &&& 63).toBitVec.toNat : Nat) : Int) := by
    show (a &&& 63).toBitVec.toInt = _
    have h : (a &&& 63).toBitVec.toNat ≤ 63 := by
      rw [Int32.toBitVec_and, BitVec.toNat_and]
      exact Nat.and_le_right
    exact BitVec.toInt_eq_toNat_of_lt (by omega)
  have h : (a &&& 63).toBitVec.toNat ≤ 63 := by
    rw [Int32.toBitVec_and, BitVec.toNat_and]
    exact Nat.and_le_right
  omega
theorem lp_gt {t Ls : Nat} (hL : Ls ≤ 3072) (ht : 6 * t ≤ Ls) : (nI Ls - 6 < nI (6 * t)) ↔ ¬ 6 * t + 6 ≤ Ls := by
  rw [show nI Ls - 6 = gI ((Ls : Int) - 6) from gI_sub Ls 6, gI_nI, gI_lt ⟨by omega, by omega⟩ ⟨by omega, by omega⟩]
  omega
theorem lcs_ok : ∀ q, q < 44 → ∃ off, (#[191, 247, 303, 344, 392, 472, 576, 644, 736, 804, 860, 928, 1036, 1144, 1212, 1225, 1293, 1384, 1452, 1520, 1599, 1679, 1739, 1799, 1835, 1876, 1944, 2012, 2068, 2147, 2226, 2306, 2385, 2477, 2557, 2648, 2737, 2827, 2883, 2939, 2952, 2965, 2978, 3014] : Array Int)[q]? = some off ∧ (45 : Int) + off = ((lcs q : Nat) : Int) := fun q hq => by
  have h : ∀ q, q < 44 → (#[191, 247, 303, 344, 392, 472, 576, 644, 736, 804, 860, 928, 1036, 1144, 1212, 1225, 1293, 1384, 1452, 1520, 1599, 1679, 1739, 1799, 1835, 1876, 1944, 2012, 2068, 2147, 2226, 2306, 2385, 2477, 2557, 2648, 2737, 2827, 2883, 2939, 2952, 2965, 2978, 3014] : Array Int)[q]? = some ((lcs q : Int) - 45) := by decide +kernel
  exact ⟨_, h q hq, by omega⟩
theorem law_loop (w : gk_W cL_law pL cs (fun _ _ => none) (some .boolean) uf (some Ls) K V) (hL : Ls ≤ 3072) (hK : ∀ x y, K (.inl (some (.int 1))) 202 gk_fT x y) (hcase : ∀ q, q < 44 → CaseOK V sv Ls uf q) : ∀ (k t : Nat), t + k = Ls / 6 → ∀ (x : gk_X) (y : gk_Y) (u : Nat) (q6 q7 q8 : Option Value), u + 6 * k ≤ uf → LI sv x y → V 28 [some (.ref 5000), some (.ref 0), some (.ref 189), some (.ref 200), some (.ref 201), some (.int (nI (6 * t))), q6, q7, q8] [] 202 gk_fT x y u := by
  intro k
  induction k with
  | zero =>
    intro t ht x y u q6 q7 q8 hu hI
    refine s_iload (pc2 := 30) w dL_law_28 rfl rfl ?_
    refine s_aload_n (pc2 := 31) w dL_law_30 rfl rfl ?_
    refine g_alenS (pc2 := 32) w dL_law_31 rfl rfl ?_
    refine s_bipush (pc2 := 34) (v := 6) w dL_law_32 rfl rfl ?_
    refine s_isub (pc2 := 35) w dL_law_34 rfl ?_
    refine s_ic_gt (pc2 := 38) (tgt := 3101) w dL_law_35 rfl (by decide) (fun _ => ?_) (fun h0 => absurd ((lp_gt hL (by omega)).mpr (by omega)) h0)
    refine s_iconst (pc2 := 3102) (v := 1) w dL_law_3101 rfl rfl ?_
    refine s_ireturn w dL_law_3102 rfl (by first | rfl | decide) ?_
    exact hK _ _
  | succ k ih =>
    intro t ht x y u q6 q7 q8 hu hI
    have sc := hI.1
    refine s_iload (pc2 := 30) w dL_law_28 rfl rfl ?_
    refine s_aload_n (pc2 := 31) w dL_law_30 rfl rfl ?_
    refine g_alenS (pc2 := 32) w dL_law_31 rfl rfl ?_
    refine s_bipush (pc2 := 34) (v := 6) w dL_law_32 rfl rfl ?_
    refine s_isub (pc2 := 35) w dL_law_34 rfl ?_
    refine s_ic_gt (pc2 := 38) (tgt := 3101) w dL_law_35 rfl (by decide) (fun h0 => absurd h0 (fun h => (lp_gt hL (by omega)).mp h (by omega))) (fun _ => ?_)
    refine s_aload_n (pc2 := 39) w dL_law_38 rfl rfl ?_
    refine s_iload (pc2 := 41) w dL_law_39 rfl rfl ?_
    refine g_ialoadS (pc2 := 42) w dL_law_41 rfl rfl (vp_in_nI (by omega) (by omega)) ?_
    rw [sc _]
    refine s_bipush (pc2 := 44) (v := 63) w dL_law_42 rfl rfl ?_
    refine s_iand (pc2 := 45) w dL_law_44 rfl ?_
    have hv := and_63 (sv (nI (6 * t)).toNatClampNeg)
    generalize sv (nI (6 * t)).toNatClampNeg &&& 63 = v at hv
    have back : ∀ (x2 : gk_X) (y2 : gk_Y) (q6 q7 q8 : Option Value) (u2 : Nat), u2 ≤ u + 6 → LI sv x2 y2 → V 3095 [some (.ref 5000), some (.ref 0), some (.ref 189), some (.ref 200), some (.ref 201), some (.int (nI (6 * t))), q6, q7, q8] [] 202 gk_fT x2 y2 u2 := by
      intro x2 y2 q6 q7 q8 u2 hu2 hI2
      refine s_iinc (pc2 := 3098) w dL_law_3095 rfl rfl rfl rfl ?_
      dsimp only [gk_s1, gk_s2, gk_cl]
      refine s_goto (tgt := 28) w dL_law_3098 (by decide) ?_
      have h := ih (t + 1) (by omega) x2 y2 u2 q6 q7 q8 (by omega) hI2
      rw [show 6 * (t + 1) = 6 * t + 6 from by omega, ← nI_ad (6 * t) 6] at h
      exact h
    by_cases h43 : 43 < v.toInt
    · exact s_tabOut (tgt := 3095) w dL_law_45 (Or.inr h43) (by decide) (back _ _ _ _ _ _ (by omega) hI)
    · obtain ⟨off, ho, ht2⟩ := lcs_ok v.toInt.toNat (by omega)
      refine s_tabIn (tgt := lcs v.toInt.toNat) (off := off) w dL_law_45 (by omega) h43 (by rw [Int.sub_zero]; exact ho) ht2 ?_
      exact hcase v.toInt.toNat (by omega) (nI (6 * t)) x y u q6 q7 q8 (fun j h1 h2 => by rw [nI_ad]; exact vp_in_nI (by omega) (by omega)) (by omega) hI back
end GKV

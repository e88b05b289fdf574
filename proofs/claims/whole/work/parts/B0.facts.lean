/-! THE START, 1: what the Statement gives -/
/-- the start's words, in their order -/
def lw_fl : List Jvm.Cond := flatC (Jvm.Cond.and given_1 narrow_1)
def lw_sb (q : Nat) : Nat := [110, 117, 129, 141, 153, 167, 181, 200, 223, 264, 300, 349, 386, 405, 429, 453, 477, 503, 529].getD q 0
def lw_sr (q : Nat) : Nat := [522, 576, 577, 578, 579, 580, 581, 775, 837, 864, 910, 1251, 1743, 1770, 1775, 1780, 1781, 1782, 1783].getD q 0
def lw_np (q : Nat) : Nat := [135, 157, 162, 182, 309, 326, 331, 347, 362, 368, 471, 479, 488, 630, 679, 1030, 1087, 1103, 1118, 1168].getD q 0
def lw_fp (q : Nat) : Nat := [737, 738, 739, 740, 741, 742, 736, 830, 857].getD q 0
def lw_ip (q : Nat) : Nat := [325, 181, 308, 134, 123, 361, 156, 346, 367, 115, 1253].getD q 0
def lw_cp (a b : Nat) : Nat := ([[0, 35, 48], [22, 0, 49], [23, 36, 0]].getD a []).getD b 0
abbrev lw_st (q : Nat) : Term := .string (gk_sq q).1 (gk_sq q).2.1
theorem lw_s1 : ∀ q, q < 19 → lw_fl[lw_sb q]? = some (.exactly (lw_st q) "java/lang/String") ∧ lw_fl[lw_sb q + 1]? = some (.eq (.field (lw_st q) "java/lang/String" "coder" "B") (.int 0)) ∧ lw_fl[lw_sb q + 2]? = some (.arrayOf (.field (lw_st q) "java/lang/String" "value" "[B") .byte) ∧ lw_fl[lw_sb q + 3]? = some (.eq (.length (.field (lw_st q) "java/lang/String" "value" "[B")) (.int (Int32.ofNat (sN q)))) := by decide +kernel
theorem lw_s2 : ∀ q, q < 19 → ∀ j, j < sN q → lw_fl[lw_sb q + 4 + j]? = some (.eq (.elem (.field (lw_st q) "java/lang/String" "value" "[B") (.int (Int32.ofNat j))) (.int (sB q j))) := by decide +kernel
theorem lw_s3 : ∀ q, q < 19 → lw_tbl[lw_sr q]? = some (.stringRef (gk_sq q).1 (gk_sq q).2.1 (gk_sq q).2.2.1) := by decide +kernel
theorem lw_n1 : ∀ q, q < 20 → lw_tbl[lw_np q]? = gk_nest[q]? ∧ (∀ w, gk_nest[q]? = some w → w.onTables = true) := by
  have h : ∀ q, q < 20 → lw_tbl[lw_np q]? = gk_nest[q]? ∧ (gk_nest[q]?).all (fun w => w.onTables) = true := by decide +kernel
  intro q hq
  refine ⟨(h q hq).1, fun w hw => ?_⟩
  have h2 := (h q hq).2
  rw [hw] at h2
  exact h2
theorem lw_n2 : gk_nest.length = 20 := by decide +kernel
theorem lw_f1 : ∀ q, q < 9 → lw_tbl[lw_fp q]? = gk_face[q]? := by decide +kernel
theorem lw_f2 : gk_face.length = 9 := by decide +kernel
theorem lw_i1 : ∀ q, q < 11 → lw_tbl[lw_ip q]? = some (.instantiable (gk_R q) (gk_nf q)) := by decide +kernel
theorem lw_c1 : ∀ a, a < 3 → ∀ b, b < 3 → a ≠ b → lw_fl[lw_cp a b]? = some (.not (.castable (gk_xn a) (gk_xn b))) := by decide +kernel
theorem lw_v : ∀ ci, ci < 11 → vwCl[ci]? = some (gk_R ci, gk_T ci, gk_nf ci) := fun ci h => by
  obtain h | h | h | h | h | h | h | h | h | h | h : ci = 0 ∨ ci = 1 ∨ ci = 2 ∨ ci = 3 ∨ ci = 4 ∨ ci = 5 ∨ ci = 6 ∨ ci = 7 ∨ ci = 8 ∨ ci = 9 ∨ ci = 10 := by omega
  all_goals (subst h; rfl)
theorem lw_vl : vwCl.length = 11 := rfl
theorem lw_arr {s : State} {args : Array Value} {ty : FieldType} (h : (Jvm.Cond.arrayClass ty).before args s = true) (hn : ∀ n, ty ≠ .object n) : ∃ cA : ClassId, ArrOfT s cA ty ∧ va_RA s cA ty := by
  obtain ⟨cA, kA, comp, h1, h2, h3⟩ := Cond.arrayClass_spec h
  refine ⟨cA, fun n z => ⟨fun k h => (by cases h), kA, h2, comp, h3⟩, ?_⟩
  cases ty with
  | object n => exact absurd rfl (hn n)
  | _ => exact h1
theorem lw_arq {s : State} {C : String} (h : va_AO C s) : ∃ cA : ClassId, ArrOfT s cA (.object C) ∧ va_RA s cA (.object C) := by
  obtain ⟨comp, cA, kA, h1, h2, h3, h4, h5⟩ := Cond.arrayOver_spec h
  exact ⟨cA, fun n z => ⟨fun k h => (by cases h), kA, h3, comp, h4⟩, kA, comp, h3, h4, h1, h5⟩
/-- all that the engine wants of the start -/
theorem lw_E {s : State} {b : Nat} (hts : ∀ w ∈ lw_tbl, w.before #[Value.ref b] s = true) (hgv : (Jvm.Cond.and given_1 narrow_1).before #[Value.ref b] s = true) : ∃ (D : va_G) (cl : Nat → ClassId) (ads : Nat → Nat), ∀ ad : Nat → Nat, (∀ q, ad (6000 + q) = ads q) → gk_E D cl (fun q => s.heap.size ≤ q) ad s s.heap := by
  have hfl : ∀ w ∈ lw_fl, w.before #[Value.ref b] s = true := flat_of_before _ hgv
  have hA : ∀ a : Nat, a < s.heap.size → ¬ (fun q => s.heap.size ≤ q) a := fun a h h2 => Nat.not_le.mpr h h2
  have hw1 : ∀ w ∈ gk_W1, w.before #[Value.ref b] s = true := fun w h => hts w (List.mem_filter.mp h).1
  have hcw := gk_cw_ok
  -- classes
  have hkn : ∀ ci, ∃ z : ClassId × (Nat → Nat), ci < 11 → u_Kn s (gk_R ci) (gk_T ci) (gk_nf ci) z.1 z.2 := by
    intro ci
    by_cases h : ci < 11
    · obtain ⟨c, iS, hk⟩ := u_known (ws := gk_W1) hw1 (hcw.1 ci h) (hts _ (List.mem_of_getElem? (lw_i1 ci h)))
      exact ⟨(c, iS), fun _ => hk⟩
    · exact ⟨(0, fun _ => 0), fun h2 => absurd h2 h⟩
  obtain ⟨zk, hzk⟩ := Classical.axiomOfChoice hkn
  -- arrays
  have hao : ∀ ci, ci < 11 → (ci = 3 ∨ ci = 6 ∨ ci = 1 ∨ ci = 4) → va_AO (gk_R ci) s := fun ci h h2 => by
    rcases h2 with h2 | h2 | h2 | h2
    · subst h2; exact va_AO.of (hts _ (List.mem_of_getElem? (i := 129) (by decide +kernel)))
    · subst h2; exact va_AO.of (hts _ (List.mem_of_getElem? (i := 131) (by decide +kernel)))
    · subst h2; exact va_AO.of (hts _ (List.mem_of_getElem? (i := 133) (by decide +kernel)))
    · subst h2; exact va_AO.of (hts _ (List.mem_of_getElem? (i := 306) (by decide +kernel)))
  obtain ⟨a20, h20⟩ := lw_arr (hw1 _ hcw.2.1) (fun n h => by cases h)
  obtain ⟨a21, h21⟩ := lw_arr (hw1 _ hcw.2.2.1) (fun n h => by cases h)
  obtain ⟨a22, h22⟩ := lw_arr (hw1 _ hcw.2.2.2.1) (fun n h => by cases h)
  obtain ⟨a23, h23⟩ := lw_arr (hw1 _ hcw.2.2.2.2) (fun n h => by cases h)
  obtain ⟨a24, h24⟩ := lw_arq (hao 3 (by decide) (by decide))
  obtain ⟨a25, h25⟩ := lw_arq (hao 6 (by decide) (by decide))
  obtain ⟨a26, h26⟩ := lw_arq (hao 1 (by decide) (by decide))
  obtain ⟨a27, h27⟩ := lw_arq (hao 4 (by decide) (by decide))
  -- String constants
  have hst : ∀ q, ∃ z : Nat × Nat, q < 19 → (lw_st q).eval #[Value.ref b] s none [] s = some (.ref z.1) ∧ va_O "java/lang/String" z.1 (fun q => s.heap.size ≤ q) s s.heap ∧ va_OF "java/lang/String" "coder" "B" (.int 0) z.1 (fun q => s.heap.size ≤ q) s s.heap ∧ va_OF "java/lang/String" "value" "[B" (.ref z.2) z.1 (fun q => s.heap.size ≤ q) s s.heap ∧ va_T .byte z.2 (sN q) (fun j => .int (sB q j)) (fun q => s.heap.size ≤ q) s s.heap := by
    intro q
    by_cases h : q < 19
    · obtain ⟨w1, w2, w3, w4⟩ := lw_s1 q h
      have m : ∀ {i : Nat} {w : Jvm.Cond}, lw_fl[i]? = some w → w.before #[Value.ref b] s = true := fun e => hfl _ (List.mem_of_getElem? e)
      have hN := sN_lt h
      obtain ⟨adK, adV, hS, hE⟩ := vk_Sof (N := 1) (tm := fun _ => lw_st q) (len := [sN q]) (byt := [(gk_sq q).2.2.2]) (A := fun q => s.heap.size ≤ q) (fun i hi => by rw [show i = 0 from by omega]; show sN q < 2 ^ 31; omega) (fun i hi => m w1) (fun i hi => m w2) (fun i hi => m w3) (fun i hi => by rw [show i = 0 from by omega]; exact m w4) (fun i hi j hj => by
        rw [show i = 0 from by omega] at hj ⊢
        exact m (lw_s2 q h j hj)) (fun i j hi hj hij => absurd (show i = j from by omega) hij) hA
      have h1 := hS.1 0 (by decide)
      exact ⟨(adK 0, adV 0), fun _ => ⟨hE 0 (by decide), h1.1, h1.2.1, h1.2.2.1, h1.2.2.2⟩⟩
    · exact ⟨(0, 0), fun h2 => absurd h2 h⟩
  obtain ⟨zs, hzs⟩ := Classical.axiomOfChoice hst
  refine ⟨(fun ci => (zk ci).1, fun ci => (zk ci).2), fun k => if k = 20 then a20 else if k = 21 then a21 else if k = 22 then a22 else if k = 23 then a23 else if k = 24 then a24 else if k = 25 then a25 else if k = 26 then a26 else a27, fun q => (zs q).1, fun ad had => ⟨⟨fun c q hq => ?_, fun k q hq => ?_⟩, fun w hw => ?_, ?_, ?_, fun q hq => ?_, ⟨fun q => (zs q).2, fun q hq => ?_⟩, ?_, ?_, hao, fun w hw => ?_, fun a2 b2 ha hb hne => ?_⟩⟩
  · have hc : c < 11 := by
      have := (List.getElem?_eq_some_iff.mp hq).1
      rw [lw_vl] at this
      exact this
    rw [lw_v c hc] at hq
    cases hq
    exact hzk c hc
  · have hk : k < 8 := (List.getElem?_eq_some_iff.mp hq).1
    obtain h | h | h | h | h | h | h | h : k = 0 ∨ k = 1 ∨ k = 2 ∨ k = 3 ∨ k = 4 ∨ k = 5 ∨ k = 6 ∨ k = 7 := by omega
    · subst h; cases hq; exact h20
    · subst h; cases hq; exact h21
    · subst h; cases hq; exact h22
    · subst h; cases hq; exact h23
    · subst h; cases hq; exact h24
    · subst h; cases hq; exact h25
    · subst h; cases hq; exact h26
    · subst h; cases hq; exact h27
  · obtain ⟨i, hi⟩ := List.getElem?_of_mem hw
    have hil : i < 20 := by
      have := (List.getElem?_eq_some_iff.mp hi).1
      rw [lw_n2] at this
      exact this
    obtain ⟨e1, e2⟩ := lw_n1 i hil
    exact va_Nw.of (e2 w hi) (hts w (List.mem_of_getElem? (e1.trans hi)))
  · exact vx_Zqof (hts _ (List.mem_of_getElem? (i := 761) (by decide +kernel))) (hts _ (List.mem_of_getElem? (i := 100) (by decide +kernel))) (hfl _ (List.mem_of_getElem? (i := 9) (by decide +kernel))) hA
  · exact vx_Zqof (hts _ (List.mem_of_getElem? (i := 763) (by decide +kernel))) (hts _ (List.mem_of_getElem? (i := 100) (by decide +kernel))) (hfl _ (List.mem_of_getElem? (i := 10) (by decide +kernel))) hA
  · rw [had q]
    exact vk_R.of (hts _ (List.mem_of_getElem? (lw_s3 q hq))) (hzs q hq).1
  · unfold gk_So
    rw [had q]
    exact (hzs q hq).2
  · exact va_Zof (hts _ (List.mem_of_getElem? (i := 536) (by decide +kernel))) (hts _ (List.mem_of_getElem? (i := 109) (by decide +kernel))) (va_eqt (hfl _ (List.mem_of_getElem? (i := 4) (by decide +kernel)))) hA
  · exact va_Zqof (hts _ (List.mem_of_getElem? (i := 553) (by decide +kernel))) (hts _ (List.mem_of_getElem? (i := 111) (by decide +kernel))) (hfl _ (List.mem_of_getElem? (i := 5) (by decide +kernel))) hA
  · obtain ⟨i, hi⟩ := List.getElem?_of_mem hw
    have hil : i < 9 := by
      have := (List.getElem?_eq_some_iff.mp hi).1
      rw [lw_f2] at this
      exact this
    exact va_Nw.of (gk_face_ok w hw).2 (hts w (List.mem_of_getElem? ((lw_f1 i hil).trans hi)))
  · exact va_Nc.of (hfl _ (List.mem_of_getElem? (lw_c1 a2 ha b2 hb hne)))

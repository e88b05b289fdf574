/-! THE LAW, 3: saving and restoring, a recording -/
theorem SC.go {sv : Nat → Int32} {x x2 : gk_X} (h : SC sv x) (hx : ∀ k, x2 5000 k = x 5000 k) : SC sv x2 := fun k => (hx k).trans (h k)
theorem LI.save {sv : Nat → Int32} {x x2 : gk_X} {y y2 : gk_Y} {g : Nat → Int32} {q : Nat} (hq : q < 2) (hs : SC sv x) (hT : LT x y) (hM : MG g x) (hR : RS 1 g x y) (hok : gOK g) (u1 : RS (103 + 43 * q) g x2 y2) (u2 : x2 88 q = 1) (u3 : ∀ i k, ¬ (103 + 43 * q ≤ i ∧ i < 146 + 43 * q) → ¬ (i = 88 ∧ k = q) → x2 i k = x i k) (u4 : ∀ i k, i ≠ 103 + 43 * q → y2 i k = y i k) : LI sv (gk_up (gk_rg (gk_up x2 189 4 0) 192 (2234 * q) 2234 (fun k => (gk_up x2 189 4 0) 190 (0 + k))) 193 q 1) y2 := by
  have f2 : ∀ i k, ¬ (i = 193 ∧ k = q) → ¬ (i = 192 ∧ 2234 * q ≤ k ∧ k < 2234 * q + 2234) → ¬ (i = 189 ∧ k = 4) → (gk_up (gk_rg (gk_up x2 189 4 0) 192 (2234 * q) 2234 (fun k => (gk_up x2 189 4 0) 190 (0 + k))) 193 q 1) i k = x2 i k := fun i k h1 h2 h3 => (gk_up_ne h1).trans ((gk_rg_ne h2).trans (gk_up_ne h3))
  have f3 : ∀ k, k < 2234 → (gk_up (gk_rg (gk_up x2 189 4 0) 192 (2234 * q) 2234 (fun k => (gk_up x2 189 4 0) 190 (0 + k))) 193 q 1) 192 (2234 * q + k) = x2 190 k := fun k hk => (gk_up_ne (by omega)).trans ((gk_rg_in hk).trans ((gk_up_ne (by omega)).trans (by rw [Nat.zero_add])))
  have f4 := gk_up_in (gk_rg (gk_up x2 189 4 0) 192 (2234 * q) 2234 (fun k => (gk_up x2 189 4 0) 190 (0 + k))) 193 q 1
  generalize gk_up (gk_rg (gk_up x2 189 4 0) 192 (2234 * q) 2234 (fun k => (gk_up x2 189 4 0) 190 (0 + k))) 193 q 1 = x3 at f2 f3 f4 ⊢
  have f5 : ∀ i k, ¬ (103 + 43 * q ≤ i ∧ i < 146 + 43 * q) → ¬ (i = 88 ∧ k = q) → ¬ (i = 193 ∧ k = q) → ¬ (i = 192 ∧ 2234 * q ≤ k ∧ k < 2234 * q + 2234) → ¬ (i = 189 ∧ k = 4) → x3 i k = x i k := fun i k h1 h2 h3 h4 h5 => (f2 i k h3 h4 h5).trans (u3 i k h1 h2)
  refine ⟨hs.go (fun k => f5 5000 k (by omega) (by omega) (by omega) (by omega) (by omega)), ⟨fun q2 hq2 => ?_, hT.2.1.go (fun i k h => ?_), hT.2.2.go (fun i k h => ?_)⟩, g, fun k hk => ?_, hR.cg hok.1 (fun i k h1 h2 => f5 i k (by omega) (by omega) (by omega) (by omega) (by omega)) (fun k => u4 1 k (by omega)), hok⟩
  · by_cases e : q2 = q
    · subst e
      rw [f4, f2 88 q2 (by omega) (by omega) (by omega), u2]
      refine ⟨Or.inr rfl, rfl, fun _ => ⟨g, u1.cg hok.1 (fun i k h1 h2 => f2 i k (by omega) (by omega) (by omega)) (fun k => rfl), hok, fun k hk => ?_⟩⟩
      rw [f3 k hk, u3 190 k (by omega) (by omega)]
      exact hM k hk
    · obtain ⟨h1, h2, h3⟩ := hT.1 q2 hq2
      rw [f5 193 q2 (by omega) (by omega) (by omega) (by omega) (by omega), f5 88 q2 (by omega) (by omega) (by omega) (by omega) (by omega)]
      refine ⟨h1, h2, fun h0 => ?_⟩
      obtain ⟨h, g1, g2, g3⟩ := h3 h0
      refine ⟨h, g1.cg g2.1 (fun i k a b => f5 i k (by omega) (by omega) (by omega) (by omega) (by omega)) (fun k => u4 _ k (by omega)), g2, fun k hk => ?_⟩
      rw [f5 192 _ (by omega) (by omega) (by omega) (by omega) (by omega)]
      exact g3 k hk
  · unfold LR at h
    exact f5 i k (by omega) (by omega) (by omega) (by omega) (by omega)
  · unfold LR at h
    exact f5 i k (by omega) (by omega) (by omega) (by omega) (by omega)
  · rw [f5 190 k (by omega) (by omega) (by omega) (by omega) (by omega)]
    exact hM k hk
theorem LI.rest {sv : Nat → Int32} {x x2 : gk_X} {y y2 : gk_Y} {h : Nat → Int32} {q : Nat} (hq : q < 2) (hs : SC sv x) (hT : LT x y) (hok : gOK h) (hh : ∀ k, k < 2234 → x 192 (2234 * q + k) = h k) (u : COk h x x2 y y2) : LI sv (gk_rg (gk_up x2 189 4 0) 190 0 2234 (fun k => (gk_up x2 189 4 0) 192 (2234 * q + k))) y2 := by
  have f2 : ∀ i k, i ≠ 190 → ¬ (i = 189 ∧ k = 4) → (gk_rg (gk_up x2 189 4 0) 190 0 2234 (fun k => (gk_up x2 189 4 0) 192 (2234 * q + k))) i k = x2 i k := fun i k h1 h2 => (gk_rg_ne (by omega)).trans (gk_up_ne h2)
  have f3 : ∀ k, k < 2234 → (gk_rg (gk_up x2 189 4 0) 190 0 2234 (fun k => (gk_up x2 189 4 0) 192 (2234 * q + k))) 190 k = x2 192 (2234 * q + k) := fun k hk => by
    have := gk_rg_in (x := gk_up x2 189 4 0) (j := 190) (o := 0) (f := fun k => (gk_up x2 189 4 0) 192 (2234 * q + k)) hk
    rw [Nat.zero_add] at this
    exact this.trans (gk_up_ne (by omega))
  generalize gk_rg (gk_up x2 189 4 0) 190 0 2234 (fun k => (gk_up x2 189 4 0) 192 (2234 * q + k)) = x3 at f2 f3 ⊢
  obtain ⟨u1, u2, u3⟩ := u
  refine ⟨(hs.cx u2).go (fun k => f2 5000 k (by omega) (by omega)), hT.go (fun i k h => ?_) (fun i k h1 h2 => u3 i k (by omega)), h, fun k hk => ?_, u1.cg hok.1 (fun i k h1 h2 => f2 i k (by omega) (by omega)) (fun k => rfl), hok⟩
  · unfold LQ at h
    exact (f2 i k (by omega) (by omega)).trans (u2 i k (by omega))
  · rw [f3 k hk, u2 192 _ (by omega)]
    exact hh k hk
/-- the reference's recording -/
theorem MOk.rc {g : Nat → Int32} {x x2 : gk_X} {y : gk_Y} (hM : MG g x) (h : ∀ i k, i ≠ 194 → i ≠ 195 → x2 i k = gk_up (gk_mr x g (nM g)) 190 9 (x 190 9 + 1) i k) : MOk (gRec g) 0 x x2 y y := by
  refine ⟨fun k hk => ?_, ?_, fun i k h2 => ?_, fun _ _ _ => rfl⟩
  · rw [h 190 k (by omega) (by omega)]
    unfold gRec gk_up gk_mr
    by_cases e3 : k = 3
    · subst e3
      rw [if_neg (by omega), if_pos ⟨rfl, rfl⟩, if_pos rfl]
    rw [if_neg e3]
    by_cases er : 186 ≤ k ∧ k < 186 + 256 * nM g
    · rw [if_neg (by omega), if_neg (by omega), if_pos ⟨rfl, er⟩, if_pos er]
    rw [if_neg er]
    by_cases e9 : k = 9
    · subst e9
      rw [if_pos ⟨rfl, rfl⟩, if_pos rfl, hM 9 (by decide)]
    · rw [if_neg (by omega), if_neg (by omega), if_neg (by omega), if_neg (by omega), if_neg e9]
      exact hM k hk
  · rw [h 189 4 (by omega) (by omega)]
    unfold gk_up gk_mr
    rw [if_neg (by omega), if_neg (by omega), if_neg (by omega), if_pos ⟨rfl, rfl⟩]
  · rw [h i k (by omega) (by omega)]
    unfold gk_up gk_mr
    rw [if_neg (by omega), if_neg (by omega), if_neg (by omega), if_neg (by omega)]
theorem cN_2 {s : Int32} (h : 0 ≤ s ∧ s ≤ 1) : cN s < 2 := by
  obtain ⟨q, rfl, qh⟩ := ix_b (b := 1) (by decide) h
  rw [cN_n q (by omega)]
  omega
theorem LTs.eq {s : Int32} {x x2 : gk_X} {y : gk_Y} (hT : LTs x y) (hx : CX x2 x) (h : 0 ≤ s ∧ s ≤ 1) : x2 193 (cN s) = x 88 (cN s) := (hx 193 _ (by omega)).trans (hT _ (cN_2 h)).2.1.symm
theorem LTs.ex {x : gk_X} {y : gk_Y} (hT : LTs x y) (s : Int32) : ∃ h, (0 ≤ s ∧ s ≤ 1) → ¬ x 88 (cN s) = 0 → RS (103 + 43 * cN s) h x y ∧ gOK h ∧ ∀ k, k < 2234 → x 192 (2234 * cN s + k) = h k := by
  by_cases hr : (0 ≤ s ∧ s ≤ 1) ∧ ¬ x 88 (cN s) = 0
  · obtain ⟨h1, h2, h3⟩ := hT _ (cN_2 hr.1)
    obtain ⟨h, e⟩ := h3 (by rw [← h2]; exact hr.2)
    exact ⟨h, fun _ _ => e⟩
  · exact ⟨fun _ => 0, fun a b => absurd ⟨a, b⟩ hr⟩
theorem MOk.th {g : Nat → Int32} {x : gk_X} {y : gk_Y} (h : MG g x) (v : Int32) : MOk g v x (gk_up x 189 4 v) y y := ⟨fun k hk => (gk_up_ne (by omega)).trans (h k hk), gk_up_in _ _ _ _, fun i k h => gk_up_ne (by omega), fun _ _ _ => rfl⟩

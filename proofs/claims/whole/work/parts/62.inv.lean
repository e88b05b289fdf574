/-! THE LAW, 1: what holds at the head of its loop -/
/-- the script -/
def SC (sv : Nat → Int32) (x : gk_X) : Prop := ∀ k, x 5000 k = sv k
/-- the rest of the state: saved states, the text, its error -/
def LTs (x : gk_X) (y : gk_Y) : Prop := ∀ q, q < 2 → (x 193 q = 0 ∨ x 193 q = 1) ∧ x 88 q = x 193 q ∧ (¬ x 193 q = 0 → ∃ h, RS (103 + 43 * q) h x y ∧ gOK h ∧ ∀ k, k < 2234 → x 192 (2234 * q + k) = h k)
def LTt (x : gk_X) : Prop := ∃ t : Nat, t ≤ 500 ∧ x 95 1 = nI t ∧ x 189 11 = nI t ∧ ∀ k, k < t → x 96 k = x 199 k ∧ ¬ x 199 k = -1
def LTe (x : gk_X) : Prop := x 97 0 = x 189 17 ∧ x 97 1 = x 189 18
def LT (x : gk_X) (y : gk_Y) : Prop := LTs x y ∧ LTt x ∧ LTe x
def LI (sv : Nat → Int32) (x : gk_X) (y : gk_Y) : Prop := SC sv x ∧ LT x y ∧ ∃ g, MG g x ∧ RS 1 g x y ∧ gOK g
/-- the places of LT -/
def LQ (i k : Nat) : Prop := i = 88 ∨ (95 ≤ i ∧ i ≤ 97) ∨ (103 ≤ i ∧ i < 189) ∨ (i = 189 ∧ k ≠ 4) ∨ i = 192 ∨ i = 193 ∨ i = 199
theorem LTs.go {x x2 : gk_X} {y y2 : gk_Y} (h : LTs x y) (hx : ∀ i k, LQ i k → x2 i k = x i k) (hy : ∀ i k, 103 ≤ i → i < 189 → y2 i k = y i k) : LTs x2 y2 := fun q hq => by
  obtain ⟨h1, h2, h3⟩ := h q hq
  rw [hx 193 q (by unfold LQ; omega), hx 88 q (by unfold LQ; omega)]
  refine ⟨h1, h2, fun h0 => ?_⟩
  obtain ⟨g, g1, g2, g3⟩ := h3 h0
  exact ⟨g, g1.cg g2.1 (fun i k a b => hx i k (by unfold LQ; omega)) (fun k => hy _ k (by omega) (by omega)), g2, fun k hk => by rw [hx 192 _ (by unfold LQ; omega)]; exact g3 k hk⟩
def LR (i k : Nat) : Prop := (95 ≤ i ∧ i ≤ 97) ∨ (i = 189 ∧ k ≠ 4) ∨ i = 199
theorem LTt.go {x x2 : gk_X} (h : LTt x) (hx : ∀ i k, LR i k → x2 i k = x i k) : LTt x2 := by
  obtain ⟨t, h1, h2, h3, h4⟩ := h
  exact ⟨t, h1, by rw [hx 95 1 (by unfold LR; omega)]; exact h2, by rw [hx 189 11 (by unfold LR; omega)]; exact h3, fun k hk => by rw [hx 96 k (by unfold LR; omega), hx 199 k (by unfold LR; omega)]; exact h4 k hk⟩
theorem LTe.go {x x2 : gk_X} (h : LTe x) (hx : ∀ i k, LR i k → x2 i k = x i k) : LTe x2 := by
  unfold LTe
  rw [hx 97 0 (by unfold LR; omega), hx 97 1 (by unfold LR; omega), hx 189 17 (by unfold LR; omega), hx 189 18 (by unfold LR; omega)]
  exact h
theorem LT.go {x x2 : gk_X} {y y2 : gk_Y} (h : LT x y) (hx : ∀ i k, LQ i k → x2 i k = x i k) (hy : ∀ i k, 103 ≤ i → i < 189 → y2 i k = y i k) : LT x2 y2 := ⟨h.1.go hx hy, h.2.1.go (fun i k h => hx i k (by unfold LR at h; unfold LQ; omega)), h.2.2.go (fun i k h => hx i k (by unfold LR at h; unfold LQ; omega))⟩
theorem SC.cx {sv : Nat → Int32} {x x2 : gk_X} (h : SC sv x) (hx : CX x2 x) : SC sv x2 := fun k => (hx 5000 k (by omega)).trans (h k)
theorem SC.mx {sv : Nat → Int32} {x x2 : gk_X} (h : SC sv x) (hx : MX x2 x) : SC sv x2 := fun k => (hx 5000 k (by omega)).trans (h k)
theorem MG.cx {g : Nat → Int32} {x x2 : gk_X} (h : MG g x) (hx : CX x2 x) : MG g x2 := fun k hk => (hx 190 k (by omega)).trans (h k hk)
/-- one round: the class, then the reference -/
theorem LI.st {sv : Nat → Int32} {x x2 x3 : gk_X} {y y2 y2' y3 : gk_Y} {g : Nat → Int32} {t : Int32} (hs : SC sv x) (hT : LT x y) (h1 : COk g x x2 y y2) (hy : ∀ i k, i ≠ 200 → i ≠ 201 → y2' i k = y2 i k) (h2 : MOk g t x2 x3 y2' y3) (hok : gOK g) : LI sv x3 y3 := by
  obtain ⟨a1, a2, a3⟩ := h1
  obtain ⟨b1, b2, b3, b4⟩ := h2
  refine ⟨(hs.cx a2).mx b3, hT.go (fun i k h => ?_) (fun i k h h4 => ?_), g, b1, a1.cg hok.1 (fun i k h h4 => b3 i k (by omega)) (fun k => (b4 1 k (by omega)).trans (hy 1 k (by omega) (by omega))), hok⟩
  · unfold LQ at h
    exact (b3 i k (by omega)).trans (a2 i k (by omega))
  · exact (b4 i k (by omega)).trans ((hy i k (by omega) (by omega)).trans (a3 i k (by omega)))
theorem lcm_self (a : Int64) : lg_cmp a a = 0 := by
  unfold lg_cmp
  simp
theorem uy_out {y : gk_Y} {j : Nat} {a : Int64} (hj : j = 200 ∨ j = 201) : ∀ i k, i ≠ 200 → i ≠ 201 → gk_uy y j 0 a i k = y i k := fun i k h1 h2 => if_neg (fun h => by omega)
theorem g_ne {g : Nat → Int32} {k N : Nat} (hN : N < 1000) (h0 : 0 ≤ gz g k) (hle : (gz g k).toNat ≤ N) (h : ¬ g k = nI N) : (gz g k).toNat < N := by
  rcases Nat.lt_or_ge (gz g k).toNat N with q | q
  · exact q
  · exfalso
    apply h
    have e : (g k).toInt = (N : Int) := by show gz g k = _; omega
    rw [← gI_self (g k), e]
    rfl
theorem ok_AV {g : Nat → Int32} {a b e : Int32} (h : gOK g) (b0 : (-20000 ≤ a ∧ a ≤ 20000) ∧ (-50 ≤ b ∧ b ≤ 50) ∧ (100 ≤ e ∧ e ≤ 5000)) (b1 : ¬ g 6 = 4) : gOK (gAV g (nV g) a b e) := by
  obtain ⟨nv4, ns6, nm8, z6, z7, z8⟩ := wf_n h.1
  exact gOK_AV h (g_ne (k := 6) (N := 4) (by decide) (by omega) nv4 b1) b0.1 b0.2.1 b0.2.2
theorem ok_AS {g : Nat → Int32} {v b e d f : Int32} (h : gOK g) (b0 : 0 ≤ v ∧ v < g 6) (b1 : (-1000 ≤ b ∧ b ≤ 1000) ∧ (0 ≤ e ∧ e ≤ 500) ∧ (1 ≤ d ∧ d ≤ 10) ∧ (-99 ≤ f ∧ f ≤ 99)) (b2 : ¬ g 7 = 6) : gOK (gAS g (nS g) v b e d f) := by
  obtain ⟨nv4, ns6, nm8, z6, z7, z8⟩ := wf_n h.1
  obtain ⟨q, rfl, hq⟩ := ix_n b0
  exact gOK_AS h (g_ne (k := 7) (N := 6) (by decide) (by omega) ns6 b2) hq b1.1 b1.2.1 b1.2.2.1 b1.2.2.2
theorem ok_VA {g : Nat → Int32} {v f : Int32} (h : gOK g) (b0 : 0 ≤ v ∧ v < g 7) (b1 : -99 ≤ f ∧ f ≤ 99) (b2 : ¬ g (28 + 21 * cN v + 4) = 16) : gOK (gVA g (cN v) f) := by
  obtain ⟨nv4, ns6, nm8, z6, z7, z8⟩ := wf_n h.1
  obtain ⟨q, rfl, hq⟩ := ix_n b0
  have hq : q < nS g := hq
  rw [cN_n q (by omega)] at b2 ⊢
  have h3 := (h.1.2.2.1 q hq).2.2.2.2.1
  exact gOK_VA h hq (g_ne (k := 28 + 21 * q + 4) (N := 16) (by decide) (by omega) (by omega) b2) b1
theorem ok_AM {g : Nat → Int32} {a b e d : Int32} (h : gOK g) (b0 : ((-5000 ≤ a ∧ a ≤ 5000) ∧ (-100 ≤ b ∧ b ≤ 99) ∧ (0 ≤ e ∧ e ≤ 500)) ∧ (0 ≤ d ∧ d ≤ 9)) (b1 : ¬ g 8 = 8) : gOK (gAM g (nM g) a b e d) := by
  obtain ⟨nv4, ns6, nm8, z6, z7, z8⟩ := wf_n h.1
  exact gOK_AM h (g_ne (k := 8) (N := 8) (by decide) (by omega) nm8 b1) b0.1.1 b0.1.2.1 b0.1.2.2 b0.2
theorem ok_W {g : Nat → Int32} {m d : Int32} (h : gOK g) (b0 : 0 ≤ m ∧ m < g 8) (b1 : 0 ≤ d ∧ d ≤ 9) : gOK (gU g (154 + 4 * cN m + 3) d) := by
  obtain ⟨nv4, ns6, nm8, z6, z7, z8⟩ := wf_n h.1
  obtain ⟨q, rfl, hq⟩ := ix_n b0
  have hq : q < nM g := hq
  rw [cN_n q (by omega)]
  exact gOK_W h hq b1
theorem ok_F0 {g : Nat → Int32} {v b e : Int32} (h : gOK g) (b0 : 0 ≤ v ∧ v < g 6) (b1 : (-1000 ≤ b ∧ b ≤ 1000) ∧ (0 ≤ e ∧ e ≤ 500)) : gOK (gFO g 0 v b 0 e) := by
  obtain ⟨q, rfl, hq⟩ := ix_n b0
  exact gOK_F0 h hq b1.1 b1.2

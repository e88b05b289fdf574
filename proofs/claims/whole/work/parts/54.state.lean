/-! THE STATE: what each change keeps -/
section GKV
variable {c : ByteArray} {P : gk_C} {cs : Nat → Option gk_M0} {rt : Option FieldType} {uf : Nat} {sc : Option Nat} {K : gk_K} {V : gk_V}
variable {L : List (Option Value)} {r : List Value} {n : Nat} {fl : gk_F} {x : gk_X} {y : gk_Y} {u pc pc2 : Nat}
theorem zg {g g2 : Nat → Int32} {k : Nat} (h : g2 k = g k) : gz g2 k = gz g k := congrArg Int32.toInt h
theorem nI_t {n : Nat} (h : n < 2147483648) : (nI n).toInt = (n : Int) := gI_of (a := (n : Int)) ⟨by omega, by omega⟩
theorem bt {v : Int32} {a b : Int} (ha : gR a) (hb : gR b) (h : gI a ≤ v ∧ v ≤ gI b) : a ≤ v.toInt ∧ v.toInt ≤ b := by
  obtain ⟨z, rfl, h1, h2⟩ := ix_r ha hb h
  rw [gI_of ⟨by have := ha.1; omega, by have := hb.2; omega⟩]
  exact ⟨h1, h2⟩
theorem rs0_tr {b : Nat} {g g2 : Nat → Int32} {x x2 : gk_X} (h : rs0 b g x) (hb : ∀ k, 7 ≤ k → x2 b k = x b k) (hg : ∀ k, k < 6 ∨ k = 9 ∨ k = 10 ∨ k = 12 → g2 k = g k) (hc : x2 b 4 = g2 6 ∧ x2 b 5 = g2 7 ∧ x2 b 6 = g2 8) : rs0 b g2 x2 := by
  obtain ⟨-, r7, r8, r9, r11, r12, r15, r13, r14⟩ := h
  refine ⟨hc, ?_, ?_, ?_, ?_, ?_, ?_, ?_, ?_⟩
  · rw [hb 7 (by omega), hg 0 (by omega)]; exact r7
  · rw [hb 8 (by omega), hg 1 (by omega)]; exact r8
  · rw [hb 9 (by omega), hg 4 (by omega)]; exact r9
  · rw [hb 11 (by omega), hg 2 (by omega)]; exact r11
  · rw [hb 12 (by omega), hg 9 (by omega)]; exact r12
  · rw [hb 15 (by omega), hg 5 (by omega)]; exact r15
  · rw [hb 13 (by omega), hg 10 (by omega)]; exact r13
  · rw [hb 14 (by omega), hg 10 (by omega), hg 12 (by omega)]; exact r14
theorem rs_cn {b : Nat} {g : Nat → Int32} {x : gk_X} (h : rs0 b g x) : x b 4 = g 6 ∧ x b 5 = g 7 ∧ x b 6 = g 8 := h.1
/-- parts of the relation that speak of other places -/
theorem rsv_tr {b : Nat} {g g2 : Nat → Int32} {x x2 : gk_X} (h : rsv b g x) (hn : nV g2 = nV g) (hg : ∀ v j, v < nV g → j < 3 → g2 (16 + 3 * v + j) = g (16 + 3 * v + j)) (hx : ∀ v j, v < nV g → x2 (v + (b + 5)) j = x (v + (b + 5)) j) : rsv b g2 x2 := fun v hv => by
  rw [hn] at hv
  rw [hx v 0 hv, hx v 1 hv, hx v 2 hv, hg v 0 hv (by decide), hg v 1 hv (by decide), hg v 2 hv (by decide)]
  exact h v hv
theorem rss_1 {b : Nat} {g g2 : Nat → Int32} {x x2 : gk_X} {a : Nat} (hw : gWf g) (ha : a < nS g) (h : rss b g x) (hgv : ∀ v j, v < nV g → j < 3 → g2 (16 + 3 * v + j) = g (16 + 3 * v + j)) (hgs : ∀ j, j < 21 → g2 (28 + 21 * a + j) = g (28 + 21 * a + j)) (hx : ∀ i j, 3 * a + (b + 9) ≤ i → i ≤ 3 * a + (b + 11) → x2 i j = x i j) : (x2 (3 * a + (b + 9)) 2 = g2 (28 + 21 * a + 4) ∧ x2 (3 * a + (b + 9)) 3 = g2 (28 + 21 * a + 3)) ∧ (x2 (3 * a + (b + 10)) 0 = gI (gz g2 (16 + 3 * sV g2 a + 0) + gz g2 (28 + 21 * a + 1)) ∧ x2 (3 * a + (b + 10)) 1 = g2 (16 + 3 * sV g2 a + 1) ∧ x2 (3 * a + (b + 10)) 2 = g2 (16 + 3 * sV g2 a + 2) ∧ x2 (3 * a + (b + 10)) 3 = g2 (28 + 21 * a + 2)) ∧ ∀ k, k < sW g2 a → x2 (3 * a + (b + 11)) k = g2 (28 + 21 * a + 5 + k) := by
  have w0 := hw.1
  unfold wf0 at w0
  obtain ⟨s1, -, -, -, s5, -⟩ := hw.2.2.1 a ha
  have eV : sV g2 a = sV g a := by unfold sV; rw [zg (hgs 0 (by decide))]
  have eW : sW g2 a = sW g a := by unfold sW; rw [zg (hgs 4 (by decide))]
  have hv : sV g a < nV g := by unfold sV nV; omega
  have hW : sW g a ≤ 16 := by unfold sW; omega
  rw [eV, eW, zg (hgv _ 0 hv (by decide)), zg (hgs 1 (by decide)), hgv _ 1 hv (by decide), hgv _ 2 hv (by decide), hgs 2 (by decide), hgs 3 (by decide), hgs 4 (by decide), hx _ 2 (by omega) (by omega), hx _ 3 (by omega) (by omega), hx (3 * a + (b + 10)) 0 (by omega) (by omega), hx (3 * a + (b + 10)) 1 (by omega) (by omega), hx (3 * a + (b + 10)) 2 (by omega) (by omega), hx (3 * a + (b + 10)) 3 (by omega) (by omega)]
  refine ⟨(h a ha).1, (h a ha).2.1, fun k hk => ?_⟩
  rw [hx _ k (by omega) (by omega)]
  have := hgs (5 + k) (by omega)
  rw [← Nat.add_assoc] at this
  rw [this]
  exact (h a ha).2.2 k hk
theorem rsm_tr {b : Nat} {g g2 : Nat → Int32} {x x2 : gk_X} (h : rsm b g x) (hn : nM g2 = nM g) (hg : ∀ m j, m < nM g → j < 4 → g2 (154 + 4 * m + j) = g (154 + 4 * m + j)) (hx : ∀ m j, m < nM g → x2 (2 * m + (b + 27)) j = x (2 * m + (b + 27)) j) : rsm b g2 x2 := fun m hm => by
  rw [hn] at hm
  rw [hx m 1 hm, hx m 2 hm, hx m 3 hm, hx m 4 hm, hg m 0 hm (by decide), hg m 1 hm (by decide), hg m 2 hm (by decide), hg m 3 hm (by decide)]
  exact h m hm
theorem rsq_tr {b : Nat} {g g2 : Nat → Int32} {x x2 : gk_X} (h : rsq b g x) (hn : nM g2 = nM g) (hg : ∀ m j, m < nM g → j < 256 → g2 (186 + 256 * m + j) = g (186 + 256 * m + j)) (hx : ∀ m j, m < nM g → x2 (2 * m + (b + 28)) j = x (2 * m + (b + 28)) j) : rsq b g2 x2 := fun m hm k hk => by
  rw [hn] at hm
  rw [hx m k hm, hg m k hm hk]
  exact h m hm k hk
theorem rsf_tr {b : Nat} {g g2 : Nat → Int32} {x x2 : gk_X} (hw : gWf g) (h : rsf b g x) (hgv : ∀ v j, v < nV g → j < 3 → g2 (16 + 3 * v + j) = g (16 + 3 * v + j)) (hg : ∀ k, 10 ≤ k → k ≤ 14 → g2 k = g k) (hx : ∀ j, x2 (b + 4) j = x (b + 4) j) : rsf b g2 x2 := by
  have w0 := hw.1
  unfold wf0 at w0
  unfold rsf at h ⊢
  rw [hx 0, hx 1, hx 2, hx 3, hg 10 (by decide) (by decide), hg 12 (by decide) (by decide), hg 13 (by decide) (by decide), hg 14 (by decide) (by decide), zg (hg 11 (by decide) (by decide)), zg (hg 12 (by decide) (by decide))]
  refine ⟨fun e => ?_, h.2⟩
  have hv : (gz g 11).toNat < nV g := by
    rcases hw.2.2.2.2 with ⟨-, f, -⟩ | ⟨f, -⟩ | ⟨f, -⟩
    · unfold nV; omega
    · rw [e] at f; exact absurd f (by decide)
    · rw [e] at f; exact absurd f (by decide)
  rw [zg (hgv _ 0 hv (by decide)), hgv _ 1 hv (by decide), hgv _ 2 hv (by decide)]
  exact h.1 e
theorem RS_lo {b : Nat} {g g2 : Nat → Int32} {x x2 : gk_X} {y y2 : gk_Y} (hw : gWf g) (h : RS b g x y) (hg : ∀ k, 6 ≤ k → k ≠ 9 → g2 k = g k) (hx : ∀ i k, b < i → i < b + 43 → x2 i k = x i k) (h0 : rs0 b g2 x2) (hr : rsr b g2 y2) : RS b g2 x2 y2 := by
  obtain ⟨-, -, h3, h4, h5, h6, h7⟩ := h
  obtain ⟨nv4, ns6, nm8, -⟩ := wf_n hw
  have eV : nV g2 = nV g := by unfold nV; rw [zg (hg 6 (by decide) (by decide))]
  have eS : nS g2 = nS g := by unfold nS; rw [zg (hg 7 (by decide) (by decide))]
  have eM : nM g2 = nM g := by unfold nM; rw [zg (hg 8 (by decide) (by decide))]
  have hv : ∀ v j, v < nV g → j < 3 → g2 (16 + 3 * v + j) = g (16 + 3 * v + j) := fun v j _ _ => hg _ (by omega) (by omega)
  refine ⟨h0, hr, rsv_tr h3 eV hv (fun v j hv => hx _ _ (by omega) (by omega)), fun a ha => ?_, rsm_tr h5 eM (fun _ _ _ _ => hg _ (by omega) (by omega)) (fun m j hm => hx _ _ (by omega) (by omega)), rsq_tr h6 eM (fun _ _ _ _ => hg _ (by omega) (by omega)) (fun m j hm => hx _ _ (by omega) (by omega)), rsf_tr hw h7 hv (fun _ _ _ => hg _ (by omega) (by omega)) (fun j => hx _ _ (by omega) (by omega))⟩
  rw [eS] at ha
  exact rss_1 hw ha h4 hv (fun _ _ => hg _ (by omega) (by omega)) (fun i j _ _ => hx _ _ (by omega) (by omega))
theorem RS_AV {b n : Nat} {g : Nat → Int32} {x x2 : gk_X} {y : gk_Y} {a s e : Int32} (hw : gWf g) (hn : n = nV g) (h4 : n < 4) (h : RS b g x y) (h1 : x2 (n + (b + 5)) 0 = a ∧ x2 (n + (b + 5)) 1 = s ∧ x2 (n + (b + 5)) 2 = e) (hc : x2 b 4 = nI (n + 1)) (hx : ∀ i k, i ≠ n + (b + 5) → ¬ (i = b ∧ k = 4) → x2 i k = x i k) : RS b (gAV g n a s e) x2 y := by
  obtain ⟨k0, k2, k3, k4, k5, k6, k7⟩ := h
  obtain ⟨nv4, ns6, nm8, -⟩ := wf_n hw
  have hg : ∀ k, k ≠ 6 → ¬ (16 + 3 * n ≤ k ∧ k < 16 + 3 * n + 3) → gAV g n a s e k = g k := fun k q1 q2 => (gU_ne q1).trans ((gU_ne (by omega)).trans ((gU_ne (by omega)).trans (gU_ne (by omega))))
  have e6 : gAV g n a s e 6 = nI (n + 1) := gU_in _ _ _
  have e0 : gAV g n a s e (16 + 3 * n + 0) = a := (gU_ne (by omega)).trans ((gU_ne (by omega)).trans ((gU_ne (by omega)).trans (gU_in _ _ _)))
  have e1 : gAV g n a s e (16 + 3 * n + 1) = s := (gU_ne (by omega)).trans ((gU_ne (by omega)).trans (gU_in _ _ _))
  have e2 : gAV g n a s e (16 + 3 * n + 2) = e := (gU_ne (by omega)).trans (gU_in _ _ _)
  have eV : nV (gAV g n a s e) = n + 1 := by
    unfold nV gz
    rw [e6, nI_t (by omega)]
    exact Int.toNat_natCast _
  have eS : nS (gAV g n a s e) = nS g := by unfold nS; rw [zg (hg 7 (by decide) (by omega))]
  have eM : nM (gAV g n a s e) = nM g := by unfold nM; rw [zg (hg 8 (by decide) (by omega))]
  have hv : ∀ v j, v < nV g → j < 3 → gAV g n a s e (16 + 3 * v + j) = g (16 + 3 * v + j) := fun v j q1 q2 => hg _ (by omega) (by omega)
  refine ⟨rs0_tr k0 (fun k hk => hx _ _ (by omega) (by omega)) (fun k hk => hg k (by omega) (by omega)) ⟨hc.trans e6.symm, ?_, ?_⟩, ?_, fun v hv2 => ?_, fun a2 ha => ?_, rsm_tr k5 eM (fun m _ _ _ => hg _ (by omega) (by omega)) (fun m j hm => hx _ _ (by omega) (by omega)), rsq_tr k6 eM (fun m _ _ _ => hg _ (by omega) (by omega)) (fun m j hm => hx _ _ (by omega) (by omega)), rsf_tr hw k7 hv (fun _ _ _ => hg _ (by omega) (by omega)) (fun j => hx _ _ (by omega) (by omega))⟩
  · rw [hx _ _ (by omega) (by omega), hg 7 (by decide) (by omega)]; exact k0.1.2.1
  · rw [hx _ _ (by omega) (by omega), hg 8 (by decide) (by omega)]; exact k0.1.2.2
  · unfold rsr; rw [zg (hg 3 (by decide) (by omega))]; exact k2
  · rw [eV] at hv2
    by_cases q : v = n
    · subst q; rw [e0, e1, e2]; exact h1
    · have q2 : v < nV g := by omega
      rw [hx _ _ (by omega) (by omega), hx _ _ (by omega) (by omega), hx _ _ (by omega) (by omega), hv v 0 q2 (by decide), hv v 1 q2 (by decide), hv v 2 q2 (by decide)]
      exact k3 v q2
  · rw [eS] at ha
    exact rss_1 hw ha k4 hv (fun _ _ => hg _ (by omega) (by omega)) (fun i j _ _ => hx _ _ (by omega) (by omega))
theorem RS_AS {b n w : Nat} {g : Nat → Int32} {x x2 : gk_X} {y : gk_Y} {o h0 st va : Int32} (hw : gWf g) (hn : n = nS g) (h6 : n < 6) (hwv : w < nV g) (h : RS b g x y)
    (h1 : x2 (3 * n + (b + 9)) 2 = nI 1 ∧ x2 (3 * n + (b + 9)) 3 = st) (h2 : x2 (3 * n + (b + 10)) 0 = x (w + (b + 5)) 0 + o ∧ x2 (3 * n + (b + 10)) 1 = x (w + (b + 5)) 1 ∧ x2 (3 * n + (b + 10)) 2 = x (w + (b + 5)) 2 ∧ x2 (3 * n + (b + 10)) 3 = h0) (h3 : x2 (3 * n + (b + 11)) 0 = va) (hc : x2 b 5 = nI (n + 1))
    (hx : ∀ i k, ¬ (3 * n + (b + 9) ≤ i ∧ i ≤ 3 * n + (b + 11)) → ¬ (i = b ∧ k = 5) → x2 i k = x i k) : RS b (gAS g n (nI w) o h0 st va) x2 y := by
  obtain ⟨k0, k2, k3, k4, k5, k6, k7⟩ := h
  obtain ⟨nv4, ns6, nm8, -⟩ := wf_n hw
  obtain ⟨G, hG⟩ : ∃ G, G = gAS g n (nI w) o h0 st va := ⟨_, rfl⟩
  have hg : ∀ k, k ≠ 7 → ¬ (28 + 21 * n ≤ k ∧ k < 28 + 21 * n + 6) → G k = g k := fun k q1 q2 => by
    rw [hG]
    exact (gU_ne (by omega)).trans ((gU_ne (by omega)).trans ((gU_ne q1).trans ((gU_ne (by omega)).trans ((gU_ne (by omega)).trans ((gU_ne (by omega)).trans ((gU_ne (by omega)).trans (gU_ne (by omega))))))))
  have e7 : G 7 = nI (n + 1) := by rw [hG]; exact (gU_ne (by omega)).trans ((gU_ne (by omega)).trans (gU_in _ _ _))
  have e0 : G (28 + 21 * n + 0) = nI w := by rw [hG]; exact (gU_ne (by omega)).trans ((gU_ne (by omega)).trans ((gU_ne (by omega)).trans ((gU_ne (by omega)).trans ((gU_ne (by omega)).trans ((gU_ne (by omega)).trans ((gU_ne (by omega)).trans (gU_in _ _ _)))))))
  have e1 : G (28 + 21 * n + 1) = o := by rw [hG]; exact (gU_ne (by omega)).trans ((gU_ne (by omega)).trans ((gU_ne (by omega)).trans ((gU_ne (by omega)).trans ((gU_ne (by omega)).trans ((gU_ne (by omega)).trans (gU_in _ _ _))))))
  have e2 : G (28 + 21 * n + 2) = h0 := by rw [hG]; exact (gU_ne (by omega)).trans ((gU_ne (by omega)).trans ((gU_ne (by omega)).trans ((gU_ne (by omega)).trans ((gU_ne (by omega)).trans (gU_in _ _ _)))))
  have e3 : G (28 + 21 * n + 3) = st := by rw [hG]; exact (gU_ne (by omega)).trans ((gU_ne (by omega)).trans ((gU_ne (by omega)).trans ((gU_ne (by omega)).trans (gU_in _ _ _))))
  have e4 : G (28 + 21 * n + 4) = nI 1 := by rw [hG]; exact gU_in _ _ _
  have e5 : G (28 + 21 * n + 5 + 0) = va := by rw [hG]; exact (gU_ne (by omega)).trans (gU_in _ _ _)
  rw [← hG]
  have eV : nV G = nV g := by unfold nV; rw [zg (hg 6 (by decide) (by omega))]
  have eS : nS G = n + 1 := by
    unfold nS gz
    rw [e7, nI_t (by omega)]
    exact Int.toNat_natCast _
  have eM : nM G = nM g := by unfold nM; rw [zg (hg 8 (by decide) (by omega))]
  have hv : ∀ v j, v < nV g → j < 3 → G (16 + 3 * v + j) = g (16 + 3 * v + j) := fun v j q1 q2 => hg _ (by omega) (by omega)
  refine ⟨rs0_tr k0 (fun k hk => hx _ _ (by omega) (by omega)) (fun k hk => hg k (by omega) (by omega)) ⟨?_, hc.trans e7.symm, ?_⟩, ?_, rsv_tr k3 eV hv (fun v j hv => hx _ _ (by omega) (by omega)), fun a2 ha => ?_, rsm_tr k5 eM (fun m _ _ _ => hg _ (by omega) (by omega)) (fun m j hm => hx _ _ (by omega) (by omega)), rsq_tr k6 eM (fun m _ _ _ => hg _ (by omega) (by omega)) (fun m j hm => hx _ _ (by omega) (by omega)), rsf_tr hw k7 hv (fun _ _ _ => hg _ (by omega) (by omega)) (fun j => hx _ _ (by omega) (by omega))⟩
  · rw [hx _ _ (by omega) (by omega), hg 6 (by decide) (by omega)]; exact k0.1.1
  · rw [hx _ _ (by omega) (by omega), hg 8 (by decide) (by omega)]; exact k0.1.2.2
  · unfold rsr; rw [zg (hg 3 (by decide) (by omega))]; exact k2
  · rw [eS] at ha
    by_cases q : a2 = n
    · subst q
      have esV : sV G a2 = w := by unfold sV gz; rw [e0, nI_t (by omega)]; exact Int.toNat_natCast _
      have esW : sW G a2 = 1 := by unfold sW gz; rw [e4]; rfl
      obtain ⟨v1, v2, v3⟩ := k3 w hwv
      rw [esV, esW, e4, e3, e2, zg (hv w 0 hwv (by decide)), hv w 1 hwv (by decide), hv w 2 hwv (by decide), ← v2, ← v3]
      refine ⟨h1, ⟨h2.1.trans ?_, h2.2⟩, fun k hk => ?_⟩
      · rw [v1]
        unfold gz
        rw [e1, ← gI_add, gI_self, gI_self]
      · obtain rfl : k = 0 := by omega
        exact h3.trans e5.symm
    · exact rss_1 hw (show a2 < nS g by omega) k4 hv (fun _ _ => hg _ (by omega) (by omega)) (fun i j _ _ => hx _ _ (by omega) (by omega))
theorem RS_VA {b a : Nat} {g : Nat → Int32} {x x2 : gk_X} {y : gk_Y} {v : Int32} (hw : gWf g) (ha : a < nS g) (h16 : sW g a < 16) (h : RS b g x y) (h1 : x2 (3 * a + (b + 11)) (sW g a) = v) (hc : x2 (3 * a + (b + 9)) 2 = nI (sW g a + 1))
    (hx : ∀ i k, ¬ (i = 3 * a + (b + 11) ∧ k = sW g a) → ¬ (i = 3 * a + (b + 9) ∧ k = 2) → x2 i k = x i k) : RS b (gVA g a v) x2 y := by
  obtain ⟨k0, k2, k3, k4, k5, k6, k7⟩ := h
  obtain ⟨nv4, ns6, nm8, -⟩ := wf_n hw
  obtain ⟨G, hG⟩ : ∃ G, G = gVA g a v := ⟨_, rfl⟩
  have hg : ∀ k, k ≠ 28 + 21 * a + 4 → k ≠ 28 + 21 * a + 5 + sW g a → G k = g k := fun k q1 q2 => by
    rw [hG]
    exact (gU_ne q1).trans (gU_ne q2)
  have e4 : G (28 + 21 * a + 4) = nI (sW g a + 1) := by rw [hG]; exact gU_in _ _ _
  have e5 : G (28 + 21 * a + 5 + sW g a) = v := by rw [hG]; exact (gU_ne (by omega)).trans (gU_in _ _ _)
  rw [← hG]
  have eV : nV G = nV g := by unfold nV; rw [zg (hg 6 (by omega) (by omega))]
  have eS : nS G = nS g := by unfold nS; rw [zg (hg 7 (by omega) (by omega))]
  have eM : nM G = nM g := by unfold nM; rw [zg (hg 8 (by omega) (by omega))]
  have hv : ∀ v j, v < nV g → j < 3 → G (16 + 3 * v + j) = g (16 + 3 * v + j) := fun v j q1 q2 => hg _ (by omega) (by omega)
  refine ⟨rs0_tr k0 (fun k hk => hx _ _ (by omega) (by omega)) (fun k hk => hg k (by omega) (by omega)) ⟨?_, ?_, ?_⟩, ?_, rsv_tr k3 eV hv (fun v j hv => hx _ _ (by omega) (by omega)), fun a2 ha2 => ?_, rsm_tr k5 eM (fun m _ _ _ => hg _ (by omega) (by omega)) (fun m j hm => hx _ _ (by omega) (by omega)), rsq_tr k6 eM (fun m _ _ _ => hg _ (by omega) (by omega)) (fun m j hm => hx _ _ (by omega) (by omega)), rsf_tr hw k7 hv (fun _ _ _ => hg _ (by omega) (by omega)) (fun j => hx _ _ (by omega) (by omega))⟩
  · rw [hx _ _ (by omega) (by omega), hg 6 (by omega) (by omega)]; exact k0.1.1
  · rw [hx _ _ (by omega) (by omega), hg 7 (by omega) (by omega)]; exact k0.1.2.1
  · rw [hx _ _ (by omega) (by omega), hg 8 (by omega) (by omega)]; exact k0.1.2.2
  · unfold rsr; rw [zg (hg 3 (by omega) (by omega))]; exact k2
  · rw [eS] at ha2
    by_cases q : a2 = a
    · subst q
      obtain ⟨s1, -⟩ := hw.2.2.1 a2 ha
      have esV : sV G a2 = sV g a2 := by unfold sV; rw [zg (hg (28 + 21 * a2 + 0) (by omega) (by omega))]
      have esW : sW G a2 = sW g a2 + 1 := by unfold sW gz; rw [e4, nI_t (by omega)]; exact Int.toNat_natCast _
      have hsv : sV g a2 < nV g := by unfold sV nV; omega
      obtain ⟨⟨q1, q2⟩, q3, q4⟩ := k4 a2 ha
      rw [esV, esW, e4, hg (28 + 21 * a2 + 3) (by omega) (by omega), hg (28 + 21 * a2 + 2) (by omega) (by omega), zg (hg (28 + 21 * a2 + 1) (by omega) (by omega)), zg (hv _ 0 hsv (by decide)), hv _ 1 hsv (by decide), hv _ 2 hsv (by decide), hx _ 3 (by omega) (by omega), hx (3 * a2 + (b + 10)) 0 (by omega) (by omega), hx (3 * a2 + (b + 10)) 1 (by omega) (by omega), hx (3 * a2 + (b + 10)) 2 (by omega) (by omega), hx (3 * a2 + (b + 10)) 3 (by omega) (by omega)]
      refine ⟨⟨hc, q2⟩, q3, fun k hk => ?_⟩
      by_cases r : k = sW g a2
      · subst r; exact h1.trans e5.symm
      · rw [hx _ k (by omega) (by omega), hg _ (by omega) (by omega)]
        exact q4 k (by omega)
    · exact rss_1 hw ha2 k4 hv (fun j _ => hg _ (by omega) (by omega)) (fun i j _ _ => hx _ _ (by omega) (by omega))
theorem RS_AM {b n : Nat} {g : Nat → Int32} {x x2 : gk_X} {y : gk_Y} {a s e d : Int32} (hw : gWf g) (hz : gWz g) (hn : n = nM g) (h8 : n < 8) (h : RS b g x y) (h1 : x2 (2 * n + (b + 27)) 1 = a ∧ x2 (2 * n + (b + 27)) 2 = s ∧ x2 (2 * n + (b + 27)) 3 = e ∧ x2 (2 * n + (b + 27)) 4 = d) (h2 : ∀ k, k < 256 → x2 (2 * n + (b + 28)) k = 0) (hc : x2 b 6 = nI (n + 1))
    (hx : ∀ i k, i ≠ 2 * n + (b + 27) → i ≠ 2 * n + (b + 28) → ¬ (i = b ∧ k = 6) → x2 i k = x i k) : RS b (gAM g n a s e d) x2 y := by
  obtain ⟨k0, k2, k3, k4, k5, k6, k7⟩ := h
  obtain ⟨nv4, ns6, nm8, -⟩ := wf_n hw
  obtain ⟨G, hG⟩ : ∃ G, G = gAM g n a s e d := ⟨_, rfl⟩
  have hg : ∀ k, k ≠ 8 → ¬ (154 + 4 * n ≤ k ∧ k < 154 + 4 * n + 4) → G k = g k := fun k q1 q2 => by
    rw [hG]
    exact (gU_ne q1).trans ((gU_ne (by omega)).trans ((gU_ne (by omega)).trans ((gU_ne (by omega)).trans (gU_ne (by omega)))))
  have e8 : G 8 = nI (n + 1) := by rw [hG]; exact gU_in _ _ _
  have e0 : G (154 + 4 * n + 0) = a := by rw [hG]; exact (gU_ne (by omega)).trans ((gU_ne (by omega)).trans ((gU_ne (by omega)).trans ((gU_ne (by omega)).trans (gU_in _ _ _))))
  have e1 : G (154 + 4 * n + 1) = s := by rw [hG]; exact (gU_ne (by omega)).trans ((gU_ne (by omega)).trans ((gU_ne (by omega)).trans (gU_in _ _ _)))
  have e2 : G (154 + 4 * n + 2) = e := by rw [hG]; exact (gU_ne (by omega)).trans ((gU_ne (by omega)).trans (gU_in _ _ _))
  have e3 : G (154 + 4 * n + 3) = d := by rw [hG]; exact (gU_ne (by omega)).trans (gU_in _ _ _)
  rw [← hG]
  have eV : nV G = nV g := by unfold nV; rw [zg (hg 6 (by omega) (by omega))]
  have eS : nS G = nS g := by unfold nS; rw [zg (hg 7 (by omega) (by omega))]
  have eM : nM G = n + 1 := by
    unfold nM gz
    rw [e8, nI_t (by omega)]
    exact Int.toNat_natCast _
  have hv : ∀ v j, v < nV g → j < 3 → G (16 + 3 * v + j) = g (16 + 3 * v + j) := fun v j q1 q2 => hg _ (by omega) (by omega)
  refine ⟨rs0_tr k0 (fun k hk => hx _ _ (by omega) (by omega) (by omega)) (fun k hk => hg k (by omega) (by omega)) ⟨?_, ?_, hc.trans e8.symm⟩, ?_, rsv_tr k3 eV hv (fun v j hv => hx _ _ (by omega) (by omega) (by omega)), fun a2 ha2 => ?_, fun m hm => ?_, fun m hm k hk => ?_, rsf_tr hw k7 hv (fun _ _ _ => hg _ (by omega) (by omega)) (fun j => hx _ _ (by omega) (by omega) (by omega))⟩
  · rw [hx _ _ (by omega) (by omega) (by omega), hg 6 (by omega) (by omega)]; exact k0.1.1
  · rw [hx _ _ (by omega) (by omega) (by omega), hg 7 (by omega) (by omega)]; exact k0.1.2.1
  · unfold rsr; rw [zg (hg 3 (by omega) (by omega))]; exact k2
  · rw [eS] at ha2
    exact rss_1 hw ha2 k4 hv (fun j _ => hg _ (by omega) (by omega)) (fun i j _ _ => hx _ _ (by omega) (by omega) (by omega))
  · rw [eM] at hm
    by_cases q : m = n
    · subst q; rw [e0, e1, e2, e3]; exact h1
    · have q2 : m < nM g := by omega
      rw [hx _ _ (by omega) (by omega) (by omega), hx _ _ (by omega) (by omega) (by omega), hx _ _ (by omega) (by omega) (by omega), hx _ _ (by omega) (by omega) (by omega), hg (154 + 4 * m + 0) (by omega) (by omega), hg (154 + 4 * m + 1) (by omega) (by omega), hg (154 + 4 * m + 2) (by omega) (by omega), hg (154 + 4 * m + 3) (by omega) (by omega)]
      exact k5 m q2
  · rw [eM] at hm
    by_cases q : m = n
    · subst q
      rw [h2 k hk, hg (186 + 256 * m + k) (by omega) (by omega)]
      exact (hz m (by omega) h8 k hk).symm
    · rw [hx _ _ (by omega) (by omega) (by omega), hg (186 + 256 * m + k) (by omega) (by omega)]
      exact k6 m (by omega) k hk
theorem RS_W {b m : Nat} {g : Nat → Int32} {x x2 : gk_X} {y : gk_Y} {d : Int32} (hw : gWf g) (hm : m < nM g) (h : RS b g x y) (h1 : x2 (2 * m + (b + 27)) 4 = d) (hx : ∀ i k, ¬ (i = 2 * m + (b + 27) ∧ k = 4) → x2 i k = x i k) : RS b (gU g (154 + 4 * m + 3) d) x2 y := by
  obtain ⟨k0, k2, k3, k4, k5, k6, k7⟩ := h
  obtain ⟨nv4, ns6, nm8, -⟩ := wf_n hw
  obtain ⟨G, hG⟩ : ∃ G, G = gU g (154 + 4 * m + 3) d := ⟨_, rfl⟩
  have hg : ∀ k, k ≠ 154 + 4 * m + 3 → G k = g k := fun k q1 => by rw [hG]; exact gU_ne q1
  have e3 : G (154 + 4 * m + 3) = d := by rw [hG]; exact gU_in _ _ _
  rw [← hG]
  have eV : nV G = nV g := by unfold nV; rw [zg (hg 6 (by omega))]
  have eS : nS G = nS g := by unfold nS; rw [zg (hg 7 (by omega))]
  have eM : nM G = nM g := by unfold nM; rw [zg (hg 8 (by omega))]
  have hv : ∀ v j, v < nV g → j < 3 → G (16 + 3 * v + j) = g (16 + 3 * v + j) := fun v j q1 q2 => hg _ (by omega)
  refine ⟨rs0_tr k0 (fun k hk => hx _ _ (by omega)) (fun k hk => hg k (by omega)) ⟨?_, ?_, ?_⟩, ?_, rsv_tr k3 eV hv (fun v j hv => hx _ _ (by omega)), fun a2 ha2 => ?_, fun q hq => ?_, rsq_tr k6 eM (fun m _ _ _ => hg _ (by omega)) (fun m j hm => hx _ _ (by omega)), rsf_tr hw k7 hv (fun _ _ _ => hg _ (by omega)) (fun j => hx _ _ (by omega))⟩
  · rw [hx _ _ (by omega), hg 6 (by omega)]; exact k0.1.1
  · rw [hx _ _ (by omega), hg 7 (by omega)]; exact k0.1.2.1
  · rw [hx _ _ (by omega), hg 8 (by omega)]; exact k0.1.2.2
  · unfold rsr; rw [zg (hg 3 (by omega))]; exact k2
  · rw [eS] at ha2
    exact rss_1 hw ha2 k4 hv (fun j _ => hg _ (by omega)) (fun i j _ _ => hx _ _ (by omega))
  · rw [eM] at hq
    obtain ⟨q1, q2, q3, q4⟩ := k5 q hq
    rw [hx _ 1 (by omega), hx _ 2 (by omega), hx _ 3 (by omega), hg (154 + 4 * q + 0) (by omega), hg (154 + 4 * q + 1) (by omega), hg (154 + 4 * q + 2) (by omega)]
    refine ⟨q1, q2, q3, ?_⟩
    by_cases r : q = m
    · subst r; rw [e3]; exact h1
    · rw [hx _ 4 (by omega), hg (154 + 4 * q + 3) (by omega)]; exact q4
end GKV

/-! THE STATE: every change keeps it well formed -/
section GKV
variable {c : ByteArray} {P : gk_C} {cs : Nat → Option gk_M0} {rt : Option FieldType} {uf : Nat} {sc : Option Nat} {K : gk_K} {V : gk_V}
variable {L : List (Option Value)} {r : List Value} {n : Nat} {fl : gk_F} {x : gk_X} {y : gk_Y} {u pc pc2 : Nat}
theorem wfv_tr {g g2 : Nat → Int32} (h : wfv g) (hn : nV g2 = nV g) (hg : ∀ v j, v < nV g → j < 3 → g2 (16 + 3 * v + j) = g (16 + 3 * v + j)) : wfv g2 := fun v hv => by
  rw [hn] at hv
  rw [zg (hg v 0 hv (by decide)), zg (hg v 1 hv (by decide)), zg (hg v 2 hv (by decide))]
  exact h v hv
theorem wfs_1 {g g2 : Nat → Int32} {a : Nat} (h : wfs g) (ha : a < nS g) (h6 : gz g 6 ≤ gz g2 6) (hg : ∀ j, j < 21 → g2 (28 + 21 * a + j) = g (28 + 21 * a + j)) : (0 ≤ gz g2 (28 + 21 * a + 0) ∧ gz g2 (28 + 21 * a + 0) < gz g2 6) ∧ (-1000 ≤ gz g2 (28 + 21 * a + 1) ∧ gz g2 (28 + 21 * a + 1) ≤ 1000) ∧ (0 ≤ gz g2 (28 + 21 * a + 2) ∧ gz g2 (28 + 21 * a + 2) ≤ 500) ∧ (1 ≤ gz g2 (28 + 21 * a + 3) ∧ gz g2 (28 + 21 * a + 3) ≤ 10) ∧ (1 ≤ gz g2 (28 + 21 * a + 4) ∧ gz g2 (28 + 21 * a + 4) ≤ 16) ∧ ∀ k, k < sW g2 a → -99 ≤ gz g2 (28 + 21 * a + 5 + k) ∧ gz g2 (28 + 21 * a + 5 + k) ≤ 99 := by
  obtain ⟨s1, s2, s3, s4, s5, s6⟩ := h a ha
  have eW : sW g2 a = sW g a := by unfold sW; rw [zg (hg 4 (by decide))]
  have hW : sW g a ≤ 16 := by unfold sW; omega
  rw [eW, zg (hg 0 (by decide)), zg (hg 1 (by decide)), zg (hg 2 (by decide)), zg (hg 3 (by decide)), zg (hg 4 (by decide))]
  refine ⟨by omega, s2, s3, s4, s5, fun k hk => ?_⟩
  have := hg (5 + k) (by omega)
  rw [← Nat.add_assoc] at this
  rw [zg this]
  exact s6 k hk
theorem wfm_tr {g g2 : Nat → Int32} (h : wfm g) (hn : nM g2 = nM g) (hg : ∀ m j, m < nM g → j < 4 → g2 (154 + 4 * m + j) = g (154 + 4 * m + j)) : wfm g2 := fun m hm => by
  rw [hn] at hm
  rw [zg (hg m 0 hm (by decide)), zg (hg m 1 hm (by decide)), zg (hg m 2 hm (by decide)), zg (hg m 3 hm (by decide))]
  exact h m hm
theorem wff_tr {g g2 : Nat → Int32} (h : wff g) (h6 : gz g 6 ≤ gz g2 6) (hg : ∀ k, 10 ≤ k → k ≤ 14 → g2 k = g k) : wff g2 := by
  unfold wff at h ⊢
  rw [hg 10 (by decide) (by decide), zg (hg 11 (by decide) (by decide)), zg (hg 12 (by decide) (by decide)), zg (hg 13 (by decide) (by decide)), zg (hg 14 (by decide) (by decide))]
  rcases h with ⟨e, h1, h2⟩ | h | h
  · exact Or.inl ⟨e, ⟨h1.1, by omega⟩, h2⟩
  · exact Or.inr (Or.inl h)
  · exact Or.inr (Or.inr h)
theorem gRz_tr {g g2 : Nat → Int32} (h : gOK g) (hn : nM g2 = nM g) (hg : ∀ m k, m < 8 → k < 256 → g2 (186 + 256 * m + k) = g (186 + 256 * m + k)) : gWr g2 ∧ gWz g2 := by
  have h8 := (nM_8 h.1).1
  refine ⟨fun m hm k hk => ?_, fun m h1 h2 k hk => ?_⟩
  · rw [hn] at hm
    rw [zg (hg m k (by omega) hk)]
    exact h.2.1 m hm k hk
  · rw [hn] at h1
    rw [hg m k h2 hk]
    exact h.2.2 m h1 h2 k hk
theorem gOK_lo {g g2 : Nat → Int32} (h : gOK g) (hg : ∀ k, 6 ≤ k → k ≠ 9 → g2 k = g k) (h0 : wf0 g2) : gOK g2 := by
  obtain ⟨⟨-, w1, w2, w3, w4⟩, -⟩ := id h
  have e6 := zg (hg 6 (by decide) (by decide))
  have eV : nV g2 = nV g := by unfold nV; rw [e6]
  have eS : nS g2 = nS g := by unfold nS; rw [zg (hg 7 (by decide) (by decide))]
  have eM : nM g2 = nM g := by unfold nM; rw [zg (hg 8 (by decide) (by decide))]
  refine ⟨⟨h0, wfv_tr w1 eV (fun _ _ _ _ => hg _ (by omega) (by omega)), fun a ha => ?_, wfm_tr w3 eM (fun _ _ _ _ => hg _ (by omega) (by omega)), wff_tr w4 (by omega) (fun _ _ _ => hg _ (by omega) (by omega))⟩, gRz_tr h eM (fun _ _ _ _ => hg _ (by omega) (by omega))⟩
  rw [eS] at ha
  exact wfs_1 w2 ha (by omega) (fun _ _ => hg _ (by omega) (by omega))
theorem gOK_0 {g : Nat → Int32} {v : Int32} (h : gOK g) (hv : 100 ≤ v ∧ v ≤ 1000) : gOK (gU g 0 v) := by
  have hb := bt (a := 100) (b := 1000) ⟨by decide, by decide⟩ ⟨by decide, by decide⟩ hv
  obtain ⟨c0, c1, c2, c3, c4, c5, c6, c7, c8⟩ := h.1.1
  refine gOK_lo h (fun k h1 h2 => gU_ne (by omega)) ⟨?_, ?_, ?_, ?_, ?_, ?_, ?_, ?_, ?_⟩
  · rw [zU_in]; exact hb
  all_goals first | (rw [zU_ne (by decide)]; assumption) | (rw [gU_ne (by decide)]; assumption)
theorem gOK_1 {g : Nat → Int32} {v : Int32} (h : gOK g) (hv : -90 ≤ v ∧ v ≤ 90) : gOK (gU g 1 v) := by
  have hb := bt (a := -90) (b := 90) ⟨by decide, by decide⟩ ⟨by decide, by decide⟩ hv
  obtain ⟨c0, c1, c2, c3, c4, c5, c6, c7, c8⟩ := h.1.1
  refine gOK_lo h (fun k h1 h2 => gU_ne (by omega)) ⟨?_, ?_, ?_, ?_, ?_, ?_, ?_, ?_, ?_⟩
  case refine_2 => rw [zU_in]; exact hb
  all_goals first | (rw [zU_ne (by decide)]; assumption) | (rw [gU_ne (by decide)]; assumption)
theorem gOK_2 {g : Nat → Int32} {v : Int32} (h : gOK g) (hv : v = 0 ∨ v = 1) : gOK (gU g 2 v) := by
  obtain ⟨c0, c1, c2, c3, c4, c5, c6, c7, c8⟩ := h.1.1
  refine gOK_lo h (fun k h1 h2 => gU_ne (by omega)) ⟨?_, ?_, ?_, ?_, ?_, ?_, ?_, ?_, ?_⟩
  case refine_3 => rw [gU_in]; exact hv
  all_goals first | (rw [zU_ne (by decide)]; assumption) | (rw [gU_ne (by decide)]; assumption)
theorem gOK_5 {g : Nat → Int32} {v : Int32} (h : gOK g) (hv : v = 0 ∨ v = 1) : gOK (gU g 5 v) := by
  obtain ⟨c0, c1, c2, c3, c4, c5, c6, c7, c8⟩ := h.1.1
  refine gOK_lo h (fun k h1 h2 => gU_ne (by omega)) ⟨?_, ?_, ?_, ?_, ?_, ?_, ?_, ?_, ?_⟩
  case refine_6 => rw [gU_in]; exact hv
  all_goals first | (rw [zU_ne (by decide)]; assumption) | (rw [gU_ne (by decide)]; assumption)
theorem gOK_4 {g : Nat → Int32} {v : Int32} (h : gOK g) (hv : 0 ≤ v ∧ v ≤ 99) : gOK (gU g 4 v) := by
  have hb := bt (a := 0) (b := 99) ⟨by decide, by decide⟩ ⟨by decide, by decide⟩ hv
  obtain ⟨c0, c1, c2, c3, c4, c5, c6, c7, c8⟩ := h.1.1
  refine gOK_lo h (fun k h1 h2 => gU_ne (by omega)) ⟨?_, ?_, ?_, ?_, ?_, ?_, ?_, ?_, ?_⟩
  case refine_5 => rw [zU_in]; exact hb
  all_goals first | (rw [zU_ne (by decide)]; assumption) | (rw [gU_ne (by decide)]; assumption)
theorem gOK_3 {g : Nat → Int32} {v : Int32} (h : gOK g) (hv : 0 ≤ v) : gOK (gU g 3 v) := by
  have hb := bt (a := 0) (b := 2147483647) ⟨by decide, by decide⟩ ⟨by decide, by decide⟩ ⟨hv, le_mx v⟩
  obtain ⟨c0, c1, c2, c3, c4, c5, c6, c7, c8⟩ := h.1.1
  refine gOK_lo h (fun k h1 h2 => gU_ne (by omega)) ⟨?_, ?_, ?_, ?_, ?_, ?_, ?_, ?_, ?_⟩
  case refine_4 => rw [zU_in]; exact hb.1
  all_goals first | (rw [zU_ne (by decide)]; assumption) | (rw [gU_ne (by decide)]; assumption)
theorem gOK_AV {g : Nat → Int32} {a s e : Int32} (h : gOK g) (h4 : nV g < 4) (ha : -20000 ≤ a ∧ a ≤ 20000) (hs : -50 ≤ s ∧ s ≤ 50) (he : 100 ≤ e ∧ e ≤ 5000) : gOK (gAV g (nV g) a s e) := by
  have ba := bt (a := -20000) (b := 20000) ⟨by decide, by decide⟩ ⟨by decide, by decide⟩ ha
  have bs := bt (a := -50) (b := 50) ⟨by decide, by decide⟩ ⟨by decide, by decide⟩ hs
  have be := bt (a := 100) (b := 5000) ⟨by decide, by decide⟩ ⟨by decide, by decide⟩ he
  obtain ⟨nv4, ns6, nm8, z6, z7, z8⟩ := wf_n h.1
  obtain ⟨⟨w0, w1, w2, w3, w4⟩, -⟩ := id h
  obtain ⟨n, hn⟩ : ∃ n, n = nV g := ⟨_, rfl⟩
  rw [← hn] at h4 ⊢
  have hg : ∀ k, k ≠ 6 → ¬ (16 + 3 * n ≤ k ∧ k < 16 + 3 * n + 3) → gAV g n a s e k = g k := fun k q1 q2 => (gU_ne q1).trans ((gU_ne (by omega)).trans ((gU_ne (by omega)).trans (gU_ne (by omega))))
  have e6 : gz (gAV g n a s e) 6 = (n + 1 : Nat) := by unfold gz; rw [show gAV g n a s e 6 = nI (n + 1) from gU_in _ _ _, nI_t (by omega)]
  have e0 : gAV g n a s e (16 + 3 * n + 0) = a := (gU_ne (by omega)).trans ((gU_ne (by omega)).trans ((gU_ne (by omega)).trans (gU_in _ _ _)))
  have e1 : gAV g n a s e (16 + 3 * n + 1) = s := (gU_ne (by omega)).trans ((gU_ne (by omega)).trans (gU_in _ _ _))
  have e2 : gAV g n a s e (16 + 3 * n + 2) = e := (gU_ne (by omega)).trans (gU_in _ _ _)
  have eV : nV (gAV g n a s e) = n + 1 := by unfold nV; rw [e6]; exact Int.toNat_natCast _
  have eS : nS (gAV g n a s e) = nS g := by unfold nS; rw [zg (hg 7 (by decide) (by omega))]
  have eM : nM (gAV g n a s e) = nM g := by unfold nM; rw [zg (hg 8 (by decide) (by omega))]
  refine ⟨⟨?_, fun v hv => ?_, fun a2 ha2 => ?_, wfm_tr w3 eM (fun m _ _ _ => hg _ (by omega) (by omega)), wff_tr w4 (by omega) (fun _ _ _ => hg _ (by omega) (by omega))⟩, gRz_tr h eM (fun m k _ _ => hg _ (by omega) (by omega))⟩
  · unfold wf0 at w0 ⊢
    rw [zg (hg 0 (by decide) (by omega)), zg (hg 1 (by decide) (by omega)), hg 2 (by decide) (by omega), zg (hg 3 (by decide) (by omega)), zg (hg 4 (by decide) (by omega)), hg 5 (by decide) (by omega), e6, zg (hg 7 (by decide) (by omega)), zg (hg 8 (by decide) (by omega))]
    obtain ⟨c0, c1, c2, c3, c4, c5, c6, c7, c8⟩ := w0
    exact ⟨c0, c1, c2, c3, c4, c5, by omega, c7, c8⟩
  · rw [eV] at hv
    by_cases q : v = n
    · subst q
      unfold gz
      rw [e0, e1, e2]
      exact ⟨ba, bs, be⟩
    · rw [zg (hg (16 + 3 * v + 0) (by omega) (by omega)), zg (hg (16 + 3 * v + 1) (by omega) (by omega)), zg (hg (16 + 3 * v + 2) (by omega) (by omega))]
      exact w1 v (by omega)
  · rw [eS] at ha2
    exact wfs_1 w2 ha2 (by omega) (fun _ _ => hg _ (by omega) (by omega))
theorem gOK_AS {g : Nat → Int32} {w : Nat} {o h0 st va : Int32} (h : gOK g) (h6 : nS g < 6) (hw : w < nV g) (ho : -1000 ≤ o ∧ o ≤ 1000) (hh : 0 ≤ h0 ∧ h0 ≤ 500) (hs : 1 ≤ st ∧ st ≤ 10) (hv : -99 ≤ va ∧ va ≤ 99) : gOK (gAS g (nS g) (nI w) o h0 st va) := by
  have b1 := bt (a := -1000) (b := 1000) ⟨by decide, by decide⟩ ⟨by decide, by decide⟩ ho
  have b2 := bt (a := 0) (b := 500) ⟨by decide, by decide⟩ ⟨by decide, by decide⟩ hh
  have b3 := bt (a := 1) (b := 10) ⟨by decide, by decide⟩ ⟨by decide, by decide⟩ hs
  have b4 := bt (a := -99) (b := 99) ⟨by decide, by decide⟩ ⟨by decide, by decide⟩ hv
  obtain ⟨nv4, ns6, nm8, z6, z7, z8⟩ := wf_n h.1
  obtain ⟨⟨w0, w1, w2, w3, w4⟩, -⟩ := id h
  obtain ⟨n, hn⟩ : ∃ n, n = nS g := ⟨_, rfl⟩
  rw [← hn] at h6 ⊢
  obtain ⟨G, hG⟩ : ∃ G, G = gAS g n (nI w) o h0 st va := ⟨_, rfl⟩
  have hg : ∀ k, k ≠ 7 → ¬ (28 + 21 * n ≤ k ∧ k < 28 + 21 * n + 6) → G k = g k := fun k q1 q2 => by
    rw [hG]
    exact (gU_ne (by omega)).trans ((gU_ne (by omega)).trans ((gU_ne q1).trans ((gU_ne (by omega)).trans ((gU_ne (by omega)).trans ((gU_ne (by omega)).trans ((gU_ne (by omega)).trans (gU_ne (by omega))))))))
  have e7 : gz G 7 = (n + 1 : Nat) := by unfold gz; rw [hG, show gAS g n (nI w) o h0 st va 7 = nI (n + 1) from (gU_ne (by omega)).trans ((gU_ne (by omega)).trans (gU_in _ _ _)), nI_t (by omega)]
  have e0 : G (28 + 21 * n + 0) = nI w := by rw [hG]; exact (gU_ne (by omega)).trans ((gU_ne (by omega)).trans ((gU_ne (by omega)).trans ((gU_ne (by omega)).trans ((gU_ne (by omega)).trans ((gU_ne (by omega)).trans ((gU_ne (by omega)).trans (gU_in _ _ _)))))))
  have e1 : G (28 + 21 * n + 1) = o := by rw [hG]; exact (gU_ne (by omega)).trans ((gU_ne (by omega)).trans ((gU_ne (by omega)).trans ((gU_ne (by omega)).trans ((gU_ne (by omega)).trans ((gU_ne (by omega)).trans (gU_in _ _ _))))))
  have e2 : G (28 + 21 * n + 2) = h0 := by rw [hG]; exact (gU_ne (by omega)).trans ((gU_ne (by omega)).trans ((gU_ne (by omega)).trans ((gU_ne (by omega)).trans ((gU_ne (by omega)).trans (gU_in _ _ _)))))
  have e3 : G (28 + 21 * n + 3) = st := by rw [hG]; exact (gU_ne (by omega)).trans ((gU_ne (by omega)).trans ((gU_ne (by omega)).trans ((gU_ne (by omega)).trans (gU_in _ _ _))))
  have e4 : G (28 + 21 * n + 4) = nI 1 := by rw [hG]; exact gU_in _ _ _
  have e5 : G (28 + 21 * n + 5 + 0) = va := by rw [hG]; exact (gU_ne (by omega)).trans (gU_in _ _ _)
  rw [← hG]
  have e6 := zg (hg 6 (by decide) (by omega))
  have eV : nV G = nV g := by unfold nV; rw [e6]
  have eS : nS G = n + 1 := by unfold nS; rw [e7]; exact Int.toNat_natCast _
  have eM : nM G = nM g := by unfold nM; rw [zg (hg 8 (by decide) (by omega))]
  refine ⟨⟨?_, wfv_tr w1 eV (fun v _ _ _ => hg _ (by omega) (by omega)), fun a2 ha2 => ?_, wfm_tr w3 eM (fun m _ _ _ => hg _ (by omega) (by omega)), wff_tr w4 (by omega) (fun _ _ _ => hg _ (by omega) (by omega))⟩, gRz_tr h eM (fun m k _ _ => hg _ (by omega) (by omega))⟩
  · unfold wf0 at w0 ⊢
    rw [zg (hg 0 (by decide) (by omega)), zg (hg 1 (by decide) (by omega)), hg 2 (by decide) (by omega), zg (hg 3 (by decide) (by omega)), zg (hg 4 (by decide) (by omega)), hg 5 (by decide) (by omega), e6, e7, zg (hg 8 (by decide) (by omega))]
    obtain ⟨c0, c1, c2, c3, c4, c5, c6, c7, c8⟩ := w0
    exact ⟨c0, c1, c2, c3, c4, c5, c6, by omega, c8⟩
  · rw [eS] at ha2
    by_cases q : a2 = n
    · subst q
      have esW : sW G a2 = 1 := by unfold sW gz; rw [e4]; rfl
      rw [esW, e6]
      unfold gz
      rw [e0, e1, e2, e3, e4, nI_t (by omega), nI_t (by decide)]
      refine ⟨⟨by omega, by unfold gz at z6; omega⟩, b1, b2, b3, by omega, fun k hk => ?_⟩
      obtain rfl : k = 0 := by omega
      rw [e5]
      exact b4
    · exact wfs_1 w2 (show a2 < nS g by omega) (by omega) (fun _ _ => hg _ (by omega) (by omega))
theorem gOK_VA {g : Nat → Int32} {a : Nat} {v : Int32} (h : gOK g) (ha : a < nS g) (h16 : sW g a < 16) (hv : -99 ≤ v ∧ v ≤ 99) : gOK (gVA g a v) := by
  have b4 := bt (a := -99) (b := 99) ⟨by decide, by decide⟩ ⟨by decide, by decide⟩ hv
  obtain ⟨nv4, ns6, nm8, z6, z7, z8⟩ := wf_n h.1
  obtain ⟨⟨w0, w1, w2, w3, w4⟩, -⟩ := id h
  obtain ⟨G, hG⟩ : ∃ G, G = gVA g a v := ⟨_, rfl⟩
  have hg : ∀ k, k ≠ 28 + 21 * a + 4 → k ≠ 28 + 21 * a + 5 + sW g a → G k = g k := fun k q1 q2 => by
    rw [hG]
    exact (gU_ne q1).trans (gU_ne q2)
  have e4 : G (28 + 21 * a + 4) = nI (sW g a + 1) := by rw [hG]; exact gU_in _ _ _
  have e5 : G (28 + 21 * a + 5 + sW g a) = v := by rw [hG]; exact (gU_ne (by omega)).trans (gU_in _ _ _)
  rw [← hG]
  have e6 := zg (hg 6 (by omega) (by omega))
  have eV : nV G = nV g := by unfold nV; rw [e6]
  have eS : nS G = nS g := by unfold nS; rw [zg (hg 7 (by omega) (by omega))]
  have eM : nM G = nM g := by unfold nM; rw [zg (hg 8 (by omega) (by omega))]
  refine ⟨⟨?_, wfv_tr w1 eV (fun v _ _ _ => hg _ (by omega) (by omega)), fun a2 ha2 => ?_, wfm_tr w3 eM (fun m _ _ _ => hg _ (by omega) (by omega)), wff_tr w4 (by omega) (fun _ _ _ => hg _ (by omega) (by omega))⟩, gRz_tr h eM (fun m k _ _ => hg _ (by omega) (by omega))⟩
  · unfold wf0 at w0 ⊢
    rw [zg (hg 0 (by omega) (by omega)), zg (hg 1 (by omega) (by omega)), hg 2 (by omega) (by omega), zg (hg 3 (by omega) (by omega)), zg (hg 4 (by omega) (by omega)), hg 5 (by omega) (by omega), e6, zg (hg 7 (by omega) (by omega)), zg (hg 8 (by omega) (by omega))]
    exact w0
  · rw [eS] at ha2
    by_cases q : a2 = a
    · subst q
      obtain ⟨s1, s2, s3, s4, s5, s6⟩ := w2 a2 ha
      have esW : sW G a2 = sW g a2 + 1 := by unfold sW gz; rw [e4, nI_t (by omega)]; exact Int.toNat_natCast _
      rw [esW, e6, zg (hg (28 + 21 * a2 + 0) (by omega) (by omega)), zg (hg (28 + 21 * a2 + 1) (by omega) (by omega)), zg (hg (28 + 21 * a2 + 2) (by omega) (by omega)), zg (hg (28 + 21 * a2 + 3) (by omega) (by omega)), show gz G (28 + 21 * a2 + 4) = ((sW g a2 + 1 : Nat) : Int) by unfold gz; rw [e4, nI_t (by omega)]]
      refine ⟨s1, s2, s3, s4, by omega, fun k hk => ?_⟩
      by_cases r : k = sW g a2
      · subst r
        unfold gz
        rw [e5]
        exact b4
      · rw [zg (hg _ (by omega) (by omega))]
        exact s6 k (by omega)
    · exact wfs_1 w2 ha2 (by omega) (fun _ _ => hg _ (by omega) (by omega))
theorem gOK_AM {g : Nat → Int32} {a s e d : Int32} (h : gOK g) (h8 : nM g < 8) (ha : -5000 ≤ a ∧ a ≤ 5000) (hs : -100 ≤ s ∧ s ≤ 99) (he : 0 ≤ e ∧ e ≤ 500) (hd : 0 ≤ d ∧ d ≤ 9) : gOK (gAM g (nM g) a s e d) := by
  have b1 := bt (a := -5000) (b := 5000) ⟨by decide, by decide⟩ ⟨by decide, by decide⟩ ha
  have b2 := bt (a := -100) (b := 99) ⟨by decide, by decide⟩ ⟨by decide, by decide⟩ hs
  have b3 := bt (a := 0) (b := 500) ⟨by decide, by decide⟩ ⟨by decide, by decide⟩ he
  have b4 := bt (a := 0) (b := 9) ⟨by decide, by decide⟩ ⟨by decide, by decide⟩ hd
  obtain ⟨nv4, ns6, nm8, z6, z7, z8⟩ := wf_n h.1
  obtain ⟨⟨w0, w1, w2, w3, w4⟩, r1, r2⟩ := id h
  obtain ⟨n, hn⟩ : ∃ n, n = nM g := ⟨_, rfl⟩
  rw [← hn] at h8 ⊢
  obtain ⟨G, hG⟩ : ∃ G, G = gAM g n a s e d := ⟨_, rfl⟩
  have hg : ∀ k, k ≠ 8 → ¬ (154 + 4 * n ≤ k ∧ k < 154 + 4 * n + 4) → G k = g k := fun k q1 q2 => by
    rw [hG]
    exact (gU_ne q1).trans ((gU_ne (by omega)).trans ((gU_ne (by omega)).trans ((gU_ne (by omega)).trans (gU_ne (by omega)))))
  have e8 : gz G 8 = (n + 1 : Nat) := by unfold gz; rw [hG, show gAM g n a s e d 8 = nI (n + 1) from gU_in _ _ _, nI_t (by omega)]
  have e0 : G (154 + 4 * n + 0) = a := by rw [hG]; exact (gU_ne (by omega)).trans ((gU_ne (by omega)).trans ((gU_ne (by omega)).trans ((gU_ne (by omega)).trans (gU_in _ _ _))))
  have e1 : G (154 + 4 * n + 1) = s := by rw [hG]; exact (gU_ne (by omega)).trans ((gU_ne (by omega)).trans ((gU_ne (by omega)).trans (gU_in _ _ _)))
  have e2 : G (154 + 4 * n + 2) = e := by rw [hG]; exact (gU_ne (by omega)).trans ((gU_ne (by omega)).trans (gU_in _ _ _))
  have e3 : G (154 + 4 * n + 3) = d := by rw [hG]; exact (gU_ne (by omega)).trans (gU_in _ _ _)
  rw [← hG]
  have e6 := zg (hg 6 (by decide) (by omega))
  have eV : nV G = nV g := by unfold nV; rw [e6]
  have eS : nS G = nS g := by unfold nS; rw [zg (hg 7 (by decide) (by omega))]
  have eM : nM G = n + 1 := by unfold nM; rw [e8]; exact Int.toNat_natCast _
  refine ⟨⟨?_, wfv_tr w1 eV (fun v _ _ _ => hg _ (by omega) (by omega)), fun a2 ha2 => ?_, fun m hm => ?_, wff_tr w4 (by omega) (fun _ _ _ => hg _ (by omega) (by omega))⟩, fun m hm k hk => ?_, fun m q1 q2 k hk => ?_⟩
  · unfold wf0 at w0 ⊢
    rw [zg (hg 0 (by decide) (by omega)), zg (hg 1 (by decide) (by omega)), hg 2 (by decide) (by omega), zg (hg 3 (by decide) (by omega)), zg (hg 4 (by decide) (by omega)), hg 5 (by decide) (by omega), e6, zg (hg 7 (by decide) (by omega)), e8]
    obtain ⟨c0, c1, c2, c3, c4, c5, c6, c7, c8⟩ := w0
    exact ⟨c0, c1, c2, c3, c4, c5, c6, c7, by omega⟩
  · rw [eS] at ha2
    exact wfs_1 w2 ha2 (by omega) (fun _ _ => hg _ (by omega) (by omega))
  · rw [eM] at hm
    by_cases q : m = n
    · subst q
      unfold gz
      rw [e0, e1, e2, e3]
      exact ⟨b1, b2, b3, b4⟩
    · rw [zg (hg (154 + 4 * m + 0) (by omega) (by omega)), zg (hg (154 + 4 * m + 1) (by omega) (by omega)), zg (hg (154 + 4 * m + 2) (by omega) (by omega)), zg (hg (154 + 4 * m + 3) (by omega) (by omega))]
      exact w3 m (by omega)
  · rw [eM] at hm
    rw [zg (hg (186 + 256 * m + k) (by omega) (by omega))]
    by_cases q : m = n
    · subst q
      unfold gz
      rw [r2 m (by omega) h8 k hk]
      exact ⟨by decide, by decide⟩
    · exact r1 m (by omega) k hk
  · rw [eM] at q1
    rw [hg (186 + 256 * m + k) (by omega) (by omega)]
    exact r2 m (by omega) q2 k hk
theorem gOK_W {g : Nat → Int32} {m : Nat} {d : Int32} (h : gOK g) (hm : m < nM g) (hd : 0 ≤ d ∧ d ≤ 9) : gOK (gU g (154 + 4 * m + 3) d) := by
  have b4 := bt (a := 0) (b := 9) ⟨by decide, by decide⟩ ⟨by decide, by decide⟩ hd
  obtain ⟨nv4, ns6, nm8, z6, z7, z8⟩ := wf_n h.1
  obtain ⟨⟨w0, w1, w2, w3, w4⟩, -⟩ := id h
  obtain ⟨G, hG⟩ : ∃ G, G = gU g (154 + 4 * m + 3) d := ⟨_, rfl⟩
  have hg : ∀ k, k ≠ 154 + 4 * m + 3 → G k = g k := fun k q1 => by rw [hG]; exact gU_ne q1
  have e3 : G (154 + 4 * m + 3) = d := by rw [hG]; exact gU_in _ _ _
  rw [← hG]
  have e6 := zg (hg 6 (by omega))
  have eV : nV G = nV g := by unfold nV; rw [e6]
  have eS : nS G = nS g := by unfold nS; rw [zg (hg 7 (by omega))]
  have eM : nM G = nM g := by unfold nM; rw [zg (hg 8 (by omega))]
  refine ⟨⟨?_, wfv_tr w1 eV (fun v _ _ _ => hg _ (by omega)), fun a2 ha2 => ?_, fun q hq => ?_, wff_tr w4 (by omega) (fun _ _ _ => hg _ (by omega))⟩, gRz_tr h eM (fun m k _ _ => hg _ (by omega))⟩
  · unfold wf0 at w0 ⊢
    rw [zg (hg 0 (by omega)), zg (hg 1 (by omega)), hg 2 (by omega), zg (hg 3 (by omega)), zg (hg 4 (by omega)), hg 5 (by omega), e6, zg (hg 7 (by omega)), zg (hg 8 (by omega))]
    exact w0
  · rw [eS] at ha2
    exact wfs_1 w2 ha2 (by omega) (fun _ _ => hg _ (by omega))
  · rw [eM] at hq
    rw [zg (hg (154 + 4 * q + 0) (by omega)), zg (hg (154 + 4 * q + 1) (by omega)), zg (hg (154 + 4 * q + 2) (by omega))]
    obtain ⟨q1, q2, q3, q4⟩ := w3 q hq
    refine ⟨q1, q2, q3, ?_⟩
    by_cases r : q = m
    · subst r; unfold gz; rw [e3]; exact b4
    · rw [zg (hg (154 + 4 * q + 3) (by omega))]; exact q4
theorem gOK_FO {g : Nat → Int32} {k v a b e : Int32} (h : gOK g) (hf : wff (gFO g k v a b e)) : gOK (gFO g k v a b e) := by
  obtain ⟨nv4, ns6, nm8, z6, z7, z8⟩ := wf_n h.1
  obtain ⟨⟨w0, w1, w2, w3, w4⟩, -⟩ := id h
  obtain ⟨-, hg⟩ := fo_e g k v a b e
  generalize gFO g k v a b e = G at hg hf ⊢
  have e6 := zg (hg 6 (by omega))
  have eV : nV G = nV g := by unfold nV; rw [e6]
  have eS : nS G = nS g := by unfold nS; rw [zg (hg 7 (by omega))]
  have eM : nM G = nM g := by unfold nM; rw [zg (hg 8 (by omega))]
  refine ⟨⟨?_, wfv_tr w1 eV (fun v _ _ _ => hg _ (by omega)), fun a2 ha2 => ?_, wfm_tr w3 eM (fun m _ _ _ => hg _ (by omega)), hf⟩, gRz_tr h eM (fun m k _ _ => hg _ (by omega))⟩
  · unfold wf0 at w0 ⊢
    rw [zg (hg 0 (by omega)), zg (hg 1 (by omega)), hg 2 (by omega), zg (hg 3 (by omega)), zg (hg 4 (by omega)), hg 5 (by omega), e6, zg (hg 7 (by omega)), zg (hg 8 (by omega))]
    exact w0
  · rw [eS] at ha2
    exact wfs_1 w2 ha2 (by omega) (fun _ _ => hg _ (by omega))
theorem gOK_F0 {g : Nat → Int32} {v : Nat} {b e : Int32} (h : gOK g) (hv : v < nV g) (hb : -1000 ≤ b ∧ b ≤ 1000) (he : 0 ≤ e ∧ e ≤ 500) : gOK (gFO g 0 (nI v) b 0 e) := by
  have b1 := bt (a := -1000) (b := 1000) ⟨by decide, by decide⟩ ⟨by decide, by decide⟩ hb
  have b2 := bt (a := 0) (b := 500) ⟨by decide, by decide⟩ ⟨by decide, by decide⟩ he
  obtain ⟨nv4, ns6, nm8, z6, z7, z8⟩ := wf_n h.1
  refine gOK_FO h (Or.inl ?_)
  obtain ⟨⟨e10, e11, e12, e13, e14⟩, hg⟩ := fo_e g 0 (nI v) b 0 e
  rw [zg (hg 6 (by omega))]
  unfold gz at z6 ⊢
  rw [e10, e11, e12, e14, nI_t (by omega)]
  exact ⟨rfl, by omega, b1, b2⟩
theorem gOK_F1 {g : Nat → Int32} {a b e : Int32} (h : gOK g) (ha : -20000 ≤ a ∧ a ≤ 20000) (hb : 100 ≤ b ∧ b ≤ 5000) (he : 0 ≤ e ∧ e ≤ 500) : gOK (gFO g 1 0 a b e) := by
  have b0 := bt (a := -20000) (b := 20000) ⟨by decide, by decide⟩ ⟨by decide, by decide⟩ ha
  have b1 := bt (a := 100) (b := 5000) ⟨by decide, by decide⟩ ⟨by decide, by decide⟩ hb
  have b2 := bt (a := 0) (b := 500) ⟨by decide, by decide⟩ ⟨by decide, by decide⟩ he
  refine gOK_FO h (Or.inr (Or.inl ?_))
  obtain ⟨⟨e10, e11, e12, e13, e14⟩, hg⟩ := fo_e g 1 0 a b e
  unfold gz
  rw [e10, e12, e13, e14]
  exact ⟨rfl, b0, b1, b2⟩
theorem gOK_F2 {g : Nat → Int32} {a : Int32} (h : gOK g) (ha : -100 ≤ a ∧ a ≤ 100) : gOK (gFO g 2 0 a 0 0) := by
  have b0 := bt (a := -100) (b := 100) ⟨by decide, by decide⟩ ⟨by decide, by decide⟩ ha
  refine gOK_FO h (Or.inr (Or.inr ?_))
  obtain ⟨⟨e10, e11, e12, e13, e14⟩, hg⟩ := fo_e g 2 0 a 0 0
  unfold gz
  rw [e10, e12]
  exact ⟨rfl, b0⟩
theorem gOK_Rec {g : Nat → Int32} (h : gOK g) : gOK (gRec g) := by
  obtain ⟨nv4, ns6, nm8, z6, z7, z8⟩ := wf_n h.1
  obtain ⟨⟨w0, w1, w2, w3, w4⟩, r1, r2⟩ := id h
  obtain ⟨e3, e9, hg, hrec, hno⟩ := gRec_e g
  have hb := gk_rs_b w0 (nM g)
  generalize gRec g = G at e3 e9 hg hrec hno ⊢
  have e6 := zg (hg 6 (by omega) (by omega) (by omega))
  have eV : nV G = nV g := by unfold nV; rw [e6]
  have eS : nS G = nS g := by unfold nS; rw [zg (hg 7 (by omega) (by omega) (by omega))]
  have eM : nM G = nM g := by unfold nM; rw [zg (hg 8 (by omega) (by omega) (by omega))]
  refine ⟨⟨?_, wfv_tr w1 eV (fun v _ _ _ => hg _ (by omega) (by omega) (by omega)), fun a2 ha2 => ?_, wfm_tr w3 eM (fun m _ _ _ => hg _ (by omega) (by omega) (by omega)), wff_tr w4 (by omega) (fun _ _ _ => hg _ (by omega) (by omega) (by omega))⟩, fun m hm k hk => ?_, fun m q1 q2 k hk => ?_⟩
  · unfold wf0 at w0 ⊢
    rw [zg (hg 0 (by omega) (by omega) (by omega)), zg (hg 1 (by omega) (by omega) (by omega)), hg 2 (by omega) (by omega) (by omega), zg (hg 4 (by omega) (by omega) (by omega)), hg 5 (by omega) (by omega) (by omega), e6, zg (hg 7 (by omega) (by omega) (by omega)), zg (hg 8 (by omega) (by omega) (by omega))]
    obtain ⟨c0, c1, c2, c3, c4⟩ := w0
    refine ⟨c0, c1, c2, ?_, c4⟩
    unfold gz
    rw [e3, gI_of ⟨by omega, by omega⟩]
    exact hb.1
  · rw [eS] at ha2
    exact wfs_1 w2 ha2 (by omega) (fun _ _ => hg _ (by omega) (by omega) (by omega))
  · rw [eM] at hm
    have := rec_b h.1 hm hk
    unfold gz
    rw [hrec m k hm hk, gI_of ⟨by omega, by omega⟩]
    exact this
  · rw [eM] at q1
    rw [hno m k q1 hk]
    exact r2 m q1 q2 k hk
end GKV

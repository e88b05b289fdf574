/-! THE ENGINE, 9: which references are set matters only where there are references -/
def gk_fe (fl fl2 : gk_F) (n : Nat) : Prop := ∀ i, i < n → ∀ k, (gk_kd i < 11 → k < gk_nf (gk_kd i) → gk_fk (gk_kd i) k = 2 → fl i k = fl2 i k) ∧ (24 ≤ gk_kd i → k < gk_ln i → fl i k = fl2 i k)
theorem gk_fe.rf (fl : gk_F) (n : Nat) : gk_fe fl fl n := fun _ _ _ => ⟨fun _ _ _ => rfl, fun _ _ => rfl⟩
theorem gk_fk_le (ci k : Nat) (h0 : ¬ gk_fk ci k = 0) (h1 : ¬ gk_fk ci k = 1) : gk_fk ci k = 2 := by
  unfold gk_fk at h0 h1 ⊢
  split at h0
  · rename_i h
    rw [if_pos h] at h1
    exfalso
    split at h0
    · rename_i h2
      rw [if_pos h2] at h1
      exact h1 rfl
    · rename_i h2
      rw [if_neg h2] at h1
      split at h0
      · rename_i h3
        rw [if_pos h3] at h1
        split at h0
        · rename_i h4
          rw [if_pos h4] at h1
          exact h1 rfl
        · exact h0 rfl
      · rename_i h3
        rw [if_neg h3] at h1
        split at h0
        · rename_i h4
          rw [if_pos h4] at h1
          split at h0
          · rename_i h5
            rw [if_pos h5] at h1
            exact h1 rfl
          · exact h0 rfl
        · exact h0 rfl
  · rename_i h
    rw [if_neg h]
theorem gk_gc_fe {cl : Nat → ClassId} {ad : Nat → Nat} {fl fl2 : gk_F} {x : gk_X} {y : gk_Y} {n i : Nat} (h : gk_fe fl fl2 n) (hi : i < n) : gk_gc cl ad (fl i) (x i) (y i) i = gk_gc cl ad (fl2 i) (x i) (y i) i := by
  unfold gk_gc
  by_cases hk : gk_kd i < 11
  · rw [if_pos hk, if_pos hk]
    have e : (List.range (gk_nf (gk_kd i))).map (gk_gf ad (fl i) (x i) (y i) i (gk_kd i)) = (List.range (gk_nf (gk_kd i))).map (gk_gf ad (fl2 i) (x i) (y i) i (gk_kd i)) := by
      refine List.map_congr_left (fun k hk2 => ?_)
      unfold gk_gf
      by_cases h0 : gk_fk (gk_kd i) k = 0
      · rw [if_pos h0, if_pos h0]
      rw [if_neg h0, if_neg h0]
      by_cases h1 : gk_fk (gk_kd i) k = 1
      · rw [if_pos h1, if_pos h1]
      rw [if_neg h1, if_neg h1, (h i hi k).1 hk (List.mem_range.mp hk2) (gk_fk_le _ _ h0 h1)]
    rw [e]
  · rw [if_neg hk, if_neg hk]
    by_cases h2 : gk_kd i = 22
    · rw [if_pos h2, if_pos h2]
    rw [if_neg h2, if_neg h2]
    by_cases h3 : gk_kd i = 23
    · rw [if_pos h3, if_pos h3]
    rw [if_neg h3, if_neg h3]
    by_cases h4 : gk_kd i < 22
    · rw [if_pos h4, if_pos h4]
    rw [if_neg h4, if_neg h4]
    have e : (fun k => if k < gk_ln i ∧ fl i k = true then some (ad (i + gk_eo (gk_kd i) k)) else none) = (fun k => if k < gk_ln i ∧ fl2 i k = true then some (ad (i + gk_eo (gk_kd i) k)) else none) := by
      funext k
      by_cases hl : k < gk_ln i
      · rw [(h i hi k).2 (by omega) hl]
      · rw [if_neg (fun q => hl q.1), if_neg (fun q => hl q.1)]
    rw [e]
theorem gk_w_fe {cl : Nat → ClassId} {ad : Nat → Nat} {fl fl2 : gk_F} {x : gk_X} {y : gk_Y} {n : Nat} (h : gk_fe fl fl2 n) : gk_w cl ad n fl x y = gk_w cl ad n fl2 x y := by
  unfold gk_w
  refine List.map_congr_left (fun i hi => ?_)
  rw [gk_gc_fe h (List.mem_range.mp hi)]
theorem gk_In_fe {fl fl2 : gk_F} {n : Nat} (h : gk_fe fl fl2 n) (h1 : gk_In n fl) : gk_In n fl2 := by
  refine ⟨h1.1, fun i k hi hk ht => ?_⟩
  by_cases hd : gk_kd i < 11
  · by_cases h2 : gk_fk (gk_kd i) k = 2
    · exact h1.2 i k hi hk (by rw [(h i hi k).1 hd (by unfold gk_wd at hk; rw [if_pos hd] at hk; exact hk) h2]; exact ht)
    · have h0 : gk_fo (gk_kd i) k = 0 := by
        by_cases q : gk_fo (gk_kd i) k = 0
        · exact q
        · exfalso
          apply h2
          unfold gk_fk
          rw [if_neg q]
      unfold gk_tg
      rw [if_pos hd, h0]
      omega
  · by_cases h4 : 24 ≤ gk_kd i
    · refine h1.2 i k hi hk ?_
      rw [(h i hi k).2 h4 (by unfold gk_wd at hk; rw [if_neg hd] at hk; exact hk)]
      exact ht
    · unfold gk_tg
      rw [if_neg hd]
      have : gk_eo (gk_kd i) k = 0 := by
        unfold gk_eo
        split <;> first | omega | rfl
      rw [this]
      omega
theorem vx_Met_mono {l : Launch} {y : MethodName} {ws : List Cond} {rm : Room} {Pc : Array Value → State → Prop} {Qc Qc2 : Array Value → State → Outcome → State → Prop} {XC XC2 : String → State → State → Prop} {mc ms : Nat} {free : Addr → Prop} (h : vx_Met l y ws rm Pc Qc XC mc ms free) (hQ : ∀ a st o t, Qc a st o t → Qc2 a st o t) (hX : ∀ E st t, XC E st t → XC2 E st t) : vx_Met l y ws rm Pc Qc2 XC2 mc ms free := by
  intro p e h1 h2 h3 s m args below h4 h5 h6 h7
  obtain ⟨n, o, g1, g2, g3, g4⟩ := h p e h1 h2 h3 s m args below h4 h5 h6 h7
  refine ⟨n, o, g1, g2, g3, ?_⟩
  rcases g4 with ⟨g4, g5⟩ | ⟨q, g5, E, ce, L, hh, g6⟩
  · exact Or.inl ⟨hQ _ _ _ _ g4, g5⟩
  · exact Or.inr ⟨q, g5, E, ce, L, hX _ _ _ hh, g6⟩
theorem gk_pst_fe {D : va_G} {cl : Nat → ClassId} {ad : Nat → Nat} {n : Nat} {x : gk_X} {K : gk_K} {Af : Nat → Prop} {o : gk_O} {ad2 : Nat → Nat} {t : State} (h : gk_pst D cl ad n x (fun o n2 fl2 x2 y2 => ∃ fl3, gk_fe fl2 fl3 n2 ∧ K o n2 fl3 x2 y2) Af o ad2 t) : gk_pst D cl ad n x K Af o ad2 t := by
  obtain ⟨n2, fl2, x2, y2, g1, g2, g3, g4, ⟨fl3, e, g5⟩, g6, g7, g8⟩ := h
  exact ⟨n2, fl3, x2, y2, g1, g2, gk_In_fe e g3, g4, g5, by rw [← gk_w_fe e]; exact g6, by rw [← gk_w_fe e]; exact g7, g8⟩
/-- a method's contract, with other marks at its end where they don't matter -/
theorem gk_Mt_fl {l : Launch} {y : MethodName} {ws : List Jvm.Cond} {d uf : Nat} {S S2 : gk_S} (h : gk_Mt l y ws d uf S) (h2 : ∀ as n fl x yy K, S2 as n fl x yy K → S as n fl x yy (fun o n2 fl2 x2 y2 => ∃ fl3, gk_fe fl2 fl3 n2 ∧ K o n2 fl3 x2 y2)) : gk_Mt l y ws d uf S2 := by
  intro D cl ad n fl x yy sz as K hS has
  refine vx_Met_mono (h D cl ad n fl x yy sz as _ (h2 _ _ _ _ _ _ hS) has) (fun a st o t hq => ?_) (fun E st t hq => ?_)
  · obtain ⟨⟨r, ad2, e, hp⟩, hF⟩ := hq
    exact ⟨⟨r, ad2, e, gk_pst_fe hp⟩, hF⟩
  · obtain ⟨⟨ek, ad2, e, hp⟩, hF⟩ := hq
    exact ⟨⟨ek, ad2, e, gk_pst_fe hp⟩, hF⟩

/-! THE TEXT, 9: the class, all its tokens -/
section GKV
variable {c : ByteArray} {P : gk_C} {cs : Nat → Option gk_M0} {rt : Option FieldType} {uf : Nat} {sc : Option Nat} {K : gk_K} {V : gk_V}
variable {L : List (Option Value)} {r : List Value} {n : Nat} {fl : gk_F} {x : gk_X} {y : gk_Y} {u pc pc2 : Nat}
def S_X9_split : gk_S := fun as n fl x y K => ∃ (t : Nat) (B : Nat → Int32), as = [.ref 98, .ref 95] ∧ (n = 202 ∧ fl = gk_fT) ∧ (x 95 1 = nI t) ∧ (t ≤ 500) ∧ (tbA (x 96) t = B) ∧ (∀ (x2 : gk_X) (m : Nat), m ≤ t → tp B t m = t → TA B t (m + 1) x2 → (∀ i k, ¬ (98 ≤ i ∧ i ≤ 101) → x2 i k = x i k) → K (.inl none) n fl x2 y)
theorem r_X9_split (w : gk_W c P cs (fun _ _ => none) rt uf sc K V) {idx : Nat} {t : Nat} {B : Nat → Int32} (hd : decode c pc = .ok (.invokevirtual idx, 3)) (hp : pc + 3 = pc2) (hc : cs idx = some (1, 8, 2, 0, S_X9_split)) (h8 : Nat.ble (r.map Value.category).sum 8 = true) (hp0 : x 95 1 = nI t) (hp1 : t ≤ 500) (hp2 : tbA (x 96) t = B) (kk0 : ∀ (x2 : gk_X) (m : Nat), m ≤ t → tp B t m = t → TA B t (m + 1) x2 → (∀ i k, ¬ (98 ≤ i ∧ i ≤ 101) → x2 i k = x i k) → V pc2 L r 202 gk_fT x2 y u) : V pc L (.ref 95 :: .ref 98 :: r) 202 gk_fT x y u :=
  g_callv w hd hp hc (as := [.ref 98, .ref 95]) rfl h8 rfl rfl rfl (Or.inr (Or.inl ⟨Or.inl rfl, _, _, rfl, (gk_kd_j rfl rfl), rfl⟩)) (Or.inl rfl) ⟨t, B, rfl, ⟨rfl, rfl⟩, hp0, hp1, hp2, kk0⟩
def L_X9_split : List (Nat × gk_M0) := [(34, (1, 7, 2, 0, S_X8_byteAt)), (38, (0, 8, 1, 0, S_X9_isLetter)), (42, (1, 8, 3, 0, S_X9_takeWord)), (46, (0, 8, 1, 0, S_X9_isDigit)), (49, (1, 8, 3, 0, S_X9_takeNumber)), (52, (1, 8, 3, 0, S_X9_takeSign)), (56, (1, 8, 4, 0, S_X9_append))]
def cs_X9_split : Nat → Option gk_M0 := gk_lk L_X9_split
theorem m_X9_split : ∀ (as : List Value) (n : Nat) (fl : gk_F) (x : gk_X) (y : gk_Y) (K : gk_K), S_X9_split as n fl x y K → (gk_L0 as).length ≤ 5 ∧ ∀ V : gk_V, gk_W cX9_split pX9 cs_X9_split (fun _ _ => none) none 0 none K V → V 0 (gk_en as 5) [] n fl x y 0 := by
  intro as n fl x y K hS
  obtain ⟨t, B, rfl, ⟨rfl, rfl⟩, hp0, hp1, hp2, q0⟩ := hS
  refine ⟨Nat.le_of_ble_eq_true rfl, fun V w => ?_⟩
  show V 0 [some (.ref 98), some (.ref 95), none, none, none] [] 202 gk_fT x y 0
  refine s_aload_n (pc2 := 1) w dX9_split_0 rfl rfl ?_
  refine s_iconst (pc2 := 2) (v := 0) w dX9_split_1 rfl rfl ?_
  refine m_putI (pc2 := 5) (ci := 8) (k := 3) w dX9_split_2 rfl rfl rfl rfl rfl (by intro h; cases h) ?_
  refine s_iconst (pc2 := 6) (v := 0) w dX9_split_5 rfl rfl ?_
  refine s_istore_n (pc2 := 7) (k2 := 2) w dX9_split_6 rfl rfl rfl ?_
  dsimp only [gk_s1, gk_s2, gk_cl]
  refine s_iconst (pc2 := 8) (v := 0) w dX9_split_7 rfl rfl ?_
  refine s_istore_n (pc2 := 9) (k2 := 3) w dX9_split_8 rfl rfl rfl ?_
  dsimp only [gk_s1, gk_s2, gk_cl]
  have ex : ∀ (n i : Nat) (x1 : gk_X) (l4 : Option Value), n ≤ t → tz B t t = tp B t i → i ≤ t → TA B t i x1 → (∀ i k, ¬ (98 ≤ i ∧ i ≤ 101) → x1 i k = x i k) → V 9 [some (.ref 98), some (.ref 95), some (.int (nI t)), some (.int (nI n)), l4] [] 202 gk_fT x1 y 0 := by
    intro n i x1 l4 hn hz hi hT hf
    rw [tz_t] at hz
    have h1 : x1 95 1 = nI t := (hf 95 1 (by omega)).trans hp0
    have fin : V 83 [some (.ref 98), some (.ref 95), some (.int (nI t)), some (.int (nI n)), l4] [] 202 gk_fT x1 y 0 := by
      refine s_aload_n (pc2 := 84) w dX9_split_83 rfl rfl ?_
      refine s_iconst (pc2 := 85) (v := 0) w dX9_split_84 rfl rfl ?_
      refine s_aload_n (pc2 := 86) w dX9_split_85 rfl rfl ?_
      refine m_getI (pc2 := 89) (ci := 7) (k := 1) w dX9_split_86 rfl rfl rfl rfl rfl ?_
      rw [h1]
      refine s_iconst (pc2 := 90) (v := 0) w dX9_split_89 rfl rfl ?_
      refine r_X9_append (pc2 := 93) w dX9_split_90 rfl rfl rfl hT.1 (by omega) (fun _ => ?_) (fun h => absurd (show i < 501 by omega) h)
      refine s_return w dX9_split_93 rfl ?_
      have h9 := TA_s hT hz.symm
      rw [(tk_0 (Nat.le_refl t)).mpr rfl, show vC B t t = 0 from by unfold vC; rw [if_pos (Nat.le_refl t)]] at h9
      exact q0 _ i (by omega) hz.symm h9 (fun a k h => (apX_fr x1 i _ _ _ a k h).trans (hf a k h))
    refine s_iload_n (pc2 := 10) w dX9_split_9 rfl rfl ?_
    refine s_sipush (pc2 := 13) (v := 500) w dX9_split_10 rfl rfl ?_
    refine s_ic_ge (pc2 := 16) (tgt := 83) w dX9_split_13 rfl (by decide) (fun c13 => ?_) (fun c13 => ?_)
    · exact fin
    · refine s_iload_n (pc2 := 17) w dX9_split_16 rfl rfl ?_
      refine s_aload_n (pc2 := 18) w dX9_split_17 rfl rfl ?_
      refine m_getI (pc2 := 21) (ci := 7) (k := 1) w dX9_split_18 rfl rfl rfl rfl rfl ?_
      rw [h1]
      refine s_ic_ge (pc2 := 24) (tgt := 83) w dX9_split_21 rfl (by decide) (fun _ => ?_) (fun h0 => absurd (by rw [nI_ge2 (by omega) (by omega)]; omega) h0)
      exact fin
  have key : ∀ (k a n i : Nat) (x1 : gk_X) (l4 : Option Value), t ≤ a + k → a ≤ t → n ≤ a → tz B t a = tp B t i → i ≤ a → TA B t i x1 → (∀ i k, ¬ (98 ≤ i ∧ i ≤ 101) → x1 i k = x i k) → V 9 [some (.ref 98), some (.ref 95), some (.int (nI a)), some (.int (nI n)), l4] [] 202 gk_fT x1 y 0 := by
    intro k
    induction k with
    | zero =>
      intro a n i x1 l4 ha ha2 hn hz hi hT hf
      obtain rfl : a = t := by omega
      exact ex n i x1 l4 hn hz hi hT hf
    | succ k ih =>
      intro a n i x1 l4 ha ha2 hn hz hi hT hf
      rcases Nat.eq_or_lt_of_le ha2 with e | hat
      · subst e
        exact ex n i x1 l4 hn hz hi hT hf
      have h1 : x1 95 1 = nI t := (hf 95 1 (by omega)).trans hp0
      have hB : tbA (x1 96) t = B := by
        rw [show x1 96 = x 96 from funext (fun k => hf 96 k (by omega))]
        exact hp2
      have hte := te_b (c := B) ha2
      refine s_iload_n (pc2 := 10) w dX9_split_9 rfl rfl ?_
      refine s_sipush (pc2 := 13) (v := 500) w dX9_split_10 rfl rfl ?_
      refine s_ic_ge (pc2 := 16) (tgt := 83) w dX9_split_13 rfl (by decide) (fun h0 => absurd h0 (by rw [show (500 : Int32) = nI 500 from rfl, nI_ge2 (by omega) (by omega)]; omega)) (fun _ => ?_)
      refine s_iload_n (pc2 := 17) w dX9_split_16 rfl rfl ?_
      refine s_aload_n (pc2 := 18) w dX9_split_17 rfl rfl ?_
      refine m_getI (pc2 := 21) (ci := 7) (k := 1) w dX9_split_18 rfl rfl rfl rfl rfl ?_
      rw [h1]
      refine s_ic_ge (pc2 := 24) (tgt := 83) w dX9_split_21 rfl (by decide) (fun h0 => absurd h0 (by rw [nI_ge2 (by omega) (by omega)]; omega)) (fun _ => ?_)
      refine s_aload_n (pc2 := 25) w dX9_split_24 rfl rfl ?_
      refine s_iload_n (pc2 := 26) w dX9_split_25 rfl rfl ?_
      refine r_X8_byteAt (pc2 := 29) w dX9_split_26 rfl rfl rfl rfl h1 hp1 (by omega) ?_
      rw [c_in hB]
      refine s_istore (pc2 := 31) w dX9_split_29 rfl rfl ?_
      dsimp only [gk_s1, gk_s2, gk_cl]
      refine s_iload (pc2 := 33) w dX9_split_31 rfl rfl ?_
      refine r_X9_isLetter (pc2 := 36) w dX9_split_33 rfl rfl rfl ?_
      refine s_if_eq (pc2 := 39) (tgt := 49) w dX9_split_36 rfl (by decide) (fun c36 => ?_) (fun c36 => ?_)
      · have cL := (tL_0 _).mp c36
        refine s_iload (pc2 := 51) w dX9_split_49 rfl rfl ?_
        refine r_X9_isDigit (pc2 := 54) w dX9_split_51 rfl rfl rfl ?_
        refine s_if_eq (pc2 := 57) (tgt := 67) w dX9_split_54 rfl (by decide) (fun c54 => ?_) (fun c54 => ?_)
        · have cD := (tD_0 _).mp c54
          refine s_aload_n (pc2 := 68) w dX9_split_67 rfl rfl ?_
          refine s_iload (pc2 := 70) w dX9_split_68 rfl rfl ?_
          refine s_iload_n (pc2 := 71) w dX9_split_70 rfl rfl ?_
          refine r_X9_takeSign (pc2 := 74) w dX9_split_71 rfl rfl rfl rfl rfl hat cL cD hT.1 (by omega) (fun cW => ?_) (fun cW => ?_)
          · rw [tz_st cW hat] at hz
            refine s_iinc (pc2 := 77) w dX9_split_74 rfl rfl rfl rfl ?_
            dsimp only [gk_s1, gk_s2, gk_cl]
            rw [nI_s]
            refine s_iinc (pc2 := 80) w dX9_split_77 rfl rfl rfl rfl ?_
            dsimp only [gk_s1, gk_s2, gk_cl]
            rw [nI_s]
            refine s_goto (tgt := 9) w dX9_split_80 (by decide) ?_
            exact ih (a + 1) (n + 1) i _ _ (by omega) (by omega) (by omega) hz (by omega) hT hf
          · rw [tz_no cW] at hz
            refine s_iinc (pc2 := 77) w dX9_split_74 rfl rfl rfl rfl ?_
            dsimp only [gk_s1, gk_s2, gk_cl]
            rw [nI_s]
            refine s_iinc (pc2 := 80) w dX9_split_77 rfl rfl rfl rfl ?_
            dsimp only [gk_s1, gk_s2, gk_cl]
            rw [nI_s]
            refine s_goto (tgt := 9) w dX9_split_80 (by decide) ?_
            exact ih (a + 1) (n + 1) (i + 1) _ _ (by omega) (by omega) (by omega) (by show tz B t _ = tz B t (te B t (tp B t i)); rw [← hz, te_S (by omega) cL cD]) (by omega) (TA_s hT hz.symm) (fun b k h => (apX_fr x1 i _ _ _ b k h).trans (hf b k h))
          
        · have cD : tD (B a) = true := Decidable.byContradiction (fun h => c54 ((tD_0 _).mpr h))
          rw [tz_no (tD_W cD)] at hz
          refine s_aload_n (pc2 := 58) w dX9_split_57 rfl rfl ?_
          refine s_aload_n (pc2 := 59) w dX9_split_58 rfl rfl ?_
          refine s_iload_n (pc2 := 60) w dX9_split_59 rfl rfl ?_
          refine r_X9_takeNumber (pc2 := 63) w dX9_split_60 rfl rfl rfl rfl h1 hp1 hB hat cD hT.1 (by omega) ?_
          refine s_istore_n (pc2 := 64) (k2 := 2) w dX9_split_63 rfl rfl rfl ?_
          dsimp only [gk_s1, gk_s2, gk_cl]
          refine s_goto (tgt := 77) w dX9_split_64 (by decide) ?_
          refine s_iinc (pc2 := 80) w dX9_split_77 rfl rfl rfl rfl ?_
          dsimp only [gk_s1, gk_s2, gk_cl]
          rw [nI_s]
          refine s_goto (tgt := 9) w dX9_split_80 (by decide) ?_
          exact ih (te B t a) (n + 1) (i + 1) _ _ (by omega) (by omega) (by omega) (by show tz B t _ = tz B t (te B t (tp B t i)); rw [← hz]) (by omega) (TA_s hT hz.symm) (fun b k h => (apX_fr x1 i _ _ _ b k h).trans (hf b k h))
      · have cL : tL (B a) = true := Decidable.byContradiction (fun h => c36 ((tL_0 _).mpr h))
        rw [tz_no (tL_W cL)] at hz
        refine s_aload_n (pc2 := 40) w dX9_split_39 rfl rfl ?_
        refine s_aload_n (pc2 := 41) w dX9_split_40 rfl rfl ?_
        refine s_iload_n (pc2 := 42) w dX9_split_41 rfl rfl ?_
        refine r_X9_takeWord (pc2 := 45) w dX9_split_42 rfl rfl rfl rfl h1 hp1 hB hat cL hT.1 (by omega) ?_
        refine s_istore_n (pc2 := 46) (k2 := 2) w dX9_split_45 rfl rfl rfl ?_
        dsimp only [gk_s1, gk_s2, gk_cl]
        refine s_goto (tgt := 77) w dX9_split_46 (by decide) ?_
        refine s_iinc (pc2 := 80) w dX9_split_77 rfl rfl rfl rfl ?_
        dsimp only [gk_s1, gk_s2, gk_cl]
        rw [nI_s]
        refine s_goto (tgt := 9) w dX9_split_80 (by decide) ?_
        exact ih (te B t a) (n + 1) (i + 1) _ _ (by omega) (by omega) (by omega) (by show tz B t _ = tz B t (te B t (tp B t i)); rw [← hz]) (by omega) (TA_s hT hz.symm) (fun b k h => (apX_fr x1 i _ _ _ b k h).trans (hf b k h))
  exact key t 0 0 0 _ none (by omega) (by omega) (by omega) rfl (by omega) ⟨gk_up_in _ _ _ _, fun j h => absurd h (Nat.not_lt_zero j)⟩ (fun i k h => gk_up_ne (by omega))
theorem lk_X9_split {l : Launch} (hl : l.stackTraces = false) : ∀ q ∈ L_X9_split, (q.2.1 < 5 → gk_Lk l RX9 gk_W1 7 q.1 q.2.1 q.2.2.1 q.2.2.2.1 q.2.2.2.2.1 q.2.2.2.2.2) := (List.forall_mem_cons.mpr ⟨(fun _ => ⟨yX8_byteAt, cX8_byteAt, 2, (some .int), 0, _, M_X8_byteAt hl, ⟨by decide, by decide⟩, ⟨by decide, by decide, by decide +kernel⟩, ⟨(gk_wm 511 (by decide +kernel)), (gk_wm 96 (by decide +kernel))⟩, Or.inr (Or.inr (Or.inr (Or.inl ⟨rfl, rfl, (gk_wm 509 (by decide +kernel)), (gk_wm 510 (by decide +kernel)), gk_wm 508 (by decide +kernel), by decide, rfl⟩)))⟩), (List.forall_mem_cons.mpr ⟨(fun _ => ⟨yX9_isLetter, cX9_isLetter, 1, (some .boolean), 0, _, M_X9_isLetter hl, ⟨by decide, by decide⟩, ⟨by decide, by decide, by decide +kernel⟩, ⟨(gk_wm 514 (by decide +kernel)), (gk_wm 98 (by decide +kernel))⟩, Or.inl ⟨rfl, rfl, (gk_wm 513 (by decide +kernel)), gk_wm 512 (by decide +kernel)⟩⟩), (List.forall_mem_cons.mpr ⟨(fun _ => ⟨yX9_takeWord, cX9_takeWord, 4, (some .int), 6, _, M_X9_takeWord hl, ⟨by decide, by decide⟩, ⟨by decide, by decide, by decide +kernel⟩, ⟨(gk_wm 518 (by decide +kernel)), (gk_wm 98 (by decide +kernel))⟩, Or.inr (Or.inr (Or.inr (Or.inl ⟨rfl, rfl, (gk_wm 517 (by decide +kernel)), (gk_wm 4 (by decide +kernel)), gk_wm 515 (by decide +kernel), by decide, rfl⟩)))⟩), (List.forall_mem_cons.mpr ⟨(fun _ => ⟨yX9_isDigit, cX9_isDigit, 1, (some .boolean), 0, _, M_X9_isDigit hl, ⟨by decide, by decide⟩, ⟨by decide, by decide, by decide +kernel⟩, ⟨(gk_wm 588 (by decide +kernel)), (gk_wm 98 (by decide +kernel))⟩, Or.inl ⟨rfl, rfl, (gk_wm 587 (by decide +kernel)), gk_wm 586 (by decide +kernel)⟩⟩), (List.forall_mem_cons.mpr ⟨(fun _ => ⟨yX9_takeNumber, cX9_takeNumber, 5, (some .int), 1, _, M_X9_takeNumber hl, ⟨by decide, by decide⟩, ⟨by decide, by decide, by decide +kernel⟩, ⟨(gk_wm 592 (by decide +kernel)), (gk_wm 98 (by decide +kernel))⟩, Or.inr (Or.inr (Or.inr (Or.inl ⟨rfl, rfl, (gk_wm 591 (by decide +kernel)), (gk_wm 6 (by decide +kernel)), gk_wm 589 (by decide +kernel), by decide, rfl⟩)))⟩), (List.forall_mem_cons.mpr ⟨(fun _ => ⟨yX9_takeSign, cX9_takeSign, 3, none, 1, _, M_X9_takeSign hl, ⟨by decide, by decide⟩, ⟨by decide, by decide, by decide +kernel⟩, ⟨(gk_wm 600 (by decide +kernel)), (gk_wm 98 (by decide +kernel))⟩, Or.inr (Or.inr (Or.inr (Or.inl ⟨rfl, rfl, (gk_wm 599 (by decide +kernel)), (gk_wm 7 (by decide +kernel)), gk_wm 597 (by decide +kernel), by decide, rfl⟩)))⟩), (List.forall_mem_cons.mpr ⟨(fun _ => ⟨yX9_append, cX9_append, 4, none, 0, _, M_X9_append hl, ⟨by decide, by decide⟩, ⟨by decide, by decide, by decide +kernel⟩, ⟨(gk_wm 585 (by decide +kernel)), (gk_wm 98 (by decide +kernel))⟩, Or.inr (Or.inr (Or.inr (Or.inl ⟨rfl, rfl, (gk_wm 584 (by decide +kernel)), (gk_wm 5 (by decide +kernel)), gk_wm 582 (by decide +kernel), by decide, rfl⟩)))⟩), (fun _ h => absurd h List.not_mem_nil)⟩)⟩)⟩)⟩)⟩)⟩)⟩)
theorem sp_X9_split : ∀ q ∈ L_X9_split, gk_Sq RX9 gk_W1 7 q := (List.forall_mem_cons.mpr ⟨⟨fun h => absurd h (by decide), fun h => absurd h (by decide), fun h => absurd h (by decide), fun h => absurd h (by decide), fun h => absurd h (by decide), fun h => absurd h (by decide)⟩, (List.forall_mem_cons.mpr ⟨⟨fun h => absurd h (by decide), fun h => absurd h (by decide), fun h => absurd h (by decide), fun h => absurd h (by decide), fun h => absurd h (by decide), fun h => absurd h (by decide)⟩, (List.forall_mem_cons.mpr ⟨⟨fun h => absurd h (by decide), fun h => absurd h (by decide), fun h => absurd h (by decide), fun h => absurd h (by decide), fun h => absurd h (by decide), fun h => absurd h (by decide)⟩, (List.forall_mem_cons.mpr ⟨⟨fun h => absurd h (by decide), fun h => absurd h (by decide), fun h => absurd h (by decide), fun h => absurd h (by decide), fun h => absurd h (by decide), fun h => absurd h (by decide)⟩, (List.forall_mem_cons.mpr ⟨⟨fun h => absurd h (by decide), fun h => absurd h (by decide), fun h => absurd h (by decide), fun h => absurd h (by decide), fun h => absurd h (by decide), fun h => absurd h (by decide)⟩, (List.forall_mem_cons.mpr ⟨⟨fun h => absurd h (by decide), fun h => absurd h (by decide), fun h => absurd h (by decide), fun h => absurd h (by decide), fun h => absurd h (by decide), fun h => absurd h (by decide)⟩, (List.forall_mem_cons.mpr ⟨⟨fun h => absurd h (by decide), fun h => absurd h (by decide), fun h => absurd h (by decide), fun h => absurd h (by decide), fun h => absurd h (by decide), fun h => absurd h (by decide)⟩, (fun _ h => absurd h List.not_mem_nil)⟩)⟩)⟩)⟩)⟩)⟩)⟩)
theorem M_X9_split {l : Launch} (hl : l.stackTraces = false) : gk_Mt l yX9_split (.code yX9_split cX9_split 5 none :: gk_W1) 7 0 S_X9_split := gk_meth hl gk_cw_ok (by decide +kernel) rfl m_X9_split pX9_ok (gk_Sp_of sp_X9_split) pX9_st (fun ci m S h => absurd h (by intro h; cases h)) (xf_X9 7) (fun idx kd ci mm cost S2 h h5 => lk_X9_split hl _ (gk_lk_mem h) h5)

def S_X9_startAt : gk_S := fun as n fl x y K => ∃ (v : Int32) (a : Nat), as = [.ref 98, .int v] ∧ (n = 202 ∧ fl = gk_fT) ∧ (v = nI a) ∧ (a ≤ 500) ∧ (K (.inl (some (.int (x 100 a)))) n fl x y)
theorem r_X9_startAt (w : gk_W c P cs (fun _ _ => none) rt uf sc K V) {idx : Nat} {v : Int32} {a : Nat} (hd : decode c pc = .ok (.invokevirtual idx, 3)) (hp : pc + 3 = pc2) (hc : cs idx = some (1, 8, 2, 0, S_X9_startAt)) (h8 : Nat.ble (r.map Value.category).sum 8 = true) (hp0 : v = nI a) (hp1 : a ≤ 500) (kk0 : V pc2 L ((.int (x 100 a)) :: r) 202 gk_fT x y u) : V pc L (.int v :: .ref 98 :: r) 202 gk_fT x y u :=
  g_callv w hd hp hc (as := [.ref 98, .int v]) rfl h8 rfl rfl rfl (Or.inr (Or.inl ⟨Or.inl rfl, _, _, rfl, (gk_kd_j rfl rfl), rfl⟩)) (Or.inl rfl) ⟨v, a, rfl, ⟨rfl, rfl⟩, hp0, hp1, kk0⟩
def L_X9_startAt : List (Nat × gk_M0) := [(21, (0, 9, 2, 0, S_X10_elementAt))]
def cs_X9_startAt : Nat → Option gk_M0 := gk_lk L_X9_startAt
theorem m_X9_startAt : ∀ (as : List Value) (n : Nat) (fl : gk_F) (x : gk_X) (y : gk_Y) (K : gk_K), S_X9_startAt as n fl x y K → (gk_L0 as).length ≤ 2 ∧ ∀ V : gk_V, gk_W cX9_startAt pX9 cs_X9_startAt (fun _ _ => none) (some .int) 0 none K V → V 0 (gk_en as 2) [] n fl x y 0 := by
  intro as n fl x y K hS
  obtain ⟨v, a, rfl, ⟨rfl, rfl⟩, hp0, hp1, q0⟩ := hS
  refine ⟨Nat.le_of_ble_eq_true rfl, fun V w => ?_⟩
  show V 0 [some (.ref 98), some (.int v)] [] 202 gk_fT x y 0
  subst hp0
  refine s_aload_n (pc2 := 1) w dX9_startAt_0 rfl rfl ?_
  refine m_getR (pc2 := 4) (ci := 8) (k := 1) (j2 := 100) w dX9_startAt_1 rfl rfl rfl rfl rfl rfl ?_
  refine s_iload_n (pc2 := 5) w dX9_startAt_4 rfl rfl ?_
  refine r_X10_elementAt (pc2 := 8) (N := 501) w dX9_startAt_5 rfl rfl rfl rfl rfl rfl ?_
  rw [if_neg (show ¬ (nI a < 0 ∨ nI 501 ≤ nI a) from fun h => by rcases h with h | h; exact nI_pos (by omega) h; exact (nI_ge2 (by omega) (by omega)).mp h (by omega)), nI_clamp (by omega)]
  refine s_ireturn w dX9_startAt_8 rfl rfl ?_
  exact q0
theorem lk_X9_startAt {l : Launch} (hl : l.stackTraces = false) : ∀ q ∈ L_X9_startAt, (q.2.1 < 5 → gk_Lk l RX9 gk_W1 1 q.1 q.2.1 q.2.2.1 q.2.2.2.1 q.2.2.2.2.1 q.2.2.2.2.2) := (List.forall_mem_cons.mpr ⟨(fun _ => ⟨yX10_elementAt, cX10_elementAt, 2, (some .int), 0, _, M_X10_elementAt hl, ⟨by decide, by decide⟩, ⟨by decide, by decide, by decide +kernel⟩, ⟨(gk_wm 481 (by decide +kernel)), (gk_wm 89 (by decide +kernel))⟩, Or.inr (Or.inl ⟨rfl, rfl, (gk_wm 480 (by decide +kernel)), ⟨_, gk_nsm 13 rfl⟩, nt_X10_elementAt⟩)⟩), (fun _ h => absurd h List.not_mem_nil)⟩)
theorem sp_X9_startAt : ∀ q ∈ L_X9_startAt, gk_Sq RX9 gk_W1 1 q := (List.forall_mem_cons.mpr ⟨⟨fun h => absurd h (by decide), fun h => absurd h (by decide), fun h => absurd h (by decide), fun h => absurd h (by decide), fun h => absurd h (by decide), fun h => absurd h (by decide)⟩, (fun _ h => absurd h List.not_mem_nil)⟩)
theorem M_X9_startAt {l : Launch} (hl : l.stackTraces = false) : gk_Mt l yX9_startAt (.code yX9_startAt cX9_startAt 2 (some .int) :: gk_W1) 1 0 S_X9_startAt := gk_meth hl gk_cw_ok (by decide +kernel) rfl m_X9_startAt pX9_ok (gk_Sp_of sp_X9_startAt) pX9_st (fun ci m S h => absurd h (by intro h; cases h)) (xf_X9 1) (fun idx kd ci mm cost S2 h h5 => lk_X9_startAt hl _ (gk_lk_mem h) h5)

def S_X9_valueAt : gk_S := fun as n fl x y K => ∃ (v : Int32) (a : Nat), as = [.ref 98, .int v] ∧ (n = 202 ∧ fl = gk_fT) ∧ (v = nI a) ∧ (a ≤ 500) ∧ (K (.inl (some (.int (x 101 a)))) n fl x y)
theorem r_X9_valueAt (w : gk_W c P cs (fun _ _ => none) rt uf sc K V) {idx : Nat} {v : Int32} {a : Nat} (hd : decode c pc = .ok (.invokevirtual idx, 3)) (hp : pc + 3 = pc2) (hc : cs idx = some (1, 8, 2, 0, S_X9_valueAt)) (h8 : Nat.ble (r.map Value.category).sum 8 = true) (hp0 : v = nI a) (hp1 : a ≤ 500) (kk0 : V pc2 L ((.int (x 101 a)) :: r) 202 gk_fT x y u) : V pc L (.int v :: .ref 98 :: r) 202 gk_fT x y u :=
  g_callv w hd hp hc (as := [.ref 98, .int v]) rfl h8 rfl rfl rfl (Or.inr (Or.inl ⟨Or.inl rfl, _, _, rfl, (gk_kd_j rfl rfl), rfl⟩)) (Or.inl rfl) ⟨v, a, rfl, ⟨rfl, rfl⟩, hp0, hp1, kk0⟩
def L_X9_valueAt : List (Nat × gk_M0) := [(21, (0, 9, 2, 0, S_X10_elementAt))]
def cs_X9_valueAt : Nat → Option gk_M0 := gk_lk L_X9_valueAt
theorem m_X9_valueAt : ∀ (as : List Value) (n : Nat) (fl : gk_F) (x : gk_X) (y : gk_Y) (K : gk_K), S_X9_valueAt as n fl x y K → (gk_L0 as).length ≤ 2 ∧ ∀ V : gk_V, gk_W cX9_valueAt pX9 cs_X9_valueAt (fun _ _ => none) (some .int) 0 none K V → V 0 (gk_en as 2) [] n fl x y 0 := by
  intro as n fl x y K hS
  obtain ⟨v, a, rfl, ⟨rfl, rfl⟩, hp0, hp1, q0⟩ := hS
  refine ⟨Nat.le_of_ble_eq_true rfl, fun V w => ?_⟩
  show V 0 [some (.ref 98), some (.int v)] [] 202 gk_fT x y 0
  subst hp0
  refine s_aload_n (pc2 := 1) w dX9_valueAt_0 rfl rfl ?_
  refine m_getR (pc2 := 4) (ci := 8) (k := 2) (j2 := 101) w dX9_valueAt_1 rfl rfl rfl rfl rfl rfl ?_
  refine s_iload_n (pc2 := 5) w dX9_valueAt_4 rfl rfl ?_
  refine r_X10_elementAt (pc2 := 8) (N := 501) w dX9_valueAt_5 rfl rfl rfl rfl rfl rfl ?_
  rw [if_neg (show ¬ (nI a < 0 ∨ nI 501 ≤ nI a) from fun h => by rcases h with h | h; exact nI_pos (by omega) h; exact (nI_ge2 (by omega) (by omega)).mp h (by omega)), nI_clamp (by omega)]
  refine s_ireturn w dX9_valueAt_8 rfl rfl ?_
  exact q0
theorem lk_X9_valueAt {l : Launch} (hl : l.stackTraces = false) : ∀ q ∈ L_X9_valueAt, (q.2.1 < 5 → gk_Lk l RX9 gk_W1 1 q.1 q.2.1 q.2.2.1 q.2.2.2.1 q.2.2.2.2.1 q.2.2.2.2.2) := (List.forall_mem_cons.mpr ⟨(fun _ => ⟨yX10_elementAt, cX10_elementAt, 2, (some .int), 0, _, M_X10_elementAt hl, ⟨by decide, by decide⟩, ⟨by decide, by decide, by decide +kernel⟩, ⟨(gk_wm 481 (by decide +kernel)), (gk_wm 89 (by decide +kernel))⟩, Or.inr (Or.inl ⟨rfl, rfl, (gk_wm 480 (by decide +kernel)), ⟨_, gk_nsm 13 rfl⟩, nt_X10_elementAt⟩)⟩), (fun _ h => absurd h List.not_mem_nil)⟩)
theorem sp_X9_valueAt : ∀ q ∈ L_X9_valueAt, gk_Sq RX9 gk_W1 1 q := (List.forall_mem_cons.mpr ⟨⟨fun h => absurd h (by decide), fun h => absurd h (by decide), fun h => absurd h (by decide), fun h => absurd h (by decide), fun h => absurd h (by decide), fun h => absurd h (by decide)⟩, (fun _ h => absurd h List.not_mem_nil)⟩)
theorem M_X9_valueAt {l : Launch} (hl : l.stackTraces = false) : gk_Mt l yX9_valueAt (.code yX9_valueAt cX9_valueAt 2 (some .int) :: gk_W1) 1 0 S_X9_valueAt := gk_meth hl gk_cw_ok (by decide +kernel) rfl m_X9_valueAt pX9_ok (gk_Sp_of sp_X9_valueAt) pX9_st (fun ci m S h => absurd h (by intro h; cases h)) (xf_X9 1) (fun idx kd ci mm cost S2 h h5 => lk_X9_valueAt hl _ (gk_lk_mem h) h5)

end GKV

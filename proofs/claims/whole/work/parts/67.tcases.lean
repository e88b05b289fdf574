/-! THE LAW, 5: the text's cases, and what a reading left -/
section GKV
variable {c : ByteArray} {P : gk_C} {cs : Nat → Option gk_M0} {rt : Option FieldType} {uf : Nat} {sc : Option Nat} {K : gk_K} {V : gk_V}
variable {L : List (Option Value)} {r : List Value} {n : Nat} {fl : gk_F} {x : gk_X} {y : gk_Y} {u pc pc2 : Nat}
def S_L_appendText : gk_S := fun as n fl x y K => ∃ (v : Int32) (t : Nat), as = [.ref 0, .int v, .ref 200] ∧ (n = 202 ∧ fl = gk_fT) ∧ (x 95 1 = nI t) ∧ (t ≤ 500) ∧ (t + 4 ≤ 500 → K (.inl (some (.int 0))) n fl (gk_up (gk_rg x 96 t 4 (tF v)) 95 1 (nI (t + 4))) (gk_uy y 200 0 ((nI (t + 4))).toInt64)) ∧ (¬ t + 4 ≤ 500 → K (.inl (some (.int 1))) n fl x y)
theorem r_L_appendText (w : gk_W c P cs (fun _ _ => none) rt uf sc K V) {idx : Nat} {v : Int32} {t : Nat} (hd : decode c pc = .ok (.invokestatic idx, 3)) (hp : pc + 3 = pc2) (hc : cs idx = some (0, 0, 3, 1, S_L_appendText)) (h8 : Nat.ble (r.map Value.category).sum 8 = true) (hu : u + 1 ≤ uf) (hp0 : x 95 1 = nI t) (hp1 : t ≤ 500) (kk0 : t + 4 ≤ 500 → V pc2 L ((.int 0) :: r) 202 gk_fT (gk_up (gk_rg x 96 t 4 (tF v)) 95 1 (nI (t + 4))) (gk_uy y 200 0 ((nI (t + 4))).toInt64) (u + 1)) (kk1 : ¬ t + 4 ≤ 500 → V pc2 L ((.int 1) :: r) 202 gk_fT x y (u + 1)) : V pc L (.ref 200 :: .int v :: .ref 0 :: r) 202 gk_fT x y u :=
  g_calls w hd hp hc (as := [.ref 0, .int v, .ref 200]) rfl h8 rfl rfl rfl (Or.inl rfl) (Or.inr hu) ⟨v, t, rfl, ⟨rfl, rfl⟩, hp0, hp1, kk0, kk1⟩
theorem nt_L_appendText : gk_nt S_L_appendText := fun _ _ _ _ _ _ ⟨v, t, e0, e1, e2, e3, e4, e5⟩ => ⟨v, t, e0, e1, e2, e3, e4, e5⟩
def H_L_appendText : List gk_H := [(0, 9, 12, 26, 1, 13, 3)]
def L_L_appendText : List (Nat × gk_M0) := [(130, (1, 9, 2, 1, S_X10_appendText))]
def cs_L_appendText : Nat → Option gk_M0 := gk_lk L_L_appendText
theorem m_L_appendText : ∀ (as : List Value) (n : Nat) (fl : gk_F) (x : gk_X) (y : gk_Y) (K : gk_K), S_L_appendText as n fl x y K → (gk_L0 as).length ≤ 4 ∧ ∀ V : gk_V, gk_W cL_appendText pL cs_L_appendText (gk_fh H_L_appendText) (some .int) 1 none K V → V 0 (gk_en as 4) [] n fl x y 0 := by
  intro as n fl x y K hS
  obtain ⟨v, t, rfl, ⟨rfl, rfl⟩, hp0, hp1, q0, q1⟩ := hS
  refine ⟨Nat.le_of_ble_eq_true rfl, fun V w => ?_⟩
  show V 0 [some (.ref 0), some (.int v), some (.ref 200), none] [] 202 gk_fT x y 0
  refine s_aload_n (pc2 := 1) w dL_appendText_0 rfl rfl ?_
  refine s_iconst (pc2 := 2) (v := 0) w dL_appendText_1 rfl rfl ?_
  refine s_aload_n (pc2 := 3) w dL_appendText_2 rfl rfl ?_
  refine s_iload_n (pc2 := 4) w dL_appendText_3 rfl rfl ?_
  refine g_callv (pc2 := 7) (r := [.int 0, .ref 200]) w dL_appendText_4 rfl rfl (as := [.ref 0, .int v]) rfl rfl rfl rfl rfl (Or.inr (Or.inl ⟨Or.inl rfl, _, _, rfl, (gk_kd_j rfl rfl), rfl⟩)) (Or.inr (Nat.le_of_ble_eq_true rfl)) ⟨v, t, rfl, ⟨rfl, rfl⟩, hp0, hp1, ?_, ?_⟩
  · intro b0
    show V 7 [some (.ref 0), some (.int v), some (.ref 200), none] [(.int (nI (t + 4))), .int 0, .ref 200] 202 gk_fT (gk_up (gk_rg x 96 t 4 (tF v)) 95 1 (nI (t + 4))) y (0 + 1)
    refine s_i2l (pc2 := 8) w dL_appendText_7 rfl ?_
    refine m_lastoreN (pc2 := 9) (t := 0) (N := 1) w dL_appendText_8 rfl rfl rfl rfl (by decide) rfl ?_
    refine s_goto (tgt := 15) w dL_appendText_9 (by decide) ?_
    refine s_iconst (pc2 := 16) (v := 0) w dL_appendText_15 rfl rfl ?_
    refine s_ireturn w dL_appendText_16 rfl rfl ?_
    exact q0 b0
  · intro b0
    show V 13 [some (.ref 0), some (.int v), some (.ref 200), none] [] 202 gk_fT x y (0 + 1)
    refine s_iconst (pc2 := 14) (v := 1) w dL_appendText_13 rfl rfl ?_
    refine s_ireturn w dL_appendText_14 rfl rfl ?_
    exact q1 b0
theorem lk_L_appendText {l : Launch} (hl : l.stackTraces = false) : ∀ q ∈ L_L_appendText, (q.2.1 < 5 → gk_Lk l RL gk_W1 8 q.1 q.2.1 q.2.2.1 q.2.2.2.1 q.2.2.2.2.1 q.2.2.2.2.2) := (List.forall_mem_cons.mpr ⟨(fun _ => ⟨yX10_appendText, cX10_appendText, 2, (some .int), 7, _, M_X10_appendText hl, ⟨by decide, by decide⟩, ⟨by decide, by decide, by decide +kernel⟩, ⟨(gk_wm 1225 (by decide +kernel)), (gk_wm 89 (by decide +kernel))⟩, Or.inr (Or.inr (Or.inr (Or.inl ⟨rfl, rfl, (gk_wm 1223 (by decide +kernel)), (gk_wm 1224 (by decide +kernel)), gk_wm 1222 (by decide +kernel), by decide, rfl⟩)))⟩), (fun _ h => absurd h List.not_mem_nil)⟩)
theorem sp_L_appendText : ∀ q ∈ L_L_appendText, gk_Sq RL gk_W1 8 q := (List.forall_mem_cons.mpr ⟨⟨fun h => absurd h (by decide), fun h => absurd h (by decide), fun h => absurd h (by decide), fun h => absurd h (by decide), fun h => absurd h (by decide), fun h => absurd h (by decide)⟩, (fun _ h => absurd h List.not_mem_nil)⟩)
theorem ho_L_appendText : ∀ z ∈ H_L_appendText, gk_Hok RL cL_appendText 4 z := (List.forall_mem_cons.mpr ⟨⟨by decide, by decide, gk_wm 819 (by decide +kernel), by decide, Or.inr ⟨3, dL_appendText_12, rfl, rfl⟩⟩, (fun _ h => absurd h List.not_mem_nil)⟩)
theorem M_L_appendText {l : Launch} (hl : l.stackTraces = false) : gk_Mt l yL_appendText (.codeWith yL_appendText cL_appendText 4 (some .int) (H_L_appendText.map gk_hr) :: gk_W1) 8 1 S_L_appendText := gk_methH gk_cw_ok H_L_appendText (by decide +kernel) rfl nt_L_appendText m_L_appendText pL_ok (gk_Sp_of sp_L_appendText) pL_st (fun ci m S h => absurd h (by intro h; cases h)) hno_L ho_L_appendText (fun idx kd ci mm cost S2 h h5 => lk_L_appendText hl _ (gk_lk_mem h) h5)

def S_L_truncateText : gk_S := fun as n fl x y K => ∃ (v : Int32) (t : Nat), as = [.ref 0, .int v, .ref 200] ∧ (n = 202 ∧ fl = gk_fT) ∧ (x 95 1 = nI t) ∧ ((0 ≤ v ∧ v ≤ nI t) → K (.inl (some (.int 0))) n fl (gk_up x 95 1 v) (gk_uy y 200 0 (v).toInt64)) ∧ (¬ (0 ≤ v ∧ v ≤ nI t) → K (.inl (some (.int 1))) n fl x y)
theorem r_L_truncateText (w : gk_W c P cs (fun _ _ => none) rt uf sc K V) {idx : Nat} {v : Int32} {t : Nat} (hd : decode c pc = .ok (.invokestatic idx, 3)) (hp : pc + 3 = pc2) (hc : cs idx = some (0, 0, 3, 1, S_L_truncateText)) (h8 : Nat.ble (r.map Value.category).sum 8 = true) (hu : u + 1 ≤ uf) (hp0 : x 95 1 = nI t) (kk0 : (0 ≤ v ∧ v ≤ nI t) → V pc2 L ((.int 0) :: r) 202 gk_fT (gk_up x 95 1 v) (gk_uy y 200 0 (v).toInt64) (u + 1)) (kk1 : ¬ (0 ≤ v ∧ v ≤ nI t) → V pc2 L ((.int 1) :: r) 202 gk_fT x y (u + 1)) : V pc L (.ref 200 :: .int v :: .ref 0 :: r) 202 gk_fT x y u :=
  g_calls w hd hp hc (as := [.ref 0, .int v, .ref 200]) rfl h8 rfl rfl rfl (Or.inl rfl) (Or.inr hu) ⟨v, t, rfl, ⟨rfl, rfl⟩, hp0, kk0, kk1⟩
theorem nt_L_truncateText : gk_nt S_L_truncateText := fun _ _ _ _ _ _ ⟨v, t, e0, e1, e2, e3, e4⟩ => ⟨v, t, e0, e1, e2, e3, e4⟩
def H_L_truncateText : List gk_H := [(0, 9, 12, 13, 0, 13, 3)]
def L_L_truncateText : List (Nat × gk_M0) := [(133, (1, 9, 2, 1, S_X10_truncateText))]
def cs_L_truncateText : Nat → Option gk_M0 := gk_lk L_L_truncateText
theorem m_L_truncateText : ∀ (as : List Value) (n : Nat) (fl : gk_F) (x : gk_X) (y : gk_Y) (K : gk_K), S_L_truncateText as n fl x y K → (gk_L0 as).length ≤ 4 ∧ ∀ V : gk_V, gk_W cL_truncateText pL cs_L_truncateText (gk_fh H_L_truncateText) (some .int) 1 none K V → V 0 (gk_en as 4) [] n fl x y 0 := by
  intro as n fl x y K hS
  obtain ⟨v, t, rfl, ⟨rfl, rfl⟩, hp0, q0, q1⟩ := hS
  refine ⟨Nat.le_of_ble_eq_true rfl, fun V w => ?_⟩
  show V 0 [some (.ref 0), some (.int v), some (.ref 200), none] [] 202 gk_fT x y 0
  refine s_aload_n (pc2 := 1) w dL_truncateText_0 rfl rfl ?_
  refine s_iconst (pc2 := 2) (v := 0) w dL_truncateText_1 rfl rfl ?_
  refine s_aload_n (pc2 := 3) w dL_truncateText_2 rfl rfl ?_
  refine s_iload_n (pc2 := 4) w dL_truncateText_3 rfl rfl ?_
  refine g_callv (pc2 := 7) (r := [.int 0, .ref 200]) w dL_truncateText_4 rfl rfl (as := [.ref 0, .int v]) rfl rfl rfl rfl rfl (Or.inr (Or.inl ⟨Or.inl rfl, _, _, rfl, (gk_kd_j rfl rfl), rfl⟩)) (Or.inr (Nat.le_of_ble_eq_true rfl)) ⟨v, t, rfl, ⟨rfl, rfl⟩, hp0, ?_, ?_⟩
  · intro b0
    show V 7 [some (.ref 0), some (.int v), some (.ref 200), none] [(.int v), .int 0, .ref 200] 202 gk_fT (gk_up x 95 1 v) y (0 + 1)
    refine s_i2l (pc2 := 8) w dL_truncateText_7 rfl ?_
    refine m_lastoreN (pc2 := 9) (t := 0) (N := 1) w dL_truncateText_8 rfl rfl rfl rfl (by decide) rfl ?_
    refine s_goto (tgt := 15) w dL_truncateText_9 (by decide) ?_
    refine s_iconst (pc2 := 16) (v := 0) w dL_truncateText_15 rfl rfl ?_
    refine s_ireturn w dL_truncateText_16 rfl rfl ?_
    exact q0 b0
  · intro b0
    show V 13 [some (.ref 0), some (.int v), some (.ref 200), none] [] 202 gk_fT x y (0 + 1)
    refine s_iconst (pc2 := 14) (v := 1) w dL_truncateText_13 rfl rfl ?_
    refine s_ireturn w dL_truncateText_14 rfl rfl ?_
    exact q1 b0
theorem lk_L_truncateText {l : Launch} (hl : l.stackTraces = false) : ∀ q ∈ L_L_truncateText, (q.2.1 < 5 → gk_Lk l RL gk_W1 8 q.1 q.2.1 q.2.2.1 q.2.2.2.1 q.2.2.2.2.1 q.2.2.2.2.2) := (List.forall_mem_cons.mpr ⟨(fun _ => ⟨yX10_truncateText, cX10_truncateText, 2, (some .int), 7, _, M_X10_truncateText hl, ⟨by decide, by decide⟩, ⟨by decide, by decide, by decide +kernel⟩, ⟨(gk_wm 1236 (by decide +kernel)), (gk_wm 89 (by decide +kernel))⟩, Or.inr (Or.inr (Or.inr (Or.inl ⟨rfl, rfl, (gk_wm 1234 (by decide +kernel)), (gk_wm 1235 (by decide +kernel)), gk_wm 1233 (by decide +kernel), by decide, rfl⟩)))⟩), (fun _ h => absurd h List.not_mem_nil)⟩)
theorem sp_L_truncateText : ∀ q ∈ L_L_truncateText, gk_Sq RL gk_W1 8 q := (List.forall_mem_cons.mpr ⟨⟨fun h => absurd h (by decide), fun h => absurd h (by decide), fun h => absurd h (by decide), fun h => absurd h (by decide), fun h => absurd h (by decide), fun h => absurd h (by decide)⟩, (fun _ h => absurd h List.not_mem_nil)⟩)
theorem ho_L_truncateText : ∀ z ∈ H_L_truncateText, gk_Hok RL cL_truncateText 4 z := (List.forall_mem_cons.mpr ⟨⟨by decide, by decide, gk_wm 726 (by decide +kernel), by decide, Or.inr ⟨3, dL_truncateText_12, rfl, rfl⟩⟩, (fun _ h => absurd h List.not_mem_nil)⟩)
theorem M_L_truncateText {l : Launch} (hl : l.stackTraces = false) : gk_Mt l yL_truncateText (.codeWith yL_truncateText cL_truncateText 4 (some .int) (H_L_truncateText.map gk_hr) :: gk_W1) 8 1 S_L_truncateText := gk_methH gk_cw_ok H_L_truncateText (by decide +kernel) rfl nt_L_truncateText m_L_truncateText pL_ok (gk_Sp_of sp_L_truncateText) pL_st (fun ci m S h => absurd h (by intro h; cases h)) hno_L ho_L_truncateText (fun idx kd ci mm cost S2 h h5 => lk_L_truncateText hl _ (gk_lk_mem h) h5)

variable {Ls : Nat} {sv : Nat → Int32} {i : Int32} {q6 q7 q8 : Option Value}
theorem LI.tx {sv : Nat → Int32} {x x2 x3 : gk_X} {y y2 : gk_Y} {g : Nat → Int32} {t : Nat} (hs : SC sv x) (hT : LT x y) (hM : MG g x) (hR : RS 1 g x y) (hok : gOK g) (ht : t ≤ 500) (h1 : x2 95 1 = nI t) (h2 : ∀ i k, i ≠ 96 → ¬ (i = 95 ∧ k = 1) → x2 i k = x i k) (h3 : x3 189 11 = nI t) (h4 : ∀ i k, i ≠ 199 → ¬ (i = 189 ∧ (k = 11 ∨ k = 4)) → x3 i k = x2 i k) (h5 : ∀ k, k < t → x2 96 k = x3 199 k ∧ ¬ x3 199 k = -1) (hy : ∀ i k, i ≠ 200 → i ≠ 201 → y2 i k = y i k) : LI sv x3 y2 := by
  have f : ∀ i k, i ≠ 199 → i ≠ 96 → ¬ (i = 189 ∧ (k = 11 ∨ k = 4)) → ¬ (i = 95 ∧ k = 1) → x3 i k = x i k := fun i k a b c d => (h4 i k a c).trans (h2 i k b d)
  refine ⟨hs.go (fun k => f 5000 k (by omega) (by omega) (by omega) (by omega)), ⟨fun q hq => ?_, ⟨t, ht, (h4 95 1 (by omega) (by omega)).trans h1, h3, fun k hk => ⟨(h4 96 k (by omega) (by omega)).trans (h5 k hk).1, (h5 k hk).2⟩⟩, ?_⟩, g, fun k hk => (f 190 k (by omega) (by omega) (by omega) (by omega)).trans (hM k hk), hR.cg hok.1 (fun i k a b => f i k (by omega) (by omega) (by omega) (by omega)) (fun k => hy 1 k (by omega) (by omega)), hok⟩
  · obtain ⟨b1, b2, b3⟩ := hT.1 q hq
    rw [f 193 q (by omega) (by omega) (by omega) (by omega), f 88 q (by omega) (by omega) (by omega) (by omega)]
    refine ⟨b1, b2, fun h0 => ?_⟩
    obtain ⟨h, g1, g2, g3⟩ := b3 h0
    refine ⟨h, g1.cg g2.1 (fun i k a b => f i k (by omega) (by omega) (by omega) (by omega)) (fun k => hy _ k (by omega) (by omega)), g2, fun k hk => ?_⟩
    rw [f 192 _ (by omega) (by omega) (by omega) (by omega)]
    exact g3 k hk
  · unfold LTe
    rw [f 97 0 (by omega) (by omega) (by omega) (by omega), f 97 1 (by omega) (by omega) (by omega) (by omega), f 189 17 (by omega) (by omega) (by omega) (by omega), f 189 18 (by omega) (by omega) (by omega) (by omega)]
    exact hT.2.2
/-- only thrown has changed -/
theorem LI.th {sv : Nat → Int32} {x : gk_X} {y y2 : gk_Y} {g : Nat → Int32} (hs : SC sv x) (hT : LT x y) (hM : MG g x) (hR : RS 1 g x y) (hok : gOK g) (v : Int32) (hy : ∀ i k, i ≠ 200 → i ≠ 201 → y2 i k = y i k) : LI sv (gk_up x 189 4 v) y2 := LI.st hs hT (COk.ini hR) hy (t := v) ⟨fun k hk => (gk_up_ne (by omega)).trans (hM k hk), gk_up_in _ _ _ _, fun i k h => gk_up_ne (by omega), fun _ _ _ => rfl⟩ hok
theorem tF_1 (v : Int32) (n : Nat) : ¬ tF v n = -1 := by
  have h : ∀ w : Int32, ¬ w &&& 255 = -1 := fun w e => by
    have e2 : (w &&& 255).toBitVec.toNat ≤ 255 := by
      rw [Int32.toBitVec_and, BitVec.toNat_and]
      exact Nat.and_le_right
    rw [e] at e2
    exact absurd e2 (by decide)
  unfold tF
  split
  · exact h _
  split
  · exact h _
  split
  · exact h _
  · exact h _
theorem LI.ap {sv : Nat → Int32} {x : gk_X} {y y2 : gk_Y} {g : Nat → Int32} {t : Nat} (F : Nat → Int32) (hF : ∀ n, ¬ F n = -1) (hs : SC sv x) (hT : LT x y) (hM : MG g x) (hR : RS 1 g x y) (hok : gOK g) (ht : t + 4 ≤ 500) (e : ∀ k, k < t → x 96 k = x 199 k ∧ ¬ x 199 k = -1) (hy : ∀ i k, i ≠ 200 → i ≠ 201 → y2 i k = y i k) : LI sv (gk_up (gk_rg (gk_up (gk_up (gk_rg x 96 t 4 F) 95 1 (nI (t + 4))) 189 4 0) 199 t 4 F) 189 11 (nI (t + 4))) y2 := by
  refine LI.tx (t := t + 4) (x2 := gk_up (gk_rg x 96 t 4 F) 95 1 (nI (t + 4))) hs hT hM hR hok ht (gk_up_in _ _ _ _) (fun i k h1 h2 => (gk_up_ne h2).trans (gk_rg_ne (by omega))) (gk_up_in _ _ _ _) (fun i k h1 h2 => (gk_up_ne (by omega)).trans ((gk_rg_ne (by omega)).trans (gk_up_ne (by omega)))) (fun k hk => ?_) hy
  rw [gk_up_ne (by omega), gk_up_ne (by omega)]
  rcases Nat.lt_or_ge k t with h | h
  · rw [gk_rg_ne (by omega), gk_rg_ne (by omega), gk_up_ne (by omega), gk_up_ne (by omega), gk_rg_ne (by omega)]
    exact e k h
  · obtain ⟨j, rfl⟩ : ∃ j, k = t + j := ⟨k - t, by omega⟩
    rw [gk_rg_in (by omega), gk_rg_in (by omega)]
    exact ⟨rfl, hF j⟩
theorem LI.tr {sv : Nat → Int32} {x : gk_X} {y y2 : gk_Y} {g : Nat → Int32} {t : Nat} {v : Int32} (hs : SC sv x) (hT : LT x y) (hM : MG g x) (hR : RS 1 g x y) (hok : gOK g) (ht : t ≤ 500) (hv : 0 ≤ v ∧ v ≤ nI t) (e : ∀ k, k < t → x 96 k = x 199 k ∧ ¬ x 199 k = -1) (hy : ∀ i k, i ≠ 200 → i ≠ 201 → y2 i k = y i k) : LI sv (gk_up (gk_up (gk_up x 95 1 v) 189 4 0) 189 11 v) y2 := by
  obtain ⟨q, rfl, hq⟩ := ix_b (b := t) (by omega) hv
  refine LI.tx (t := q) (x2 := gk_up x 95 1 (nI q)) hs hT hM hR hok (by omega) (gk_up_in _ _ _ _) (fun i k h1 h2 => gk_up_ne h2) (gk_up_in _ _ _ _) (fun i k h1 h2 => (gk_up_ne (by omega)).trans (gk_up_ne (by omega))) (fun k hk => ?_) hy
  rw [gk_up_ne (by omega), gk_up_ne (by omega), gk_up_ne (by omega), gk_up_ne (by omega)]
  exact e k (by omega)
theorem lc_37 (w : gk_W cL_law pL cs (fun _ _ => none) rt uf (some Ls) K V) (hc1 : cs 277 = some (0, 0, 3, 1, S_L_appendText)) (hc2 : cs 279 = some (1, 10, 2, 0, S_X11_appendText)) (hc3 : cs 152 = some (1, 10, 1, 0, S_X11_thrown)) {a1 : Int32} (h1 : vp_in (i + 1) Ls) (e1 : sv (i + 1).toNatClampNeg = a1) (hu : u + 6 ≤ uf) (hI : LI sv x y) (kk : ∀ (x2 : gk_X) (y2 : gk_Y) (q6 q7 q8 : Option Value) (u2 : Nat), u2 ≤ u + 6 → LI sv x2 y2 → V 3095 [some (.ref 5000), some (.ref 0), some (.ref 189), some (.ref 200), some (.ref 201), some (.int i), q6, q7, q8] [] 202 gk_fT x2 y2 u2) : V 2872 [some (.ref 5000), some (.ref 0), some (.ref 189), some (.ref 200), some (.ref 201), some (.int i), q6, q7, q8] [] 202 gk_fT x y u := by
  obtain ⟨sc, hT, g, hM, hR, hok⟩ := hI
  obtain ⟨t, t1, t2, t3, t4⟩ := id hT.2.1
  refine s_aload_n (pc2 := 2873) w dL_law_2872 rfl rfl ?_
  refine s_aload_n (pc2 := 2874) w dL_law_2873 rfl rfl ?_
  refine s_iload (pc2 := 2876) w dL_law_2874 rfl rfl ?_
  refine s_iconst (pc2 := 2877) (v := 1) w dL_law_2876 rfl rfl ?_
  refine s_iadd (pc2 := 2878) w dL_law_2877 rfl ?_
  refine g_ialoadS (pc2 := 2879) w dL_law_2878 rfl rfl h1 ?_
  rw [sc _, e1]
  refine s_aload_n (pc2 := 2880) w dL_law_2879 rfl rfl ?_
  refine r_L_appendText (pc2 := 2883) w dL_law_2880 rfl hc1 rfl (by omega) t2 t1 (fun b0 => ?_) (fun b0 => ?_)
  · have sc2 : SC sv (gk_up (gk_rg x 96 t 4 (tF a1)) 95 1 (nI (t + 4))) := sc.go (fun k => (gk_up_ne (by omega)).trans (gk_rg_ne (by omega)))
    refine s_istore (pc2 := 2885) w dL_law_2883 rfl rfl ?_
    dsimp only [gk_s1, gk_s2, gk_cl]
    refine s_aload_n (pc2 := 2886) w dL_law_2885 rfl rfl ?_
    refine s_aload_n (pc2 := 2887) w dL_law_2886 rfl rfl ?_
    refine s_iload (pc2 := 2889) w dL_law_2887 rfl rfl ?_
    refine s_iconst (pc2 := 2890) (v := 1) w dL_law_2889 rfl rfl ?_
    refine s_iadd (pc2 := 2891) w dL_law_2890 rfl ?_
    refine g_ialoadS (pc2 := 2892) w dL_law_2891 rfl rfl h1 ?_
    rw [sc2 _, e1]
    refine r_X11_appendText (pc2 := 2895) w dL_law_2892 rfl hc2 rfl ((gk_up_ne (by omega)).trans ((gk_rg_ne (by omega)).trans t3)) t1 (fun d0 => ?_) (fun d0 => absurd b0 d0)
    refine s_istore (pc2 := 2897) w dL_law_2895 rfl rfl ?_
    dsimp only [gk_s1, gk_s2, gk_cl]
    refine s_aload_n (pc2 := 2898) w dL_law_2897 rfl rfl ?_
    refine r_X11_thrown (pc2 := 2901) w dL_law_2898 rfl hc3 rfl ?_
    rw [show (gk_up (gk_rg (gk_up (gk_up (gk_rg x 96 t 4 (tF a1)) 95 1 (nI (t + 4))) 189 4 0) 199 t 4 (tF a1)) 189 11 (nI (t + 4))) 189 4 = 0 from (gk_up_ne (by omega)).trans ((gk_rg_ne (by omega)).trans (gk_up_in _ _ _ _))]
    refine s_iload (pc2 := 2903) w dL_law_2901 rfl rfl ?_
    refine s_ic_eq (pc2 := 2906) (tgt := 2908) w dL_law_2903 rfl (by decide) (fun _ => ?_) (fun h0 => absurd (rfl) h0)
    refine s_iload (pc2 := 2910) w dL_law_2908 rfl rfl ?_
    refine s_if_ne (pc2 := 2913) (tgt := 2925) w dL_law_2910 rfl (by decide) (fun h0 => absurd (rfl) h0) (fun _ => ?_)
    refine s_aload_n (pc2 := 2914) w dL_law_2913 rfl rfl ?_
    refine s_iconst (pc2 := 2915) (v := 0) w dL_law_2914 rfl rfl ?_
    refine m_laloadN (pc2 := 2916) (t := 0) (N := 1) w dL_law_2915 rfl rfl rfl rfl (by decide) rfl ?_
    rw [gk_uy_in]
    refine s_iload (pc2 := 2918) w dL_law_2916 rfl rfl ?_
    refine s_i2l (pc2 := 2919) w dL_law_2918 rfl ?_
    refine s_lcmp (pc2 := 2920) w dL_law_2919 rfl ?_
    refine s_if_eq (pc2 := 2923) (tgt := 2925) w dL_law_2920 rfl (by decide) (fun _ => ?_) (fun h0 => absurd (lcm_self _) h0)
    refine s_goto (tgt := 3095) w dL_law_2925 (by decide) ?_
    exact kk _ _ _ _ _ _ (by omega) (LI.ap (tF a1) (tF_1 a1) sc hT hM hR hok b0 t4 (uy_out (Or.inl rfl)))
  · refine s_istore (pc2 := 2885) w dL_law_2883 rfl rfl ?_
    dsimp only [gk_s1, gk_s2, gk_cl]
    refine s_aload_n (pc2 := 2886) w dL_law_2885 rfl rfl ?_
    refine s_aload_n (pc2 := 2887) w dL_law_2886 rfl rfl ?_
    refine s_iload (pc2 := 2889) w dL_law_2887 rfl rfl ?_
    refine s_iconst (pc2 := 2890) (v := 1) w dL_law_2889 rfl rfl ?_
    refine s_iadd (pc2 := 2891) w dL_law_2890 rfl ?_
    refine g_ialoadS (pc2 := 2892) w dL_law_2891 rfl rfl h1 ?_
    rw [sc _, e1]
    refine r_X11_appendText (pc2 := 2895) w dL_law_2892 rfl hc2 rfl t3 t1 (fun d0 => absurd d0 b0) (fun d0 => ?_)
    refine s_istore (pc2 := 2897) w dL_law_2895 rfl rfl ?_
    dsimp only [gk_s1, gk_s2, gk_cl]
    refine s_aload_n (pc2 := 2898) w dL_law_2897 rfl rfl ?_
    refine r_X11_thrown (pc2 := 2901) w dL_law_2898 rfl hc3 rfl ?_
    rw [gk_up_in]
    refine s_iload (pc2 := 2903) w dL_law_2901 rfl rfl ?_
    refine s_ic_eq (pc2 := 2906) (tgt := 2908) w dL_law_2903 rfl (by decide) (fun _ => ?_) (fun h0 => absurd (rfl) h0)
    refine s_iload (pc2 := 2910) w dL_law_2908 rfl rfl ?_
    refine s_if_ne (pc2 := 2913) (tgt := 2925) w dL_law_2910 rfl (by decide) (fun _ => ?_) (fun h0 => absurd h0 (by decide))
    refine s_goto (tgt := 3095) w dL_law_2925 (by decide) ?_
    exact kk _ _ _ _ _ _ (by omega) (LI.th sc hT hM hR hok 1 (fun _ _ _ _ => rfl))

theorem lc_38 (w : gk_W cL_law pL cs (fun _ _ => none) rt uf (some Ls) K V) (hc1 : cs 280 = some (0, 0, 3, 1, S_L_truncateText)) (hc2 : cs 282 = some (1, 10, 2, 0, S_X11_truncateText)) (hc3 : cs 152 = some (1, 10, 1, 0, S_X11_thrown)) {a1 : Int32} (h1 : vp_in (i + 1) Ls) (e1 : sv (i + 1).toNatClampNeg = a1) (hu : u + 6 ≤ uf) (hI : LI sv x y) (kk : ∀ (x2 : gk_X) (y2 : gk_Y) (q6 q7 q8 : Option Value) (u2 : Nat), u2 ≤ u + 6 → LI sv x2 y2 → V 3095 [some (.ref 5000), some (.ref 0), some (.ref 189), some (.ref 200), some (.ref 201), some (.int i), q6, q7, q8] [] 202 gk_fT x2 y2 u2) : V 2928 [some (.ref 5000), some (.ref 0), some (.ref 189), some (.ref 200), some (.ref 201), some (.int i), q6, q7, q8] [] 202 gk_fT x y u := by
  obtain ⟨sc, hT, g, hM, hR, hok⟩ := hI
  obtain ⟨t, t1, t2, t3, t4⟩ := id hT.2.1
  refine s_aload_n (pc2 := 2929) w dL_law_2928 rfl rfl ?_
  refine s_aload_n (pc2 := 2930) w dL_law_2929 rfl rfl ?_
  refine s_iload (pc2 := 2932) w dL_law_2930 rfl rfl ?_
  refine s_iconst (pc2 := 2933) (v := 1) w dL_law_2932 rfl rfl ?_
  refine s_iadd (pc2 := 2934) w dL_law_2933 rfl ?_
  refine g_ialoadS (pc2 := 2935) w dL_law_2934 rfl rfl h1 ?_
  rw [sc _, e1]
  refine s_aload_n (pc2 := 2936) w dL_law_2935 rfl rfl ?_
  refine r_L_truncateText (pc2 := 2939) w dL_law_2936 rfl hc1 rfl (by omega) t2 (fun b0 => ?_) (fun b0 => ?_)
  · have sc2 : SC sv (gk_up x 95 1 a1) := sc.go (fun k => gk_up_ne (by omega))
    refine s_istore (pc2 := 2941) w dL_law_2939 rfl rfl ?_
    dsimp only [gk_s1, gk_s2, gk_cl]
    refine s_aload_n (pc2 := 2942) w dL_law_2941 rfl rfl ?_
    refine s_aload_n (pc2 := 2943) w dL_law_2942 rfl rfl ?_
    refine s_iload (pc2 := 2945) w dL_law_2943 rfl rfl ?_
    refine s_iconst (pc2 := 2946) (v := 1) w dL_law_2945 rfl rfl ?_
    refine s_iadd (pc2 := 2947) w dL_law_2946 rfl ?_
    refine g_ialoadS (pc2 := 2948) w dL_law_2947 rfl rfl h1 ?_
    rw [sc2 _, e1]
    refine r_X11_truncateText (pc2 := 2951) w dL_law_2948 rfl hc2 rfl ((gk_up_ne (by omega)).trans t3) (fun d0 => ?_) (fun d0 => absurd b0 d0)
    refine s_istore (pc2 := 2953) w dL_law_2951 rfl rfl ?_
    dsimp only [gk_s1, gk_s2, gk_cl]
    refine s_aload_n (pc2 := 2954) w dL_law_2953 rfl rfl ?_
    refine r_X11_thrown (pc2 := 2957) w dL_law_2954 rfl hc3 rfl ?_
    rw [show (gk_up (gk_up (gk_up x 95 1 a1) 189 4 0) 189 11 a1) 189 4 = 0 from (gk_up_ne (by omega)).trans (gk_up_in _ _ _ _)]
    refine s_iload (pc2 := 2959) w dL_law_2957 rfl rfl ?_
    refine s_ic_eq (pc2 := 2962) (tgt := 2964) w dL_law_2959 rfl (by decide) (fun _ => ?_) (fun h0 => absurd (rfl) h0)
    refine s_iload (pc2 := 2966) w dL_law_2964 rfl rfl ?_
    refine s_if_ne (pc2 := 2969) (tgt := 2981) w dL_law_2966 rfl (by decide) (fun h0 => absurd (rfl) h0) (fun _ => ?_)
    refine s_aload_n (pc2 := 2970) w dL_law_2969 rfl rfl ?_
    refine s_iconst (pc2 := 2971) (v := 0) w dL_law_2970 rfl rfl ?_
    refine m_laloadN (pc2 := 2972) (t := 0) (N := 1) w dL_law_2971 rfl rfl rfl rfl (by decide) rfl ?_
    rw [gk_uy_in]
    refine s_iload (pc2 := 2974) w dL_law_2972 rfl rfl ?_
    refine s_i2l (pc2 := 2975) w dL_law_2974 rfl ?_
    refine s_lcmp (pc2 := 2976) w dL_law_2975 rfl ?_
    refine s_if_eq (pc2 := 2979) (tgt := 2981) w dL_law_2976 rfl (by decide) (fun _ => ?_) (fun h0 => absurd (lcm_self _) h0)
    refine s_goto (tgt := 3095) w dL_law_2981 (by decide) ?_
    exact kk _ _ _ _ _ _ (by omega) (LI.tr sc hT hM hR hok t1 b0 t4 (uy_out (Or.inl rfl)))
  · refine s_istore (pc2 := 2941) w dL_law_2939 rfl rfl ?_
    dsimp only [gk_s1, gk_s2, gk_cl]
    refine s_aload_n (pc2 := 2942) w dL_law_2941 rfl rfl ?_
    refine s_aload_n (pc2 := 2943) w dL_law_2942 rfl rfl ?_
    refine s_iload (pc2 := 2945) w dL_law_2943 rfl rfl ?_
    refine s_iconst (pc2 := 2946) (v := 1) w dL_law_2945 rfl rfl ?_
    refine s_iadd (pc2 := 2947) w dL_law_2946 rfl ?_
    refine g_ialoadS (pc2 := 2948) w dL_law_2947 rfl rfl h1 ?_
    rw [sc _, e1]
    refine r_X11_truncateText (pc2 := 2951) w dL_law_2948 rfl hc2 rfl t3 (fun d0 => absurd d0 b0) (fun d0 => ?_)
    refine s_istore (pc2 := 2953) w dL_law_2951 rfl rfl ?_
    dsimp only [gk_s1, gk_s2, gk_cl]
    refine s_aload_n (pc2 := 2954) w dL_law_2953 rfl rfl ?_
    refine r_X11_thrown (pc2 := 2957) w dL_law_2954 rfl hc3 rfl ?_
    rw [gk_up_in]
    refine s_iload (pc2 := 2959) w dL_law_2957 rfl rfl ?_
    refine s_ic_eq (pc2 := 2962) (tgt := 2964) w dL_law_2959 rfl (by decide) (fun _ => ?_) (fun h0 => absurd (rfl) h0)
    refine s_iload (pc2 := 2966) w dL_law_2964 rfl rfl ?_
    refine s_if_ne (pc2 := 2969) (tgt := 2981) w dL_law_2966 rfl (by decide) (fun _ => ?_) (fun h0 => absurd h0 (by decide))
    refine s_goto (tgt := 3095) w dL_law_2981 (by decide) ?_
    exact kk _ _ _ _ _ _ (by omega) (LI.th sc hT hM hR hok 1 (fun _ _ _ _ => rfl))

theorem lc_40 (w : gk_W cL_law pL cs (fun _ _ => none) rt uf (some Ls) K V) (hc1 : cs 287 = some (1, 9, 1, 0, S_X10_errorCode)) (hc2 : cs 290 = some (1, 10, 1, 0, S_X11_errorCode))  (hu : u + 6 ≤ uf) (hI : LI sv x y) (kk : ∀ (x2 : gk_X) (y2 : gk_Y) (q6 q7 q8 : Option Value) (u2 : Nat), u2 ≤ u + 6 → LI sv x2 y2 → V 3095 [some (.ref 5000), some (.ref 0), some (.ref 189), some (.ref 200), some (.ref 201), some (.int i), q6, q7, q8] [] 202 gk_fT x2 y2 u2) : V 2997 [some (.ref 5000), some (.ref 0), some (.ref 189), some (.ref 200), some (.ref 201), some (.int i), q6, q7, q8] [] 202 gk_fT x y u := by
  obtain ⟨sc, hT, g, hM, hR, hok⟩ := hI
  refine s_aload_n (pc2 := 2998) w dL_law_2997 rfl rfl ?_
  refine r_X10_errorCode (pc2 := 3001) w dL_law_2998 rfl hc1 rfl ?_
  refine s_aload_n (pc2 := 3002) w dL_law_3001 rfl rfl ?_
  refine r_X11_errorCode (pc2 := 3005) w dL_law_3002 rfl hc2 rfl ?_
  refine s_ic_eq (pc2 := 3008) (tgt := 3095) w dL_law_3005 rfl (by decide) (fun _ => ?_) (fun h0 => absurd (hT.2.2.1.trans (gk_up_ne (by omega)).symm) h0)
  exact kk _ _ _ _ _ _ (by omega) (LI.th sc hT hM hR hok 0 (fun _ _ _ _ => rfl))

theorem lc_41 (w : gk_W cL_law pL cs (fun _ _ => none) rt uf (some Ls) K V) (hc1 : cs 291 = some (1, 9, 1, 0, S_X10_errorPosition)) (hc2 : cs 294 = some (1, 10, 1, 0, S_X11_errorPosition))  (hu : u + 6 ≤ uf) (hI : LI sv x y) (kk : ∀ (x2 : gk_X) (y2 : gk_Y) (q6 q7 q8 : Option Value) (u2 : Nat), u2 ≤ u + 6 → LI sv x2 y2 → V 3095 [some (.ref 5000), some (.ref 0), some (.ref 189), some (.ref 200), some (.ref 201), some (.int i), q6, q7, q8] [] 202 gk_fT x2 y2 u2) : V 3010 [some (.ref 5000), some (.ref 0), some (.ref 189), some (.ref 200), some (.ref 201), some (.int i), q6, q7, q8] [] 202 gk_fT x y u := by
  obtain ⟨sc, hT, g, hM, hR, hok⟩ := hI
  refine s_aload_n (pc2 := 3011) w dL_law_3010 rfl rfl ?_
  refine r_X10_errorPosition (pc2 := 3014) w dL_law_3011 rfl hc1 rfl ?_
  refine s_aload_n (pc2 := 3015) w dL_law_3014 rfl rfl ?_
  refine r_X11_errorPosition (pc2 := 3018) w dL_law_3015 rfl hc2 rfl ?_
  refine s_ic_eq (pc2 := 3021) (tgt := 3095) w dL_law_3018 rfl (by decide) (fun _ => ?_) (fun h0 => absurd (hT.2.2.2.trans (gk_up_ne (by omega)).symm) h0)
  exact kk _ _ _ _ _ _ (by omega) (LI.th sc hT hM hR hok 0 (fun _ _ _ _ => rfl))

end GKV

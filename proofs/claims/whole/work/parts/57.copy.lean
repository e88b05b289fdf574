/-! THE METHODS, 36: copies, saved states -/
section GKV
variable {c : ByteArray} {P : gk_C} {cs : Nat → Option gk_M0} {rt : Option FieldType} {uf : Nat} {sc : Option Nat} {K : gk_K} {V : gk_V}
variable {L : List (Option Value)} {r : List Value} {n : Nat} {fl : gk_F} {x : gk_X} {y : gk_Y} {u pc pc2 : Nat}
def BLK (b : Nat) : Prop := b = 1 ∨ b = 44 ∨ b = 103 ∨ b = 146
theorem blk {b : Nat} (h : BLK b) : gk_kd b = 4 ∧ gk_kd (b + 1) = 24 ∧ gk_ln (b + 1) = 4 ∧ gk_kd (b + 2) = 25 ∧ gk_ln (b + 2) = 6 ∧ gk_kd (b + 3) = 26 ∧ gk_ln (b + 3) = 8 ∧ gk_kd (b + 4) = 3 := by
  rcases h with rfl | rfl | rfl | rfl <;> decide
theorem blkV {b n : Nat} (h : BLK b) (hn : n < 4) : gk_kd (n + (b + 5)) = 3 := by
  have H : ∀ b ∈ [1, 44, 103, 146], ∀ v, v < 4 → gk_kd (v + (b + 5)) = 3 := by decide
  rcases h with rfl | rfl | rfl | rfl <;> exact H _ (by decide) n hn
theorem blkS {b n : Nat} (h : BLK b) (hn : n < 6) : gk_kd (3 * n + (b + 9)) = 6 ∧ gk_kd (3 * n + (b + 9) + 1) = 3 ∧ gk_kd (3 * n + (b + 9) + 2) = 20 ∧ gk_ln (3 * n + (b + 9) + 2) = 16 := by
  have H : ∀ b ∈ [1, 44, 103, 146], ∀ n, n < 6 → gk_kd (3 * n + (b + 9)) = 6 ∧ gk_kd (3 * n + (b + 9) + 1) = 3 ∧ gk_kd (3 * n + (b + 9) + 2) = 20 ∧ gk_ln (3 * n + (b + 9) + 2) = 16 := by decide
  rcases h with rfl | rfl | rfl | rfl <;> exact H _ (by decide) n hn
theorem blkM {b n : Nat} (h : BLK b) (hn : n < 8) : gk_kd (2 * n + (b + 27)) = 1 ∧ gk_kd (2 * n + (b + 27) + 1) = 20 ∧ gk_ln (2 * n + (b + 27) + 1) = 256 := by
  have H : ∀ b ∈ [1, 44, 103, 146], ∀ n, n < 8 → gk_kd (2 * n + (b + 27)) = 1 ∧ gk_kd (2 * n + (b + 27) + 1) = 20 ∧ gk_ln (2 * n + (b + 27) + 1) = 256 := by decide
  rcases h with rfl | rfl | rfl | rfl <;> exact H _ (by decide) n hn
theorem RS_copy {b c : Nat} {g : Nat → Int32} {x x2 : gk_X} {y y2 : gk_Y} (hw : gWf g) (h : RS c g x y) (h0 : ∀ k, 4 ≤ k → k ≤ 15 → k ≠ 10 → x2 b k = x c k) (hy : y2 b 10 = y c 10) (hv : ∀ v k, v < 4 → k < 3 → x2 (v + (b + 5)) k = x (v + (c + 5)) k)
    (hs : ∀ a, a < 6 → (x2 (3 * a + (b + 9)) 2 = x (3 * a + (c + 9)) 2 ∧ x2 (3 * a + (b + 9)) 3 = x (3 * a + (c + 9)) 3) ∧ (∀ k, k < 4 → x2 (3 * a + (b + 9) + 1) k = x (3 * a + (c + 9) + 1) k) ∧ ∀ k, k < 16 → x2 (3 * a + (b + 9) + 2) k = x (3 * a + (c + 9) + 2) k)
    (hm : ∀ m, m < 8 → (∀ k, 1 ≤ k → k ≤ 4 → x2 (2 * m + (b + 27)) k = x (2 * m + (c + 27)) k) ∧ ∀ k, k < 256 → x2 (2 * m + (b + 27) + 1) k = x (2 * m + (c + 27) + 1) k) (hf : ∀ k, k < 4 → x2 (b + 4) k = x (c + 4) k) : RS b g x2 y2 := by
  obtain ⟨k0, k2, k3, k4, k5, k6, k7⟩ := h
  obtain ⟨nv4, ns6, nm8, -⟩ := wf_n hw
  refine ⟨?_, hy.trans k2, fun v hv2 => ?_, fun a ha => ?_, fun m hm2 => ?_, fun m hm2 k hk => ?_, ?_⟩
  · obtain ⟨⟨r4, r5, r6⟩, r7, r8, r9, r11, r12, r15, r13, r14⟩ := k0
    exact ⟨⟨(h0 4 (by decide) (by decide) (by decide)).trans r4, (h0 5 (by decide) (by decide) (by decide)).trans r5, (h0 6 (by decide) (by decide) (by decide)).trans r6⟩, (h0 7 (by decide) (by decide) (by decide)).trans r7, (h0 8 (by decide) (by decide) (by decide)).trans r8, (h0 9 (by decide) (by decide) (by decide)).trans r9, (h0 11 (by decide) (by decide) (by decide)).trans r11, (h0 12 (by decide) (by decide) (by decide)).trans r12, (h0 15 (by decide) (by decide) (by decide)).trans r15, (h0 13 (by decide) (by decide) (by decide)).trans r13, fun e => (h0 14 (by decide) (by decide) (by decide)).trans (r14 e)⟩
  · rw [hv v 0 (by omega) (by decide), hv v 1 (by omega) (by decide), hv v 2 (by omega) (by decide)]
    exact k3 v hv2
  · obtain ⟨⟨s1, s2⟩, s3, s4⟩ := hs a (by omega)
    have hW : sW g a ≤ 16 := by
      have := (hw.2.2.1 a ha).2.2.2.2.1
      unfold sW; omega
    obtain ⟨⟨t1, t2⟩, ⟨t3, t4, t5, t6⟩, t7⟩ := k4 a ha
    exact ⟨⟨s1.trans t1, s2.trans t2⟩, ⟨(s3 0 (by decide)).trans t3, (s3 1 (by decide)).trans t4, (s3 2 (by decide)).trans t5, (s3 3 (by decide)).trans t6⟩, fun k hk => (s4 k (by omega)).trans (t7 k hk)⟩
  · obtain ⟨m1, m2⟩ := hm m (by omega)
    obtain ⟨t1, t2, t3, t4⟩ := k5 m hm2
    exact ⟨(m1 1 (by decide) (by decide)).trans t1, (m1 2 (by decide) (by decide)).trans t2, (m1 3 (by decide) (by decide)).trans t3, (m1 4 (by decide) (by decide)).trans t4⟩
  · exact ((hm m (by omega)).2 k hk).trans (k6 m hm2 k hk)
  · unfold rsf
    rw [hf 0 (by decide), hf 1 (by decide), hf 2 (by decide), hf 3 (by decide)]
    exact k7
def S_X7_copyFrom : gk_S := fun as n fl x y K => ∃ (j : Nat) (p : Nat), as = [.ref j, .ref p] ∧ (n = 202 ∧ fl = gk_fT) ∧ gk_kd j = 6 ∧ gk_kd p = 6 ∧ (gk_kd (j + 1) = 3) ∧ (gk_kd (p + 1) = 3) ∧ (gk_kd (j + 2) = 20) ∧ (gk_kd (p + 2) = 20) ∧ (gk_ln (j + 2) = 16) ∧ (gk_ln (p + 2) = 16) ∧ (p + 2 < j ∨ j + 2 < p) ∧ (∀ x2 : gk_X, (x2 j 2 = x p 2 ∧ x2 j 3 = x p 3) → (∀ k, k < 4 → x2 (j + 1) k = x (p + 1) k) → (∀ k, k < 16 → x2 (j + 2) k = x (p + 2) k) → (∀ i k, ¬ (j ≤ i ∧ i ≤ j + 2) → x2 i k = x i k) → K (.inl none) n fl x2 y)
theorem r_X7_copyFrom (w : gk_W c P cs (fun _ _ => none) rt uf sc K V) {idx : Nat} {j : Nat} {p : Nat} (hd : decode c pc = .ok (.invokevirtual idx, 3)) (hp : pc + 3 = pc2) (hc : cs idx = some (1, 6, 2, 0, S_X7_copyFrom)) (h8 : Nat.ble (r.map Value.category).sum 8 = true) (hk0 : gk_kd j = 6) (hk1 : gk_kd p = 6) (hp0 : gk_kd (j + 1) = 3) (hp1 : gk_kd (p + 1) = 3) (hp2 : gk_kd (j + 2) = 20) (hp3 : gk_kd (p + 2) = 20) (hp4 : gk_ln (j + 2) = 16) (hp5 : gk_ln (p + 2) = 16) (hp6 : p + 2 < j ∨ j + 2 < p) (kk0 : ∀ x2 : gk_X, (x2 j 2 = x p 2 ∧ x2 j 3 = x p 3) → (∀ k, k < 4 → x2 (j + 1) k = x (p + 1) k) → (∀ k, k < 16 → x2 (j + 2) k = x (p + 2) k) → (∀ i k, ¬ (j ≤ i ∧ i ≤ j + 2) → x2 i k = x i k) → V pc2 L r 202 gk_fT x2 y u) : V pc L (.ref p :: .ref j :: r) 202 gk_fT x y u :=
  g_callv w hd hp hc (as := [.ref j, .ref p]) rfl h8 rfl rfl rfl (Or.inr (Or.inl ⟨Or.inl rfl, _, _, rfl, (gk_kd_j hk0 rfl), hk0⟩)) (Or.inl rfl) ⟨j, p, rfl, ⟨rfl, rfl⟩, hk0, hk1, hp0, hp1, hp2, hp3, hp4, hp5, hp6, kk0⟩
def L_X7_copyFrom : List (Nat × gk_M0) := [(33, (1, 3, 2, 0, S_X3_copyFrom)), (37, (8, 0, 0, 0, fun _ _ _ _ _ _ => False))]
def cs_X7_copyFrom : Nat → Option gk_M0 := gk_lk L_X7_copyFrom
theorem m_X7_copyFrom : ∀ (as : List Value) (n : Nat) (fl : gk_F) (x : gk_X) (y : gk_Y) (K : gk_K), S_X7_copyFrom as n fl x y K → (gk_L0 as).length ≤ 2 ∧ ∀ V : gk_V, gk_W cX7_copyFrom pX7 cs_X7_copyFrom (fun _ _ => none) none 0 none K V → V 0 (gk_en as 2) [] n fl x y 0 := by
  intro as n fl x y K hS
  obtain ⟨j, p, rfl, ⟨rfl, rfl⟩, hk0, hk1, hp0, hp1, hp2, hp3, hp4, hp5, hp6, q0⟩ := hS
  refine ⟨Nat.le_of_ble_eq_true rfl, fun V w => ?_⟩
  show V 0 [some (.ref j), some (.ref p)] [] 202 gk_fT x y 0
  refine s_aload_n (pc2 := 1) w dX7_copyFrom_0 rfl rfl ?_
  refine m_getR (pc2 := 4) (ci := 6) (k := 0) (j2 := (j + 1)) w dX7_copyFrom_1 rfl rfl (by first | exact hk0 | exact hk1 | exact hp0 | exact hp1) rfl rfl rfl ?_
  refine s_aload_n (pc2 := 5) w dX7_copyFrom_4 rfl rfl ?_
  refine m_getR (pc2 := 8) (ci := 6) (k := 0) (j2 := (p + 1)) w dX7_copyFrom_5 rfl rfl (by first | exact hk0 | exact hk1 | exact hp0 | exact hp1) rfl rfl rfl ?_
  refine r_X3_copyFrom (pc2 := 11) w dX7_copyFrom_8 rfl rfl rfl (by first | exact hk0 | exact hk1 | exact hp0 | exact hp1) (by first | exact hk0 | exact hk1 | exact hp0 | exact hp1) ?_
  have p4 : ∀ k, k < 4 → (gk_up (gk_up (gk_up (gk_up x (j + 1) 0 (x (p + 1) 0)) (j + 1) 1 (x (p + 1) 1)) (j + 1) 2 (x (p + 1) 2)) (j + 1) 3 (x (p + 1) 3)) (j + 1) k = x (p + 1) k := fun k hk => by
    obtain h | h | h | h : k = 0 ∨ k = 1 ∨ k = 2 ∨ k = 3 := by omega
    · subst h; exact ((gk_up_ne (by omega)).trans ((gk_up_ne (by omega)).trans ((gk_up_ne (by omega)).trans (gk_up_in _ _ _ _))))
    · subst h; exact ((gk_up_ne (by omega)).trans ((gk_up_ne (by omega)).trans (gk_up_in _ _ _ _)))
    · subst h; exact ((gk_up_ne (by omega)).trans (gk_up_in _ _ _ _))
    · subst h; exact (gk_up_in _ _ _ _)
  have p5 : ∀ i k, i ≠ j + 1 → (gk_up (gk_up (gk_up (gk_up x (j + 1) 0 (x (p + 1) 0)) (j + 1) 1 (x (p + 1) 1)) (j + 1) 2 (x (p + 1) 2)) (j + 1) 3 (x (p + 1) 3)) i k = x i k := fun i k h => ((gk_up_ne (by omega)).trans ((gk_up_ne (by omega)).trans ((gk_up_ne (by omega)).trans (gk_up_ne (by omega)))))
  generalize (gk_up (gk_up (gk_up (gk_up x (j + 1) 0 (x (p + 1) 0)) (j + 1) 1 (x (p + 1) 1)) (j + 1) 2 (x (p + 1) 2)) (j + 1) 3 (x (p + 1) 3)) = x4 at p4 p5 ⊢
  refine s_aload_n (pc2 := 12) w dX7_copyFrom_11 rfl rfl ?_
  refine m_getR (pc2 := 15) (ci := 6) (k := 1) (j2 := (p + 2)) w dX7_copyFrom_12 rfl rfl (by first | exact hk0 | exact hk1 | exact hp0 | exact hp1) rfl rfl rfl ?_
  refine s_iconst (pc2 := 16) (v := gI 0) w dX7_copyFrom_15 rfl rfl ?_
  refine s_aload_n (pc2 := 17) w dX7_copyFrom_16 rfl rfl ?_
  refine m_getR (pc2 := 20) (ci := 6) (k := 1) (j2 := (j + 2)) w dX7_copyFrom_17 rfl rfl (by first | exact hk0 | exact hk1 | exact hp0 | exact hp1) rfl rfl rfl ?_
  refine s_iconst (pc2 := 21) (v := gI 0) w dX7_copyFrom_20 rfl rfl ?_
  refine s_bipush (pc2 := 23) (v := gI 16) w dX7_copyFrom_21 rfl rfl ?_
  refine g_copy (pc2 := 26) w dX7_copyFrom_23 rfl rfl rfl hp3 hp2 (gk_kd_j hp3 rfl) (gk_kd_j hp2 rfl) (by decide) (by rw [hp5]; decide) (by rw [hp4]; decide) ?_
  have c1 : ∀ i k, i ≠ j + 2 → (fun i2 k2 => if i2 = j + 2 then (if k2 < (gI 16).toNatClampNeg then x4 (p + 2) k2 else x4 (j + 2) k2) else x4 i2 k2) i k = x4 i k := fun i k h => if_neg h
  have c2 : ∀ k, k < 16 → (fun i2 k2 => if i2 = j + 2 then (if k2 < (gI 16).toNatClampNeg then x4 (p + 2) k2 else x4 (j + 2) k2) else x4 i2 k2) (j + 2) k = x4 (p + 2) k := fun k h => (if_pos rfl).trans (if_pos h)
  generalize (fun i2 k2 => if i2 = j + 2 then (if k2 < (gI 16).toNatClampNeg then x4 (p + 2) k2 else x4 (j + 2) k2) else x4 i2 k2) = x5 at c1 c2 ⊢
  refine s_aload_n (pc2 := 27) w dX7_copyFrom_26 rfl rfl ?_
  refine s_aload_n (pc2 := 28) w dX7_copyFrom_27 rfl rfl ?_
  refine m_getI (pc2 := 31) (ci := 6) (k := 2) w dX7_copyFrom_28 rfl rfl (by first | exact hk0 | exact hk1 | exact hp0 | exact hp1) rfl rfl ?_
  refine m_putI (pc2 := 34) (ci := 6) (k := 2) w dX7_copyFrom_31 rfl rfl (by first | exact hk0 | exact hk1 | exact hp0 | exact hp1) rfl rfl (by intro h; cases h) ?_
  refine s_aload_n (pc2 := 35) w dX7_copyFrom_34 rfl rfl ?_
  refine s_aload_n (pc2 := 36) w dX7_copyFrom_35 rfl rfl ?_
  refine m_getI (pc2 := 39) (ci := 6) (k := 3) w dX7_copyFrom_36 rfl rfl (by first | exact hk0 | exact hk1 | exact hp0 | exact hp1) rfl rfl ?_
  refine m_putI (pc2 := 42) (ci := 6) (k := 3) w dX7_copyFrom_39 rfl rfl (by first | exact hk0 | exact hk1 | exact hp0 | exact hp1) rfl rfl (by intro h; cases h) ?_
  refine s_return w dX7_copyFrom_42 rfl ?_
  refine q0 _ ⟨(gk_up_ne (by omega)).trans ((gk_up_in _ _ _ _).trans ((c1 _ _ (by omega)).trans (p5 _ _ (by omega)))), (gk_up_in _ _ _ _).trans ((gk_up_ne (by omega)).trans ((c1 _ _ (by omega)).trans (p5 _ _ (by omega))))⟩ (fun k hk => (gk_up_ne (by omega)).trans ((gk_up_ne (by omega)).trans ((c1 _ _ (by omega)).trans (p4 k hk)))) (fun k hk => (gk_up_ne (by omega)).trans ((gk_up_ne (by omega)).trans ((c2 k hk).trans (p5 _ _ (by omega))))) (fun i k h => (gk_up_ne (by omega)).trans ((gk_up_ne (by omega)).trans ((c1 _ _ (by omega)).trans (p5 _ _ (by omega)))))
theorem lk_X7_copyFrom {l : Launch} (hl : l.stackTraces = false) : ∀ q ∈ L_X7_copyFrom, (q.2.1 < 5 → gk_Lk l RX7 gk_W1 2 q.1 q.2.1 q.2.2.1 q.2.2.2.1 q.2.2.2.2.1 q.2.2.2.2.2) := (List.forall_mem_cons.mpr ⟨(fun _ => ⟨yX3_copyFrom, cX3_copyFrom, 2, none, 1, _, M_X3_copyFrom hl, ⟨by decide, by decide⟩, ⟨by decide, by decide, by decide +kernel⟩, ⟨(gk_wm 700 (by decide +kernel)), (gk_wm 91 (by decide +kernel))⟩, Or.inr (Or.inr (Or.inr (Or.inl ⟨rfl, rfl, (gk_wm 698 (by decide +kernel)), (gk_wm 699 (by decide +kernel)), gk_wm 705 (by decide +kernel), by decide, rfl⟩)))⟩), (List.forall_mem_cons.mpr ⟨(fun h => absurd h (by decide)), (fun _ h => absurd h List.not_mem_nil)⟩)⟩)
theorem sp_X7_copyFrom : ∀ q ∈ L_X7_copyFrom, gk_Sq RX7 gk_W1 2 q := (List.forall_mem_cons.mpr ⟨⟨fun h => absurd h (by decide), fun h => absurd h (by decide), fun h => absurd h (by decide), fun h => absurd h (by decide), fun h => absurd h (by decide), fun h => absurd h (by decide)⟩, (List.forall_mem_cons.mpr ⟨⟨fun h => absurd h (by decide), fun h => absurd h (by decide), fun h => absurd h (by decide), fun _ => ⟨by decide, gk_wm 706 (by decide +kernel), (gk_wm 708 (by decide +kernel)), (gk_wm 707 (by decide +kernel)), (gk_wm 113 (by decide +kernel))⟩, fun h => absurd h (by decide), fun h => absurd h (by decide)⟩, (fun _ h => absurd h List.not_mem_nil)⟩)⟩)
theorem M_X7_copyFrom {l : Launch} (hl : l.stackTraces = false) : gk_Mt l yX7_copyFrom (.code yX7_copyFrom cX7_copyFrom 2 none :: gk_W1) 2 0 S_X7_copyFrom := gk_meth hl gk_cw_ok (by decide +kernel) rfl m_X7_copyFrom pX7_ok (gk_Sp_of sp_X7_copyFrom) pX7_st (fun ci m S h => absurd h (by intro h; cases h)) (xf_X7 2) (fun idx kd ci mm cost S2 h h5 => lk_X7_copyFrom hl _ (gk_lk_mem h) h5)

def S_X1_copyFrom : gk_S := fun as n fl x y K => ∃ (j : Nat) (p : Nat), as = [.ref j, .ref p] ∧ (n = 202 ∧ fl = gk_fT) ∧ gk_kd j = 1 ∧ gk_kd p = 1 ∧ (gk_kd (j + 1) = 20) ∧ (gk_kd (p + 1) = 20) ∧ (gk_ln (j + 1) = 256) ∧ (gk_ln (p + 1) = 256) ∧ (p + 1 < j ∨ j + 1 < p) ∧ (∀ x2 : gk_X, (∀ k, 1 ≤ k → k ≤ 4 → x2 j k = x p k) → (∀ k, k < 256 → x2 (j + 1) k = x (p + 1) k) → (∀ i k, ¬ (j ≤ i ∧ i ≤ j + 1) → x2 i k = x i k) → K (.inl none) n fl x2 y)
theorem r_X1_copyFrom (w : gk_W c P cs (fun _ _ => none) rt uf sc K V) {idx : Nat} {j : Nat} {p : Nat} (hd : decode c pc = .ok (.invokevirtual idx, 3)) (hp : pc + 3 = pc2) (hc : cs idx = some (1, 1, 2, 0, S_X1_copyFrom)) (h8 : Nat.ble (r.map Value.category).sum 8 = true) (hk0 : gk_kd j = 1) (hk1 : gk_kd p = 1) (hp0 : gk_kd (j + 1) = 20) (hp1 : gk_kd (p + 1) = 20) (hp2 : gk_ln (j + 1) = 256) (hp3 : gk_ln (p + 1) = 256) (hp4 : p + 1 < j ∨ j + 1 < p) (kk0 : ∀ x2 : gk_X, (∀ k, 1 ≤ k → k ≤ 4 → x2 j k = x p k) → (∀ k, k < 256 → x2 (j + 1) k = x (p + 1) k) → (∀ i k, ¬ (j ≤ i ∧ i ≤ j + 1) → x2 i k = x i k) → V pc2 L r 202 gk_fT x2 y u) : V pc L (.ref p :: .ref j :: r) 202 gk_fT x y u :=
  g_callv w hd hp hc (as := [.ref j, .ref p]) rfl h8 rfl rfl rfl (Or.inr (Or.inl ⟨Or.inl rfl, _, _, rfl, (gk_kd_j hk0 rfl), hk0⟩)) (Or.inl rfl) ⟨j, p, rfl, ⟨rfl, rfl⟩, hk0, hk1, hp0, hp1, hp2, hp3, hp4, kk0⟩
def L_X1_copyFrom : List (Nat × gk_M0) := [(15, (8, 0, 0, 0, fun _ _ _ _ _ _ => False))]
def cs_X1_copyFrom : Nat → Option gk_M0 := gk_lk L_X1_copyFrom
theorem m_X1_copyFrom : ∀ (as : List Value) (n : Nat) (fl : gk_F) (x : gk_X) (y : gk_Y) (K : gk_K), S_X1_copyFrom as n fl x y K → (gk_L0 as).length ≤ 2 ∧ ∀ V : gk_V, gk_W cX1_copyFrom pX1 cs_X1_copyFrom (fun _ _ => none) none 0 none K V → V 0 (gk_en as 2) [] n fl x y 0 := by
  intro as n fl x y K hS
  obtain ⟨j, p, rfl, ⟨rfl, rfl⟩, hk0, hk1, hp0, hp1, hp2, hp3, hp4, q0⟩ := hS
  refine ⟨Nat.le_of_ble_eq_true rfl, fun V w => ?_⟩
  show V 0 [some (.ref j), some (.ref p)] [] 202 gk_fT x y 0
  refine s_aload_n (pc2 := 1) w dX1_copyFrom_0 rfl rfl ?_
  refine m_getR (pc2 := 4) (ci := 1) (k := 0) (j2 := (p + 1)) w dX1_copyFrom_1 rfl rfl (by first | exact hk0 | exact hk1) rfl rfl rfl ?_
  refine s_iconst (pc2 := 5) (v := gI 0) w dX1_copyFrom_4 rfl rfl ?_
  refine s_aload_n (pc2 := 6) w dX1_copyFrom_5 rfl rfl ?_
  refine m_getR (pc2 := 9) (ci := 1) (k := 0) (j2 := (j + 1)) w dX1_copyFrom_6 rfl rfl (by first | exact hk0 | exact hk1) rfl rfl rfl ?_
  refine s_iconst (pc2 := 10) (v := gI 0) w dX1_copyFrom_9 rfl rfl ?_
  refine s_sipush (pc2 := 13) (v := gI 256) w dX1_copyFrom_10 rfl rfl ?_
  refine g_copy (pc2 := 16) w dX1_copyFrom_13 rfl rfl rfl hp1 hp0 (gk_kd_j hp1 rfl) (gk_kd_j hp0 rfl) (by decide) (by rw [hp3]; decide) (by rw [hp2]; decide) ?_
  have c1 : ∀ i k, i ≠ j + 1 → (fun i2 k2 => if i2 = j + 1 then (if k2 < (gI 256).toNatClampNeg then x (p + 1) k2 else x (j + 1) k2) else x i2 k2) i k = x i k := fun i k h => if_neg h
  have c2 : ∀ k, k < 256 → (fun i2 k2 => if i2 = j + 1 then (if k2 < (gI 256).toNatClampNeg then x (p + 1) k2 else x (j + 1) k2) else x i2 k2) (j + 1) k = x (p + 1) k := fun k h => (if_pos rfl).trans (if_pos h)
  generalize (fun i2 k2 => if i2 = j + 1 then (if k2 < (gI 256).toNatClampNeg then x (p + 1) k2 else x (j + 1) k2) else x i2 k2) = x5 at c1 c2 ⊢
  refine s_aload_n (pc2 := 17) w dX1_copyFrom_16 rfl rfl ?_
  refine s_aload_n (pc2 := 18) w dX1_copyFrom_17 rfl rfl ?_
  refine m_getI (pc2 := 21) (ci := 1) (k := 1) w dX1_copyFrom_18 rfl rfl (by first | exact hk0 | exact hk1) rfl rfl ?_
  refine m_putI (pc2 := 24) (ci := 1) (k := 1) w dX1_copyFrom_21 rfl rfl (by first | exact hk0 | exact hk1) rfl rfl (by intro h; cases h) ?_
  refine s_aload_n (pc2 := 25) w dX1_copyFrom_24 rfl rfl ?_
  refine s_aload_n (pc2 := 26) w dX1_copyFrom_25 rfl rfl ?_
  refine m_getI (pc2 := 29) (ci := 1) (k := 2) w dX1_copyFrom_26 rfl rfl (by first | exact hk0 | exact hk1) rfl rfl ?_
  refine m_putI (pc2 := 32) (ci := 1) (k := 2) w dX1_copyFrom_29 rfl rfl (by first | exact hk0 | exact hk1) rfl rfl (by intro h; cases h) ?_
  refine s_aload_n (pc2 := 33) w dX1_copyFrom_32 rfl rfl ?_
  refine s_aload_n (pc2 := 34) w dX1_copyFrom_33 rfl rfl ?_
  refine m_getI (pc2 := 37) (ci := 1) (k := 3) w dX1_copyFrom_34 rfl rfl (by first | exact hk0 | exact hk1) rfl rfl ?_
  refine m_putI (pc2 := 40) (ci := 1) (k := 3) w dX1_copyFrom_37 rfl rfl (by first | exact hk0 | exact hk1) rfl rfl (by intro h; cases h) ?_
  refine s_aload_n (pc2 := 41) w dX1_copyFrom_40 rfl rfl ?_
  refine s_aload_n (pc2 := 42) w dX1_copyFrom_41 rfl rfl ?_
  refine m_getI (pc2 := 45) (ci := 1) (k := 4) w dX1_copyFrom_42 rfl rfl (by first | exact hk0 | exact hk1) rfl rfl ?_
  refine m_putI (pc2 := 48) (ci := 1) (k := 4) w dX1_copyFrom_45 rfl rfl (by first | exact hk0 | exact hk1) rfl rfl (by intro h; cases h) ?_
  refine s_return w dX1_copyFrom_48 rfl ?_
  refine q0 _ (fun k h1 h2 => ?_) (fun k hk => ((gk_up_ne (by omega)).trans ((gk_up_ne (by omega)).trans ((gk_up_ne (by omega)).trans ((gk_up_ne (by omega)).trans (c2 k hk)))))) (fun i k h => ((gk_up_ne (by omega)).trans ((gk_up_ne (by omega)).trans ((gk_up_ne (by omega)).trans ((gk_up_ne (by omega)).trans (c1 _ _ (by omega)))))))
  obtain h | h | h | h : k = 1 ∨ k = 2 ∨ k = 3 ∨ k = 4 := by omega
  · subst h; exact ((gk_up_ne (by omega)).trans ((gk_up_ne (by omega)).trans ((gk_up_ne (by omega)).trans ((gk_up_in _ _ _ _).trans (c1 _ _ (by omega))))))
  · subst h; exact ((gk_up_ne (by omega)).trans ((gk_up_ne (by omega)).trans ((gk_up_in _ _ _ _).trans ((gk_up_ne (by omega)).trans (c1 _ _ (by omega))))))
  · subst h; exact ((gk_up_ne (by omega)).trans ((gk_up_in _ _ _ _).trans ((gk_up_ne (by omega)).trans ((gk_up_ne (by omega)).trans (c1 _ _ (by omega))))))
  · subst h; exact ((gk_up_in _ _ _ _).trans ((gk_up_ne (by omega)).trans ((gk_up_ne (by omega)).trans ((gk_up_ne (by omega)).trans (c1 _ _ (by omega))))))
theorem lk_X1_copyFrom {l : Launch} (hl : l.stackTraces = false) : ∀ q ∈ L_X1_copyFrom, (q.2.1 < 5 → gk_Lk l RX1 gk_W1 1 q.1 q.2.1 q.2.2.1 q.2.2.2.1 q.2.2.2.2.1 q.2.2.2.2.2) := (List.forall_mem_cons.mpr ⟨(fun h => absurd h (by decide)), (fun _ h => absurd h List.not_mem_nil)⟩)
theorem sp_X1_copyFrom : ∀ q ∈ L_X1_copyFrom, gk_Sq RX1 gk_W1 1 q := (List.forall_mem_cons.mpr ⟨⟨fun h => absurd h (by decide), fun h => absurd h (by decide), fun h => absurd h (by decide), fun _ => ⟨by decide, gk_wm 713 (by decide +kernel), (gk_wm 708 (by decide +kernel)), (gk_wm 707 (by decide +kernel)), (gk_wm 113 (by decide +kernel))⟩, fun h => absurd h (by decide), fun h => absurd h (by decide)⟩, (fun _ h => absurd h List.not_mem_nil)⟩)
theorem M_X1_copyFrom {l : Launch} (hl : l.stackTraces = false) : gk_Mt l yX1_copyFrom (.code yX1_copyFrom cX1_copyFrom 2 none :: gk_W1) 1 0 S_X1_copyFrom := gk_meth hl gk_cw_ok (by decide +kernel) rfl m_X1_copyFrom pX1_ok (gk_Sp_of sp_X1_copyFrom) pX1_st (fun ci m S h => absurd h (by intro h; cases h)) (xf_X1 1) (fun idx kd ci mm cost S2 h h5 => lk_X1_copyFrom hl _ (gk_lk_mem h) h5)

def S_X4_copyFrom : gk_S := fun as n fl x y K => ∃ (b : Nat) (e : Nat) (g : Nat → Int32), as = [.ref b, .ref e] ∧ (n = 202 ∧ fl = gk_fT) ∧ gk_kd b = 4 ∧ gk_kd e = 4 ∧ (BLK b) ∧ (BLK e) ∧ (b ≠ e) ∧ (RS e g x y) ∧ (gWf g) ∧ (∀ (x2 : gk_X) (y2 : gk_Y), RS b g x2 y2 → (∀ i k, ¬ (b ≤ i ∧ i < b + 43) → x2 i k = x i k) → (∀ i k, i ≠ b → y2 i k = y i k) → K (.inl none) n fl x2 y2)
theorem r_X4_copyFrom (w : gk_W c P cs (fun _ _ => none) rt uf sc K V) {idx : Nat} {b : Nat} {e : Nat} {g : Nat → Int32} (hd : decode c pc = .ok (.invokevirtual idx, 3)) (hp : pc + 3 = pc2) (hc : cs idx = some (1, 4, 2, 0, S_X4_copyFrom)) (h8 : Nat.ble (r.map Value.category).sum 8 = true) (hk0 : gk_kd b = 4) (hk1 : gk_kd e = 4) (hp0 : BLK b) (hp1 : BLK e) (hp2 : b ≠ e) (hp3 : RS e g x y) (hp4 : gWf g) (kk0 : ∀ (x2 : gk_X) (y2 : gk_Y), RS b g x2 y2 → (∀ i k, ¬ (b ≤ i ∧ i < b + 43) → x2 i k = x i k) → (∀ i k, i ≠ b → y2 i k = y i k) → V pc2 L r 202 gk_fT x2 y2 u) : V pc L (.ref e :: .ref b :: r) 202 gk_fT x y u :=
  g_callv w hd hp hc (as := [.ref b, .ref e]) rfl h8 rfl rfl rfl (Or.inr (Or.inl ⟨Or.inl rfl, _, _, rfl, (gk_kd_j hk0 rfl), hk0⟩)) (Or.inl rfl) ⟨b, e, g, rfl, ⟨rfl, rfl⟩, hk0, hk1, hp0, hp1, hp2, hp3, hp4, kk0⟩
def L_X4_copyFrom : List (Nat × gk_M0) := [(82, (1, 3, 2, 0, S_X3_copyFrom)), (86, (1, 6, 2, 0, S_X7_copyFrom)), (89, (1, 1, 2, 0, S_X1_copyFrom))]
def cs_X4_copyFrom : Nat → Option gk_M0 := gk_lk L_X4_copyFrom
set_option maxHeartbeats 4000000 in
theorem cf_fin {b e : Nat} {g : Nat → Int32} {x : gk_X} {y : gk_Y} {K : gk_K} {V : gk_V} (w : gk_W cX4_copyFrom pX4 cs_X4_copyFrom (fun _ _ => none) none 0 none K V) (hk0 : gk_kd b = 4) (hk1 : gk_kd e = 4) (hp0 : BLK b) (hp1 : BLK e) (hp2 : b ≠ e) (hp3 : RS e g x y) (hp4 : gWf g) (q0 : ∀ (x2 : gk_X) (y2 : gk_Y), RS b g x2 y2 → (∀ i k, ¬ (b ≤ i ∧ i < b + 43) → x2 i k = x i k) → (∀ i k, i ≠ b → y2 i k = y i k) → K (.inl none) 202 gk_fT x2 y2) : ∀ (xh : gk_X) (l2 : Option Value), (∀ v k, v < 4 → k < 3 → xh (v + (b + 5)) k = x (v + (e + 5)) k) → (∀ a, a < 6 → (xh (3 * a + (b + 9)) 2 = x (3 * a + (e + 9)) 2 ∧ xh (3 * a + (b + 9)) 3 = x (3 * a + (e + 9)) 3) ∧ (∀ k, k < 4 → xh (3 * a + (b + 9) + 1) k = x (3 * a + (e + 9) + 1) k) ∧ ∀ k, k < 16 → xh (3 * a + (b + 9) + 2) k = x (3 * a + (e + 9) + 2) k) → (∀ m, m < 8 → (∀ k, 1 ≤ k → k ≤ 4 → xh (2 * m + (b + 27)) k = x (2 * m + (e + 27)) k) ∧ ∀ k, k < 256 → xh (2 * m + (b + 27) + 1) k = x (2 * m + (e + 27) + 1) k) → (∀ i k, ¬ (b + 5 ≤ i ∧ i < b + 43) → xh i k = x i k) → V 86 [some (.ref b), some (.ref e), l2] [] 202 gk_fT xh y 0 := by
  obtain ⟨kb0, kb1, kb2, kb3, kb4, kb5, kb6, kb7⟩ := blk hp0
  obtain ⟨kc0, kc1, kc2, kc3, kc4, kc5, kc6, kc7⟩ := blk hp1
  have hbc : e + 43 ≤ b ∨ b + 43 ≤ e := by unfold BLK at hp0 hp1; omega
  have z0 := hp3.1
  have hb11 : x e 11 = 0 ∨ x e 11 = 1 := by rw [z0.2.2.2.2.1]; exact hp4.1.2.2.1
  have hb13 : x e 13 = 0 ∨ x e 13 = 1 := by rw [z0.2.2.2.2.2.2.2.1]; split; exact Or.inr rfl; exact Or.inl rfl
  have hb15 : x e 15 = 0 ∨ x e 15 = 1 := by rw [z0.2.2.2.2.2.2.1]; exact hp4.1.2.2.2.2.2.1
  intro xh l2 hV hS hM hF
  have hK : ∀ i k, i ≠ b → i ≠ b + 4 → xh i k = xh i k := fun i k _ _ => rfl
  have hc : ∀ k, xh e k = x e k := fun k => hF _ _ (by omega)
  have hcb : e ≠ b := by omega
  have hcb4 : e ≠ b + 4 := by omega
  refine s_aload_n (pc2 := 87) w dX4_copyFrom_86 rfl rfl ?_
  refine s_aload_n (pc2 := 88) w dX4_copyFrom_87 rfl rfl ?_
  refine m_getI (pc2 := 91) (ci := 4) (k := 4) w dX4_copyFrom_88 rfl rfl (by with_reducible assumption) rfl rfl ?_
  refine m_putI (pc2 := 94) (ci := 4) (k := 4) w dX4_copyFrom_91 rfl rfl (by with_reducible assumption) rfl rfl (by intro h; cases h) ?_
  have d4 : (gk_up xh b 4 (xh e 4)) b 4 = x e 4 := (gk_up_in _ _ _ _).trans ((hK e 4 hcb hcb4).trans (hc 4))
  have hK2 : ∀ i k, i ≠ b → i ≠ b + 4 → (gk_up xh b 4 (xh e 4)) i k = xh i k := fun i k h1 h2 => (gk_up_ne (fun h3 => h1 h3.1)).trans (hK i k h1 h2)
  clear hK
  have hK := hK2
  clear hK2
  generalize (gk_up xh b 4 (xh e 4)) = x1 at d4 hK ⊢
  refine s_aload_n (pc2 := 95) w dX4_copyFrom_94 rfl rfl ?_
  refine s_aload_n (pc2 := 96) w dX4_copyFrom_95 rfl rfl ?_
  refine m_getI (pc2 := 99) (ci := 4) (k := 5) w dX4_copyFrom_96 rfl rfl (by with_reducible assumption) rfl rfl ?_
  refine m_putI (pc2 := 102) (ci := 4) (k := 5) w dX4_copyFrom_99 rfl rfl (by with_reducible assumption) rfl rfl (by intro h; cases h) ?_
  have d5 : (gk_up x1 b 5 (x1 e 5)) b 5 = x e 5 := (gk_up_in _ _ _ _).trans ((hK e 5 hcb hcb4).trans (hc 5))
  have hK2 : ∀ i k, i ≠ b → i ≠ b + 4 → (gk_up x1 b 5 (x1 e 5)) i k = xh i k := fun i k h1 h2 => (gk_up_ne (fun h3 => h1 h3.1)).trans (hK i k h1 h2)
  replace d4 : (gk_up x1 b 5 (x1 e 5)) b 4 = x e 4 := (gk_up_ne (fun h => absurd h.2 (by decide))).trans d4
  clear hK
  have hK := hK2
  clear hK2
  generalize (gk_up x1 b 5 (x1 e 5)) = x2 at d4 d5 hK ⊢
  refine s_aload_n (pc2 := 103) w dX4_copyFrom_102 rfl rfl ?_
  refine s_aload_n (pc2 := 104) w dX4_copyFrom_103 rfl rfl ?_
  refine m_getI (pc2 := 107) (ci := 4) (k := 6) w dX4_copyFrom_104 rfl rfl (by with_reducible assumption) rfl rfl ?_
  refine m_putI (pc2 := 110) (ci := 4) (k := 6) w dX4_copyFrom_107 rfl rfl (by with_reducible assumption) rfl rfl (by intro h; cases h) ?_
  have d6 : (gk_up x2 b 6 (x2 e 6)) b 6 = x e 6 := (gk_up_in _ _ _ _).trans ((hK e 6 hcb hcb4).trans (hc 6))
  have hK2 : ∀ i k, i ≠ b → i ≠ b + 4 → (gk_up x2 b 6 (x2 e 6)) i k = xh i k := fun i k h1 h2 => (gk_up_ne (fun h3 => h1 h3.1)).trans (hK i k h1 h2)
  replace d4 : (gk_up x2 b 6 (x2 e 6)) b 4 = x e 4 := (gk_up_ne (fun h => absurd h.2 (by decide))).trans d4
  replace d5 : (gk_up x2 b 6 (x2 e 6)) b 5 = x e 5 := (gk_up_ne (fun h => absurd h.2 (by decide))).trans d5
  clear hK
  have hK := hK2
  clear hK2
  generalize (gk_up x2 b 6 (x2 e 6)) = x3 at d4 d5 d6 hK ⊢
  refine s_aload_n (pc2 := 111) w dX4_copyFrom_110 rfl rfl ?_
  refine s_aload_n (pc2 := 112) w dX4_copyFrom_111 rfl rfl ?_
  refine m_getI (pc2 := 115) (ci := 4) (k := 7) w dX4_copyFrom_112 rfl rfl (by with_reducible assumption) rfl rfl ?_
  refine m_putI (pc2 := 118) (ci := 4) (k := 7) w dX4_copyFrom_115 rfl rfl (by with_reducible assumption) rfl rfl (by intro h; cases h) ?_
  have d7 : (gk_up x3 b 7 (x3 e 7)) b 7 = x e 7 := (gk_up_in _ _ _ _).trans ((hK e 7 hcb hcb4).trans (hc 7))
  have hK2 : ∀ i k, i ≠ b → i ≠ b + 4 → (gk_up x3 b 7 (x3 e 7)) i k = xh i k := fun i k h1 h2 => (gk_up_ne (fun h3 => h1 h3.1)).trans (hK i k h1 h2)
  replace d4 : (gk_up x3 b 7 (x3 e 7)) b 4 = x e 4 := (gk_up_ne (fun h => absurd h.2 (by decide))).trans d4
  replace d5 : (gk_up x3 b 7 (x3 e 7)) b 5 = x e 5 := (gk_up_ne (fun h => absurd h.2 (by decide))).trans d5
  replace d6 : (gk_up x3 b 7 (x3 e 7)) b 6 = x e 6 := (gk_up_ne (fun h => absurd h.2 (by decide))).trans d6
  clear hK
  have hK := hK2
  clear hK2
  generalize (gk_up x3 b 7 (x3 e 7)) = x4 at d4 d5 d6 d7 hK ⊢
  refine s_aload_n (pc2 := 119) w dX4_copyFrom_118 rfl rfl ?_
  refine s_aload_n (pc2 := 120) w dX4_copyFrom_119 rfl rfl ?_
  refine m_getI (pc2 := 123) (ci := 4) (k := 8) w dX4_copyFrom_120 rfl rfl (by with_reducible assumption) rfl rfl ?_
  refine m_putI (pc2 := 126) (ci := 4) (k := 8) w dX4_copyFrom_123 rfl rfl (by with_reducible assumption) rfl rfl (by intro h; cases h) ?_
  have d8 : (gk_up x4 b 8 (x4 e 8)) b 8 = x e 8 := (gk_up_in _ _ _ _).trans ((hK e 8 hcb hcb4).trans (hc 8))
  have hK2 : ∀ i k, i ≠ b → i ≠ b + 4 → (gk_up x4 b 8 (x4 e 8)) i k = xh i k := fun i k h1 h2 => (gk_up_ne (fun h3 => h1 h3.1)).trans (hK i k h1 h2)
  replace d4 : (gk_up x4 b 8 (x4 e 8)) b 4 = x e 4 := (gk_up_ne (fun h => absurd h.2 (by decide))).trans d4
  replace d5 : (gk_up x4 b 8 (x4 e 8)) b 5 = x e 5 := (gk_up_ne (fun h => absurd h.2 (by decide))).trans d5
  replace d6 : (gk_up x4 b 8 (x4 e 8)) b 6 = x e 6 := (gk_up_ne (fun h => absurd h.2 (by decide))).trans d6
  replace d7 : (gk_up x4 b 8 (x4 e 8)) b 7 = x e 7 := (gk_up_ne (fun h => absurd h.2 (by decide))).trans d7
  clear hK
  have hK := hK2
  clear hK2
  generalize (gk_up x4 b 8 (x4 e 8)) = x5 at d4 d5 d6 d7 d8 hK ⊢
  refine s_aload_n (pc2 := 127) w dX4_copyFrom_126 rfl rfl ?_
  refine s_aload_n (pc2 := 128) w dX4_copyFrom_127 rfl rfl ?_
  refine m_getI (pc2 := 131) (ci := 4) (k := 9) w dX4_copyFrom_128 rfl rfl (by with_reducible assumption) rfl rfl ?_
  refine m_putI (pc2 := 134) (ci := 4) (k := 9) w dX4_copyFrom_131 rfl rfl (by with_reducible assumption) rfl rfl (by intro h; cases h) ?_
  have d9 : (gk_up x5 b 9 (x5 e 9)) b 9 = x e 9 := (gk_up_in _ _ _ _).trans ((hK e 9 hcb hcb4).trans (hc 9))
  have hK2 : ∀ i k, i ≠ b → i ≠ b + 4 → (gk_up x5 b 9 (x5 e 9)) i k = xh i k := fun i k h1 h2 => (gk_up_ne (fun h3 => h1 h3.1)).trans (hK i k h1 h2)
  replace d4 : (gk_up x5 b 9 (x5 e 9)) b 4 = x e 4 := (gk_up_ne (fun h => absurd h.2 (by decide))).trans d4
  replace d5 : (gk_up x5 b 9 (x5 e 9)) b 5 = x e 5 := (gk_up_ne (fun h => absurd h.2 (by decide))).trans d5
  replace d6 : (gk_up x5 b 9 (x5 e 9)) b 6 = x e 6 := (gk_up_ne (fun h => absurd h.2 (by decide))).trans d6
  replace d7 : (gk_up x5 b 9 (x5 e 9)) b 7 = x e 7 := (gk_up_ne (fun h => absurd h.2 (by decide))).trans d7
  replace d8 : (gk_up x5 b 9 (x5 e 9)) b 8 = x e 8 := (gk_up_ne (fun h => absurd h.2 (by decide))).trans d8
  clear hK
  have hK := hK2
  clear hK2
  generalize (gk_up x5 b 9 (x5 e 9)) = x6 at d4 d5 d6 d7 d8 d9 hK ⊢
  refine s_aload_n (pc2 := 135) w dX4_copyFrom_134 rfl rfl ?_
  refine s_aload_n (pc2 := 136) w dX4_copyFrom_135 rfl rfl ?_
  refine m_getL (pc2 := 139) (ci := 4) (k := 10) w dX4_copyFrom_136 rfl rfl (by with_reducible assumption) rfl rfl ?_
  refine m_putL (pc2 := 142) (ci := 4) (k := 10) w dX4_copyFrom_139 rfl rfl (by with_reducible assumption) rfl rfl ?_
  refine s_aload_n (pc2 := 143) w dX4_copyFrom_142 rfl rfl ?_
  refine s_aload_n (pc2 := 144) w dX4_copyFrom_143 rfl rfl ?_
  refine m_getI (pc2 := 147) (ci := 4) (k := 11) w dX4_copyFrom_144 rfl rfl (by with_reducible assumption) rfl rfl ?_
  refine m_putI (pc2 := 150) (ci := 4) (k := 11) w dX4_copyFrom_147 rfl rfl (by with_reducible assumption) rfl rfl (fun _ => by rw [hK e 11 hcb hcb4, hc]; exact hb11) ?_
  have d11 : (gk_up x6 b 11 (x6 e 11)) b 11 = x e 11 := (gk_up_in _ _ _ _).trans ((hK e 11 hcb hcb4).trans (hc 11))
  have hK2 : ∀ i k, i ≠ b → i ≠ b + 4 → (gk_up x6 b 11 (x6 e 11)) i k = xh i k := fun i k h1 h2 => (gk_up_ne (fun h3 => h1 h3.1)).trans (hK i k h1 h2)
  replace d4 : (gk_up x6 b 11 (x6 e 11)) b 4 = x e 4 := (gk_up_ne (fun h => absurd h.2 (by decide))).trans d4
  replace d5 : (gk_up x6 b 11 (x6 e 11)) b 5 = x e 5 := (gk_up_ne (fun h => absurd h.2 (by decide))).trans d5
  replace d6 : (gk_up x6 b 11 (x6 e 11)) b 6 = x e 6 := (gk_up_ne (fun h => absurd h.2 (by decide))).trans d6
  replace d7 : (gk_up x6 b 11 (x6 e 11)) b 7 = x e 7 := (gk_up_ne (fun h => absurd h.2 (by decide))).trans d7
  replace d8 : (gk_up x6 b 11 (x6 e 11)) b 8 = x e 8 := (gk_up_ne (fun h => absurd h.2 (by decide))).trans d8
  replace d9 : (gk_up x6 b 11 (x6 e 11)) b 9 = x e 9 := (gk_up_ne (fun h => absurd h.2 (by decide))).trans d9
  clear hK
  have hK := hK2
  clear hK2
  generalize (gk_up x6 b 11 (x6 e 11)) = x7 at d4 d5 d6 d7 d8 d9 d11 hK ⊢
  refine s_aload_n (pc2 := 151) w dX4_copyFrom_150 rfl rfl ?_
  refine s_aload_n (pc2 := 152) w dX4_copyFrom_151 rfl rfl ?_
  refine m_getI (pc2 := 155) (ci := 4) (k := 12) w dX4_copyFrom_152 rfl rfl (by with_reducible assumption) rfl rfl ?_
  refine m_putI (pc2 := 158) (ci := 4) (k := 12) w dX4_copyFrom_155 rfl rfl (by with_reducible assumption) rfl rfl (by intro h; cases h) ?_
  have d12 : (gk_up x7 b 12 (x7 e 12)) b 12 = x e 12 := (gk_up_in _ _ _ _).trans ((hK e 12 hcb hcb4).trans (hc 12))
  have hK2 : ∀ i k, i ≠ b → i ≠ b + 4 → (gk_up x7 b 12 (x7 e 12)) i k = xh i k := fun i k h1 h2 => (gk_up_ne (fun h3 => h1 h3.1)).trans (hK i k h1 h2)
  replace d4 : (gk_up x7 b 12 (x7 e 12)) b 4 = x e 4 := (gk_up_ne (fun h => absurd h.2 (by decide))).trans d4
  replace d5 : (gk_up x7 b 12 (x7 e 12)) b 5 = x e 5 := (gk_up_ne (fun h => absurd h.2 (by decide))).trans d5
  replace d6 : (gk_up x7 b 12 (x7 e 12)) b 6 = x e 6 := (gk_up_ne (fun h => absurd h.2 (by decide))).trans d6
  replace d7 : (gk_up x7 b 12 (x7 e 12)) b 7 = x e 7 := (gk_up_ne (fun h => absurd h.2 (by decide))).trans d7
  replace d8 : (gk_up x7 b 12 (x7 e 12)) b 8 = x e 8 := (gk_up_ne (fun h => absurd h.2 (by decide))).trans d8
  replace d9 : (gk_up x7 b 12 (x7 e 12)) b 9 = x e 9 := (gk_up_ne (fun h => absurd h.2 (by decide))).trans d9
  replace d11 : (gk_up x7 b 12 (x7 e 12)) b 11 = x e 11 := (gk_up_ne (fun h => absurd h.2 (by decide))).trans d11
  clear hK
  have hK := hK2
  clear hK2
  generalize (gk_up x7 b 12 (x7 e 12)) = x8 at d4 d5 d6 d7 d8 d9 d11 d12 hK ⊢
  refine s_aload_n (pc2 := 159) w dX4_copyFrom_158 rfl rfl ?_
  refine m_getR (pc2 := 162) (ci := 4) (k := 3) (j2 := (b + 4)) w dX4_copyFrom_159 rfl rfl (by with_reducible assumption) rfl rfl rfl ?_
  refine s_aload_n (pc2 := 163) w dX4_copyFrom_162 rfl rfl ?_
  refine m_getR (pc2 := 166) (ci := 4) (k := 3) (j2 := (e + 4)) w dX4_copyFrom_163 rfl rfl (by with_reducible assumption) rfl rfl rfl ?_
  refine r_X3_copyFrom (pc2 := 169) w dX4_copyFrom_166 rfl rfl rfl (by with_reducible assumption) (by with_reducible assumption) ?_
  have fF : ∀ k, k < 4 → (gk_up (gk_up (gk_up (gk_up x8 (b + 4) 0 (x8 (e + 4) 0)) (b + 4) 1 (x8 (e + 4) 1)) (b + 4) 2 (x8 (e + 4) 2)) (b + 4) 3 (x8 (e + 4) 3)) (b + 4) k = x (e + 4) k := fun k hk => by
    have hq : ∀ k, x8 (e + 4) k = x (e + 4) k := fun k => (hK (e + 4) k (by omega) (by omega)).trans (hF _ _ (by omega))
    obtain h | h | h | h : k = 0 ∨ k = 1 ∨ k = 2 ∨ k = 3 := by omega
    · subst h; exact ((gk_up_ne (by omega)).trans ((gk_up_ne (by omega)).trans ((gk_up_ne (by omega)).trans ((gk_up_in _ _ _ _).trans (hq 0)))))
    · subst h; exact ((gk_up_ne (by omega)).trans ((gk_up_ne (by omega)).trans ((gk_up_in _ _ _ _).trans (hq 1))))
    · subst h; exact ((gk_up_ne (by omega)).trans ((gk_up_in _ _ _ _).trans (hq 2)))
    · subst h; exact ((gk_up_in _ _ _ _).trans (hq 3))
  have hK2 : ∀ i k, i ≠ b → i ≠ b + 4 → (gk_up (gk_up (gk_up (gk_up x8 (b + 4) 0 (x8 (e + 4) 0)) (b + 4) 1 (x8 (e + 4) 1)) (b + 4) 2 (x8 (e + 4) 2)) (b + 4) 3 (x8 (e + 4) 3)) i k = xh i k := fun i k h1 h2 => (gk_up_ne (fun h3 => h2 h3.1)).trans ((gk_up_ne (fun h3 => h2 h3.1)).trans ((gk_up_ne (fun h3 => h2 h3.1)).trans ((gk_up_ne (fun h3 => h2 h3.1)).trans (hK i k h1 h2))))
  replace d4 : (gk_up (gk_up (gk_up (gk_up x8 (b + 4) 0 (x8 (e + 4) 0)) (b + 4) 1 (x8 (e + 4) 1)) (b + 4) 2 (x8 (e + 4) 2)) (b + 4) 3 (x8 (e + 4) 3)) b 4 = x e 4 := ((gk_up_ne (by omega)).trans ((gk_up_ne (by omega)).trans ((gk_up_ne (by omega)).trans ((gk_up_ne (by omega)).trans d4))))
  replace d5 : (gk_up (gk_up (gk_up (gk_up x8 (b + 4) 0 (x8 (e + 4) 0)) (b + 4) 1 (x8 (e + 4) 1)) (b + 4) 2 (x8 (e + 4) 2)) (b + 4) 3 (x8 (e + 4) 3)) b 5 = x e 5 := ((gk_up_ne (by omega)).trans ((gk_up_ne (by omega)).trans ((gk_up_ne (by omega)).trans ((gk_up_ne (by omega)).trans d5))))
  replace d6 : (gk_up (gk_up (gk_up (gk_up x8 (b + 4) 0 (x8 (e + 4) 0)) (b + 4) 1 (x8 (e + 4) 1)) (b + 4) 2 (x8 (e + 4) 2)) (b + 4) 3 (x8 (e + 4) 3)) b 6 = x e 6 := ((gk_up_ne (by omega)).trans ((gk_up_ne (by omega)).trans ((gk_up_ne (by omega)).trans ((gk_up_ne (by omega)).trans d6))))
  replace d7 : (gk_up (gk_up (gk_up (gk_up x8 (b + 4) 0 (x8 (e + 4) 0)) (b + 4) 1 (x8 (e + 4) 1)) (b + 4) 2 (x8 (e + 4) 2)) (b + 4) 3 (x8 (e + 4) 3)) b 7 = x e 7 := ((gk_up_ne (by omega)).trans ((gk_up_ne (by omega)).trans ((gk_up_ne (by omega)).trans ((gk_up_ne (by omega)).trans d7))))
  replace d8 : (gk_up (gk_up (gk_up (gk_up x8 (b + 4) 0 (x8 (e + 4) 0)) (b + 4) 1 (x8 (e + 4) 1)) (b + 4) 2 (x8 (e + 4) 2)) (b + 4) 3 (x8 (e + 4) 3)) b 8 = x e 8 := ((gk_up_ne (by omega)).trans ((gk_up_ne (by omega)).trans ((gk_up_ne (by omega)).trans ((gk_up_ne (by omega)).trans d8))))
  replace d9 : (gk_up (gk_up (gk_up (gk_up x8 (b + 4) 0 (x8 (e + 4) 0)) (b + 4) 1 (x8 (e + 4) 1)) (b + 4) 2 (x8 (e + 4) 2)) (b + 4) 3 (x8 (e + 4) 3)) b 9 = x e 9 := ((gk_up_ne (by omega)).trans ((gk_up_ne (by omega)).trans ((gk_up_ne (by omega)).trans ((gk_up_ne (by omega)).trans d9))))
  replace d11 : (gk_up (gk_up (gk_up (gk_up x8 (b + 4) 0 (x8 (e + 4) 0)) (b + 4) 1 (x8 (e + 4) 1)) (b + 4) 2 (x8 (e + 4) 2)) (b + 4) 3 (x8 (e + 4) 3)) b 11 = x e 11 := ((gk_up_ne (by omega)).trans ((gk_up_ne (by omega)).trans ((gk_up_ne (by omega)).trans ((gk_up_ne (by omega)).trans d11))))
  replace d12 : (gk_up (gk_up (gk_up (gk_up x8 (b + 4) 0 (x8 (e + 4) 0)) (b + 4) 1 (x8 (e + 4) 1)) (b + 4) 2 (x8 (e + 4) 2)) (b + 4) 3 (x8 (e + 4) 3)) b 12 = x e 12 := ((gk_up_ne (by omega)).trans ((gk_up_ne (by omega)).trans ((gk_up_ne (by omega)).trans ((gk_up_ne (by omega)).trans d12))))
  clear hK
  have hK := hK2
  clear hK2
  generalize (gk_up (gk_up (gk_up (gk_up x8 (b + 4) 0 (x8 (e + 4) 0)) (b + 4) 1 (x8 (e + 4) 1)) (b + 4) 2 (x8 (e + 4) 2)) (b + 4) 3 (x8 (e + 4) 3)) = x9 at fF hK d4 d5 d6 d7 d8 d9 d11 d12 ⊢
  refine s_aload_n (pc2 := 170) w dX4_copyFrom_169 rfl rfl ?_
  refine s_aload_n (pc2 := 171) w dX4_copyFrom_170 rfl rfl ?_
  refine m_getI (pc2 := 174) (ci := 4) (k := 13) w dX4_copyFrom_171 rfl rfl (by with_reducible assumption) rfl rfl ?_
  refine m_putI (pc2 := 177) (ci := 4) (k := 13) w dX4_copyFrom_174 rfl rfl (by with_reducible assumption) rfl rfl (fun _ => by rw [hK e 13 hcb hcb4, hc]; exact hb13) ?_
  have d13 : (gk_up x9 b 13 (x9 e 13)) b 13 = x e 13 := (gk_up_in _ _ _ _).trans ((hK e 13 hcb hcb4).trans (hc 13))
  have hK2 : ∀ i k, i ≠ b → i ≠ b + 4 → (gk_up x9 b 13 (x9 e 13)) i k = xh i k := fun i k h1 h2 => (gk_up_ne (fun h3 => h1 h3.1)).trans (hK i k h1 h2)
  replace d4 : (gk_up x9 b 13 (x9 e 13)) b 4 = x e 4 := (gk_up_ne (fun h => absurd h.2 (by decide))).trans d4
  replace d5 : (gk_up x9 b 13 (x9 e 13)) b 5 = x e 5 := (gk_up_ne (fun h => absurd h.2 (by decide))).trans d5
  replace d6 : (gk_up x9 b 13 (x9 e 13)) b 6 = x e 6 := (gk_up_ne (fun h => absurd h.2 (by decide))).trans d6
  replace d7 : (gk_up x9 b 13 (x9 e 13)) b 7 = x e 7 := (gk_up_ne (fun h => absurd h.2 (by decide))).trans d7
  replace d8 : (gk_up x9 b 13 (x9 e 13)) b 8 = x e 8 := (gk_up_ne (fun h => absurd h.2 (by decide))).trans d8
  replace d9 : (gk_up x9 b 13 (x9 e 13)) b 9 = x e 9 := (gk_up_ne (fun h => absurd h.2 (by decide))).trans d9
  replace d11 : (gk_up x9 b 13 (x9 e 13)) b 11 = x e 11 := (gk_up_ne (fun h => absurd h.2 (by decide))).trans d11
  replace d12 : (gk_up x9 b 13 (x9 e 13)) b 12 = x e 12 := (gk_up_ne (fun h => absurd h.2 (by decide))).trans d12
  replace fF : ∀ k, k < 4 → (gk_up x9 b 13 (x9 e 13)) (b + 4) k = x (e + 4) k := fun k hk => (gk_up_ne (fun h => absurd h.1 (by omega))).trans (fF k hk)
  clear hK
  have hK := hK2
  clear hK2
  generalize (gk_up x9 b 13 (x9 e 13)) = x10 at d4 d5 d6 d7 d8 d9 d11 d12 d13 fF hK ⊢
  refine s_aload_n (pc2 := 178) w dX4_copyFrom_177 rfl rfl ?_
  refine s_aload_n (pc2 := 179) w dX4_copyFrom_178 rfl rfl ?_
  refine m_getI (pc2 := 182) (ci := 4) (k := 14) w dX4_copyFrom_179 rfl rfl (by with_reducible assumption) rfl rfl ?_
  refine m_putI (pc2 := 185) (ci := 4) (k := 14) w dX4_copyFrom_182 rfl rfl (by with_reducible assumption) rfl rfl (by intro h; cases h) ?_
  have d14 : (gk_up x10 b 14 (x10 e 14)) b 14 = x e 14 := (gk_up_in _ _ _ _).trans ((hK e 14 hcb hcb4).trans (hc 14))
  have hK2 : ∀ i k, i ≠ b → i ≠ b + 4 → (gk_up x10 b 14 (x10 e 14)) i k = xh i k := fun i k h1 h2 => (gk_up_ne (fun h3 => h1 h3.1)).trans (hK i k h1 h2)
  replace d4 : (gk_up x10 b 14 (x10 e 14)) b 4 = x e 4 := (gk_up_ne (fun h => absurd h.2 (by decide))).trans d4
  replace d5 : (gk_up x10 b 14 (x10 e 14)) b 5 = x e 5 := (gk_up_ne (fun h => absurd h.2 (by decide))).trans d5
  replace d6 : (gk_up x10 b 14 (x10 e 14)) b 6 = x e 6 := (gk_up_ne (fun h => absurd h.2 (by decide))).trans d6
  replace d7 : (gk_up x10 b 14 (x10 e 14)) b 7 = x e 7 := (gk_up_ne (fun h => absurd h.2 (by decide))).trans d7
  replace d8 : (gk_up x10 b 14 (x10 e 14)) b 8 = x e 8 := (gk_up_ne (fun h => absurd h.2 (by decide))).trans d8
  replace d9 : (gk_up x10 b 14 (x10 e 14)) b 9 = x e 9 := (gk_up_ne (fun h => absurd h.2 (by decide))).trans d9
  replace d11 : (gk_up x10 b 14 (x10 e 14)) b 11 = x e 11 := (gk_up_ne (fun h => absurd h.2 (by decide))).trans d11
  replace d12 : (gk_up x10 b 14 (x10 e 14)) b 12 = x e 12 := (gk_up_ne (fun h => absurd h.2 (by decide))).trans d12
  replace d13 : (gk_up x10 b 14 (x10 e 14)) b 13 = x e 13 := (gk_up_ne (fun h => absurd h.2 (by decide))).trans d13
  replace fF : ∀ k, k < 4 → (gk_up x10 b 14 (x10 e 14)) (b + 4) k = x (e + 4) k := fun k hk => (gk_up_ne (fun h => absurd h.1 (by omega))).trans (fF k hk)
  clear hK
  have hK := hK2
  clear hK2
  generalize (gk_up x10 b 14 (x10 e 14)) = x11 at d4 d5 d6 d7 d8 d9 d11 d12 d13 d14 fF hK ⊢
  refine s_aload_n (pc2 := 186) w dX4_copyFrom_185 rfl rfl ?_
  refine s_aload_n (pc2 := 187) w dX4_copyFrom_186 rfl rfl ?_
  refine m_getI (pc2 := 190) (ci := 4) (k := 15) w dX4_copyFrom_187 rfl rfl (by with_reducible assumption) rfl rfl ?_
  refine m_putI (pc2 := 193) (ci := 4) (k := 15) w dX4_copyFrom_190 rfl rfl (by with_reducible assumption) rfl rfl (fun _ => by rw [hK e 15 hcb hcb4, hc]; exact hb15) ?_
  have d15 : (gk_up x11 b 15 (x11 e 15)) b 15 = x e 15 := (gk_up_in _ _ _ _).trans ((hK e 15 hcb hcb4).trans (hc 15))
  have hK2 : ∀ i k, i ≠ b → i ≠ b + 4 → (gk_up x11 b 15 (x11 e 15)) i k = xh i k := fun i k h1 h2 => (gk_up_ne (fun h3 => h1 h3.1)).trans (hK i k h1 h2)
  replace d4 : (gk_up x11 b 15 (x11 e 15)) b 4 = x e 4 := (gk_up_ne (fun h => absurd h.2 (by decide))).trans d4
  replace d5 : (gk_up x11 b 15 (x11 e 15)) b 5 = x e 5 := (gk_up_ne (fun h => absurd h.2 (by decide))).trans d5
  replace d6 : (gk_up x11 b 15 (x11 e 15)) b 6 = x e 6 := (gk_up_ne (fun h => absurd h.2 (by decide))).trans d6
  replace d7 : (gk_up x11 b 15 (x11 e 15)) b 7 = x e 7 := (gk_up_ne (fun h => absurd h.2 (by decide))).trans d7
  replace d8 : (gk_up x11 b 15 (x11 e 15)) b 8 = x e 8 := (gk_up_ne (fun h => absurd h.2 (by decide))).trans d8
  replace d9 : (gk_up x11 b 15 (x11 e 15)) b 9 = x e 9 := (gk_up_ne (fun h => absurd h.2 (by decide))).trans d9
  replace d11 : (gk_up x11 b 15 (x11 e 15)) b 11 = x e 11 := (gk_up_ne (fun h => absurd h.2 (by decide))).trans d11
  replace d12 : (gk_up x11 b 15 (x11 e 15)) b 12 = x e 12 := (gk_up_ne (fun h => absurd h.2 (by decide))).trans d12
  replace d13 : (gk_up x11 b 15 (x11 e 15)) b 13 = x e 13 := (gk_up_ne (fun h => absurd h.2 (by decide))).trans d13
  replace d14 : (gk_up x11 b 15 (x11 e 15)) b 14 = x e 14 := (gk_up_ne (fun h => absurd h.2 (by decide))).trans d14
  replace fF : ∀ k, k < 4 → (gk_up x11 b 15 (x11 e 15)) (b + 4) k = x (e + 4) k := fun k hk => (gk_up_ne (fun h => absurd h.1 (by omega))).trans (fF k hk)
  clear hK
  have hK := hK2
  clear hK2
  generalize (gk_up x11 b 15 (x11 e 15)) = x12 at d4 d5 d6 d7 d8 d9 d11 d12 d13 d14 d15 fF hK ⊢
  refine s_return w dX4_copyFrom_193 rfl ?_
  refine q0 _ _ (RS_copy hp4 hp3 (fun k h1 h2 h3 => ?_) (gk_uy_in _ _ _ _) (fun v k h1 h2 => (hK _ _ (by omega) (by omega)).trans (hV v k h1 h2)) (fun a ha => ⟨⟨(hK _ _ (by omega) (by omega)).trans (hS a ha).1.1, (hK _ _ (by omega) (by omega)).trans (hS a ha).1.2⟩, fun k hk => (hK _ _ (by omega) (by omega)).trans ((hS a ha).2.1 k hk), fun k hk => (hK _ _ (by omega) (by omega)).trans ((hS a ha).2.2 k hk)⟩) (fun m hm => ⟨fun k h1 h2 => (hK _ _ (by omega) (by omega)).trans ((hM m hm).1 k h1 h2), fun k hk => (hK _ _ (by omega) (by omega)).trans ((hM m hm).2 k hk)⟩) fF) (fun i k h => (hK i k (by omega) (by omega)).trans (hF i k (by omega))) (fun i k h => if_neg (fun h2 => h h2.1))
  obtain h | h | h | h | h | h | h | h | h | h | h : k = 4 ∨ k = 5 ∨ k = 6 ∨ k = 7 ∨ k = 8 ∨ k = 9 ∨ k = 11 ∨ k = 12 ∨ k = 13 ∨ k = 14 ∨ k = 15 := by omega
  · subst h; exact d4
  · subst h; exact d5
  · subst h; exact d6
  · subst h; exact d7
  · subst h; exact d8
  · subst h; exact d9
  · subst h; exact d11
  · subst h; exact d12
  · subst h; exact d13
  · subst h; exact d14
  · subst h; exact d15
set_option maxHeartbeats 4000000 in
theorem m_X4_copyFrom : ∀ (as : List Value) (n : Nat) (fl : gk_F) (x : gk_X) (y : gk_Y) (K : gk_K), S_X4_copyFrom as n fl x y K → (gk_L0 as).length ≤ 3 ∧ ∀ V : gk_V, gk_W cX4_copyFrom pX4 cs_X4_copyFrom (fun _ _ => none) none 0 none K V → V 0 (gk_en as 3) [] n fl x y 0 := by
  intro as n fl x y K hS
  obtain ⟨b, e, g, rfl, ⟨rfl, rfl⟩, hk0, hk1, hp0, hp1, hp2, hp3, hp4, q0⟩ := hS
  refine ⟨Nat.le_of_ble_eq_true rfl, fun V w => ?_⟩
  show V 0 [some (.ref b), some (.ref e), none] [] 202 gk_fT x y 0
  obtain ⟨kb0, kb1, kb2, kb3, kb4, kb5, kb6, kb7⟩ := blk hp0
  obtain ⟨kc0, kc1, kc2, kc3, kc4, kc5, kc6, kc7⟩ := blk hp1
  have hbc : e + 43 ≤ b ∨ b + 43 ≤ e := by unfold BLK at hp0 hp1; omega
  have z0 := hp3.1
  have hb11 : x e 11 = 0 ∨ x e 11 = 1 := by rw [z0.2.2.2.2.1]; exact hp4.1.2.2.1
  have hb13 : x e 13 = 0 ∨ x e 13 = 1 := by rw [z0.2.2.2.2.2.2.2.1]; split; exact Or.inr rfl; exact Or.inl rfl
  have hb15 : x e 15 = 0 ∨ x e 15 = 1 := by rw [z0.2.2.2.2.2.2.1]; exact hp4.1.2.2.2.2.2.1
  have fin := cf_fin w hk0 hk1 hp0 hp1 hp2 hp3 hp4 q0
  have lm : ∀ (k n : Nat) (xh : gk_X), n + k = 8 → (∀ v k, v < 4 → k < 3 → xh (v + (b + 5)) k = x (v + (e + 5)) k) → (∀ a, a < 6 → (xh (3 * a + (b + 9)) 2 = x (3 * a + (e + 9)) 2 ∧ xh (3 * a + (b + 9)) 3 = x (3 * a + (e + 9)) 3) ∧ (∀ k, k < 4 → xh (3 * a + (b + 9) + 1) k = x (3 * a + (e + 9) + 1) k) ∧ ∀ k, k < 16 → xh (3 * a + (b + 9) + 2) k = x (3 * a + (e + 9) + 2) k) → (∀ m, m < n → (∀ k, 1 ≤ k → k ≤ 4 → xh (2 * m + (b + 27)) k = x (2 * m + (e + 27)) k) ∧ ∀ k, k < 256 → xh (2 * m + (b + 27) + 1) k = x (2 * m + (e + 27) + 1) k) → (∀ i k, ¬ (b + 5 ≤ i ∧ i < b + 27 + 2 * n) → xh i k = x i k) → V 59 [some (.ref b), some (.ref e), some (.int (nI n))] [] 202 gk_fT xh y 0 := by
    intro k
    induction k with
    | zero =>
      intro n xh ht hV hS hM hF
      obtain rfl : n = 8 := by omega
      refine s_iload_n (pc2 := 60) w dX4_copyFrom_59 rfl rfl ?_
      refine s_bipush (pc2 := 62) (v := gI 8) w dX4_copyFrom_60 rfl rfl ?_
      refine s_ic_ge (pc2 := 65) (tgt := 86) w dX4_copyFrom_62 rfl (by decide) (fun _ => ?_) (fun h0 => absurd ((Int32.le_refl _)) h0)
      exact fin xh _ hV hS hM (fun i k h => hF i k (by omega))
    | succ k ih =>
      intro n xh ht hV hS hM hF
      obtain ⟨jb1, jb2, jb3⟩ := blkM hp0 (show n < 8 by omega)
      obtain ⟨jc1, jc2, jc3⟩ := blkM hp1 (show n < 8 by omega)
      refine s_iload_n (pc2 := 60) w dX4_copyFrom_59 rfl rfl ?_
      refine s_bipush (pc2 := 62) (v := gI 8) w dX4_copyFrom_60 rfl rfl ?_
      refine s_ic_ge (pc2 := 65) (tgt := 86) w dX4_copyFrom_62 rfl (by decide) (fun h0 => absurd h0 (by rw [gI_nI, gI_le ⟨by omega, by omega⟩ ⟨by omega, by omega⟩]; omega)) (fun _ => ?_)
      refine s_aload_n (pc2 := 66) w dX4_copyFrom_65 rfl rfl ?_
      refine m_getR (pc2 := 69) (ci := 4) (k := 2) (j2 := (b + 3)) w dX4_copyFrom_66 rfl rfl (by with_reducible assumption) rfl rfl rfl ?_
      refine s_iload_n (pc2 := 70) w dX4_copyFrom_69 rfl rfl ?_
      refine m_aaloadN (pc2 := 71) (t := n) (kd := 26) (j2 := (2 * n + (b + 27))) w dX4_copyFrom_70 rfl (by with_reducible assumption) kb6 rfl rfl rfl (by omega) rfl (by show b + 3 + (24 + 2 * n) = 2 * n + (b + 27); omega) ?_
      refine s_aload_n (pc2 := 72) w dX4_copyFrom_71 rfl rfl ?_
      refine m_getR (pc2 := 75) (ci := 4) (k := 2) (j2 := (e + 3)) w dX4_copyFrom_72 rfl rfl (by with_reducible assumption) rfl rfl rfl ?_
      refine s_iload_n (pc2 := 76) w dX4_copyFrom_75 rfl rfl ?_
      refine m_aaloadN (pc2 := 77) (t := n) (kd := 26) (j2 := (2 * n + (e + 27))) w dX4_copyFrom_76 rfl (by with_reducible assumption) kc6 rfl rfl rfl (by omega) rfl (by show e + 3 + (24 + 2 * n) = 2 * n + (e + 27); omega) ?_
      refine r_X1_copyFrom (pc2 := 80) w dX4_copyFrom_77 rfl rfl rfl (by with_reducible assumption) (by with_reducible assumption) jb2 jc2 jb3 jc3 (by omega) (fun x1 u1 u2 u3 => ?_)
      refine s_iinc (pc2 := 83) w dX4_copyFrom_80 rfl rfl rfl rfl ?_
      dsimp only [gk_s1, gk_s2, gk_cl]
      rw [nI_s]
      refine s_goto (tgt := 59) w dX4_copyFrom_83 (by decide) ?_
      refine ih (n + 1) x1 (by omega) (fun v k h1 h2 => (u3 _ _ (by omega)).trans (hV v k h1 h2)) (fun a ha => ⟨⟨(u3 _ _ (by omega)).trans (hS a ha).1.1, (u3 _ _ (by omega)).trans (hS a ha).1.2⟩, fun k hk => (u3 _ _ (by omega)).trans ((hS a ha).2.1 k hk), fun k hk => (u3 _ _ (by omega)).trans ((hS a ha).2.2 k hk)⟩) (fun m hm => ?_) (fun i k h => (u3 i k (by omega)).trans (hF i k (by omega)))
      by_cases q : m = n
      · subst q
        exact ⟨fun k h1 h2 => (u1 k h1 h2).trans (hF _ _ (by omega)), fun k hk => (u2 k hk).trans (hF _ _ (by omega))⟩
      · exact ⟨fun k h1 h2 => (u3 _ _ (by omega)).trans ((hM m (by omega)).1 k h1 h2), fun k hk => (u3 _ _ (by omega)).trans ((hM m (by omega)).2 k hk)⟩
  have ls : ∀ (k n : Nat) (xh : gk_X), n + k = 6 → (∀ v k, v < 4 → k < 3 → xh (v + (b + 5)) k = x (v + (e + 5)) k) → (∀ a, a < n → (xh (3 * a + (b + 9)) 2 = x (3 * a + (e + 9)) 2 ∧ xh (3 * a + (b + 9)) 3 = x (3 * a + (e + 9)) 3) ∧ (∀ k, k < 4 → xh (3 * a + (b + 9) + 1) k = x (3 * a + (e + 9) + 1) k) ∧ ∀ k, k < 16 → xh (3 * a + (b + 9) + 2) k = x (3 * a + (e + 9) + 2) k) → (∀ i k, ¬ (b + 5 ≤ i ∧ i < b + 9 + 3 * n) → xh i k = x i k) → V 30 [some (.ref b), some (.ref e), some (.int (nI n))] [] 202 gk_fT xh y 0 := by
    intro k
    induction k with
    | zero =>
      intro n xh ht hV hS hF
      obtain rfl : n = 6 := by omega
      refine s_iload_n (pc2 := 31) w dX4_copyFrom_30 rfl rfl ?_
      refine s_bipush (pc2 := 33) (v := gI 6) w dX4_copyFrom_31 rfl rfl ?_
      refine s_ic_ge (pc2 := 36) (tgt := 57) w dX4_copyFrom_33 rfl (by decide) (fun _ => ?_) (fun h0 => absurd ((Int32.le_refl _)) h0)
      refine s_iconst (pc2 := 58) (v := gI 0) w dX4_copyFrom_57 rfl rfl ?_
      refine s_istore_n (pc2 := 59) (k2 := 2) w dX4_copyFrom_58 rfl rfl rfl ?_
      dsimp only [gk_s1, gk_s2, gk_cl]
      exact lm 8 0 xh (by omega) hV hS (fun m hm => absurd hm (Nat.not_lt_zero m)) (fun i k h => hF i k (by omega))
    | succ k ih =>
      intro n xh ht hV hS hF
      obtain ⟨jb1, jb2, jb3, jb4⟩ := blkS hp0 (show n < 6 by omega)
      obtain ⟨jc1, jc2, jc3, jc4⟩ := blkS hp1 (show n < 6 by omega)
      refine s_iload_n (pc2 := 31) w dX4_copyFrom_30 rfl rfl ?_
      refine s_bipush (pc2 := 33) (v := gI 6) w dX4_copyFrom_31 rfl rfl ?_
      refine s_ic_ge (pc2 := 36) (tgt := 57) w dX4_copyFrom_33 rfl (by decide) (fun h0 => absurd h0 (by rw [gI_nI, gI_le ⟨by omega, by omega⟩ ⟨by omega, by omega⟩]; omega)) (fun _ => ?_)
      refine s_aload_n (pc2 := 37) w dX4_copyFrom_36 rfl rfl ?_
      refine m_getR (pc2 := 40) (ci := 4) (k := 1) (j2 := (b + 2)) w dX4_copyFrom_37 rfl rfl (by with_reducible assumption) rfl rfl rfl ?_
      refine s_iload_n (pc2 := 41) w dX4_copyFrom_40 rfl rfl ?_
      refine m_aaloadN (pc2 := 42) (t := n) (kd := 25) (j2 := (3 * n + (b + 9))) w dX4_copyFrom_41 rfl (by with_reducible assumption) kb4 rfl rfl rfl (by omega) rfl (by show b + 2 + (7 + 3 * n) = 3 * n + (b + 9); omega) ?_
      refine s_aload_n (pc2 := 43) w dX4_copyFrom_42 rfl rfl ?_
      refine m_getR (pc2 := 46) (ci := 4) (k := 1) (j2 := (e + 2)) w dX4_copyFrom_43 rfl rfl (by with_reducible assumption) rfl rfl rfl ?_
      refine s_iload_n (pc2 := 47) w dX4_copyFrom_46 rfl rfl ?_
      refine m_aaloadN (pc2 := 48) (t := n) (kd := 25) (j2 := (3 * n + (e + 9))) w dX4_copyFrom_47 rfl (by with_reducible assumption) kc4 rfl rfl rfl (by omega) rfl (by show e + 2 + (7 + 3 * n) = 3 * n + (e + 9); omega) ?_
      refine r_X7_copyFrom (pc2 := 51) w dX4_copyFrom_48 rfl rfl rfl (by with_reducible assumption) (by with_reducible assumption) jb2 jc2 jb3 jc3 jb4 jc4 (by omega) (fun x1 u1 u2 u3 u4 => ?_)
      refine s_iinc (pc2 := 54) w dX4_copyFrom_51 rfl rfl rfl rfl ?_
      dsimp only [gk_s1, gk_s2, gk_cl]
      rw [nI_s]
      refine s_goto (tgt := 30) w dX4_copyFrom_54 (by decide) ?_
      refine ih (n + 1) x1 (by omega) (fun v k h1 h2 => (u4 _ _ (by omega)).trans (hV v k h1 h2)) (fun a ha => ?_) (fun i k h => (u4 i k (by omega)).trans (hF i k (by omega)))
      by_cases q : a = n
      · subst q
        exact ⟨⟨u1.1.trans (hF _ _ (by omega)), u1.2.trans (hF _ _ (by omega))⟩, fun k hk => (u2 k hk).trans (hF _ _ (by omega)), fun k hk => (u3 k hk).trans (hF _ _ (by omega))⟩
      · exact ⟨⟨(u4 _ _ (by omega)).trans (hS a (by omega)).1.1, (u4 _ _ (by omega)).trans (hS a (by omega)).1.2⟩, fun k hk => (u4 _ _ (by omega)).trans ((hS a (by omega)).2.1 k hk), fun k hk => (u4 _ _ (by omega)).trans ((hS a (by omega)).2.2 k hk)⟩
  have lv : ∀ (k n : Nat) (xh : gk_X), n + k = 4 → (∀ v k, v < n → k < 3 → xh (v + (b + 5)) k = x (v + (e + 5)) k) → (∀ i k, ¬ (b + 5 ≤ i ∧ i < b + 5 + n) → xh i k = x i k) → V 2 [some (.ref b), some (.ref e), some (.int (nI n))] [] 202 gk_fT xh y 0 := by
    intro k
    induction k with
    | zero =>
      intro n xh ht hV hF
      obtain rfl : n = 4 := by omega
      refine s_iload_n (pc2 := 3) w dX4_copyFrom_2 rfl rfl ?_
      refine s_iconst (pc2 := 4) (v := gI 4) w dX4_copyFrom_3 rfl rfl ?_
      refine s_ic_ge (pc2 := 7) (tgt := 28) w dX4_copyFrom_4 rfl (by decide) (fun _ => ?_) (fun h0 => absurd ((Int32.le_refl _)) h0)
      refine s_iconst (pc2 := 29) (v := gI 0) w dX4_copyFrom_28 rfl rfl ?_
      refine s_istore_n (pc2 := 30) (k2 := 2) w dX4_copyFrom_29 rfl rfl rfl ?_
      dsimp only [gk_s1, gk_s2, gk_cl]
      exact ls 6 0 xh (by omega) hV (fun m hm => absurd hm (Nat.not_lt_zero m)) (fun i k h => hF i k (by omega))
    | succ k ih =>
      intro n xh ht hV hF
      have jb1 := blkV hp0 (show n < 4 by omega)
      have jc1 := blkV hp1 (show n < 4 by omega)
      refine s_iload_n (pc2 := 3) w dX4_copyFrom_2 rfl rfl ?_
      refine s_iconst (pc2 := 4) (v := gI 4) w dX4_copyFrom_3 rfl rfl ?_
      refine s_ic_ge (pc2 := 7) (tgt := 28) w dX4_copyFrom_4 rfl (by decide) (fun h0 => absurd h0 (by rw [gI_nI, gI_le ⟨by omega, by omega⟩ ⟨by omega, by omega⟩]; omega)) (fun _ => ?_)
      refine s_aload_n (pc2 := 8) w dX4_copyFrom_7 rfl rfl ?_
      refine m_getR (pc2 := 11) (ci := 4) (k := 0) (j2 := (b + 1)) w dX4_copyFrom_8 rfl rfl (by with_reducible assumption) rfl rfl rfl ?_
      refine s_iload_n (pc2 := 12) w dX4_copyFrom_11 rfl rfl ?_
      refine m_aaloadN (pc2 := 13) (t := n) (kd := 24) (j2 := (n + (b + 5))) w dX4_copyFrom_12 rfl (by with_reducible assumption) kb2 rfl rfl rfl (by omega) rfl (by show b + 1 + (4 + n) = n + (b + 5); omega) ?_
      refine s_aload_n (pc2 := 14) w dX4_copyFrom_13 rfl rfl ?_
      refine m_getR (pc2 := 17) (ci := 4) (k := 0) (j2 := (e + 1)) w dX4_copyFrom_14 rfl rfl (by with_reducible assumption) rfl rfl rfl ?_
      refine s_iload_n (pc2 := 18) w dX4_copyFrom_17 rfl rfl ?_
      refine m_aaloadN (pc2 := 19) (t := n) (kd := 24) (j2 := (n + (e + 5))) w dX4_copyFrom_18 rfl (by with_reducible assumption) kc2 rfl rfl rfl (by omega) rfl (by show e + 1 + (4 + n) = n + (e + 5); omega) ?_
      refine r_X3_copyFrom (pc2 := 22) w dX4_copyFrom_19 rfl rfl rfl (by with_reducible assumption) (by with_reducible assumption) ?_
      refine s_iinc (pc2 := 25) w dX4_copyFrom_22 rfl rfl rfl rfl ?_
      dsimp only [gk_s1, gk_s2, gk_cl]
      rw [nI_s]
      refine s_goto (tgt := 2) w dX4_copyFrom_25 (by decide) ?_
      refine ih (n + 1) _ (by omega) (fun v k h1 h2 => ?_) (fun i k h => ((gk_up_ne (by omega)).trans ((gk_up_ne (by omega)).trans ((gk_up_ne (by omega)).trans ((gk_up_ne (by omega)).trans (hF i k (by omega)))))))
      by_cases q : v = n
      · subst q
        obtain h | h | h : k = 0 ∨ k = 1 ∨ k = 2 := by omega
        · subst h; exact ((gk_up_ne (by omega)).trans ((gk_up_ne (by omega)).trans ((gk_up_ne (by omega)).trans ((gk_up_in _ _ _ _).trans (hF _ _ (by omega))))))
        · subst h; exact ((gk_up_ne (by omega)).trans ((gk_up_ne (by omega)).trans ((gk_up_in _ _ _ _).trans (hF _ _ (by omega)))))
        · subst h; exact ((gk_up_ne (by omega)).trans ((gk_up_in _ _ _ _).trans (hF _ _ (by omega))))
      · exact ((gk_up_ne (by omega)).trans ((gk_up_ne (by omega)).trans ((gk_up_ne (by omega)).trans ((gk_up_ne (by omega)).trans (hV v k (by omega) h2)))))
  refine s_iconst (pc2 := 1) (v := gI 0) w dX4_copyFrom_0 rfl rfl ?_
  refine s_istore_n (pc2 := 2) (k2 := 2) w dX4_copyFrom_1 rfl rfl rfl ?_
  dsimp only [gk_s1, gk_s2, gk_cl]
  exact lv 4 0 x (by omega) (fun v k h1 => absurd h1 (Nat.not_lt_zero v)) (fun i k _ => rfl)
theorem lk_X4_copyFrom {l : Launch} (hl : l.stackTraces = false) : ∀ q ∈ L_X4_copyFrom, (q.2.1 < 5 → gk_Lk l RX4 gk_W1 3 q.1 q.2.1 q.2.2.1 q.2.2.2.1 q.2.2.2.2.1 q.2.2.2.2.2) := (List.forall_mem_cons.mpr ⟨(fun _ => ⟨yX3_copyFrom, cX3_copyFrom, 2, none, 1, _, M_X3_copyFrom hl, ⟨by decide, by decide⟩, ⟨by decide, by decide, by decide +kernel⟩, ⟨(gk_wm 700 (by decide +kernel)), (gk_wm 91 (by decide +kernel))⟩, Or.inr (Or.inr (Or.inr (Or.inl ⟨rfl, rfl, (gk_wm 698 (by decide +kernel)), (gk_wm 699 (by decide +kernel)), gk_wm 697 (by decide +kernel), by decide, rfl⟩)))⟩), (List.forall_mem_cons.mpr ⟨(fun _ => ⟨yX7_copyFrom, cX7_copyFrom, 2, none, 2, _, M_X7_copyFrom hl, ⟨by decide, by decide⟩, ⟨by decide, by decide, by decide +kernel⟩, ⟨(gk_wm 704 (by decide +kernel)), (gk_wm 92 (by decide +kernel))⟩, Or.inr (Or.inr (Or.inr (Or.inl ⟨rfl, rfl, (gk_wm 702 (by decide +kernel)), (gk_wm 703 (by decide +kernel)), gk_wm 701 (by decide +kernel), by decide, rfl⟩)))⟩), (List.forall_mem_cons.mpr ⟨(fun _ => ⟨yX1_copyFrom, cX1_copyFrom, 2, none, 1, _, M_X1_copyFrom hl, ⟨by decide, by decide⟩, ⟨by decide, by decide, by decide +kernel⟩, ⟨(gk_wm 712 (by decide +kernel)), (gk_wm 93 (by decide +kernel))⟩, Or.inr (Or.inr (Or.inr (Or.inl ⟨rfl, rfl, (gk_wm 710 (by decide +kernel)), (gk_wm 711 (by decide +kernel)), gk_wm 709 (by decide +kernel), by decide, rfl⟩)))⟩), (fun _ h => absurd h List.not_mem_nil)⟩)⟩)⟩)
theorem sp_X4_copyFrom : ∀ q ∈ L_X4_copyFrom, gk_Sq RX4 gk_W1 3 q := (List.forall_mem_cons.mpr ⟨⟨fun h => absurd h (by decide), fun h => absurd h (by decide), fun h => absurd h (by decide), fun h => absurd h (by decide), fun h => absurd h (by decide), fun h => absurd h (by decide)⟩, (List.forall_mem_cons.mpr ⟨⟨fun h => absurd h (by decide), fun h => absurd h (by decide), fun h => absurd h (by decide), fun h => absurd h (by decide), fun h => absurd h (by decide), fun h => absurd h (by decide)⟩, (List.forall_mem_cons.mpr ⟨⟨fun h => absurd h (by decide), fun h => absurd h (by decide), fun h => absurd h (by decide), fun h => absurd h (by decide), fun h => absurd h (by decide), fun h => absurd h (by decide)⟩, (fun _ h => absurd h List.not_mem_nil)⟩)⟩)⟩)
theorem M_X4_copyFrom {l : Launch} (hl : l.stackTraces = false) : gk_Mt l yX4_copyFrom (.code yX4_copyFrom cX4_copyFrom 3 none :: gk_W1) 3 0 S_X4_copyFrom := gk_meth hl gk_cw_ok (by decide +kernel) rfl m_X4_copyFrom pX4_ok (gk_Sp_of sp_X4_copyFrom) pX4_st (fun ci m S h => absurd h (by intro h; cases h)) (xf_X4 3) (fun idx kd ci mm cost S2 h h5 => lk_X4_copyFrom hl _ (gk_lk_mem h) h5)

end GKV

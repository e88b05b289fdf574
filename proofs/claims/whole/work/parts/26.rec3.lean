/-! THE METHODS, 7: the reference, noise and the whole recording -/
section GKV
variable {c : ByteArray} {P : gk_C} {cs : Nat → Option gk_M0} {rt : Option FieldType} {uf : Nat} {sc : Option Nat} {K : gk_K} {V : gk_V}
variable {L : List (Option Value)} {r : List Value} {n : Nat} {fl : gk_F} {x : gk_X} {y : gk_Y} {u pc pc2 : Nat}
theorem gk_up_up (x : gk_X) (i k : Nat) (a b : Int32) : gk_up (gk_up x i k a) i k b = gk_up x i k b := by
  funext i' k'
  simp only [gk_up]
  split
  · rfl
  · rfl
theorem gk_up_cm (x : gk_X) {i k j l : Nat} (a b : Int32) (h : ¬ (i = j ∧ k = l)) : gk_up (gk_up x i k a) j l b = gk_up (gk_up x j l b) i k a := by
  funext i' k'
  simp only [gk_up]
  by_cases h1 : i' = i ∧ k' = k
  · rw [if_pos h1, if_pos h1, if_neg (fun h2 => h ⟨h1.1.symm.trans h2.1, h1.2.symm.trans h2.2⟩)]
  · rw [if_neg h1, if_neg h1]
theorem gk_up_in (x : gk_X) (i k : Nat) (a : Int32) : gk_up x i k a i k = a := if_pos ⟨rfl, rfl⟩
theorem gk_up_ne {x : gk_X} {i k j l : Nat} {a : Int32} (h : ¬ (j = i ∧ l = k)) : gk_up x i k a j l = x j l := if_neg h
theorem gk_rn_add (r : Int) (a : Nat) : ∀ b, gk_rn (gk_rn r a) b = gk_rn r (a + b)
  | 0 => rfl
  | b + 1 => congrArg gk_nx (gk_rn_add r a b)
def S_X11_addNoise : gk_S := fun as n fl x y K => ∃ (m : Int32) (mm : Nat) (Lv : Int) (q : Int), as = [.ref 189, .int m] ∧ (n = 202 ∧ fl = gk_fT) ∧ (m = nI mm) ∧ (mm < 8) ∧ (x 190 4 = gI Lv) ∧ (0 ≤ Lv ∧ Lv ≤ 99) ∧ (x 190 3 = gI q) ∧ (0 ≤ q ∧ q < 2147483648) ∧ (K (.inl none) n fl (if Lv = 0 then x else gk_up (gk_rg x 190 (186 + 256 * mm) 256 (fun k => x 190 (186 + 256 * mm + k) + gI (gk_no Lv q k))) 190 3 (gI (gk_rn q 256))) y)
theorem r_X11_addNoise (w : gk_W c P cs (fun _ _ => none) rt uf sc K V) {idx : Nat} {m : Int32} {mm : Nat} {Lv : Int} {q : Int} (hd : decode c pc = .ok (.invokevirtual idx, 3)) (hp : pc + 3 = pc2) (hc : cs idx = some (1, 10, 2, 0, S_X11_addNoise)) (h8 : Nat.ble (r.map Value.category).sum 8 = true) (hp0 : m = nI mm) (hp1 : mm < 8) (hp2 : x 190 4 = gI Lv) (hp3 : 0 ≤ Lv ∧ Lv ≤ 99) (hp4 : x 190 3 = gI q) (hp5 : 0 ≤ q ∧ q < 2147483648) (kk0 : V pc2 L r 202 gk_fT (if Lv = 0 then x else gk_up (gk_rg x 190 (186 + 256 * mm) 256 (fun k => x 190 (186 + 256 * mm + k) + gI (gk_no Lv q k))) 190 3 (gI (gk_rn q 256))) y u) : V pc L (.int m :: .ref 189 :: r) 202 gk_fT x y u :=
  g_callv w hd hp hc (as := [.ref 189, .int m]) rfl h8 rfl rfl rfl (Or.inr (Or.inl ⟨Or.inl rfl, _, _, rfl, (gk_kd_j rfl rfl), rfl⟩)) (Or.inl rfl) ⟨m, mm, Lv, q, rfl, ⟨rfl, rfl⟩, hp0, hp1, hp2, hp3, hp4, hp5, kk0⟩
def L_X11_addNoise : List (Nat × gk_M0) := [(164, (1, 10, 2, 0, S_X11_draw))]
def cs_X11_addNoise : Nat → Option gk_M0 := gk_lk L_X11_addNoise
theorem m_X11_addNoise : ∀ (as : List Value) (n : Nat) (fl : gk_F) (x : gk_X) (y : gk_Y) (K : gk_K), S_X11_addNoise as n fl x y K → (gk_L0 as).length ≤ 4 ∧ ∀ V : gk_V, gk_W cX11_addNoise pX11 cs_X11_addNoise (fun _ _ => none) none 0 none K V → V 0 (gk_en as 4) [] n fl x y 0 := by
  intro as n fl x y K hS
  obtain ⟨m, mm, Lv, q, rfl, ⟨rfl, rfl⟩, hp0, hp1, hp2, hp3, hp4, hp5, q0⟩ := hS
  refine ⟨Nat.le_of_ble_eq_true rfl, fun V w => ?_⟩
  show V 0 [some (.ref 189), some (.int m), none, none] [] 202 gk_fT x y 0
  subst hp0
  refine s_aload_n (pc2 := 1) w dX11_addNoise_0 rfl rfl ?_
  refine m_getR (pc2 := 4) (ci := 10) (k := 0) (j2 := 190) w dX11_addNoise_1 rfl rfl (by first | assumption | rfl) rfl rfl rfl ?_
  refine s_iconst (pc2 := 5) (v := gI 4) w dX11_addNoise_4 rfl rfl ?_
  refine m_ialoadN (pc2 := 6) (t := 4) (N := 2234) w dX11_addNoise_5 rfl (by first | assumption | rfl) rfl rfl (by decide) rfl ?_
  refine s_istore_n (pc2 := 7) (k2 := 2) w dX11_addNoise_6 rfl rfl rfl ?_
  dsimp only [gk_s1, gk_s2, gk_cl]
  refine s_iconst (pc2 := 8) (v := gI 0) w dX11_addNoise_7 rfl rfl ?_
  refine s_istore_n (pc2 := 9) (k2 := 3) w dX11_addNoise_8 rfl rfl rfl ?_
  dsimp only [gk_s1, gk_s2, gk_cl]
  rw [hp2]
  by_cases hz : Lv = 0
  · subst hz
    rw [if_pos rfl] at q0
    refine s_iload_n (pc2 := 10) w dX11_addNoise_9 rfl rfl ?_
    refine s_sipush (pc2 := 13) (v := gI 256) w dX11_addNoise_10 rfl rfl ?_
    refine s_ic_ge (pc2 := 16) (tgt := 56) w dX11_addNoise_13 rfl (by decide) (fun h0 => absurd h0 ((by decide))) (fun _ => ?_)
    refine s_iload_n (pc2 := 17) w dX11_addNoise_16 rfl rfl ?_
    refine s_if_le (pc2 := 20) (tgt := 56) w dX11_addNoise_17 rfl (by decide) (fun _ => ?_) (fun h0 => absurd ((by decide)) h0)
    refine s_return w dX11_addNoise_56 rfl ?_
    exact q0
  · rw [if_neg hz] at q0
    obtain ⟨F, hF⟩ : ∃ F : Nat → Int32, F = fun k => x 190 (186 + 256 * mm + k) + gI (gk_no Lv q k) := ⟨_, rfl⟩
    rw [← hF] at q0
    have key : ∀ (k n : Nat), n + k = 256 → V 9 [some (.ref 189), some (.int (nI mm)), some (.int (gI Lv)), some (.int (nI n))] [] 202 gk_fT (gk_up (gk_rg x 190 (186 + 256 * mm) n F) 190 3 (gI (gk_rn q n))) y 0 := by
      intro k
      induction k with
      | zero =>
        intro n ht
        have ht2 : n = 256 := by omega
        subst ht2
        refine s_iload_n (pc2 := 10) w dX11_addNoise_9 rfl rfl ?_
        refine s_sipush (pc2 := 13) (v := gI 256) w dX11_addNoise_10 rfl rfl ?_
        refine s_ic_ge (pc2 := 16) (tgt := 56) w dX11_addNoise_13 rfl (by decide) (fun _ => ?_) (fun h0 => absurd ((Int32.le_refl _)) h0)
        refine s_return w dX11_addNoise_56 rfl ?_
        exact q0
      | succ k ih =>
        intro n ht
        have hr := gk_rn_b hp5 n
        refine s_iload_n (pc2 := 10) w dX11_addNoise_9 rfl rfl ?_
        refine s_sipush (pc2 := 13) (v := gI 256) w dX11_addNoise_10 rfl rfl ?_
        refine s_ic_ge (pc2 := 16) (tgt := 56) w dX11_addNoise_13 rfl (by decide) (fun h0 => absurd h0 (by rw [gI_nI, gI_le ⟨by omega, by omega⟩ ⟨by omega, by omega⟩]; omega)) (fun _ => ?_)
        refine s_iload_n (pc2 := 17) w dX11_addNoise_16 rfl rfl ?_
        refine s_if_le (pc2 := 20) (tgt := 56) w dX11_addNoise_17 rfl (by decide) (fun h0 => absurd h0 (by rw [show (0 : Int32) = gI 0 from rfl, gI_le ⟨by omega, by omega⟩ ⟨by omega, by omega⟩]; omega)) (fun _ => ?_)
        refine s_aload_n (pc2 := 21) w dX11_addNoise_20 rfl rfl ?_
        refine m_getR (pc2 := 24) (ci := 10) (k := 0) (j2 := 190) w dX11_addNoise_21 rfl rfl (by first | assumption | rfl) rfl rfl rfl ?_
        refine s_sipush (pc2 := 27) (v := gI 186) w dX11_addNoise_24 rfl rfl ?_
        refine s_sipush (pc2 := 30) (v := gI 256) w dX11_addNoise_27 rfl rfl ?_
        refine s_iload_n (pc2 := 31) w dX11_addNoise_30 rfl rfl ?_
        refine s_imul (pc2 := 32) w dX11_addNoise_31 rfl ?_
        refine s_iadd (pc2 := 33) w dX11_addNoise_32 rfl ?_
        refine s_iload_n (pc2 := 34) w dX11_addNoise_33 rfl rfl ?_
        refine s_iadd (pc2 := 35) w dX11_addNoise_34 rfl ?_
        refine s_dup2 (pc2 := 36) w dX11_addNoise_35 rfl rfl rfl ?_
        refine m_ialoadN (pc2 := 37) (t := 186 + 256 * mm + n) (N := 2234) w dX11_addNoise_36 rfl (by first | assumption | rfl) rfl (by simp only [gI_nI, gI_add, gI_mul, gI_sub, gI_inc]; exact congrArg gI (by omega)) (by omega) rfl ?_
        refine s_aload_n (pc2 := 38) w dX11_addNoise_37 rfl rfl ?_
        refine s_iconst (pc2 := 39) (v := gI 2) w dX11_addNoise_38 rfl rfl ?_
        refine s_iload_n (pc2 := 40) w dX11_addNoise_39 rfl rfl ?_
        refine s_imul (pc2 := 41) w dX11_addNoise_40 rfl ?_
        refine s_iconst (pc2 := 42) (v := gI 1) w dX11_addNoise_41 rfl rfl ?_
        refine s_iadd (pc2 := 43) w dX11_addNoise_42 rfl ?_
        rw [gI_mul, gI_add]
        refine r_X11_draw (pc2 := 46) w dX11_addNoise_43 rfl rfl rfl (gk_up_in _ _ _ _) hr rfl (by omega) ?_
        refine s_iload_n (pc2 := 47) w dX11_addNoise_46 rfl rfl ?_
        rw [show gk_nx (gk_rn q n) = gk_rn q (n + 1) from rfl]
        refine s_isub (pc2 := 48) w dX11_addNoise_47 rfl ?_
        rw [gI_sub, gk_up_ne (by omega), gk_rg_ne (by omega), show gk_rn q (n + 1) / 65536 % (2 * Lv + 1) - Lv = gk_no Lv q n from rfl]
        refine s_iadd (pc2 := 49) w dX11_addNoise_48 rfl ?_
        refine m_iastoreN (pc2 := 50) (t := 186 + 256 * mm + n) (N := 2234) w dX11_addNoise_49 rfl (by first | assumption | rfl) rfl (by simp only [gI_nI, gI_add, gI_mul, gI_sub, gI_inc]; exact congrArg gI (by omega)) (by omega) rfl ?_
        refine s_iinc (pc2 := 53) w dX11_addNoise_50 rfl rfl rfl rfl ?_
        dsimp only [gk_s1, gk_s2, gk_cl]
        rw [nI_s]
        refine s_goto (tgt := 9) w dX11_addNoise_53 (by decide) ?_
        have h := ih (n + 1) (by omega)
        rw [← gk_rg_s] at h
        rw [gk_up_up, gk_up_cm _ _ _ (by omega)]
        rw [hF] at h ⊢
        exact h
    have h := key 256 0 rfl
    rw [gk_rg_0] at h
    have e : gk_up x 190 3 (gI (gk_rn q 0)) = x := by
      funext i k
      unfold gk_up
      split
      · rename_i h9; rw [h9.1, h9.2]; exact hp4.symm
      · rfl
    rw [e] at h
    exact h
theorem lk_X11_addNoise {l : Launch} (hl : l.stackTraces = false) : ∀ q ∈ L_X11_addNoise, (q.2.1 < 5 → gk_Lk l RX11 gk_W1 1 q.1 q.2.1 q.2.2.1 q.2.2.2.1 q.2.2.2.2.1 q.2.2.2.2.2) := (List.forall_mem_cons.mpr ⟨(fun _ => ⟨yX11_draw, cX11_draw, 4, (some .int), 0, _, M_X11_draw hl, ⟨by decide, by decide⟩, ⟨by decide, by decide, by decide +kernel⟩, ⟨(gk_wm 1506 (by decide +kernel)), (gk_wm 99 (by decide +kernel))⟩, Or.inr (Or.inr (Or.inr (Or.inl ⟨rfl, rfl, (gk_wm 1505 (by decide +kernel)), (gk_wm 53 (by decide +kernel)), gk_wm 1503 (by decide +kernel), by decide, rfl⟩)))⟩), (fun _ h => absurd h List.not_mem_nil)⟩)
theorem sp_X11_addNoise : ∀ q ∈ L_X11_addNoise, gk_Sq RX11 gk_W1 1 q := (List.forall_mem_cons.mpr ⟨⟨fun h => absurd h (by decide), fun h => absurd h (by decide), fun h => absurd h (by decide), fun h => absurd h (by decide), fun h => absurd h (by decide), fun h => absurd h (by decide)⟩, (fun _ h => absurd h List.not_mem_nil)⟩)
theorem M_X11_addNoise {l : Launch} (hl : l.stackTraces = false) : gk_Mt l yX11_addNoise (.code yX11_addNoise cX11_addNoise 4 none :: gk_W1) 1 0 S_X11_addNoise := gk_meth hl gk_cw_ok (by decide +kernel) rfl m_X11_addNoise pX11_ok (gk_Sp_of sp_X11_addNoise) pX11_st (fun ci m S h => absurd h (by intro h; cases h)) (xf_X11 1) (fun idx kd ci mm cost S2 h h5 => lk_X11_addNoise hl _ (gk_lk_mem h) h5)

/-- a source's sounds, added up to a source -/
def gk_sm (g : Nat → Int32) (m : Nat) : Nat → Nat → Int
  | 0, _ => 0
  | a + 1, k => gk_sm g m a k + gk_hd g m a false k + gk_hd g m a true k
/-- the random state after the noise of m records -/
def gk_rs (g : Nat → Int32) (m : Nat) : Int := if gz g 4 = 0 then gz g 3 else gk_rn (gz g 3) (256 * m)
def gk_rec (g : Nat → Int32) (m k : Nat) : Int := gk_sm g m (nS g) k + (if gz g 4 = 0 then 0 else gk_no (gz g 4) (gk_rs g m) k)
/-- the memory when m records are made -/
def gk_mr (x : gk_X) (g : Nat → Int32) (m : Nat) : gk_X := fun i k => if i = 190 ∧ k = 3 then gI (gk_rs g m) else if i = 190 ∧ 186 ≤ k ∧ k < 186 + 256 * m then gI (gk_rec g ((k - 186) / 256) ((k - 186) % 256)) else if i = 189 ∧ k = 4 then 0 else x i k
theorem gk_mr_lo {x : gk_X} {g : Nat → Int32} {m k : Nat} (h : k < 186) (h3 : k ≠ 3) : gk_mr x g m 190 k = x 190 k := by
  unfold gk_mr
  rw [if_neg (fun h2 => h3 h2.2), if_neg (by omega), if_neg (by omega)]
theorem gk_rs_b {g : Nat → Int32} (hw : wf0 g) (m : Nat) : 0 ≤ gk_rs g m ∧ gk_rs g m < 2147483648 := by
  have h0 := hw.2.2.2.1
  have h1 := (gz_R g 3).2
  unfold gk_rs
  split
  · omega
  · exact gk_rn_b ⟨h0, by omega⟩ _
theorem gk_mr_s {x : gk_X} {g : Nat → Int32} {m : Nat} (i k : Nat) : gk_mr x g (m + 1) i k = (if gz g 4 = 0 then gk_rg (gk_mr x g m) 190 (186 + 256 * m) 256 (fun k => gI (gk_sm g m (nS g) k)) else gk_up (gk_rg (gk_mr x g m) 190 (186 + 256 * m) 256 (fun k => gI (gk_sm g m (nS g) k) + gI (gk_no (gz g 4) (gk_rs g m) k))) 190 3 (gI (gk_rn (gk_rs g m) 256))) i k := by
  have hq : ∀ k, 186 + 256 * m ≤ k → k < 186 + 256 * m + 256 → (k - 186) / 256 = m ∧ (k - 186) % 256 = k - (186 + 256 * m) := fun k h1 h2 => by omega
  by_cases hz : gz g 4 = 0
  · rw [if_pos hz]
    unfold gk_rg
    by_cases h : i = 190 ∧ 186 + 256 * m ≤ k ∧ k < 186 + 256 * m + 256
    · obtain ⟨e1, e2⟩ := hq k h.2.1 h.2.2
      rw [if_pos h]
      unfold gk_mr
      rw [if_neg (by omega), if_pos (by omega), e1, e2]
      unfold gk_rec
      rw [if_pos hz, Int.add_zero]
    · rw [if_neg h]
      unfold gk_mr
      have er : gk_rs g (m + 1) = gk_rs g m := by unfold gk_rs; rw [if_pos hz, if_pos hz]
      rw [er]
      by_cases h3 : i = 190 ∧ k = 3
      · rw [if_pos h3, if_pos h3]
      · rw [if_neg h3, if_neg h3]
        by_cases h4 : i = 190 ∧ 186 ≤ k ∧ k < 186 + 256 * m
        · rw [if_pos h4, if_pos (by omega)]
        · rw [if_neg h4, if_neg (by omega)]
  · rw [if_neg hz]
    have er : gk_rs g (m + 1) = gk_rn (gk_rs g m) 256 := by unfold gk_rs; rw [if_neg hz, if_neg hz, gk_rn_add]; congr 1
    by_cases h3 : i = 190 ∧ k = 3
    · unfold gk_up gk_mr
      rw [if_pos h3, if_pos h3, er]
    · rw [gk_up_ne h3]
      unfold gk_rg
      by_cases h : i = 190 ∧ 186 + 256 * m ≤ k ∧ k < 186 + 256 * m + 256
      · obtain ⟨e1, e2⟩ := hq k h.2.1 h.2.2
        rw [if_pos h]
        unfold gk_mr
        rw [if_neg h3, if_pos (by omega), e1, e2]
        unfold gk_rec
        rw [if_neg hz]
        exact (gI_add _ _).symm
      · rw [if_neg h]
        unfold gk_mr
        rw [if_neg h3, if_neg h3]
        by_cases h4 : i = 190 ∧ 186 ≤ k ∧ k < 186 + 256 * m
        · rw [if_pos h4, if_pos (by omega)]
        · rw [if_neg h4, if_neg (by omega)]
def S_X11_makeRecording : gk_S := fun as n fl x y K => ∃ (g : Nat → Int32), as = [.ref 189] ∧ (n = 202 ∧ fl = gk_fT) ∧ (∀ k, k < 186 → x 190 k = g k) ∧ (gWf g) ∧ (∀ x2 : gk_X, (∀ i k, i ≠ 194 → i ≠ 195 → x2 i k = gk_up (gk_mr x g (nM g)) 190 9 (x 190 9 + 1) i k) → K (.inl (some (.int (x 190 9 + 1)))) n fl x2 y)
theorem r_X11_makeRecording (w : gk_W c P cs (fun _ _ => none) rt uf sc K V) {idx : Nat} {g : Nat → Int32} (hd : decode c pc = .ok (.invokevirtual idx, 3)) (hp : pc + 3 = pc2) (hc : cs idx = some (1, 10, 1, 0, S_X11_makeRecording)) (h8 : Nat.ble (r.map Value.category).sum 8 = true) (hp0 : ∀ k, k < 186 → x 190 k = g k) (hp1 : gWf g) (kk0 : ∀ x2 : gk_X, (∀ i k, i ≠ 194 → i ≠ 195 → x2 i k = gk_up (gk_mr x g (nM g)) 190 9 (x 190 9 + 1) i k) → V pc2 L ((.int (x 190 9 + 1)) :: r) 202 gk_fT x2 y u) : V pc L (.ref 189 :: r) 202 gk_fT x y u :=
  g_callv w hd hp hc (as := [.ref 189]) rfl h8 rfl rfl rfl (Or.inr (Or.inl ⟨Or.inl rfl, _, _, rfl, (gk_kd_j rfl rfl), rfl⟩)) (Or.inl rfl) ⟨g, rfl, ⟨rfl, rfl⟩, hp0, hp1, kk0⟩
def L_X11_makeRecording : List (Nat × gk_M0) := [(140, (1, 10, 3, 0, S_X11_laySource)), (167, (1, 10, 4, 0, S_X11_hear)), (171, (1, 10, 2, 0, S_X11_addNoise))]
def cs_X11_makeRecording : Nat → Option gk_M0 := gk_lk L_X11_makeRecording
theorem m_X11_makeRecording : ∀ (as : List Value) (n : Nat) (fl : gk_F) (x : gk_X) (y : gk_Y) (K : gk_K), S_X11_makeRecording as n fl x y K → (gk_L0 as).length ≤ 3 ∧ ∀ V : gk_V, gk_W cX11_makeRecording pX11 cs_X11_makeRecording (fun _ _ => none) (some .int) 0 none K V → V 0 (gk_en as 3) [] n fl x y 0 := by
  intro as n fl x y K hS
  obtain ⟨g, rfl, ⟨rfl, rfl⟩, hp0, hp1, q0⟩ := hS
  refine ⟨Nat.le_of_ble_eq_true rfl, fun V w => ?_⟩
  show V 0 [some (.ref 189), none, none] [] 202 gk_fT x y 0
  have w0 := hp1.1
  have n8 : gz g 8 = (nM g : Int) := by unfold nM; have := hp1.1; unfold wf0 at this; omega
  have n7 : gz g 7 = (nS g : Int) := by unfold nS; have := hp1.1; unfold wf0 at this; omega
  have n8l : nM g ≤ 8 := by have := hp1.1; unfold wf0 at this; omega
  have n7l : nS g ≤ 6 := by have := hp1.1; unfold wf0 at this; omega
  have lo : ∀ (m : Nat) (xm : gk_X), (∀ i k, i ≠ 194 → i ≠ 195 → xm i k = gk_mr x g m i k) → ∀ k, k < 186 → k ≠ 3 → xm 190 k = g k := fun m xm h k h1 h2 => (h 190 k (by decide) (by decide)).trans ((gk_mr_lo h1 h2).trans (hp0 k h1))
  have src : ∀ (m : Nat) (xm : gk_X), m < nM g → (∀ k, k < 186 → k ≠ 3 → xm 190 k = g k) → (∀ xa : gk_X, (∀ i k, i ≠ 194 → i ≠ 195 → xa i k = gk_rg xm 190 (186 + 256 * m) 256 (fun k => gI (gk_sm g m (nS g) k)) i k) → V 89 [some (.ref 189), some (.int (nI m)), some (.int (nI (nS g)))] [] 202 gk_fT xa y 0) → ∀ (k a : Nat), a + k = nS g → ∀ xa : gk_X, (∀ i k, i ≠ 194 → i ≠ 195 → xa i k = gk_rg xm 190 (186 + 256 * m) 256 (fun k => gI (gk_sm g m a k)) i k) → V 52 [some (.ref 189), some (.int (nI m)), some (.int (nI a))] [] 202 gk_fT xa y 0 := by
    intro m xm hm hlo h89 k
    have xlo : ∀ (a : Nat) (xa : gk_X), (∀ i k, i ≠ 194 → i ≠ 195 → xa i k = gk_rg xm 190 (186 + 256 * m) 256 (fun k => gI (gk_sm g m a k)) i k) → ∀ k, k < 186 → k ≠ 3 → xa 190 k = g k := fun a xa h k h1 h2 => (h 190 k (by decide) (by decide)).trans ((gk_rg_ne (by omega)).trans (hlo k h1 h2))
    induction k with
    | zero =>
      intro a ht xa hxa
      have ha : a = nS g := by omega
      subst ha
      refine s_iload_n (pc2 := 53) w dX11_makeRecording_52 rfl rfl ?_
      refine s_aload_n (pc2 := 54) w dX11_makeRecording_53 rfl rfl ?_
      refine m_getR (pc2 := 57) (ci := 10) (k := 0) (j2 := 190) w dX11_makeRecording_54 rfl rfl (by first | assumption | rfl) rfl rfl rfl ?_
      refine s_bipush (pc2 := 59) (v := gI 7) w dX11_makeRecording_57 rfl rfl ?_
      refine m_ialoadN (pc2 := 60) (t := 7) (N := 2234) w dX11_makeRecording_59 rfl (by first | assumption | rfl) rfl rfl (by decide) rfl ?_
      rw [xlo _ xa hxa 7 (by decide) (by decide), gz_I g 7, n7]
      refine s_ic_ge (pc2 := 63) (tgt := 89) w dX11_makeRecording_60 rfl (by decide) (fun _ => ?_) (fun h0 => absurd ((Int32.le_refl _)) h0)
      exact h89 xa hxa
    | succ k ih =>
      intro a ht xa hxa
      have ha : a < nS g := by omega
      have g1 : ∀ k, k < 186 → k ≠ 3 → (gk_ur (gk_ur xa 194 (fun t => gI (gk_dl (pA g m a) (pS g a) (pBe g m a false) t)) 256) 195 (fun t => gI (gk_dl (pA g m a) (pS g a) (pBe g m a true) t)) 256) 190 k = g k := fun k h1 h2 => xlo a xa hxa k h1 h2
      have g2 : ∀ (F : Nat → Int32) k, k < 186 → k ≠ 3 → gk_rg (gk_ur (gk_ur xa 194 (fun t => gI (gk_dl (pA g m a) (pS g a) (pBe g m a false) t)) 256) 195 (fun t => gI (gk_dl (pA g m a) (pS g a) (pBe g m a true) t)) 256) 190 (186 + 256 * m) 256 F 190 k = g k := fun F k h1 h2 => (gk_rg_ne (by omega)).trans (g1 k h1 h2)
      refine s_iload_n (pc2 := 53) w dX11_makeRecording_52 rfl rfl ?_
      refine s_aload_n (pc2 := 54) w dX11_makeRecording_53 rfl rfl ?_
      refine m_getR (pc2 := 57) (ci := 10) (k := 0) (j2 := 190) w dX11_makeRecording_54 rfl rfl (by first | assumption | rfl) rfl rfl rfl ?_
      refine s_bipush (pc2 := 59) (v := gI 7) w dX11_makeRecording_57 rfl rfl ?_
      refine m_ialoadN (pc2 := 60) (t := 7) (N := 2234) w dX11_makeRecording_59 rfl (by first | assumption | rfl) rfl rfl (by decide) rfl ?_
      rw [xlo _ xa hxa 7 (by decide) (by decide), gz_I g 7, n7]
      refine s_ic_ge (pc2 := 63) (tgt := 89) w dX11_makeRecording_60 rfl (by decide) (fun h0 => absurd h0 (by rw [gI_nI, gI_le ⟨by omega, by omega⟩ ⟨by omega, by omega⟩]; omega)) (fun _ => ?_)
      refine s_aload_n (pc2 := 64) w dX11_makeRecording_63 rfl rfl ?_
      refine s_iload_n (pc2 := 65) w dX11_makeRecording_64 rfl rfl ?_
      refine s_iload_n (pc2 := 66) w dX11_makeRecording_65 rfl rfl ?_
      refine r_X11_laySource (pc2 := 69) w dX11_makeRecording_66 rfl rfl rfl (xlo a xa hxa) hp1 rfl hm rfl ha ?_
      refine s_aload_n (pc2 := 70) w dX11_makeRecording_69 rfl rfl ?_
      refine s_iload_n (pc2 := 71) w dX11_makeRecording_70 rfl rfl ?_
      refine s_iload_n (pc2 := 72) w dX11_makeRecording_71 rfl rfl ?_
      refine s_iconst (pc2 := 73) (v := gI 0) w dX11_makeRecording_72 rfl rfl ?_
      refine r_X11_hear (pc2 := 76) (rf := false) w dX11_makeRecording_73 rfl rfl rfl g1 hp1 rfl hm rfl ha rfl (fun t ht => (gk_ur_ne (by decide)).trans (gk_ur_in ht)) ?_
      refine s_aload_n (pc2 := 77) w dX11_makeRecording_76 rfl rfl ?_
      refine s_iload_n (pc2 := 78) w dX11_makeRecording_77 rfl rfl ?_
      refine s_iload_n (pc2 := 79) w dX11_makeRecording_78 rfl rfl ?_
      refine s_iconst (pc2 := 80) (v := gI 1) w dX11_makeRecording_79 rfl rfl ?_
      refine r_X11_hear (pc2 := 83) (rf := true) w dX11_makeRecording_80 rfl rfl rfl (g2 _) hp1 rfl hm rfl ha rfl (fun t ht => (gk_rg_ne (fun h9 => absurd h9.1 (by decide))).trans (gk_ur_in ht)) ?_
      refine s_iinc (pc2 := 86) w dX11_makeRecording_83 rfl rfl rfl rfl ?_
      dsimp only [gk_s1, gk_s2, gk_cl]
      rw [nI_s]
      refine s_goto (tgt := 52) w dX11_makeRecording_86 (by decide) ?_
      refine ih (a + 1) (by omega) _ (fun i k h1 h2 => ?_)
      by_cases hk : i = 190 ∧ 186 + 256 * m ≤ k ∧ k < 186 + 256 * m + 256
      · obtain ⟨rfl, h3, h4⟩ := hk
        obtain ⟨e, rfl⟩ : ∃ e, k = 186 + 256 * m + e := ⟨k - (186 + 256 * m), by omega⟩
        refine (gk_rg_in (by omega)).trans (Eq.trans ?_ (gk_rg_in (by omega)).symm)
        show gk_rg _ 190 _ 256 _ 190 (186 + 256 * m + e) + gI _ = gI (gk_sm g m a e + gk_hd g m a false e + gk_hd g m a true e)
        rw [gk_rg_in (by omega)]
        show (xa 190 (186 + 256 * m + e) + _) + _ = _
        rw [hxa _ _ (by decide) (by decide), gk_rg_in (by omega), gI_add, gI_add]
      · exact (gk_rg_ne hk).trans ((gk_rg_ne hk).trans ((gk_ur_ne h2).trans ((gk_ur_ne h1).trans ((hxa i k h1 h2).trans ((gk_rg_ne hk).trans (gk_rg_ne hk).symm)))))
  have key : ∀ (k m : Nat) (l2 : Option Value), m + k = nM g → ∀ xm : gk_X, (∀ i k, i ≠ 194 → i ≠ 195 → xm i k = gk_mr x g m i k) → V 7 [some (.ref 189), some (.int (nI m)), l2] [] 202 gk_fT xm y 0 := by
    intro k
    induction k with
    | zero =>
      intro m l2 ht xm hxm
      have hm : m = nM g := by omega
      subst hm
      refine s_iload_n (pc2 := 8) w dX11_makeRecording_7 rfl rfl ?_
      refine s_aload_n (pc2 := 9) w dX11_makeRecording_8 rfl rfl ?_
      refine m_getR (pc2 := 12) (ci := 10) (k := 0) (j2 := 190) w dX11_makeRecording_9 rfl rfl (by first | assumption | rfl) rfl rfl rfl ?_
      refine s_bipush (pc2 := 14) (v := gI 8) w dX11_makeRecording_12 rfl rfl ?_
      refine m_ialoadN (pc2 := 15) (t := 8) (N := 2234) w dX11_makeRecording_14 rfl (by first | assumption | rfl) rfl rfl (by decide) rfl ?_
      rw [lo _ xm hxm 8 (by decide) (by decide), gz_I g 8, n8]
      refine s_ic_ge (pc2 := 18) (tgt := 100) w dX11_makeRecording_15 rfl (by decide) (fun _ => ?_) (fun h0 => absurd ((Int32.le_refl _)) h0)
      refine s_aload_n (pc2 := 101) w dX11_makeRecording_100 rfl rfl ?_
      refine m_getR (pc2 := 104) (ci := 10) (k := 0) (j2 := 190) w dX11_makeRecording_101 rfl rfl (by first | assumption | rfl) rfl rfl rfl ?_
      refine s_bipush (pc2 := 106) (v := gI 9) w dX11_makeRecording_104 rfl rfl ?_
      refine s_dup2 (pc2 := 107) w dX11_makeRecording_106 rfl rfl rfl ?_
      refine m_ialoadN (pc2 := 108) (t := 9) (N := 2234) w dX11_makeRecording_107 rfl (by first | assumption | rfl) rfl rfl (by decide) rfl ?_
      refine s_iconst (pc2 := 109) (v := gI 1) w dX11_makeRecording_108 rfl rfl ?_
      refine s_iadd (pc2 := 110) w dX11_makeRecording_109 rfl ?_
      refine m_iastoreN (pc2 := 111) (t := 9) (N := 2234) w dX11_makeRecording_110 rfl (by first | assumption | rfl) rfl rfl (by decide) rfl ?_
      refine s_aload_n (pc2 := 112) w dX11_makeRecording_111 rfl rfl ?_
      refine m_getR (pc2 := 115) (ci := 10) (k := 0) (j2 := 190) w dX11_makeRecording_112 rfl rfl (by first | assumption | rfl) rfl rfl rfl ?_
      refine s_bipush (pc2 := 117) (v := gI 9) w dX11_makeRecording_115 rfl rfl ?_
      refine m_ialoadN (pc2 := 118) (t := 9) (N := 2234) w dX11_makeRecording_117 rfl (by first | assumption | rfl) rfl rfl (by decide) rfl ?_
      rw [gk_up_in]
      refine s_ireturn w dX11_makeRecording_118 rfl rfl ?_
      have e9 : xm 190 9 = x 190 9 := (hxm 190 9 (by decide) (by decide)).trans (gk_mr_lo (by decide) (by decide))
      rw [e9]
      refine q0 _ (fun i k h1 h2 => ?_)
      unfold gk_up
      split
      · rfl
      · exact hxm i k h1 h2
    | succ k ih =>
      intro m l2 ht xm hxm
      have hm : m < nM g := by omega
      have zer : V 50 [some (.ref 189), some (.int (nI m)), some (.int (nI 256))] [] 202 gk_fT (gk_rg xm 190 (186 + 256 * m) 256 (fun _ => 0)) y 0 → ∀ (k t : Nat), t + k = 256 → V 20 [some (.ref 189), some (.int (nI m)), some (.int (nI t))] [] 202 gk_fT (gk_rg xm 190 (186 + 256 * m) t (fun _ => 0)) y 0 := by
        intro h50 k
        induction k with
        | zero =>
          intro t ht
          have ht2 : t = 256 := by omega
          subst ht2
          refine s_iload_n (pc2 := 21) w dX11_makeRecording_20 rfl rfl ?_
          refine s_sipush (pc2 := 24) (v := gI 256) w dX11_makeRecording_21 rfl rfl ?_
          refine s_ic_ge (pc2 := 27) (tgt := 50) w dX11_makeRecording_24 rfl (by decide) (fun _ => ?_) (fun h0 => absurd ((Int32.le_refl _)) h0)
          exact h50
        | succ k ihz =>
          intro t ht
          refine s_iload_n (pc2 := 21) w dX11_makeRecording_20 rfl rfl ?_
          refine s_sipush (pc2 := 24) (v := gI 256) w dX11_makeRecording_21 rfl rfl ?_
          refine s_ic_ge (pc2 := 27) (tgt := 50) w dX11_makeRecording_24 rfl (by decide) (fun h0 => absurd h0 (by rw [gI_nI, gI_le ⟨by omega, by omega⟩ ⟨by omega, by omega⟩]; omega)) (fun _ => ?_)
          refine s_aload_n (pc2 := 28) w dX11_makeRecording_27 rfl rfl ?_
          refine m_getR (pc2 := 31) (ci := 10) (k := 0) (j2 := 190) w dX11_makeRecording_28 rfl rfl (by first | assumption | rfl) rfl rfl rfl ?_
          refine s_sipush (pc2 := 34) (v := gI 186) w dX11_makeRecording_31 rfl rfl ?_
          refine s_sipush (pc2 := 37) (v := gI 256) w dX11_makeRecording_34 rfl rfl ?_
          refine s_iload_n (pc2 := 38) w dX11_makeRecording_37 rfl rfl ?_
          refine s_imul (pc2 := 39) w dX11_makeRecording_38 rfl ?_
          refine s_iadd (pc2 := 40) w dX11_makeRecording_39 rfl ?_
          refine s_iload_n (pc2 := 41) w dX11_makeRecording_40 rfl rfl ?_
          refine s_iadd (pc2 := 42) w dX11_makeRecording_41 rfl ?_
          refine s_iconst (pc2 := 43) (v := gI 0) w dX11_makeRecording_42 rfl rfl ?_
          refine m_iastoreN (pc2 := 44) (t := 186 + 256 * m + t) (N := 2234) w dX11_makeRecording_43 rfl (by first | assumption | rfl) rfl (by simp only [gI_nI, gI_add, gI_mul, gI_sub, gI_inc]; exact congrArg gI (by omega)) (by omega) rfl ?_
          refine s_iinc (pc2 := 47) w dX11_makeRecording_44 rfl rfl rfl rfl ?_
          dsimp only [gk_s1, gk_s2, gk_cl]
          rw [nI_s]
          refine s_goto (tgt := 20) w dX11_makeRecording_47 (by decide) ?_
          have h := ihz (t + 1) (by omega)
          rw [← gk_rg_s] at h
          exact h
      refine s_iload_n (pc2 := 8) w dX11_makeRecording_7 rfl rfl ?_
      refine s_aload_n (pc2 := 9) w dX11_makeRecording_8 rfl rfl ?_
      refine m_getR (pc2 := 12) (ci := 10) (k := 0) (j2 := 190) w dX11_makeRecording_9 rfl rfl (by first | assumption | rfl) rfl rfl rfl ?_
      refine s_bipush (pc2 := 14) (v := gI 8) w dX11_makeRecording_12 rfl rfl ?_
      refine m_ialoadN (pc2 := 15) (t := 8) (N := 2234) w dX11_makeRecording_14 rfl (by first | assumption | rfl) rfl rfl (by decide) rfl ?_
      rw [lo _ xm hxm 8 (by decide) (by decide), gz_I g 8, n8]
      refine s_ic_ge (pc2 := 18) (tgt := 100) w dX11_makeRecording_15 rfl (by decide) (fun h0 => absurd h0 (by rw [gI_nI, gI_le ⟨by omega, by omega⟩ ⟨by omega, by omega⟩]; omega)) (fun _ => ?_)
      refine s_iconst (pc2 := 19) (v := gI 0) w dX11_makeRecording_18 rfl rfl ?_
      refine s_istore_n (pc2 := 20) (k2 := 2) w dX11_makeRecording_19 rfl rfl rfl ?_
      dsimp only [gk_s1, gk_s2, gk_cl]
      have hz := zer ?_ 256 0 rfl
      · rw [gk_rg_0] at hz
        exact hz
      refine s_iconst (pc2 := 51) (v := gI 0) w dX11_makeRecording_50 rfl rfl ?_
      refine s_istore_n (pc2 := 52) (k2 := 2) w dX11_makeRecording_51 rfl rfl rfl ?_
      dsimp only [gk_s1, gk_s2, gk_cl]
      refine src m xm hm (lo m xm hxm) (fun xa hxa => ?_) (nS g) 0 (by omega) _ (fun i k _ _ => rfl)
      have alo : ∀ k, k < 186 → xa 190 k = gk_mr x g m 190 k := fun k h1 => (hxa 190 k (by decide) (by decide)).trans ((gk_rg_ne (by omega)).trans (hxm 190 k (by decide) (by decide)))
      refine s_aload_n (pc2 := 90) w dX11_makeRecording_89 rfl rfl ?_
      refine s_iload_n (pc2 := 91) w dX11_makeRecording_90 rfl rfl ?_
      refine r_X11_addNoise (pc2 := 94) w dX11_makeRecording_91 rfl rfl rfl rfl (by omega) ((alo 4 (by decide)).trans ((gk_mr_lo (by decide) (by decide)).trans ((hp0 4 (by decide)).trans (gz_I g 4)))) w0.2.2.2.2.1 (alo 3 (by decide)) (gk_rs_b w0 m) ?_
      refine s_iinc (pc2 := 97) w dX11_makeRecording_94 rfl rfl rfl rfl ?_
      dsimp only [gk_s1, gk_s2, gk_cl]
      rw [nI_s]
      refine s_goto (tgt := 7) w dX11_makeRecording_97 (by decide) ?_
      refine ih (m + 1) _ (by omega) _ (fun i k h1 h2 => ?_)
      rw [gk_mr_s]
      by_cases hz : gz g 4 = 0
      · rw [if_pos hz, if_pos hz, hxa i k h1 h2]
        unfold gk_rg
        rw [hxm i k h1 h2]
      · rw [if_neg hz, if_neg hz]
        unfold gk_up
        by_cases h3 : i = 190 ∧ k = 3
        · rw [if_pos h3, if_pos h3]
        · rw [if_neg h3, if_neg h3]
          unfold gk_rg
          by_cases hk : i = 190 ∧ 186 + 256 * m ≤ k ∧ k < 186 + 256 * m + 256
          · rw [if_pos hk, if_pos hk]
            obtain ⟨rfl, h5, h6⟩ := hk
            obtain ⟨e, rfl⟩ : ∃ e, k = 186 + 256 * m + e := ⟨k - (186 + 256 * m), by omega⟩
            rw [Nat.add_sub_cancel_left]
            show xa 190 (186 + 256 * m + e) + gI _ = gI _ + gI _
            rw [hxa 190 _ (by decide) (by decide), gk_rg_in (by omega)]
          · rw [if_neg hk, if_neg hk, hxa i k h1 h2]
            exact (gk_rg_ne hk).trans (hxm i k h1 h2)
  refine s_aload_n (pc2 := 1) w dX11_makeRecording_0 rfl rfl ?_
  refine s_iconst (pc2 := 2) (v := gI 0) w dX11_makeRecording_1 rfl rfl ?_
  refine m_putI (pc2 := 5) (ci := 10) (k := 4) w dX11_makeRecording_2 rfl rfl (by first | assumption | rfl) rfl rfl (by intro h; cases h) ?_
  refine s_iconst (pc2 := 6) (v := gI 0) w dX11_makeRecording_5 rfl rfl ?_
  refine s_istore_n (pc2 := 7) (k2 := 1) w dX11_makeRecording_6 rfl rfl rfl ?_
  dsimp only [gk_s1, gk_s2, gk_cl]
  refine key (nM g) 0 none (by omega) _ (fun i k _ _ => ?_)
  unfold gk_up gk_mr
  by_cases h : i = 189 ∧ k = 4
  · rw [if_pos h, if_neg (by omega), if_neg (by omega), if_pos h]; rfl
  · rw [if_neg h]
    by_cases h3 : i = 190 ∧ k = 3
    · rw [if_pos h3, h3.1, h3.2, hp0 3 (by decide), gz_I g 3]; congr 1; unfold gk_rs; split <;> rfl
    · rw [if_neg h3, if_neg (by omega), if_neg h]
theorem lk_X11_makeRecording {l : Launch} (hl : l.stackTraces = false) : ∀ q ∈ L_X11_makeRecording, (q.2.1 < 5 → gk_Lk l RX11 gk_W1 4 q.1 q.2.1 q.2.2.1 q.2.2.2.1 q.2.2.2.2.1 q.2.2.2.2.2) := (List.forall_mem_cons.mpr ⟨(fun _ => ⟨yX11_laySource, cX11_laySource, 4, none, 3, _, M_X11_laySource hl, ⟨by decide, by decide⟩, ⟨by decide, by decide, by decide +kernel⟩, ⟨(gk_wm 1444 (by decide +kernel)), (gk_wm 99 (by decide +kernel))⟩, Or.inr (Or.inr (Or.inr (Or.inl ⟨rfl, rfl, (gk_wm 1443 (by decide +kernel)), (gk_wm 42 (by decide +kernel)), gk_wm 1441 (by decide +kernel), by decide, rfl⟩)))⟩), (List.forall_mem_cons.mpr ⟨(fun _ => ⟨yX11_hear, cX11_hear, 7, none, 2, _, M_X11_hear hl, ⟨by decide, by decide⟩, ⟨by decide, by decide, by decide +kernel⟩, ⟨(gk_wm 1494 (by decide +kernel)), (gk_wm 99 (by decide +kernel))⟩, Or.inr (Or.inr (Or.inr (Or.inl ⟨rfl, rfl, (gk_wm 1493 (by decide +kernel)), (gk_wm 50 (by decide +kernel)), gk_wm 1491 (by decide +kernel), by decide, rfl⟩)))⟩), (List.forall_mem_cons.mpr ⟨(fun _ => ⟨yX11_addNoise, cX11_addNoise, 4, none, 1, _, M_X11_addNoise hl, ⟨by decide, by decide⟩, ⟨by decide, by decide, by decide +kernel⟩, ⟨(gk_wm 1502 (by decide +kernel)), (gk_wm 99 (by decide +kernel))⟩, Or.inr (Or.inr (Or.inr (Or.inl ⟨rfl, rfl, (gk_wm 1501 (by decide +kernel)), (gk_wm 52 (by decide +kernel)), gk_wm 1499 (by decide +kernel), by decide, rfl⟩)))⟩), (fun _ h => absurd h List.not_mem_nil)⟩)⟩)⟩)
theorem sp_X11_makeRecording : ∀ q ∈ L_X11_makeRecording, gk_Sq RX11 gk_W1 4 q := (List.forall_mem_cons.mpr ⟨⟨fun h => absurd h (by decide), fun h => absurd h (by decide), fun h => absurd h (by decide), fun h => absurd h (by decide), fun h => absurd h (by decide), fun h => absurd h (by decide)⟩, (List.forall_mem_cons.mpr ⟨⟨fun h => absurd h (by decide), fun h => absurd h (by decide), fun h => absurd h (by decide), fun h => absurd h (by decide), fun h => absurd h (by decide), fun h => absurd h (by decide)⟩, (List.forall_mem_cons.mpr ⟨⟨fun h => absurd h (by decide), fun h => absurd h (by decide), fun h => absurd h (by decide), fun h => absurd h (by decide), fun h => absurd h (by decide), fun h => absurd h (by decide)⟩, (fun _ h => absurd h List.not_mem_nil)⟩)⟩)⟩)
theorem M_X11_makeRecording {l : Launch} (hl : l.stackTraces = false) : gk_Mt l yX11_makeRecording (.code yX11_makeRecording cX11_makeRecording 3 (some .int) :: gk_W1) 4 0 S_X11_makeRecording := gk_meth hl gk_cw_ok (by decide +kernel) rfl m_X11_makeRecording pX11_ok (gk_Sp_of sp_X11_makeRecording) pX11_st (fun ci m S h => absurd h (by intro h; cases h)) (xf_X11 4) (fun idx kd ci mm cost S2 h h5 => lk_X11_makeRecording hl _ (gk_lk_mem h) h5)

end GKV

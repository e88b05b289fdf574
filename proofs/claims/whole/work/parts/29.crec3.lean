/-! THE METHODS, 10: the class, the whole recording -/
section GKV
variable {c : ByteArray} {P : gk_C} {cs : Nat → Option gk_M0} {rt : Option FieldType} {uf : Nat} {sc : Option Nat} {K : gk_K} {V : gk_V}
variable {L : List (Option Value)} {r : List Value} {n : Nat} {fl : gk_F} {x : gk_X} {y : gk_Y} {u pc pc2 : Nat}
theorem gk_ur_ur (x : gk_X) (j N : Nat) (f h : Nat → Int32) : gk_ur (gk_ur x j f N) j h N = gk_ur x j h N := by
  funext i k
  simp only [gk_ur]
  split
  · rfl
  · rfl
theorem gk_ur_cg (x : gk_X) (j N : Nat) {f h : Nat → Int32} (e : ∀ k, k < N → f k = h k) : gk_ur x j f N = gk_ur x j h N := by
  funext i k
  simp only [gk_ur]
  split
  · rename_i h9; exact e k h9.2
  · rfl
def gk_no2 (g : Nat → Int32) (m k : Nat) : Int := if gz g 4 = 0 then 0 else gk_no (gz g 4) (gk_rs g m) k
/-- the scene's memory when m records are made -/
def gk_cr (x : gk_X) (g : Nat → Int32) (m : Nat) : gk_X := fun i k => if 29 ≤ i ∧ i < 29 + 2 * m ∧ i % 2 = 1 ∧ k < 256 then gI (gk_rec g ((i - 29) / 2) k) else x i k
theorem gk_cr_0 (x : gk_X) (g : Nat → Int32) : gk_cr x g 0 = x := by
  funext i k
  exact if_neg (fun h => by omega)
theorem gk_cr_s (x : gk_X) (g : Nat → Int32) (m : Nat) : gk_ur (gk_cr x g m) (2 * m + 29) (fun k => gI (gk_no2 g m k + gk_sm g m (nS g) k)) 256 = gk_cr x g (m + 1) := by
  funext i k
  unfold gk_ur gk_cr
  by_cases h : i = 2 * m + 29 ∧ k < 256
  · rw [if_pos h, if_pos (by omega), show (i - 29) / 2 = m by omega]
    unfold gk_rec gk_no2
    rw [Int.add_comm]
  · rw [if_neg h]
    by_cases h2 : 29 ≤ i ∧ i < 29 + 2 * m ∧ i % 2 = 1 ∧ k < 256
    · rw [if_pos h2, if_pos (by omega)]
    · rw [if_neg h2, if_neg (by omega)]
theorem gk_cr_so (x : gk_X) (g : Nat → Int32) {m : Nat} (hm : m ≤ 8) : gk_so (gk_cr x g m) x := by
  intro i k h
  refine if_neg (fun h2 => ?_)
  exact h ((i - 29) / 2) (by omega) (by omega)
def S_X4_recordAll : gk_S := fun as n fl x y K => ∃ (g : Nat → Int32), as = [.ref 1, .ref 89] ∧ (n = 202 ∧ fl = gk_fT) ∧ (gWf g) ∧ (rs0 1 g x) ∧ (rsr 1 g y) ∧ (rss 1 g x) ∧ (rsm 1 g x) ∧ (∀ y2 : gk_Y, (∀ i k, i ≠ 89 → y2 i k = gk_uy y 1 10 (gL (gk_rs g (nM g))) i k) → K (.inl none) n fl (gk_up (gk_cr x g (nM g)) 1 12 (x 1 12 + 1)) y2)
theorem r_X4_recordAll (w : gk_W c P cs (fun _ _ => none) rt uf sc K V) {idx : Nat} {g : Nat → Int32} (hd : decode c pc = .ok (.invokevirtual idx, 3)) (hp : pc + 3 = pc2) (hc : cs idx = some (1, 4, 2, 0, S_X4_recordAll)) (h8 : Nat.ble (r.map Value.category).sum 8 = true) (hp0 : gWf g) (hp1 : rs0 1 g x) (hp2 : rsr 1 g y) (hp3 : rss 1 g x) (hp4 : rsm 1 g x) (kk0 : ∀ y2 : gk_Y, (∀ i k, i ≠ 89 → y2 i k = gk_uy y 1 10 (gL (gk_rs g (nM g))) i k) → V pc2 L r 202 gk_fT (gk_up (gk_cr x g (nM g)) 1 12 (x 1 12 + 1)) y2 u) : V pc L (.ref 89 :: .ref 1 :: r) 202 gk_fT x y u :=
  g_callv w hd hp hc (as := [.ref 1, .ref 89]) rfl h8 rfl rfl rfl (Or.inr (Or.inl ⟨Or.inl rfl, _, _, rfl, (gk_kd_j rfl rfl), rfl⟩)) (Or.inl rfl) ⟨g, rfl, ⟨rfl, rfl⟩, hp0, hp1, hp2, hp3, hp4, kk0⟩
theorem gk_ly_ne {y : gk_Y} {i j k : Nat} {A S B : Int} (h : i ≠ j) : gk_ly y j A S B i k = y i k := by
  have no : ∀ a, ¬ (i = j ∧ k = a) := fun a h2 => h h2.1
  exact (if_neg (no 2)).trans ((if_neg (no 1)).trans (if_neg (no 0)))
def L_X4_recordAll : List (Nat × gk_M0) := [(131, (1, 4, 2, 0, S_X4_recordNoise)), (135, (1, 4, 5, 0, S_X4_recordPath))]
def cs_X4_recordAll : Nat → Option gk_M0 := gk_lk L_X4_recordAll
theorem m_X4_recordAll : ∀ (as : List Value) (n : Nat) (fl : gk_F) (x : gk_X) (y : gk_Y) (K : gk_K), S_X4_recordAll as n fl x y K → (gk_L0 as).length ≤ 5 ∧ ∀ V : gk_V, gk_W cX4_recordAll pX4 cs_X4_recordAll (fun _ _ => none) none 0 none K V → V 0 (gk_en as 5) [] n fl x y 0 := by
  intro as n fl x y K hS
  obtain ⟨g, rfl, ⟨rfl, rfl⟩, hp0, hp1, hp2, hp3, hp4, q0⟩ := hS
  refine ⟨Nat.le_of_ble_eq_true rfl, fun V w => ?_⟩
  show V 0 [some (.ref 1), some (.ref 89), none, none, none] [] 202 gk_fT x y 0
  have w0 := hp0.1
  have n8 : gz g 8 = (nM g : Int) := by unfold nM; have := hp0.1; unfold wf0 at this; omega
  have n7 : gz g 7 = (nS g : Int) := by unfold nS; have := hp0.1; unfold wf0 at this; omega
  have n8l : nM g ≤ 8 := by have := hp0.1; unfold wf0 at this; omega
  have n7l : nS g ≤ 6 := by have := hp0.1; unfold wf0 at this; omega
  have c6 : ∀ x2, gk_so x2 x → x2 1 6 = gI (nM g : Int) := fun x2 h => by rw [h 1 6 (fun m _ => by omega), hp1.1.2.2, gz_I g 8, n8]
  have c5 : ∀ x2, gk_so x2 x → x2 1 5 = gI (nS g : Int) := fun x2 h => by rw [h 1 5 (fun m _ => by omega), hp1.1.2.1, gz_I g 7, n7]
  have c9 : ∀ x2, gk_so x2 x → x2 1 9 = gI (gz g 4) := fun x2 h => by rw [h 1 9 (fun m _ => by omega), hp1.2.2.2.1, gz_I g 4]
  have c7 : ∀ x2, gk_so x2 x → x2 1 7 = g 0 := fun x2 h => by rw [h 1 7 (fun m _ => by omega), hp1.2.1]
  have src : ∀ m : Nat, m < nM g → (∀ yy : gk_Y, (∀ i k, i ≠ 89 → yy i k = gk_uy y 1 10 (gL (gk_rs g (m + 1))) i k) → V 71 [some (.ref 1), some (.ref 89), some (.int (nI (m))), some (.ref (2 * m + 28)), some (.int (nI (nS g)))] [] 202 gk_fT (gk_cr x g (m + 1)) yy 0) → ∀ (k a : Nat), a + k = nS g → ∀ yy : gk_Y, (∀ i k, i ≠ 89 → yy i k = gk_uy y 1 10 (gL (gk_rs g (m + 1))) i k) → V 28 [some (.ref 1), some (.ref 89), some (.int (nI (m))), some (.ref (2 * m + 28)), some (.int (nI a))] [] 202 gk_fT (gk_ur (gk_cr x g m) (2 * m + 29) (fun k => gI (gk_no2 g m k + gk_sm g m (a) k)) 256) yy 0 := by
    intro m hm h71 k
    obtain ⟨j1, j2, j3⟩ := kd_m (show m < 8 by omega)
    have hso : ∀ f : Nat → Int32, gk_so (gk_ur (gk_cr x g m) (2 * m + 29) f 256) x := fun f => (so_ur _ (by omega) f).trans (gk_cr_so x g (by omega))
    induction k with
    | zero =>
      intro a ht yy hyy
      have ha : a = nS g := by omega
      subst ha
      refine s_iload (pc2 := 30) w dX4_recordAll_28 rfl rfl ?_
      refine s_aload_n (pc2 := 31) w dX4_recordAll_30 rfl rfl ?_
      refine m_getI (pc2 := 34) (ci := 4) (k := 5) w dX4_recordAll_31 rfl rfl rfl rfl rfl ?_
      rw [c5 _ (hso _)]
      refine s_ic_ge (pc2 := 37) (tgt := 71) w dX4_recordAll_34 rfl (by decide) (fun _ => ?_) (fun h0 => absurd ((Int32.le_refl _)) h0)
      rw [gk_cr_s]
      exact h71 yy hyy
    | succ k ih =>
      intro a ht yy hyy
      have ha : a < nS g := by omega
      obtain ⟨k1, k2, k3, k4⟩ := kd_s (show a < 6 by omega)
      refine s_iload (pc2 := 30) w dX4_recordAll_28 rfl rfl ?_
      refine s_aload_n (pc2 := 31) w dX4_recordAll_30 rfl rfl ?_
      refine m_getI (pc2 := 34) (ci := 4) (k := 5) w dX4_recordAll_31 rfl rfl rfl rfl rfl ?_
      rw [c5 _ (hso _)]
      refine s_ic_ge (pc2 := 37) (tgt := 71) w dX4_recordAll_34 rfl (by decide) (fun h0 => absurd h0 (by rw [gI_nI, gI_le ⟨by omega, by omega⟩ ⟨by omega, by omega⟩]; omega)) (fun _ => ?_)
      refine s_aload_n (pc2 := 38) w dX4_recordAll_37 rfl rfl ?_
      refine s_aload_n (pc2 := 39) w dX4_recordAll_38 rfl rfl ?_
      refine m_getR (pc2 := 42) (ci := 4) (k := 1) (j2 := 3) w dX4_recordAll_39 rfl rfl rfl rfl rfl rfl ?_
      refine s_iload (pc2 := 44) w dX4_recordAll_42 rfl rfl ?_
      refine m_aaloadN (pc2 := 45) (t := a) (kd := 25) (j2 := (3 * a + 10)) (N := 6) w dX4_recordAll_44 rfl rfl rfl rfl rfl rfl (by omega) rfl (by show 3 + (7 + 3 * a) = 3 * a + 10; omega) ?_
      refine s_aload_n (pc2 := 46) w dX4_recordAll_45 rfl rfl ?_
      refine s_aload_n (pc2 := 47) w dX4_recordAll_46 rfl rfl ?_
      refine s_iconst (pc2 := 48) (v := gI 0) w dX4_recordAll_47 rfl rfl ?_
      refine r_X4_recordPath (pc2 := 51) (rf := false) w dX4_recordAll_48 rfl rfl rfl (by first | exact k1 | exact j1) (by first | exact k1 | exact j1) rfl rfl hp0 (c7 _ (hso _)) (so_rs0 (hso _) hp1) (so_rss hp0 (hso _) hp3) (so_rsm (hso _) hp4) hm ha (show gI 0 = if false then 1 else 0 from rfl) ?_
      rw [gk_ur_ur]
      refine s_aload_n (pc2 := 52) w dX4_recordAll_51 rfl rfl ?_
      refine s_aload_n (pc2 := 53) w dX4_recordAll_52 rfl rfl ?_
      refine m_getR (pc2 := 56) (ci := 4) (k := 1) (j2 := 3) w dX4_recordAll_53 rfl rfl rfl rfl rfl rfl ?_
      refine s_iload (pc2 := 58) w dX4_recordAll_56 rfl rfl ?_
      refine m_aaloadN (pc2 := 59) (t := a) (kd := 25) (j2 := (3 * a + 10)) (N := 6) w dX4_recordAll_58 rfl rfl rfl rfl rfl rfl (by omega) rfl (by show 3 + (7 + 3 * a) = 3 * a + 10; omega) ?_
      refine s_aload_n (pc2 := 60) w dX4_recordAll_59 rfl rfl ?_
      refine s_aload_n (pc2 := 61) w dX4_recordAll_60 rfl rfl ?_
      refine s_iconst (pc2 := 62) (v := gI 1) w dX4_recordAll_61 rfl rfl ?_
      refine r_X4_recordPath (pc2 := 65) (rf := true) w dX4_recordAll_62 rfl rfl rfl (by first | exact k1 | exact j1) (by first | exact k1 | exact j1) rfl rfl hp0 (c7 _ (hso _)) (so_rs0 (hso _) hp1) (so_rss hp0 (hso _) hp3) (so_rsm (hso _) hp4) hm ha (show gI 1 = if true then 1 else 0 from rfl) ?_
      rw [gk_ur_ur]
      refine s_iinc (pc2 := 68) w dX4_recordAll_65 rfl rfl rfl rfl ?_
      dsimp only [gk_s1, gk_s2, gk_cl]
      rw [nI_s]
      refine s_goto (tgt := 28) w dX4_recordAll_68 (by decide) ?_
      rw [gk_ur_cg (h := fun k => gI (gk_no2 g m k + gk_sm g m (a + 1) k)) _ _ _ (fun k hk => ?_)]
      · exact ih (a + 1) (by omega) _ (fun i k h1 => ((gk_ly_ne h1).trans (gk_ly_ne h1)).trans (hyy i k h1))
      · rw [gk_ur_in hk]
        show gk_ur _ _ _ _ _ _ + gI _ + gI _ = gI (gk_no2 g m k + (gk_sm g m a k + gk_hd g m a false k + gk_hd g m a true k))
        rw [gk_ur_in hk, gI_add, gI_add]
        exact congrArg gI (by omega)
  have key : ∀ (k m : Nat) (l3 l4 : Option Value), m + k = nM g → ∀ yy : gk_Y, (∀ i k, i ≠ 89 → yy i k = gk_uy y 1 10 (gL (gk_rs g (m))) i k) → V 2 [some (.ref 1), some (.ref 89), some (.int (nI m)), gk_cl l3, l4] [] 202 gk_fT (gk_cr x g m) yy 0 := by
    intro k
    induction k with
    | zero =>
      intro m l3 l4 ht yy hyy
      have hm : m = nM g := by omega
      subst hm
      refine s_iload_n (pc2 := 3) w dX4_recordAll_2 rfl rfl ?_
      refine s_aload_n (pc2 := 4) w dX4_recordAll_3 rfl rfl ?_
      refine m_getI (pc2 := 7) (ci := 4) (k := 6) w dX4_recordAll_4 rfl rfl rfl rfl rfl ?_
      rw [c6 _ (gk_cr_so x g n8l)]
      refine s_ic_ge (pc2 := 10) (tgt := 77) w dX4_recordAll_7 rfl (by decide) (fun _ => ?_) (fun h0 => absurd ((Int32.le_refl _)) h0)
      refine s_aload_n (pc2 := 78) w dX4_recordAll_77 rfl rfl ?_
      refine s_dup (pc2 := 79) w dX4_recordAll_78 rfl rfl ?_
      refine m_getI (pc2 := 82) (ci := 4) (k := 12) w dX4_recordAll_79 rfl rfl rfl rfl rfl ?_
      refine s_iconst (pc2 := 83) (v := gI 1) w dX4_recordAll_82 rfl rfl ?_
      rw [gk_cr_so x g n8l 1 12 (fun m _ => by omega)]
      refine s_iadd (pc2 := 84) w dX4_recordAll_83 rfl ?_
      refine m_putI (pc2 := 87) (ci := 4) (k := 12) w dX4_recordAll_84 rfl rfl rfl rfl rfl (by intro h; cases h) ?_
      refine s_return w dX4_recordAll_87 rfl ?_
      exact q0 yy hyy
    | succ k ih =>
      intro m l3 l4 ht yy hyy
      have hm : m < nM g := by omega
      obtain ⟨j1, j2, j3⟩ := kd_m (show m < 8 by omega)
      have hsm := gk_cr_so x g (show m ≤ 8 by omega)
      refine s_iload_n (pc2 := 3) w dX4_recordAll_2 rfl rfl ?_
      refine s_aload_n (pc2 := 4) w dX4_recordAll_3 rfl rfl ?_
      refine m_getI (pc2 := 7) (ci := 4) (k := 6) w dX4_recordAll_4 rfl rfl rfl rfl rfl ?_
      rw [c6 _ hsm]
      refine s_ic_ge (pc2 := 10) (tgt := 77) w dX4_recordAll_7 rfl (by decide) (fun h0 => absurd h0 (by rw [gI_nI, gI_le ⟨by omega, by omega⟩ ⟨by omega, by omega⟩]; omega)) (fun _ => ?_)
      refine s_aload_n (pc2 := 11) w dX4_recordAll_10 rfl rfl ?_
      refine m_getR (pc2 := 14) (ci := 4) (k := 2) (j2 := 4) w dX4_recordAll_11 rfl rfl rfl rfl rfl rfl ?_
      refine s_iload_n (pc2 := 15) w dX4_recordAll_14 rfl rfl ?_
      refine m_aaloadN (pc2 := 16) (t := m) (kd := 26) (j2 := (2 * m + 28)) (N := 8) w dX4_recordAll_15 rfl rfl rfl rfl rfl rfl (by omega) rfl (by show 4 + (24 + 2 * m) = 2 * m + 28; omega) ?_
      refine s_astore_n (pc2 := 17) (k2 := 3) w dX4_recordAll_16 rfl rfl rfl ?_
      dsimp only [gk_s1, gk_s2, gk_cl]
      refine s_aload_n (pc2 := 18) w dX4_recordAll_17 rfl rfl ?_
      refine s_aload_n (pc2 := 19) w dX4_recordAll_18 rfl rfl ?_
      refine m_getR (pc2 := 22) (ci := 1) (k := 0) (j2 := (2 * m + 29)) w dX4_recordAll_19 rfl rfl (by first | exact j1 | exact j2) rfl rfl rfl ?_
      refine r_X4_recordNoise (pc2 := 25) w dX4_recordAll_22 rfl rfl rfl (by first | exact j1 | exact j2) j3 (c9 _ hsm) w0.2.2.2.2.1 ((hyy 1 10 (by decide)).trans (gk_uy_in _ _ _ _)) (gk_rs_b w0 m) ?_
      refine s_iconst (pc2 := 26) (v := gI 0) w dX4_recordAll_25 rfl rfl ?_
      refine s_istore (pc2 := 28) w dX4_recordAll_26 rfl rfl ?_
      dsimp only [gk_s1, gk_s2, gk_cl]
      have e0 : gk_ur (gk_cr x g m) (2 * m + 29) (fun k => gI (if gz g 4 = 0 then 0 else gk_no (gz g 4) (gk_rs g m) k)) 256 = gk_ur (gk_cr x g m) (2 * m + 29) (fun k => gI (gk_no2 g m k + gk_sm g m 0 k)) 256 := gk_ur_cg _ _ _ (fun k _ => by show _ = gI (gk_no2 g m k + 0); rw [Int.add_zero]; rfl)
      rw [e0]
      refine src m hm (fun yy hyy => ?_) (nS g) 0 (by omega) _ (fun i k h1 => ?_)
      · refine s_iinc (pc2 := 74) w dX4_recordAll_71 rfl rfl rfl rfl ?_
        dsimp only [gk_s1, gk_s2, gk_cl]
        rw [nI_s]
        refine s_goto (tgt := 2) w dX4_recordAll_74 (by decide) ?_
        exact ih (m + 1) (some (.ref (2 * m + 28))) _ (by omega) yy hyy
      · by_cases hz : gz g 4 = 0
        · rw [if_pos hz, hyy i k h1]
          unfold gk_rs
          rw [if_pos hz, if_pos hz]
        · have er : gk_rs g (m + 1) = gk_rn (gk_rs g m) 256 := by unfold gk_rs; rw [if_neg hz, if_neg hz, gk_rn_add]; congr 1
          rw [if_neg hz, er]
          unfold gk_uy
          by_cases h3 : i = 1 ∧ k = 10
          · rw [if_pos h3, if_pos h3]
          · rw [if_neg h3, if_neg h3, hyy i k h1]
            exact if_neg h3
  refine s_iconst (pc2 := 1) (v := gI 0) w dX4_recordAll_0 rfl rfl ?_
  refine s_istore_n (pc2 := 2) (k2 := 2) w dX4_recordAll_1 rfl rfl rfl ?_
  dsimp only [gk_s1, gk_s2, gk_cl]
  have h := key (nM g) 0 none none (by omega) y (fun i k _ => by rw [show gk_rs g 0 = gz g 3 by unfold gk_rs; split <;> rfl, gk_uy_self hp2])
  rw [gk_cr_0] at h
  exact h
theorem lk_X4_recordAll {l : Launch} (hl : l.stackTraces = false) : ∀ q ∈ L_X4_recordAll, (q.2.1 < 5 → gk_Lk l RX4 gk_W1 4 q.1 q.2.1 q.2.2.1 q.2.2.2.1 q.2.2.2.2.1 q.2.2.2.2.2) := (List.forall_mem_cons.mpr ⟨(fun _ => ⟨yX4_recordNoise, cX4_recordNoise, 3, none, 1, _, M_X4_recordNoise hl, ⟨by decide, by decide⟩, ⟨by decide, by decide, by decide +kernel⟩, ⟨(gk_wm 446 (by decide +kernel)), (gk_wm 90 (by decide +kernel))⟩, Or.inr (Or.inr (Or.inr (Or.inl ⟨rfl, rfl, (gk_wm 445 (by decide +kernel)), (gk_wm 0 (by decide +kernel)), gk_wm 443 (by decide +kernel), by decide, rfl⟩)))⟩), (List.forall_mem_cons.mpr ⟨(fun _ => ⟨yX4_recordPath, cX4_recordPath, 9, none, 3, _, M_X4_recordPath hl, ⟨by decide, by decide⟩, ⟨by decide, by decide, by decide +kernel⟩, ⟨(gk_wm 458 (by decide +kernel)), (gk_wm 90 (by decide +kernel))⟩, Or.inr (Or.inr (Or.inr (Or.inl ⟨rfl, rfl, (gk_wm 457 (by decide +kernel)), (gk_wm 2 (by decide +kernel)), gk_wm 455 (by decide +kernel), by decide, rfl⟩)))⟩), (fun _ h => absurd h List.not_mem_nil)⟩)⟩)
theorem sp_X4_recordAll : ∀ q ∈ L_X4_recordAll, gk_Sq RX4 gk_W1 4 q := (List.forall_mem_cons.mpr ⟨⟨fun h => absurd h (by decide), fun h => absurd h (by decide), fun h => absurd h (by decide), fun h => absurd h (by decide), fun h => absurd h (by decide), fun h => absurd h (by decide)⟩, (List.forall_mem_cons.mpr ⟨⟨fun h => absurd h (by decide), fun h => absurd h (by decide), fun h => absurd h (by decide), fun h => absurd h (by decide), fun h => absurd h (by decide), fun h => absurd h (by decide)⟩, (fun _ h => absurd h List.not_mem_nil)⟩)⟩)
theorem M_X4_recordAll {l : Launch} (hl : l.stackTraces = false) : gk_Mt l yX4_recordAll (.code yX4_recordAll cX4_recordAll 5 none :: gk_W1) 4 0 S_X4_recordAll := gk_meth hl gk_cw_ok (by decide +kernel) rfl m_X4_recordAll pX4_ok (gk_Sp_of sp_X4_recordAll) pX4_st (fun ci m S h => absurd h (by intro h; cases h)) (xf_X4 4) (fun idx kd ci mm cost S2 h h5 => lk_X4_recordAll hl _ (gk_lk_mem h) h5)

end GKV

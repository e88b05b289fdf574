/-! THE METHODS, 26: the class, beams for a place -/
section GKV
variable {c : ByteArray} {P : gk_C} {cs : Nat → Option gk_M0} {rt : Option FieldType} {uf : Nat} {sc : Option Nat} {K : gk_K} {V : gk_V}
variable {L : List (Option Value)} {r : List Value} {n : Nat} {fl : gk_F} {x : gk_X} {y : gk_Y} {u pc pc2 : Nat}
/-- a scene block says g -/
def RS (b : Nat) (g : Nat → Int32) (x : gk_X) (y : gk_Y) : Prop := rs0 b g x ∧ rsr b g y ∧ rsv b g x ∧ rss b g x ∧ rsm b g x ∧ rsq b g x ∧ rsf b g x
theorem RS.cg {b : Nat} {g : Nat → Int32} {x x2 : gk_X} {y y2 : gk_Y} (hw : gWf g) (hx : ∀ i k, b ≤ i → i < b + 43 → x2 i k = x i k) (hy : ∀ k, y2 b k = y b k) (h : RS b g x y) : RS b g x2 y2 := by
  obtain ⟨h1, h2, h3, h4, h5, h6, h7⟩ := h
  have w0 := hw.1
  unfold wf0 at w0
  refine ⟨rs0_cg (fun k => hx b k (Nat.le_refl b) (by omega)) h1, (hy 10).trans h2, fun v hv => ?_, fun a ha => ?_, fun m hm => ?_, fun m hm k hk => ?_, ?_⟩
  · have : v < 4 := by unfold nV at hv; omega
    rw [hx _ _ (by omega) (by omega), hx _ _ (by omega) (by omega), hx _ _ (by omega) (by omega)]
    exact h3 v hv
  · have : a < 6 := by unfold nS at ha; omega
    rw [hx (3 * a + (b + 9)) 2 (by omega) (by omega), hx (3 * a + (b + 9)) 3 (by omega) (by omega), hx (3 * a + (b + 10)) 0 (by omega) (by omega), hx (3 * a + (b + 10)) 1 (by omega) (by omega), hx (3 * a + (b + 10)) 2 (by omega) (by omega), hx (3 * a + (b + 10)) 3 (by omega) (by omega)]
    exact ⟨(h4 a ha).1, (h4 a ha).2.1, fun k hk => (hx _ _ (by omega) (by omega)).trans ((h4 a ha).2.2 k hk)⟩
  · have : m < 8 := by unfold nM at hm; omega
    rw [hx _ _ (by omega) (by omega), hx _ _ (by omega) (by omega), hx _ _ (by omega) (by omega), hx _ _ (by omega) (by omega)]
    exact h5 m hm
  · have : m < 8 := by unfold nM at hm; omega
    rw [hx _ _ (by omega) (by omega)]
    exact h6 m hm k hk
  · unfold rsf
    rw [hx _ _ (by omega) (by omega), hx _ _ (by omega) (by omega), hx _ _ (by omega) (by omega), hx _ _ (by omega) (by omega)]
    exact h7
theorem bb_db {g : Nat → Int32} (h : g 10 = 2) (B : Int) (k : Nat) : ∀ n, gk_bb g B n k = gk_db g (gz g 12 + B) n k
  | 0 => rfl
  | n + 1 => by
    show gk_bb g B n k + _ * gk_pp g n B k = gk_db g (gz g 12 + B) n k + _ * _
    rw [bb_db h B k n]
    unfold gk_pp
    rw [if_pos h]
theorem dir_b {g : Nat → Int32} (hw : gWf g) (h : g 10 = 2) : -100 ≤ gz g 12 ∧ gz g 12 ≤ 100 := by
  rcases hw.2.2.2.2 with ⟨e, -⟩ | ⟨e, -⟩ | ⟨-, e⟩
  · rw [h] at e; exact absurd e (by decide)
  · rw [h] at e; exact absurd e (by decide)
  · exact e
theorem ly_PLk {y : gk_Y} {p q : Nat} {A S B A2 S2 B2 : Int} (h : p ≠ q) (h2 : gk_PL y p A S B) : gk_PL (gk_ly y q A2 S2 B2) p A S B := ⟨(gk_ly_ne h).trans h2.1, (gk_ly_ne h).trans h2.2.1, (gk_ly_ne h).trans h2.2.2⟩
/-- the sample number of the focus -/
def gk_sn (g : Nat → Int32) (m k : Nat) : Int32 := if g 10 = 2 then nI k + gI (gk_sh g m (gz g 12)) else gI (fN g m 0 k)
def S_X0_takePlaceParts : gk_S := fun as n fl x y K => ∃ (mc : Nat) (b : Int32) (f : Int32) (l : Int32) (g : Nat → Int32) (m : Nat) (B : Int) (a : Nat) (e : Nat), as = [.ref 90, .ref 1, .ref mc, .int b, .int f, .int l] ∧ (n = 202 ∧ fl = gk_fT) ∧ gk_kd mc = 1 ∧ (RS 1 g x y) ∧ (gWf g) ∧ (gWr g) ∧ (¬ g 10 = 2) ∧ (mc = 2 * m + 28) ∧ (m < nM g) ∧ (b = gI B) ∧ (-2000 ≤ B ∧ B ≤ 2000) ∧ (f = nI a) ∧ (l = nI e) ∧ (a ≤ e) ∧ (e < 256) ∧ (∀ (x2 : gk_X) (y2 : gk_Y), (∀ i k, i ≠ 92 → x2 i k = x i k) → (∀ k, a ≤ k → k ≤ e → x2 92 k = gI (gk_pt g m B k)) → (∀ i k, i ≠ 93 → i ≠ 94 → y2 i k = y i k) → K (.inl none) n fl x2 y2)
theorem r_X0_takePlaceParts (w : gk_W c P cs (fun _ _ => none) rt uf sc K V) {idx : Nat} {mc : Nat} {b : Int32} {f : Int32} {l : Int32} {g : Nat → Int32} {m : Nat} {B : Int} {a : Nat} {e : Nat} (hd : decode c pc = .ok (.invokevirtual idx, 3)) (hp : pc + 3 = pc2) (hc : cs idx = some (1, 0, 6, 0, S_X0_takePlaceParts)) (h8 : Nat.ble (r.map Value.category).sum 8 = true) (hk0 : gk_kd mc = 1) (hp0 : RS 1 g x y) (hp1 : gWf g) (hp2 : gWr g) (hp3 : ¬ g 10 = 2) (hp4 : mc = 2 * m + 28) (hp5 : m < nM g) (hp6 : b = gI B) (hp7 : -2000 ≤ B ∧ B ≤ 2000) (hp8 : f = nI a) (hp9 : l = nI e) (hp10 : a ≤ e) (hp11 : e < 256) (kk0 : ∀ (x2 : gk_X) (y2 : gk_Y), (∀ i k, i ≠ 92 → x2 i k = x i k) → (∀ k, a ≤ k → k ≤ e → x2 92 k = gI (gk_pt g m B k)) → (∀ i k, i ≠ 93 → i ≠ 94 → y2 i k = y i k) → V pc2 L r 202 gk_fT x2 y2 u) : V pc L (.int l :: .int f :: .int b :: .ref mc :: .ref 1 :: .ref 90 :: r) 202 gk_fT x y u :=
  g_callv w hd hp hc (as := [.ref 90, .ref 1, .ref mc, .int b, .int f, .int l]) rfl h8 rfl rfl rfl (Or.inr (Or.inl ⟨Or.inl rfl, _, _, rfl, (gk_kd_j rfl rfl), rfl⟩)) (Or.inl rfl) ⟨mc, b, f, l, g, m, B, a, e, rfl, ⟨rfl, rfl⟩, hk0, hp0, hp1, hp2, hp3, hp4, hp5, hp6, hp7, hp8, hp9, hp10, hp11, kk0⟩
def L_X0_takePlaceParts : List (Nat × gk_M0) := [(79, (1, 2, 5, 0, S_X2_lay)), (86, (1, 2, 3, 0, S_X2_sampleAt)), (93, (0, 9, 2, 0, S_X10_elementAt)), (108, (1, 0, 4, 0, S_X0_takeCutParts))]
def cs_X0_takePlaceParts : Nat → Option gk_M0 := gk_lk L_X0_takePlaceParts
theorem m_X0_takePlaceParts : ∀ (as : List Value) (n : Nat) (fl : gk_F) (x : gk_X) (y : gk_Y) (K : gk_K), S_X0_takePlaceParts as n fl x y K → (gk_L0 as).length ≤ 7 ∧ ∀ V : gk_V, gk_W cX0_takePlaceParts pX0 cs_X0_takePlaceParts (fun _ _ => none) none 0 none K V → V 0 (gk_en as 7) [] n fl x y 0 := by
  intro as n fl x y K hS
  obtain ⟨mc, b, f, l, g, m, B, a, e, rfl, ⟨rfl, rfl⟩, hk0, hp0, hp1, hp2, hp3, hp4, hp5, hp6, hp7, hp8, hp9, hp10, hp11, q0⟩ := hS
  refine ⟨Nat.le_of_ble_eq_true rfl, fun V w => ?_⟩
  show V 0 [some (.ref 90), some (.ref 1), some (.ref mc), some (.int b), some (.int f), some (.int l), none] [] 202 gk_fT x y 0
  subst hp4 hp6 hp8 hp9
  obtain ⟨z0, zr, zv, zs, zm, zq, zf⟩ := hp0
  obtain ⟨k1, k2, k3, k4, k5, h8, hpb⟩ := wf_focus hp1 hp3 hp5 hp7
  have hcc := hp1.1.1
  obtain ⟨j1, j2, j3⟩ := kd_m h8
  have e7 : x 1 7 = gI (gz g 0) := z0.2.1.trans (gz_I g 0)
  have e15 : x 1 15 = g 5 := z0.2.2.2.2.2.2.1
  have hpp := rs_focus (b := 1) hp1 hp3 zf
  have hmp := rs_MP hp1 zm hp5
  have hP1 : gk_PL (gk_ly y 93 (fA g m B) (fS g) (fBe g m false)) 93 (fA g m B) (fS g) (fBe g m false) := gk_ly_PL _ _ _ _ _
  have hP2 : gk_PL (gk_ly (gk_ly y 93 (fA g m B) (fS g) (fBe g m false)) 94 (fA g m B) (fS g) (fBe g m true)) 93 (fA g m B) (fS g) (fBe g m false) := ly_PLk (by decide) hP1
  have hP3 : gk_PL (gk_ly (gk_ly y 93 (fA g m B) (fS g) (fBe g m false)) 94 (fA g m B) (fS g) (fBe g m true)) 94 (fA g m B) (fS g) (fBe g m true) := gk_ly_PL _ _ _ _ _
  have lp : ¬ g 5 = 1 → V 51 [some (.ref 90), some (.ref 1), some (.ref (2 * m + 28)), some (.int (gI B)), some (.int (nI a)), some (.int (nI e)), some (.int (nI (a + 0)))] [] 202 gk_fT x (gk_ly y 93 (fA g m B) (fS g) (fBe g m false)) 0 := by
    intro h5
    have key : ∀ (k n : Nat), a + n + k = e + 1 → V 51 [some (.ref 90), some (.ref 1), some (.ref (2 * m + 28)), some (.int (gI B)), some (.int (nI a)), some (.int (nI e)), some (.int (nI (a + n)))] [] 202 gk_fT (gk_rg x 92 a n (fun k => gI (gk_pt g m B (a + k)))) (gk_ly y 93 (fA g m B) (fS g) (fBe g m false)) 0 := by
      intro k
      induction k with
      | zero =>
        intro n ht
        obtain rfl : n = e + 1 - a := by omega
        refine s_iload (pc2 := 53) w dX0_takePlaceParts_51 rfl rfl ?_
        refine s_iload (pc2 := 55) w dX0_takePlaceParts_53 rfl rfl ?_
        refine s_ic_gt (pc2 := 58) (tgt := 91) w dX0_takePlaceParts_55 rfl (by decide) (fun _ => ?_) (fun h0 => absurd (by rw [gI_nI, gI_nI, gI_lt ⟨by omega, by omega⟩ ⟨by omega, by omega⟩]; omega) h0)
        refine s_return w dX0_takePlaceParts_91 rfl ?_
        exact q0 _ _ (fun i k h => gk_rg_ne (fun h9 => h h9.1)) (fun k h1 h2 => by obtain ⟨d, rfl⟩ : ∃ d, k = a + d := ⟨k - a, by omega⟩; exact gk_rg_in (by omega)) (fun i k h1 h2 => gk_ly_ne h1)
      | succ k ih =>
        intro n ht
        refine s_iload (pc2 := 53) w dX0_takePlaceParts_51 rfl rfl ?_
        refine s_iload (pc2 := 55) w dX0_takePlaceParts_53 rfl rfl ?_
        refine s_ic_gt (pc2 := 58) (tgt := 91) w dX0_takePlaceParts_55 rfl (by decide) (fun h0 => absurd h0 (by rw [gI_nI, gI_nI, gI_lt ⟨by omega, by omega⟩ ⟨by omega, by omega⟩]; omega)) (fun _ => ?_)
        refine s_aload_n (pc2 := 59) w dX0_takePlaceParts_58 rfl rfl ?_
        refine m_getR (pc2 := 62) (ci := 0) (k := 1) (j2 := 92) w dX0_takePlaceParts_59 rfl rfl rfl rfl rfl rfl ?_
        refine s_iload (pc2 := 64) w dX0_takePlaceParts_62 rfl rfl ?_
        refine s_aload_n (pc2 := 65) w dX0_takePlaceParts_64 rfl rfl ?_
        refine m_getR (pc2 := 68) (ci := 1) (k := 0) (j2 := (2 * m + 29)) w dX0_takePlaceParts_65 rfl rfl (by first | exact j2 | exact j1) rfl rfl rfl ?_
        refine s_aload_n (pc2 := 69) w dX0_takePlaceParts_68 rfl rfl ?_
        refine m_getR (pc2 := 72) (ci := 0) (k := 2) (j2 := 93) w dX0_takePlaceParts_69 rfl rfl rfl rfl rfl rfl ?_
        refine s_iload (pc2 := 74) w dX0_takePlaceParts_72 rfl rfl ?_
        refine s_aload_n (pc2 := 75) w dX0_takePlaceParts_74 rfl rfl ?_
        refine m_getI (pc2 := 78) (ci := 4) (k := 7) w dX0_takePlaceParts_75 rfl rfl rfl rfl rfl ?_
        refine r_X2_sampleAt (pc2 := 81) (tt := ((a + n : Nat) : Int)) w dX0_takePlaceParts_78 rfl rfl rfl rfl hP1 (hpb false) rfl (by omega) ((gk_rg_ne (by omega)).trans e7) hcc ?_
        show V _ _ (.int (gI (fN g m B (a + n))) :: _) _ _ _ _ _
        refine r_X10_elementAt (pc2 := 84) w dX0_takePlaceParts_81 rfl rfl rfl j2 j3 rfl ?_
        have er : gk_at (gk_rg x 92 a n (fun k => gI (gk_pt g m B (a + k))) (2 * m + 29)) (gI (fN g m B (a + n))) = gI (rcI g m (fN g m B (a + n))) := by
          rw [gk_at_cg (fun k hk => (gk_rg_ne (show ¬ (2 * m + 29 = 92 ∧ _) by omega)).trans (zq m hp5 k hk))]
          exact (gI_self _).symm
        have e9 : gk_pt g m B (a + n) = rcI g m (fN g m B (a + n)) := by rw [gk_pt_s, if_neg (fun h => h5 h.1), Int.sub_zero]
        rw [gk_at_e, er, ← e9]
        refine m_iastoreN (pc2 := 85) (t := a + n) (N := 256) w dX0_takePlaceParts_84 rfl rfl rfl rfl (by omega) rfl ?_
        refine s_iinc (pc2 := 88) w dX0_takePlaceParts_85 rfl rfl rfl rfl ?_
        dsimp only [gk_s1, gk_s2, gk_cl]
        rw [nI_s]
        refine s_goto (tgt := 51) w dX0_takePlaceParts_88 (by decide) ?_
        have h := ih (n + 1) (by omega)
        rw [← gk_rg_s] at h
        exact h
    have h := key (e + 1 - a) 0 (by omega)
    rw [gk_rg_0] at h
    exact h
  refine s_aload_n (pc2 := 1) w dX0_takePlaceParts_0 rfl rfl ?_
  refine m_getR (pc2 := 4) (ci := 0) (k := 2) (j2 := 93) w dX0_takePlaceParts_1 rfl rfl rfl rfl rfl rfl ?_
  refine s_aload_n (pc2 := 5) w dX0_takePlaceParts_4 rfl rfl ?_
  refine m_getR (pc2 := 8) (ci := 4) (k := 3) (j2 := 5) w dX0_takePlaceParts_5 rfl rfl rfl rfl rfl rfl ?_
  refine s_iload_n (pc2 := 9) w dX0_takePlaceParts_8 rfl rfl ?_
  refine s_aload_n (pc2 := 10) w dX0_takePlaceParts_9 rfl rfl ?_
  refine s_iconst (pc2 := 11) (v := gI 0) w dX0_takePlaceParts_10 rfl rfl ?_
  refine r_X2_lay (pc2 := 14) (rf := false) w dX0_takePlaceParts_11 rfl rfl rfl rfl rfl (by first | exact j2 | exact j1) hpp hmp rfl hp7 (show (gI 0 : Int32) = if false then 1 else 0 from rfl) ?_
  rw [fA_e]
  show V _ _ _ _ _ _ (gk_ly y 93 (fA g m B) (fS g) (fBe g m false)) _
  refine s_aload_n (pc2 := 15) w dX0_takePlaceParts_14 rfl rfl ?_
  refine m_getI (pc2 := 18) (ci := 4) (k := 15) w dX0_takePlaceParts_15 rfl rfl rfl rfl rfl ?_
  refine s_if_eq (pc2 := 21) (tgt := 47) w dX0_takePlaceParts_18 rfl (by decide) (fun c18 => ?_) (fun c18 => ?_)
  · refine s_iload (pc2 := 49) w dX0_takePlaceParts_47 rfl rfl ?_
    refine s_istore (pc2 := 51) w dX0_takePlaceParts_49 rfl rfl ?_
    dsimp only [gk_s1, gk_s2, gk_cl]
    exact lp (fun h => by rw [e15, h] at c18; exact absurd c18 (by decide))
  · refine s_aload_n (pc2 := 22) w dX0_takePlaceParts_21 rfl rfl ?_
    refine m_getR (pc2 := 25) (ci := 0) (k := 3) (j2 := 94) w dX0_takePlaceParts_22 rfl rfl rfl rfl rfl rfl ?_
    refine s_aload_n (pc2 := 26) w dX0_takePlaceParts_25 rfl rfl ?_
    refine m_getR (pc2 := 29) (ci := 4) (k := 3) (j2 := 5) w dX0_takePlaceParts_26 rfl rfl rfl rfl rfl rfl ?_
    refine s_iload_n (pc2 := 30) w dX0_takePlaceParts_29 rfl rfl ?_
    refine s_aload_n (pc2 := 31) w dX0_takePlaceParts_30 rfl rfl ?_
    refine s_iconst (pc2 := 32) (v := gI 1) w dX0_takePlaceParts_31 rfl rfl ?_
    refine r_X2_lay (pc2 := 35) (rf := true) w dX0_takePlaceParts_32 rfl rfl rfl rfl rfl (by first | exact j2 | exact j1) hpp hmp rfl hp7 (show (gI 1 : Int32) = if true then 1 else 0 from rfl) ?_
    rw [fA_e]
    show V _ _ _ _ _ _ (gk_ly (gk_ly y 93 (fA g m B) (fS g) (fBe g m false)) 94 (fA g m B) (fS g) (fBe g m true)) _
    refine s_aload_n (pc2 := 36) w dX0_takePlaceParts_35 rfl rfl ?_
    refine s_aload_n (pc2 := 37) w dX0_takePlaceParts_36 rfl rfl ?_
    refine s_aload_n (pc2 := 38) w dX0_takePlaceParts_37 rfl rfl ?_
    refine m_getR (pc2 := 41) (ci := 1) (k := 0) (j2 := (2 * m + 29)) w dX0_takePlaceParts_38 rfl rfl (by first | exact j2 | exact j1) rfl rfl rfl ?_
    refine s_iload (pc2 := 43) w dX0_takePlaceParts_41 rfl rfl ?_
    refine r_X0_takeCutParts (pc2 := 46) w dX0_takePlaceParts_43 rfl rfl rfl (by first | exact j2 | exact j1) z0 hp1 hp2 hp3 hp5 hp7 hP2 hP3 rfl (zq m hp5) (hp1.1.2.2.2.2.2.1.resolve_left (fun h => c18 (e15.trans h))) rfl hp11 ?_
    refine s_return w dX0_takePlaceParts_46 rfl ?_
    exact q0 _ _ (fun i k h => gk_ur_ne h) (fun k h1 h2 => gk_ur_in (by omega)) (fun i k h1 h2 => (gk_ly_ne h2).trans (gk_ly_ne h1))
theorem lk_X0_takePlaceParts {l : Launch} (hl : l.stackTraces = false) : ∀ q ∈ L_X0_takePlaceParts, (q.2.1 < 5 → gk_Lk l RX0 gk_W1 4 q.1 q.2.1 q.2.2.1 q.2.2.2.1 q.2.2.2.2.1 q.2.2.2.2.2) := (List.forall_mem_cons.mpr ⟨(fun _ => ⟨yX2_lay, cX2_lay, 11, none, 0, _, M_X2_lay hl, ⟨by decide, by decide⟩, ⟨by decide, by decide, by decide +kernel⟩, ⟨(gk_wm 462 (by decide +kernel)), (gk_wm 94 (by decide +kernel))⟩, Or.inr (Or.inr (Or.inr (Or.inl ⟨rfl, rfl, (gk_wm 460 (by decide +kernel)), (gk_wm 461 (by decide +kernel)), gk_wm 1082 (by decide +kernel), by decide, rfl⟩)))⟩), (List.forall_mem_cons.mpr ⟨(fun _ => ⟨yX2_sampleAt, cX2_sampleAt, 3, (some .int), 2, _, M_X2_sampleAt hl, ⟨by decide, by decide⟩, ⟨by decide, by decide, by decide +kernel⟩, ⟨(gk_wm 1086 (by decide +kernel)), (gk_wm 94 (by decide +kernel))⟩, Or.inr (Or.inr (Or.inr (Or.inl ⟨rfl, rfl, (gk_wm 1084 (by decide +kernel)), (gk_wm 1085 (by decide +kernel)), gk_wm 1083 (by decide +kernel), by decide, rfl⟩)))⟩), (List.forall_mem_cons.mpr ⟨(fun _ => ⟨yX10_elementAt, cX10_elementAt, 2, (some .int), 0, _, M_X10_elementAt hl, ⟨by decide, by decide⟩, ⟨by decide, by decide, by decide +kernel⟩, ⟨(gk_wm 481 (by decide +kernel)), (gk_wm 89 (by decide +kernel))⟩, Or.inr (Or.inl ⟨rfl, rfl, (gk_wm 480 (by decide +kernel)), ⟨_, gk_nsm 17 rfl⟩, nt_X10_elementAt⟩)⟩), (List.forall_mem_cons.mpr ⟨(fun _ => ⟨yX0_takeCutParts, cX0_takeCutParts, 9, none, 3, _, M_X0_takeCutParts hl, ⟨by decide, by decide⟩, ⟨by decide, by decide, by decide +kernel⟩, ⟨(gk_wm 1111 (by decide +kernel)), (gk_wm 95 (by decide +kernel))⟩, Or.inr (Or.inr (Or.inr (Or.inl ⟨rfl, rfl, (gk_wm 1110 (by decide +kernel)), (gk_wm 27 (by decide +kernel)), gk_wm 1108 (by decide +kernel), by decide, rfl⟩)))⟩), (fun _ h => absurd h List.not_mem_nil)⟩)⟩)⟩)⟩)
theorem sp_X0_takePlaceParts : ∀ q ∈ L_X0_takePlaceParts, gk_Sq RX0 gk_W1 4 q := (List.forall_mem_cons.mpr ⟨⟨fun h => absurd h (by decide), fun h => absurd h (by decide), fun h => absurd h (by decide), fun h => absurd h (by decide), fun h => absurd h (by decide), fun h => absurd h (by decide)⟩, (List.forall_mem_cons.mpr ⟨⟨fun h => absurd h (by decide), fun h => absurd h (by decide), fun h => absurd h (by decide), fun h => absurd h (by decide), fun h => absurd h (by decide), fun h => absurd h (by decide)⟩, (List.forall_mem_cons.mpr ⟨⟨fun h => absurd h (by decide), fun h => absurd h (by decide), fun h => absurd h (by decide), fun h => absurd h (by decide), fun h => absurd h (by decide), fun h => absurd h (by decide)⟩, (List.forall_mem_cons.mpr ⟨⟨fun h => absurd h (by decide), fun h => absurd h (by decide), fun h => absurd h (by decide), fun h => absurd h (by decide), fun h => absurd h (by decide), fun h => absurd h (by decide)⟩, (fun _ h => absurd h List.not_mem_nil)⟩)⟩)⟩)⟩)
theorem M_X0_takePlaceParts {l : Launch} (hl : l.stackTraces = false) : gk_Mt l yX0_takePlaceParts (.code yX0_takePlaceParts cX0_takePlaceParts 7 none :: gk_W1) 4 0 S_X0_takePlaceParts := gk_meth hl gk_cw_ok (by decide +kernel) rfl m_X0_takePlaceParts pX0_ok (gk_Sp_of sp_X0_takePlaceParts) pX0_st (fun ci m S h => absurd h (by intro h; cases h)) (xf_X0 4) (fun idx kd ci mm cost S2 h h5 => lk_X0_takePlaceParts hl _ (gk_lk_mem h) h5)

def S_X0_formBeam : gk_S := fun as n fl x y K => ∃ (b : Int32) (f : Int32) (l : Int32) (g : Nat → Int32) (B : Int) (a : Nat) (e : Nat), as = [.ref 90, .ref 1, .int b, .int f, .int l] ∧ (n = 202 ∧ fl = gk_fT) ∧ (RS 1 g x y) ∧ (gWf g) ∧ (gWr g) ∧ (b = gI B) ∧ (-2000 ≤ B ∧ B ≤ 2000) ∧ (f = nI a) ∧ (l = nI e) ∧ (a ≤ e) ∧ (e < 256) ∧ (∀ (x2 : gk_X) (y2 : gk_Y), (∀ i k, i ≠ 92 → x2 i k = gk_ur x 91 (fun k => if a ≤ k ∧ k ≤ e then gk_bb g B (nM g) k else 0) 256 i k) → (∀ i k, i ≠ 93 → i ≠ 94 → y2 i k = y i k) → K (.inl (some (.ref 91))) n fl x2 y2)
theorem r_X0_formBeam (w : gk_W c P cs (fun _ _ => none) rt uf sc K V) {idx : Nat} {b : Int32} {f : Int32} {l : Int32} {g : Nat → Int32} {B : Int} {a : Nat} {e : Nat} (hd : decode c pc = .ok (.invokevirtual idx, 3)) (hp : pc + 3 = pc2) (hc : cs idx = some (1, 0, 5, 0, S_X0_formBeam)) (h8 : Nat.ble (r.map Value.category).sum 8 = true) (hp0 : RS 1 g x y) (hp1 : gWf g) (hp2 : gWr g) (hp3 : b = gI B) (hp4 : -2000 ≤ B ∧ B ≤ 2000) (hp5 : f = nI a) (hp6 : l = nI e) (hp7 : a ≤ e) (hp8 : e < 256) (kk0 : ∀ (x2 : gk_X) (y2 : gk_Y), (∀ i k, i ≠ 92 → x2 i k = gk_ur x 91 (fun k => if a ≤ k ∧ k ≤ e then gk_bb g B (nM g) k else 0) 256 i k) → (∀ i k, i ≠ 93 → i ≠ 94 → y2 i k = y i k) → V pc2 L ((.ref 91) :: r) 202 gk_fT x2 y2 u) : V pc L (.int l :: .int f :: .int b :: .ref 1 :: .ref 90 :: r) 202 gk_fT x y u :=
  g_callv w hd hp hc (as := [.ref 90, .ref 1, .int b, .int f, .int l]) rfl h8 rfl rfl rfl (Or.inr (Or.inl ⟨Or.inl rfl, _, _, rfl, (gk_kd_j rfl rfl), rfl⟩)) (Or.inl rfl) ⟨b, f, l, g, B, a, e, rfl, ⟨rfl, rfl⟩, hp0, hp1, hp2, hp3, hp4, hp5, hp6, hp7, hp8, kk0⟩
def L_X0_formBeam : List (Nat × gk_M0) := [(38, (1, 0, 5, 0, S_X0_formDirectionBeam)), (42, (0, 0, 2, 0, S_J7_fill_53178)), (55, (1, 0, 6, 0, S_X0_takePlaceParts)), (64, (1, 0, 4, 0, S_X0_addParts))]
def cs_X0_formBeam : Nat → Option gk_M0 := gk_lk L_X0_formBeam
theorem m_X0_formBeam : ∀ (as : List Value) (n : Nat) (fl : gk_F) (x : gk_X) (y : gk_Y) (K : gk_K), S_X0_formBeam as n fl x y K → (gk_L0 as).length ≤ 7 ∧ ∀ V : gk_V, gk_W cX0_formBeam pX0 cs_X0_formBeam (fun _ _ => none) (some (.array .int)) 0 none K V → V 0 (gk_en as 7) [] n fl x y 0 := by
  intro as n fl x y K hS
  obtain ⟨b, f, l, g, B, a, e, rfl, ⟨rfl, rfl⟩, hp0, hp1, hp2, hp3, hp4, hp5, hp6, hp7, hp8, q0⟩ := hS
  refine ⟨Nat.le_of_ble_eq_true rfl, fun V w => ?_⟩
  show V 0 [some (.ref 90), some (.ref 1), some (.int b), some (.int f), some (.int l), none, none] [] 202 gk_fT x y 0
  subst hp3 hp5 hp6
  have z0 := hp0.1
  have n8 : gz g 8 = (nM g : Int) := by unfold nM; have := hp1.1; unfold wf0 at this; omega
  have n8l : nM g ≤ 8 := by have := hp1.1; unfold wf0 at this; omega
  have e13 : x 1 13 = (if g 10 = 2 then 1 else 0) := z0.2.2.2.2.2.2.2.1
  have lo : ∀ (m : Nat) (xm : gk_X), (∀ i k, i ≠ 92 → xm i k = (gk_ur x 91 (fun k => if a ≤ k ∧ k ≤ e then gk_bb g B (m) k else 0) 256) i k) → ∀ i k, i < 44 → xm i k = x i k := fun m xm h i k hi => (h i k (by omega)).trans (gk_ur_ne (by omega))
  have key : ¬ g 10 = 2 → ∀ (k m : Nat) (l6 : Option Value), m + k = nM g → ∀ (xm : gk_X) (ym : gk_Y), (∀ i k, i ≠ 92 → xm i k = (gk_ur x 91 (fun k => if a ≤ k ∧ k ≤ e then gk_bb g B (m) k else 0) 256) i k) → (∀ i k, i ≠ 93 → i ≠ 94 → ym i k = y i k) → V 33 [some (.ref 90), some (.ref 1), some (.int (gI B)), some (.int (nI a)), some (.int (nI e)), some (.int (nI m)), l6] [] 202 gk_fT xm ym 0 := by
    intro h2 k
    induction k with
    | zero =>
      intro m l6 ht xm ym hxm hym
      obtain rfl : m = nM g := by omega
      refine s_iload (pc2 := 35) w dX0_formBeam_33 rfl rfl ?_
      refine s_aload_n (pc2 := 36) w dX0_formBeam_35 rfl rfl ?_
      refine m_getI (pc2 := 39) (ci := 4) (k := 6) w dX0_formBeam_36 rfl rfl rfl rfl rfl ?_
      rw [lo _ xm hxm 1 6 (by decide), z0.1.2.2, gz_I g 8, n8]
      refine s_ic_ge (pc2 := 42) (tgt := 80) w dX0_formBeam_39 rfl (by decide) (fun _ => ?_) (fun h0 => absurd ((Int32.le_refl _)) h0)
      refine s_aload_n (pc2 := 81) w dX0_formBeam_80 rfl rfl ?_
      refine m_getR (pc2 := 84) (ci := 0) (k := 0) (j2 := 91) w dX0_formBeam_81 rfl rfl rfl rfl rfl rfl ?_
      refine s_areturn w dX0_formBeam_84 rfl (Or.inr ⟨_, rfl⟩) ?_
      exact q0 xm ym hxm hym
    | succ k ih =>
      intro m l6 ht xm ym hxm hym
      have hm : m < nM g := by omega
      obtain ⟨j1, j2, j3⟩ := kd_m (show m < 8 by omega)
      have hl := lo m xm hxm
      have hRS : RS 1 g xm ym := hp0.cg hp1 (fun i k _ h => hl i k h) (fun k => hym 1 k (by decide) (by decide))
      obtain ⟨e1, e2, e3, e4⟩ := hp0.2.2.2.2.1 m hm
      refine s_iload (pc2 := 35) w dX0_formBeam_33 rfl rfl ?_
      refine s_aload_n (pc2 := 36) w dX0_formBeam_35 rfl rfl ?_
      refine m_getI (pc2 := 39) (ci := 4) (k := 6) w dX0_formBeam_36 rfl rfl rfl rfl rfl ?_
      rw [lo _ xm hxm 1 6 (by decide), z0.1.2.2, gz_I g 8, n8]
      refine s_ic_ge (pc2 := 42) (tgt := 80) w dX0_formBeam_39 rfl (by decide) (fun h0 => absurd h0 (by rw [gI_nI, gI_le ⟨by omega, by omega⟩ ⟨by omega, by omega⟩]; omega)) (fun _ => ?_)
      refine s_aload_n (pc2 := 43) w dX0_formBeam_42 rfl rfl ?_
      refine m_getR (pc2 := 46) (ci := 4) (k := 2) (j2 := 4) w dX0_formBeam_43 rfl rfl rfl rfl rfl rfl ?_
      refine s_iload (pc2 := 48) w dX0_formBeam_46 rfl rfl ?_
      refine m_aaloadN (pc2 := 49) (t := m) (kd := 26) (j2 := (2 * m + 28)) (N := 8) w dX0_formBeam_48 rfl rfl rfl rfl rfl rfl (by omega) rfl (by show 4 + (24 + 2 * m) = 2 * m + 28; omega) ?_
      refine s_astore (pc2 := 51) w dX0_formBeam_49 rfl rfl ?_
      dsimp only [gk_s1, gk_s2, gk_cl]
      refine s_aload_n (pc2 := 52) w dX0_formBeam_51 rfl rfl ?_
      refine s_aload_n (pc2 := 53) w dX0_formBeam_52 rfl rfl ?_
      refine s_aload (pc2 := 55) w dX0_formBeam_53 rfl rfl ?_
      refine s_iload_n (pc2 := 56) w dX0_formBeam_55 rfl rfl ?_
      refine s_iload_n (pc2 := 57) w dX0_formBeam_56 rfl rfl ?_
      refine s_iload (pc2 := 59) w dX0_formBeam_57 rfl rfl ?_
      refine r_X0_takePlaceParts (pc2 := 62) w dX0_formBeam_59 rfl rfl rfl j1 hRS hp1 hp2 h2 rfl hm rfl hp4 rfl rfl hp7 hp8 (fun x2 y2 hx2 hw2 hy2 => ?_)
      refine s_aload_n (pc2 := 63) w dX0_formBeam_62 rfl rfl ?_
      refine s_aload (pc2 := 65) w dX0_formBeam_63 rfl rfl ?_
      refine m_getI (pc2 := 68) (ci := 1) (k := 4) w dX0_formBeam_65 rfl rfl j1 rfl rfl ?_
      refine s_iload_n (pc2 := 69) w dX0_formBeam_68 rfl rfl ?_
      refine s_iload (pc2 := 71) w dX0_formBeam_69 rfl rfl ?_
      refine r_X0_addParts (pc2 := 74) w dX0_formBeam_71 rfl rfl rfl rfl rfl hp7 hp8 ?_
      refine s_iinc (pc2 := 77) w dX0_formBeam_74 rfl rfl rfl rfl ?_
      dsimp only [gk_s1, gk_s2, gk_cl]
      rw [nI_s]
      refine s_goto (tgt := 33) w dX0_formBeam_77 (by decide) ?_
      refine ih (m + 1) _ (by omega) _ _ (fun i k h1 => ?_) (fun i k h3 h4 => (hy2 i k h3 h4).trans (hym i k h3 h4))
      by_cases hk : i = 91 ∧ a ≤ k ∧ k < a + (e + 1 - a)
      · obtain ⟨rfl, h3, h4⟩ := hk
        obtain ⟨d, rfl⟩ : ∃ d, k = a + d := ⟨k - a, by omega⟩
        rw [gk_rg_in (by omega), gk_ur_in (by omega), if_pos (by omega)]
        show x2 91 (a + d) + x2 (2 * m + 28) 4 * x2 92 (a + d) = gk_bb g B m (a + d) + g (154 + 4 * m + 3) * gk_pp g m B (a + d)
        rw [hx2 91 _ (by decide), hx2 (2 * m + 28) _ (by omega), hw2 _ (by omega) (by omega), hxm 91 _ (by decide), gk_ur_in (by omega), if_pos (by omega), hl _ _ (by omega), e4]
        unfold gk_pp
        rw [if_neg h2]
      · rw [gk_rg_ne hk, hx2 i k h1, hxm i k h1]
        unfold gk_ur
        by_cases h5 : i = 91 ∧ k < 256
        · rw [if_pos h5, if_pos h5]
          exact (if_neg (by omega)).trans (if_neg (by omega)).symm
        · rw [if_neg h5, if_neg h5]
  refine s_aload_n (pc2 := 1) w dX0_formBeam_0 rfl rfl ?_
  refine m_getI (pc2 := 4) (ci := 4) (k := 13) w dX0_formBeam_1 rfl rfl rfl rfl rfl ?_
  refine s_if_eq (pc2 := 7) (tgt := 22) w dX0_formBeam_4 rfl (by decide) (fun c4 => ?_) (fun c4 => ?_)
  · have hn : ¬ g 10 = 2 := fun h => by rw [e13, if_pos h] at c4; exact absurd c4 (by decide)
    refine s_aload_n (pc2 := 23) w dX0_formBeam_22 rfl rfl ?_
    refine m_getR (pc2 := 26) (ci := 0) (k := 0) (j2 := 91) w dX0_formBeam_23 rfl rfl rfl rfl rfl rfl ?_
    refine s_iconst (pc2 := 27) (v := gI 0) w dX0_formBeam_26 rfl rfl ?_
    refine r_J7_fill_53178 (pc2 := 30) w dX0_formBeam_27 rfl rfl rfl rfl rfl ?_
    refine s_iconst (pc2 := 31) (v := gI 0) w dX0_formBeam_30 rfl rfl ?_
    refine s_istore (pc2 := 33) w dX0_formBeam_31 rfl rfl ?_
    dsimp only [gk_s1, gk_s2, gk_cl]
    refine key hn (nM g) 0 none (by omega) _ _ (fun i k _ => ?_) (fun _ _ _ _ => rfl)
    rw [gk_ur_cg (h := fun k => if a ≤ k ∧ k ≤ e then gk_bb g B 0 k else 0) _ _ _ (fun k _ => by show (gI 0 : Int32) = _; split <;> rfl)]
  · have hd : g 10 = 2 := Classical.byContradiction (fun h => c4 (e13.trans (if_neg h)))
    refine s_aload_n (pc2 := 8) w dX0_formBeam_7 rfl rfl ?_
    refine s_aload_n (pc2 := 9) w dX0_formBeam_8 rfl rfl ?_
    refine s_aload_n (pc2 := 10) w dX0_formBeam_9 rfl rfl ?_
    refine m_getI (pc2 := 13) (ci := 4) (k := 14) w dX0_formBeam_10 rfl rfl rfl rfl rfl ?_
    refine s_iload_n (pc2 := 14) w dX0_formBeam_13 rfl rfl ?_
    refine s_iadd (pc2 := 15) w dX0_formBeam_14 rfl ?_
    refine s_iload_n (pc2 := 16) w dX0_formBeam_15 rfl rfl ?_
    refine s_iload (pc2 := 18) w dX0_formBeam_16 rfl rfl ?_
    rw [z0.2.2.2.2.2.2.2.2 hd, gz_I g 12, gI_add]
    refine r_X0_formDirectionBeam (pc2 := 21) (D := gz g 12 + B) w dX0_formBeam_18 rfl rfl rfl hp1 z0 hp0.2.2.2.2.1 hp0.2.2.2.2.2.1 rfl (by have := dir_b hp1 hd; omega) rfl rfl hp7 hp8 (fun x2 hx2 => ?_)
    refine s_areturn w dX0_formBeam_21 rfl (Or.inr ⟨_, rfl⟩) ?_
    refine q0 x2 y (fun i k h1 => (hx2 i k h1).trans ?_) (fun _ _ _ _ => rfl)
    rw [gk_ur_cg _ _ _ (fun k _ => by rw [← bb_db hd])]
theorem lk_X0_formBeam {l : Launch} (hl : l.stackTraces = false) : ∀ q ∈ L_X0_formBeam, (q.2.1 < 5 → gk_Lk l RX0 gk_W1 5 q.1 q.2.1 q.2.2.1 q.2.2.2.1 q.2.2.2.2.1 q.2.2.2.2.2) := (List.forall_mem_cons.mpr ⟨(fun _ => ⟨yX0_formDirectionBeam, cX0_formDirectionBeam, 7, (some (.array .int)), 3, _, M_X0_formDirectionBeam hl, ⟨by decide, by decide⟩, ⟨by decide, by decide, by decide +kernel⟩, ⟨(gk_wm 1134 (by decide +kernel)), (gk_wm 95 (by decide +kernel))⟩, Or.inr (Or.inr (Or.inr (Or.inl ⟨rfl, rfl, (gk_wm 1132 (by decide +kernel)), (gk_wm 1133 (by decide +kernel)), gk_wm 1131 (by decide +kernel), by decide, rfl⟩)))⟩), (List.forall_mem_cons.mpr ⟨(fun _ => ⟨yJ7_fill_53178, cJ7_fill_53178, 4, none, 0, _, M_J7_fill_53178 hl, ⟨by decide, by decide⟩, ⟨by decide, by decide, by decide +kernel⟩, ⟨(gk_wm 645 (by decide +kernel)), (gk_wm 106 (by decide +kernel))⟩, Or.inl ⟨rfl, rfl, (gk_wm 644 (by decide +kernel)), gk_wm 1135 (by decide +kernel)⟩⟩), (List.forall_mem_cons.mpr ⟨(fun _ => ⟨yX0_takePlaceParts, cX0_takePlaceParts, 7, none, 4, _, M_X0_takePlaceParts hl, ⟨by decide, by decide⟩, ⟨by decide, by decide, by decide +kernel⟩, ⟨(gk_wm 1107 (by decide +kernel)), (gk_wm 95 (by decide +kernel))⟩, Or.inr (Or.inr (Or.inr (Or.inl ⟨rfl, rfl, (gk_wm 1106 (by decide +kernel)), (gk_wm 26 (by decide +kernel)), gk_wm 1104 (by decide +kernel), by decide, rfl⟩)))⟩), (List.forall_mem_cons.mpr ⟨(fun _ => ⟨yX0_addParts, cX0_addParts, 5, none, 0, _, M_X0_addParts hl, ⟨by decide, by decide⟩, ⟨by decide, by decide, by decide +kernel⟩, ⟨(gk_wm 1139 (by decide +kernel)), (gk_wm 95 (by decide +kernel))⟩, Or.inr (Or.inr (Or.inr (Or.inl ⟨rfl, rfl, (gk_wm 1138 (by decide +kernel)), (gk_wm 29 (by decide +kernel)), gk_wm 1136 (by decide +kernel), by decide, rfl⟩)))⟩), (fun _ h => absurd h List.not_mem_nil)⟩)⟩)⟩)⟩)
theorem sp_X0_formBeam : ∀ q ∈ L_X0_formBeam, gk_Sq RX0 gk_W1 5 q := (List.forall_mem_cons.mpr ⟨⟨fun h => absurd h (by decide), fun h => absurd h (by decide), fun h => absurd h (by decide), fun h => absurd h (by decide), fun h => absurd h (by decide), fun h => absurd h (by decide)⟩, (List.forall_mem_cons.mpr ⟨⟨fun h => absurd h (by decide), fun h => absurd h (by decide), fun h => absurd h (by decide), fun h => absurd h (by decide), fun h => absurd h (by decide), fun h => absurd h (by decide)⟩, (List.forall_mem_cons.mpr ⟨⟨fun h => absurd h (by decide), fun h => absurd h (by decide), fun h => absurd h (by decide), fun h => absurd h (by decide), fun h => absurd h (by decide), fun h => absurd h (by decide)⟩, (List.forall_mem_cons.mpr ⟨⟨fun h => absurd h (by decide), fun h => absurd h (by decide), fun h => absurd h (by decide), fun h => absurd h (by decide), fun h => absurd h (by decide), fun h => absurd h (by decide)⟩, (fun _ h => absurd h List.not_mem_nil)⟩)⟩)⟩)⟩)
theorem M_X0_formBeam {l : Launch} (hl : l.stackTraces = false) : gk_Mt l yX0_formBeam (.code yX0_formBeam cX0_formBeam 7 (some (.array .int)) :: gk_W1) 5 0 S_X0_formBeam := gk_meth hl gk_cw_ok (by decide +kernel) rfl m_X0_formBeam pX0_ok (gk_Sp_of sp_X0_formBeam) pX0_st (fun ci m S h => absurd h (by intro h; cases h)) (xf_X0 5) (fun idx kd ci mm cost S2 h h5 => lk_X0_formBeam hl _ (gk_lk_mem h) h5)

def S_X0_partAt : gk_S := fun as n fl x y K => ∃ (mc : Nat) (t : Int32) (g : Nat → Int32) (m : Nat) (tt : Nat), as = [.ref 90, .ref 1, .ref mc, .int t] ∧ (n = 202 ∧ fl = gk_fT) ∧ gk_kd mc = 1 ∧ (RS 1 g x y) ∧ (gWf g) ∧ (gWr g) ∧ (mc = 2 * m + 28) ∧ (m < nM g) ∧ (t = nI tt) ∧ (tt < 256) ∧ (∀ (x2 : gk_X) (y2 : gk_Y), (∀ i k, i ≠ 92 → x2 i k = x i k) → (∀ i k, i ≠ 93 → i ≠ 94 → y2 i k = y i k) → K (.inl (some (.int (gk_pp g m 0 tt)))) n fl x2 y2)
theorem r_X0_partAt (w : gk_W c P cs (fun _ _ => none) rt uf sc K V) {idx : Nat} {mc : Nat} {t : Int32} {g : Nat → Int32} {m : Nat} {tt : Nat} (hd : decode c pc = .ok (.invokevirtual idx, 3)) (hp : pc + 3 = pc2) (hc : cs idx = some (1, 0, 4, 0, S_X0_partAt)) (h8 : Nat.ble (r.map Value.category).sum 8 = true) (hk0 : gk_kd mc = 1) (hp0 : RS 1 g x y) (hp1 : gWf g) (hp2 : gWr g) (hp3 : mc = 2 * m + 28) (hp4 : m < nM g) (hp5 : t = nI tt) (hp6 : tt < 256) (kk0 : ∀ (x2 : gk_X) (y2 : gk_Y), (∀ i k, i ≠ 92 → x2 i k = x i k) → (∀ i k, i ≠ 93 → i ≠ 94 → y2 i k = y i k) → V pc2 L ((.int (gk_pp g m 0 tt)) :: r) 202 gk_fT x2 y2 u) : V pc L (.int t :: .ref mc :: .ref 1 :: .ref 90 :: r) 202 gk_fT x y u :=
  g_callv w hd hp hc (as := [.ref 90, .ref 1, .ref mc, .int t]) rfl h8 rfl rfl rfl (Or.inr (Or.inl ⟨Or.inl rfl, _, _, rfl, (gk_kd_j rfl rfl), rfl⟩)) (Or.inl rfl) ⟨mc, t, g, m, tt, rfl, ⟨rfl, rfl⟩, hk0, hp0, hp1, hp2, hp3, hp4, hp5, hp6, kk0⟩
def L_X0_partAt : List (Nat × gk_M0) := [(55, (1, 0, 6, 0, S_X0_takePlaceParts)), (68, (1, 0, 6, 0, S_X0_takeDirectionParts))]
def cs_X0_partAt : Nat → Option gk_M0 := gk_lk L_X0_partAt
theorem m_X0_partAt : ∀ (as : List Value) (n : Nat) (fl : gk_F) (x : gk_X) (y : gk_Y) (K : gk_K), S_X0_partAt as n fl x y K → (gk_L0 as).length ≤ 4 ∧ ∀ V : gk_V, gk_W cX0_partAt pX0 cs_X0_partAt (fun _ _ => none) (some .int) 0 none K V → V 0 (gk_en as 4) [] n fl x y 0 := by
  intro as n fl x y K hS
  obtain ⟨mc, t, g, m, tt, rfl, ⟨rfl, rfl⟩, hk0, hp0, hp1, hp2, hp3, hp4, hp5, hp6, q0⟩ := hS
  refine ⟨Nat.le_of_ble_eq_true rfl, fun V w => ?_⟩
  show V 0 [some (.ref 90), some (.ref 1), some (.ref mc), some (.int t)] [] 202 gk_fT x y 0
  subst hp3 hp5
  have z0 := hp0.1
  have h8 : m < 8 := by have := hp1.1; unfold wf0 at this; unfold nM at hp4; omega
  obtain ⟨j1, j2, j3⟩ := kd_m h8
  obtain ⟨e1, e2, e3, e4⟩ := hp0.2.2.2.2.1 m hp4
  have hmw := hp1.2.2.2.1 m hp4
  have e13 : x 1 13 = (if g 10 = 2 then 1 else 0) := z0.2.2.2.2.2.2.2.1
  refine s_aload_n (pc2 := 1) w dX0_partAt_0 rfl rfl ?_
  refine m_getI (pc2 := 4) (ci := 4) (k := 13) w dX0_partAt_1 rfl rfl rfl rfl rfl ?_
  refine s_if_eq (pc2 := 7) (tgt := 22) w dX0_partAt_4 rfl (by decide) (fun c4 => ?_) (fun c4 => ?_)
  · have hn : ¬ g 10 = 2 := fun h => by rw [e13, if_pos h] at c4; exact absurd c4 (by decide)
    refine s_aload_n (pc2 := 23) w dX0_partAt_22 rfl rfl ?_
    refine s_aload_n (pc2 := 24) w dX0_partAt_23 rfl rfl ?_
    refine s_aload_n (pc2 := 25) w dX0_partAt_24 rfl rfl ?_
    refine s_iconst (pc2 := 26) (v := gI 0) w dX0_partAt_25 rfl rfl ?_
    refine s_iload_n (pc2 := 27) w dX0_partAt_26 rfl rfl ?_
    refine s_iload_n (pc2 := 28) w dX0_partAt_27 rfl rfl ?_
    refine r_X0_takePlaceParts (pc2 := 31) (B := 0) w dX0_partAt_28 rfl rfl rfl (by first | exact j2 | exact j1) hp0 hp1 hp2 hn rfl hp4 rfl (by omega) rfl rfl (Nat.le_refl tt) hp6 (fun x2 y2 hx2 hw2 hy2 => ?_)
    refine s_aload_n (pc2 := 32) w dX0_partAt_31 rfl rfl ?_
    refine m_getR (pc2 := 35) (ci := 0) (k := 1) (j2 := 92) w dX0_partAt_32 rfl rfl rfl rfl rfl rfl ?_
    refine s_iload_n (pc2 := 36) w dX0_partAt_35 rfl rfl ?_
    refine m_ialoadN (pc2 := 37) (t := tt) (N := 256) w dX0_partAt_36 rfl rfl rfl rfl hp6 rfl ?_
    rw [hw2 tt (Nat.le_refl _) (Nat.le_refl _), show gI (gk_pt g m 0 tt) = gk_pp g m 0 tt from (if_neg hn).symm]
    refine s_ireturn w dX0_partAt_37 rfl rfl ?_
    exact q0 x2 y2 hx2 hy2
  · have hd : g 10 = 2 := Classical.byContradiction (fun h => c4 (e13.trans (if_neg h)))
    refine s_aload_n (pc2 := 8) w dX0_partAt_7 rfl rfl ?_
    refine s_aload_n (pc2 := 9) w dX0_partAt_8 rfl rfl ?_
    refine s_aload_n (pc2 := 10) w dX0_partAt_9 rfl rfl ?_
    refine s_aload_n (pc2 := 11) w dX0_partAt_10 rfl rfl ?_
    refine m_getI (pc2 := 14) (ci := 4) (k := 14) w dX0_partAt_11 rfl rfl rfl rfl rfl ?_
    refine s_iload_n (pc2 := 15) w dX0_partAt_14 rfl rfl ?_
    refine s_iload_n (pc2 := 16) w dX0_partAt_15 rfl rfl ?_
    rw [z0.2.2.2.2.2.2.2.2 hd, gz_I g 12]
    refine r_X0_takeDirectionParts (pc2 := 19) (D := gz g 12) w dX0_partAt_16 rfl rfl rfl (by first | exact j2 | exact j1) (z0.2.1.trans (gz_I g 0)) hp1.1.1 (e1.trans (gz_I g _)) hmw.1 rfl (by have := dir_b hp1 hd; omega) j2 j3 (by omega) rfl rfl (Nat.le_refl tt) hp6 ?_
    refine s_goto (tgt := 31) w dX0_partAt_19 (by decide) ?_
    refine s_aload_n (pc2 := 32) w dX0_partAt_31 rfl rfl ?_
    refine m_getR (pc2 := 35) (ci := 0) (k := 1) (j2 := 92) w dX0_partAt_32 rfl rfl rfl rfl rfl rfl ?_
    refine s_iload_n (pc2 := 36) w dX0_partAt_35 rfl rfl ?_
    refine m_ialoadN (pc2 := 37) (t := tt) (N := 256) w dX0_partAt_36 rfl rfl rfl rfl hp6 rfl ?_
    rw [show gk_rg x 92 tt (tt + 1 - tt) (fun k => gk_at (x (2 * m + 28 + 1)) (nI (tt + k) + gI (gz g (154 + 4 * m + 0) * gz g 12 / (100 * gz g 0)))) 92 tt = gk_at (x (2 * m + 29)) (nI tt + gI (gk_sh g m (gz g 12))) from gk_rg_in (k := 0) (o := tt) (by omega)]
    show V _ _ [.int (gk_at (x (2 * m + 29)) (nI tt + gI (gk_sh g m (gz g 12))))] _ _ _ _ _
    rw [gk_at_cg (fun k hk => hp0.2.2.2.2.2.1 m hp4 k hk), show gk_at (fun i => g (186 + 256 * m + i)) (nI tt + gI (gk_sh g m (gz g 12))) = gk_pp g m 0 tt by unfold gk_pp; rw [if_pos hd, Int.add_zero]; rfl]
    refine s_ireturn w dX0_partAt_37 rfl rfl ?_
    exact q0 _ y (fun i k h => gk_rg_ne (fun h9 => h h9.1)) (fun _ _ _ _ => rfl)
theorem lk_X0_partAt {l : Launch} (hl : l.stackTraces = false) : ∀ q ∈ L_X0_partAt, (q.2.1 < 5 → gk_Lk l RX0 gk_W1 5 q.1 q.2.1 q.2.2.1 q.2.2.2.1 q.2.2.2.2.1 q.2.2.2.2.2) := (List.forall_mem_cons.mpr ⟨(fun _ => ⟨yX0_takePlaceParts, cX0_takePlaceParts, 7, none, 4, _, M_X0_takePlaceParts hl, ⟨by decide, by decide⟩, ⟨by decide, by decide, by decide +kernel⟩, ⟨(gk_wm 1107 (by decide +kernel)), (gk_wm 95 (by decide +kernel))⟩, Or.inr (Or.inr (Or.inr (Or.inl ⟨rfl, rfl, (gk_wm 1106 (by decide +kernel)), (gk_wm 26 (by decide +kernel)), gk_wm 1104 (by decide +kernel), by decide, rfl⟩)))⟩), (List.forall_mem_cons.mpr ⟨(fun _ => ⟨yX0_takeDirectionParts, cX0_takeDirectionParts, 8, none, 2, _, M_X0_takeDirectionParts hl, ⟨by decide, by decide⟩, ⟨by decide, by decide, by decide +kernel⟩, ⟨(gk_wm 1102 (by decide +kernel)), (gk_wm 95 (by decide +kernel))⟩, Or.inr (Or.inr (Or.inr (Or.inl ⟨rfl, rfl, (gk_wm 1101 (by decide +kernel)), (gk_wm 25 (by decide +kernel)), gk_wm 1099 (by decide +kernel), by decide, rfl⟩)))⟩), (fun _ h => absurd h List.not_mem_nil)⟩)⟩)
theorem sp_X0_partAt : ∀ q ∈ L_X0_partAt, gk_Sq RX0 gk_W1 5 q := (List.forall_mem_cons.mpr ⟨⟨fun h => absurd h (by decide), fun h => absurd h (by decide), fun h => absurd h (by decide), fun h => absurd h (by decide), fun h => absurd h (by decide), fun h => absurd h (by decide)⟩, (List.forall_mem_cons.mpr ⟨⟨fun h => absurd h (by decide), fun h => absurd h (by decide), fun h => absurd h (by decide), fun h => absurd h (by decide), fun h => absurd h (by decide), fun h => absurd h (by decide)⟩, (fun _ h => absurd h List.not_mem_nil)⟩)⟩)
theorem M_X0_partAt {l : Launch} (hl : l.stackTraces = false) : gk_Mt l yX0_partAt (.code yX0_partAt cX0_partAt 4 (some .int) :: gk_W1) 5 0 S_X0_partAt := gk_meth hl gk_cw_ok (by decide +kernel) rfl m_X0_partAt pX0_ok (gk_Sp_of sp_X0_partAt) pX0_st (fun ci m S h => absurd h (by intro h; cases h)) (xf_X0 5) (fun idx kd ci mm cost S2 h h5 => lk_X0_partAt hl _ (gk_lk_mem h) h5)

def S_X0_sampleNumberAt : gk_S := fun as n fl x y K => ∃ (mc : Nat) (t : Int32) (g : Nat → Int32) (m : Nat) (tt : Nat), as = [.ref 90, .ref 1, .ref mc, .int t] ∧ (n = 202 ∧ fl = gk_fT) ∧ gk_kd mc = 1 ∧ (RS 1 g x y) ∧ (gWf g) ∧ (mc = 2 * m + 28) ∧ (m < nM g) ∧ (t = nI tt) ∧ (tt < 256) ∧ (∀ (y2 : gk_Y), (∀ i k, i ≠ 93 → i ≠ 94 → y2 i k = y i k) → K (.inl (some (.int (gk_sn g m tt)))) n fl x y2)
theorem r_X0_sampleNumberAt (w : gk_W c P cs (fun _ _ => none) rt uf sc K V) {idx : Nat} {mc : Nat} {t : Int32} {g : Nat → Int32} {m : Nat} {tt : Nat} (hd : decode c pc = .ok (.invokevirtual idx, 3)) (hp : pc + 3 = pc2) (hc : cs idx = some (1, 0, 4, 0, S_X0_sampleNumberAt)) (h8 : Nat.ble (r.map Value.category).sum 8 = true) (hk0 : gk_kd mc = 1) (hp0 : RS 1 g x y) (hp1 : gWf g) (hp2 : mc = 2 * m + 28) (hp3 : m < nM g) (hp4 : t = nI tt) (hp5 : tt < 256) (kk0 : ∀ (y2 : gk_Y), (∀ i k, i ≠ 93 → i ≠ 94 → y2 i k = y i k) → V pc2 L ((.int (gk_sn g m tt)) :: r) 202 gk_fT x y2 u) : V pc L (.int t :: .ref mc :: .ref 1 :: .ref 90 :: r) 202 gk_fT x y u :=
  g_callv w hd hp hc (as := [.ref 90, .ref 1, .ref mc, .int t]) rfl h8 rfl rfl rfl (Or.inr (Or.inl ⟨Or.inl rfl, _, _, rfl, (gk_kd_j rfl rfl), rfl⟩)) (Or.inl rfl) ⟨mc, t, g, m, tt, rfl, ⟨rfl, rfl⟩, hk0, hp0, hp1, hp2, hp3, hp4, hp5, kk0⟩
def L_X0_sampleNumberAt : List (Nat × gk_M0) := [(71, (0, 0, 3, 0, S_X0_directionShift)), (79, (1, 2, 5, 0, S_X2_lay)), (86, (1, 2, 3, 0, S_X2_sampleAt))]
def cs_X0_sampleNumberAt : Nat → Option gk_M0 := gk_lk L_X0_sampleNumberAt
theorem m_X0_sampleNumberAt : ∀ (as : List Value) (n : Nat) (fl : gk_F) (x : gk_X) (y : gk_Y) (K : gk_K), S_X0_sampleNumberAt as n fl x y K → (gk_L0 as).length ≤ 4 ∧ ∀ V : gk_V, gk_W cX0_sampleNumberAt pX0 cs_X0_sampleNumberAt (fun _ _ => none) (some .int) 0 none K V → V 0 (gk_en as 4) [] n fl x y 0 := by
  intro as n fl x y K hS
  obtain ⟨mc, t, g, m, tt, rfl, ⟨rfl, rfl⟩, hk0, hp0, hp1, hp2, hp3, hp4, hp5, q0⟩ := hS
  refine ⟨Nat.le_of_ble_eq_true rfl, fun V w => ?_⟩
  show V 0 [some (.ref 90), some (.ref 1), some (.ref mc), some (.int t)] [] 202 gk_fT x y 0
  subst hp2 hp4
  have z0 := hp0.1
  have h8 : m < 8 := by have := hp1.1; unfold wf0 at this; unfold nM at hp3; omega
  obtain ⟨j1, j2, j3⟩ := kd_m h8
  obtain ⟨e1, e2, e3, e4⟩ := hp0.2.2.2.2.1 m hp3
  have hmw := hp1.2.2.2.1 m hp3
  have hmp := rs_MP hp1 hp0.2.2.2.2.1 hp3
  have e13 : x 1 13 = (if g 10 = 2 then 1 else 0) := z0.2.2.2.2.2.2.2.1
  refine s_aload_n (pc2 := 1) w dX0_sampleNumberAt_0 rfl rfl ?_
  refine m_getI (pc2 := 4) (ci := 4) (k := 13) w dX0_sampleNumberAt_1 rfl rfl rfl rfl rfl ?_
  refine s_if_eq (pc2 := 7) (tgt := 19) w dX0_sampleNumberAt_4 rfl (by decide) (fun c4 => ?_) (fun c4 => ?_)
  · have hn : ¬ g 10 = 2 := fun h => by rw [e13, if_pos h] at c4; exact absurd c4 (by decide)
    obtain ⟨k1, k2, k3, k4, k5, -, hpb⟩ := wf_focus hp1 hn hp3 (by_ := 0) (by omega)
    refine s_aload_n (pc2 := 20) w dX0_sampleNumberAt_19 rfl rfl ?_
    refine m_getR (pc2 := 23) (ci := 0) (k := 2) (j2 := 93) w dX0_sampleNumberAt_20 rfl rfl rfl rfl rfl rfl ?_
    refine s_aload_n (pc2 := 24) w dX0_sampleNumberAt_23 rfl rfl ?_
    refine m_getR (pc2 := 27) (ci := 4) (k := 3) (j2 := 5) w dX0_sampleNumberAt_24 rfl rfl rfl rfl rfl rfl ?_
    refine s_iconst (pc2 := 28) (v := gI 0) w dX0_sampleNumberAt_27 rfl rfl ?_
    refine s_aload_n (pc2 := 29) w dX0_sampleNumberAt_28 rfl rfl ?_
    refine s_iconst (pc2 := 30) (v := gI 0) w dX0_sampleNumberAt_29 rfl rfl ?_
    refine r_X2_lay (pc2 := 33) (rf := false) (sh := 0) w dX0_sampleNumberAt_30 rfl rfl rfl rfl rfl (by first | exact j2 | exact j1) (rs_focus (b := 1) hp1 hn hp0.2.2.2.2.2.2) hmp rfl (by omega) (show (gI 0 : Int32) = if false then 1 else 0 from rfl) ?_
    rw [fA_e]
    show V _ _ _ _ _ _ (gk_ly y 93 (fA g m 0) (fS g) (fBe g m false)) _
    refine s_aload_n (pc2 := 34) w dX0_sampleNumberAt_33 rfl rfl ?_
    refine m_getR (pc2 := 37) (ci := 0) (k := 2) (j2 := 93) w dX0_sampleNumberAt_34 rfl rfl rfl rfl rfl rfl ?_
    refine s_iload_n (pc2 := 38) w dX0_sampleNumberAt_37 rfl rfl ?_
    refine s_aload_n (pc2 := 39) w dX0_sampleNumberAt_38 rfl rfl ?_
    refine m_getI (pc2 := 42) (ci := 4) (k := 7) w dX0_sampleNumberAt_39 rfl rfl rfl rfl rfl ?_
    refine r_X2_sampleAt (pc2 := 45) (tt := (tt : Int)) (A := fA g m 0) (S := fS g) (B := fBe g m false) w dX0_sampleNumberAt_42 rfl rfl rfl rfl (gk_ly_PL _ _ _ _ _) (hpb false) rfl (by omega) (z0.2.1.trans (gz_I g 0)) hp1.1.1 ?_
    rw [show gI ((tt : Int) + (gk_dl (fA g m 0) (fS g) (fBe g m false) tt + gz g 0 - 1) / gz g 0) = gk_sn g m tt from (if_neg hn).symm]
    refine s_ireturn w dX0_sampleNumberAt_45 rfl rfl ?_
    exact q0 _ (fun i k h1 h2 => gk_ly_ne h1)
  · have hd : g 10 = 2 := Classical.byContradiction (fun h => c4 (e13.trans (if_neg h)))
    refine s_iload_n (pc2 := 8) w dX0_sampleNumberAt_7 rfl rfl ?_
    refine s_aload_n (pc2 := 9) w dX0_sampleNumberAt_8 rfl rfl ?_
    refine s_aload_n (pc2 := 10) w dX0_sampleNumberAt_9 rfl rfl ?_
    refine s_aload_n (pc2 := 11) w dX0_sampleNumberAt_10 rfl rfl ?_
    refine m_getI (pc2 := 14) (ci := 4) (k := 14) w dX0_sampleNumberAt_11 rfl rfl rfl rfl rfl ?_
    rw [z0.2.2.2.2.2.2.2.2 hd, gz_I g 12]
    refine r_X0_directionShift (pc2 := 17) (D := gz g 12) w dX0_sampleNumberAt_14 rfl rfl rfl (by first | exact j2 | exact j1) (z0.2.1.trans (gz_I g 0)) hp1.1.1 (e1.trans (gz_I g _)) hmw.1 rfl (by have := dir_b hp1 hd; omega) ?_
    refine s_iadd (pc2 := 18) w dX0_sampleNumberAt_17 rfl ?_
    rw [show nI tt + gI (gz g (154 + 4 * m + 0) * gz g 12 / (100 * gz g 0)) = gk_sn g m tt by unfold gk_sn; rw [if_pos hd]; rfl]
    refine s_ireturn w dX0_sampleNumberAt_18 rfl rfl ?_
    exact q0 y (fun _ _ _ _ => rfl)
theorem lk_X0_sampleNumberAt {l : Launch} (hl : l.stackTraces = false) : ∀ q ∈ L_X0_sampleNumberAt, (q.2.1 < 5 → gk_Lk l RX0 gk_W1 3 q.1 q.2.1 q.2.2.1 q.2.2.2.1 q.2.2.2.2.1 q.2.2.2.2.2) := (List.forall_mem_cons.mpr ⟨(fun _ => ⟨yX0_directionShift, cX0_directionShift, 4, (some .int), 1, _, M_X0_directionShift hl, ⟨by decide, by decide⟩, ⟨by decide, by decide, by decide +kernel⟩, ⟨(gk_wm 1078 (by decide +kernel)), (gk_wm 95 (by decide +kernel))⟩, Or.inl ⟨rfl, rfl, (gk_wm 1077 (by decide +kernel)), gk_wm 1076 (by decide +kernel)⟩⟩), (List.forall_mem_cons.mpr ⟨(fun _ => ⟨yX2_lay, cX2_lay, 11, none, 0, _, M_X2_lay hl, ⟨by decide, by decide⟩, ⟨by decide, by decide, by decide +kernel⟩, ⟨(gk_wm 462 (by decide +kernel)), (gk_wm 94 (by decide +kernel))⟩, Or.inr (Or.inr (Or.inr (Or.inl ⟨rfl, rfl, (gk_wm 460 (by decide +kernel)), (gk_wm 461 (by decide +kernel)), gk_wm 1082 (by decide +kernel), by decide, rfl⟩)))⟩), (List.forall_mem_cons.mpr ⟨(fun _ => ⟨yX2_sampleAt, cX2_sampleAt, 3, (some .int), 2, _, M_X2_sampleAt hl, ⟨by decide, by decide⟩, ⟨by decide, by decide, by decide +kernel⟩, ⟨(gk_wm 1086 (by decide +kernel)), (gk_wm 94 (by decide +kernel))⟩, Or.inr (Or.inr (Or.inr (Or.inl ⟨rfl, rfl, (gk_wm 1084 (by decide +kernel)), (gk_wm 1085 (by decide +kernel)), gk_wm 1083 (by decide +kernel), by decide, rfl⟩)))⟩), (fun _ h => absurd h List.not_mem_nil)⟩)⟩)⟩)
theorem sp_X0_sampleNumberAt : ∀ q ∈ L_X0_sampleNumberAt, gk_Sq RX0 gk_W1 3 q := (List.forall_mem_cons.mpr ⟨⟨fun h => absurd h (by decide), fun h => absurd h (by decide), fun h => absurd h (by decide), fun h => absurd h (by decide), fun h => absurd h (by decide), fun h => absurd h (by decide)⟩, (List.forall_mem_cons.mpr ⟨⟨fun h => absurd h (by decide), fun h => absurd h (by decide), fun h => absurd h (by decide), fun h => absurd h (by decide), fun h => absurd h (by decide), fun h => absurd h (by decide)⟩, (List.forall_mem_cons.mpr ⟨⟨fun h => absurd h (by decide), fun h => absurd h (by decide), fun h => absurd h (by decide), fun h => absurd h (by decide), fun h => absurd h (by decide), fun h => absurd h (by decide)⟩, (fun _ h => absurd h List.not_mem_nil)⟩)⟩)⟩)
theorem M_X0_sampleNumberAt {l : Launch} (hl : l.stackTraces = false) : gk_Mt l yX0_sampleNumberAt (.code yX0_sampleNumberAt cX0_sampleNumberAt 4 (some .int) :: gk_W1) 3 0 S_X0_sampleNumberAt := gk_meth hl gk_cw_ok (by decide +kernel) rfl m_X0_sampleNumberAt pX0_ok (gk_Sp_of sp_X0_sampleNumberAt) pX0_st (fun ci m S h => absurd h (by intro h; cases h)) (xf_X0 3) (fun idx kd ci mm cost S2 h h5 => lk_X0_sampleNumberAt hl _ (gk_lk_mem h) h5)

end GKV

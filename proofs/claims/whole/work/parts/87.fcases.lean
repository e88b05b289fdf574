/-! THE LAW, 10: the cases of the mean and the crest -/
section GKV
variable {c : ByteArray} {P : gk_C} {cs : Nat → Option gk_M0} {rt : Option FieldType} {uf : Nat} {sc : Option Nat} {K : gk_K} {V : gk_V}
variable {L : List (Option Value)} {r : List Value} {n : Nat} {fl : gk_F} {x : gk_X} {y : gk_Y} {u pc pc2 : Nat}
theorem mpN {g : Nat → Int32} {f l : Int32} (h : gOK g) (b : 0 ≤ f ∧ f ≤ l ∧ l ≤ 255) : dv (mP (gL (gE (gB g 0) (cN f) (cN l))) (nI (cN l + 1 - cN f))) ≠ .nan := by
  obtain ⟨a, e, rfl, rfl, ae, eh⟩ := ix_w b
  rw [cN_n a (by omega), cN_n e (by omega)]
  have h1 := mp_e (a := a) h eh
  have h2 := wl1 ae eh
  by_cases z : gL (gE (gB g 0) a e) = 0
  · rw [z, mP_0 h2, dv_0]
    intro q; cases q
  · obtain ⟨c, q, e2, -⟩ := mP_1 (E := gL (gE (gB g 0) a e)) (by
      have : (gL (gE (gB g 0) a e)).toInt ≠ 0 := fun q => z (Int64.toInt_inj.mp (by rw [q]; rfl))
      omega) h2
    rw [e2]
    intro q; cases q
theorem crN {g : Nat → Int32} {f l : Int32} (h : gOK g) (b : 0 ≤ f ∧ f ≤ l ∧ l ≤ 255) : svv (cR (gk_pk (gB g 0) (cN f) (cN l + 1 - cN f)) (gL (gE (gB g 0) (cN f) (cN l))) (nI (cN l + 1 - cN f))) ≠ .nan := by
  obtain ⟨a, e, rfl, rfl, ae, eh⟩ := ix_w b
  rw [cN_n a (by omega), cN_n e (by omega)]
  exact cR_n (pk_nn _ _ _) (mp_e (a := a) h eh) (wl1 ae eh)
def S_L_meanPower : gk_S := fun as n fl x y K => ∃ (f : Int32) (l : Int32) (g : Nat → Int32), as = [.ref 0, .int f, .int l, .ref 201] ∧ (n = 202 ∧ fl = gk_fT) ∧ (RS 1 g x y) ∧ (gOK g) ∧ ((0 ≤ f ∧ f ≤ l ∧ l ≤ 255) → ∀ (x2 : gk_X) (y2 : gk_Y), COk g x x2 y y2 → K (.inl (some (.int 0))) n fl x2 (gk_uy y2 201 0 ((mP (gL (gE (gB g 0) (cN f) (cN l))) (nI (cN l + 1 - cN f)))).toInt64)) ∧ (¬ (0 ≤ f ∧ f ≤ l ∧ l ≤ 255) → ∀ (x2 : gk_X) (y2 : gk_Y), COk g x x2 y y2 → K (.inl (some (.int 1))) n fl x2 y2)
theorem r_L_meanPower (w : gk_W c P cs (fun _ _ => none) rt uf sc K V) {idx : Nat} {f : Int32} {l : Int32} {g : Nat → Int32} (hd : decode c pc = .ok (.invokestatic idx, 3)) (hp : pc + 3 = pc2) (hc : cs idx = some (0, 0, 4, 2, S_L_meanPower)) (h8 : Nat.ble (r.map Value.category).sum 8 = true) (hu : u + 2 ≤ uf) (hp0 : RS 1 g x y) (hp1 : gOK g) (kk0 : (0 ≤ f ∧ f ≤ l ∧ l ≤ 255) → ∀ (x2 : gk_X) (y2 : gk_Y), COk g x x2 y y2 → V pc2 L ((.int 0) :: r) 202 gk_fT x2 (gk_uy y2 201 0 ((mP (gL (gE (gB g 0) (cN f) (cN l))) (nI (cN l + 1 - cN f)))).toInt64) (u + 2)) (kk1 : ¬ (0 ≤ f ∧ f ≤ l ∧ l ≤ 255) → ∀ (x2 : gk_X) (y2 : gk_Y), COk g x x2 y y2 → V pc2 L ((.int 1) :: r) 202 gk_fT x2 y2 (u + 2)) : V pc L (.ref 201 :: .int l :: .int f :: .ref 0 :: r) 202 gk_fT x y u :=
  g_calls w hd hp hc (as := [.ref 0, .int f, .int l, .ref 201]) rfl h8 rfl rfl rfl (Or.inl rfl) (Or.inr hu) ⟨f, l, g, rfl, ⟨rfl, rfl⟩, hp0, hp1, kk0, kk1⟩
theorem nt_L_meanPower : gk_nt S_L_meanPower := fun _ _ _ _ _ _ ⟨f, l, g, e0, e1, e2, e3, e4, e5⟩ => ⟨f, l, g, e0, e1, e2, e3, e4, e5⟩
def H_L_meanPower : List gk_H := [(0, 9, 12, 13, 0, 14, 4)]
def L_L_meanPower : List (Nat × gk_M0) := [(122, (1, 9, 3, 2, S_X10_meanPower))]
def cs_L_meanPower : Nat → Option gk_M0 := gk_lk L_L_meanPower
theorem m_L_meanPower : ∀ (as : List Value) (n : Nat) (fl : gk_F) (x : gk_X) (y : gk_Y) (K : gk_K), S_L_meanPower as n fl x y K → (gk_L0 as).length ≤ 5 ∧ ∀ V : gk_V, gk_W cL_meanPower pL cs_L_meanPower (gk_fh H_L_meanPower) (some .int) 2 none K V → V 0 (gk_en as 5) [] n fl x y 0 := by
  intro as n fl x y K hS
  obtain ⟨f, l, g, rfl, ⟨rfl, rfl⟩, hp0, hp1, q0, q1⟩ := hS
  refine ⟨Nat.le_of_ble_eq_true rfl, fun V w => ?_⟩
  show V 0 [some (.ref 0), some (.int f), some (.int l), some (.ref 201), none] [] 202 gk_fT x y 0
  refine s_aload_n (pc2 := 1) w dL_meanPower_0 rfl rfl ?_
  refine s_iconst (pc2 := 2) (v := 0) w dL_meanPower_1 rfl rfl ?_
  refine s_aload_n (pc2 := 3) w dL_meanPower_2 rfl rfl ?_
  refine s_iload_n (pc2 := 4) w dL_meanPower_3 rfl rfl ?_
  refine s_iload_n (pc2 := 5) w dL_meanPower_4 rfl rfl ?_
  refine g_callv (pc2 := 8) (r := [.int 0, .ref 201]) w dL_meanPower_5 rfl rfl (as := [.ref 0, .int f, .int l]) rfl rfl rfl rfl rfl (Or.inr (Or.inl ⟨Or.inl rfl, _, _, rfl, (gk_kd_j rfl rfl), rfl⟩)) (Or.inr (Nat.le_of_ble_eq_true rfl)) ⟨f, l, g, rfl, ⟨rfl, rfl⟩, hp0, hp1, ?_, ?_⟩
  · intro b0 x2 y2 b1
    show V 8 [some (.ref 0), some (.int f), some (.int l), some (.ref 201), none] [(.double (mP (gL (gE (gB g 0) (cN f) (cN l))) (nI (cN l + 1 - cN f)))), .int 0, .ref 201] 202 gk_fT x2 y2 (0 + 2)
    refine m_dastoreN (pc2 := 9) (t := 0) (N := 1) w dL_meanPower_8 rfl rfl rfl rfl (by decide) rfl ?_
    refine s_goto (tgt := 16) w dL_meanPower_9 (by decide) ?_
    refine s_iconst (pc2 := 17) (v := 0) w dL_meanPower_16 rfl rfl ?_
    refine s_ireturn w dL_meanPower_17 rfl rfl ?_
    exact q0 b0 x2 y2 b1
  · intro b0 x2 y2 b1
    show V 14 [some (.ref 0), some (.int f), some (.int l), some (.ref 201), none] [] 202 gk_fT x2 y2 (0 + 2)
    refine s_iconst (pc2 := 15) (v := 1) w dL_meanPower_14 rfl rfl ?_
    refine s_ireturn w dL_meanPower_15 rfl rfl ?_
    exact q1 b0 x2 y2 b1
theorem lk_L_meanPower {l : Launch} (hl : l.stackTraces = false) : ∀ q ∈ L_L_meanPower, (q.2.1 < 5 → gk_Lk l RL gk_W1 10 q.1 q.2.1 q.2.2.1 q.2.2.2.1 q.2.2.2.2.1 q.2.2.2.2.2) := (List.forall_mem_cons.mpr ⟨(fun _ => ⟨yX10_meanPower, cX10_meanPower, 3, (some .double), 9, _, M_X10_meanPower hl, ⟨by decide, by decide⟩, ⟨by decide, by decide, by decide +kernel⟩, ⟨(gk_wm 1204 (by decide +kernel)), (gk_wm 89 (by decide +kernel))⟩, Or.inr (Or.inr (Or.inr (Or.inl ⟨rfl, rfl, (gk_wm 1202 (by decide +kernel)), (gk_wm 1203 (by decide +kernel)), gk_wm 1201 (by decide +kernel), by decide, rfl⟩)))⟩), (fun _ h => absurd h List.not_mem_nil)⟩)
theorem sp_L_meanPower : ∀ q ∈ L_L_meanPower, gk_Sq RL gk_W1 10 q := (List.forall_mem_cons.mpr ⟨⟨fun h => absurd h (by decide), fun h => absurd h (by decide), fun h => absurd h (by decide), fun h => absurd h (by decide), fun h => absurd h (by decide), fun h => absurd h (by decide)⟩, (fun _ h => absurd h List.not_mem_nil)⟩)
theorem ho_L_meanPower : ∀ z ∈ H_L_meanPower, gk_Hok RL cL_meanPower 5 z := (List.forall_mem_cons.mpr ⟨⟨by decide, by decide, gk_wm 726 (by decide +kernel), by decide, Or.inl ⟨dL_meanPower_12, rfl⟩⟩, (fun _ h => absurd h List.not_mem_nil)⟩)
theorem M_L_meanPower {l : Launch} (hl : l.stackTraces = false) : gk_Mt l yL_meanPower (.codeWith yL_meanPower cL_meanPower 5 (some .int) (H_L_meanPower.map gk_hr) :: gk_W1) 10 2 S_L_meanPower := gk_methH gk_cw_ok H_L_meanPower (by decide +kernel) rfl nt_L_meanPower m_L_meanPower pL_ok (gk_Sp_of sp_L_meanPower) pL_st (fun ci m S h => absurd h (by intro h; cases h)) hno_L ho_L_meanPower (fun idx kd ci mm cost S2 h h5 => lk_L_meanPower hl _ (gk_lk_mem h) h5)

def S_L_crest : gk_S := fun as n fl x y K => ∃ (f : Int32) (l : Int32) (g : Nat → Int32), as = [.ref 0, .int f, .int l, .ref 201] ∧ (n = 202 ∧ fl = gk_fT) ∧ (RS 1 g x y) ∧ (gOK g) ∧ ((0 ≤ f ∧ f ≤ l ∧ l ≤ 255) → ∀ (x2 : gk_X) (y2 : gk_Y), COk g x x2 y y2 → K (.inl (some (.int 0))) n fl x2 (gk_uy y2 201 0 (Jvm.FP.f2d ((cR (gk_pk (gB g 0) (cN f) (cN l + 1 - cN f)) (gL (gE (gB g 0) (cN f) (cN l))) (nI (cN l + 1 - cN f))))).toInt64)) ∧ (¬ (0 ≤ f ∧ f ≤ l ∧ l ≤ 255) → ∀ (x2 : gk_X) (y2 : gk_Y), COk g x x2 y y2 → K (.inl (some (.int 1))) n fl x2 y2)
theorem r_L_crest (w : gk_W c P cs (fun _ _ => none) rt uf sc K V) {idx : Nat} {f : Int32} {l : Int32} {g : Nat → Int32} (hd : decode c pc = .ok (.invokestatic idx, 3)) (hp : pc + 3 = pc2) (hc : cs idx = some (0, 0, 4, 2, S_L_crest)) (h8 : Nat.ble (r.map Value.category).sum 8 = true) (hu : u + 2 ≤ uf) (hp0 : RS 1 g x y) (hp1 : gOK g) (kk0 : (0 ≤ f ∧ f ≤ l ∧ l ≤ 255) → ∀ (x2 : gk_X) (y2 : gk_Y), COk g x x2 y y2 → V pc2 L ((.int 0) :: r) 202 gk_fT x2 (gk_uy y2 201 0 (Jvm.FP.f2d ((cR (gk_pk (gB g 0) (cN f) (cN l + 1 - cN f)) (gL (gE (gB g 0) (cN f) (cN l))) (nI (cN l + 1 - cN f))))).toInt64) (u + 2)) (kk1 : ¬ (0 ≤ f ∧ f ≤ l ∧ l ≤ 255) → ∀ (x2 : gk_X) (y2 : gk_Y), COk g x x2 y y2 → V pc2 L ((.int 1) :: r) 202 gk_fT x2 y2 (u + 2)) : V pc L (.ref 201 :: .int l :: .int f :: .ref 0 :: r) 202 gk_fT x y u :=
  g_calls w hd hp hc (as := [.ref 0, .int f, .int l, .ref 201]) rfl h8 rfl rfl rfl (Or.inl rfl) (Or.inr hu) ⟨f, l, g, rfl, ⟨rfl, rfl⟩, hp0, hp1, kk0, kk1⟩
theorem nt_L_crest : gk_nt S_L_crest := fun _ _ _ _ _ _ ⟨f, l, g, e0, e1, e2, e3, e4, e5⟩ => ⟨f, l, g, e0, e1, e2, e3, e4, e5⟩
def H_L_crest : List gk_H := [(0, 10, 13, 13, 0, 15, 4)]
def L_L_crest : List (Nat × gk_M0) := [(126, (1, 9, 3, 2, S_X10_crest))]
def cs_L_crest : Nat → Option gk_M0 := gk_lk L_L_crest
theorem m_L_crest : ∀ (as : List Value) (n : Nat) (fl : gk_F) (x : gk_X) (y : gk_Y) (K : gk_K), S_L_crest as n fl x y K → (gk_L0 as).length ≤ 5 ∧ ∀ V : gk_V, gk_W cL_crest pL cs_L_crest (gk_fh H_L_crest) (some .int) 2 none K V → V 0 (gk_en as 5) [] n fl x y 0 := by
  intro as n fl x y K hS
  obtain ⟨f, l, g, rfl, ⟨rfl, rfl⟩, hp0, hp1, q0, q1⟩ := hS
  refine ⟨Nat.le_of_ble_eq_true rfl, fun V w => ?_⟩
  show V 0 [some (.ref 0), some (.int f), some (.int l), some (.ref 201), none] [] 202 gk_fT x y 0
  refine s_aload_n (pc2 := 1) w dL_crest_0 rfl rfl ?_
  refine s_iconst (pc2 := 2) (v := 0) w dL_crest_1 rfl rfl ?_
  refine s_aload_n (pc2 := 3) w dL_crest_2 rfl rfl ?_
  refine s_iload_n (pc2 := 4) w dL_crest_3 rfl rfl ?_
  refine s_iload_n (pc2 := 5) w dL_crest_4 rfl rfl ?_
  refine g_callv (pc2 := 8) (r := [.int 0, .ref 201]) w dL_crest_5 rfl rfl (as := [.ref 0, .int f, .int l]) rfl rfl rfl rfl rfl (Or.inr (Or.inl ⟨Or.inl rfl, _, _, rfl, (gk_kd_j rfl rfl), rfl⟩)) (Or.inr (Nat.le_of_ble_eq_true rfl)) ⟨f, l, g, rfl, ⟨rfl, rfl⟩, hp0, hp1, ?_, ?_⟩
  · intro b0 x2 y2 b1
    show V 8 [some (.ref 0), some (.int f), some (.int l), some (.ref 201), none] [(.float (cR (gk_pk (gB g 0) (cN f) (cN l + 1 - cN f)) (gL (gE (gB g 0) (cN f) (cN l))) (nI (cN l + 1 - cN f)))), .int 0, .ref 201] 202 gk_fT x2 y2 (0 + 2)
    refine s_f2d (pc2 := 9) w dL_crest_8 rfl (f2d_n (crN hp1 b0)).2 ?_
    refine m_dastoreN (pc2 := 10) (t := 0) (N := 1) w dL_crest_9 rfl rfl rfl rfl (by decide) rfl ?_
    refine s_goto (tgt := 17) w dL_crest_10 (by decide) ?_
    refine s_iconst (pc2 := 18) (v := 0) w dL_crest_17 rfl rfl ?_
    refine s_ireturn w dL_crest_18 rfl rfl ?_
    exact q0 b0 x2 y2 b1
  · intro b0 x2 y2 b1
    show V 15 [some (.ref 0), some (.int f), some (.int l), some (.ref 201), none] [] 202 gk_fT x2 y2 (0 + 2)
    refine s_iconst (pc2 := 16) (v := 1) w dL_crest_15 rfl rfl ?_
    refine s_ireturn w dL_crest_16 rfl rfl ?_
    exact q1 b0 x2 y2 b1
theorem lk_L_crest {l : Launch} (hl : l.stackTraces = false) : ∀ q ∈ L_L_crest, (q.2.1 < 5 → gk_Lk l RL gk_W1 10 q.1 q.2.1 q.2.2.1 q.2.2.2.1 q.2.2.2.2.1 q.2.2.2.2.2) := (List.forall_mem_cons.mpr ⟨(fun _ => ⟨yX10_crest, cX10_crest, 3, (some .float), 9, _, M_X10_crest hl, ⟨by decide, by decide⟩, ⟨by decide, by decide, by decide +kernel⟩, ⟨(gk_wm 1214 (by decide +kernel)), (gk_wm 89 (by decide +kernel))⟩, Or.inr (Or.inr (Or.inr (Or.inl ⟨rfl, rfl, (gk_wm 1212 (by decide +kernel)), (gk_wm 1213 (by decide +kernel)), gk_wm 1211 (by decide +kernel), by decide, rfl⟩)))⟩), (fun _ h => absurd h List.not_mem_nil)⟩)
theorem sp_L_crest : ∀ q ∈ L_L_crest, gk_Sq RL gk_W1 10 q := (List.forall_mem_cons.mpr ⟨⟨fun h => absurd h (by decide), fun h => absurd h (by decide), fun h => absurd h (by decide), fun h => absurd h (by decide), fun h => absurd h (by decide), fun h => absurd h (by decide)⟩, (fun _ h => absurd h List.not_mem_nil)⟩)
theorem ho_L_crest : ∀ z ∈ H_L_crest, gk_Hok RL cL_crest 5 z := (List.forall_mem_cons.mpr ⟨⟨by decide, by decide, gk_wm 726 (by decide +kernel), by decide, Or.inl ⟨dL_crest_13, rfl⟩⟩, (fun _ h => absurd h List.not_mem_nil)⟩)
theorem M_L_crest {l : Launch} (hl : l.stackTraces = false) : gk_Mt l yL_crest (.codeWith yL_crest cL_crest 5 (some .int) (H_L_crest.map gk_hr) :: gk_W1) 10 2 S_L_crest := gk_methH gk_cw_ok H_L_crest (by decide +kernel) rfl nt_L_crest m_L_crest pL_ok (gk_Sp_of sp_L_crest) pL_st (fun ci m S h => absurd h (by intro h; cases h)) hno_L ho_L_crest (fun idx kd ci mm cost S2 h h5 => lk_L_crest hl _ (gk_lk_mem h) h5)

variable {Ls : Nat} {sv : Nat → Int32} {i : Int32} {q6 q7 q8 : Option Value}
theorem lc_35 (w : gk_W cL_law pL cs (fun _ _ => none) rt uf (some Ls) K V) (hc1 : cs 270 = some (0, 0, 4, 2, S_L_meanPower)) (hc2 : cs 273 = some (1, 10, 3, 0, S_X11_meanPower)) (hc3 : cs 152 = some (1, 10, 1, 0, S_X11_thrown)) {a1 a2 : Int32} (h1 : vp_in (i + 1) Ls) (e1 : sv (i + 1).toNatClampNeg = a1) (h2 : vp_in (i + 2) Ls) (e2 : sv (i + 2).toNatClampNeg = a2) (hu : u + 6 ≤ uf) (hI : LI sv x y) (kk : ∀ (x2 : gk_X) (y2 : gk_Y) (q6 q7 q8 : Option Value) (u2 : Nat), u2 ≤ u + 6 → LI sv x2 y2 → V 3095 [some (.ref 5000), some (.ref 0), some (.ref 189), some (.ref 200), some (.ref 201), some (.int i), q6, q7, q8] [] 202 gk_fT x2 y2 u2) : V 2693 [some (.ref 5000), some (.ref 0), some (.ref 189), some (.ref 200), some (.ref 201), some (.int i), q6, q7, q8] [] 202 gk_fT x y u := by
  obtain ⟨sc, hT, g, hM, hR, hok⟩ := hI
  refine s_aload_n (pc2 := 2694) w dL_law_2693 rfl rfl ?_
  refine s_aload_n (pc2 := 2695) w dL_law_2694 rfl rfl ?_
  refine s_iload (pc2 := 2697) w dL_law_2695 rfl rfl ?_
  refine s_iconst (pc2 := 2698) (v := 1) w dL_law_2697 rfl rfl ?_
  refine s_iadd (pc2 := 2699) w dL_law_2698 rfl ?_
  refine g_ialoadS (pc2 := 2700) w dL_law_2699 rfl rfl h1 ?_
  rw [sc _, e1]
  refine s_aload_n (pc2 := 2701) w dL_law_2700 rfl rfl ?_
  refine s_iload (pc2 := 2703) w dL_law_2701 rfl rfl ?_
  refine s_iconst (pc2 := 2704) (v := 2) w dL_law_2703 rfl rfl ?_
  refine s_iadd (pc2 := 2705) w dL_law_2704 rfl ?_
  refine g_ialoadS (pc2 := 2706) w dL_law_2705 rfl rfl h2 ?_
  rw [sc _, e2]
  refine s_aload (pc2 := 2708) w dL_law_2706 rfl rfl ?_
  refine r_L_meanPower (pc2 := 2711) w dL_law_2708 rfl hc1 rfl (by omega) hR hok ?_ ?_
  · intro b0 x2 y2 b1
    have sc2 := sc.cx b1.2.1
    refine s_istore (pc2 := 2713) w dL_law_2711 rfl rfl ?_
    dsimp only [gk_s1, gk_s2, gk_cl]
    refine s_aload_n (pc2 := 2714) w dL_law_2713 rfl rfl ?_
    refine s_aload_n (pc2 := 2715) w dL_law_2714 rfl rfl ?_
    refine s_iload (pc2 := 2717) w dL_law_2715 rfl rfl ?_
    refine s_iconst (pc2 := 2718) (v := 1) w dL_law_2717 rfl rfl ?_
    refine s_iadd (pc2 := 2719) w dL_law_2718 rfl ?_
    refine g_ialoadS (pc2 := 2720) w dL_law_2719 rfl rfl h1 ?_
    rw [sc2 _, e1]
    refine s_aload_n (pc2 := 2721) w dL_law_2720 rfl rfl ?_
    refine s_iload (pc2 := 2723) w dL_law_2721 rfl rfl ?_
    refine s_iconst (pc2 := 2724) (v := 2) w dL_law_2723 rfl rfl ?_
    refine s_iadd (pc2 := 2725) w dL_law_2724 rfl ?_
    refine g_ialoadS (pc2 := 2726) w dL_law_2725 rfl rfl h2 ?_
    rw [sc2 _, e2]
    refine r_X11_meanPower (pc2 := 2729) w dL_law_2726 rfl hc2 rfl (hM.cx b1.2.1) hok ?_ ?_
    · intro d0 x3 y3 d1
      refine s_dstore (pc2 := 2731) w dL_law_2729 rfl rfl ?_
      dsimp only [gk_s1, gk_s2, gk_cl]
      refine s_aload_n (pc2 := 2732) w dL_law_2731 rfl rfl ?_
      refine r_X11_thrown (pc2 := 2735) w dL_law_2732 rfl hc3 rfl ?_
      rw [d1.2.1]
      refine s_iload (pc2 := 2737) w dL_law_2735 rfl rfl ?_
      refine s_ic_eq (pc2 := 2740) (tgt := 2742) w dL_law_2737 rfl (by decide) (fun _ => ?_) (fun h0 => absurd (rfl) h0)
      refine s_iload (pc2 := 2744) w dL_law_2742 rfl rfl ?_
      refine s_if_ne (pc2 := 2747) (tgt := 2779) w dL_law_2744 rfl (by decide) (fun h0 => absurd (rfl) h0) (fun _ => ?_)
      refine s_aload (pc2 := 2749) w dL_law_2747 rfl rfl ?_
      refine s_iconst (pc2 := 2750) (v := 0) w dL_law_2749 rfl rfl ?_
      refine m_daloadN (pc2 := 2751) (t := 0) (N := 1) w dL_law_2750 rfl rfl rfl rfl (by decide) rfl ?_
      rw [(d1.2.2.2 201 0 (by decide)).trans (gk_uy_in _ _ _ _)]
      refine s_dload (pc2 := 2753) w dL_law_2751 rfl rfl ?_
      refine s_dcmp (pc2 := 2754) w dL_law_2753 rfl ?_
      refine s_if_eq (pc2 := 2757) (tgt := 2779) w dL_law_2754 rfl (by decide) (fun _ => ?_) (fun h0 => absurd (dc_self (mpN hok b0)) h0)
      refine s_goto (tgt := 3095) w dL_law_2779 (by decide) ?_
      exact kk _ _ _ _ _ _ (by omega) (LI.st sc hT b1 (uy_out (Or.inr rfl)) d1 hok)
    · intro d0 x3 y3 d1
      exact absurd b0 d0
  · intro b0 x2 y2 b1
    have sc2 := sc.cx b1.2.1
    refine s_istore (pc2 := 2713) w dL_law_2711 rfl rfl ?_
    dsimp only [gk_s1, gk_s2, gk_cl]
    refine s_aload_n (pc2 := 2714) w dL_law_2713 rfl rfl ?_
    refine s_aload_n (pc2 := 2715) w dL_law_2714 rfl rfl ?_
    refine s_iload (pc2 := 2717) w dL_law_2715 rfl rfl ?_
    refine s_iconst (pc2 := 2718) (v := 1) w dL_law_2717 rfl rfl ?_
    refine s_iadd (pc2 := 2719) w dL_law_2718 rfl ?_
    refine g_ialoadS (pc2 := 2720) w dL_law_2719 rfl rfl h1 ?_
    rw [sc2 _, e1]
    refine s_aload_n (pc2 := 2721) w dL_law_2720 rfl rfl ?_
    refine s_iload (pc2 := 2723) w dL_law_2721 rfl rfl ?_
    refine s_iconst (pc2 := 2724) (v := 2) w dL_law_2723 rfl rfl ?_
    refine s_iadd (pc2 := 2725) w dL_law_2724 rfl ?_
    refine g_ialoadS (pc2 := 2726) w dL_law_2725 rfl rfl h2 ?_
    rw [sc2 _, e2]
    refine r_X11_meanPower (pc2 := 2729) w dL_law_2726 rfl hc2 rfl (hM.cx b1.2.1) hok ?_ ?_
    · intro d0 x3 y3 d1
      exact absurd d0 b0
    · intro d0 x3 y3 d1
      refine s_dstore (pc2 := 2731) w dL_law_2729 rfl rfl ?_
      dsimp only [gk_s1, gk_s2, gk_cl]
      refine s_aload_n (pc2 := 2732) w dL_law_2731 rfl rfl ?_
      refine r_X11_thrown (pc2 := 2735) w dL_law_2732 rfl hc3 rfl ?_
      rw [d1.2.1]
      refine s_iload (pc2 := 2737) w dL_law_2735 rfl rfl ?_
      refine s_ic_eq (pc2 := 2740) (tgt := 2742) w dL_law_2737 rfl (by decide) (fun _ => ?_) (fun h0 => absurd (rfl) h0)
      refine s_iload (pc2 := 2744) w dL_law_2742 rfl rfl ?_
      refine s_if_ne (pc2 := 2747) (tgt := 2779) w dL_law_2744 rfl (by decide) (fun _ => ?_) (fun h0 => absurd h0 (by decide))
      refine s_goto (tgt := 3095) w dL_law_2779 (by decide) ?_
      exact kk _ _ _ _ _ _ (by omega) (LI.st sc hT b1 (fun _ _ _ _ => rfl) d1 hok)

theorem lc_36 (w : gk_W cL_law pL cs (fun _ _ => none) rt uf (some Ls) K V) (hc1 : cs 274 = some (0, 0, 4, 2, S_L_crest)) (hc2 : cs 276 = some (1, 10, 3, 0, S_X11_crest)) (hc3 : cs 152 = some (1, 10, 1, 0, S_X11_thrown)) {a1 a2 : Int32} (h1 : vp_in (i + 1) Ls) (e1 : sv (i + 1).toNatClampNeg = a1) (h2 : vp_in (i + 2) Ls) (e2 : sv (i + 2).toNatClampNeg = a2) (hu : u + 6 ≤ uf) (hI : LI sv x y) (kk : ∀ (x2 : gk_X) (y2 : gk_Y) (q6 q7 q8 : Option Value) (u2 : Nat), u2 ≤ u + 6 → LI sv x2 y2 → V 3095 [some (.ref 5000), some (.ref 0), some (.ref 189), some (.ref 200), some (.ref 201), some (.int i), q6, q7, q8] [] 202 gk_fT x2 y2 u2) : V 2782 [some (.ref 5000), some (.ref 0), some (.ref 189), some (.ref 200), some (.ref 201), some (.int i), q6, q7, q8] [] 202 gk_fT x y u := by
  obtain ⟨sc, hT, g, hM, hR, hok⟩ := hI
  refine s_aload_n (pc2 := 2783) w dL_law_2782 rfl rfl ?_
  refine s_aload_n (pc2 := 2784) w dL_law_2783 rfl rfl ?_
  refine s_iload (pc2 := 2786) w dL_law_2784 rfl rfl ?_
  refine s_iconst (pc2 := 2787) (v := 1) w dL_law_2786 rfl rfl ?_
  refine s_iadd (pc2 := 2788) w dL_law_2787 rfl ?_
  refine g_ialoadS (pc2 := 2789) w dL_law_2788 rfl rfl h1 ?_
  rw [sc _, e1]
  refine s_aload_n (pc2 := 2790) w dL_law_2789 rfl rfl ?_
  refine s_iload (pc2 := 2792) w dL_law_2790 rfl rfl ?_
  refine s_iconst (pc2 := 2793) (v := 2) w dL_law_2792 rfl rfl ?_
  refine s_iadd (pc2 := 2794) w dL_law_2793 rfl ?_
  refine g_ialoadS (pc2 := 2795) w dL_law_2794 rfl rfl h2 ?_
  rw [sc _, e2]
  refine s_aload (pc2 := 2797) w dL_law_2795 rfl rfl ?_
  refine r_L_crest (pc2 := 2800) w dL_law_2797 rfl hc1 rfl (by omega) hR hok ?_ ?_
  · intro b0 x2 y2 b1
    have sc2 := sc.cx b1.2.1
    refine s_istore (pc2 := 2802) w dL_law_2800 rfl rfl ?_
    dsimp only [gk_s1, gk_s2, gk_cl]
    refine s_aload_n (pc2 := 2803) w dL_law_2802 rfl rfl ?_
    refine s_aload_n (pc2 := 2804) w dL_law_2803 rfl rfl ?_
    refine s_iload (pc2 := 2806) w dL_law_2804 rfl rfl ?_
    refine s_iconst (pc2 := 2807) (v := 1) w dL_law_2806 rfl rfl ?_
    refine s_iadd (pc2 := 2808) w dL_law_2807 rfl ?_
    refine g_ialoadS (pc2 := 2809) w dL_law_2808 rfl rfl h1 ?_
    rw [sc2 _, e1]
    refine s_aload_n (pc2 := 2810) w dL_law_2809 rfl rfl ?_
    refine s_iload (pc2 := 2812) w dL_law_2810 rfl rfl ?_
    refine s_iconst (pc2 := 2813) (v := 2) w dL_law_2812 rfl rfl ?_
    refine s_iadd (pc2 := 2814) w dL_law_2813 rfl ?_
    refine g_ialoadS (pc2 := 2815) w dL_law_2814 rfl rfl h2 ?_
    rw [sc2 _, e2]
    refine r_X11_crest (pc2 := 2818) w dL_law_2815 rfl hc2 rfl (hM.cx b1.2.1) hok ?_ ?_
    · intro d0 x3 y3 d1
      refine s_fstore (pc2 := 2820) w dL_law_2818 rfl rfl ?_
      dsimp only [gk_s1, gk_s2, gk_cl]
      refine s_aload_n (pc2 := 2821) w dL_law_2820 rfl rfl ?_
      refine r_X11_thrown (pc2 := 2824) w dL_law_2821 rfl hc3 rfl ?_
      rw [d1.2.1]
      refine s_iload (pc2 := 2826) w dL_law_2824 rfl rfl ?_
      refine s_ic_eq (pc2 := 2829) (tgt := 2831) w dL_law_2826 rfl (by decide) (fun _ => ?_) (fun h0 => absurd (rfl) h0)
      refine s_iload (pc2 := 2833) w dL_law_2831 rfl rfl ?_
      refine s_if_ne (pc2 := 2836) (tgt := 2869) w dL_law_2833 rfl (by decide) (fun h0 => absurd (rfl) h0) (fun _ => ?_)
      refine s_aload (pc2 := 2838) w dL_law_2836 rfl rfl ?_
      refine s_iconst (pc2 := 2839) (v := 0) w dL_law_2838 rfl rfl ?_
      refine m_daloadN (pc2 := 2840) (t := 0) (N := 1) w dL_law_2839 rfl rfl rfl rfl (by decide) rfl ?_
      rw [(d1.2.2.2 201 0 (by decide)).trans (gk_uy_in _ _ _ _)]
      refine s_fload (pc2 := 2842) w dL_law_2840 rfl rfl ?_
      refine s_f2d (pc2 := 2843) w dL_law_2842 rfl (f2d_n (crN hok b0)).2 ?_
      refine s_dcmp (pc2 := 2844) w dL_law_2843 rfl ?_
      refine s_if_eq (pc2 := 2847) (tgt := 2869) w dL_law_2844 rfl (by decide) (fun _ => ?_) (fun h0 => absurd (dc_self (f2d_n (crN hok b0)).1) h0)
      refine s_goto (tgt := 3095) w dL_law_2869 (by decide) ?_
      exact kk _ _ _ _ _ _ (by omega) (LI.st sc hT b1 (uy_out (Or.inr rfl)) d1 hok)
    · intro d0 x3 y3 d1
      exact absurd b0 d0
  · intro b0 x2 y2 b1
    have sc2 := sc.cx b1.2.1
    refine s_istore (pc2 := 2802) w dL_law_2800 rfl rfl ?_
    dsimp only [gk_s1, gk_s2, gk_cl]
    refine s_aload_n (pc2 := 2803) w dL_law_2802 rfl rfl ?_
    refine s_aload_n (pc2 := 2804) w dL_law_2803 rfl rfl ?_
    refine s_iload (pc2 := 2806) w dL_law_2804 rfl rfl ?_
    refine s_iconst (pc2 := 2807) (v := 1) w dL_law_2806 rfl rfl ?_
    refine s_iadd (pc2 := 2808) w dL_law_2807 rfl ?_
    refine g_ialoadS (pc2 := 2809) w dL_law_2808 rfl rfl h1 ?_
    rw [sc2 _, e1]
    refine s_aload_n (pc2 := 2810) w dL_law_2809 rfl rfl ?_
    refine s_iload (pc2 := 2812) w dL_law_2810 rfl rfl ?_
    refine s_iconst (pc2 := 2813) (v := 2) w dL_law_2812 rfl rfl ?_
    refine s_iadd (pc2 := 2814) w dL_law_2813 rfl ?_
    refine g_ialoadS (pc2 := 2815) w dL_law_2814 rfl rfl h2 ?_
    rw [sc2 _, e2]
    refine r_X11_crest (pc2 := 2818) w dL_law_2815 rfl hc2 rfl (hM.cx b1.2.1) hok ?_ ?_
    · intro d0 x3 y3 d1
      exact absurd d0 b0
    · intro d0 x3 y3 d1
      refine s_fstore (pc2 := 2820) w dL_law_2818 rfl rfl ?_
      dsimp only [gk_s1, gk_s2, gk_cl]
      refine s_aload_n (pc2 := 2821) w dL_law_2820 rfl rfl ?_
      refine r_X11_thrown (pc2 := 2824) w dL_law_2821 rfl hc3 rfl ?_
      rw [d1.2.1]
      refine s_iload (pc2 := 2826) w dL_law_2824 rfl rfl ?_
      refine s_ic_eq (pc2 := 2829) (tgt := 2831) w dL_law_2826 rfl (by decide) (fun _ => ?_) (fun h0 => absurd (rfl) h0)
      refine s_iload (pc2 := 2833) w dL_law_2831 rfl rfl ?_
      refine s_if_ne (pc2 := 2836) (tgt := 2869) w dL_law_2833 rfl (by decide) (fun _ => ?_) (fun h0 => absurd h0 (by decide))
      refine s_goto (tgt := 3095) w dL_law_2869 (by decide) ?_
      exact kk _ _ _ _ _ _ (by omega) (LI.st sc hT b1 (fun _ _ _ _ => rfl) d1 hok)

end GKV

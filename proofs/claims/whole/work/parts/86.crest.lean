/-! THE METHODS, 47: the crest of a beam -/
section GKV
variable {c : ByteArray} {P : gk_C} {cs : Nat → Option gk_M0} {rt : Option FieldType} {uf : Nat} {sc : Option Nat} {K : gk_K} {V : gk_V}
variable {L : List (Option Value)} {r : List Value} {n : Nat} {fl : gk_F} {x : gk_X} {y : gk_Y} {u pc pc2 : Nat}
theorem pk_nn (r : Nat → Int32) (a : Nat) : ∀ n, 0 ≤ (gk_pk r a n).toInt
  | 0 => by show 0 ≤ (0 : Int32).toInt; decide
  | n + 1 => by
    have h := pk_nn r a n
    show 0 ≤ (if gk_pk r a n < (if 0 ≤ r (a + n) then r (a + n) else 0 - r (a + n)) then (if 0 ≤ r (a + n) then r (a + n) else 0 - r (a + n)) else gk_pk r a n).toInt
    generalize (if 0 ≤ r (a + n) then r (a + n) else 0 - r (a + n)) = v
    by_cases q : gk_pk r a n < v
    · rw [if_pos q]
      rw [Int32.lt_iff_toInt_lt] at q
      omega
    · rw [if_neg q]
      exact h
def S_X10_crest : gk_S := fun as n fl x y K => ∃ (f : Int32) (l : Int32) (g : Nat → Int32), as = [.ref 0, .int f, .int l] ∧ (n = 202 ∧ fl = gk_fT) ∧ (RS 1 g x y) ∧ (gOK g) ∧ ((0 ≤ f ∧ f ≤ l ∧ l ≤ 255) → ∀ (x2 : gk_X) (y2 : gk_Y), COk g x x2 y y2 → K (.inl (some (.float (cR (gk_pk (gB g 0) (cN f) (cN l + 1 - cN f)) (gL (gE (gB g 0) (cN f) (cN l))) (nI (cN l + 1 - cN f)))))) n fl x2 y2) ∧ (¬ (0 ≤ f ∧ f ≤ l ∧ l ≤ 255) → ∀ (x2 : gk_X) (y2 : gk_Y), COk g x x2 y y2 → K (.inr 0) n fl x2 y2)
theorem r_X10_crest (w : gk_W c P cs (fun _ _ => none) rt uf sc K V) {idx : Nat} {f : Int32} {l : Int32} {g : Nat → Int32} (hd : decode c pc = .ok (.invokevirtual idx, 3)) (hp : pc + 3 = pc2) (hc : cs idx = some (1, 9, 3, 2, S_X10_crest)) (h8 : Nat.ble (r.map Value.category).sum 8 = true) (hu : u + 2 ≤ uf) (hp0 : RS 1 g x y) (hp1 : gOK g) (kk0 : (0 ≤ f ∧ f ≤ l ∧ l ≤ 255) → ∀ (x2 : gk_X) (y2 : gk_Y), COk g x x2 y y2 → V pc2 L ((.float (cR (gk_pk (gB g 0) (cN f) (cN l + 1 - cN f)) (gL (gE (gB g 0) (cN f) (cN l))) (nI (cN l + 1 - cN f)))) :: r) 202 gk_fT x2 y2 (u + 2)) (kk1 : ¬ (0 ≤ f ∧ f ≤ l ∧ l ≤ 255) → ∀ (x2 : gk_X) (y2 : gk_Y), COk g x x2 y y2 → K (.inr 0) 202 gk_fT x2 y2) : V pc L (.int l :: .int f :: .ref 0 :: r) 202 gk_fT x y u :=
  g_callv w hd hp hc (as := [.ref 0, .int f, .int l]) rfl h8 rfl rfl rfl (Or.inr (Or.inl ⟨Or.inl rfl, _, _, rfl, (gk_kd_j rfl rfl), rfl⟩)) (Or.inr hu) ⟨f, l, g, rfl, ⟨rfl, rfl⟩, hp0, hp1, kk0, kk1⟩
def L_X10_crest : List (Nat × gk_M0) := [(175, (0, 9, 2, 2, S_X10_requireWindow)), (233, (1, 0, 5, 0, S_X0_formBeam)), (250, (0, 0, 3, 0, S_X6_crestOf))]
def cs_X10_crest : Nat → Option gk_M0 := gk_lk L_X10_crest
theorem m_X10_crest : ∀ (as : List Value) (n : Nat) (fl : gk_F) (x : gk_X) (y : gk_Y) (K : gk_K), S_X10_crest as n fl x y K → (gk_L0 as).length ≤ 3 ∧ ∀ V : gk_V, gk_W cX10_crest pX10 cs_X10_crest (fun _ _ => none) (some .float) 2 none K V → V 0 (gk_en as 3) [] n fl x y 0 := by
  intro as n fl x y K hS
  obtain ⟨f, l, g, rfl, ⟨rfl, rfl⟩, hp0, hp1, q0, q1⟩ := hS
  refine ⟨Nat.le_of_ble_eq_true rfl, fun V w => ?_⟩
  show V 0 [some (.ref 0), some (.int f), some (.int l)] [] 202 gk_fT x y 0
  obtain ⟨nv4, ns6, nm8, z6, z7, z8⟩ := wf_n hp1.1
  have f0 := COk.ini hp0
  refine s_iload_n (pc2 := 1) w dX10_crest_0 rfl rfl ?_
  refine s_iload_n (pc2 := 2) w dX10_crest_1 rfl rfl ?_
  refine r_X10_requireWindow (pc2 := 5) w dX10_crest_2 rfl rfl rfl (Nat.le_of_ble_eq_true rfl) (fun h2 => ?_) (fun h => q1  (fun hc => h hc) _ _ f0)
  obtain ⟨a, e, rfl, rfl, ae, eh⟩ := ix_w h2
  rw [cN_n a (by omega), cN_n e (by omega)] at q0
  refine s_aload_n (pc2 := 6) w dX10_crest_5 rfl rfl ?_
  refine m_getR (pc2 := 9) (ci := 9) (k := 5) (j2 := 90) w dX10_crest_6 rfl rfl rfl rfl rfl rfl ?_
  refine s_aload_n (pc2 := 10) w dX10_crest_9 rfl rfl ?_
  refine m_getR (pc2 := 13) (ci := 9) (k := 0) (j2 := 1) w dX10_crest_10 rfl rfl rfl rfl rfl rfl ?_
  refine s_iconst (pc2 := 14) (v := 0) w dX10_crest_13 rfl rfl ?_
  refine s_iload_n (pc2 := 15) w dX10_crest_14 rfl rfl ?_
  refine s_iload_n (pc2 := 16) w dX10_crest_15 rfl rfl ?_
  refine r_X0_formBeam (pc2 := 19) (B := 0) w dX10_crest_16 rfl rfl rfl hp0 hp1.1 hp1.2.1 rfl (by omega) rfl rfl ae eh (fun x1 y1 hx1 hy1 => ?_)
  have f1 := fb_ok hp1.1 f0 hx1 hy1
  have hr : ∀ i, a ≤ i → i ≤ e → x1 91 i = gB g 0 i := fun i h1 h2 => (hx1 91 i (by decide)).trans ((gk_ur_in (by omega)).trans (if_pos ⟨h1, h2⟩))
  refine s_iload_n (pc2 := 20) w dX10_crest_19 rfl rfl ?_
  refine s_iload_n (pc2 := 21) w dX10_crest_20 rfl rfl ?_
  refine r_X6_crestOf (pc2 := 24) (a := a) (b := e) w dX10_crest_21 rfl rfl rfl rfl rfl rfl rfl ae eh (by rw [win_eI hr]; exact mp_e hp1 eh) (pk_nn _ _ _) ?_
  rw [win_eI hr, pk_cg (e + 1 - a) (fun k h1 h2 => hr k h1 (by omega))]
  refine s_freturn w dX10_crest_24 rfl ?_
  exact q0 h2 _ _ f1
theorem lk_X10_crest {l : Launch} (hl : l.stackTraces = false) : ∀ q ∈ L_X10_crest, (q.2.1 < 5 → gk_Lk l RX10 gk_W1 9 q.1 q.2.1 q.2.2.1 q.2.2.2.1 q.2.2.2.2.1 q.2.2.2.2.2) := (List.forall_mem_cons.mpr ⟨(fun _ => ⟨yX10_requireWindow, cX10_requireWindow, 2, none, 8, _, M_X10_requireWindow hl, ⟨by decide, by decide⟩, ⟨by decide, by decide, by decide +kernel⟩, ⟨(gk_wm 978 (by decide +kernel)), (gk_wm 89 (by decide +kernel))⟩, Or.inl ⟨rfl, rfl, (gk_wm 977 (by decide +kernel)), gk_wm 976 (by decide +kernel)⟩⟩), (List.forall_mem_cons.mpr ⟨(fun _ => ⟨yX0_formBeam, cX0_formBeam, 7, (some (.array .int)), 5, _, M_X0_formBeam hl, ⟨by decide, by decide⟩, ⟨by decide, by decide, by decide +kernel⟩, ⟨(gk_wm 1130 (by decide +kernel)), (gk_wm 95 (by decide +kernel))⟩, Or.inr (Or.inr (Or.inr (Or.inl ⟨rfl, rfl, (gk_wm 1128 (by decide +kernel)), (gk_wm 1129 (by decide +kernel)), gk_wm 1127 (by decide +kernel), by decide, rfl⟩)))⟩), (List.forall_mem_cons.mpr ⟨(fun _ => ⟨yX6_crestOf, cX6_crestOf, 7, (some .float), 2, _, M_X6_crestOf hl, ⟨by decide, by decide⟩, ⟨by decide, by decide, by decide +kernel⟩, ⟨(gk_wm 1217 (by decide +kernel)), (gk_wm 108 (by decide +kernel))⟩, Or.inl ⟨rfl, rfl, (gk_wm 1216 (by decide +kernel)), gk_wm 1215 (by decide +kernel)⟩⟩), (fun _ h => absurd h List.not_mem_nil)⟩)⟩)⟩)
theorem sp_X10_crest : ∀ q ∈ L_X10_crest, gk_Sq RX10 gk_W1 9 q := (List.forall_mem_cons.mpr ⟨⟨fun h => absurd h (by decide), fun h => absurd h (by decide), fun h => absurd h (by decide), fun h => absurd h (by decide), fun h => absurd h (by decide), fun h => absurd h (by decide)⟩, (List.forall_mem_cons.mpr ⟨⟨fun h => absurd h (by decide), fun h => absurd h (by decide), fun h => absurd h (by decide), fun h => absurd h (by decide), fun h => absurd h (by decide), fun h => absurd h (by decide)⟩, (List.forall_mem_cons.mpr ⟨⟨fun h => absurd h (by decide), fun h => absurd h (by decide), fun h => absurd h (by decide), fun h => absurd h (by decide), fun h => absurd h (by decide), fun h => absurd h (by decide)⟩, (fun _ h => absurd h List.not_mem_nil)⟩)⟩)⟩)
theorem M_X10_crest {l : Launch} (hl : l.stackTraces = false) : gk_Mt l yX10_crest (.code yX10_crest cX10_crest 3 (some .float) :: gk_W1) 9 2 S_X10_crest := gk_meth hl gk_cw_ok (by decide +kernel) rfl m_X10_crest pX10_ok (gk_Sp_of sp_X10_crest) pX10_st (fun ci m S h => absurd h (by intro h; cases h)) (xf_X10 (by decide)) (fun idx kd ci mm cost S2 h h5 => lk_X10_crest hl _ (gk_lk_mem h) h5)

def S_X11_crest : gk_S := fun as n fl x y K => ∃ (f : Int32) (l : Int32) (g : Nat → Int32), as = [.ref 189, .int f, .int l] ∧ (n = 202 ∧ fl = gk_fT) ∧ (MG g x) ∧ (gOK g) ∧ ((0 ≤ f ∧ f ≤ l ∧ l ≤ 255) → ∀ (x2 : gk_X) (y2 : gk_Y), MOk g 0 x x2 y y2 → K (.inl (some (.float (cR (gk_pk (gB g 0) (cN f) (cN l + 1 - cN f)) (gL (gE (gB g 0) (cN f) (cN l))) (nI (cN l + 1 - cN f)))))) n fl x2 y2) ∧ (¬ (0 ≤ f ∧ f ≤ l ∧ l ≤ 255) → ∀ (x2 : gk_X) (y2 : gk_Y), MOk g 1 x x2 y y2 → K (.inl (some (.float FP.fconst0))) n fl x2 y2)
theorem r_X11_crest (w : gk_W c P cs (fun _ _ => none) rt uf sc K V) {idx : Nat} {f : Int32} {l : Int32} {g : Nat → Int32} (hd : decode c pc = .ok (.invokevirtual idx, 3)) (hp : pc + 3 = pc2) (hc : cs idx = some (1, 10, 3, 0, S_X11_crest)) (h8 : Nat.ble (r.map Value.category).sum 8 = true) (hp0 : MG g x) (hp1 : gOK g) (kk0 : (0 ≤ f ∧ f ≤ l ∧ l ≤ 255) → ∀ (x2 : gk_X) (y2 : gk_Y), MOk g 0 x x2 y y2 → V pc2 L ((.float (cR (gk_pk (gB g 0) (cN f) (cN l + 1 - cN f)) (gL (gE (gB g 0) (cN f) (cN l))) (nI (cN l + 1 - cN f)))) :: r) 202 gk_fT x2 y2 u) (kk1 : ¬ (0 ≤ f ∧ f ≤ l ∧ l ≤ 255) → ∀ (x2 : gk_X) (y2 : gk_Y), MOk g 1 x x2 y y2 → V pc2 L ((.float FP.fconst0) :: r) 202 gk_fT x2 y2 u) : V pc L (.int l :: .int f :: .ref 189 :: r) 202 gk_fT x y u :=
  g_callv w hd hp hc (as := [.ref 189, .int f, .int l]) rfl h8 rfl rfl rfl (Or.inr (Or.inl ⟨Or.inl rfl, _, _, rfl, (gk_kd_j rfl rfl), rfl⟩)) (Or.inl rfl) ⟨f, l, g, rfl, ⟨rfl, rfl⟩, hp0, hp1, kk0, kk1⟩
def L_X11_crest : List (Nat × gk_M0) := [(184, (1, 10, 3, 0, S_X11_energyOf)), (188, (1, 10, 3, 0, S_X11_peakOf)), (200, (0, 10, 2, 0, S_X11_isWindow)), (250, (1, 10, 2, 0, S_X11_layBeam)), (268, (1, 10, 3, 0, S_X11_meanOf))]
def cs_X11_crest : Nat → Option gk_M0 := gk_lk L_X11_crest
theorem m_X11_crest : ∀ (as : List Value) (n : Nat) (fl : gk_F) (x : gk_X) (y : gk_Y) (K : gk_K), S_X11_crest as n fl x y K → (gk_L0 as).length ≤ 5 ∧ ∀ V : gk_V, gk_W cX11_crest pX11 cs_X11_crest (fun _ _ => none) (some .float) 0 none K V → V 0 (gk_en as 5) [] n fl x y 0 := by
  intro as n fl x y K hS
  obtain ⟨f, l, g, rfl, ⟨rfl, rfl⟩, hp0, hp1, q0, q1⟩ := hS
  refine ⟨Nat.le_of_ble_eq_true rfl, fun V w => ?_⟩
  show V 0 [some (.ref 189), some (.int f), some (.int l), none, none] [] 202 gk_fT x y 0
  obtain ⟨nv4, ns6, nm8, z6, z7, z8⟩ := wf_n hp1.1
  have w6 : 0 ≤ (g 6).toInt := by show 0 ≤ gz g 6; omega
  have w7 : 0 ≤ (g 7).toInt := by show 0 ≤ gz g 7; omega
  have w8 : 0 ≤ (g 8).toInt := by show 0 ≤ gz g 8; omega
  refine s_aload_n (pc2 := 1) w dX11_crest_0 rfl rfl ?_
  refine s_iconst (pc2 := 2) (v := 0) w dX11_crest_1 rfl rfl ?_
  refine m_putI (pc2 := 5) (ci := 10) (k := 4) w dX11_crest_2 rfl rfl rfl rfl rfl (by intro h; cases h) ?_
  have f0 := MOk.ini (y := y) hp0
  generalize gk_up x 189 4 0 = x0 at f0 ⊢
  refine s_iload_n (pc2 := 6) w dX11_crest_5 rfl rfl ?_
  refine s_iload_n (pc2 := 7) w dX11_crest_6 rfl rfl ?_
  refine r_X11_isWindow (pc2 := 10) w dX11_crest_7 rfl rfl rfl ?_
  refine s_if_ne (pc2 := 13) (tgt := 20) w dX11_crest_10 rfl (by decide) (fun c10 => ?_) (fun c10 => ?_)
  · rw [g_b0, Classical.not_not] at c10
    obtain ⟨a, e, rfl, rfl, ae, eh⟩ := ix_w c10
    rw [cN_n a (by omega), cN_n e (by omega)] at q0
    refine s_aload_n (pc2 := 21) w dX11_crest_20 rfl rfl ?_
    refine s_iconst (pc2 := 22) (v := 0) w dX11_crest_21 rfl rfl ?_
    refine r_X11_layBeam (pc2 := 25) (B := 0) w dX11_crest_22 rfl rfl rfl f0.1 hp1.1 hp1.2.1 rfl (by omega) (fun x1 hx1 => ?_)
    have f1 : MOk g 0 x x1 y y := f0.ge (fun i k h => (hx1 i k (by omega) (by omega) (by omega)).trans (gk_ur_ne (by omega)))
    have hr : ∀ k, k < 256 → x1 196 k = gB g 0 k := fun k hk => (hx1 196 k (by decide) (by decide) (by decide)).trans (gk_ur_in hk)
    refine s_aload_n (pc2 := 26) w dX11_crest_25 rfl rfl ?_
    refine s_iload_n (pc2 := 27) w dX11_crest_26 rfl rfl ?_
    refine s_iload_n (pc2 := 28) w dX11_crest_27 rfl rfl ?_
    refine r_X11_peakOf (pc2 := 31) (a := a) (b := e) w dX11_crest_28 rfl rfl rfl rfl rfl (by omega) eh ?_
    rw [pk_cg (e + 1 - a) (fun k h1 h2 => hr k (by omega))]
    refine s_i2d (pc2 := 32) w dX11_crest_31 rfl ?_
    refine s_dstore_n (pc2 := 33) (k2 := 3) w dX11_crest_32 rfl rfl rfl ?_
    dsimp only [gk_s1, gk_s2, gk_cl]
    refine s_aload_n (pc2 := 34) w dX11_crest_33 rfl rfl ?_
    refine s_iload_n (pc2 := 35) w dX11_crest_34 rfl rfl ?_
    refine s_iload_n (pc2 := 36) w dX11_crest_35 rfl rfl ?_
    refine r_X11_energyOf (pc2 := 39) (a := a) (b := e) w dX11_crest_36 rfl rfl rfl rfl rfl (by omega) eh ?_
    rw [row_eI hr eh]
    refine s_lconst (pc2 := 40) (v := 0) w dX11_crest_39 rfl rfl ?_
    refine s_lcmp (pc2 := 41) w dX11_crest_40 rfl ?_
    refine s_if_ne (pc2 := 44) (tgt := 48) w dX11_crest_41 rfl (by decide) (fun c41 => ?_) (fun c41 => ?_)
    · have h0 := fun e => c41 ((lc_eq _ _).mpr e)
      have hQ := cQ_n (pk_nn (gB g 0) a (e + 1 - a)) (mp_e hp1 eh) h0 (wl1 ae eh)
      refine s_dload_n (pc2 := 49) w dX11_crest_48 rfl rfl ?_
      refine s_dload_n (pc2 := 50) w dX11_crest_49 rfl rfl ?_
      refine s_dmul (pc2 := 51) w dX11_crest_50 rfl (pp_n (pk_nn _ _ _)) ?_
      refine s_aload_n (pc2 := 52) w dX11_crest_51 rfl rfl ?_
      refine s_iload_n (pc2 := 53) w dX11_crest_52 rfl rfl ?_
      refine s_iload_n (pc2 := 54) w dX11_crest_53 rfl rfl ?_
      refine r_X11_meanOf (pc2 := 57) (a := a) (b := e) w dX11_crest_54 rfl rfl rfl rfl rfl ae eh (by rw [row_eI hr eh]; exact mp_e hp1 eh) ?_
      rw [row_eI hr eh]
      refine s_ddiv (pc2 := 58) w dX11_crest_57 rfl hQ.2 ?_
      refine s_d2f (pc2 := 59) w dX11_crest_58 rfl (d2f_n hQ.1).2 ?_
      refine s_freturn w dX11_crest_59 rfl ?_
      rw [cR, if_neg h0] at q0
      exact q0 c10 _ _ f1
    · refine s_fconst (pc2 := 45) w dX11_crest_44 rfl ?_
      refine s_goto (tgt := 59) w dX11_crest_45 (by decide) ?_
      refine s_freturn w dX11_crest_59 rfl ?_
      rw [cR, if_pos ((lc_eq _ _).mp c41)] at q0
      exact q0 c10 _ _ f1
  · refine s_aload_n (pc2 := 14) w dX11_crest_13 rfl rfl ?_
    refine s_iconst (pc2 := 15) (v := 1) w dX11_crest_14 rfl rfl ?_
    refine m_putI (pc2 := 18) (ci := 10) (k := 4) w dX11_crest_15 rfl rfl rfl rfl rfl (by intro h; cases h) ?_
    refine s_fconst (pc2 := 19) w dX11_crest_18 rfl ?_
    refine s_freturn w dX11_crest_19 rfl ?_
    rw [g_b0] at c10
    exact q1  (fun hc => c10 hc) _ _ (f0.fail 1)
theorem lk_X11_crest {l : Launch} (hl : l.stackTraces = false) : ∀ q ∈ L_X11_crest, (q.2.1 < 5 → gk_Lk l RX11 gk_W1 6 q.1 q.2.1 q.2.2.1 q.2.2.2.1 q.2.2.2.2.1 q.2.2.2.2.2) := (List.forall_mem_cons.mpr ⟨(fun _ => ⟨yX11_energyOf, cX11_energyOf, 6, (some .long), 0, _, M_X11_energyOf hl, ⟨by decide, by decide⟩, ⟨by decide, by decide, by decide +kernel⟩, ⟨(gk_wm 1537 (by decide +kernel)), (gk_wm 99 (by decide +kernel))⟩, Or.inr (Or.inr (Or.inr (Or.inl ⟨rfl, rfl, (gk_wm 1536 (by decide +kernel)), (gk_wm 57 (by decide +kernel)), gk_wm 1534 (by decide +kernel), by decide, rfl⟩)))⟩), (List.forall_mem_cons.mpr ⟨(fun _ => ⟨yX11_peakOf, cX11_peakOf, 5, (some .int), 1, _, M_X11_peakOf hl, ⟨by decide, by decide⟩, ⟨by decide, by decide, by decide +kernel⟩, ⟨(gk_wm 1541 (by decide +kernel)), (gk_wm 99 (by decide +kernel))⟩, Or.inr (Or.inr (Or.inr (Or.inl ⟨rfl, rfl, (gk_wm 1540 (by decide +kernel)), (gk_wm 58 (by decide +kernel)), gk_wm 1538 (by decide +kernel), by decide, rfl⟩)))⟩), (List.forall_mem_cons.mpr ⟨(fun _ => ⟨yX11_isWindow, cX11_isWindow, 2, (some .boolean), 2, _, M_X11_isWindow hl, ⟨by decide, by decide⟩, ⟨by decide, by decide, by decide +kernel⟩, ⟨(gk_wm 1525 (by decide +kernel)), (gk_wm 99 (by decide +kernel))⟩, Or.inl ⟨rfl, rfl, (gk_wm 1524 (by decide +kernel)), gk_wm 1523 (by decide +kernel)⟩⟩), (List.forall_mem_cons.mpr ⟨(fun _ => ⟨yX11_layBeam, cX11_layBeam, 3, none, 5, _, M_X11_layBeam hl, ⟨by decide, by decide⟩, ⟨by decide, by decide, by decide +kernel⟩, ⟨(gk_wm 1640 (by decide +kernel)), (gk_wm 99 (by decide +kernel))⟩, Or.inr (Or.inr (Or.inr (Or.inl ⟨rfl, rfl, (gk_wm 1639 (by decide +kernel)), (gk_wm 69 (by decide +kernel)), gk_wm 1637 (by decide +kernel), by decide, rfl⟩)))⟩), (List.forall_mem_cons.mpr ⟨(fun _ => ⟨yX11_meanOf, cX11_meanOf, 3, (some .double), 1, _, M_X11_meanOf hl, ⟨by decide, by decide⟩, ⟨by decide, by decide, by decide +kernel⟩, ⟨(gk_wm 1703 (by decide +kernel)), (gk_wm 99 (by decide +kernel))⟩, Or.inr (Or.inr (Or.inr (Or.inl ⟨rfl, rfl, (gk_wm 1702 (by decide +kernel)), (gk_wm 76 (by decide +kernel)), gk_wm 1700 (by decide +kernel), by decide, rfl⟩)))⟩), (fun _ h => absurd h List.not_mem_nil)⟩)⟩)⟩)⟩)⟩)
theorem sp_X11_crest : ∀ q ∈ L_X11_crest, gk_Sq RX11 gk_W1 6 q := (List.forall_mem_cons.mpr ⟨⟨fun h => absurd h (by decide), fun h => absurd h (by decide), fun h => absurd h (by decide), fun h => absurd h (by decide), fun h => absurd h (by decide), fun h => absurd h (by decide)⟩, (List.forall_mem_cons.mpr ⟨⟨fun h => absurd h (by decide), fun h => absurd h (by decide), fun h => absurd h (by decide), fun h => absurd h (by decide), fun h => absurd h (by decide), fun h => absurd h (by decide)⟩, (List.forall_mem_cons.mpr ⟨⟨fun h => absurd h (by decide), fun h => absurd h (by decide), fun h => absurd h (by decide), fun h => absurd h (by decide), fun h => absurd h (by decide), fun h => absurd h (by decide)⟩, (List.forall_mem_cons.mpr ⟨⟨fun h => absurd h (by decide), fun h => absurd h (by decide), fun h => absurd h (by decide), fun h => absurd h (by decide), fun h => absurd h (by decide), fun h => absurd h (by decide)⟩, (List.forall_mem_cons.mpr ⟨⟨fun h => absurd h (by decide), fun h => absurd h (by decide), fun h => absurd h (by decide), fun h => absurd h (by decide), fun h => absurd h (by decide), fun h => absurd h (by decide)⟩, (fun _ h => absurd h List.not_mem_nil)⟩)⟩)⟩)⟩)⟩)
theorem M_X11_crest {l : Launch} (hl : l.stackTraces = false) : gk_Mt l yX11_crest (.code yX11_crest cX11_crest 5 (some .float) :: gk_W1) 6 0 S_X11_crest := gk_meth hl gk_cw_ok (by decide +kernel) rfl m_X11_crest pX11_ok (gk_Sp_of sp_X11_crest) pX11_st (fun ci m S h => absurd h (by intro h; cases h)) (xf_X11 6) (fun idx kd ci mm cost S2 h h5 => lk_X11_crest hl _ (gk_lk_mem h) h5)

end GKV

/-! THE METHODS, 46: the mean power of a beam -/
section GKV
variable {c : ByteArray} {P : gk_C} {cs : Nat → Option gk_M0} {rt : Option FieldType} {uf : Nat} {sc : Option Nat} {K : gk_K} {V : gk_V}
variable {L : List (Option Value)} {r : List Value} {n : Nat} {fl : gk_F} {x : gk_X} {y : gk_Y} {u pc pc2 : Nat}
theorem mp_e {g : Nat → Int32} {a e : Nat} (h : gOK g) (he : e < 256) : 0 ≤ (gL (gE (gB g 0) a e)).toInt := by
  obtain ⟨h1, h2⟩ := gE_b (r := gB g 0) (a := a) (fun k hk => gB_b h.1 h.2.1 (B := 0) (by omega) hk) he
  unfold gL
  rw [Int64.toInt_ofInt_of_le (by omega) (by omega)]
  exact h1
def S_X10_meanPower : gk_S := fun as n fl x y K => ∃ (f : Int32) (l : Int32) (g : Nat → Int32), as = [.ref 0, .int f, .int l] ∧ (n = 202 ∧ fl = gk_fT) ∧ (RS 1 g x y) ∧ (gOK g) ∧ ((0 ≤ f ∧ f ≤ l ∧ l ≤ 255) → ∀ (x2 : gk_X) (y2 : gk_Y), COk g x x2 y y2 → K (.inl (some (.double (mP (gL (gE (gB g 0) (cN f) (cN l))) (nI (cN l + 1 - cN f)))))) n fl x2 y2) ∧ (¬ (0 ≤ f ∧ f ≤ l ∧ l ≤ 255) → ∀ (x2 : gk_X) (y2 : gk_Y), COk g x x2 y y2 → K (.inr 0) n fl x2 y2)
theorem r_X10_meanPower (w : gk_W c P cs (fun _ _ => none) rt uf sc K V) {idx : Nat} {f : Int32} {l : Int32} {g : Nat → Int32} (hd : decode c pc = .ok (.invokevirtual idx, 3)) (hp : pc + 3 = pc2) (hc : cs idx = some (1, 9, 3, 2, S_X10_meanPower)) (h8 : Nat.ble (r.map Value.category).sum 8 = true) (hu : u + 2 ≤ uf) (hp0 : RS 1 g x y) (hp1 : gOK g) (kk0 : (0 ≤ f ∧ f ≤ l ∧ l ≤ 255) → ∀ (x2 : gk_X) (y2 : gk_Y), COk g x x2 y y2 → V pc2 L ((.double (mP (gL (gE (gB g 0) (cN f) (cN l))) (nI (cN l + 1 - cN f)))) :: r) 202 gk_fT x2 y2 (u + 2)) (kk1 : ¬ (0 ≤ f ∧ f ≤ l ∧ l ≤ 255) → ∀ (x2 : gk_X) (y2 : gk_Y), COk g x x2 y y2 → K (.inr 0) 202 gk_fT x2 y2) : V pc L (.int l :: .int f :: .ref 0 :: r) 202 gk_fT x y u :=
  g_callv w hd hp hc (as := [.ref 0, .int f, .int l]) rfl h8 rfl rfl rfl (Or.inr (Or.inl ⟨Or.inl rfl, _, _, rfl, (gk_kd_j rfl rfl), rfl⟩)) (Or.inr hu) ⟨f, l, g, rfl, ⟨rfl, rfl⟩, hp0, hp1, kk0, kk1⟩
def L_X10_meanPower : List (Nat × gk_M0) := [(175, (0, 9, 2, 2, S_X10_requireWindow)), (233, (1, 0, 5, 0, S_X0_formBeam)), (246, (0, 0, 3, 0, S_X6_meanPowerOf))]
def cs_X10_meanPower : Nat → Option gk_M0 := gk_lk L_X10_meanPower
theorem m_X10_meanPower : ∀ (as : List Value) (n : Nat) (fl : gk_F) (x : gk_X) (y : gk_Y) (K : gk_K), S_X10_meanPower as n fl x y K → (gk_L0 as).length ≤ 3 ∧ ∀ V : gk_V, gk_W cX10_meanPower pX10 cs_X10_meanPower (fun _ _ => none) (some .double) 2 none K V → V 0 (gk_en as 3) [] n fl x y 0 := by
  intro as n fl x y K hS
  obtain ⟨f, l, g, rfl, ⟨rfl, rfl⟩, hp0, hp1, q0, q1⟩ := hS
  refine ⟨Nat.le_of_ble_eq_true rfl, fun V w => ?_⟩
  show V 0 [some (.ref 0), some (.int f), some (.int l)] [] 202 gk_fT x y 0
  obtain ⟨nv4, ns6, nm8, z6, z7, z8⟩ := wf_n hp1.1
  have f0 := COk.ini hp0
  refine s_iload_n (pc2 := 1) w dX10_meanPower_0 rfl rfl ?_
  refine s_iload_n (pc2 := 2) w dX10_meanPower_1 rfl rfl ?_
  refine r_X10_requireWindow (pc2 := 5) w dX10_meanPower_2 rfl rfl rfl (Nat.le_of_ble_eq_true rfl) (fun h2 => ?_) (fun h => q1  (fun hc => h hc) _ _ f0)
  obtain ⟨a, e, rfl, rfl, ae, eh⟩ := ix_w h2
  rw [cN_n a (by omega), cN_n e (by omega)] at q0
  refine s_aload_n (pc2 := 6) w dX10_meanPower_5 rfl rfl ?_
  refine m_getR (pc2 := 9) (ci := 9) (k := 5) (j2 := 90) w dX10_meanPower_6 rfl rfl rfl rfl rfl rfl ?_
  refine s_aload_n (pc2 := 10) w dX10_meanPower_9 rfl rfl ?_
  refine m_getR (pc2 := 13) (ci := 9) (k := 0) (j2 := 1) w dX10_meanPower_10 rfl rfl rfl rfl rfl rfl ?_
  refine s_iconst (pc2 := 14) (v := 0) w dX10_meanPower_13 rfl rfl ?_
  refine s_iload_n (pc2 := 15) w dX10_meanPower_14 rfl rfl ?_
  refine s_iload_n (pc2 := 16) w dX10_meanPower_15 rfl rfl ?_
  refine r_X0_formBeam (pc2 := 19) (B := 0) w dX10_meanPower_16 rfl rfl rfl hp0 hp1.1 hp1.2.1 rfl (by omega) rfl rfl ae eh (fun x1 y1 hx1 hy1 => ?_)
  have f1 := fb_ok hp1.1 f0 hx1 hy1
  have hr : ∀ i, a ≤ i → i ≤ e → x1 91 i = gB g 0 i := fun i h1 h2 => (hx1 91 i (by decide)).trans ((gk_ur_in (by omega)).trans (if_pos ⟨h1, h2⟩))
  refine s_iload_n (pc2 := 20) w dX10_meanPower_19 rfl rfl ?_
  refine s_iload_n (pc2 := 21) w dX10_meanPower_20 rfl rfl ?_
  refine r_X6_meanPowerOf (pc2 := 24) (a := a) (b := e) w dX10_meanPower_21 rfl rfl rfl rfl rfl rfl rfl ae eh (by rw [win_eI hr]; exact mp_e hp1 eh) ?_
  rw [win_eI hr]
  refine s_dreturn w dX10_meanPower_24 rfl ?_
  exact q0 h2 _ _ f1
theorem lk_X10_meanPower {l : Launch} (hl : l.stackTraces = false) : ∀ q ∈ L_X10_meanPower, (q.2.1 < 5 → gk_Lk l RX10 gk_W1 9 q.1 q.2.1 q.2.2.1 q.2.2.2.1 q.2.2.2.2.1 q.2.2.2.2.2) := (List.forall_mem_cons.mpr ⟨(fun _ => ⟨yX10_requireWindow, cX10_requireWindow, 2, none, 8, _, M_X10_requireWindow hl, ⟨by decide, by decide⟩, ⟨by decide, by decide, by decide +kernel⟩, ⟨(gk_wm 978 (by decide +kernel)), (gk_wm 89 (by decide +kernel))⟩, Or.inl ⟨rfl, rfl, (gk_wm 977 (by decide +kernel)), gk_wm 976 (by decide +kernel)⟩⟩), (List.forall_mem_cons.mpr ⟨(fun _ => ⟨yX0_formBeam, cX0_formBeam, 7, (some (.array .int)), 5, _, M_X0_formBeam hl, ⟨by decide, by decide⟩, ⟨by decide, by decide, by decide +kernel⟩, ⟨(gk_wm 1130 (by decide +kernel)), (gk_wm 95 (by decide +kernel))⟩, Or.inr (Or.inr (Or.inr (Or.inl ⟨rfl, rfl, (gk_wm 1128 (by decide +kernel)), (gk_wm 1129 (by decide +kernel)), gk_wm 1127 (by decide +kernel), by decide, rfl⟩)))⟩), (List.forall_mem_cons.mpr ⟨(fun _ => ⟨yX6_meanPowerOf, cX6_meanPowerOf, 4, (some .double), 1, _, M_X6_meanPowerOf hl, ⟨by decide, by decide⟩, ⟨by decide, by decide, by decide +kernel⟩, ⟨(gk_wm 1207 (by decide +kernel)), (gk_wm 108 (by decide +kernel))⟩, Or.inl ⟨rfl, rfl, (gk_wm 1206 (by decide +kernel)), gk_wm 1205 (by decide +kernel)⟩⟩), (fun _ h => absurd h List.not_mem_nil)⟩)⟩)⟩)
theorem sp_X10_meanPower : ∀ q ∈ L_X10_meanPower, gk_Sq RX10 gk_W1 9 q := (List.forall_mem_cons.mpr ⟨⟨fun h => absurd h (by decide), fun h => absurd h (by decide), fun h => absurd h (by decide), fun h => absurd h (by decide), fun h => absurd h (by decide), fun h => absurd h (by decide)⟩, (List.forall_mem_cons.mpr ⟨⟨fun h => absurd h (by decide), fun h => absurd h (by decide), fun h => absurd h (by decide), fun h => absurd h (by decide), fun h => absurd h (by decide), fun h => absurd h (by decide)⟩, (List.forall_mem_cons.mpr ⟨⟨fun h => absurd h (by decide), fun h => absurd h (by decide), fun h => absurd h (by decide), fun h => absurd h (by decide), fun h => absurd h (by decide), fun h => absurd h (by decide)⟩, (fun _ h => absurd h List.not_mem_nil)⟩)⟩)⟩)
theorem M_X10_meanPower {l : Launch} (hl : l.stackTraces = false) : gk_Mt l yX10_meanPower (.code yX10_meanPower cX10_meanPower 3 (some .double) :: gk_W1) 9 2 S_X10_meanPower := gk_meth hl gk_cw_ok (by decide +kernel) rfl m_X10_meanPower pX10_ok (gk_Sp_of sp_X10_meanPower) pX10_st (fun ci m S h => absurd h (by intro h; cases h)) (xf_X10 (by decide)) (fun idx kd ci mm cost S2 h h5 => lk_X10_meanPower hl _ (gk_lk_mem h) h5)

def S_X11_meanPower : gk_S := fun as n fl x y K => ∃ (f : Int32) (l : Int32) (g : Nat → Int32), as = [.ref 189, .int f, .int l] ∧ (n = 202 ∧ fl = gk_fT) ∧ (MG g x) ∧ (gOK g) ∧ ((0 ≤ f ∧ f ≤ l ∧ l ≤ 255) → ∀ (x2 : gk_X) (y2 : gk_Y), MOk g 0 x x2 y y2 → K (.inl (some (.double (mP (gL (gE (gB g 0) (cN f) (cN l))) (nI (cN l + 1 - cN f)))))) n fl x2 y2) ∧ (¬ (0 ≤ f ∧ f ≤ l ∧ l ≤ 255) → ∀ (x2 : gk_X) (y2 : gk_Y), MOk g 1 x x2 y y2 → K (.inl (some (.double FP.dconst0))) n fl x2 y2)
theorem r_X11_meanPower (w : gk_W c P cs (fun _ _ => none) rt uf sc K V) {idx : Nat} {f : Int32} {l : Int32} {g : Nat → Int32} (hd : decode c pc = .ok (.invokevirtual idx, 3)) (hp : pc + 3 = pc2) (hc : cs idx = some (1, 10, 3, 0, S_X11_meanPower)) (h8 : Nat.ble (r.map Value.category).sum 8 = true) (hp0 : MG g x) (hp1 : gOK g) (kk0 : (0 ≤ f ∧ f ≤ l ∧ l ≤ 255) → ∀ (x2 : gk_X) (y2 : gk_Y), MOk g 0 x x2 y y2 → V pc2 L ((.double (mP (gL (gE (gB g 0) (cN f) (cN l))) (nI (cN l + 1 - cN f)))) :: r) 202 gk_fT x2 y2 u) (kk1 : ¬ (0 ≤ f ∧ f ≤ l ∧ l ≤ 255) → ∀ (x2 : gk_X) (y2 : gk_Y), MOk g 1 x x2 y y2 → V pc2 L ((.double FP.dconst0) :: r) 202 gk_fT x2 y2 u) : V pc L (.int l :: .int f :: .ref 189 :: r) 202 gk_fT x y u :=
  g_callv w hd hp hc (as := [.ref 189, .int f, .int l]) rfl h8 rfl rfl rfl (Or.inr (Or.inl ⟨Or.inl rfl, _, _, rfl, (gk_kd_j rfl rfl), rfl⟩)) (Or.inl rfl) ⟨f, l, g, rfl, ⟨rfl, rfl⟩, hp0, hp1, kk0, kk1⟩
def L_X11_meanPower : List (Nat × gk_M0) := [(200, (0, 10, 2, 0, S_X11_isWindow)), (250, (1, 10, 2, 0, S_X11_layBeam)), (268, (1, 10, 3, 0, S_X11_meanOf))]
def cs_X11_meanPower : Nat → Option gk_M0 := gk_lk L_X11_meanPower
theorem m_X11_meanPower : ∀ (as : List Value) (n : Nat) (fl : gk_F) (x : gk_X) (y : gk_Y) (K : gk_K), S_X11_meanPower as n fl x y K → (gk_L0 as).length ≤ 3 ∧ ∀ V : gk_V, gk_W cX11_meanPower pX11 cs_X11_meanPower (fun _ _ => none) (some .double) 0 none K V → V 0 (gk_en as 3) [] n fl x y 0 := by
  intro as n fl x y K hS
  obtain ⟨f, l, g, rfl, ⟨rfl, rfl⟩, hp0, hp1, q0, q1⟩ := hS
  refine ⟨Nat.le_of_ble_eq_true rfl, fun V w => ?_⟩
  show V 0 [some (.ref 189), some (.int f), some (.int l)] [] 202 gk_fT x y 0
  obtain ⟨nv4, ns6, nm8, z6, z7, z8⟩ := wf_n hp1.1
  have w6 : 0 ≤ (g 6).toInt := by show 0 ≤ gz g 6; omega
  have w7 : 0 ≤ (g 7).toInt := by show 0 ≤ gz g 7; omega
  have w8 : 0 ≤ (g 8).toInt := by show 0 ≤ gz g 8; omega
  refine s_aload_n (pc2 := 1) w dX11_meanPower_0 rfl rfl ?_
  refine s_iconst (pc2 := 2) (v := 0) w dX11_meanPower_1 rfl rfl ?_
  refine m_putI (pc2 := 5) (ci := 10) (k := 4) w dX11_meanPower_2 rfl rfl rfl rfl rfl (by intro h; cases h) ?_
  have f0 := MOk.ini (y := y) hp0
  generalize gk_up x 189 4 0 = x0 at f0 ⊢
  refine s_iload_n (pc2 := 6) w dX11_meanPower_5 rfl rfl ?_
  refine s_iload_n (pc2 := 7) w dX11_meanPower_6 rfl rfl ?_
  refine r_X11_isWindow (pc2 := 10) w dX11_meanPower_7 rfl rfl rfl ?_
  refine s_if_ne (pc2 := 13) (tgt := 20) w dX11_meanPower_10 rfl (by decide) (fun c10 => ?_) (fun c10 => ?_)
  · rw [g_b0, Classical.not_not] at c10
    obtain ⟨a, e, rfl, rfl, ae, eh⟩ := ix_w c10
    rw [cN_n a (by omega), cN_n e (by omega)] at q0
    refine s_aload_n (pc2 := 21) w dX11_meanPower_20 rfl rfl ?_
    refine s_iconst (pc2 := 22) (v := 0) w dX11_meanPower_21 rfl rfl ?_
    refine r_X11_layBeam (pc2 := 25) (B := 0) w dX11_meanPower_22 rfl rfl rfl f0.1 hp1.1 hp1.2.1 rfl (by omega) (fun x1 hx1 => ?_)
    have f1 : MOk g 0 x x1 y y := f0.ge (fun i k h => (hx1 i k (by omega) (by omega) (by omega)).trans (gk_ur_ne (by omega)))
    have hr : ∀ k, k < 256 → x1 196 k = gB g 0 k := fun k hk => (hx1 196 k (by decide) (by decide) (by decide)).trans (gk_ur_in hk)
    refine s_aload_n (pc2 := 26) w dX11_meanPower_25 rfl rfl ?_
    refine s_iload_n (pc2 := 27) w dX11_meanPower_26 rfl rfl ?_
    refine s_iload_n (pc2 := 28) w dX11_meanPower_27 rfl rfl ?_
    refine r_X11_meanOf (pc2 := 31) (a := a) (b := e) w dX11_meanPower_28 rfl rfl rfl rfl rfl ae eh (by rw [row_eI hr eh]; exact mp_e hp1 eh) ?_
    rw [row_eI hr eh]
    refine s_dreturn w dX11_meanPower_31 rfl ?_
    exact q0 c10 _ _ f1
  · refine s_aload_n (pc2 := 14) w dX11_meanPower_13 rfl rfl ?_
    refine s_iconst (pc2 := 15) (v := 1) w dX11_meanPower_14 rfl rfl ?_
    refine m_putI (pc2 := 18) (ci := 10) (k := 4) w dX11_meanPower_15 rfl rfl rfl rfl rfl (by intro h; cases h) ?_
    refine s_dconst (pc2 := 19) w dX11_meanPower_18 rfl ?_
    refine s_dreturn w dX11_meanPower_19 rfl ?_
    rw [g_b0] at c10
    exact q1  (fun hc => c10 hc) _ _ (f0.fail 1)
theorem lk_X11_meanPower {l : Launch} (hl : l.stackTraces = false) : ∀ q ∈ L_X11_meanPower, (q.2.1 < 5 → gk_Lk l RX11 gk_W1 6 q.1 q.2.1 q.2.2.1 q.2.2.2.1 q.2.2.2.2.1 q.2.2.2.2.2) := (List.forall_mem_cons.mpr ⟨(fun _ => ⟨yX11_isWindow, cX11_isWindow, 2, (some .boolean), 2, _, M_X11_isWindow hl, ⟨by decide, by decide⟩, ⟨by decide, by decide, by decide +kernel⟩, ⟨(gk_wm 1525 (by decide +kernel)), (gk_wm 99 (by decide +kernel))⟩, Or.inl ⟨rfl, rfl, (gk_wm 1524 (by decide +kernel)), gk_wm 1523 (by decide +kernel)⟩⟩), (List.forall_mem_cons.mpr ⟨(fun _ => ⟨yX11_layBeam, cX11_layBeam, 3, none, 5, _, M_X11_layBeam hl, ⟨by decide, by decide⟩, ⟨by decide, by decide, by decide +kernel⟩, ⟨(gk_wm 1640 (by decide +kernel)), (gk_wm 99 (by decide +kernel))⟩, Or.inr (Or.inr (Or.inr (Or.inl ⟨rfl, rfl, (gk_wm 1639 (by decide +kernel)), (gk_wm 69 (by decide +kernel)), gk_wm 1637 (by decide +kernel), by decide, rfl⟩)))⟩), (List.forall_mem_cons.mpr ⟨(fun _ => ⟨yX11_meanOf, cX11_meanOf, 3, (some .double), 1, _, M_X11_meanOf hl, ⟨by decide, by decide⟩, ⟨by decide, by decide, by decide +kernel⟩, ⟨(gk_wm 1703 (by decide +kernel)), (gk_wm 99 (by decide +kernel))⟩, Or.inr (Or.inr (Or.inr (Or.inl ⟨rfl, rfl, (gk_wm 1702 (by decide +kernel)), (gk_wm 76 (by decide +kernel)), gk_wm 1700 (by decide +kernel), by decide, rfl⟩)))⟩), (fun _ h => absurd h List.not_mem_nil)⟩)⟩)⟩)
theorem sp_X11_meanPower : ∀ q ∈ L_X11_meanPower, gk_Sq RX11 gk_W1 6 q := (List.forall_mem_cons.mpr ⟨⟨fun h => absurd h (by decide), fun h => absurd h (by decide), fun h => absurd h (by decide), fun h => absurd h (by decide), fun h => absurd h (by decide), fun h => absurd h (by decide)⟩, (List.forall_mem_cons.mpr ⟨⟨fun h => absurd h (by decide), fun h => absurd h (by decide), fun h => absurd h (by decide), fun h => absurd h (by decide), fun h => absurd h (by decide), fun h => absurd h (by decide)⟩, (List.forall_mem_cons.mpr ⟨⟨fun h => absurd h (by decide), fun h => absurd h (by decide), fun h => absurd h (by decide), fun h => absurd h (by decide), fun h => absurd h (by decide), fun h => absurd h (by decide)⟩, (fun _ h => absurd h List.not_mem_nil)⟩)⟩)⟩)
theorem M_X11_meanPower {l : Launch} (hl : l.stackTraces = false) : gk_Mt l yX11_meanPower (.code yX11_meanPower cX11_meanPower 3 (some .double) :: gk_W1) 6 0 S_X11_meanPower := gk_meth hl gk_cw_ok (by decide +kernel) rfl m_X11_meanPower pX11_ok (gk_Sp_of sp_X11_meanPower) pX11_st (fun ci m S h => absurd h (by intro h; cases h)) (xf_X11 6) (fun idx kd ci mm cost S2 h h5 => lk_X11_meanPower hl _ (gk_lk_mem h) h5)

end GKV

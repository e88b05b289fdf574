/-! THE METHODS, 45: mean and crest of a row -/
section GKV
variable {c : ByteArray} {P : gk_C} {cs : Nat → Option gk_M0} {rt : Option FieldType} {uf : Nat} {sc : Option Nat} {K : gk_K} {V : gk_V}
variable {L : List (Option Value)} {r : List Value} {n : Nat} {fl : gk_F} {x : gk_X} {y : gk_Y} {u pc pc2 : Nat}
theorem wl {a b : Nat} (h : a ≤ b) : nI b - nI a + 1 = nI (b + 1 - a) := by
  rw [gI_nI, gI_nI, gI_nI, gI_sub, show (1 : Int32) = gI 1 from rfl, gI_add]
  exact congrArg gI (by omega)
theorem wl1 {a b : Nat} (h : a ≤ b) (hb : b < 256) : 1 ≤ (nI (b + 1 - a)).toInt := by
  rw [gI_nI, gI_of ⟨by omega, by omega⟩]
  omega
theorem wl0 {a b : Nat} (h : a ≤ b) (hb : b < 256) : ¬ nI (b + 1 - a) = 0 := fun e => by
  have := wl1 h hb
  rw [e] at this
  exact absurd this (by decide)
def S_X11_meanOf : gk_S := fun as n fl x y K => ∃ (f : Int32) (l : Int32) (a : Nat) (b : Nat), as = [.ref 189, .int f, .int l] ∧ (n = 202 ∧ fl = gk_fT) ∧ (f = nI a) ∧ (l = nI b) ∧ (a ≤ b) ∧ (b < 256) ∧ (0 ≤ (gL (gk_eI (gr x 196) a (b + 1 - a))).toInt) ∧ (K (.inl (some (.double (mP (gL (gk_eI (gr x 196) a (b + 1 - a))) (nI (b + 1 - a)))))) n fl x y)
theorem r_X11_meanOf (w : gk_W c P cs (fun _ _ => none) rt uf sc K V) {idx : Nat} {f : Int32} {l : Int32} {a : Nat} {b : Nat} (hd : decode c pc = .ok (.invokevirtual idx, 3)) (hp : pc + 3 = pc2) (hc : cs idx = some (1, 10, 3, 0, S_X11_meanOf)) (h8 : Nat.ble (r.map Value.category).sum 8 = true) (hp0 : f = nI a) (hp1 : l = nI b) (hp2 : a ≤ b) (hp3 : b < 256) (hp4 : 0 ≤ (gL (gk_eI (gr x 196) a (b + 1 - a))).toInt) (kk0 : V pc2 L ((.double (mP (gL (gk_eI (gr x 196) a (b + 1 - a))) (nI (b + 1 - a)))) :: r) 202 gk_fT x y u) : V pc L (.int l :: .int f :: .ref 189 :: r) 202 gk_fT x y u :=
  g_callv w hd hp hc (as := [.ref 189, .int f, .int l]) rfl h8 rfl rfl rfl (Or.inr (Or.inl ⟨Or.inl rfl, _, _, rfl, (gk_kd_j rfl rfl), rfl⟩)) (Or.inl rfl) ⟨f, l, a, b, rfl, ⟨rfl, rfl⟩, hp0, hp1, hp2, hp3, hp4, kk0⟩
def L_X11_meanOf : List (Nat × gk_M0) := [(184, (1, 10, 3, 0, S_X11_energyOf))]
def cs_X11_meanOf : Nat → Option gk_M0 := gk_lk L_X11_meanOf
theorem m_X11_meanOf : ∀ (as : List Value) (n : Nat) (fl : gk_F) (x : gk_X) (y : gk_Y) (K : gk_K), S_X11_meanOf as n fl x y K → (gk_L0 as).length ≤ 3 ∧ ∀ V : gk_V, gk_W cX11_meanOf pX11 cs_X11_meanOf (fun _ _ => none) (some .double) 0 none K V → V 0 (gk_en as 3) [] n fl x y 0 := by
  intro as n fl x y K hS
  obtain ⟨f, l, a, b, rfl, ⟨rfl, rfl⟩, hp0, hp1, hp2, hp3, hp4, q0⟩ := hS
  refine ⟨Nat.le_of_ble_eq_true rfl, fun V w => ?_⟩
  show V 0 [some (.ref 189), some (.int f), some (.int l)] [] 202 gk_fT x y 0
  subst hp0 hp1
  refine s_aload_n (pc2 := 1) w dX11_meanOf_0 rfl rfl ?_
  refine s_iload_n (pc2 := 2) w dX11_meanOf_1 rfl rfl ?_
  refine s_iload_n (pc2 := 3) w dX11_meanOf_2 rfl rfl ?_
  refine r_X11_energyOf (pc2 := 6) (a := a) (b := b) w dX11_meanOf_3 rfl rfl rfl rfl rfl (by omega) hp3 ?_
  refine s_l2d (pc2 := 7) w dX11_meanOf_6 rfl ?_
  refine s_iload_n (pc2 := 8) w dX11_meanOf_7 rfl rfl ?_
  refine s_iload_n (pc2 := 9) w dX11_meanOf_8 rfl rfl ?_
  refine s_isub (pc2 := 10) w dX11_meanOf_9 rfl ?_
  refine s_iconst (pc2 := 11) (v := 1) w dX11_meanOf_10 rfl rfl ?_
  refine s_iadd (pc2 := 12) w dX11_meanOf_11 rfl ?_
  rw [wl hp2]
  refine s_i2d (pc2 := 13) w dX11_meanOf_12 rfl ?_
  refine s_ddiv (pc2 := 14) w dX11_meanOf_13 rfl (mP_n hp4 (wl1 hp2 hp3)) ?_
  refine s_dreturn w dX11_meanOf_14 rfl ?_
  exact q0
theorem lk_X11_meanOf {l : Launch} (hl : l.stackTraces = false) : ∀ q ∈ L_X11_meanOf, (q.2.1 < 5 → gk_Lk l RX11 gk_W1 1 q.1 q.2.1 q.2.2.1 q.2.2.2.1 q.2.2.2.2.1 q.2.2.2.2.2) := (List.forall_mem_cons.mpr ⟨(fun _ => ⟨yX11_energyOf, cX11_energyOf, 6, (some .long), 0, _, M_X11_energyOf hl, ⟨by decide, by decide⟩, ⟨by decide, by decide, by decide +kernel⟩, ⟨(gk_wm 1537 (by decide +kernel)), (gk_wm 99 (by decide +kernel))⟩, Or.inr (Or.inr (Or.inr (Or.inl ⟨rfl, rfl, (gk_wm 1536 (by decide +kernel)), (gk_wm 57 (by decide +kernel)), gk_wm 1534 (by decide +kernel), by decide, rfl⟩)))⟩), (fun _ h => absurd h List.not_mem_nil)⟩)
theorem sp_X11_meanOf : ∀ q ∈ L_X11_meanOf, gk_Sq RX11 gk_W1 1 q := (List.forall_mem_cons.mpr ⟨⟨fun h => absurd h (by decide), fun h => absurd h (by decide), fun h => absurd h (by decide), fun h => absurd h (by decide), fun h => absurd h (by decide), fun h => absurd h (by decide)⟩, (fun _ h => absurd h List.not_mem_nil)⟩)
theorem M_X11_meanOf {l : Launch} (hl : l.stackTraces = false) : gk_Mt l yX11_meanOf (.code yX11_meanOf cX11_meanOf 3 (some .double) :: gk_W1) 1 0 S_X11_meanOf := gk_meth hl gk_cw_ok (by decide +kernel) rfl m_X11_meanOf pX11_ok (gk_Sp_of sp_X11_meanOf) pX11_st (fun ci m S h => absurd h (by intro h; cases h)) (xf_X11 1) (fun idx kd ci mm cost S2 h h5 => lk_X11_meanOf hl _ (gk_lk_mem h) h5)

def S_X6_meanPowerOf : gk_S := fun as n fl x y K => ∃ (j : Nat) (f : Int32) (l : Int32) (a : Nat) (b : Nat), as = [.ref j, .int f, .int l] ∧ (n = 202 ∧ fl = gk_fT) ∧ gk_kd j = 20 ∧ (gk_ln j = 256) ∧ (f = nI a) ∧ (l = nI b) ∧ (a ≤ b) ∧ (b < 256) ∧ (0 ≤ (gL (gk_eI (gr x j) a (b + 1 - a))).toInt) ∧ (K (.inl (some (.double (mP (gL (gk_eI (gr x j) a (b + 1 - a))) (nI (b + 1 - a)))))) n fl x y)
theorem r_X6_meanPowerOf (w : gk_W c P cs (fun _ _ => none) rt uf sc K V) {idx : Nat} {j : Nat} {f : Int32} {l : Int32} {a : Nat} {b : Nat} (hd : decode c pc = .ok (.invokestatic idx, 3)) (hp : pc + 3 = pc2) (hc : cs idx = some (0, 0, 3, 0, S_X6_meanPowerOf)) (h8 : Nat.ble (r.map Value.category).sum 8 = true) (hk0 : gk_kd j = 20) (hp0 : gk_ln j = 256) (hp1 : f = nI a) (hp2 : l = nI b) (hp3 : a ≤ b) (hp4 : b < 256) (hp5 : 0 ≤ (gL (gk_eI (gr x j) a (b + 1 - a))).toInt) (kk0 : V pc2 L ((.double (mP (gL (gk_eI (gr x j) a (b + 1 - a))) (nI (b + 1 - a)))) :: r) 202 gk_fT x y u) : V pc L (.int l :: .int f :: .ref j :: r) 202 gk_fT x y u :=
  g_calls w hd hp hc (as := [.ref j, .int f, .int l]) rfl h8 rfl rfl rfl (Or.inl rfl) (Or.inl rfl) ⟨j, f, l, a, b, rfl, ⟨rfl, rfl⟩, hk0, hp0, hp1, hp2, hp3, hp4, hp5, kk0⟩
def L_X6_meanPowerOf : List (Nat × gk_M0) := [(9, (0, 0, 3, 0, S_X6_energyOf))]
def cs_X6_meanPowerOf : Nat → Option gk_M0 := gk_lk L_X6_meanPowerOf
theorem m_X6_meanPowerOf : ∀ (as : List Value) (n : Nat) (fl : gk_F) (x : gk_X) (y : gk_Y) (K : gk_K), S_X6_meanPowerOf as n fl x y K → (gk_L0 as).length ≤ 4 ∧ ∀ V : gk_V, gk_W cX6_meanPowerOf pX6 cs_X6_meanPowerOf (fun _ _ => none) (some .double) 0 none K V → V 0 (gk_en as 4) [] n fl x y 0 := by
  intro as n fl x y K hS
  obtain ⟨j, f, l, a, b, rfl, ⟨rfl, rfl⟩, hk0, hp0, hp1, hp2, hp3, hp4, hp5, q0⟩ := hS
  refine ⟨Nat.le_of_ble_eq_true rfl, fun V w => ?_⟩
  show V 0 [some (.ref j), some (.int f), some (.int l), none] [] 202 gk_fT x y 0
  subst hp1 hp2
  refine s_iload_n (pc2 := 1) w dX6_meanPowerOf_0 rfl rfl ?_
  refine s_iload_n (pc2 := 2) w dX6_meanPowerOf_1 rfl rfl ?_
  refine s_isub (pc2 := 3) w dX6_meanPowerOf_2 rfl ?_
  refine s_iconst (pc2 := 4) (v := 1) w dX6_meanPowerOf_3 rfl rfl ?_
  refine s_iadd (pc2 := 5) w dX6_meanPowerOf_4 rfl ?_
  rw [wl hp3]
  refine s_istore_n (pc2 := 6) (k2 := 3) w dX6_meanPowerOf_5 rfl rfl rfl ?_
  dsimp only [gk_s1, gk_s2, gk_cl]
  refine s_iload_n (pc2 := 7) w dX6_meanPowerOf_6 rfl rfl ?_
  refine s_if_ne (pc2 := 10) (tgt := 14) w dX6_meanPowerOf_7 rfl (by decide) (fun _ => ?_) (fun h0 => absurd h0 (wl0 hp3 hp4))
  refine s_aload_n (pc2 := 15) w dX6_meanPowerOf_14 rfl rfl ?_
  refine s_iload_n (pc2 := 16) w dX6_meanPowerOf_15 rfl rfl ?_
  refine s_iload_n (pc2 := 17) w dX6_meanPowerOf_16 rfl rfl ?_
  refine r_X6_energyOf (pc2 := 20) (a := a) (b := b) w dX6_meanPowerOf_17 rfl rfl rfl hk0 hp0 rfl rfl (by omega) hp4 ?_
  refine s_l2d (pc2 := 21) w dX6_meanPowerOf_20 rfl ?_
  refine s_iload_n (pc2 := 22) w dX6_meanPowerOf_21 rfl rfl ?_
  refine s_i2d (pc2 := 23) w dX6_meanPowerOf_22 rfl ?_
  refine s_ddiv (pc2 := 24) w dX6_meanPowerOf_23 rfl (mP_n hp5 (wl1 hp3 hp4)) ?_
  refine s_dreturn w dX6_meanPowerOf_24 rfl ?_
  exact q0
theorem lk_X6_meanPowerOf {l : Launch} (hl : l.stackTraces = false) : ∀ q ∈ L_X6_meanPowerOf, (q.2.1 < 5 → gk_Lk l RX6 gk_W1 1 q.1 q.2.1 q.2.2.1 q.2.2.2.1 q.2.2.2.2.1 q.2.2.2.2.2) := (List.forall_mem_cons.mpr ⟨(fun _ => ⟨yX6_energyOf, cX6_energyOf, 6, (some .long), 0, _, M_X6_energyOf hl, ⟨by decide, by decide⟩, ⟨by decide, by decide, by decide +kernel⟩, ⟨(gk_wm 984 (by decide +kernel)), (gk_wm 108 (by decide +kernel))⟩, Or.inl ⟨rfl, rfl, (gk_wm 983 (by decide +kernel)), gk_wm 982 (by decide +kernel)⟩⟩), (fun _ h => absurd h List.not_mem_nil)⟩)
theorem sp_X6_meanPowerOf : ∀ q ∈ L_X6_meanPowerOf, gk_Sq RX6 gk_W1 1 q := (List.forall_mem_cons.mpr ⟨⟨fun h => absurd h (by decide), fun h => absurd h (by decide), fun h => absurd h (by decide), fun h => absurd h (by decide), fun h => absurd h (by decide), fun h => absurd h (by decide)⟩, (fun _ h => absurd h List.not_mem_nil)⟩)
theorem M_X6_meanPowerOf {l : Launch} (hl : l.stackTraces = false) : gk_Mt l yX6_meanPowerOf (.code yX6_meanPowerOf cX6_meanPowerOf 4 (some .double) :: gk_W1) 1 0 S_X6_meanPowerOf := gk_meth hl gk_cw_ok (by decide +kernel) rfl m_X6_meanPowerOf pX6_ok (gk_Sp_of sp_X6_meanPowerOf) pX6_st (fun ci m S h => absurd h (by intro h; cases h)) (xf_X6 1) (fun idx kd ci mm cost S2 h h5 => lk_X6_meanPowerOf hl _ (gk_lk_mem h) h5)

def S_X6_crestOf : gk_S := fun as n fl x y K => ∃ (j : Nat) (f : Int32) (l : Int32) (a : Nat) (b : Nat), as = [.ref j, .int f, .int l] ∧ (n = 202 ∧ fl = gk_fT) ∧ gk_kd j = 20 ∧ (gk_ln j = 256) ∧ (f = nI a) ∧ (l = nI b) ∧ (a ≤ b) ∧ (b < 256) ∧ (0 ≤ (gL (gk_eI (gr x j) a (b + 1 - a))).toInt) ∧ (0 ≤ (gk_pk (x j) a (b + 1 - a)).toInt) ∧ (K (.inl (some (.float (cR (gk_pk (x j) a (b + 1 - a)) (gL (gk_eI (gr x j) a (b + 1 - a))) (nI (b + 1 - a)))))) n fl x y)
theorem r_X6_crestOf (w : gk_W c P cs (fun _ _ => none) rt uf sc K V) {idx : Nat} {j : Nat} {f : Int32} {l : Int32} {a : Nat} {b : Nat} (hd : decode c pc = .ok (.invokestatic idx, 3)) (hp : pc + 3 = pc2) (hc : cs idx = some (0, 0, 3, 0, S_X6_crestOf)) (h8 : Nat.ble (r.map Value.category).sum 8 = true) (hk0 : gk_kd j = 20) (hp0 : gk_ln j = 256) (hp1 : f = nI a) (hp2 : l = nI b) (hp3 : a ≤ b) (hp4 : b < 256) (hp5 : 0 ≤ (gL (gk_eI (gr x j) a (b + 1 - a))).toInt) (hp6 : 0 ≤ (gk_pk (x j) a (b + 1 - a)).toInt) (kk0 : V pc2 L ((.float (cR (gk_pk (x j) a (b + 1 - a)) (gL (gk_eI (gr x j) a (b + 1 - a))) (nI (b + 1 - a)))) :: r) 202 gk_fT x y u) : V pc L (.int l :: .int f :: .ref j :: r) 202 gk_fT x y u :=
  g_calls w hd hp hc (as := [.ref j, .int f, .int l]) rfl h8 rfl rfl rfl (Or.inl rfl) (Or.inl rfl) ⟨j, f, l, a, b, rfl, ⟨rfl, rfl⟩, hk0, hp0, hp1, hp2, hp3, hp4, hp5, hp6, kk0⟩
def L_X6_crestOf : List (Nat × gk_M0) := [(15, (0, 0, 3, 0, S_X6_peakOf)), (50, (0, 0, 3, 0, S_X6_meanPowerOf))]
def cs_X6_crestOf : Nat → Option gk_M0 := gk_lk L_X6_crestOf
theorem m_X6_crestOf : ∀ (as : List Value) (n : Nat) (fl : gk_F) (x : gk_X) (y : gk_Y) (K : gk_K), S_X6_crestOf as n fl x y K → (gk_L0 as).length ≤ 7 ∧ ∀ V : gk_V, gk_W cX6_crestOf pX6 cs_X6_crestOf (fun _ _ => none) (some .float) 0 none K V → V 0 (gk_en as 7) [] n fl x y 0 := by
  intro as n fl x y K hS
  obtain ⟨j, f, l, a, b, rfl, ⟨rfl, rfl⟩, hk0, hp0, hp1, hp2, hp3, hp4, hp5, hp6, q0⟩ := hS
  refine ⟨Nat.le_of_ble_eq_true rfl, fun V w => ?_⟩
  show V 0 [some (.ref j), some (.int f), some (.int l), none, none, none, none] [] 202 gk_fT x y 0
  subst hp1 hp2
  have hz := dc_zero hp5 (wl1 hp3 hp4)
  refine s_aload_n (pc2 := 1) w dX6_crestOf_0 rfl rfl ?_
  refine s_iload_n (pc2 := 2) w dX6_crestOf_1 rfl rfl ?_
  refine s_iload_n (pc2 := 3) w dX6_crestOf_2 rfl rfl ?_
  refine r_X6_meanPowerOf (pc2 := 6) (a := a) (b := b) w dX6_crestOf_3 rfl rfl rfl hk0 hp0 rfl rfl hp3 hp4 hp5 ?_
  refine s_dstore_n (pc2 := 7) (k2 := 3) w dX6_crestOf_6 rfl rfl rfl ?_
  dsimp only [gk_s1, gk_s2, gk_cl]
  refine s_dload_n (pc2 := 8) w dX6_crestOf_7 rfl rfl ?_
  refine s_dconst (pc2 := 9) w dX6_crestOf_8 rfl ?_
  refine s_dcmp (pc2 := 10) w dX6_crestOf_9 rfl ?_
  refine s_if_ne (pc2 := 13) (tgt := 15) w dX6_crestOf_10 rfl (by decide) (fun c10 => ?_) (fun c10 => ?_)
  · have h0 := fun e => c10 (hz.mpr e)
    have hQ := cQ_n hp6 hp5 h0 (wl1 hp3 hp4)
    refine s_aload_n (pc2 := 16) w dX6_crestOf_15 rfl rfl ?_
    refine s_iload_n (pc2 := 17) w dX6_crestOf_16 rfl rfl ?_
    refine s_iload_n (pc2 := 18) w dX6_crestOf_17 rfl rfl ?_
    refine r_X6_peakOf (pc2 := 21) (a := a) (b := b) w dX6_crestOf_18 rfl rfl rfl hk0 hp0 rfl rfl (by omega) hp4 ?_
    refine s_i2d (pc2 := 22) w dX6_crestOf_21 rfl ?_
    refine s_dstore (pc2 := 24) w dX6_crestOf_22 rfl rfl ?_
    dsimp only [gk_s1, gk_s2, gk_cl]
    refine s_dload (pc2 := 26) w dX6_crestOf_24 rfl rfl ?_
    refine s_dload (pc2 := 28) w dX6_crestOf_26 rfl rfl ?_
    refine s_dmul (pc2 := 29) w dX6_crestOf_28 rfl (pp_n hp6) ?_
    refine s_dload_n (pc2 := 30) w dX6_crestOf_29 rfl rfl ?_
    refine s_ddiv (pc2 := 31) w dX6_crestOf_30 rfl hQ.2 ?_
    refine s_d2f (pc2 := 32) w dX6_crestOf_31 rfl (d2f_n hQ.1).2 ?_
    refine s_freturn w dX6_crestOf_32 rfl ?_
    rw [cR, if_neg h0] at q0
    exact q0
  · refine s_fconst (pc2 := 14) w dX6_crestOf_13 rfl ?_
    refine s_freturn w dX6_crestOf_14 rfl ?_
    rw [cR, if_pos (hz.mp c10)] at q0
    exact q0
theorem lk_X6_crestOf {l : Launch} (hl : l.stackTraces = false) : ∀ q ∈ L_X6_crestOf, (q.2.1 < 5 → gk_Lk l RX6 gk_W1 2 q.1 q.2.1 q.2.2.1 q.2.2.2.1 q.2.2.2.2.1 q.2.2.2.2.2) := (List.forall_mem_cons.mpr ⟨(fun _ => ⟨yX6_peakOf, cX6_peakOf, 5, (some .int), 1, _, M_X6_peakOf hl, ⟨by decide, by decide⟩, ⟨by decide, by decide, by decide +kernel⟩, ⟨(gk_wm 987 (by decide +kernel)), (gk_wm 108 (by decide +kernel))⟩, Or.inl ⟨rfl, rfl, (gk_wm 986 (by decide +kernel)), gk_wm 985 (by decide +kernel)⟩⟩), (List.forall_mem_cons.mpr ⟨(fun _ => ⟨yX6_meanPowerOf, cX6_meanPowerOf, 4, (some .double), 1, _, M_X6_meanPowerOf hl, ⟨by decide, by decide⟩, ⟨by decide, by decide, by decide +kernel⟩, ⟨(gk_wm 1207 (by decide +kernel)), (gk_wm 108 (by decide +kernel))⟩, Or.inl ⟨rfl, rfl, (gk_wm 1206 (by decide +kernel)), gk_wm 1218 (by decide +kernel)⟩⟩), (fun _ h => absurd h List.not_mem_nil)⟩)⟩)
theorem sp_X6_crestOf : ∀ q ∈ L_X6_crestOf, gk_Sq RX6 gk_W1 2 q := (List.forall_mem_cons.mpr ⟨⟨fun h => absurd h (by decide), fun h => absurd h (by decide), fun h => absurd h (by decide), fun h => absurd h (by decide), fun h => absurd h (by decide), fun h => absurd h (by decide)⟩, (List.forall_mem_cons.mpr ⟨⟨fun h => absurd h (by decide), fun h => absurd h (by decide), fun h => absurd h (by decide), fun h => absurd h (by decide), fun h => absurd h (by decide), fun h => absurd h (by decide)⟩, (fun _ h => absurd h List.not_mem_nil)⟩)⟩)
theorem M_X6_crestOf {l : Launch} (hl : l.stackTraces = false) : gk_Mt l yX6_crestOf (.code yX6_crestOf cX6_crestOf 7 (some .float) :: gk_W1) 2 0 S_X6_crestOf := gk_meth hl gk_cw_ok (by decide +kernel) rfl m_X6_crestOf pX6_ok (gk_Sp_of sp_X6_crestOf) pX6_st (fun ci m S h => absurd h (by intro h; cases h)) (xf_X6 2) (fun idx kd ci mm cost S2 h h5 => lk_X6_crestOf hl _ (gk_lk_mem h) h5)

end GKV

/-! THE METHODS, 33: the class, its searches -/
section GKV
variable {c : ByteArray} {P : gk_C} {cs : Nat → Option gk_M0} {rt : Option FieldType} {uf : Nat} {sc : Option Nat} {K : gk_K} {V : gk_V}
variable {L : List (Option Value)} {r : List Value} {n : Nat} {fl : gk_F} {x : gk_X} {y : gk_Y} {u pc pc2 : Nat}
theorem ow_b {t : Nat} (h : t ≤ 41) : -20 ≤ ow t ∧ ow t ≤ 20 := by
  unfold ow
  split
  · omega
  · omega
def S_X10_loudestMicrophone : gk_S := fun as n fl x y K => ∃ (f : Int32) (l : Int32) (g : Nat → Int32), as = [.ref 0, .int f, .int l] ∧ (n = 202 ∧ fl = gk_fT) ∧ (RS 1 g x y) ∧ (gOK g) ∧ ((0 ≤ f ∧ f ≤ l ∧ l ≤ 255) → ∀ (x2 : gk_X) (y2 : gk_Y), COk g x x2 y y2 → K (.inl (some (.int ((gk_mx (fun n => gL (gE (gC g n) (cN f) (cN l))) nI (-1, -1) (nM g)).1)))) n fl x2 y2) ∧ (¬ (0 ≤ f ∧ f ≤ l ∧ l ≤ 255) → ∀ (x2 : gk_X) (y2 : gk_Y), COk g x x2 y y2 → K (.inr 0) n fl x2 y2)
theorem r_X10_loudestMicrophone (w : gk_W c P cs (fun _ _ => none) rt uf sc K V) {idx : Nat} {f : Int32} {l : Int32} {g : Nat → Int32} (hd : decode c pc = .ok (.invokevirtual idx, 3)) (hp : pc + 3 = pc2) (hc : cs idx = some (1, 9, 3, 2, S_X10_loudestMicrophone)) (h8 : Nat.ble (r.map Value.category).sum 8 = true) (hu : u + 2 ≤ uf) (hp0 : RS 1 g x y) (hp1 : gOK g) (kk0 : (0 ≤ f ∧ f ≤ l ∧ l ≤ 255) → ∀ (x2 : gk_X) (y2 : gk_Y), COk g x x2 y y2 → V pc2 L ((.int ((gk_mx (fun n => gL (gE (gC g n) (cN f) (cN l))) nI (-1, -1) (nM g)).1)) :: r) 202 gk_fT x2 y2 (u + 2)) (kk1 : ¬ (0 ≤ f ∧ f ≤ l ∧ l ≤ 255) → ∀ (x2 : gk_X) (y2 : gk_Y), COk g x x2 y y2 → K (.inr 0) 202 gk_fT x2 y2) : V pc L (.int l :: .int f :: .ref 0 :: r) 202 gk_fT x y u :=
  g_callv w hd hp hc (as := [.ref 0, .int f, .int l]) rfl h8 rfl rfl rfl (Or.inr (Or.inl ⟨Or.inl rfl, _, _, rfl, (gk_kd_j rfl rfl), rfl⟩)) (Or.inr hu) ⟨f, l, g, rfl, ⟨rfl, rfl⟩, hp0, hp1, kk0, kk1⟩
def L_X10_loudestMicrophone : List (Nat × gk_M0) := [(175, (0, 9, 2, 2, S_X10_requireWindow)), (190, (0, 0, 3, 0, S_X6_energyOf))]
def cs_X10_loudestMicrophone : Nat → Option gk_M0 := gk_lk L_X10_loudestMicrophone
theorem m_X10_loudestMicrophone : ∀ (as : List Value) (n : Nat) (fl : gk_F) (x : gk_X) (y : gk_Y) (K : gk_K), S_X10_loudestMicrophone as n fl x y K → (gk_L0 as).length ≤ 9 ∧ ∀ V : gk_V, gk_W cX10_loudestMicrophone pX10 cs_X10_loudestMicrophone (fun _ _ => none) (some .int) 2 none K V → V 0 (gk_en as 9) [] n fl x y 0 := by
  intro as n fl x y K hS
  obtain ⟨f, l, g, rfl, ⟨rfl, rfl⟩, hp0, hp1, q0, q1⟩ := hS
  refine ⟨Nat.le_of_ble_eq_true rfl, fun V w => ?_⟩
  show V 0 [some (.ref 0), some (.int f), some (.int l), none, none, none, none, none, none] [] 202 gk_fT x y 0
  obtain ⟨nv4, ns6, nm8, z6, z7, z8⟩ := wf_n hp1.1
  have f0 := COk.ini hp0
  refine s_iload_n (pc2 := 1) w dX10_loudestMicrophone_0 rfl rfl ?_
  refine s_iload_n (pc2 := 2) w dX10_loudestMicrophone_1 rfl rfl ?_
  refine r_X10_requireWindow (pc2 := 5) w dX10_loudestMicrophone_2 rfl rfl rfl (Nat.le_of_ble_eq_true rfl) (fun h2 => ?_) (fun h => q1  (fun hc => h hc) _ _ f0)
  obtain ⟨b, e, rfl, rfl, be, eh⟩ := ix_w h2
  rw [cN_n b (by omega), cN_n e (by omega)] at q0
  refine s_iconst (pc2 := 6) (v := (-1)) w dX10_loudestMicrophone_5 rfl rfl ?_
  refine s_istore_n (pc2 := 7) (k2 := 3) w dX10_loudestMicrophone_6 rfl rfl rfl ?_
  dsimp only [gk_s1, gk_s2, gk_cl]
  refine s_ldc2_w (pc2 := 10) (v := (-1)) w dX10_loudestMicrophone_7 rfl rfl ?_
  refine s_lstore (pc2 := 12) w dX10_loudestMicrophone_10 rfl rfl ?_
  dsimp only [gk_s1, gk_s2, gk_cl]
  refine s_iconst (pc2 := 13) (v := 0) w dX10_loudestMicrophone_12 rfl rfl ?_
  refine s_istore (pc2 := 15) w dX10_loudestMicrophone_13 rfl rfl ?_
  dsimp only [gk_s1, gk_s2, gk_cl]
  have key : ∀ (k n : Nat) (l7 l8 : Option Value), n + k = nM g → V 15 [some (.ref 0), some (.int (nI b)), some (.int (nI e)), some (.int (gk_mx (fun n => gL (gE (gC g n) b e)) nI (-1, -1) n).1), some (.long (gk_mx (fun n => gL (gE (gC g n) b e)) nI (-1, -1) n).2), none, some (.int (nI n)), l7, l8] [] 202 gk_fT x y 2 := by
    intro k
    induction k with
    | zero =>
      intro n l7 l8 ht
      obtain rfl : n = nM g := by omega
      refine s_iload (pc2 := 17) w dX10_loudestMicrophone_15 rfl rfl ?_
      refine s_aload_n (pc2 := 18) w dX10_loudestMicrophone_17 rfl rfl ?_
      refine m_getR (pc2 := 21) (ci := 9) (k := 0) (j2 := 1) w dX10_loudestMicrophone_18 rfl rfl rfl rfl rfl rfl ?_
      refine m_getI (pc2 := 24) (ci := 4) (k := 6) w dX10_loudestMicrophone_21 rfl rfl rfl rfl rfl ?_
      rw [hp0.1.1.2.2, gz_I g 8, z8]
      refine s_ic_ge (pc2 := 27) (tgt := 68) w dX10_loudestMicrophone_24 rfl (by decide) (fun _ => ?_) (fun h0 => absurd ((Int32.le_refl _)) h0)
      refine s_iload_n (pc2 := 69) w dX10_loudestMicrophone_68 rfl rfl ?_
      refine s_ireturn w dX10_loudestMicrophone_69 rfl rfl ?_
      exact q0 h2 _ _ f0
    | succ k ih =>
      intro n l7 l8 ht
      have hn2 : n < nM g := by omega
      obtain ⟨j1, j2, j3⟩ := kd_m (show n < 8 by omega)
      refine s_iload (pc2 := 17) w dX10_loudestMicrophone_15 rfl rfl ?_
      refine s_aload_n (pc2 := 18) w dX10_loudestMicrophone_17 rfl rfl ?_
      refine m_getR (pc2 := 21) (ci := 9) (k := 0) (j2 := 1) w dX10_loudestMicrophone_18 rfl rfl rfl rfl rfl rfl ?_
      refine m_getI (pc2 := 24) (ci := 4) (k := 6) w dX10_loudestMicrophone_21 rfl rfl rfl rfl rfl ?_
      rw [hp0.1.1.2.2, gz_I g 8, z8]
      refine s_ic_ge (pc2 := 27) (tgt := 68) w dX10_loudestMicrophone_24 rfl (by decide) (fun h0 => absurd h0 (by rw [gI_nI, gI_le ⟨by omega, by omega⟩ ⟨by omega, by omega⟩]; omega)) (fun _ => ?_)
      refine s_aload_n (pc2 := 28) w dX10_loudestMicrophone_27 rfl rfl ?_
      refine m_getR (pc2 := 31) (ci := 9) (k := 0) (j2 := 1) w dX10_loudestMicrophone_28 rfl rfl rfl rfl rfl rfl ?_
      refine m_getR (pc2 := 34) (ci := 4) (k := 2) (j2 := 4) w dX10_loudestMicrophone_31 rfl rfl rfl rfl rfl rfl ?_
      refine s_iload (pc2 := 36) w dX10_loudestMicrophone_34 rfl rfl ?_
      refine m_aaloadN (pc2 := 37) (t := n) (kd := 26) (j2 := (2 * n + 28)) (N := 8) w dX10_loudestMicrophone_36 rfl rfl rfl rfl rfl rfl (by omega) rfl (by show 4 + (24 + 2 * n) = 2 * n + 28; omega) ?_
      refine m_getR (pc2 := 40) (ci := 1) (k := 0) (j2 := (2 * n + 29)) w dX10_loudestMicrophone_37 rfl rfl (by first | exact j2 | exact j1) rfl rfl rfl ?_
      refine s_iload_n (pc2 := 41) w dX10_loudestMicrophone_40 rfl rfl ?_
      refine s_iload_n (pc2 := 42) w dX10_loudestMicrophone_41 rfl rfl ?_
      refine r_X6_energyOf (pc2 := 45) w dX10_loudestMicrophone_42 rfl rfl rfl (by first | exact j2 | exact j1) j3 rfl rfl (by omega) eh ?_
      rw [win_eI (r := gC g n) (a := b) (b := e) (fun i h1 h2 => hp0.2.2.2.2.2.1 n hn2 i (by omega))]
      refine s_lstore (pc2 := 47) w dX10_loudestMicrophone_45 rfl rfl ?_
      dsimp only [gk_s1, gk_s2, gk_cl]
      refine s_lload (pc2 := 49) w dX10_loudestMicrophone_47 rfl rfl ?_
      refine s_lload (pc2 := 51) w dX10_loudestMicrophone_49 rfl rfl ?_
      refine s_lcmp (pc2 := 52) w dX10_loudestMicrophone_51 rfl ?_
      refine s_if_le (pc2 := 55) (tgt := 62) w dX10_loudestMicrophone_52 rfl (by decide) (fun c52 => ?_) (fun c52 => ?_)
      · refine s_iinc (pc2 := 65) w dX10_loudestMicrophone_62 rfl rfl rfl rfl ?_
        dsimp only [gk_s1, gk_s2, gk_cl]
        rw [nI_s]
        refine s_goto (tgt := 15) w dX10_loudestMicrophone_65 (by decide) ?_
        have ep := mx_f2 (E := (fun n => gL (gE (gC g n) b e))) (lb := nI) (s := (-1, -1)) (n := n) rfl c52
        have ih9 := ih (n + 1) (some (.long (gL (gE (gC g n) b e)))) none (by omega)
        rw [ep] at ih9
        exact ih9
      · refine s_lload (pc2 := 57) w dX10_loudestMicrophone_55 rfl rfl ?_
        refine s_lstore (pc2 := 59) w dX10_loudestMicrophone_57 rfl rfl ?_
        dsimp only [gk_s1, gk_s2, gk_cl]
        refine s_iload (pc2 := 61) w dX10_loudestMicrophone_59 rfl rfl ?_
        refine s_istore_n (pc2 := 62) (k2 := 3) w dX10_loudestMicrophone_61 rfl rfl rfl ?_
        dsimp only [gk_s1, gk_s2, gk_cl]
        refine s_iinc (pc2 := 65) w dX10_loudestMicrophone_62 rfl rfl rfl rfl ?_
        dsimp only [gk_s1, gk_s2, gk_cl]
        rw [nI_s]
        refine s_goto (tgt := 15) w dX10_loudestMicrophone_65 (by decide) ?_
        have ep := mx_t2 (E := (fun n => gL (gE (gC g n) b e))) (lb := nI) (s := (-1, -1)) (n := n) rfl rfl c52
        have ih9 := ih (n + 1) (some (.long (gL (gE (gC g n) b e)))) none (by omega)
        rw [ep] at ih9
        exact ih9
  exact key (nM g) 0 none none (by omega)
theorem lk_X10_loudestMicrophone {l : Launch} (hl : l.stackTraces = false) : ∀ q ∈ L_X10_loudestMicrophone, (q.2.1 < 5 → gk_Lk l RX10 gk_W1 9 q.1 q.2.1 q.2.2.1 q.2.2.2.1 q.2.2.2.2.1 q.2.2.2.2.2) := (List.forall_mem_cons.mpr ⟨(fun _ => ⟨yX10_requireWindow, cX10_requireWindow, 2, none, 8, _, M_X10_requireWindow hl, ⟨by decide, by decide⟩, ⟨by decide, by decide, by decide +kernel⟩, ⟨(gk_wm 978 (by decide +kernel)), (gk_wm 89 (by decide +kernel))⟩, Or.inl ⟨rfl, rfl, (gk_wm 977 (by decide +kernel)), gk_wm 976 (by decide +kernel)⟩⟩), (List.forall_mem_cons.mpr ⟨(fun _ => ⟨yX6_energyOf, cX6_energyOf, 6, (some .long), 0, _, M_X6_energyOf hl, ⟨by decide, by decide⟩, ⟨by decide, by decide, by decide +kernel⟩, ⟨(gk_wm 984 (by decide +kernel)), (gk_wm 108 (by decide +kernel))⟩, Or.inl ⟨rfl, rfl, (gk_wm 983 (by decide +kernel)), gk_wm 1012 (by decide +kernel)⟩⟩), (fun _ h => absurd h List.not_mem_nil)⟩)⟩)
theorem sp_X10_loudestMicrophone : ∀ q ∈ L_X10_loudestMicrophone, gk_Sq RX10 gk_W1 9 q := (List.forall_mem_cons.mpr ⟨⟨fun h => absurd h (by decide), fun h => absurd h (by decide), fun h => absurd h (by decide), fun h => absurd h (by decide), fun h => absurd h (by decide), fun h => absurd h (by decide)⟩, (List.forall_mem_cons.mpr ⟨⟨fun h => absurd h (by decide), fun h => absurd h (by decide), fun h => absurd h (by decide), fun h => absurd h (by decide), fun h => absurd h (by decide), fun h => absurd h (by decide)⟩, (fun _ h => absurd h List.not_mem_nil)⟩)⟩)
theorem M_X10_loudestMicrophone {l : Launch} (hl : l.stackTraces = false) : gk_Mt l yX10_loudestMicrophone (.code yX10_loudestMicrophone cX10_loudestMicrophone 9 (some .int) :: gk_W1) 9 2 S_X10_loudestMicrophone := gk_meth hl gk_cw_ok (by decide +kernel) rfl m_X10_loudestMicrophone pX10_ok (gk_Sp_of sp_X10_loudestMicrophone) pX10_st (fun ci m S h => absurd h (by intro h; cases h)) (xf_X10 (by decide)) (fun idx kd ci mm cost S2 h h5 => lk_X10_loudestMicrophone hl _ (gk_lk_mem h) h5)

def S_X10_loudestWindow : gk_S := fun as n fl x y K => ∃ (m : Int32) (v : Int32) (g : Nat → Int32), as = [.ref 0, .int m, .int v] ∧ (n = 202 ∧ fl = gk_fT) ∧ (RS 1 g x y) ∧ (gOK g) ∧ ((0 ≤ m ∧ m < g 8) → (1 ≤ v ∧ v ≤ 256) → ∀ (x2 : gk_X) (y2 : gk_Y), COk g x x2 y y2 → K (.inl (some (.int ((gk_mx (fun n => gL (gE (gC g (cN m)) n (n + cN v - 1))) nI (0, -1) (257 - cN v)).1)))) n fl x2 y2) ∧ (¬ (0 ≤ m ∧ m < g 8) → ∀ (x2 : gk_X) (y2 : gk_Y), COk g x x2 y y2 → K (.inr 2) n fl x2 y2) ∧ ((0 ≤ m ∧ m < g 8) → ¬ (1 ≤ v ∧ v ≤ 256) → ∀ (x2 : gk_X) (y2 : gk_Y), COk g x x2 y y2 → K (.inr 0) n fl x2 y2)
theorem r_X10_loudestWindow (w : gk_W c P cs (fun _ _ => none) rt uf sc K V) {idx : Nat} {m : Int32} {v : Int32} {g : Nat → Int32} (hd : decode c pc = .ok (.invokevirtual idx, 3)) (hp : pc + 3 = pc2) (hc : cs idx = some (1, 9, 3, 2, S_X10_loudestWindow)) (h8 : Nat.ble (r.map Value.category).sum 8 = true) (hu : u + 2 ≤ uf) (hp0 : RS 1 g x y) (hp1 : gOK g) (kk0 : (0 ≤ m ∧ m < g 8) → (1 ≤ v ∧ v ≤ 256) → ∀ (x2 : gk_X) (y2 : gk_Y), COk g x x2 y y2 → V pc2 L ((.int ((gk_mx (fun n => gL (gE (gC g (cN m)) n (n + cN v - 1))) nI (0, -1) (257 - cN v)).1)) :: r) 202 gk_fT x2 y2 (u + 2)) (kk1 : ¬ (0 ≤ m ∧ m < g 8) → ∀ (x2 : gk_X) (y2 : gk_Y), COk g x x2 y y2 → K (.inr 2) 202 gk_fT x2 y2) (kk2 : (0 ≤ m ∧ m < g 8) → ¬ (1 ≤ v ∧ v ≤ 256) → ∀ (x2 : gk_X) (y2 : gk_Y), COk g x x2 y y2 → K (.inr 0) 202 gk_fT x2 y2) : V pc L (.int v :: .int m :: .ref 0 :: r) 202 gk_fT x y u :=
  g_callv w hd hp hc (as := [.ref 0, .int m, .int v]) rfl h8 rfl rfl rfl (Or.inr (Or.inl ⟨Or.inl rfl, _, _, rfl, (gk_kd_j rfl rfl), rfl⟩)) (Or.inr hu) ⟨m, v, g, rfl, ⟨rfl, rfl⟩, hp0, hp1, kk0, kk1, kk2⟩
def L_X10_loudestWindow : List (Nat × gk_M0) := [(55, (0, 9, 3, 1, S_X10_requireRange)), (112, (1, 9, 2, 1, S_X10_requireMicrophone)), (190, (0, 0, 3, 0, S_X6_energyOf))]
def cs_X10_loudestWindow : Nat → Option gk_M0 := gk_lk L_X10_loudestWindow
theorem m_X10_loudestWindow : ∀ (as : List Value) (n : Nat) (fl : gk_F) (x : gk_X) (y : gk_Y) (K : gk_K), S_X10_loudestWindow as n fl x y K → (gk_L0 as).length ≤ 10 ∧ ∀ V : gk_V, gk_W cX10_loudestWindow pX10 cs_X10_loudestWindow (fun _ _ => none) (some .int) 2 none K V → V 0 (gk_en as 10) [] n fl x y 0 := by
  intro as n fl x y K hS
  obtain ⟨m, v, g, rfl, ⟨rfl, rfl⟩, hp0, hp1, q0, q1, q2⟩ := hS
  refine ⟨Nat.le_of_ble_eq_true rfl, fun V w => ?_⟩
  show V 0 [some (.ref 0), some (.int m), some (.int v), none, none, none, none, none, none, none] [] 202 gk_fT x y 0
  obtain ⟨nv4, ns6, nm8, z6, z7, z8⟩ := wf_n hp1.1
  have f0 := COk.ini hp0
  refine s_aload_n (pc2 := 1) w dX10_loudestWindow_0 rfl rfl ?_
  refine s_iload_n (pc2 := 2) w dX10_loudestWindow_1 rfl rfl ?_
  refine r_X10_requireMicrophone (pc2 := 5) w dX10_loudestWindow_2 rfl rfl rfl (Nat.le_of_ble_eq_true rfl) hp0 hp1.1 (fun h2 a ae ah => ?_) (fun h => q1  (fun hc => h hc) _ _ f0)
  subst ae
  obtain ⟨j1a, j2a, j3a⟩ := kd_m (show a < 8 by omega)
  have j1 := j1a
  have j2 := j2a
  have j3 := j3a
  refine m_getR (pc2 := 8) (ci := 1) (k := 0) (j2 := (2 * a + 29)) w dX10_loudestWindow_5 rfl rfl (by first | exact j2 | exact j1) rfl rfl rfl ?_
  refine s_astore_n (pc2 := 9) (k2 := 3) w dX10_loudestWindow_8 rfl rfl rfl ?_
  dsimp only [gk_s1, gk_s2, gk_cl]
  refine s_iload_n (pc2 := 10) w dX10_loudestWindow_9 rfl rfl ?_
  refine s_iconst (pc2 := 11) (v := 1) w dX10_loudestWindow_10 rfl rfl ?_
  refine s_sipush (pc2 := 14) (v := 256) w dX10_loudestWindow_11 rfl rfl ?_
  refine r_X10_requireRange (pc2 := 17) w dX10_loudestWindow_14 rfl rfl rfl (Nat.le_of_ble_eq_true rfl) (fun h14 => ?_) (fun h => q2 h2 (fun hc => h hc) _ _ f0)
  obtain ⟨wn, rfl, wh1, wh2⟩ := ix_q h14
  rw [cN_n a (by omega), cN_n wn (by omega)] at q0
  refine s_iconst (pc2 := 18) (v := 0) w dX10_loudestWindow_17 rfl rfl ?_
  refine s_istore (pc2 := 20) w dX10_loudestWindow_18 rfl rfl ?_
  dsimp only [gk_s1, gk_s2, gk_cl]
  refine s_ldc2_w (pc2 := 23) (v := (-1)) w dX10_loudestWindow_20 rfl rfl ?_
  refine s_lstore (pc2 := 25) w dX10_loudestWindow_23 rfl rfl ?_
  dsimp only [gk_s1, gk_s2, gk_cl]
  refine s_iconst (pc2 := 26) (v := 0) w dX10_loudestWindow_25 rfl rfl ?_
  refine s_istore (pc2 := 28) w dX10_loudestWindow_26 rfl rfl ?_
  dsimp only [gk_s1, gk_s2, gk_cl]
  have key : ∀ (k n : Nat) (l8 l9 : Option Value), n + k = 257 - wn → V 28 [some (.ref 0), some (.int (nI a)), some (.int (nI wn)), some (.ref (2 * a + 29)), some (.int (gk_mx (fun n => gL (gE (gC g a) n (n + wn - 1))) nI (0, -1) n).1), some (.long (gk_mx (fun n => gL (gE (gC g a) n (n + wn - 1))) nI (0, -1) n).2), none, some (.int (nI n)), l8, l9] [] 202 gk_fT x y 2 := by
    intro k
    induction k with
    | zero =>
      intro n l8 l9 ht
      obtain rfl : n = 257 - wn := by omega
      have ew : gI 256 - nI wn = gI (256 - (wn : Int)) := gI_sub 256 (wn : Int)
      refine s_iload (pc2 := 30) w dX10_loudestWindow_28 rfl rfl ?_
      refine s_sipush (pc2 := 33) (v := gI 256) w dX10_loudestWindow_30 rfl rfl ?_
      refine s_iload_n (pc2 := 34) w dX10_loudestWindow_33 rfl rfl ?_
      refine s_isub (pc2 := 35) w dX10_loudestWindow_34 rfl ?_
      rw [ew]
      refine s_ic_gt (pc2 := 38) (tgt := 74) w dX10_loudestWindow_35 rfl (by decide) (fun _ => ?_) (fun h0 => absurd (by rw [gI_nI, gI_lt ⟨by omega, by omega⟩ ⟨by omega, by omega⟩]; omega) h0)
      refine s_iload (pc2 := 76) w dX10_loudestWindow_74 rfl rfl ?_
      refine s_ireturn w dX10_loudestWindow_76 rfl rfl ?_
      exact q0 h2 h14 _ _ f0
    | succ k ih =>
      intro n l8 l9 ht
      have ew : gI 256 - nI wn = gI (256 - (wn : Int)) := gI_sub 256 (wn : Int)
      have ew1 : nI n + nI wn = gI ((n : Int) + (wn : Int)) := gI_add (n : Int) (wn : Int)
      have ew2 : gI ((n : Int) + (wn : Int)) - gI 1 = nI (n + wn - 1) := (gI_sub _ _).trans (congrArg gI (show (n : Int) + (wn : Int) - 1 = ((n + wn - 1 : Nat) : Int) by omega))
      refine s_iload (pc2 := 30) w dX10_loudestWindow_28 rfl rfl ?_
      refine s_sipush (pc2 := 33) (v := gI 256) w dX10_loudestWindow_30 rfl rfl ?_
      refine s_iload_n (pc2 := 34) w dX10_loudestWindow_33 rfl rfl ?_
      refine s_isub (pc2 := 35) w dX10_loudestWindow_34 rfl ?_
      rw [ew]
      refine s_ic_gt (pc2 := 38) (tgt := 74) w dX10_loudestWindow_35 rfl (by decide) (fun h0 => absurd h0 (by rw [gI_nI, gI_lt ⟨by omega, by omega⟩ ⟨by omega, by omega⟩]; omega)) (fun _ => ?_)
      refine s_aload_n (pc2 := 39) w dX10_loudestWindow_38 rfl rfl ?_
      refine s_iload (pc2 := 41) w dX10_loudestWindow_39 rfl rfl ?_
      refine s_iload (pc2 := 43) w dX10_loudestWindow_41 rfl rfl ?_
      refine s_iload_n (pc2 := 44) w dX10_loudestWindow_43 rfl rfl ?_
      refine s_iadd (pc2 := 45) w dX10_loudestWindow_44 rfl ?_
      rw [ew1]
      refine s_iconst (pc2 := 46) (v := gI 1) w dX10_loudestWindow_45 rfl rfl ?_
      refine s_isub (pc2 := 47) w dX10_loudestWindow_46 rfl ?_
      rw [ew2]
      refine r_X6_energyOf (pc2 := 50) w dX10_loudestWindow_47 rfl rfl rfl (by first | exact j2 | exact j1) j3 rfl rfl (by omega) (by omega) ?_
      rw [win_eI (r := gC g a) (a := n) (b := n + wn - 1) (fun i h1 h2 => hp0.2.2.2.2.2.1 a ah i (by omega))]
      refine s_lstore (pc2 := 52) w dX10_loudestWindow_50 rfl rfl ?_
      dsimp only [gk_s1, gk_s2, gk_cl]
      refine s_lload (pc2 := 54) w dX10_loudestWindow_52 rfl rfl ?_
      refine s_lload (pc2 := 56) w dX10_loudestWindow_54 rfl rfl ?_
      refine s_lcmp (pc2 := 57) w dX10_loudestWindow_56 rfl ?_
      refine s_if_le (pc2 := 60) (tgt := 68) w dX10_loudestWindow_57 rfl (by decide) (fun c57 => ?_) (fun c57 => ?_)
      · refine s_iinc (pc2 := 71) w dX10_loudestWindow_68 rfl rfl rfl rfl ?_
        dsimp only [gk_s1, gk_s2, gk_cl]
        rw [nI_s]
        refine s_goto (tgt := 28) w dX10_loudestWindow_71 (by decide) ?_
        have ep := mx_f2 (E := (fun n => gL (gE (gC g a) n (n + wn - 1)))) (lb := nI) (s := (0, -1)) (n := n) rfl c57
        have ih9 := ih (n + 1) (some (.long (gL (gE (gC g a) n (n + wn - 1))))) none (by omega)
        rw [ep] at ih9
        exact ih9
      · refine s_lload (pc2 := 62) w dX10_loudestWindow_60 rfl rfl ?_
        refine s_lstore (pc2 := 64) w dX10_loudestWindow_62 rfl rfl ?_
        dsimp only [gk_s1, gk_s2, gk_cl]
        refine s_iload (pc2 := 66) w dX10_loudestWindow_64 rfl rfl ?_
        refine s_istore (pc2 := 68) w dX10_loudestWindow_66 rfl rfl ?_
        dsimp only [gk_s1, gk_s2, gk_cl]
        refine s_iinc (pc2 := 71) w dX10_loudestWindow_68 rfl rfl rfl rfl ?_
        dsimp only [gk_s1, gk_s2, gk_cl]
        rw [nI_s]
        refine s_goto (tgt := 28) w dX10_loudestWindow_71 (by decide) ?_
        have ep := mx_t2 (E := (fun n => gL (gE (gC g a) n (n + wn - 1)))) (lb := nI) (s := (0, -1)) (n := n) rfl rfl c57
        have ih9 := ih (n + 1) (some (.long (gL (gE (gC g a) n (n + wn - 1))))) none (by omega)
        rw [ep] at ih9
        exact ih9
  exact key (257 - wn) 0 none none (by omega)
theorem lk_X10_loudestWindow {l : Launch} (hl : l.stackTraces = false) : ∀ q ∈ L_X10_loudestWindow, (q.2.1 < 5 → gk_Lk l RX10 gk_W1 8 q.1 q.2.1 q.2.2.1 q.2.2.2.1 q.2.2.2.2.1 q.2.2.2.2.2) := (List.forall_mem_cons.mpr ⟨(fun _ => ⟨yX10_requireRange, cX10_requireRange, 3, none, 6, _, M_X10_requireRange hl, ⟨by decide, by decide⟩, ⟨by decide, by decide, by decide +kernel⟩, ⟨(gk_wm 733 (by decide +kernel)), (gk_wm 89 (by decide +kernel))⟩, Or.inl ⟨rfl, rfl, (gk_wm 732 (by decide +kernel)), gk_wm 731 (by decide +kernel)⟩⟩), (List.forall_mem_cons.mpr ⟨(fun _ => ⟨yX10_requireMicrophone, cX10_requireMicrophone, 2, (some (.object "TrackArray$Microphone")), 7, _, M_X10_requireMicrophone hl, ⟨by decide, by decide⟩, ⟨by decide, by decide, by decide +kernel⟩, ⟨(gk_wm 902 (by decide +kernel)), (gk_wm 89 (by decide +kernel))⟩, Or.inr (Or.inr (Or.inr (Or.inl ⟨rfl, rfl, (gk_wm 901 (by decide +kernel)), (gk_wm 23 (by decide +kernel)), gk_wm 899 (by decide +kernel), by decide, rfl⟩)))⟩), (List.forall_mem_cons.mpr ⟨(fun _ => ⟨yX6_energyOf, cX6_energyOf, 6, (some .long), 0, _, M_X6_energyOf hl, ⟨by decide, by decide⟩, ⟨by decide, by decide, by decide +kernel⟩, ⟨(gk_wm 984 (by decide +kernel)), (gk_wm 108 (by decide +kernel))⟩, Or.inl ⟨rfl, rfl, (gk_wm 983 (by decide +kernel)), gk_wm 1012 (by decide +kernel)⟩⟩), (fun _ h => absurd h List.not_mem_nil)⟩)⟩)⟩)
theorem sp_X10_loudestWindow : ∀ q ∈ L_X10_loudestWindow, gk_Sq RX10 gk_W1 8 q := (List.forall_mem_cons.mpr ⟨⟨fun h => absurd h (by decide), fun h => absurd h (by decide), fun h => absurd h (by decide), fun h => absurd h (by decide), fun h => absurd h (by decide), fun h => absurd h (by decide)⟩, (List.forall_mem_cons.mpr ⟨⟨fun h => absurd h (by decide), fun h => absurd h (by decide), fun h => absurd h (by decide), fun h => absurd h (by decide), fun h => absurd h (by decide), fun h => absurd h (by decide)⟩, (List.forall_mem_cons.mpr ⟨⟨fun h => absurd h (by decide), fun h => absurd h (by decide), fun h => absurd h (by decide), fun h => absurd h (by decide), fun h => absurd h (by decide), fun h => absurd h (by decide)⟩, (fun _ h => absurd h List.not_mem_nil)⟩)⟩)⟩)
theorem M_X10_loudestWindow {l : Launch} (hl : l.stackTraces = false) : gk_Mt l yX10_loudestWindow (.code yX10_loudestWindow cX10_loudestWindow 10 (some .int) :: gk_W1) 8 2 S_X10_loudestWindow := gk_meth hl gk_cw_ok (by decide +kernel) rfl m_X10_loudestWindow pX10_ok (gk_Sp_of sp_X10_loudestWindow) pX10_st (fun ci m S h => absurd h (by intro h; cases h)) (xf_X10 (by decide)) (fun idx kd ci mm cost S2 h h5 => lk_X10_loudestWindow hl _ (gk_lk_mem h) h5)

def S_X10_bestLag : gk_S := fun as n fl x y K => ∃ (m : Int32) (o : Int32) (v : Int32) (g : Nat → Int32), as = [.ref 0, .int m, .int o, .int v] ∧ (n = 202 ∧ fl = gk_fT) ∧ (RS 1 g x y) ∧ (gOK g) ∧ (((0 ≤ m ∧ m < g 8) ∧ (0 ≤ o ∧ o < g 8)) → (0 ≤ v ∧ v ≤ 255) → ∀ (x2 : gk_X) (y2 : gk_Y), COk g x x2 y y2 → K (.inl (some (.int ((gk_mx (fun n => gL (gk_cv (gC g (cN m)) (gC g (cN o)) (gI (ow (n + 1))) 256)) (fun n => gI (ow (n + 1))) (0, LMIN) (2 * cN v + 1)).1)))) n fl x2 y2) ∧ (¬ ((0 ≤ m ∧ m < g 8) ∧ (0 ≤ o ∧ o < g 8)) → ∀ (x2 : gk_X) (y2 : gk_Y), COk g x x2 y y2 → K (.inr 2) n fl x2 y2) ∧ (((0 ≤ m ∧ m < g 8) ∧ (0 ≤ o ∧ o < g 8)) → ¬ (0 ≤ v ∧ v ≤ 255) → ∀ (x2 : gk_X) (y2 : gk_Y), COk g x x2 y y2 → K (.inr 0) n fl x2 y2)
theorem r_X10_bestLag (w : gk_W c P cs (fun _ _ => none) rt uf sc K V) {idx : Nat} {m : Int32} {o : Int32} {v : Int32} {g : Nat → Int32} (hd : decode c pc = .ok (.invokevirtual idx, 3)) (hp : pc + 3 = pc2) (hc : cs idx = some (1, 9, 4, 3, S_X10_bestLag)) (h8 : Nat.ble (r.map Value.category).sum 8 = true) (hu : u + 3 ≤ uf) (hp0 : RS 1 g x y) (hp1 : gOK g) (kk0 : ((0 ≤ m ∧ m < g 8) ∧ (0 ≤ o ∧ o < g 8)) → (0 ≤ v ∧ v ≤ 255) → ∀ (x2 : gk_X) (y2 : gk_Y), COk g x x2 y y2 → V pc2 L ((.int ((gk_mx (fun n => gL (gk_cv (gC g (cN m)) (gC g (cN o)) (gI (ow (n + 1))) 256)) (fun n => gI (ow (n + 1))) (0, LMIN) (2 * cN v + 1)).1)) :: r) 202 gk_fT x2 y2 (u + 3)) (kk1 : ¬ ((0 ≤ m ∧ m < g 8) ∧ (0 ≤ o ∧ o < g 8)) → ∀ (x2 : gk_X) (y2 : gk_Y), COk g x x2 y y2 → K (.inr 2) 202 gk_fT x2 y2) (kk2 : ((0 ≤ m ∧ m < g 8) ∧ (0 ≤ o ∧ o < g 8)) → ¬ (0 ≤ v ∧ v ≤ 255) → ∀ (x2 : gk_X) (y2 : gk_Y), COk g x x2 y y2 → K (.inr 0) 202 gk_fT x2 y2) : V pc L (.int v :: .int o :: .int m :: .ref 0 :: r) 202 gk_fT x y u :=
  g_callv w hd hp hc (as := [.ref 0, .int m, .int o, .int v]) rfl h8 rfl rfl rfl (Or.inr (Or.inl ⟨Or.inl rfl, _, _, rfl, (gk_kd_j rfl rfl), rfl⟩)) (Or.inr hu) ⟨m, o, v, g, rfl, ⟨rfl, rfl⟩, hp0, hp1, kk0, kk1, kk2⟩
def L_X10_bestLag : List (Nat × gk_M0) := [(55, (0, 9, 3, 1, S_X10_requireRange)), (112, (1, 9, 2, 1, S_X10_requireMicrophone)), (194, (0, 0, 3, 0, S_X6_productSum)), (202, (0, 9, 1, 0, S_X10_outward))]
def cs_X10_bestLag : Nat → Option gk_M0 := gk_lk L_X10_bestLag
theorem m_X10_bestLag : ∀ (as : List Value) (n : Nat) (fl : gk_F) (x : gk_X) (y : gk_Y) (K : gk_K), S_X10_bestLag as n fl x y K → (gk_L0 as).length ≤ 13 ∧ ∀ V : gk_V, gk_W cX10_bestLag pX10 cs_X10_bestLag (fun _ _ => none) (some .int) 3 none K V → V 0 (gk_en as 13) [] n fl x y 0 := by
  intro as n fl x y K hS
  obtain ⟨m, o, v, g, rfl, ⟨rfl, rfl⟩, hp0, hp1, q0, q1, q2⟩ := hS
  refine ⟨Nat.le_of_ble_eq_true rfl, fun V w => ?_⟩
  show V 0 [some (.ref 0), some (.int m), some (.int o), some (.int v), none, none, none, none, none, none, none, none, none] [] 202 gk_fT x y 0
  obtain ⟨nv4, ns6, nm8, z6, z7, z8⟩ := wf_n hp1.1
  have f0 := COk.ini hp0
  refine s_aload_n (pc2 := 1) w dX10_bestLag_0 rfl rfl ?_
  refine s_iload_n (pc2 := 2) w dX10_bestLag_1 rfl rfl ?_
  refine r_X10_requireMicrophone (pc2 := 5) w dX10_bestLag_2 rfl rfl rfl (Nat.le_of_ble_eq_true rfl) hp0 hp1.1 (fun h2 a ae ah => ?_) (fun h => q1  (fun hc => h hc.1) _ _ f0)
  subst ae
  obtain ⟨j1a, j2a, j3a⟩ := kd_m (show a < 8 by omega)
  have j1 := j1a
  have j2 := j2a
  have j3 := j3a
  refine m_getR (pc2 := 8) (ci := 1) (k := 0) (j2 := (2 * a + 29)) w dX10_bestLag_5 rfl rfl (by first | exact j2a | exact j2b | exact j1a | exact j1b) rfl rfl rfl ?_
  refine s_astore (pc2 := 10) w dX10_bestLag_8 rfl rfl ?_
  dsimp only [gk_s1, gk_s2, gk_cl]
  refine s_aload_n (pc2 := 11) w dX10_bestLag_10 rfl rfl ?_
  refine s_iload_n (pc2 := 12) w dX10_bestLag_11 rfl rfl ?_
  refine r_X10_requireMicrophone (pc2 := 15) w dX10_bestLag_12 rfl rfl rfl (Nat.le_of_ble_eq_true rfl) hp0 hp1.1 (fun h12 b be bh => ?_) (fun h => q1  (fun hc => h hc.2) _ _ f0)
  subst be
  obtain ⟨j1b, j2b, j3b⟩ := kd_m (show b < 8 by omega)
  have j1 := j1b
  have j2 := j2b
  have j3 := j3b
  refine m_getR (pc2 := 18) (ci := 1) (k := 0) (j2 := (2 * b + 29)) w dX10_bestLag_15 rfl rfl (by first | exact j2a | exact j2b | exact j1a | exact j1b) rfl rfl rfl ?_
  refine s_astore (pc2 := 20) w dX10_bestLag_18 rfl rfl ?_
  dsimp only [gk_s1, gk_s2, gk_cl]
  refine s_iload_n (pc2 := 21) w dX10_bestLag_20 rfl rfl ?_
  refine s_iconst (pc2 := 22) (v := 0) w dX10_bestLag_21 rfl rfl ?_
  refine s_sipush (pc2 := 25) (v := 255) w dX10_bestLag_22 rfl rfl ?_
  refine r_X10_requireRange (pc2 := 28) w dX10_bestLag_25 rfl rfl rfl (Nat.le_of_ble_eq_true rfl) (fun h25 => ?_) (fun h => q2 ⟨h2, h12⟩ (fun hc => h hc) _ _ f0)
  obtain ⟨gn, rfl, gnh⟩ := ix_t h25
  rw [cN_n a (by omega), cN_n b (by omega), cN_n gn (by omega)] at q0
  refine s_iconst (pc2 := 29) (v := 0) w dX10_bestLag_28 rfl rfl ?_
  refine s_istore (pc2 := 31) w dX10_bestLag_29 rfl rfl ?_
  dsimp only [gk_s1, gk_s2, gk_cl]
  refine s_ldc2_w (pc2 := 34) (v := (-9223372036854775808)) w dX10_bestLag_31 rfl rfl ?_
  refine s_lstore (pc2 := 36) w dX10_bestLag_34 rfl rfl ?_
  dsimp only [gk_s1, gk_s2, gk_cl]
  refine s_iconst (pc2 := 37) (v := 1) w dX10_bestLag_36 rfl rfl ?_
  refine s_istore (pc2 := 39) w dX10_bestLag_37 rfl rfl ?_
  dsimp only [gk_s1, gk_s2, gk_cl]
  have key : ∀ (k n : Nat) (l10 l11 l12 : Option Value), n + k = 2 * gn + 1 → V 39 [some (.ref 0), some (.int (nI a)), some (.int (nI b)), some (.int (nI gn)), some (.ref (2 * a + 29)), some (.ref (2 * b + 29)), some (.int (gk_mx (fun n => gL (gk_cv (gC g a) (gC g b) (gI (ow (n + 1))) 256)) (fun n => gI (ow (n + 1))) (0, LMIN) n).1), some (.long (gk_mx (fun n => gL (gk_cv (gC g a) (gC g b) (gI (ow (n + 1))) 256)) (fun n => gI (ow (n + 1))) (0, LMIN) n).2), none, some (.int (nI (n + 1))), l10, l11, l12] [] 202 gk_fT x y 3 := by
    intro k
    induction k with
    | zero =>
      intro n l10 l11 l12 ht
      obtain rfl : n = 2 * gn + 1 := by omega
      have ew : gI 2 * nI gn + gI 1 = gI (2 * (gn : Int) + 1) := by rw [gI_nI gn, gI_mul, gI_add]
      refine s_iload (pc2 := 41) w dX10_bestLag_39 rfl rfl ?_
      refine s_iconst (pc2 := 42) (v := gI 2) w dX10_bestLag_41 rfl rfl ?_
      refine s_iload_n (pc2 := 43) w dX10_bestLag_42 rfl rfl ?_
      refine s_imul (pc2 := 44) w dX10_bestLag_43 rfl ?_
      refine s_iconst (pc2 := 45) (v := gI 1) w dX10_bestLag_44 rfl rfl ?_
      refine s_iadd (pc2 := 46) w dX10_bestLag_45 rfl ?_
      rw [ew]
      refine s_ic_gt (pc2 := 49) (tgt := 89) w dX10_bestLag_46 rfl (by decide) (fun _ => ?_) (fun h0 => absurd (by rw [gI_nI, gI_lt ⟨by omega, by omega⟩ ⟨by omega, by omega⟩]; omega) h0)
      refine s_iload (pc2 := 91) w dX10_bestLag_89 rfl rfl ?_
      refine s_ireturn w dX10_bestLag_91 rfl rfl ?_
      exact q0 ⟨h2, h12⟩ h25 _ _ f0
    | succ k ih =>
      intro n l10 l11 l12 ht
      have ew : gI 2 * nI gn + gI 1 = gI (2 * (gn : Int) + 1) := by rw [gI_nI gn, gI_mul, gI_add]
      refine s_iload (pc2 := 41) w dX10_bestLag_39 rfl rfl ?_
      refine s_iconst (pc2 := 42) (v := gI 2) w dX10_bestLag_41 rfl rfl ?_
      refine s_iload_n (pc2 := 43) w dX10_bestLag_42 rfl rfl ?_
      refine s_imul (pc2 := 44) w dX10_bestLag_43 rfl ?_
      refine s_iconst (pc2 := 45) (v := gI 1) w dX10_bestLag_44 rfl rfl ?_
      refine s_iadd (pc2 := 46) w dX10_bestLag_45 rfl ?_
      rw [ew]
      refine s_ic_gt (pc2 := 49) (tgt := 89) w dX10_bestLag_46 rfl (by decide) (fun h0 => absurd h0 (by rw [gI_nI, gI_lt ⟨by omega, by omega⟩ ⟨by omega, by omega⟩]; omega)) (fun _ => ?_)
      refine s_iload (pc2 := 51) w dX10_bestLag_49 rfl rfl ?_
      refine r_X10_outward (pc2 := 54) (t := ((n + 1 : Nat) : Int)) w dX10_bestLag_51 rfl rfl rfl rfl (by omega) (by omega) ?_
      show V _ _ (.int (gI (ow (n + 1))) :: _) _ _ _ _ _
      refine s_istore (pc2 := 56) w dX10_bestLag_54 rfl rfl ?_
      dsimp only [gk_s1, gk_s2, gk_cl]
      refine s_aload (pc2 := 58) w dX10_bestLag_56 rfl rfl ?_
      refine s_aload (pc2 := 60) w dX10_bestLag_58 rfl rfl ?_
      refine s_iload (pc2 := 62) w dX10_bestLag_60 rfl rfl ?_
      refine r_X6_productSum (pc2 := 65) w dX10_bestLag_62 rfl rfl rfl (by first | exact j2a | exact j2b | exact j1a | exact j1b) (by first | exact j2a | exact j2b | exact j1a | exact j1b) j3a j3b ?_
      rw [cv_cg (r2 := gC g a) (s2 := gC g b) (fun k hk => hp0.2.2.2.2.2.1 a ah k hk) (fun k hk => hp0.2.2.2.2.2.1 b bh k hk) 256 (Nat.le_refl _)]
      refine s_lstore (pc2 := 67) w dX10_bestLag_65 rfl rfl ?_
      dsimp only [gk_s1, gk_s2, gk_cl]
      refine s_lload (pc2 := 69) w dX10_bestLag_67 rfl rfl ?_
      refine s_lload (pc2 := 71) w dX10_bestLag_69 rfl rfl ?_
      refine s_lcmp (pc2 := 72) w dX10_bestLag_71 rfl ?_
      refine s_if_le (pc2 := 75) (tgt := 83) w dX10_bestLag_72 rfl (by decide) (fun c72 => ?_) (fun c72 => ?_)
      · refine s_iinc (pc2 := 86) w dX10_bestLag_83 rfl rfl rfl rfl ?_
        dsimp only [gk_s1, gk_s2, gk_cl]
        rw [nI_s]
        refine s_goto (tgt := 39) w dX10_bestLag_86 (by decide) ?_
        have ep := mx_f2 (E := (fun n => gL (gk_cv (gC g a) (gC g b) (gI (ow (n + 1))) 256))) (lb := (fun n => gI (ow (n + 1)))) (s := (0, LMIN)) (n := n) rfl c72
        have ih9 := ih (n + 1) (some (.int (gI (ow (n + 1))))) (some (.long (gL (gk_cv (gC g a) (gC g b) (gI (ow (n + 1))) 256)))) none (by omega)
        rw [ep] at ih9
        exact ih9
      · refine s_lload (pc2 := 77) w dX10_bestLag_75 rfl rfl ?_
        refine s_lstore (pc2 := 79) w dX10_bestLag_77 rfl rfl ?_
        dsimp only [gk_s1, gk_s2, gk_cl]
        refine s_iload (pc2 := 81) w dX10_bestLag_79 rfl rfl ?_
        refine s_istore (pc2 := 83) w dX10_bestLag_81 rfl rfl ?_
        dsimp only [gk_s1, gk_s2, gk_cl]
        refine s_iinc (pc2 := 86) w dX10_bestLag_83 rfl rfl rfl rfl ?_
        dsimp only [gk_s1, gk_s2, gk_cl]
        rw [nI_s]
        refine s_goto (tgt := 39) w dX10_bestLag_86 (by decide) ?_
        have ep := mx_t2 (E := (fun n => gL (gk_cv (gC g a) (gC g b) (gI (ow (n + 1))) 256))) (lb := (fun n => gI (ow (n + 1)))) (s := (0, LMIN)) (n := n) rfl rfl c72
        have ih9 := ih (n + 1) (some (.int (gI (ow (n + 1))))) (some (.long (gL (gk_cv (gC g a) (gC g b) (gI (ow (n + 1))) 256)))) none (by omega)
        rw [ep] at ih9
        exact ih9
  exact key (2 * gn + 1) 0 none none none (by omega)
theorem lk_X10_bestLag {l : Launch} (hl : l.stackTraces = false) : ∀ q ∈ L_X10_bestLag, (q.2.1 < 5 → gk_Lk l RX10 gk_W1 8 q.1 q.2.1 q.2.2.1 q.2.2.2.1 q.2.2.2.2.1 q.2.2.2.2.2) := (List.forall_mem_cons.mpr ⟨(fun _ => ⟨yX10_requireRange, cX10_requireRange, 3, none, 6, _, M_X10_requireRange hl, ⟨by decide, by decide⟩, ⟨by decide, by decide, by decide +kernel⟩, ⟨(gk_wm 733 (by decide +kernel)), (gk_wm 89 (by decide +kernel))⟩, Or.inl ⟨rfl, rfl, (gk_wm 732 (by decide +kernel)), gk_wm 731 (by decide +kernel)⟩⟩), (List.forall_mem_cons.mpr ⟨(fun _ => ⟨yX10_requireMicrophone, cX10_requireMicrophone, 2, (some (.object "TrackArray$Microphone")), 7, _, M_X10_requireMicrophone hl, ⟨by decide, by decide⟩, ⟨by decide, by decide, by decide +kernel⟩, ⟨(gk_wm 902 (by decide +kernel)), (gk_wm 89 (by decide +kernel))⟩, Or.inr (Or.inr (Or.inr (Or.inl ⟨rfl, rfl, (gk_wm 901 (by decide +kernel)), (gk_wm 23 (by decide +kernel)), gk_wm 899 (by decide +kernel), by decide, rfl⟩)))⟩), (List.forall_mem_cons.mpr ⟨(fun _ => ⟨yX6_productSum, cX6_productSum, 6, (some .long), 1, _, M_X6_productSum hl, ⟨by decide, by decide⟩, ⟨by decide, by decide, by decide +kernel⟩, ⟨(gk_wm 1029 (by decide +kernel)), (gk_wm 108 (by decide +kernel))⟩, Or.inl ⟨rfl, rfl, (gk_wm 1028 (by decide +kernel)), gk_wm 1027 (by decide +kernel)⟩⟩), (List.forall_mem_cons.mpr ⟨(fun _ => ⟨yX10_outward, cX10_outward, 1, (some .int), 0, _, M_X10_outward hl, ⟨by decide, by decide⟩, ⟨by decide, by decide, by decide +kernel⟩, ⟨(gk_wm 1041 (by decide +kernel)), (gk_wm 89 (by decide +kernel))⟩, Or.inl ⟨rfl, rfl, (gk_wm 1040 (by decide +kernel)), gk_wm 1039 (by decide +kernel)⟩⟩), (fun _ h => absurd h List.not_mem_nil)⟩)⟩)⟩)⟩)
theorem sp_X10_bestLag : ∀ q ∈ L_X10_bestLag, gk_Sq RX10 gk_W1 8 q := (List.forall_mem_cons.mpr ⟨⟨fun h => absurd h (by decide), fun h => absurd h (by decide), fun h => absurd h (by decide), fun h => absurd h (by decide), fun h => absurd h (by decide), fun h => absurd h (by decide)⟩, (List.forall_mem_cons.mpr ⟨⟨fun h => absurd h (by decide), fun h => absurd h (by decide), fun h => absurd h (by decide), fun h => absurd h (by decide), fun h => absurd h (by decide), fun h => absurd h (by decide)⟩, (List.forall_mem_cons.mpr ⟨⟨fun h => absurd h (by decide), fun h => absurd h (by decide), fun h => absurd h (by decide), fun h => absurd h (by decide), fun h => absurd h (by decide), fun h => absurd h (by decide)⟩, (List.forall_mem_cons.mpr ⟨⟨fun h => absurd h (by decide), fun h => absurd h (by decide), fun h => absurd h (by decide), fun h => absurd h (by decide), fun h => absurd h (by decide), fun h => absurd h (by decide)⟩, (fun _ h => absurd h List.not_mem_nil)⟩)⟩)⟩)⟩)
theorem M_X10_bestLag {l : Launch} (hl : l.stackTraces = false) : gk_Mt l yX10_bestLag (.code yX10_bestLag cX10_bestLag 13 (some .int) :: gk_W1) 8 3 S_X10_bestLag := gk_meth hl gk_cw_ok (by decide +kernel) rfl m_X10_bestLag pX10_ok (gk_Sp_of sp_X10_bestLag) pX10_st (fun ci m S h => absurd h (by intro h; cases h)) (xf_X10 (by decide)) (fun idx kd ci mm cost S2 h h5 => lk_X10_bestLag hl _ (gk_lk_mem h) h5)

def S_X10_bestPeriod : gk_S := fun as n fl x y K => ∃ (v : Int32) (f : Int32) (l : Int32) (g : Nat → Int32), as = [.ref 0, .int v, .int f, .int l] ∧ (n = 202 ∧ fl = gk_fT) ∧ (RS 1 g x y) ∧ (gOK g) ∧ (((1 ≤ v ∧ v ≤ 64) ∧ (0 ≤ f ∧ f ≤ l ∧ l ≤ 255)) → ∀ (x2 : gk_X) (y2 : gk_Y), COk g x x2 y y2 → K (.inl (some (.int ((gk_mx (fun n => gS (gB g 0) (cN f) (cN l) (n + 1)) (fun n => nI (n + 1)) (1, -1) (cN v)).1)))) n fl x2 y2) ∧ (¬ ((1 ≤ v ∧ v ≤ 64) ∧ (0 ≤ f ∧ f ≤ l ∧ l ≤ 255)) → ∀ (x2 : gk_X) (y2 : gk_Y), COk g x x2 y y2 → K (.inr 0) n fl x2 y2)
theorem r_X10_bestPeriod (w : gk_W c P cs (fun _ _ => none) rt uf sc K V) {idx : Nat} {v : Int32} {f : Int32} {l : Int32} {g : Nat → Int32} (hd : decode c pc = .ok (.invokevirtual idx, 3)) (hp : pc + 3 = pc2) (hc : cs idx = some (1, 9, 4, 3, S_X10_bestPeriod)) (h8 : Nat.ble (r.map Value.category).sum 8 = true) (hu : u + 3 ≤ uf) (hp0 : RS 1 g x y) (hp1 : gOK g) (kk0 : ((1 ≤ v ∧ v ≤ 64) ∧ (0 ≤ f ∧ f ≤ l ∧ l ≤ 255)) → ∀ (x2 : gk_X) (y2 : gk_Y), COk g x x2 y y2 → V pc2 L ((.int ((gk_mx (fun n => gS (gB g 0) (cN f) (cN l) (n + 1)) (fun n => nI (n + 1)) (1, -1) (cN v)).1)) :: r) 202 gk_fT x2 y2 (u + 3)) (kk1 : ¬ ((1 ≤ v ∧ v ≤ 64) ∧ (0 ≤ f ∧ f ≤ l ∧ l ≤ 255)) → ∀ (x2 : gk_X) (y2 : gk_Y), COk g x x2 y y2 → K (.inr 0) 202 gk_fT x2 y2) : V pc L (.int l :: .int f :: .int v :: .ref 0 :: r) 202 gk_fT x y u :=
  g_callv w hd hp hc (as := [.ref 0, .int v, .int f, .int l]) rfl h8 rfl rfl rfl (Or.inr (Or.inl ⟨Or.inl rfl, _, _, rfl, (gk_kd_j rfl rfl), rfl⟩)) (Or.inr hu) ⟨v, f, l, g, rfl, ⟨rfl, rfl⟩, hp0, hp1, kk0, kk1⟩
def L_X10_bestPeriod : List (Nat × gk_M0) := [(55, (0, 9, 3, 1, S_X10_requireRange)), (175, (0, 9, 2, 2, S_X10_requireWindow)), (233, (1, 0, 5, 0, S_X0_formBeam)), (240, (0, 0, 4, 0, S_X6_periodStrength))]
def cs_X10_bestPeriod : Nat → Option gk_M0 := gk_lk L_X10_bestPeriod
theorem m_X10_bestPeriod : ∀ (as : List Value) (n : Nat) (fl : gk_F) (x : gk_X) (y : gk_Y) (K : gk_K), S_X10_bestPeriod as n fl x y K → (gk_L0 as).length ≤ 11 ∧ ∀ V : gk_V, gk_W cX10_bestPeriod pX10 cs_X10_bestPeriod (fun _ _ => none) (some .int) 3 none K V → V 0 (gk_en as 11) [] n fl x y 0 := by
  intro as n fl x y K hS
  obtain ⟨v, f, l, g, rfl, ⟨rfl, rfl⟩, hp0, hp1, q0, q1⟩ := hS
  refine ⟨Nat.le_of_ble_eq_true rfl, fun V w => ?_⟩
  show V 0 [some (.ref 0), some (.int v), some (.int f), some (.int l), none, none, none, none, none, none, none] [] 202 gk_fT x y 0
  obtain ⟨nv4, ns6, nm8, z6, z7, z8⟩ := wf_n hp1.1
  have f0 := COk.ini hp0
  refine s_iload_n (pc2 := 1) w dX10_bestPeriod_0 rfl rfl ?_
  refine s_iconst (pc2 := 2) (v := 1) w dX10_bestPeriod_1 rfl rfl ?_
  refine s_bipush (pc2 := 4) (v := 64) w dX10_bestPeriod_2 rfl rfl ?_
  refine r_X10_requireRange (pc2 := 7) w dX10_bestPeriod_4 rfl rfl rfl (Nat.le_of_ble_eq_true rfl) (fun h4 => ?_) (fun h => q1  (fun hc => h hc.1) _ _ f0)
  refine s_iload_n (pc2 := 8) w dX10_bestPeriod_7 rfl rfl ?_
  refine s_iload_n (pc2 := 9) w dX10_bestPeriod_8 rfl rfl ?_
  refine r_X10_requireWindow (pc2 := 12) w dX10_bestPeriod_9 rfl rfl rfl (Nat.le_of_ble_eq_true rfl) (fun h9 => ?_) (fun h => q1  (fun hc => h hc.2) _ _ f0)
  obtain ⟨p, rfl, ph1, ph2⟩ := ix_p h4
  obtain ⟨b, e, rfl, rfl, beh, eh⟩ := ix_w h9
  rw [cN_n p (by omega), cN_n b (by omega), cN_n e (by omega)] at q0
  refine s_aload_n (pc2 := 13) w dX10_bestPeriod_12 rfl rfl ?_
  refine m_getR (pc2 := 16) (ci := 9) (k := 5) (j2 := 90) w dX10_bestPeriod_13 rfl rfl rfl rfl rfl rfl ?_
  refine s_aload_n (pc2 := 17) w dX10_bestPeriod_16 rfl rfl ?_
  refine m_getR (pc2 := 20) (ci := 9) (k := 0) (j2 := 1) w dX10_bestPeriod_17 rfl rfl rfl rfl rfl rfl ?_
  refine s_iconst (pc2 := 21) (v := 0) w dX10_bestPeriod_20 rfl rfl ?_
  refine s_iload_n (pc2 := 22) w dX10_bestPeriod_21 rfl rfl ?_
  refine s_iload_n (pc2 := 23) w dX10_bestPeriod_22 rfl rfl ?_
  refine r_X0_formBeam (pc2 := 26) (B := 0) w dX10_bestPeriod_23 rfl rfl rfl hp0 hp1.1 hp1.2.1 rfl (by omega) rfl rfl beh eh (fun x1 y1 hx1 hy1 => ?_)
  have f1 := fb_ok hp1.1 f0 hx1 hy1
  have hr : ∀ i, b ≤ i → i ≤ e → x1 91 i = gB g 0 i := fun i h1 h2 => (hx1 91 i (by decide)).trans ((gk_ur_in (by omega)).trans (if_pos ⟨h1, h2⟩))
  refine s_astore (pc2 := 28) w dX10_bestPeriod_26 rfl rfl ?_
  dsimp only [gk_s1, gk_s2, gk_cl]
  refine s_iconst (pc2 := 29) (v := 1) w dX10_bestPeriod_28 rfl rfl ?_
  refine s_istore (pc2 := 31) w dX10_bestPeriod_29 rfl rfl ?_
  dsimp only [gk_s1, gk_s2, gk_cl]
  refine s_ldc2_w (pc2 := 34) (v := (-1)) w dX10_bestPeriod_31 rfl rfl ?_
  refine s_lstore (pc2 := 36) w dX10_bestPeriod_34 rfl rfl ?_
  dsimp only [gk_s1, gk_s2, gk_cl]
  refine s_iconst (pc2 := 37) (v := 1) w dX10_bestPeriod_36 rfl rfl ?_
  refine s_istore (pc2 := 39) w dX10_bestPeriod_37 rfl rfl ?_
  dsimp only [gk_s1, gk_s2, gk_cl]
  have key : ∀ (k n : Nat) (l9 l10 : Option Value), n + k = p → V 39 [some (.ref 0), some (.int (nI p)), some (.int (nI b)), some (.int (nI e)), some (.ref 91), some (.int (gk_mx (fun n => gS (gB g 0) b e (n + 1)) (fun n => nI (n + 1)) (1, -1) n).1), some (.long (gk_mx (fun n => gS (gB g 0) b e (n + 1)) (fun n => nI (n + 1)) (1, -1) n).2), none, some (.int (nI (n + 1))), l9, l10] [] 202 gk_fT x1 y1 3 := by
    intro k
    induction k with
    | zero =>
      intro n l9 l10 ht
      have hnp : n = p := by omega
      subst hnp
      refine s_iload (pc2 := 41) w dX10_bestPeriod_39 rfl rfl ?_
      refine s_iload_n (pc2 := 42) w dX10_bestPeriod_41 rfl rfl ?_
      refine s_ic_gt (pc2 := 45) (tgt := 78) w dX10_bestPeriod_42 rfl (by decide) (fun _ => ?_) (fun h0 => absurd (by rw [gI_nI, gI_nI, gI_lt ⟨by omega, by omega⟩ ⟨by omega, by omega⟩]; omega) h0)
      refine s_iload (pc2 := 80) w dX10_bestPeriod_78 rfl rfl ?_
      refine s_ireturn w dX10_bestPeriod_80 rfl rfl ?_
      exact q0 ⟨h4, h9⟩ _ _ f1
    | succ k ih =>
      intro n l9 l10 ht
      refine s_iload (pc2 := 41) w dX10_bestPeriod_39 rfl rfl ?_
      refine s_iload_n (pc2 := 42) w dX10_bestPeriod_41 rfl rfl ?_
      refine s_ic_gt (pc2 := 45) (tgt := 78) w dX10_bestPeriod_42 rfl (by decide) (fun h0 => absurd h0 (by rw [gI_nI, gI_nI, gI_lt ⟨by omega, by omega⟩ ⟨by omega, by omega⟩]; omega)) (fun _ => ?_)
      refine s_aload (pc2 := 47) w dX10_bestPeriod_45 rfl rfl ?_
      refine s_iload (pc2 := 49) w dX10_bestPeriod_47 rfl rfl ?_
      refine s_iload_n (pc2 := 50) w dX10_bestPeriod_49 rfl rfl ?_
      refine s_iload_n (pc2 := 51) w dX10_bestPeriod_50 rfl rfl ?_
      refine r_X6_periodStrength (pc2 := 54) w dX10_bestPeriod_51 rfl rfl rfl rfl rfl rfl ⟨by omega, by omega⟩ rfl rfl beh eh ?_
      rw [win_pw hr]
      show V _ _ (.long (gS (gB g 0) b e (n + 1)) :: _) _ _ _ _ _
      refine s_lstore (pc2 := 56) w dX10_bestPeriod_54 rfl rfl ?_
      dsimp only [gk_s1, gk_s2, gk_cl]
      refine s_lload (pc2 := 58) w dX10_bestPeriod_56 rfl rfl ?_
      refine s_lload (pc2 := 60) w dX10_bestPeriod_58 rfl rfl ?_
      refine s_lcmp (pc2 := 61) w dX10_bestPeriod_60 rfl ?_
      refine s_if_le (pc2 := 64) (tgt := 72) w dX10_bestPeriod_61 rfl (by decide) (fun c61 => ?_) (fun c61 => ?_)
      · refine s_iinc (pc2 := 75) w dX10_bestPeriod_72 rfl rfl rfl rfl ?_
        dsimp only [gk_s1, gk_s2, gk_cl]
        rw [nI_s]
        refine s_goto (tgt := 39) w dX10_bestPeriod_75 (by decide) ?_
        have ep := mx_f2 (E := (fun n => gS (gB g 0) b e (n + 1))) (lb := (fun n => nI (n + 1))) (s := (1, -1)) (n := n) rfl c61
        have ih9 := ih (n + 1) (some (.long (gS (gB g 0) b e (n + 1)))) none (by omega)
        rw [ep] at ih9
        exact ih9
      · refine s_lload (pc2 := 66) w dX10_bestPeriod_64 rfl rfl ?_
        refine s_lstore (pc2 := 68) w dX10_bestPeriod_66 rfl rfl ?_
        dsimp only [gk_s1, gk_s2, gk_cl]
        refine s_iload (pc2 := 70) w dX10_bestPeriod_68 rfl rfl ?_
        refine s_istore (pc2 := 72) w dX10_bestPeriod_70 rfl rfl ?_
        dsimp only [gk_s1, gk_s2, gk_cl]
        refine s_iinc (pc2 := 75) w dX10_bestPeriod_72 rfl rfl rfl rfl ?_
        dsimp only [gk_s1, gk_s2, gk_cl]
        rw [nI_s]
        refine s_goto (tgt := 39) w dX10_bestPeriod_75 (by decide) ?_
        have ep := mx_t2 (E := (fun n => gS (gB g 0) b e (n + 1))) (lb := (fun n => nI (n + 1))) (s := (1, -1)) (n := n) rfl rfl c61
        have ih9 := ih (n + 1) (some (.long (gS (gB g 0) b e (n + 1)))) none (by omega)
        rw [ep] at ih9
        exact ih9
  exact key p 0 none none (by omega)
theorem lk_X10_bestPeriod {l : Launch} (hl : l.stackTraces = false) : ∀ q ∈ L_X10_bestPeriod, (q.2.1 < 5 → gk_Lk l RX10 gk_W1 9 q.1 q.2.1 q.2.2.1 q.2.2.2.1 q.2.2.2.2.1 q.2.2.2.2.2) := (List.forall_mem_cons.mpr ⟨(fun _ => ⟨yX10_requireRange, cX10_requireRange, 3, none, 6, _, M_X10_requireRange hl, ⟨by decide, by decide⟩, ⟨by decide, by decide, by decide +kernel⟩, ⟨(gk_wm 733 (by decide +kernel)), (gk_wm 89 (by decide +kernel))⟩, Or.inl ⟨rfl, rfl, (gk_wm 732 (by decide +kernel)), gk_wm 731 (by decide +kernel)⟩⟩), (List.forall_mem_cons.mpr ⟨(fun _ => ⟨yX10_requireWindow, cX10_requireWindow, 2, none, 8, _, M_X10_requireWindow hl, ⟨by decide, by decide⟩, ⟨by decide, by decide, by decide +kernel⟩, ⟨(gk_wm 978 (by decide +kernel)), (gk_wm 89 (by decide +kernel))⟩, Or.inl ⟨rfl, rfl, (gk_wm 977 (by decide +kernel)), gk_wm 976 (by decide +kernel)⟩⟩), (List.forall_mem_cons.mpr ⟨(fun _ => ⟨yX0_formBeam, cX0_formBeam, 7, (some (.array .int)), 5, _, M_X0_formBeam hl, ⟨by decide, by decide⟩, ⟨by decide, by decide, by decide +kernel⟩, ⟨(gk_wm 1130 (by decide +kernel)), (gk_wm 95 (by decide +kernel))⟩, Or.inr (Or.inr (Or.inr (Or.inl ⟨rfl, rfl, (gk_wm 1128 (by decide +kernel)), (gk_wm 1129 (by decide +kernel)), gk_wm 1127 (by decide +kernel), by decide, rfl⟩)))⟩), (List.forall_mem_cons.mpr ⟨(fun _ => ⟨yX6_periodStrength, cX6_periodStrength, 4, (some .long), 2, _, M_X6_periodStrength hl, ⟨by decide, by decide⟩, ⟨by decide, by decide, by decide +kernel⟩, ⟨(gk_wm 1166 (by decide +kernel)), (gk_wm 108 (by decide +kernel))⟩, Or.inl ⟨rfl, rfl, (gk_wm 1165 (by decide +kernel)), gk_wm 1164 (by decide +kernel)⟩⟩), (fun _ h => absurd h List.not_mem_nil)⟩)⟩)⟩)⟩)
theorem sp_X10_bestPeriod : ∀ q ∈ L_X10_bestPeriod, gk_Sq RX10 gk_W1 9 q := (List.forall_mem_cons.mpr ⟨⟨fun h => absurd h (by decide), fun h => absurd h (by decide), fun h => absurd h (by decide), fun h => absurd h (by decide), fun h => absurd h (by decide), fun h => absurd h (by decide)⟩, (List.forall_mem_cons.mpr ⟨⟨fun h => absurd h (by decide), fun h => absurd h (by decide), fun h => absurd h (by decide), fun h => absurd h (by decide), fun h => absurd h (by decide), fun h => absurd h (by decide)⟩, (List.forall_mem_cons.mpr ⟨⟨fun h => absurd h (by decide), fun h => absurd h (by decide), fun h => absurd h (by decide), fun h => absurd h (by decide), fun h => absurd h (by decide), fun h => absurd h (by decide)⟩, (List.forall_mem_cons.mpr ⟨⟨fun h => absurd h (by decide), fun h => absurd h (by decide), fun h => absurd h (by decide), fun h => absurd h (by decide), fun h => absurd h (by decide), fun h => absurd h (by decide)⟩, (fun _ h => absurd h List.not_mem_nil)⟩)⟩)⟩)⟩)
theorem M_X10_bestPeriod {l : Launch} (hl : l.stackTraces = false) : gk_Mt l yX10_bestPeriod (.code yX10_bestPeriod cX10_bestPeriod 11 (some .int) :: gk_W1) 9 3 S_X10_bestPeriod := gk_meth hl gk_cw_ok (by decide +kernel) rfl m_X10_bestPeriod pX10_ok (gk_Sp_of sp_X10_bestPeriod) pX10_st (fun ci m S h => absurd h (by intro h; cases h)) (xf_X10 (by decide)) (fun idx kd ci mm cost S2 h h5 => lk_X10_bestPeriod hl _ (gk_lk_mem h) h5)

def S_X10_scan : gk_S := fun as n fl x y K => ∃ (v : Int32) (o : Int32) (f : Int32) (l : Int32) (g : Nat → Int32), as = [.ref 0, .int v, .int o, .int f, .int l] ∧ (n = 202 ∧ fl = gk_fT) ∧ (RS 1 g x y) ∧ (gOK g) ∧ (((1 ≤ v ∧ v ≤ 100) ∧ (0 ≤ o ∧ o ≤ 20) ∧ (0 ≤ f ∧ f ≤ l ∧ l ≤ 255)) → ∀ (x2 : gk_X) (y2 : gk_Y), COk g x x2 y y2 → K (.inl (some (.int ((gk_mx (fun n => gL (gE (gB g (ow (n + 1) * ((cN v : Nat) : Int))) (cN f) (cN l))) (fun n => gI (ow (n + 1))) (0, -1) (2 * cN o + 1)).1)))) n fl x2 y2) ∧ (¬ ((1 ≤ v ∧ v ≤ 100) ∧ (0 ≤ o ∧ o ≤ 20) ∧ (0 ≤ f ∧ f ≤ l ∧ l ≤ 255)) → ∀ (x2 : gk_X) (y2 : gk_Y), COk g x x2 y y2 → K (.inr 0) n fl x2 y2)
theorem r_X10_scan (w : gk_W c P cs (fun _ _ => none) rt uf sc K V) {idx : Nat} {v : Int32} {o : Int32} {f : Int32} {l : Int32} {g : Nat → Int32} (hd : decode c pc = .ok (.invokevirtual idx, 3)) (hp : pc + 3 = pc2) (hc : cs idx = some (1, 9, 5, 4, S_X10_scan)) (h8 : Nat.ble (r.map Value.category).sum 8 = true) (hu : u + 4 ≤ uf) (hp0 : RS 1 g x y) (hp1 : gOK g) (kk0 : ((1 ≤ v ∧ v ≤ 100) ∧ (0 ≤ o ∧ o ≤ 20) ∧ (0 ≤ f ∧ f ≤ l ∧ l ≤ 255)) → ∀ (x2 : gk_X) (y2 : gk_Y), COk g x x2 y y2 → V pc2 L ((.int ((gk_mx (fun n => gL (gE (gB g (ow (n + 1) * ((cN v : Nat) : Int))) (cN f) (cN l))) (fun n => gI (ow (n + 1))) (0, -1) (2 * cN o + 1)).1)) :: r) 202 gk_fT x2 y2 (u + 4)) (kk1 : ¬ ((1 ≤ v ∧ v ≤ 100) ∧ (0 ≤ o ∧ o ≤ 20) ∧ (0 ≤ f ∧ f ≤ l ∧ l ≤ 255)) → ∀ (x2 : gk_X) (y2 : gk_Y), COk g x x2 y y2 → K (.inr 0) 202 gk_fT x2 y2) : V pc L (.int l :: .int f :: .int o :: .int v :: .ref 0 :: r) 202 gk_fT x y u :=
  g_callv w hd hp hc (as := [.ref 0, .int v, .int o, .int f, .int l]) rfl h8 rfl rfl rfl (Or.inr (Or.inl ⟨Or.inl rfl, _, _, rfl, (gk_kd_j rfl rfl), rfl⟩)) (Or.inr hu) ⟨v, o, f, l, g, rfl, ⟨rfl, rfl⟩, hp0, hp1, kk0, kk1⟩
def L_X10_scan : List (Nat × gk_M0) := [(55, (0, 9, 3, 1, S_X10_requireRange)), (175, (0, 9, 2, 2, S_X10_requireWindow)), (190, (0, 0, 3, 0, S_X6_energyOf)), (202, (0, 9, 1, 0, S_X10_outward)), (233, (1, 0, 5, 0, S_X0_formBeam))]
def cs_X10_scan : Nat → Option gk_M0 := gk_lk L_X10_scan
theorem m_X10_scan : ∀ (as : List Value) (n : Nat) (fl : gk_F) (x : gk_X) (y : gk_Y) (K : gk_K), S_X10_scan as n fl x y K → (gk_L0 as).length ≤ 13 ∧ ∀ V : gk_V, gk_W cX10_scan pX10 cs_X10_scan (fun _ _ => none) (some .int) 4 none K V → V 0 (gk_en as 13) [] n fl x y 0 := by
  intro as n fl x y K hS
  obtain ⟨v, o, f, l, g, rfl, ⟨rfl, rfl⟩, hp0, hp1, q0, q1⟩ := hS
  refine ⟨Nat.le_of_ble_eq_true rfl, fun V w => ?_⟩
  show V 0 [some (.ref 0), some (.int v), some (.int o), some (.int f), some (.int l), none, none, none, none, none, none, none, none] [] 202 gk_fT x y 0
  obtain ⟨nv4, ns6, nm8, z6, z7, z8⟩ := wf_n hp1.1
  have f0 := COk.ini hp0
  refine s_iload_n (pc2 := 1) w dX10_scan_0 rfl rfl ?_
  refine s_iconst (pc2 := 2) (v := 1) w dX10_scan_1 rfl rfl ?_
  refine s_bipush (pc2 := 4) (v := 100) w dX10_scan_2 rfl rfl ?_
  refine r_X10_requireRange (pc2 := 7) w dX10_scan_4 rfl rfl rfl (Nat.le_of_ble_eq_true rfl) (fun h4 => ?_) (fun h => q1  (fun hc => h hc.1) _ _ f0)
  refine s_iload_n (pc2 := 8) w dX10_scan_7 rfl rfl ?_
  refine s_iconst (pc2 := 9) (v := 0) w dX10_scan_8 rfl rfl ?_
  refine s_bipush (pc2 := 11) (v := 20) w dX10_scan_9 rfl rfl ?_
  refine r_X10_requireRange (pc2 := 14) w dX10_scan_11 rfl rfl rfl (Nat.le_of_ble_eq_true rfl) (fun h11 => ?_) (fun h => q1  (fun hc => h hc.2.1) _ _ f0)
  refine s_iload_n (pc2 := 15) w dX10_scan_14 rfl rfl ?_
  refine s_iload (pc2 := 17) w dX10_scan_15 rfl rfl ?_
  refine r_X10_requireWindow (pc2 := 20) w dX10_scan_17 rfl rfl rfl (Nat.le_of_ble_eq_true rfl) (fun h17 => ?_) (fun h => q1  (fun hc => h hc.2.2) _ _ f0)
  obtain ⟨sn, rfl, sh1, sh2⟩ := ix_h h4
  obtain ⟨gn, rfl, gnh⟩ := ix_b (b := 20) (by decide) h11
  obtain ⟨b, e, rfl, rfl, beh, eh⟩ := ix_w h17
  rw [cN_n sn (by omega), cN_n gn (by omega), cN_n b (by omega), cN_n e (by omega)] at q0
  refine s_iconst (pc2 := 21) (v := 0) w dX10_scan_20 rfl rfl ?_
  refine s_istore (pc2 := 23) w dX10_scan_21 rfl rfl ?_
  dsimp only [gk_s1, gk_s2, gk_cl]
  refine s_ldc2_w (pc2 := 26) (v := (-1)) w dX10_scan_23 rfl rfl ?_
  refine s_lstore (pc2 := 28) w dX10_scan_26 rfl rfl ?_
  dsimp only [gk_s1, gk_s2, gk_cl]
  refine s_iconst (pc2 := 29) (v := 1) w dX10_scan_28 rfl rfl ?_
  refine s_istore (pc2 := 31) w dX10_scan_29 rfl rfl ?_
  dsimp only [gk_s1, gk_s2, gk_cl]
  have key : ∀ (k n : Nat) (l9 l10 l11 l12 : Option Value) (xh : gk_X) (yh : gk_Y) (fh : COk g x xh y yh), n + k = 2 * gn + 1 → V 31 [some (.ref 0), some (.int (nI sn)), some (.int (nI gn)), some (.int (nI b)), some (.int (nI e)), some (.int (gk_mx (fun n => gL (gE (gB g (ow (n + 1) * ((sn : Nat) : Int))) b e)) (fun n => gI (ow (n + 1))) (0, -1) n).1), some (.long (gk_mx (fun n => gL (gE (gB g (ow (n + 1) * ((sn : Nat) : Int))) b e)) (fun n => gI (ow (n + 1))) (0, -1) n).2), none, some (.int (nI (n + 1))), l9, l10, l11, l12] [] 202 gk_fT xh yh 4 := by
    intro k
    induction k with
    | zero =>
      intro n l9 l10 l11 l12 xh yh fh ht
      obtain rfl : n = 2 * gn + 1 := by omega
      have ew : gI 2 * nI gn + gI 1 = gI (2 * (gn : Int) + 1) := by rw [gI_nI gn, gI_mul, gI_add]
      refine s_iload (pc2 := 33) w dX10_scan_31 rfl rfl ?_
      refine s_iconst (pc2 := 34) (v := gI 2) w dX10_scan_33 rfl rfl ?_
      refine s_iload_n (pc2 := 35) w dX10_scan_34 rfl rfl ?_
      refine s_imul (pc2 := 36) w dX10_scan_35 rfl ?_
      refine s_iconst (pc2 := 37) (v := gI 1) w dX10_scan_36 rfl rfl ?_
      refine s_iadd (pc2 := 38) w dX10_scan_37 rfl ?_
      rw [ew]
      refine s_ic_gt (pc2 := 41) (tgt := 100) w dX10_scan_38 rfl (by decide) (fun _ => ?_) (fun h0 => absurd (by rw [gI_nI, gI_lt ⟨by omega, by omega⟩ ⟨by omega, by omega⟩]; omega) h0)
      refine s_iload (pc2 := 102) w dX10_scan_100 rfl rfl ?_
      refine s_ireturn w dX10_scan_102 rfl rfl ?_
      exact q0 ⟨h4, h11, h17⟩ _ _ fh
    | succ k ih =>
      intro n l9 l10 l11 l12 xh yh fh ht
      have ew : gI 2 * nI gn + gI 1 = gI (2 * (gn : Int) + 1) := by rw [gI_nI gn, gI_mul, gI_add]
      have hob := ow_b (t := n + 1) (by omega)
      have hmb := gk_mulb (a := ow (n + 1)) (b := (sn : Int)) (A := 20) (B := 100) (by omega) (by omega) (by omega) (by omega)
      refine s_iload (pc2 := 33) w dX10_scan_31 rfl rfl ?_
      refine s_iconst (pc2 := 34) (v := gI 2) w dX10_scan_33 rfl rfl ?_
      refine s_iload_n (pc2 := 35) w dX10_scan_34 rfl rfl ?_
      refine s_imul (pc2 := 36) w dX10_scan_35 rfl ?_
      refine s_iconst (pc2 := 37) (v := gI 1) w dX10_scan_36 rfl rfl ?_
      refine s_iadd (pc2 := 38) w dX10_scan_37 rfl ?_
      rw [ew]
      refine s_ic_gt (pc2 := 41) (tgt := 100) w dX10_scan_38 rfl (by decide) (fun h0 => absurd h0 (by rw [gI_nI, gI_lt ⟨by omega, by omega⟩ ⟨by omega, by omega⟩]; omega)) (fun _ => ?_)
      refine s_iload (pc2 := 43) w dX10_scan_41 rfl rfl ?_
      refine r_X10_outward (pc2 := 46) (t := ((n + 1 : Nat) : Int)) w dX10_scan_43 rfl rfl rfl rfl (by omega) (by omega) ?_
      show V _ _ (.int (gI (ow (n + 1))) :: _) _ _ _ _ _
      refine s_istore (pc2 := 48) w dX10_scan_46 rfl rfl ?_
      dsimp only [gk_s1, gk_s2, gk_cl]
      refine s_aload_n (pc2 := 49) w dX10_scan_48 rfl rfl ?_
      refine m_getR (pc2 := 52) (ci := 9) (k := 5) (j2 := 90) w dX10_scan_49 rfl rfl rfl rfl rfl rfl ?_
      refine s_aload_n (pc2 := 53) w dX10_scan_52 rfl rfl ?_
      refine m_getR (pc2 := 56) (ci := 9) (k := 0) (j2 := 1) w dX10_scan_53 rfl rfl rfl rfl rfl rfl ?_
      refine s_iload (pc2 := 58) w dX10_scan_56 rfl rfl ?_
      refine s_iload_n (pc2 := 59) w dX10_scan_58 rfl rfl ?_
      refine s_imul (pc2 := 60) w dX10_scan_59 rfl ?_
      rw [gI_nI sn, gI_mul]
      rw [← gI_nI sn]
      refine s_iload_n (pc2 := 61) w dX10_scan_60 rfl rfl ?_
      refine s_iload (pc2 := 63) w dX10_scan_61 rfl rfl ?_
      refine r_X0_formBeam (pc2 := 66) w dX10_scan_63 rfl rfl rfl fh.1 hp1.1 hp1.2.1 rfl (by omega) rfl rfl beh eh (fun x1 y1 hx1 hy1 => ?_)
      have f1 := fb_ok hp1.1 fh hx1 hy1
      have hr : ∀ i, b ≤ i → i ≤ e → x1 91 i = gB g (ow (n + 1) * ((sn : Nat) : Int)) i := fun i h1 h2 => (hx1 91 i (by decide)).trans ((gk_ur_in (by omega)).trans (if_pos ⟨h1, h2⟩))
      refine s_astore (pc2 := 68) w dX10_scan_66 rfl rfl ?_
      dsimp only [gk_s1, gk_s2, gk_cl]
      refine s_aload (pc2 := 70) w dX10_scan_68 rfl rfl ?_
      refine s_iload_n (pc2 := 71) w dX10_scan_70 rfl rfl ?_
      refine s_iload (pc2 := 73) w dX10_scan_71 rfl rfl ?_
      refine r_X6_energyOf (pc2 := 76) w dX10_scan_73 rfl rfl rfl rfl rfl rfl rfl (by omega) eh ?_
      rw [win_eI hr]
      refine s_lstore (pc2 := 78) w dX10_scan_76 rfl rfl ?_
      dsimp only [gk_s1, gk_s2, gk_cl]
      refine s_lload (pc2 := 80) w dX10_scan_78 rfl rfl ?_
      refine s_lload (pc2 := 82) w dX10_scan_80 rfl rfl ?_
      refine s_lcmp (pc2 := 83) w dX10_scan_82 rfl ?_
      refine s_if_le (pc2 := 86) (tgt := 94) w dX10_scan_83 rfl (by decide) (fun c83 => ?_) (fun c83 => ?_)
      · refine s_iinc (pc2 := 97) w dX10_scan_94 rfl rfl rfl rfl ?_
        dsimp only [gk_s1, gk_s2, gk_cl]
        rw [nI_s]
        refine s_goto (tgt := 31) w dX10_scan_97 (by decide) ?_
        have ep := mx_f2 (E := (fun n => gL (gE (gB g (ow (n + 1) * ((sn : Nat) : Int))) b e))) (lb := (fun n => gI (ow (n + 1)))) (s := (0, -1)) (n := n) rfl c83
        have ih9 := ih (n + 1) (some (.int (gI (ow (n + 1))))) (some (.ref 91)) (some (.long (gL (gE (gB g (ow (n + 1) * ((sn : Nat) : Int))) b e)))) none x1 y1 f1 (by omega)
        rw [ep] at ih9
        exact ih9
      · refine s_lload (pc2 := 88) w dX10_scan_86 rfl rfl ?_
        refine s_lstore (pc2 := 90) w dX10_scan_88 rfl rfl ?_
        dsimp only [gk_s1, gk_s2, gk_cl]
        refine s_iload (pc2 := 92) w dX10_scan_90 rfl rfl ?_
        refine s_istore (pc2 := 94) w dX10_scan_92 rfl rfl ?_
        dsimp only [gk_s1, gk_s2, gk_cl]
        refine s_iinc (pc2 := 97) w dX10_scan_94 rfl rfl rfl rfl ?_
        dsimp only [gk_s1, gk_s2, gk_cl]
        rw [nI_s]
        refine s_goto (tgt := 31) w dX10_scan_97 (by decide) ?_
        have ep := mx_t2 (E := (fun n => gL (gE (gB g (ow (n + 1) * ((sn : Nat) : Int))) b e))) (lb := (fun n => gI (ow (n + 1)))) (s := (0, -1)) (n := n) rfl rfl c83
        have ih9 := ih (n + 1) (some (.int (gI (ow (n + 1))))) (some (.ref 91)) (some (.long (gL (gE (gB g (ow (n + 1) * ((sn : Nat) : Int))) b e)))) none x1 y1 f1 (by omega)
        rw [ep] at ih9
        exact ih9
  exact key (2 * gn + 1) 0 none none none none x y f0 (by omega)
theorem lk_X10_scan {l : Launch} (hl : l.stackTraces = false) : ∀ q ∈ L_X10_scan, (q.2.1 < 5 → gk_Lk l RX10 gk_W1 9 q.1 q.2.1 q.2.2.1 q.2.2.2.1 q.2.2.2.2.1 q.2.2.2.2.2) := (List.forall_mem_cons.mpr ⟨(fun _ => ⟨yX10_requireRange, cX10_requireRange, 3, none, 6, _, M_X10_requireRange hl, ⟨by decide, by decide⟩, ⟨by decide, by decide, by decide +kernel⟩, ⟨(gk_wm 733 (by decide +kernel)), (gk_wm 89 (by decide +kernel))⟩, Or.inl ⟨rfl, rfl, (gk_wm 732 (by decide +kernel)), gk_wm 731 (by decide +kernel)⟩⟩), (List.forall_mem_cons.mpr ⟨(fun _ => ⟨yX10_requireWindow, cX10_requireWindow, 2, none, 8, _, M_X10_requireWindow hl, ⟨by decide, by decide⟩, ⟨by decide, by decide, by decide +kernel⟩, ⟨(gk_wm 978 (by decide +kernel)), (gk_wm 89 (by decide +kernel))⟩, Or.inl ⟨rfl, rfl, (gk_wm 977 (by decide +kernel)), gk_wm 976 (by decide +kernel)⟩⟩), (List.forall_mem_cons.mpr ⟨(fun _ => ⟨yX6_energyOf, cX6_energyOf, 6, (some .long), 0, _, M_X6_energyOf hl, ⟨by decide, by decide⟩, ⟨by decide, by decide, by decide +kernel⟩, ⟨(gk_wm 984 (by decide +kernel)), (gk_wm 108 (by decide +kernel))⟩, Or.inl ⟨rfl, rfl, (gk_wm 983 (by decide +kernel)), gk_wm 1012 (by decide +kernel)⟩⟩), (List.forall_mem_cons.mpr ⟨(fun _ => ⟨yX10_outward, cX10_outward, 1, (some .int), 0, _, M_X10_outward hl, ⟨by decide, by decide⟩, ⟨by decide, by decide, by decide +kernel⟩, ⟨(gk_wm 1041 (by decide +kernel)), (gk_wm 89 (by decide +kernel))⟩, Or.inl ⟨rfl, rfl, (gk_wm 1040 (by decide +kernel)), gk_wm 1039 (by decide +kernel)⟩⟩), (List.forall_mem_cons.mpr ⟨(fun _ => ⟨yX0_formBeam, cX0_formBeam, 7, (some (.array .int)), 5, _, M_X0_formBeam hl, ⟨by decide, by decide⟩, ⟨by decide, by decide, by decide +kernel⟩, ⟨(gk_wm 1130 (by decide +kernel)), (gk_wm 95 (by decide +kernel))⟩, Or.inr (Or.inr (Or.inr (Or.inl ⟨rfl, rfl, (gk_wm 1128 (by decide +kernel)), (gk_wm 1129 (by decide +kernel)), gk_wm 1127 (by decide +kernel), by decide, rfl⟩)))⟩), (fun _ h => absurd h List.not_mem_nil)⟩)⟩)⟩)⟩)⟩)
theorem sp_X10_scan : ∀ q ∈ L_X10_scan, gk_Sq RX10 gk_W1 9 q := (List.forall_mem_cons.mpr ⟨⟨fun h => absurd h (by decide), fun h => absurd h (by decide), fun h => absurd h (by decide), fun h => absurd h (by decide), fun h => absurd h (by decide), fun h => absurd h (by decide)⟩, (List.forall_mem_cons.mpr ⟨⟨fun h => absurd h (by decide), fun h => absurd h (by decide), fun h => absurd h (by decide), fun h => absurd h (by decide), fun h => absurd h (by decide), fun h => absurd h (by decide)⟩, (List.forall_mem_cons.mpr ⟨⟨fun h => absurd h (by decide), fun h => absurd h (by decide), fun h => absurd h (by decide), fun h => absurd h (by decide), fun h => absurd h (by decide), fun h => absurd h (by decide)⟩, (List.forall_mem_cons.mpr ⟨⟨fun h => absurd h (by decide), fun h => absurd h (by decide), fun h => absurd h (by decide), fun h => absurd h (by decide), fun h => absurd h (by decide), fun h => absurd h (by decide)⟩, (List.forall_mem_cons.mpr ⟨⟨fun h => absurd h (by decide), fun h => absurd h (by decide), fun h => absurd h (by decide), fun h => absurd h (by decide), fun h => absurd h (by decide), fun h => absurd h (by decide)⟩, (fun _ h => absurd h List.not_mem_nil)⟩)⟩)⟩)⟩)⟩)
theorem M_X10_scan {l : Launch} (hl : l.stackTraces = false) : gk_Mt l yX10_scan (.code yX10_scan cX10_scan 13 (some .int) :: gk_W1) 9 4 S_X10_scan := gk_meth hl gk_cw_ok (by decide +kernel) rfl m_X10_scan pX10_ok (gk_Sp_of sp_X10_scan) pX10_st (fun ci m S h => absurd h (by intro h; cases h)) (xf_X10 (by decide)) (fun idx kd ci mm cost S2 h h5 => lk_X10_scan hl _ (gk_lk_mem h) h5)

def S_X10_bestDirection : gk_S := fun as n fl x y K => ∃ (v : Int32) (f : Int32) (l : Int32) (g : Nat → Int32), as = [.ref 0, .int v, .int f, .int l] ∧ (n = 202 ∧ fl = gk_fT) ∧ (RS 1 g x y) ∧ (gOK g) ∧ (((1 ≤ v ∧ v ≤ 100) ∧ (0 ≤ f ∧ f ≤ l ∧ l ≤ 255)) → ∀ (x2 : gk_X) (y2 : gk_Y), COk g x x2 y y2 → K (.inl (some (.int ((gk_mx (fun n => gL (gE (gD g (-100 + (n : Int) * ((cN v : Nat) : Int))) (cN f) (cN l))) (fun n => gI (-100 + (n : Int) * ((cN v : Nat) : Int))) (-100, -1) (200 / cN v + 1)).1)))) n fl x2 y2) ∧ (¬ ((1 ≤ v ∧ v ≤ 100) ∧ (0 ≤ f ∧ f ≤ l ∧ l ≤ 255)) → ∀ (x2 : gk_X) (y2 : gk_Y), COk g x x2 y y2 → K (.inr 0) n fl x2 y2)
theorem r_X10_bestDirection (w : gk_W c P cs (fun _ _ => none) rt uf sc K V) {idx : Nat} {v : Int32} {f : Int32} {l : Int32} {g : Nat → Int32} (hd : decode c pc = .ok (.invokevirtual idx, 3)) (hp : pc + 3 = pc2) (hc : cs idx = some (1, 9, 4, 3, S_X10_bestDirection)) (h8 : Nat.ble (r.map Value.category).sum 8 = true) (hu : u + 3 ≤ uf) (hp0 : RS 1 g x y) (hp1 : gOK g) (kk0 : ((1 ≤ v ∧ v ≤ 100) ∧ (0 ≤ f ∧ f ≤ l ∧ l ≤ 255)) → ∀ (x2 : gk_X) (y2 : gk_Y), COk g x x2 y y2 → V pc2 L ((.int ((gk_mx (fun n => gL (gE (gD g (-100 + (n : Int) * ((cN v : Nat) : Int))) (cN f) (cN l))) (fun n => gI (-100 + (n : Int) * ((cN v : Nat) : Int))) (-100, -1) (200 / cN v + 1)).1)) :: r) 202 gk_fT x2 y2 (u + 3)) (kk1 : ¬ ((1 ≤ v ∧ v ≤ 100) ∧ (0 ≤ f ∧ f ≤ l ∧ l ≤ 255)) → ∀ (x2 : gk_X) (y2 : gk_Y), COk g x x2 y y2 → K (.inr 0) 202 gk_fT x2 y2) : V pc L (.int l :: .int f :: .int v :: .ref 0 :: r) 202 gk_fT x y u :=
  g_callv w hd hp hc (as := [.ref 0, .int v, .int f, .int l]) rfl h8 rfl rfl rfl (Or.inr (Or.inl ⟨Or.inl rfl, _, _, rfl, (gk_kd_j rfl rfl), rfl⟩)) (Or.inr hu) ⟨v, f, l, g, rfl, ⟨rfl, rfl⟩, hp0, hp1, kk0, kk1⟩
def L_X10_bestDirection : List (Nat × gk_M0) := [(55, (0, 9, 3, 1, S_X10_requireRange)), (175, (0, 9, 2, 2, S_X10_requireWindow)), (190, (0, 0, 3, 0, S_X6_energyOf)), (243, (1, 0, 5, 0, S_X0_formDirectionBeam))]
def cs_X10_bestDirection : Nat → Option gk_M0 := gk_lk L_X10_bestDirection
theorem m_X10_bestDirection : ∀ (as : List Value) (n : Nat) (fl : gk_F) (x : gk_X) (y : gk_Y) (K : gk_K), S_X10_bestDirection as n fl x y K → (gk_L0 as).length ≤ 11 ∧ ∀ V : gk_V, gk_W cX10_bestDirection pX10 cs_X10_bestDirection (fun _ _ => none) (some .int) 3 none K V → V 0 (gk_en as 11) [] n fl x y 0 := by
  intro as n fl x y K hS
  obtain ⟨v, f, l, g, rfl, ⟨rfl, rfl⟩, hp0, hp1, q0, q1⟩ := hS
  refine ⟨Nat.le_of_ble_eq_true rfl, fun V w => ?_⟩
  show V 0 [some (.ref 0), some (.int v), some (.int f), some (.int l), none, none, none, none, none, none, none] [] 202 gk_fT x y 0
  obtain ⟨nv4, ns6, nm8, z6, z7, z8⟩ := wf_n hp1.1
  have f0 := COk.ini hp0
  refine s_iload_n (pc2 := 1) w dX10_bestDirection_0 rfl rfl ?_
  refine s_iconst (pc2 := 2) (v := 1) w dX10_bestDirection_1 rfl rfl ?_
  refine s_bipush (pc2 := 4) (v := 100) w dX10_bestDirection_2 rfl rfl ?_
  refine r_X10_requireRange (pc2 := 7) w dX10_bestDirection_4 rfl rfl rfl (Nat.le_of_ble_eq_true rfl) (fun h4 => ?_) (fun h => q1  (fun hc => h hc.1) _ _ f0)
  refine s_iload_n (pc2 := 8) w dX10_bestDirection_7 rfl rfl ?_
  refine s_iload_n (pc2 := 9) w dX10_bestDirection_8 rfl rfl ?_
  refine r_X10_requireWindow (pc2 := 12) w dX10_bestDirection_9 rfl rfl rfl (Nat.le_of_ble_eq_true rfl) (fun h9 => ?_) (fun h => q1  (fun hc => h hc.2) _ _ f0)
  obtain ⟨sn, rfl, sh1, sh2⟩ := ix_h h4
  obtain ⟨b, e, rfl, rfl, beh, eh⟩ := ix_w h9
  rw [cN_n sn (by omega), cN_n b (by omega), cN_n e (by omega)] at q0
  refine s_bipush (pc2 := 14) (v := (-100)) w dX10_bestDirection_12 rfl rfl ?_
  refine s_istore (pc2 := 16) w dX10_bestDirection_14 rfl rfl ?_
  dsimp only [gk_s1, gk_s2, gk_cl]
  refine s_ldc2_w (pc2 := 19) (v := (-1)) w dX10_bestDirection_16 rfl rfl ?_
  refine s_lstore (pc2 := 21) w dX10_bestDirection_19 rfl rfl ?_
  dsimp only [gk_s1, gk_s2, gk_cl]
  refine s_bipush (pc2 := 23) (v := (-100)) w dX10_bestDirection_21 rfl rfl ?_
  refine s_istore (pc2 := 25) w dX10_bestDirection_23 rfl rfl ?_
  dsimp only [gk_s1, gk_s2, gk_cl]
  have key : ∀ (k n : Nat) (l8 l9 l10 : Option Value) (xh : gk_X) (yh : gk_Y) (fh : COk g x xh y yh), n + k = 200 / sn + 1 → V 25 [some (.ref 0), some (.int (nI sn)), some (.int (nI b)), some (.int (nI e)), some (.int (gk_mx (fun n => gL (gE (gD g (-100 + (n : Int) * ((sn : Nat) : Int))) b e)) (fun n => gI (-100 + (n : Int) * ((sn : Nat) : Int))) (-100, -1) n).1), some (.long (gk_mx (fun n => gL (gE (gD g (-100 + (n : Int) * ((sn : Nat) : Int))) b e)) (fun n => gI (-100 + (n : Int) * ((sn : Nat) : Int))) (-100, -1) n).2), none, some (.int (gI (-100 + (n : Int) * (sn : Int)))), l8, l9, l10] [] 202 gk_fT xh yh 3 := by
    intro k
    induction k with
    | zero =>
      intro n l8 l9 l10 xh yh fh ht
      obtain rfl : n = 200 / sn + 1 := by omega
      have hk : 200 < (200 / sn + 1) * sn ∧ (200 / sn + 1) * sn ≤ 400 := by
        have h1 := Nat.div_add_mod 200 sn
        have h2 := Nat.mod_lt 200 (show sn > 0 by omega)
        rw [Nat.add_mul, Nat.mul_comm (200 / sn) sn]
        omega
      have hk2 : (((200 / sn + 1 : Nat) : Int)) * (sn : Int) = (((200 / sn + 1) * sn : Nat) : Int) := (Int.natCast_mul _ _).symm
      refine s_iload (pc2 := 27) w dX10_bestDirection_25 rfl rfl ?_
      refine s_bipush (pc2 := 29) (v := gI 100) w dX10_bestDirection_27 rfl rfl ?_
      refine s_ic_gt (pc2 := 32) (tgt := 83) w dX10_bestDirection_29 rfl (by decide) (fun _ => ?_) (fun h0 => absurd (by rw [gI_lt ⟨by omega, by omega⟩ ⟨by omega, by omega⟩]; omega) h0)
      refine s_iload (pc2 := 85) w dX10_bestDirection_83 rfl rfl ?_
      refine s_ireturn w dX10_bestDirection_85 rfl rfl ?_
      exact q0 ⟨h4, h9⟩ _ _ fh
    | succ k ih =>
      intro n l8 l9 l10 xh yh fh ht
      have hk : n * sn ≤ 200 := (Nat.le_div_iff_mul_le (by omega)).mp (show n ≤ 200 / sn by omega)
      have hk2 : (n : Int) * (sn : Int) = ((n * sn : Nat) : Int) := (Int.natCast_mul _ _).symm
      refine s_iload (pc2 := 27) w dX10_bestDirection_25 rfl rfl ?_
      refine s_bipush (pc2 := 29) (v := gI 100) w dX10_bestDirection_27 rfl rfl ?_
      refine s_ic_gt (pc2 := 32) (tgt := 83) w dX10_bestDirection_29 rfl (by decide) (fun h0 => absurd h0 (by rw [gI_lt ⟨by omega, by omega⟩ ⟨by omega, by omega⟩]; omega)) (fun _ => ?_)
      refine s_aload_n (pc2 := 33) w dX10_bestDirection_32 rfl rfl ?_
      refine m_getR (pc2 := 36) (ci := 9) (k := 5) (j2 := 90) w dX10_bestDirection_33 rfl rfl rfl rfl rfl rfl ?_
      refine s_aload_n (pc2 := 37) w dX10_bestDirection_36 rfl rfl ?_
      refine m_getR (pc2 := 40) (ci := 9) (k := 0) (j2 := 1) w dX10_bestDirection_37 rfl rfl rfl rfl rfl rfl ?_
      refine s_iload (pc2 := 42) w dX10_bestDirection_40 rfl rfl ?_
      refine s_iload_n (pc2 := 43) w dX10_bestDirection_42 rfl rfl ?_
      refine s_iload_n (pc2 := 44) w dX10_bestDirection_43 rfl rfl ?_
      refine r_X0_formDirectionBeam (pc2 := 47) w dX10_bestDirection_44 rfl rfl rfl hp1.1 fh.1.1 fh.1.2.2.2.2.1 fh.1.2.2.2.2.2.1 rfl (by omega) rfl rfl beh eh (fun x1 hx1 => ?_)
      have hy1 : ∀ i k, i ≠ 93 → i ≠ 94 → yh i k = yh i k := fun _ _ _ _ => rfl
      have f1 := fb_ok hp1.1 fh hx1 hy1
      have hr : ∀ i, b ≤ i → i ≤ e → x1 91 i = gD g (-100 + (n : Int) * (sn : Int)) i := fun i h1 h2 => (hx1 91 i (by decide)).trans ((gk_ur_in (by omega)).trans (if_pos ⟨h1, h2⟩))
      refine s_astore (pc2 := 49) w dX10_bestDirection_47 rfl rfl ?_
      dsimp only [gk_s1, gk_s2, gk_cl]
      refine s_aload (pc2 := 51) w dX10_bestDirection_49 rfl rfl ?_
      refine s_iload_n (pc2 := 52) w dX10_bestDirection_51 rfl rfl ?_
      refine s_iload_n (pc2 := 53) w dX10_bestDirection_52 rfl rfl ?_
      refine r_X6_energyOf (pc2 := 56) w dX10_bestDirection_53 rfl rfl rfl rfl rfl rfl rfl (by omega) eh ?_
      rw [win_eI hr]
      refine s_lstore (pc2 := 58) w dX10_bestDirection_56 rfl rfl ?_
      dsimp only [gk_s1, gk_s2, gk_cl]
      refine s_lload (pc2 := 60) w dX10_bestDirection_58 rfl rfl ?_
      refine s_lload (pc2 := 62) w dX10_bestDirection_60 rfl rfl ?_
      refine s_lcmp (pc2 := 63) w dX10_bestDirection_62 rfl ?_
      refine s_if_le (pc2 := 66) (tgt := 74) w dX10_bestDirection_63 rfl (by decide) (fun c63 => ?_) (fun c63 => ?_)
      · refine s_iload (pc2 := 76) w dX10_bestDirection_74 rfl rfl ?_
        refine s_iload_n (pc2 := 77) w dX10_bestDirection_76 rfl rfl ?_
        refine s_iadd (pc2 := 78) w dX10_bestDirection_77 rfl ?_
        rw [show gI (-100 + (n : Int) * (sn : Int)) + nI sn = gI (-100 + ((n + 1 : Nat) : Int) * (sn : Int)) by rw [gI_nI, gI_add, Int.natCast_succ, Int.add_mul, Int.one_mul]; exact congrArg gI (by omega)]
        refine s_istore (pc2 := 80) w dX10_bestDirection_78 rfl rfl ?_
        dsimp only [gk_s1, gk_s2, gk_cl]
        refine s_goto (tgt := 25) w dX10_bestDirection_80 (by decide) ?_
        have ep := mx_f2 (E := (fun n => gL (gE (gD g (-100 + (n : Int) * ((sn : Nat) : Int))) b e))) (lb := (fun n => gI (-100 + (n : Int) * ((sn : Nat) : Int)))) (s := (-100, -1)) (n := n) rfl c63
        have ih9 := ih (n + 1) (some (.ref 91)) (some (.long (gL (gE (gD g (-100 + (n : Int) * ((sn : Nat) : Int))) b e)))) none x1 yh f1 (by omega)
        rw [ep] at ih9
        exact ih9
      · refine s_lload (pc2 := 68) w dX10_bestDirection_66 rfl rfl ?_
        refine s_lstore (pc2 := 70) w dX10_bestDirection_68 rfl rfl ?_
        dsimp only [gk_s1, gk_s2, gk_cl]
        refine s_iload (pc2 := 72) w dX10_bestDirection_70 rfl rfl ?_
        refine s_istore (pc2 := 74) w dX10_bestDirection_72 rfl rfl ?_
        dsimp only [gk_s1, gk_s2, gk_cl]
        refine s_iload (pc2 := 76) w dX10_bestDirection_74 rfl rfl ?_
        refine s_iload_n (pc2 := 77) w dX10_bestDirection_76 rfl rfl ?_
        refine s_iadd (pc2 := 78) w dX10_bestDirection_77 rfl ?_
        rw [show gI (-100 + (n : Int) * (sn : Int)) + nI sn = gI (-100 + ((n + 1 : Nat) : Int) * (sn : Int)) by rw [gI_nI, gI_add, Int.natCast_succ, Int.add_mul, Int.one_mul]; exact congrArg gI (by omega)]
        refine s_istore (pc2 := 80) w dX10_bestDirection_78 rfl rfl ?_
        dsimp only [gk_s1, gk_s2, gk_cl]
        refine s_goto (tgt := 25) w dX10_bestDirection_80 (by decide) ?_
        have ep := mx_t2 (E := (fun n => gL (gE (gD g (-100 + (n : Int) * ((sn : Nat) : Int))) b e))) (lb := (fun n => gI (-100 + (n : Int) * ((sn : Nat) : Int)))) (s := (-100, -1)) (n := n) rfl rfl c63
        have ih9 := ih (n + 1) (some (.ref 91)) (some (.long (gL (gE (gD g (-100 + (n : Int) * ((sn : Nat) : Int))) b e)))) none x1 yh f1 (by omega)
        rw [ep] at ih9
        exact ih9
  have h := key (200 / sn + 1) 0 none none none x y f0 (by omega)
  rw [show -100 + ((0 : Nat) : Int) * (sn : Int) = -100 by omega] at h
  exact h
theorem lk_X10_bestDirection {l : Launch} (hl : l.stackTraces = false) : ∀ q ∈ L_X10_bestDirection, (q.2.1 < 5 → gk_Lk l RX10 gk_W1 9 q.1 q.2.1 q.2.2.1 q.2.2.2.1 q.2.2.2.2.1 q.2.2.2.2.2) := (List.forall_mem_cons.mpr ⟨(fun _ => ⟨yX10_requireRange, cX10_requireRange, 3, none, 6, _, M_X10_requireRange hl, ⟨by decide, by decide⟩, ⟨by decide, by decide, by decide +kernel⟩, ⟨(gk_wm 733 (by decide +kernel)), (gk_wm 89 (by decide +kernel))⟩, Or.inl ⟨rfl, rfl, (gk_wm 732 (by decide +kernel)), gk_wm 731 (by decide +kernel)⟩⟩), (List.forall_mem_cons.mpr ⟨(fun _ => ⟨yX10_requireWindow, cX10_requireWindow, 2, none, 8, _, M_X10_requireWindow hl, ⟨by decide, by decide⟩, ⟨by decide, by decide, by decide +kernel⟩, ⟨(gk_wm 978 (by decide +kernel)), (gk_wm 89 (by decide +kernel))⟩, Or.inl ⟨rfl, rfl, (gk_wm 977 (by decide +kernel)), gk_wm 976 (by decide +kernel)⟩⟩), (List.forall_mem_cons.mpr ⟨(fun _ => ⟨yX6_energyOf, cX6_energyOf, 6, (some .long), 0, _, M_X6_energyOf hl, ⟨by decide, by decide⟩, ⟨by decide, by decide, by decide +kernel⟩, ⟨(gk_wm 984 (by decide +kernel)), (gk_wm 108 (by decide +kernel))⟩, Or.inl ⟨rfl, rfl, (gk_wm 983 (by decide +kernel)), gk_wm 1012 (by decide +kernel)⟩⟩), (List.forall_mem_cons.mpr ⟨(fun _ => ⟨yX0_formDirectionBeam, cX0_formDirectionBeam, 7, (some (.array .int)), 3, _, M_X0_formDirectionBeam hl, ⟨by decide, by decide⟩, ⟨by decide, by decide, by decide +kernel⟩, ⟨(gk_wm 1134 (by decide +kernel)), (gk_wm 95 (by decide +kernel))⟩, Or.inr (Or.inr (Or.inr (Or.inl ⟨rfl, rfl, (gk_wm 1132 (by decide +kernel)), (gk_wm 1133 (by decide +kernel)), gk_wm 1190 (by decide +kernel), by decide, rfl⟩)))⟩), (fun _ h => absurd h List.not_mem_nil)⟩)⟩)⟩)⟩)
theorem sp_X10_bestDirection : ∀ q ∈ L_X10_bestDirection, gk_Sq RX10 gk_W1 9 q := (List.forall_mem_cons.mpr ⟨⟨fun h => absurd h (by decide), fun h => absurd h (by decide), fun h => absurd h (by decide), fun h => absurd h (by decide), fun h => absurd h (by decide), fun h => absurd h (by decide)⟩, (List.forall_mem_cons.mpr ⟨⟨fun h => absurd h (by decide), fun h => absurd h (by decide), fun h => absurd h (by decide), fun h => absurd h (by decide), fun h => absurd h (by decide), fun h => absurd h (by decide)⟩, (List.forall_mem_cons.mpr ⟨⟨fun h => absurd h (by decide), fun h => absurd h (by decide), fun h => absurd h (by decide), fun h => absurd h (by decide), fun h => absurd h (by decide), fun h => absurd h (by decide)⟩, (List.forall_mem_cons.mpr ⟨⟨fun h => absurd h (by decide), fun h => absurd h (by decide), fun h => absurd h (by decide), fun h => absurd h (by decide), fun h => absurd h (by decide), fun h => absurd h (by decide)⟩, (fun _ h => absurd h List.not_mem_nil)⟩)⟩)⟩)⟩)
theorem M_X10_bestDirection {l : Launch} (hl : l.stackTraces = false) : gk_Mt l yX10_bestDirection (.code yX10_bestDirection cX10_bestDirection 11 (some .int) :: gk_W1) 9 3 S_X10_bestDirection := gk_meth hl gk_cw_ok (by decide +kernel) rfl m_X10_bestDirection pX10_ok (gk_Sp_of sp_X10_bestDirection) pX10_st (fun ci m S h => absurd h (by intro h; cases h)) (xf_X10 (by decide)) (fun idx kd ci mm cost S2 h h5 => lk_X10_bestDirection hl _ (gk_lk_mem h) h5)

def S_X10_passTime : gk_S := fun as n fl x y K => ∃ (v : Int32) (m : Int32) (g : Nat → Int32), as = [.ref 0, .int v, .int m] ∧ (n = 202 ∧ fl = gk_fT) ∧ (RS 1 g x y) ∧ (gOK g) ∧ (((0 ≤ v ∧ v < g 6) ∧ (0 ≤ m ∧ m < g 8)) → ∀ (x2 : gk_X) (y2 : gk_Y), COk g x x2 y y2 → K (.inl (some (.int ((gk_mn (dP g (cN v) (cN m)) (0, 2147483647) 256).1)))) n fl x2 y2) ∧ (¬ ((0 ≤ v ∧ v < g 6) ∧ (0 ≤ m ∧ m < g 8)) → ∀ (x2 : gk_X) (y2 : gk_Y), COk g x x2 y y2 → K (.inr 2) n fl x2 y2)
theorem r_X10_passTime (w : gk_W c P cs (fun _ _ => none) rt uf sc K V) {idx : Nat} {v : Int32} {m : Int32} {g : Nat → Int32} (hd : decode c pc = .ok (.invokevirtual idx, 3)) (hp : pc + 3 = pc2) (hc : cs idx = some (1, 9, 3, 2, S_X10_passTime)) (h8 : Nat.ble (r.map Value.category).sum 8 = true) (hu : u + 2 ≤ uf) (hp0 : RS 1 g x y) (hp1 : gOK g) (kk0 : ((0 ≤ v ∧ v < g 6) ∧ (0 ≤ m ∧ m < g 8)) → ∀ (x2 : gk_X) (y2 : gk_Y), COk g x x2 y y2 → V pc2 L ((.int ((gk_mn (dP g (cN v) (cN m)) (0, 2147483647) 256).1)) :: r) 202 gk_fT x2 y2 (u + 2)) (kk1 : ¬ ((0 ≤ v ∧ v < g 6) ∧ (0 ≤ m ∧ m < g 8)) → ∀ (x2 : gk_X) (y2 : gk_Y), COk g x x2 y y2 → K (.inr 2) 202 gk_fT x2 y2) : V pc L (.int m :: .int v :: .ref 0 :: r) 202 gk_fT x y u :=
  g_callv w hd hp hc (as := [.ref 0, .int v, .int m]) rfl h8 rfl rfl rfl (Or.inr (Or.inl ⟨Or.inl rfl, _, _, rfl, (gk_kd_j rfl rfl), rfl⟩)) (Or.inr hu) ⟨v, m, g, rfl, ⟨rfl, rfl⟩, hp0, hp1, kk0, kk1⟩
def L_X10_passTime : List (Nat × gk_M0) := [(91, (0, 9, 2, 1, S_X10_requireNumber)), (112, (1, 9, 2, 1, S_X10_requireMicrophone)), (162, (1, 3, 2, 0, S_X3_timeNearestTo))]
def cs_X10_passTime : Nat → Option gk_M0 := gk_lk L_X10_passTime
theorem m_X10_passTime : ∀ (as : List Value) (n : Nat) (fl : gk_F) (x : gk_X) (y : gk_Y) (K : gk_K), S_X10_passTime as n fl x y K → (gk_L0 as).length ≤ 4 ∧ ∀ V : gk_V, gk_W cX10_passTime pX10 cs_X10_passTime (fun _ _ => none) (some .int) 2 none K V → V 0 (gk_en as 4) [] n fl x y 0 := by
  intro as n fl x y K hS
  obtain ⟨v, m, g, rfl, ⟨rfl, rfl⟩, hp0, hp1, q0, q1⟩ := hS
  refine ⟨Nat.le_of_ble_eq_true rfl, fun V w => ?_⟩
  show V 0 [some (.ref 0), some (.int v), some (.int m), none] [] 202 gk_fT x y 0
  obtain ⟨nv4, ns6, nm8, z6, z7, z8⟩ := wf_n hp1.1
  have f0 := COk.ini hp0
  refine s_iload_n (pc2 := 1) w dX10_passTime_0 rfl rfl ?_
  refine s_aload_n (pc2 := 2) w dX10_passTime_1 rfl rfl ?_
  refine m_getR (pc2 := 5) (ci := 9) (k := 0) (j2 := 1) w dX10_passTime_2 rfl rfl rfl rfl rfl rfl ?_
  refine m_getI (pc2 := 8) (ci := 4) (k := 4) w dX10_passTime_5 rfl rfl rfl rfl rfl ?_
  rw [hp0.1.1.1]
  refine r_X10_requireNumber (pc2 := 11) w dX10_passTime_8 rfl rfl rfl (Nat.le_of_ble_eq_true rfl) (fun h8 => ?_) (fun h => q1  (fun hc => h hc.1) _ _ f0)
  refine s_aload_n (pc2 := 12) w dX10_passTime_11 rfl rfl ?_
  refine s_iload_n (pc2 := 13) w dX10_passTime_12 rfl rfl ?_
  refine r_X10_requireMicrophone (pc2 := 16) w dX10_passTime_13 rfl rfl rfl (Nat.le_of_ble_eq_true rfl) hp0 hp1.1 (fun h13 a ae ah => ?_) (fun h => q1  (fun hc => h hc.2) _ _ f0)
  subst ae
  obtain ⟨j1a, j2a, j3a⟩ := kd_m (show a < 8 by omega)
  have j1 := j1a
  have j2 := j2a
  have j3 := j3a
  refine s_astore_n (pc2 := 17) (k2 := 3) w dX10_passTime_16 rfl rfl rfl ?_
  dsimp only [gk_s1, gk_s2, gk_cl]
  obtain ⟨v2, rfl, vh⟩ := ix_n h8
  have vh : v2 < nV g := vh
  obtain ⟨s1, s2, s3⟩ := hp0.2.2.1 v2 vh
  obtain ⟨e1, -⟩ := hp0.2.2.2.2.1 a ah
  have jv : gk_kd (v2 + 6) = 3 := (by decide : ∀ v, v < 4 → gk_kd (v + 6) = 3) v2 (by omega)
  rw [cN_n v2 (by omega), cN_n a (by omega)] at q0
  refine s_aload_n (pc2 := 18) w dX10_passTime_17 rfl rfl ?_
  refine m_getR (pc2 := 21) (ci := 9) (k := 0) (j2 := 1) w dX10_passTime_18 rfl rfl rfl rfl rfl rfl ?_
  refine m_getR (pc2 := 24) (ci := 4) (k := 0) (j2 := 2) w dX10_passTime_21 rfl rfl rfl rfl rfl rfl ?_
  refine s_iload_n (pc2 := 25) w dX10_passTime_24 rfl rfl ?_
  refine m_aaloadN (pc2 := 26) (t := v2) (kd := 24) (j2 := (v2 + 6)) (N := 4) w dX10_passTime_25 rfl rfl rfl rfl rfl rfl (by omega) rfl (by show 2 + (4 + v2) = v2 + 6; omega) ?_
  refine s_aload_n (pc2 := 27) w dX10_passTime_26 rfl rfl ?_
  refine m_getI (pc2 := 30) (ci := 1) (k := 1) w dX10_passTime_27 rfl rfl (by first | exact j2 | exact j1 | exact jv) rfl rfl ?_
  refine r_X3_timeNearestTo (pc2 := 33) (D := dP g v2 a) w dX10_passTime_30 rfl rfl rfl (by first | exact j2 | exact j1 | exact jv) (fun t _ => by unfold dP; rw [show x (v2 + 6) 0 = gI (gz g (16 + 3 * v2 + 0)) from s1.trans (gz_I g _), show x (v2 + 6) 1 = gI (gz g (16 + 3 * v2 + 1)) from s2.trans (gz_I g _), show x (2 * a + 28) 1 = gI (gz g (154 + 4 * a + 0)) from e1.trans (gz_I g _), gI_nI, gI_mul, gI_add, gI_sub]) ?_
  refine s_ireturn w dX10_passTime_33 rfl rfl ?_
  exact q0 ⟨h8, h13⟩ _ _ f0
theorem lk_X10_passTime {l : Launch} (hl : l.stackTraces = false) : ∀ q ∈ L_X10_passTime, (q.2.1 < 5 → gk_Lk l RX10 gk_W1 8 q.1 q.2.1 q.2.2.1 q.2.2.2.1 q.2.2.2.2.1 q.2.2.2.2.2) := (List.forall_mem_cons.mpr ⟨(fun _ => ⟨yX10_requireNumber, cX10_requireNumber, 2, none, 6, _, M_X10_requireNumber hl, ⟨by decide, by decide⟩, ⟨by decide, by decide, by decide +kernel⟩, ⟨(gk_wm 854 (by decide +kernel)), (gk_wm 89 (by decide +kernel))⟩, Or.inl ⟨rfl, rfl, (gk_wm 853 (by decide +kernel)), gk_wm 852 (by decide +kernel)⟩⟩), (List.forall_mem_cons.mpr ⟨(fun _ => ⟨yX10_requireMicrophone, cX10_requireMicrophone, 2, (some (.object "TrackArray$Microphone")), 7, _, M_X10_requireMicrophone hl, ⟨by decide, by decide⟩, ⟨by decide, by decide, by decide +kernel⟩, ⟨(gk_wm 902 (by decide +kernel)), (gk_wm 89 (by decide +kernel))⟩, Or.inr (Or.inr (Or.inr (Or.inl ⟨rfl, rfl, (gk_wm 901 (by decide +kernel)), (gk_wm 23 (by decide +kernel)), gk_wm 899 (by decide +kernel), by decide, rfl⟩)))⟩), (List.forall_mem_cons.mpr ⟨(fun _ => ⟨yX3_timeNearestTo, cX3_timeNearestTo, 6, (some .int), 1, _, M_X3_timeNearestTo hl, ⟨by decide, by decide⟩, ⟨by decide, by decide, by decide +kernel⟩, ⟨(gk_wm 957 (by decide +kernel)), (gk_wm 91 (by decide +kernel))⟩, Or.inr (Or.inr (Or.inr (Or.inl ⟨rfl, rfl, (gk_wm 955 (by decide +kernel)), (gk_wm 956 (by decide +kernel)), gk_wm 954 (by decide +kernel), by decide, rfl⟩)))⟩), (fun _ h => absurd h List.not_mem_nil)⟩)⟩)⟩)
theorem sp_X10_passTime : ∀ q ∈ L_X10_passTime, gk_Sq RX10 gk_W1 8 q := (List.forall_mem_cons.mpr ⟨⟨fun h => absurd h (by decide), fun h => absurd h (by decide), fun h => absurd h (by decide), fun h => absurd h (by decide), fun h => absurd h (by decide), fun h => absurd h (by decide)⟩, (List.forall_mem_cons.mpr ⟨⟨fun h => absurd h (by decide), fun h => absurd h (by decide), fun h => absurd h (by decide), fun h => absurd h (by decide), fun h => absurd h (by decide), fun h => absurd h (by decide)⟩, (List.forall_mem_cons.mpr ⟨⟨fun h => absurd h (by decide), fun h => absurd h (by decide), fun h => absurd h (by decide), fun h => absurd h (by decide), fun h => absurd h (by decide), fun h => absurd h (by decide)⟩, (fun _ h => absurd h List.not_mem_nil)⟩)⟩)⟩)
theorem M_X10_passTime {l : Launch} (hl : l.stackTraces = false) : gk_Mt l yX10_passTime (.code yX10_passTime cX10_passTime 4 (some .int) :: gk_W1) 8 2 S_X10_passTime := gk_meth hl gk_cw_ok (by decide +kernel) rfl m_X10_passTime pX10_ok (gk_Sp_of sp_X10_passTime) pX10_st (fun ci m S h => absurd h (by intro h; cases h)) (xf_X10 (by decide)) (fun idx kd ci mm cost S2 h h5 => lk_X10_passTime hl _ (gk_lk_mem h) h5)

end GKV

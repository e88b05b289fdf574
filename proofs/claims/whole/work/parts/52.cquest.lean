/-! THE METHODS, 32: the class, its questions -/
section GKV
variable {c : ByteArray} {P : gk_C} {cs : Nat → Option gk_M0} {rt : Option FieldType} {uf : Nat} {sc : Option Nat} {K : gk_K} {V : gk_V}
variable {L : List (Option Value)} {r : List Value} {n : Nat} {fl : gk_F} {x : gk_X} {y : gk_Y} {u pc pc2 : Nat}
theorem win_eI {x : gk_X} {j : Nat} {r : Nat → Int32} {a b : Nat} (h : ∀ k, a ≤ k → k ≤ b → x j k = r k) : gk_eI (gr x j) a (b + 1 - a) = gE r a b := eI_cg _ (fun k h1 h2 => congrArg Int32.toInt (h k h1 (by omega)))
theorem win_pw {x : gk_X} {j : Nat} {r : Nat → Int32} {a b p i : Nat} (h : ∀ k, a ≤ k → k ≤ b → x j k = r k) : gk_pw (gr x j) a p (b + 1 - a) i = gk_pw (gJ r) a p (b + 1 - a) i := pw_cg (fun k h1 h2 => congrArg Int32.toInt (h k h1 (by omega))) i
theorem win_bd {x : gk_X} {j : Nat} {r : Nat → Int32} {a b : Nat} (h : ∀ k, a ≤ k → k ≤ b → x j k = r k) (hr : ∀ k, k < 256 → -8640000 ≤ (r k).toInt ∧ (r k).toInt ≤ 8640000) (hb : b < 256) : gk_eI (gr x j) a (b + 1 - a) ≤ 9223372036854775807 := by
  rw [win_eI h]
  have := gE_b hr (a := a) hb
  omega
/-- a scene's beam is laid -/
theorem fb_ok {g : Nat → Int32} {x x1 x2 : gk_X} {y y1 y2 : gk_Y} {F : Nat → Int32} (hw : gWf g) (h : COk g x x1 y y1) (hx : ∀ i k, i ≠ 92 → x2 i k = gk_ur x1 91 F 256 i k) (hy : ∀ i k, i ≠ 93 → i ≠ 94 → y2 i k = y1 i k) : COk g x x2 y y2 := (h.cx hw (x3 := x2) (fun i k h4 => (hx i k (by omega)).trans (gk_ur_ne (by omega)))).cy hw (fun i k h4 => hy i k (by omega) (by omega))
def S_X10_emitted : gk_S := fun as n fl x y K => ∃ (s : Int32) (t : Int32) (g : Nat → Int32), as = [.ref 0, .int s, .int t] ∧ (n = 202 ∧ fl = gk_fT) ∧ (RS 1 g x y) ∧ (gOK g) ∧ ((0 ≤ s ∧ s < g 7) → (0 ≤ t ∧ t ≤ 255) → ∀ (x2 : gk_X) (y2 : gk_Y), COk g x x2 y y2 → K (.inl (some (.int (gI (vE g (cN s) (cN t)))))) n fl x2 y2) ∧ (¬ (0 ≤ s ∧ s < g 7) → ∀ (x2 : gk_X) (y2 : gk_Y), COk g x x2 y y2 → K (.inr 2) n fl x2 y2) ∧ ((0 ≤ s ∧ s < g 7) → ¬ (0 ≤ t ∧ t ≤ 255) → ∀ (x2 : gk_X) (y2 : gk_Y), COk g x x2 y y2 → K (.inr 0) n fl x2 y2)
theorem r_X10_emitted (w : gk_W c P cs (fun _ _ => none) rt uf sc K V) {idx : Nat} {s : Int32} {t : Int32} {g : Nat → Int32} (hd : decode c pc = .ok (.invokevirtual idx, 3)) (hp : pc + 3 = pc2) (hc : cs idx = some (1, 9, 3, 2, S_X10_emitted)) (h8 : Nat.ble (r.map Value.category).sum 8 = true) (hu : u + 2 ≤ uf) (hp0 : RS 1 g x y) (hp1 : gOK g) (kk0 : (0 ≤ s ∧ s < g 7) → (0 ≤ t ∧ t ≤ 255) → ∀ (x2 : gk_X) (y2 : gk_Y), COk g x x2 y y2 → V pc2 L ((.int (gI (vE g (cN s) (cN t)))) :: r) 202 gk_fT x2 y2 (u + 2)) (kk1 : ¬ (0 ≤ s ∧ s < g 7) → ∀ (x2 : gk_X) (y2 : gk_Y), COk g x x2 y y2 → K (.inr 2) 202 gk_fT x2 y2) (kk2 : (0 ≤ s ∧ s < g 7) → ¬ (0 ≤ t ∧ t ≤ 255) → ∀ (x2 : gk_X) (y2 : gk_Y), COk g x x2 y y2 → K (.inr 0) 202 gk_fT x2 y2) : V pc L (.int t :: .int s :: .ref 0 :: r) 202 gk_fT x y u :=
  g_callv w hd hp hc (as := [.ref 0, .int s, .int t]) rfl h8 rfl rfl rfl (Or.inr (Or.inl ⟨Or.inl rfl, _, _, rfl, (gk_kd_j rfl rfl), rfl⟩)) (Or.inr hu) ⟨s, t, g, rfl, ⟨rfl, rfl⟩, hp0, hp1, kk0, kk1, kk2⟩
def L_X10_emitted : List (Nat × gk_M0) := [(99, (1, 9, 2, 1, S_X10_requireSource)), (137, (0, 9, 1, 1, S_X10_requireTime)), (141, (1, 6, 2, 0, S_X7_valueAt))]
def cs_X10_emitted : Nat → Option gk_M0 := gk_lk L_X10_emitted
theorem m_X10_emitted : ∀ (as : List Value) (n : Nat) (fl : gk_F) (x : gk_X) (y : gk_Y) (K : gk_K), S_X10_emitted as n fl x y K → (gk_L0 as).length ≤ 4 ∧ ∀ V : gk_V, gk_W cX10_emitted pX10 cs_X10_emitted (fun _ _ => none) (some .int) 2 none K V → V 0 (gk_en as 4) [] n fl x y 0 := by
  intro as n fl x y K hS
  obtain ⟨s, t, g, rfl, ⟨rfl, rfl⟩, hp0, hp1, q0, q1, q2⟩ := hS
  refine ⟨Nat.le_of_ble_eq_true rfl, fun V w => ?_⟩
  show V 0 [some (.ref 0), some (.int s), some (.int t), none] [] 202 gk_fT x y 0
  obtain ⟨nv4, ns6, nm8, z6, z7, z8⟩ := wf_n hp1.1
  have f0 := COk.ini hp0
  refine s_aload_n (pc2 := 1) w dX10_emitted_0 rfl rfl ?_
  refine s_iload_n (pc2 := 2) w dX10_emitted_1 rfl rfl ?_
  refine r_X10_requireSource (pc2 := 5) w dX10_emitted_2 rfl rfl rfl (Nat.le_of_ble_eq_true rfl) hp0 hp1.1 (fun h2 a ae ah => ?_) (fun h => q1  (fun hc => h hc) _ _ f0)
  subst ae
  obtain ⟨j1, j2, j3, j4⟩ := kd_s (show a < 6 by omega)
  refine s_astore_n (pc2 := 6) (k2 := 3) w dX10_emitted_5 rfl rfl rfl ?_
  dsimp only [gk_s1, gk_s2, gk_cl]
  refine s_iload_n (pc2 := 7) w dX10_emitted_6 rfl rfl ?_
  refine r_X10_requireTime (pc2 := 10) w dX10_emitted_7 rfl rfl rfl (Nat.le_of_ble_eq_true rfl) (fun h7 => ?_) (fun h => q2 h2 (fun hc => h hc) _ _ f0)
  obtain ⟨k, rfl, kh⟩ := ix_t h7
  rw [cN_n a (by omega), cN_n k (by omega)] at q0
  refine s_aload_n (pc2 := 11) w dX10_emitted_10 rfl rfl ?_
  refine s_iload_n (pc2 := 12) w dX10_emitted_11 rfl rfl ?_
  refine r_X7_valueAt (pc2 := 15) (tt := k) w dX10_emitted_12 rfl rfl rfl (by first | exact j2 | exact j1) rfl hp1.1 hp0.2.2.2.1 ah rfl kh ?_
  refine s_ireturn w dX10_emitted_15 rfl rfl ?_
  exact q0 h2 h7 _ _ f0
theorem lk_X10_emitted {l : Launch} (hl : l.stackTraces = false) : ∀ q ∈ L_X10_emitted, (q.2.1 < 5 → gk_Lk l RX10 gk_W1 8 q.1 q.2.1 q.2.2.1 q.2.2.2.1 q.2.2.2.2.1 q.2.2.2.2.2) := (List.forall_mem_cons.mpr ⟨(fun _ => ⟨yX10_requireSource, cX10_requireSource, 2, (some (.object "TrackArray$Source")), 7, _, M_X10_requireSource hl, ⟨by decide, by decide⟩, ⟨by decide, by decide, by decide +kernel⟩, ⟨(gk_wm 882 (by decide +kernel)), (gk_wm 89 (by decide +kernel))⟩, Or.inr (Or.inr (Or.inr (Or.inl ⟨rfl, rfl, (gk_wm 881 (by decide +kernel)), (gk_wm 22 (by decide +kernel)), gk_wm 879 (by decide +kernel), by decide, rfl⟩)))⟩), (List.forall_mem_cons.mpr ⟨(fun _ => ⟨yX10_requireTime, cX10_requireTime, 1, none, 7, _, M_X10_requireTime hl, ⟨by decide, by decide⟩, ⟨by decide, by decide, by decide +kernel⟩, ⟨(gk_wm 920 (by decide +kernel)), (gk_wm 89 (by decide +kernel))⟩, Or.inl ⟨rfl, rfl, (gk_wm 919 (by decide +kernel)), gk_wm 918 (by decide +kernel)⟩⟩), (List.forall_mem_cons.mpr ⟨(fun _ => ⟨yX7_valueAt, cX7_valueAt, 2, (some .int), 1, _, M_X7_valueAt hl, ⟨by decide, by decide⟩, ⟨by decide, by decide, by decide +kernel⟩, ⟨(gk_wm 478 (by decide +kernel)), (gk_wm 92 (by decide +kernel))⟩, Or.inr (Or.inr (Or.inr (Or.inl ⟨rfl, rfl, (gk_wm 476 (by decide +kernel)), (gk_wm 477 (by decide +kernel)), gk_wm 921 (by decide +kernel), by decide, rfl⟩)))⟩), (fun _ h => absurd h List.not_mem_nil)⟩)⟩)⟩)
theorem sp_X10_emitted : ∀ q ∈ L_X10_emitted, gk_Sq RX10 gk_W1 8 q := (List.forall_mem_cons.mpr ⟨⟨fun h => absurd h (by decide), fun h => absurd h (by decide), fun h => absurd h (by decide), fun h => absurd h (by decide), fun h => absurd h (by decide), fun h => absurd h (by decide)⟩, (List.forall_mem_cons.mpr ⟨⟨fun h => absurd h (by decide), fun h => absurd h (by decide), fun h => absurd h (by decide), fun h => absurd h (by decide), fun h => absurd h (by decide), fun h => absurd h (by decide)⟩, (List.forall_mem_cons.mpr ⟨⟨fun h => absurd h (by decide), fun h => absurd h (by decide), fun h => absurd h (by decide), fun h => absurd h (by decide), fun h => absurd h (by decide), fun h => absurd h (by decide)⟩, (fun _ h => absurd h List.not_mem_nil)⟩)⟩)⟩)
theorem M_X10_emitted {l : Launch} (hl : l.stackTraces = false) : gk_Mt l yX10_emitted (.code yX10_emitted cX10_emitted 4 (some .int) :: gk_W1) 8 2 S_X10_emitted := gk_meth hl gk_cw_ok (by decide +kernel) rfl m_X10_emitted pX10_ok (gk_Sp_of sp_X10_emitted) pX10_st (fun ci m S h => absurd h (by intro h; cases h)) (xf_X10 (by decide)) (fun idx kd ci mm cost S2 h h5 => lk_X10_emitted hl _ (gk_lk_mem h) h5)

def S_X10_distance : gk_S := fun as n fl x y K => ∃ (m : Int32) (s : Int32) (t : Int32) (f : Int32) (g : Nat → Int32) (rf : Bool), as = [.ref 0, .int m, .int s, .int t, .int f] ∧ (n = 202 ∧ fl = gk_fT) ∧ (RS 1 g x y) ∧ (gOK g) ∧ (f = if rf then 1 else 0) ∧ (((0 ≤ m ∧ m < g 8) ∧ (0 ≤ s ∧ s < g 7)) → (0 ≤ t ∧ t ≤ 255) → ∀ (x2 : gk_X) (y2 : gk_Y), COk g x x2 y y2 → K (.inl (some (.int (gI (gk_dl (pA g (cN m) (cN s)) (pS g (cN s)) (pBe g (cN m) (cN s) rf) ((cN t : Nat) : Int)))))) n fl x2 y2) ∧ (¬ ((0 ≤ m ∧ m < g 8) ∧ (0 ≤ s ∧ s < g 7)) → ∀ (x2 : gk_X) (y2 : gk_Y), COk g x x2 y y2 → K (.inr 2) n fl x2 y2) ∧ (((0 ≤ m ∧ m < g 8) ∧ (0 ≤ s ∧ s < g 7)) → ¬ (0 ≤ t ∧ t ≤ 255) → ∀ (x2 : gk_X) (y2 : gk_Y), COk g x x2 y y2 → K (.inr 0) n fl x2 y2)
theorem r_X10_distance (w : gk_W c P cs (fun _ _ => none) rt uf sc K V) {idx : Nat} {m : Int32} {s : Int32} {t : Int32} {f : Int32} {g : Nat → Int32} {rf : Bool} (hd : decode c pc = .ok (.invokevirtual idx, 3)) (hp : pc + 3 = pc2) (hc : cs idx = some (1, 9, 5, 3, S_X10_distance)) (h8 : Nat.ble (r.map Value.category).sum 8 = true) (hu : u + 3 ≤ uf) (hp0 : RS 1 g x y) (hp1 : gOK g) (hp2 : f = if rf then 1 else 0) (kk0 : ((0 ≤ m ∧ m < g 8) ∧ (0 ≤ s ∧ s < g 7)) → (0 ≤ t ∧ t ≤ 255) → ∀ (x2 : gk_X) (y2 : gk_Y), COk g x x2 y y2 → V pc2 L ((.int (gI (gk_dl (pA g (cN m) (cN s)) (pS g (cN s)) (pBe g (cN m) (cN s) rf) ((cN t : Nat) : Int)))) :: r) 202 gk_fT x2 y2 (u + 3)) (kk1 : ¬ ((0 ≤ m ∧ m < g 8) ∧ (0 ≤ s ∧ s < g 7)) → ∀ (x2 : gk_X) (y2 : gk_Y), COk g x x2 y y2 → K (.inr 2) 202 gk_fT x2 y2) (kk2 : ((0 ≤ m ∧ m < g 8) ∧ (0 ≤ s ∧ s < g 7)) → ¬ (0 ≤ t ∧ t ≤ 255) → ∀ (x2 : gk_X) (y2 : gk_Y), COk g x x2 y y2 → K (.inr 0) 202 gk_fT x2 y2) : V pc L (.int f :: .int t :: .int s :: .int m :: .ref 0 :: r) 202 gk_fT x y u :=
  g_callv w hd hp hc (as := [.ref 0, .int m, .int s, .int t, .int f]) rfl h8 rfl rfl rfl (Or.inr (Or.inl ⟨Or.inl rfl, _, _, rfl, (gk_kd_j rfl rfl), rfl⟩)) (Or.inr hu) ⟨m, s, t, f, g, rf, rfl, ⟨rfl, rfl⟩, hp0, hp1, hp2, kk0, kk1, kk2⟩
def L_X10_distance : List (Nat × gk_M0) := [(137, (0, 9, 1, 1, S_X10_requireTime)), (144, (1, 9, 4, 2, S_X10_layPath)), (148, (1, 2, 2, 0, S_X2_lengthAt))]
def cs_X10_distance : Nat → Option gk_M0 := gk_lk L_X10_distance
theorem m_X10_distance : ∀ (as : List Value) (n : Nat) (fl : gk_F) (x : gk_X) (y : gk_Y) (K : gk_K), S_X10_distance as n fl x y K → (gk_L0 as).length ≤ 5 ∧ ∀ V : gk_V, gk_W cX10_distance pX10 cs_X10_distance (fun _ _ => none) (some .int) 3 none K V → V 0 (gk_en as 5) [] n fl x y 0 := by
  intro as n fl x y K hS
  obtain ⟨m, s, t, f, g, rf, rfl, ⟨rfl, rfl⟩, hp0, hp1, hp2, q0, q1, q2⟩ := hS
  refine ⟨Nat.le_of_ble_eq_true rfl, fun V w => ?_⟩
  show V 0 [some (.ref 0), some (.int m), some (.int s), some (.int t), some (.int f)] [] 202 gk_fT x y 0
  obtain ⟨nv4, ns6, nm8, z6, z7, z8⟩ := wf_n hp1.1
  have f0 := COk.ini hp0
  refine s_aload_n (pc2 := 1) w dX10_distance_0 rfl rfl ?_
  refine s_iload_n (pc2 := 2) w dX10_distance_1 rfl rfl ?_
  refine s_iload_n (pc2 := 3) w dX10_distance_2 rfl rfl ?_
  refine s_iload (pc2 := 5) w dX10_distance_3 rfl rfl ?_
  refine r_X10_layPath (pc2 := 8) (rf := rf) w dX10_distance_5 rfl rfl rfl (Nat.le_of_ble_eq_true rfl) hp0 hp1.1 hp2 (fun h5 y1 hl hy1 => ?_) (fun h => q1 h _ _ f0)
  refine s_iload_n (pc2 := 9) w dX10_distance_8 rfl rfl ?_
  refine r_X10_requireTime (pc2 := 12) w dX10_distance_9 rfl rfl rfl (Nat.le_of_ble_eq_true rfl) (fun h9 => ?_) (fun h => q2 h5 (fun hc => h hc) _ _ (f0.cy hp1.1 (fun i k h => hy1 i k (by omega))))
  obtain ⟨k, rfl, kh⟩ := ix_t h9
  obtain ⟨a, rfl, ah⟩ := ix_n h5.1
  obtain ⟨b, rfl, bh⟩ := ix_n h5.2
  have ah : a < nM g := ah
  have bh : b < nS g := bh
  rw [cN_n a (by omega), cN_n b (by omega)] at hl
  rw [cN_n a (by omega), cN_n b (by omega), cN_n k (by omega)] at q0
  have hpb := (wf_path hp1.1 ah bh).2.1 rf
  refine s_aload_n (pc2 := 13) w dX10_distance_12 rfl rfl ?_
  refine m_getR (pc2 := 16) (ci := 9) (k := 4) (j2 := 89) w dX10_distance_13 rfl rfl rfl rfl rfl rfl ?_
  refine s_iload_n (pc2 := 17) w dX10_distance_16 rfl rfl ?_
  refine r_X2_lengthAt (pc2 := 20) (tt := (k : Int)) w dX10_distance_17 rfl rfl rfl rfl hl hpb rfl (by omega) ?_
  refine s_ireturn w dX10_distance_20 rfl rfl ?_
  exact q0 h5 h9 _ _ (f0.cy hp1.1 (fun i k h => hy1 i k (by omega)))
theorem lk_X10_distance {l : Launch} (hl : l.stackTraces = false) : ∀ q ∈ L_X10_distance, (q.2.1 < 5 → gk_Lk l RX10 gk_W1 9 q.1 q.2.1 q.2.2.1 q.2.2.2.1 q.2.2.2.2.1 q.2.2.2.2.2) := (List.forall_mem_cons.mpr ⟨(fun _ => ⟨yX10_requireTime, cX10_requireTime, 1, none, 7, _, M_X10_requireTime hl, ⟨by decide, by decide⟩, ⟨by decide, by decide, by decide +kernel⟩, ⟨(gk_wm 920 (by decide +kernel)), (gk_wm 89 (by decide +kernel))⟩, Or.inl ⟨rfl, rfl, (gk_wm 919 (by decide +kernel)), gk_wm 918 (by decide +kernel)⟩⟩), (List.forall_mem_cons.mpr ⟨(fun _ => ⟨yX10_layPath, cX10_layPath, 6, none, 8, _, M_X10_layPath hl, ⟨by decide, by decide⟩, ⟨by decide, by decide, by decide +kernel⟩, ⟨(gk_wm 932 (by decide +kernel)), (gk_wm 89 (by decide +kernel))⟩, Or.inr (Or.inr (Or.inr (Or.inl ⟨rfl, rfl, (gk_wm 931 (by decide +kernel)), (gk_wm 24 (by decide +kernel)), gk_wm 929 (by decide +kernel), by decide, rfl⟩)))⟩), (List.forall_mem_cons.mpr ⟨(fun _ => ⟨yX2_lengthAt, cX2_lengthAt, 4, (some .int), 1, _, M_X2_lengthAt hl, ⟨by decide, by decide⟩, ⟨by decide, by decide, by decide +kernel⟩, ⟨(gk_wm 470 (by decide +kernel)), (gk_wm 94 (by decide +kernel))⟩, Or.inr (Or.inr (Or.inr (Or.inl ⟨rfl, rfl, (gk_wm 468 (by decide +kernel)), (gk_wm 469 (by decide +kernel)), gk_wm 934 (by decide +kernel), by decide, rfl⟩)))⟩), (fun _ h => absurd h List.not_mem_nil)⟩)⟩)⟩)
theorem sp_X10_distance : ∀ q ∈ L_X10_distance, gk_Sq RX10 gk_W1 9 q := (List.forall_mem_cons.mpr ⟨⟨fun h => absurd h (by decide), fun h => absurd h (by decide), fun h => absurd h (by decide), fun h => absurd h (by decide), fun h => absurd h (by decide), fun h => absurd h (by decide)⟩, (List.forall_mem_cons.mpr ⟨⟨fun h => absurd h (by decide), fun h => absurd h (by decide), fun h => absurd h (by decide), fun h => absurd h (by decide), fun h => absurd h (by decide), fun h => absurd h (by decide)⟩, (List.forall_mem_cons.mpr ⟨⟨fun h => absurd h (by decide), fun h => absurd h (by decide), fun h => absurd h (by decide), fun h => absurd h (by decide), fun h => absurd h (by decide), fun h => absurd h (by decide)⟩, (fun _ h => absurd h List.not_mem_nil)⟩)⟩)⟩)
theorem M_X10_distance {l : Launch} (hl : l.stackTraces = false) : gk_Mt l yX10_distance (.code yX10_distance cX10_distance 5 (some .int) :: gk_W1) 9 3 S_X10_distance := gk_meth hl gk_cw_ok (by decide +kernel) rfl m_X10_distance pX10_ok (gk_Sp_of sp_X10_distance) pX10_st (fun ci m S h => absurd h (by intro h; cases h)) (xf_X10 (by decide)) (fun idx kd ci mm cost S2 h h5 => lk_X10_distance hl _ (gk_lk_mem h) h5)

def S_X10_emissionTime : gk_S := fun as n fl x y K => ∃ (m : Int32) (s : Int32) (t : Int32) (f : Int32) (g : Nat → Int32) (rf : Bool), as = [.ref 0, .int m, .int s, .int t, .int f] ∧ (n = 202 ∧ fl = gk_fT) ∧ (RS 1 g x y) ∧ (gOK g) ∧ (f = if rf then 1 else 0) ∧ (((0 ≤ m ∧ m < g 8) ∧ (0 ≤ s ∧ s < g 7)) → (0 ≤ t ∧ t ≤ 255) → ∀ (x2 : gk_X) (y2 : gk_Y), COk g x x2 y y2 → K (.inl (some (.int (gI (gk_last (gk_lp2 (pA g (cN m) (cN s)) (pS g (cN s)) (pBe g (cN m) (cN s) rf) (gz g 0) ((cN t : Nat) : Int)) (cN t + 1)))))) n fl x2 y2) ∧ (¬ ((0 ≤ m ∧ m < g 8) ∧ (0 ≤ s ∧ s < g 7)) → ∀ (x2 : gk_X) (y2 : gk_Y), COk g x x2 y y2 → K (.inr 2) n fl x2 y2) ∧ (((0 ≤ m ∧ m < g 8) ∧ (0 ≤ s ∧ s < g 7)) → ¬ (0 ≤ t ∧ t ≤ 255) → ∀ (x2 : gk_X) (y2 : gk_Y), COk g x x2 y y2 → K (.inr 0) n fl x2 y2)
theorem r_X10_emissionTime (w : gk_W c P cs (fun _ _ => none) rt uf sc K V) {idx : Nat} {m : Int32} {s : Int32} {t : Int32} {f : Int32} {g : Nat → Int32} {rf : Bool} (hd : decode c pc = .ok (.invokevirtual idx, 3)) (hp : pc + 3 = pc2) (hc : cs idx = some (1, 9, 5, 3, S_X10_emissionTime)) (h8 : Nat.ble (r.map Value.category).sum 8 = true) (hu : u + 3 ≤ uf) (hp0 : RS 1 g x y) (hp1 : gOK g) (hp2 : f = if rf then 1 else 0) (kk0 : ((0 ≤ m ∧ m < g 8) ∧ (0 ≤ s ∧ s < g 7)) → (0 ≤ t ∧ t ≤ 255) → ∀ (x2 : gk_X) (y2 : gk_Y), COk g x x2 y y2 → V pc2 L ((.int (gI (gk_last (gk_lp2 (pA g (cN m) (cN s)) (pS g (cN s)) (pBe g (cN m) (cN s) rf) (gz g 0) ((cN t : Nat) : Int)) (cN t + 1)))) :: r) 202 gk_fT x2 y2 (u + 3)) (kk1 : ¬ ((0 ≤ m ∧ m < g 8) ∧ (0 ≤ s ∧ s < g 7)) → ∀ (x2 : gk_X) (y2 : gk_Y), COk g x x2 y y2 → K (.inr 2) 202 gk_fT x2 y2) (kk2 : ((0 ≤ m ∧ m < g 8) ∧ (0 ≤ s ∧ s < g 7)) → ¬ (0 ≤ t ∧ t ≤ 255) → ∀ (x2 : gk_X) (y2 : gk_Y), COk g x x2 y y2 → K (.inr 0) 202 gk_fT x2 y2) : V pc L (.int f :: .int t :: .int s :: .int m :: .ref 0 :: r) 202 gk_fT x y u :=
  g_callv w hd hp hc (as := [.ref 0, .int m, .int s, .int t, .int f]) rfl h8 rfl rfl rfl (Or.inr (Or.inl ⟨Or.inl rfl, _, _, rfl, (gk_kd_j rfl rfl), rfl⟩)) (Or.inr hu) ⟨m, s, t, f, g, rf, rfl, ⟨rfl, rfl⟩, hp0, hp1, hp2, kk0, kk1, kk2⟩
def L_X10_emissionTime : List (Nat × gk_M0) := [(137, (0, 9, 1, 1, S_X10_requireTime)), (144, (1, 9, 4, 2, S_X10_layPath)), (151, (1, 2, 3, 0, S_X2_latestTime))]
def cs_X10_emissionTime : Nat → Option gk_M0 := gk_lk L_X10_emissionTime
theorem m_X10_emissionTime : ∀ (as : List Value) (n : Nat) (fl : gk_F) (x : gk_X) (y : gk_Y) (K : gk_K), S_X10_emissionTime as n fl x y K → (gk_L0 as).length ≤ 5 ∧ ∀ V : gk_V, gk_W cX10_emissionTime pX10 cs_X10_emissionTime (fun _ _ => none) (some .int) 3 none K V → V 0 (gk_en as 5) [] n fl x y 0 := by
  intro as n fl x y K hS
  obtain ⟨m, s, t, f, g, rf, rfl, ⟨rfl, rfl⟩, hp0, hp1, hp2, q0, q1, q2⟩ := hS
  refine ⟨Nat.le_of_ble_eq_true rfl, fun V w => ?_⟩
  show V 0 [some (.ref 0), some (.int m), some (.int s), some (.int t), some (.int f)] [] 202 gk_fT x y 0
  obtain ⟨nv4, ns6, nm8, z6, z7, z8⟩ := wf_n hp1.1
  have f0 := COk.ini hp0
  refine s_aload_n (pc2 := 1) w dX10_emissionTime_0 rfl rfl ?_
  refine s_iload_n (pc2 := 2) w dX10_emissionTime_1 rfl rfl ?_
  refine s_iload_n (pc2 := 3) w dX10_emissionTime_2 rfl rfl ?_
  refine s_iload (pc2 := 5) w dX10_emissionTime_3 rfl rfl ?_
  refine r_X10_layPath (pc2 := 8) (rf := rf) w dX10_emissionTime_5 rfl rfl rfl (Nat.le_of_ble_eq_true rfl) hp0 hp1.1 hp2 (fun h5 y1 hl hy1 => ?_) (fun h => q1 h _ _ f0)
  refine s_iload_n (pc2 := 9) w dX10_emissionTime_8 rfl rfl ?_
  refine r_X10_requireTime (pc2 := 12) w dX10_emissionTime_9 rfl rfl rfl (Nat.le_of_ble_eq_true rfl) (fun h9 => ?_) (fun h => q2 h5 (fun hc => h hc) _ _ (f0.cy hp1.1 (fun i k h => hy1 i k (by omega))))
  obtain ⟨k, rfl, kh⟩ := ix_t h9
  obtain ⟨a, rfl, ah⟩ := ix_n h5.1
  obtain ⟨b, rfl, bh⟩ := ix_n h5.2
  have ah : a < nM g := ah
  have bh : b < nS g := bh
  rw [cN_n a (by omega), cN_n b (by omega)] at hl
  rw [cN_n a (by omega), cN_n b (by omega), cN_n k (by omega)] at q0
  have hpb := (wf_path hp1.1 ah bh).2.1 rf
  refine s_aload_n (pc2 := 13) w dX10_emissionTime_12 rfl rfl ?_
  refine m_getR (pc2 := 16) (ci := 9) (k := 4) (j2 := 89) w dX10_emissionTime_13 rfl rfl rfl rfl rfl rfl ?_
  refine s_iload_n (pc2 := 17) w dX10_emissionTime_16 rfl rfl ?_
  refine s_aload_n (pc2 := 18) w dX10_emissionTime_17 rfl rfl ?_
  refine m_getR (pc2 := 21) (ci := 9) (k := 0) (j2 := 1) w dX10_emissionTime_18 rfl rfl rfl rfl rfl rfl ?_
  refine m_getI (pc2 := 24) (ci := 4) (k := 7) w dX10_emissionTime_21 rfl rfl rfl rfl rfl ?_
  refine r_X2_latestTime (pc2 := 27) w dX10_emissionTime_24 rfl rfl rfl rfl hl hpb rfl kh (hp0.1.2.1.trans (gz_I g 0)) hp1.1.1.1 ?_
  refine s_ireturn w dX10_emissionTime_27 rfl rfl ?_
  exact q0 h5 h9 _ _ (f0.cy hp1.1 (fun i k h => hy1 i k (by omega)))
theorem lk_X10_emissionTime {l : Launch} (hl : l.stackTraces = false) : ∀ q ∈ L_X10_emissionTime, (q.2.1 < 5 → gk_Lk l RX10 gk_W1 9 q.1 q.2.1 q.2.2.1 q.2.2.2.1 q.2.2.2.2.1 q.2.2.2.2.2) := (List.forall_mem_cons.mpr ⟨(fun _ => ⟨yX10_requireTime, cX10_requireTime, 1, none, 7, _, M_X10_requireTime hl, ⟨by decide, by decide⟩, ⟨by decide, by decide, by decide +kernel⟩, ⟨(gk_wm 920 (by decide +kernel)), (gk_wm 89 (by decide +kernel))⟩, Or.inl ⟨rfl, rfl, (gk_wm 919 (by decide +kernel)), gk_wm 918 (by decide +kernel)⟩⟩), (List.forall_mem_cons.mpr ⟨(fun _ => ⟨yX10_layPath, cX10_layPath, 6, none, 8, _, M_X10_layPath hl, ⟨by decide, by decide⟩, ⟨by decide, by decide, by decide +kernel⟩, ⟨(gk_wm 932 (by decide +kernel)), (gk_wm 89 (by decide +kernel))⟩, Or.inr (Or.inr (Or.inr (Or.inl ⟨rfl, rfl, (gk_wm 931 (by decide +kernel)), (gk_wm 24 (by decide +kernel)), gk_wm 929 (by decide +kernel), by decide, rfl⟩)))⟩), (List.forall_mem_cons.mpr ⟨(fun _ => ⟨yX2_latestTime, cX2_latestTime, 4, (some .int), 3, _, M_X2_latestTime hl, ⟨by decide, by decide⟩, ⟨by decide, by decide, by decide +kernel⟩, ⟨(gk_wm 945 (by decide +kernel)), (gk_wm 94 (by decide +kernel))⟩, Or.inr (Or.inr (Or.inr (Or.inl ⟨rfl, rfl, (gk_wm 943 (by decide +kernel)), (gk_wm 944 (by decide +kernel)), gk_wm 942 (by decide +kernel), by decide, rfl⟩)))⟩), (fun _ h => absurd h List.not_mem_nil)⟩)⟩)⟩)
theorem sp_X10_emissionTime : ∀ q ∈ L_X10_emissionTime, gk_Sq RX10 gk_W1 9 q := (List.forall_mem_cons.mpr ⟨⟨fun h => absurd h (by decide), fun h => absurd h (by decide), fun h => absurd h (by decide), fun h => absurd h (by decide), fun h => absurd h (by decide), fun h => absurd h (by decide)⟩, (List.forall_mem_cons.mpr ⟨⟨fun h => absurd h (by decide), fun h => absurd h (by decide), fun h => absurd h (by decide), fun h => absurd h (by decide), fun h => absurd h (by decide), fun h => absurd h (by decide)⟩, (List.forall_mem_cons.mpr ⟨⟨fun h => absurd h (by decide), fun h => absurd h (by decide), fun h => absurd h (by decide), fun h => absurd h (by decide), fun h => absurd h (by decide), fun h => absurd h (by decide)⟩, (fun _ h => absurd h List.not_mem_nil)⟩)⟩)⟩)
theorem M_X10_emissionTime {l : Launch} (hl : l.stackTraces = false) : gk_Mt l yX10_emissionTime (.code yX10_emissionTime cX10_emissionTime 5 (some .int) :: gk_W1) 9 3 S_X10_emissionTime := gk_meth hl gk_cw_ok (by decide +kernel) rfl m_X10_emissionTime pX10_ok (gk_Sp_of sp_X10_emissionTime) pX10_st (fun ci m S h => absurd h (by intro h; cases h)) (xf_X10 (by decide)) (fun idx kd ci mm cost S2 h h5 => lk_X10_emissionTime hl _ (gk_lk_mem h) h5)

def S_X10_sample : gk_S := fun as n fl x y K => ∃ (m : Int32) (t : Int32) (g : Nat → Int32), as = [.ref 0, .int m, .int t] ∧ (n = 202 ∧ fl = gk_fT) ∧ (RS 1 g x y) ∧ (gOK g) ∧ ((0 ≤ m ∧ m < g 8) → (0 ≤ t ∧ t ≤ 255) → ∀ (x2 : gk_X) (y2 : gk_Y), COk g x x2 y y2 → K (.inl (some (.int (g (186 + 256 * cN m + cN t))))) n fl x2 y2) ∧ (¬ (0 ≤ m ∧ m < g 8) → ∀ (x2 : gk_X) (y2 : gk_Y), COk g x x2 y y2 → K (.inr 2) n fl x2 y2) ∧ ((0 ≤ m ∧ m < g 8) → ¬ (0 ≤ t ∧ t ≤ 255) → ∀ (x2 : gk_X) (y2 : gk_Y), COk g x x2 y y2 → K (.inr 0) n fl x2 y2)
theorem r_X10_sample (w : gk_W c P cs (fun _ _ => none) rt uf sc K V) {idx : Nat} {m : Int32} {t : Int32} {g : Nat → Int32} (hd : decode c pc = .ok (.invokevirtual idx, 3)) (hp : pc + 3 = pc2) (hc : cs idx = some (1, 9, 3, 2, S_X10_sample)) (h8 : Nat.ble (r.map Value.category).sum 8 = true) (hu : u + 2 ≤ uf) (hp0 : RS 1 g x y) (hp1 : gOK g) (kk0 : (0 ≤ m ∧ m < g 8) → (0 ≤ t ∧ t ≤ 255) → ∀ (x2 : gk_X) (y2 : gk_Y), COk g x x2 y y2 → V pc2 L ((.int (g (186 + 256 * cN m + cN t))) :: r) 202 gk_fT x2 y2 (u + 2)) (kk1 : ¬ (0 ≤ m ∧ m < g 8) → ∀ (x2 : gk_X) (y2 : gk_Y), COk g x x2 y y2 → K (.inr 2) 202 gk_fT x2 y2) (kk2 : (0 ≤ m ∧ m < g 8) → ¬ (0 ≤ t ∧ t ≤ 255) → ∀ (x2 : gk_X) (y2 : gk_Y), COk g x x2 y y2 → K (.inr 0) 202 gk_fT x2 y2) : V pc L (.int t :: .int m :: .ref 0 :: r) 202 gk_fT x y u :=
  g_callv w hd hp hc (as := [.ref 0, .int m, .int t]) rfl h8 rfl rfl rfl (Or.inr (Or.inl ⟨Or.inl rfl, _, _, rfl, (gk_kd_j rfl rfl), rfl⟩)) (Or.inr hu) ⟨m, t, g, rfl, ⟨rfl, rfl⟩, hp0, hp1, kk0, kk1, kk2⟩
def L_X10_sample : List (Nat × gk_M0) := [(112, (1, 9, 2, 1, S_X10_requireMicrophone)), (137, (0, 9, 1, 1, S_X10_requireTime))]
def cs_X10_sample : Nat → Option gk_M0 := gk_lk L_X10_sample
theorem m_X10_sample : ∀ (as : List Value) (n : Nat) (fl : gk_F) (x : gk_X) (y : gk_Y) (K : gk_K), S_X10_sample as n fl x y K → (gk_L0 as).length ≤ 4 ∧ ∀ V : gk_V, gk_W cX10_sample pX10 cs_X10_sample (fun _ _ => none) (some .int) 2 none K V → V 0 (gk_en as 4) [] n fl x y 0 := by
  intro as n fl x y K hS
  obtain ⟨m, t, g, rfl, ⟨rfl, rfl⟩, hp0, hp1, q0, q1, q2⟩ := hS
  refine ⟨Nat.le_of_ble_eq_true rfl, fun V w => ?_⟩
  show V 0 [some (.ref 0), some (.int m), some (.int t), none] [] 202 gk_fT x y 0
  obtain ⟨nv4, ns6, nm8, z6, z7, z8⟩ := wf_n hp1.1
  have f0 := COk.ini hp0
  refine s_aload_n (pc2 := 1) w dX10_sample_0 rfl rfl ?_
  refine s_iload_n (pc2 := 2) w dX10_sample_1 rfl rfl ?_
  refine r_X10_requireMicrophone (pc2 := 5) w dX10_sample_2 rfl rfl rfl (Nat.le_of_ble_eq_true rfl) hp0 hp1.1 (fun h2 a ae ah => ?_) (fun h => q1  (fun hc => h hc) _ _ f0)
  subst ae
  obtain ⟨j1a, j2a, j3a⟩ := kd_m (show a < 8 by omega)
  have j1 := j1a
  have j2 := j2a
  have j3 := j3a
  refine s_astore_n (pc2 := 6) (k2 := 3) w dX10_sample_5 rfl rfl rfl ?_
  dsimp only [gk_s1, gk_s2, gk_cl]
  refine s_iload_n (pc2 := 7) w dX10_sample_6 rfl rfl ?_
  refine r_X10_requireTime (pc2 := 10) w dX10_sample_7 rfl rfl rfl (Nat.le_of_ble_eq_true rfl) (fun h7 => ?_) (fun h => q2 h2 (fun hc => h hc) _ _ f0)
  obtain ⟨k, rfl, kh⟩ := ix_t h7
  rw [cN_n a (by omega), cN_n k (by omega)] at q0
  refine s_aload_n (pc2 := 11) w dX10_sample_10 rfl rfl ?_
  refine m_getR (pc2 := 14) (ci := 1) (k := 0) (j2 := (2 * a + 29)) w dX10_sample_11 rfl rfl (by first | exact j2 | exact j1) rfl rfl rfl ?_
  refine s_iload_n (pc2 := 15) w dX10_sample_14 rfl rfl ?_
  refine m_ialoadN (pc2 := 16) (t := k) w dX10_sample_15 rfl (by first | exact j2 | exact j1) j3 rfl kh rfl ?_
  rw [show x (2 * a + 29) k = g (186 + 256 * a + k) from hp0.2.2.2.2.2.1 a ah k kh]
  refine s_ireturn w dX10_sample_16 rfl rfl ?_
  exact q0 h2 h7 _ _ f0
theorem lk_X10_sample {l : Launch} (hl : l.stackTraces = false) : ∀ q ∈ L_X10_sample, (q.2.1 < 5 → gk_Lk l RX10 gk_W1 8 q.1 q.2.1 q.2.2.1 q.2.2.2.1 q.2.2.2.2.1 q.2.2.2.2.2) := (List.forall_mem_cons.mpr ⟨(fun _ => ⟨yX10_requireMicrophone, cX10_requireMicrophone, 2, (some (.object "TrackArray$Microphone")), 7, _, M_X10_requireMicrophone hl, ⟨by decide, by decide⟩, ⟨by decide, by decide, by decide +kernel⟩, ⟨(gk_wm 902 (by decide +kernel)), (gk_wm 89 (by decide +kernel))⟩, Or.inr (Or.inr (Or.inr (Or.inl ⟨rfl, rfl, (gk_wm 901 (by decide +kernel)), (gk_wm 23 (by decide +kernel)), gk_wm 899 (by decide +kernel), by decide, rfl⟩)))⟩), (List.forall_mem_cons.mpr ⟨(fun _ => ⟨yX10_requireTime, cX10_requireTime, 1, none, 7, _, M_X10_requireTime hl, ⟨by decide, by decide⟩, ⟨by decide, by decide, by decide +kernel⟩, ⟨(gk_wm 920 (by decide +kernel)), (gk_wm 89 (by decide +kernel))⟩, Or.inl ⟨rfl, rfl, (gk_wm 919 (by decide +kernel)), gk_wm 918 (by decide +kernel)⟩⟩), (fun _ h => absurd h List.not_mem_nil)⟩)⟩)
theorem sp_X10_sample : ∀ q ∈ L_X10_sample, gk_Sq RX10 gk_W1 8 q := (List.forall_mem_cons.mpr ⟨⟨fun h => absurd h (by decide), fun h => absurd h (by decide), fun h => absurd h (by decide), fun h => absurd h (by decide), fun h => absurd h (by decide), fun h => absurd h (by decide)⟩, (List.forall_mem_cons.mpr ⟨⟨fun h => absurd h (by decide), fun h => absurd h (by decide), fun h => absurd h (by decide), fun h => absurd h (by decide), fun h => absurd h (by decide), fun h => absurd h (by decide)⟩, (fun _ h => absurd h List.not_mem_nil)⟩)⟩)
theorem M_X10_sample {l : Launch} (hl : l.stackTraces = false) : gk_Mt l yX10_sample (.code yX10_sample cX10_sample 4 (some .int) :: gk_W1) 8 2 S_X10_sample := gk_meth hl gk_cw_ok (by decide +kernel) rfl m_X10_sample pX10_ok (gk_Sp_of sp_X10_sample) pX10_st (fun ci m S h => absurd h (by intro h; cases h)) (xf_X10 (by decide)) (fun idx kd ci mm cost S2 h h5 => lk_X10_sample hl _ (gk_lk_mem h) h5)

def S_X10_measureRecord : gk_S := fun as n fl x y K => ∃ (m : Int32) (z : Int32) (f : Int32) (l : Int32) (g : Nat → Int32), as = [.ref 0, .int m, .int z, .int f, .int l] ∧ (n = 202 ∧ fl = gk_fT) ∧ (RS 1 g x y) ∧ (gOK g) ∧ ((0 ≤ m ∧ m < g 8) → ((0 ≤ z ∧ z ≤ 4) ∧ (0 ≤ f ∧ f ≤ l ∧ l ≤ 255)) → ∀ (x2 : gk_X) (y2 : gk_Y), COk g x x2 y y2 → K (.inl (some (.long (gk_ms (gC g (cN m)) (cN z) (cN f) (cN l))))) n fl x2 y2) ∧ (¬ (0 ≤ m ∧ m < g 8) → ∀ (x2 : gk_X) (y2 : gk_Y), COk g x x2 y y2 → K (.inr 2) n fl x2 y2) ∧ ((0 ≤ m ∧ m < g 8) → ¬ ((0 ≤ z ∧ z ≤ 4) ∧ (0 ≤ f ∧ f ≤ l ∧ l ≤ 255)) → ∀ (x2 : gk_X) (y2 : gk_Y), COk g x x2 y y2 → K (.inr 0) n fl x2 y2)
theorem r_X10_measureRecord (w : gk_W c P cs (fun _ _ => none) rt uf sc K V) {idx : Nat} {m : Int32} {z : Int32} {f : Int32} {l : Int32} {g : Nat → Int32} (hd : decode c pc = .ok (.invokevirtual idx, 3)) (hp : pc + 3 = pc2) (hc : cs idx = some (1, 9, 5, 4, S_X10_measureRecord)) (h8 : Nat.ble (r.map Value.category).sum 8 = true) (hu : u + 4 ≤ uf) (hp0 : RS 1 g x y) (hp1 : gOK g) (kk0 : (0 ≤ m ∧ m < g 8) → ((0 ≤ z ∧ z ≤ 4) ∧ (0 ≤ f ∧ f ≤ l ∧ l ≤ 255)) → ∀ (x2 : gk_X) (y2 : gk_Y), COk g x x2 y y2 → V pc2 L ((.long (gk_ms (gC g (cN m)) (cN z) (cN f) (cN l))) :: r) 202 gk_fT x2 y2 (u + 4)) (kk1 : ¬ (0 ≤ m ∧ m < g 8) → ∀ (x2 : gk_X) (y2 : gk_Y), COk g x x2 y y2 → K (.inr 2) 202 gk_fT x2 y2) (kk2 : (0 ≤ m ∧ m < g 8) → ¬ ((0 ≤ z ∧ z ≤ 4) ∧ (0 ≤ f ∧ f ≤ l ∧ l ≤ 255)) → ∀ (x2 : gk_X) (y2 : gk_Y), COk g x x2 y y2 → K (.inr 0) 202 gk_fT x2 y2) : V pc L (.int l :: .int f :: .int z :: .int m :: .ref 0 :: r) 202 gk_fT x y u :=
  g_callv w hd hp hc (as := [.ref 0, .int m, .int z, .int f, .int l]) rfl h8 rfl rfl rfl (Or.inr (Or.inl ⟨Or.inl rfl, _, _, rfl, (gk_kd_j rfl rfl), rfl⟩)) (Or.inr hu) ⟨m, z, f, l, g, rfl, ⟨rfl, rfl⟩, hp0, hp1, kk0, kk1, kk2⟩
def L_X10_measureRecord : List (Nat × gk_M0) := [(55, (0, 9, 3, 1, S_X10_requireRange)), (112, (1, 9, 2, 1, S_X10_requireMicrophone)), (175, (0, 9, 2, 2, S_X10_requireWindow)), (178, (0, 0, 4, 0, S_X6_measured))]
def cs_X10_measureRecord : Nat → Option gk_M0 := gk_lk L_X10_measureRecord
theorem m_X10_measureRecord : ∀ (as : List Value) (n : Nat) (fl : gk_F) (x : gk_X) (y : gk_Y) (K : gk_K), S_X10_measureRecord as n fl x y K → (gk_L0 as).length ≤ 6 ∧ ∀ V : gk_V, gk_W cX10_measureRecord pX10 cs_X10_measureRecord (fun _ _ => none) (some .long) 4 none K V → V 0 (gk_en as 6) [] n fl x y 0 := by
  intro as n fl x y K hS
  obtain ⟨m, z, f, l, g, rfl, ⟨rfl, rfl⟩, hp0, hp1, q0, q1, q2⟩ := hS
  refine ⟨Nat.le_of_ble_eq_true rfl, fun V w => ?_⟩
  show V 0 [some (.ref 0), some (.int m), some (.int z), some (.int f), some (.int l), none] [] 202 gk_fT x y 0
  obtain ⟨nv4, ns6, nm8, z6, z7, z8⟩ := wf_n hp1.1
  have f0 := COk.ini hp0
  refine s_aload_n (pc2 := 1) w dX10_measureRecord_0 rfl rfl ?_
  refine s_iload_n (pc2 := 2) w dX10_measureRecord_1 rfl rfl ?_
  refine r_X10_requireMicrophone (pc2 := 5) w dX10_measureRecord_2 rfl rfl rfl (Nat.le_of_ble_eq_true rfl) hp0 hp1.1 (fun h2 a ae ah => ?_) (fun h => q1  (fun hc => h hc) _ _ f0)
  subst ae
  obtain ⟨j1a, j2a, j3a⟩ := kd_m (show a < 8 by omega)
  have j1 := j1a
  have j2 := j2a
  have j3 := j3a
  refine s_astore (pc2 := 7) w dX10_measureRecord_5 rfl rfl ?_
  dsimp only [gk_s1, gk_s2, gk_cl]
  refine s_iload_n (pc2 := 8) w dX10_measureRecord_7 rfl rfl ?_
  refine s_iconst (pc2 := 9) (v := 0) w dX10_measureRecord_8 rfl rfl ?_
  refine s_iconst (pc2 := 10) (v := 4) w dX10_measureRecord_9 rfl rfl ?_
  refine r_X10_requireRange (pc2 := 13) w dX10_measureRecord_10 rfl rfl rfl (Nat.le_of_ble_eq_true rfl) (fun h10 => ?_) (fun h => q2 h2 (fun hc => h hc.1) _ _ f0)
  refine s_iload_n (pc2 := 14) w dX10_measureRecord_13 rfl rfl ?_
  refine s_iload (pc2 := 16) w dX10_measureRecord_14 rfl rfl ?_
  refine r_X10_requireWindow (pc2 := 19) w dX10_measureRecord_16 rfl rfl rfl (Nat.le_of_ble_eq_true rfl) (fun h16 => ?_) (fun h => q2 h2 (fun hc => h hc.2) _ _ f0)
  obtain ⟨k, rfl, kh⟩ := ix_b (b := 4) (by decide) h10
  obtain ⟨b, e, rfl, rfl, be, eh⟩ := ix_w h16
  rw [cN_n a (by omega), cN_n k (by omega), cN_n b (by omega), cN_n e (by omega)] at q0
  have hr : ∀ k, k < 256 → x (2 * a + 29) k = gC g a k := fun k hk => hp0.2.2.2.2.2.1 a ah k hk
  refine s_aload (pc2 := 21) w dX10_measureRecord_19 rfl rfl ?_
  refine m_getR (pc2 := 24) (ci := 1) (k := 0) (j2 := (2 * a + 29)) w dX10_measureRecord_21 rfl rfl (by first | exact j2 | exact j1) rfl rfl rfl ?_
  refine s_iload_n (pc2 := 25) w dX10_measureRecord_24 rfl rfl ?_
  refine s_iload_n (pc2 := 26) w dX10_measureRecord_25 rfl rfl ?_
  refine s_iload (pc2 := 28) w dX10_measureRecord_26 rfl rfl ?_
  refine r_X6_measured (pc2 := 31) w dX10_measureRecord_28 rfl rfl rfl (by first | exact j2 | exact j1) j3 rfl kh rfl rfl be eh (row_bd (g := g) hr (fun k hk => gC_b hp1.2.1 ah hk) eh) ?_
  rw [row_ms hr be eh]
  refine s_lreturn w dX10_measureRecord_31 rfl ?_
  exact q0 h2 ⟨h10, h16⟩ _ _ f0
theorem lk_X10_measureRecord {l : Launch} (hl : l.stackTraces = false) : ∀ q ∈ L_X10_measureRecord, (q.2.1 < 5 → gk_Lk l RX10 gk_W1 9 q.1 q.2.1 q.2.2.1 q.2.2.2.1 q.2.2.2.2.1 q.2.2.2.2.2) := (List.forall_mem_cons.mpr ⟨(fun _ => ⟨yX10_requireRange, cX10_requireRange, 3, none, 6, _, M_X10_requireRange hl, ⟨by decide, by decide⟩, ⟨by decide, by decide, by decide +kernel⟩, ⟨(gk_wm 733 (by decide +kernel)), (gk_wm 89 (by decide +kernel))⟩, Or.inl ⟨rfl, rfl, (gk_wm 732 (by decide +kernel)), gk_wm 731 (by decide +kernel)⟩⟩), (List.forall_mem_cons.mpr ⟨(fun _ => ⟨yX10_requireMicrophone, cX10_requireMicrophone, 2, (some (.object "TrackArray$Microphone")), 7, _, M_X10_requireMicrophone hl, ⟨by decide, by decide⟩, ⟨by decide, by decide, by decide +kernel⟩, ⟨(gk_wm 902 (by decide +kernel)), (gk_wm 89 (by decide +kernel))⟩, Or.inr (Or.inr (Or.inr (Or.inl ⟨rfl, rfl, (gk_wm 901 (by decide +kernel)), (gk_wm 23 (by decide +kernel)), gk_wm 899 (by decide +kernel), by decide, rfl⟩)))⟩), (List.forall_mem_cons.mpr ⟨(fun _ => ⟨yX10_requireWindow, cX10_requireWindow, 2, none, 8, _, M_X10_requireWindow hl, ⟨by decide, by decide⟩, ⟨by decide, by decide, by decide +kernel⟩, ⟨(gk_wm 978 (by decide +kernel)), (gk_wm 89 (by decide +kernel))⟩, Or.inl ⟨rfl, rfl, (gk_wm 977 (by decide +kernel)), gk_wm 976 (by decide +kernel)⟩⟩), (List.forall_mem_cons.mpr ⟨(fun _ => ⟨yX6_measured, cX6_measured, 4, (some .long), 2, _, M_X6_measured hl, ⟨by decide, by decide⟩, ⟨by decide, by decide, by decide +kernel⟩, ⟨(gk_wm 981 (by decide +kernel)), (gk_wm 108 (by decide +kernel))⟩, Or.inl ⟨rfl, rfl, (gk_wm 980 (by decide +kernel)), gk_wm 979 (by decide +kernel)⟩⟩), (fun _ h => absurd h List.not_mem_nil)⟩)⟩)⟩)⟩)
theorem sp_X10_measureRecord : ∀ q ∈ L_X10_measureRecord, gk_Sq RX10 gk_W1 9 q := (List.forall_mem_cons.mpr ⟨⟨fun h => absurd h (by decide), fun h => absurd h (by decide), fun h => absurd h (by decide), fun h => absurd h (by decide), fun h => absurd h (by decide), fun h => absurd h (by decide)⟩, (List.forall_mem_cons.mpr ⟨⟨fun h => absurd h (by decide), fun h => absurd h (by decide), fun h => absurd h (by decide), fun h => absurd h (by decide), fun h => absurd h (by decide), fun h => absurd h (by decide)⟩, (List.forall_mem_cons.mpr ⟨⟨fun h => absurd h (by decide), fun h => absurd h (by decide), fun h => absurd h (by decide), fun h => absurd h (by decide), fun h => absurd h (by decide), fun h => absurd h (by decide)⟩, (List.forall_mem_cons.mpr ⟨⟨fun h => absurd h (by decide), fun h => absurd h (by decide), fun h => absurd h (by decide), fun h => absurd h (by decide), fun h => absurd h (by decide), fun h => absurd h (by decide)⟩, (fun _ h => absurd h List.not_mem_nil)⟩)⟩)⟩)⟩)
theorem M_X10_measureRecord {l : Launch} (hl : l.stackTraces = false) : gk_Mt l yX10_measureRecord (.code yX10_measureRecord cX10_measureRecord 6 (some .long) :: gk_W1) 9 4 S_X10_measureRecord := gk_meth hl gk_cw_ok (by decide +kernel) rfl m_X10_measureRecord pX10_ok (gk_Sp_of sp_X10_measureRecord) pX10_st (fun ci m S h => absurd h (by intro h; cases h)) (xf_X10 (by decide)) (fun idx kd ci mm cost S2 h h5 => lk_X10_measureRecord hl _ (gk_lk_mem h) h5)

def S_X10_correlation : gk_S := fun as n fl x y K => ∃ (m : Int32) (o : Int32) (v : Int32) (g : Nat → Int32), as = [.ref 0, .int m, .int o, .int v] ∧ (n = 202 ∧ fl = gk_fT) ∧ (RS 1 g x y) ∧ (gOK g) ∧ (((0 ≤ m ∧ m < g 8) ∧ (0 ≤ o ∧ o < g 8)) → (-255 ≤ v ∧ v ≤ 255) → ∀ (x2 : gk_X) (y2 : gk_Y), COk g x x2 y y2 → K (.inl (some (.long (gL (gk_cv (gC g (cN m)) (gC g (cN o)) v 256))))) n fl x2 y2) ∧ (¬ ((0 ≤ m ∧ m < g 8) ∧ (0 ≤ o ∧ o < g 8)) → ∀ (x2 : gk_X) (y2 : gk_Y), COk g x x2 y y2 → K (.inr 2) n fl x2 y2) ∧ (((0 ≤ m ∧ m < g 8) ∧ (0 ≤ o ∧ o < g 8)) → ¬ (-255 ≤ v ∧ v ≤ 255) → ∀ (x2 : gk_X) (y2 : gk_Y), COk g x x2 y y2 → K (.inr 0) n fl x2 y2)
theorem r_X10_correlation (w : gk_W c P cs (fun _ _ => none) rt uf sc K V) {idx : Nat} {m : Int32} {o : Int32} {v : Int32} {g : Nat → Int32} (hd : decode c pc = .ok (.invokevirtual idx, 3)) (hp : pc + 3 = pc2) (hc : cs idx = some (1, 9, 4, 3, S_X10_correlation)) (h8 : Nat.ble (r.map Value.category).sum 8 = true) (hu : u + 3 ≤ uf) (hp0 : RS 1 g x y) (hp1 : gOK g) (kk0 : ((0 ≤ m ∧ m < g 8) ∧ (0 ≤ o ∧ o < g 8)) → (-255 ≤ v ∧ v ≤ 255) → ∀ (x2 : gk_X) (y2 : gk_Y), COk g x x2 y y2 → V pc2 L ((.long (gL (gk_cv (gC g (cN m)) (gC g (cN o)) v 256))) :: r) 202 gk_fT x2 y2 (u + 3)) (kk1 : ¬ ((0 ≤ m ∧ m < g 8) ∧ (0 ≤ o ∧ o < g 8)) → ∀ (x2 : gk_X) (y2 : gk_Y), COk g x x2 y y2 → K (.inr 2) 202 gk_fT x2 y2) (kk2 : ((0 ≤ m ∧ m < g 8) ∧ (0 ≤ o ∧ o < g 8)) → ¬ (-255 ≤ v ∧ v ≤ 255) → ∀ (x2 : gk_X) (y2 : gk_Y), COk g x x2 y y2 → K (.inr 0) 202 gk_fT x2 y2) : V pc L (.int v :: .int o :: .int m :: .ref 0 :: r) 202 gk_fT x y u :=
  g_callv w hd hp hc (as := [.ref 0, .int m, .int o, .int v]) rfl h8 rfl rfl rfl (Or.inr (Or.inl ⟨Or.inl rfl, _, _, rfl, (gk_kd_j rfl rfl), rfl⟩)) (Or.inr hu) ⟨m, o, v, g, rfl, ⟨rfl, rfl⟩, hp0, hp1, kk0, kk1, kk2⟩
def L_X10_correlation : List (Nat × gk_M0) := [(55, (0, 9, 3, 1, S_X10_requireRange)), (112, (1, 9, 2, 1, S_X10_requireMicrophone)), (194, (0, 0, 3, 0, S_X6_productSum))]
def cs_X10_correlation : Nat → Option gk_M0 := gk_lk L_X10_correlation
theorem m_X10_correlation : ∀ (as : List Value) (n : Nat) (fl : gk_F) (x : gk_X) (y : gk_Y) (K : gk_K), S_X10_correlation as n fl x y K → (gk_L0 as).length ≤ 6 ∧ ∀ V : gk_V, gk_W cX10_correlation pX10 cs_X10_correlation (fun _ _ => none) (some .long) 3 none K V → V 0 (gk_en as 6) [] n fl x y 0 := by
  intro as n fl x y K hS
  obtain ⟨m, o, v, g, rfl, ⟨rfl, rfl⟩, hp0, hp1, q0, q1, q2⟩ := hS
  refine ⟨Nat.le_of_ble_eq_true rfl, fun V w => ?_⟩
  show V 0 [some (.ref 0), some (.int m), some (.int o), some (.int v), none, none] [] 202 gk_fT x y 0
  obtain ⟨nv4, ns6, nm8, z6, z7, z8⟩ := wf_n hp1.1
  have f0 := COk.ini hp0
  refine s_aload_n (pc2 := 1) w dX10_correlation_0 rfl rfl ?_
  refine s_iload_n (pc2 := 2) w dX10_correlation_1 rfl rfl ?_
  refine r_X10_requireMicrophone (pc2 := 5) w dX10_correlation_2 rfl rfl rfl (Nat.le_of_ble_eq_true rfl) hp0 hp1.1 (fun h2 a ae ah => ?_) (fun h => q1  (fun hc => h hc.1) _ _ f0)
  subst ae
  obtain ⟨j1a, j2a, j3a⟩ := kd_m (show a < 8 by omega)
  have j1 := j1a
  have j2 := j2a
  have j3 := j3a
  refine m_getR (pc2 := 8) (ci := 1) (k := 0) (j2 := (2 * a + 29)) w dX10_correlation_5 rfl rfl (by first | exact j2a | exact j2b | exact j1a | exact j1b) rfl rfl rfl ?_
  refine s_astore (pc2 := 10) w dX10_correlation_8 rfl rfl ?_
  dsimp only [gk_s1, gk_s2, gk_cl]
  refine s_aload_n (pc2 := 11) w dX10_correlation_10 rfl rfl ?_
  refine s_iload_n (pc2 := 12) w dX10_correlation_11 rfl rfl ?_
  refine r_X10_requireMicrophone (pc2 := 15) w dX10_correlation_12 rfl rfl rfl (Nat.le_of_ble_eq_true rfl) hp0 hp1.1 (fun h12 b be bh => ?_) (fun h => q1  (fun hc => h hc.2) _ _ f0)
  subst be
  obtain ⟨j1b, j2b, j3b⟩ := kd_m (show b < 8 by omega)
  have j1 := j1b
  have j2 := j2b
  have j3 := j3b
  refine m_getR (pc2 := 18) (ci := 1) (k := 0) (j2 := (2 * b + 29)) w dX10_correlation_15 rfl rfl (by first | exact j2a | exact j2b | exact j1a | exact j1b) rfl rfl rfl ?_
  refine s_astore (pc2 := 20) w dX10_correlation_18 rfl rfl ?_
  dsimp only [gk_s1, gk_s2, gk_cl]
  refine s_iload_n (pc2 := 21) w dX10_correlation_20 rfl rfl ?_
  refine s_sipush (pc2 := 24) (v := (-255)) w dX10_correlation_21 rfl rfl ?_
  refine s_sipush (pc2 := 27) (v := 255) w dX10_correlation_24 rfl rfl ?_
  refine r_X10_requireRange (pc2 := 30) w dX10_correlation_27 rfl rfl rfl (Nat.le_of_ble_eq_true rfl) (fun h27 => ?_) (fun h => q2 ⟨h2, h12⟩ (fun hc => h hc) _ _ f0)
  rw [cN_n a (by omega), cN_n b (by omega)] at q0
  refine s_aload (pc2 := 32) w dX10_correlation_30 rfl rfl ?_
  refine s_aload (pc2 := 34) w dX10_correlation_32 rfl rfl ?_
  refine s_iload_n (pc2 := 35) w dX10_correlation_34 rfl rfl ?_
  refine r_X6_productSum (pc2 := 38) w dX10_correlation_35 rfl rfl rfl (by first | exact j2a | exact j2b | exact j1a | exact j1b) (by first | exact j2a | exact j2b | exact j1a | exact j1b) j3a j3b ?_
  rw [cv_cg (r2 := gC g a) (s2 := gC g b) (fun k hk => hp0.2.2.2.2.2.1 a ah k hk) (fun k hk => hp0.2.2.2.2.2.1 b bh k hk) 256 (Nat.le_refl _)]
  refine s_lreturn w dX10_correlation_38 rfl ?_
  exact q0 ⟨h2, h12⟩ h27 _ _ f0
theorem lk_X10_correlation {l : Launch} (hl : l.stackTraces = false) : ∀ q ∈ L_X10_correlation, (q.2.1 < 5 → gk_Lk l RX10 gk_W1 8 q.1 q.2.1 q.2.2.1 q.2.2.2.1 q.2.2.2.2.1 q.2.2.2.2.2) := (List.forall_mem_cons.mpr ⟨(fun _ => ⟨yX10_requireRange, cX10_requireRange, 3, none, 6, _, M_X10_requireRange hl, ⟨by decide, by decide⟩, ⟨by decide, by decide, by decide +kernel⟩, ⟨(gk_wm 733 (by decide +kernel)), (gk_wm 89 (by decide +kernel))⟩, Or.inl ⟨rfl, rfl, (gk_wm 732 (by decide +kernel)), gk_wm 731 (by decide +kernel)⟩⟩), (List.forall_mem_cons.mpr ⟨(fun _ => ⟨yX10_requireMicrophone, cX10_requireMicrophone, 2, (some (.object "TrackArray$Microphone")), 7, _, M_X10_requireMicrophone hl, ⟨by decide, by decide⟩, ⟨by decide, by decide, by decide +kernel⟩, ⟨(gk_wm 902 (by decide +kernel)), (gk_wm 89 (by decide +kernel))⟩, Or.inr (Or.inr (Or.inr (Or.inl ⟨rfl, rfl, (gk_wm 901 (by decide +kernel)), (gk_wm 23 (by decide +kernel)), gk_wm 899 (by decide +kernel), by decide, rfl⟩)))⟩), (List.forall_mem_cons.mpr ⟨(fun _ => ⟨yX6_productSum, cX6_productSum, 6, (some .long), 1, _, M_X6_productSum hl, ⟨by decide, by decide⟩, ⟨by decide, by decide, by decide +kernel⟩, ⟨(gk_wm 1029 (by decide +kernel)), (gk_wm 108 (by decide +kernel))⟩, Or.inl ⟨rfl, rfl, (gk_wm 1028 (by decide +kernel)), gk_wm 1027 (by decide +kernel)⟩⟩), (fun _ h => absurd h List.not_mem_nil)⟩)⟩)⟩)
theorem sp_X10_correlation : ∀ q ∈ L_X10_correlation, gk_Sq RX10 gk_W1 8 q := (List.forall_mem_cons.mpr ⟨⟨fun h => absurd h (by decide), fun h => absurd h (by decide), fun h => absurd h (by decide), fun h => absurd h (by decide), fun h => absurd h (by decide), fun h => absurd h (by decide)⟩, (List.forall_mem_cons.mpr ⟨⟨fun h => absurd h (by decide), fun h => absurd h (by decide), fun h => absurd h (by decide), fun h => absurd h (by decide), fun h => absurd h (by decide), fun h => absurd h (by decide)⟩, (List.forall_mem_cons.mpr ⟨⟨fun h => absurd h (by decide), fun h => absurd h (by decide), fun h => absurd h (by decide), fun h => absurd h (by decide), fun h => absurd h (by decide), fun h => absurd h (by decide)⟩, (fun _ h => absurd h List.not_mem_nil)⟩)⟩)⟩)
theorem M_X10_correlation {l : Launch} (hl : l.stackTraces = false) : gk_Mt l yX10_correlation (.code yX10_correlation cX10_correlation 6 (some .long) :: gk_W1) 8 3 S_X10_correlation := gk_meth hl gk_cw_ok (by decide +kernel) rfl m_X10_correlation pX10_ok (gk_Sp_of sp_X10_correlation) pX10_st (fun ci m S h => absurd h (by intro h; cases h)) (xf_X10 (by decide)) (fun idx kd ci mm cost S2 h h5 => lk_X10_correlation hl _ (gk_lk_mem h) h5)

def S_X10_sampleNumber : gk_S := fun as n fl x y K => ∃ (m : Int32) (t : Int32) (g : Nat → Int32), as = [.ref 0, .int m, .int t] ∧ (n = 202 ∧ fl = gk_fT) ∧ (RS 1 g x y) ∧ (gOK g) ∧ ((0 ≤ m ∧ m < g 8) → (0 ≤ t ∧ t ≤ 255) → ∀ (x2 : gk_X) (y2 : gk_Y), COk g x x2 y y2 → K (.inl (some (.int (gk_sn g (cN m) (cN t))))) n fl x2 y2) ∧ (¬ (0 ≤ m ∧ m < g 8) → ∀ (x2 : gk_X) (y2 : gk_Y), COk g x x2 y y2 → K (.inr 2) n fl x2 y2) ∧ ((0 ≤ m ∧ m < g 8) → ¬ (0 ≤ t ∧ t ≤ 255) → ∀ (x2 : gk_X) (y2 : gk_Y), COk g x x2 y y2 → K (.inr 0) n fl x2 y2)
theorem r_X10_sampleNumber (w : gk_W c P cs (fun _ _ => none) rt uf sc K V) {idx : Nat} {m : Int32} {t : Int32} {g : Nat → Int32} (hd : decode c pc = .ok (.invokevirtual idx, 3)) (hp : pc + 3 = pc2) (hc : cs idx = some (1, 9, 3, 2, S_X10_sampleNumber)) (h8 : Nat.ble (r.map Value.category).sum 8 = true) (hu : u + 2 ≤ uf) (hp0 : RS 1 g x y) (hp1 : gOK g) (kk0 : (0 ≤ m ∧ m < g 8) → (0 ≤ t ∧ t ≤ 255) → ∀ (x2 : gk_X) (y2 : gk_Y), COk g x x2 y y2 → V pc2 L ((.int (gk_sn g (cN m) (cN t))) :: r) 202 gk_fT x2 y2 (u + 2)) (kk1 : ¬ (0 ≤ m ∧ m < g 8) → ∀ (x2 : gk_X) (y2 : gk_Y), COk g x x2 y y2 → K (.inr 2) 202 gk_fT x2 y2) (kk2 : (0 ≤ m ∧ m < g 8) → ¬ (0 ≤ t ∧ t ≤ 255) → ∀ (x2 : gk_X) (y2 : gk_Y), COk g x x2 y y2 → K (.inr 0) 202 gk_fT x2 y2) : V pc L (.int t :: .int m :: .ref 0 :: r) 202 gk_fT x y u :=
  g_callv w hd hp hc (as := [.ref 0, .int m, .int t]) rfl h8 rfl rfl rfl (Or.inr (Or.inl ⟨Or.inl rfl, _, _, rfl, (gk_kd_j rfl rfl), rfl⟩)) (Or.inr hu) ⟨m, t, g, rfl, ⟨rfl, rfl⟩, hp0, hp1, kk0, kk1, kk2⟩
def L_X10_sampleNumber : List (Nat × gk_M0) := [(112, (1, 9, 2, 1, S_X10_requireMicrophone)), (137, (0, 9, 1, 1, S_X10_requireTime)), (226, (1, 0, 4, 0, S_X0_sampleNumberAt))]
def cs_X10_sampleNumber : Nat → Option gk_M0 := gk_lk L_X10_sampleNumber
theorem m_X10_sampleNumber : ∀ (as : List Value) (n : Nat) (fl : gk_F) (x : gk_X) (y : gk_Y) (K : gk_K), S_X10_sampleNumber as n fl x y K → (gk_L0 as).length ≤ 4 ∧ ∀ V : gk_V, gk_W cX10_sampleNumber pX10 cs_X10_sampleNumber (fun _ _ => none) (some .int) 2 none K V → V 0 (gk_en as 4) [] n fl x y 0 := by
  intro as n fl x y K hS
  obtain ⟨m, t, g, rfl, ⟨rfl, rfl⟩, hp0, hp1, q0, q1, q2⟩ := hS
  refine ⟨Nat.le_of_ble_eq_true rfl, fun V w => ?_⟩
  show V 0 [some (.ref 0), some (.int m), some (.int t), none] [] 202 gk_fT x y 0
  obtain ⟨nv4, ns6, nm8, z6, z7, z8⟩ := wf_n hp1.1
  have f0 := COk.ini hp0
  refine s_aload_n (pc2 := 1) w dX10_sampleNumber_0 rfl rfl ?_
  refine s_iload_n (pc2 := 2) w dX10_sampleNumber_1 rfl rfl ?_
  refine r_X10_requireMicrophone (pc2 := 5) w dX10_sampleNumber_2 rfl rfl rfl (Nat.le_of_ble_eq_true rfl) hp0 hp1.1 (fun h2 a ae ah => ?_) (fun h => q1  (fun hc => h hc) _ _ f0)
  subst ae
  obtain ⟨j1a, j2a, j3a⟩ := kd_m (show a < 8 by omega)
  have j1 := j1a
  have j2 := j2a
  have j3 := j3a
  refine s_astore_n (pc2 := 6) (k2 := 3) w dX10_sampleNumber_5 rfl rfl rfl ?_
  dsimp only [gk_s1, gk_s2, gk_cl]
  refine s_iload_n (pc2 := 7) w dX10_sampleNumber_6 rfl rfl ?_
  refine r_X10_requireTime (pc2 := 10) w dX10_sampleNumber_7 rfl rfl rfl (Nat.le_of_ble_eq_true rfl) (fun h7 => ?_) (fun h => q2 h2 (fun hc => h hc) _ _ f0)
  obtain ⟨k, rfl, kh⟩ := ix_t h7
  rw [cN_n a (by omega), cN_n k (by omega)] at q0
  refine s_aload_n (pc2 := 11) w dX10_sampleNumber_10 rfl rfl ?_
  refine m_getR (pc2 := 14) (ci := 9) (k := 5) (j2 := 90) w dX10_sampleNumber_11 rfl rfl rfl rfl rfl rfl ?_
  refine s_aload_n (pc2 := 15) w dX10_sampleNumber_14 rfl rfl ?_
  refine m_getR (pc2 := 18) (ci := 9) (k := 0) (j2 := 1) w dX10_sampleNumber_15 rfl rfl rfl rfl rfl rfl ?_
  refine s_aload_n (pc2 := 19) w dX10_sampleNumber_18 rfl rfl ?_
  refine s_iload_n (pc2 := 20) w dX10_sampleNumber_19 rfl rfl ?_
  refine r_X0_sampleNumberAt (pc2 := 23) w dX10_sampleNumber_20 rfl rfl rfl (by first | exact j2 | exact j1) hp0 hp1.1 rfl ah rfl kh (fun y1 hy1 => ?_)
  refine s_ireturn w dX10_sampleNumber_23 rfl rfl ?_
  exact q0 h2 h7 _ _ (f0.cy hp1.1 (fun i k h => hy1 i k (by omega) (by omega)))
theorem lk_X10_sampleNumber {l : Launch} (hl : l.stackTraces = false) : ∀ q ∈ L_X10_sampleNumber, (q.2.1 < 5 → gk_Lk l RX10 gk_W1 8 q.1 q.2.1 q.2.2.1 q.2.2.2.1 q.2.2.2.2.1 q.2.2.2.2.2) := (List.forall_mem_cons.mpr ⟨(fun _ => ⟨yX10_requireMicrophone, cX10_requireMicrophone, 2, (some (.object "TrackArray$Microphone")), 7, _, M_X10_requireMicrophone hl, ⟨by decide, by decide⟩, ⟨by decide, by decide, by decide +kernel⟩, ⟨(gk_wm 902 (by decide +kernel)), (gk_wm 89 (by decide +kernel))⟩, Or.inr (Or.inr (Or.inr (Or.inl ⟨rfl, rfl, (gk_wm 901 (by decide +kernel)), (gk_wm 23 (by decide +kernel)), gk_wm 899 (by decide +kernel), by decide, rfl⟩)))⟩), (List.forall_mem_cons.mpr ⟨(fun _ => ⟨yX10_requireTime, cX10_requireTime, 1, none, 7, _, M_X10_requireTime hl, ⟨by decide, by decide⟩, ⟨by decide, by decide, by decide +kernel⟩, ⟨(gk_wm 920 (by decide +kernel)), (gk_wm 89 (by decide +kernel))⟩, Or.inl ⟨rfl, rfl, (gk_wm 919 (by decide +kernel)), gk_wm 918 (by decide +kernel)⟩⟩), (List.forall_mem_cons.mpr ⟨(fun _ => ⟨yX0_sampleNumberAt, cX0_sampleNumberAt, 4, (some .int), 3, _, M_X0_sampleNumberAt hl, ⟨by decide, by decide⟩, ⟨by decide, by decide, by decide +kernel⟩, ⟨(gk_wm 1075 (by decide +kernel)), (gk_wm 95 (by decide +kernel))⟩, Or.inr (Or.inr (Or.inr (Or.inl ⟨rfl, rfl, (gk_wm 1073 (by decide +kernel)), (gk_wm 1074 (by decide +kernel)), gk_wm 1072 (by decide +kernel), by decide, rfl⟩)))⟩), (fun _ h => absurd h List.not_mem_nil)⟩)⟩)⟩)
theorem sp_X10_sampleNumber : ∀ q ∈ L_X10_sampleNumber, gk_Sq RX10 gk_W1 8 q := (List.forall_mem_cons.mpr ⟨⟨fun h => absurd h (by decide), fun h => absurd h (by decide), fun h => absurd h (by decide), fun h => absurd h (by decide), fun h => absurd h (by decide), fun h => absurd h (by decide)⟩, (List.forall_mem_cons.mpr ⟨⟨fun h => absurd h (by decide), fun h => absurd h (by decide), fun h => absurd h (by decide), fun h => absurd h (by decide), fun h => absurd h (by decide), fun h => absurd h (by decide)⟩, (List.forall_mem_cons.mpr ⟨⟨fun h => absurd h (by decide), fun h => absurd h (by decide), fun h => absurd h (by decide), fun h => absurd h (by decide), fun h => absurd h (by decide), fun h => absurd h (by decide)⟩, (fun _ h => absurd h List.not_mem_nil)⟩)⟩)⟩)
theorem M_X10_sampleNumber {l : Launch} (hl : l.stackTraces = false) : gk_Mt l yX10_sampleNumber (.code yX10_sampleNumber cX10_sampleNumber 4 (some .int) :: gk_W1) 8 2 S_X10_sampleNumber := gk_meth hl gk_cw_ok (by decide +kernel) rfl m_X10_sampleNumber pX10_ok (gk_Sp_of sp_X10_sampleNumber) pX10_st (fun ci m S h => absurd h (by intro h; cases h)) (xf_X10 (by decide)) (fun idx kd ci mm cost S2 h h5 => lk_X10_sampleNumber hl _ (gk_lk_mem h) h5)

def S_X10_part : gk_S := fun as n fl x y K => ∃ (m : Int32) (t : Int32) (g : Nat → Int32), as = [.ref 0, .int m, .int t] ∧ (n = 202 ∧ fl = gk_fT) ∧ (RS 1 g x y) ∧ (gOK g) ∧ ((0 ≤ m ∧ m < g 8) → (0 ≤ t ∧ t ≤ 255) → ∀ (x2 : gk_X) (y2 : gk_Y), COk g x x2 y y2 → K (.inl (some (.int (gk_pp g (cN m) 0 (cN t))))) n fl x2 y2) ∧ (¬ (0 ≤ m ∧ m < g 8) → ∀ (x2 : gk_X) (y2 : gk_Y), COk g x x2 y y2 → K (.inr 2) n fl x2 y2) ∧ ((0 ≤ m ∧ m < g 8) → ¬ (0 ≤ t ∧ t ≤ 255) → ∀ (x2 : gk_X) (y2 : gk_Y), COk g x x2 y y2 → K (.inr 0) n fl x2 y2)
theorem r_X10_part (w : gk_W c P cs (fun _ _ => none) rt uf sc K V) {idx : Nat} {m : Int32} {t : Int32} {g : Nat → Int32} (hd : decode c pc = .ok (.invokevirtual idx, 3)) (hp : pc + 3 = pc2) (hc : cs idx = some (1, 9, 3, 2, S_X10_part)) (h8 : Nat.ble (r.map Value.category).sum 8 = true) (hu : u + 2 ≤ uf) (hp0 : RS 1 g x y) (hp1 : gOK g) (kk0 : (0 ≤ m ∧ m < g 8) → (0 ≤ t ∧ t ≤ 255) → ∀ (x2 : gk_X) (y2 : gk_Y), COk g x x2 y y2 → V pc2 L ((.int (gk_pp g (cN m) 0 (cN t))) :: r) 202 gk_fT x2 y2 (u + 2)) (kk1 : ¬ (0 ≤ m ∧ m < g 8) → ∀ (x2 : gk_X) (y2 : gk_Y), COk g x x2 y y2 → K (.inr 2) 202 gk_fT x2 y2) (kk2 : (0 ≤ m ∧ m < g 8) → ¬ (0 ≤ t ∧ t ≤ 255) → ∀ (x2 : gk_X) (y2 : gk_Y), COk g x x2 y y2 → K (.inr 0) 202 gk_fT x2 y2) : V pc L (.int t :: .int m :: .ref 0 :: r) 202 gk_fT x y u :=
  g_callv w hd hp hc (as := [.ref 0, .int m, .int t]) rfl h8 rfl rfl rfl (Or.inr (Or.inl ⟨Or.inl rfl, _, _, rfl, (gk_kd_j rfl rfl), rfl⟩)) (Or.inr hu) ⟨m, t, g, rfl, ⟨rfl, rfl⟩, hp0, hp1, kk0, kk1, kk2⟩
def L_X10_part : List (Nat × gk_M0) := [(112, (1, 9, 2, 1, S_X10_requireMicrophone)), (137, (0, 9, 1, 1, S_X10_requireTime)), (230, (1, 0, 4, 0, S_X0_partAt))]
def cs_X10_part : Nat → Option gk_M0 := gk_lk L_X10_part
theorem m_X10_part : ∀ (as : List Value) (n : Nat) (fl : gk_F) (x : gk_X) (y : gk_Y) (K : gk_K), S_X10_part as n fl x y K → (gk_L0 as).length ≤ 4 ∧ ∀ V : gk_V, gk_W cX10_part pX10 cs_X10_part (fun _ _ => none) (some .int) 2 none K V → V 0 (gk_en as 4) [] n fl x y 0 := by
  intro as n fl x y K hS
  obtain ⟨m, t, g, rfl, ⟨rfl, rfl⟩, hp0, hp1, q0, q1, q2⟩ := hS
  refine ⟨Nat.le_of_ble_eq_true rfl, fun V w => ?_⟩
  show V 0 [some (.ref 0), some (.int m), some (.int t), none] [] 202 gk_fT x y 0
  obtain ⟨nv4, ns6, nm8, z6, z7, z8⟩ := wf_n hp1.1
  have f0 := COk.ini hp0
  refine s_aload_n (pc2 := 1) w dX10_part_0 rfl rfl ?_
  refine s_iload_n (pc2 := 2) w dX10_part_1 rfl rfl ?_
  refine r_X10_requireMicrophone (pc2 := 5) w dX10_part_2 rfl rfl rfl (Nat.le_of_ble_eq_true rfl) hp0 hp1.1 (fun h2 a ae ah => ?_) (fun h => q1  (fun hc => h hc) _ _ f0)
  subst ae
  obtain ⟨j1a, j2a, j3a⟩ := kd_m (show a < 8 by omega)
  have j1 := j1a
  have j2 := j2a
  have j3 := j3a
  refine s_astore_n (pc2 := 6) (k2 := 3) w dX10_part_5 rfl rfl rfl ?_
  dsimp only [gk_s1, gk_s2, gk_cl]
  refine s_iload_n (pc2 := 7) w dX10_part_6 rfl rfl ?_
  refine r_X10_requireTime (pc2 := 10) w dX10_part_7 rfl rfl rfl (Nat.le_of_ble_eq_true rfl) (fun h7 => ?_) (fun h => q2 h2 (fun hc => h hc) _ _ f0)
  obtain ⟨k, rfl, kh⟩ := ix_t h7
  rw [cN_n a (by omega), cN_n k (by omega)] at q0
  refine s_aload_n (pc2 := 11) w dX10_part_10 rfl rfl ?_
  refine m_getR (pc2 := 14) (ci := 9) (k := 5) (j2 := 90) w dX10_part_11 rfl rfl rfl rfl rfl rfl ?_
  refine s_aload_n (pc2 := 15) w dX10_part_14 rfl rfl ?_
  refine m_getR (pc2 := 18) (ci := 9) (k := 0) (j2 := 1) w dX10_part_15 rfl rfl rfl rfl rfl rfl ?_
  refine s_aload_n (pc2 := 19) w dX10_part_18 rfl rfl ?_
  refine s_iload_n (pc2 := 20) w dX10_part_19 rfl rfl ?_
  refine r_X0_partAt (pc2 := 23) w dX10_part_20 rfl rfl rfl (by first | exact j2 | exact j1) hp0 hp1.1 hp1.2.1 rfl ah rfl kh (fun x1 y1 hx1 hy1 => ?_)
  refine s_ireturn w dX10_part_23 rfl rfl ?_
  exact q0 h2 h7 _ _ ((f0.cx hp1.1 (fun i k h => hx1 i k (by omega))).cy hp1.1 (fun i k h => hy1 i k (by omega) (by omega)))
theorem lk_X10_part {l : Launch} (hl : l.stackTraces = false) : ∀ q ∈ L_X10_part, (q.2.1 < 5 → gk_Lk l RX10 gk_W1 8 q.1 q.2.1 q.2.2.1 q.2.2.2.1 q.2.2.2.2.1 q.2.2.2.2.2) := (List.forall_mem_cons.mpr ⟨(fun _ => ⟨yX10_requireMicrophone, cX10_requireMicrophone, 2, (some (.object "TrackArray$Microphone")), 7, _, M_X10_requireMicrophone hl, ⟨by decide, by decide⟩, ⟨by decide, by decide, by decide +kernel⟩, ⟨(gk_wm 902 (by decide +kernel)), (gk_wm 89 (by decide +kernel))⟩, Or.inr (Or.inr (Or.inr (Or.inl ⟨rfl, rfl, (gk_wm 901 (by decide +kernel)), (gk_wm 23 (by decide +kernel)), gk_wm 899 (by decide +kernel), by decide, rfl⟩)))⟩), (List.forall_mem_cons.mpr ⟨(fun _ => ⟨yX10_requireTime, cX10_requireTime, 1, none, 7, _, M_X10_requireTime hl, ⟨by decide, by decide⟩, ⟨by decide, by decide, by decide +kernel⟩, ⟨(gk_wm 920 (by decide +kernel)), (gk_wm 89 (by decide +kernel))⟩, Or.inl ⟨rfl, rfl, (gk_wm 919 (by decide +kernel)), gk_wm 918 (by decide +kernel)⟩⟩), (List.forall_mem_cons.mpr ⟨(fun _ => ⟨yX0_partAt, cX0_partAt, 4, (some .int), 5, _, M_X0_partAt hl, ⟨by decide, by decide⟩, ⟨by decide, by decide, by decide +kernel⟩, ⟨(gk_wm 1098 (by decide +kernel)), (gk_wm 95 (by decide +kernel))⟩, Or.inr (Or.inr (Or.inr (Or.inl ⟨rfl, rfl, (gk_wm 1096 (by decide +kernel)), (gk_wm 1097 (by decide +kernel)), gk_wm 1095 (by decide +kernel), by decide, rfl⟩)))⟩), (fun _ h => absurd h List.not_mem_nil)⟩)⟩)⟩)
theorem sp_X10_part : ∀ q ∈ L_X10_part, gk_Sq RX10 gk_W1 8 q := (List.forall_mem_cons.mpr ⟨⟨fun h => absurd h (by decide), fun h => absurd h (by decide), fun h => absurd h (by decide), fun h => absurd h (by decide), fun h => absurd h (by decide), fun h => absurd h (by decide)⟩, (List.forall_mem_cons.mpr ⟨⟨fun h => absurd h (by decide), fun h => absurd h (by decide), fun h => absurd h (by decide), fun h => absurd h (by decide), fun h => absurd h (by decide), fun h => absurd h (by decide)⟩, (List.forall_mem_cons.mpr ⟨⟨fun h => absurd h (by decide), fun h => absurd h (by decide), fun h => absurd h (by decide), fun h => absurd h (by decide), fun h => absurd h (by decide), fun h => absurd h (by decide)⟩, (fun _ h => absurd h List.not_mem_nil)⟩)⟩)⟩)
theorem M_X10_part {l : Launch} (hl : l.stackTraces = false) : gk_Mt l yX10_part (.code yX10_part cX10_part 4 (some .int) :: gk_W1) 8 2 S_X10_part := gk_meth hl gk_cw_ok (by decide +kernel) rfl m_X10_part pX10_ok (gk_Sp_of sp_X10_part) pX10_st (fun ci m S h => absurd h (by intro h; cases h)) (xf_X10 (by decide)) (fun idx kd ci mm cost S2 h h5 => lk_X10_part hl _ (gk_lk_mem h) h5)

def S_X10_beam : gk_S := fun as n fl x y K => ∃ (t : Int32) (g : Nat → Int32), as = [.ref 0, .int t] ∧ (n = 202 ∧ fl = gk_fT) ∧ (RS 1 g x y) ∧ (gOK g) ∧ ((0 ≤ t ∧ t ≤ 255) → ∀ (x2 : gk_X) (y2 : gk_Y), COk g x x2 y y2 → K (.inl (some (.int (gB g 0 (cN t))))) n fl x2 y2) ∧ (¬ (0 ≤ t ∧ t ≤ 255) → ∀ (x2 : gk_X) (y2 : gk_Y), COk g x x2 y y2 → K (.inr 0) n fl x2 y2)
theorem r_X10_beam (w : gk_W c P cs (fun _ _ => none) rt uf sc K V) {idx : Nat} {t : Int32} {g : Nat → Int32} (hd : decode c pc = .ok (.invokevirtual idx, 3)) (hp : pc + 3 = pc2) (hc : cs idx = some (1, 9, 2, 1, S_X10_beam)) (h8 : Nat.ble (r.map Value.category).sum 8 = true) (hu : u + 1 ≤ uf) (hp0 : RS 1 g x y) (hp1 : gOK g) (kk0 : (0 ≤ t ∧ t ≤ 255) → ∀ (x2 : gk_X) (y2 : gk_Y), COk g x x2 y y2 → V pc2 L ((.int (gB g 0 (cN t))) :: r) 202 gk_fT x2 y2 (u + 1)) (kk1 : ¬ (0 ≤ t ∧ t ≤ 255) → ∀ (x2 : gk_X) (y2 : gk_Y), COk g x x2 y y2 → K (.inr 0) 202 gk_fT x2 y2) : V pc L (.int t :: .ref 0 :: r) 202 gk_fT x y u :=
  g_callv w hd hp hc (as := [.ref 0, .int t]) rfl h8 rfl rfl rfl (Or.inr (Or.inl ⟨Or.inl rfl, _, _, rfl, (gk_kd_j rfl rfl), rfl⟩)) (Or.inr hu) ⟨t, g, rfl, ⟨rfl, rfl⟩, hp0, hp1, kk0, kk1⟩
def L_X10_beam : List (Nat × gk_M0) := [(137, (0, 9, 1, 1, S_X10_requireTime)), (233, (1, 0, 5, 0, S_X0_formBeam))]
def cs_X10_beam : Nat → Option gk_M0 := gk_lk L_X10_beam
theorem m_X10_beam : ∀ (as : List Value) (n : Nat) (fl : gk_F) (x : gk_X) (y : gk_Y) (K : gk_K), S_X10_beam as n fl x y K → (gk_L0 as).length ≤ 2 ∧ ∀ V : gk_V, gk_W cX10_beam pX10 cs_X10_beam (fun _ _ => none) (some .int) 1 none K V → V 0 (gk_en as 2) [] n fl x y 0 := by
  intro as n fl x y K hS
  obtain ⟨t, g, rfl, ⟨rfl, rfl⟩, hp0, hp1, q0, q1⟩ := hS
  refine ⟨Nat.le_of_ble_eq_true rfl, fun V w => ?_⟩
  show V 0 [some (.ref 0), some (.int t)] [] 202 gk_fT x y 0
  obtain ⟨nv4, ns6, nm8, z6, z7, z8⟩ := wf_n hp1.1
  have f0 := COk.ini hp0
  refine s_iload_n (pc2 := 1) w dX10_beam_0 rfl rfl ?_
  refine r_X10_requireTime (pc2 := 4) w dX10_beam_1 rfl rfl rfl (Nat.le_of_ble_eq_true rfl) (fun h1 => ?_) (fun h => q1  (fun hc => h hc) _ _ f0)
  obtain ⟨k, rfl, kh⟩ := ix_t h1
  rw [cN_n k (by omega)] at q0
  refine s_aload_n (pc2 := 5) w dX10_beam_4 rfl rfl ?_
  refine m_getR (pc2 := 8) (ci := 9) (k := 5) (j2 := 90) w dX10_beam_5 rfl rfl rfl rfl rfl rfl ?_
  refine s_aload_n (pc2 := 9) w dX10_beam_8 rfl rfl ?_
  refine m_getR (pc2 := 12) (ci := 9) (k := 0) (j2 := 1) w dX10_beam_9 rfl rfl rfl rfl rfl rfl ?_
  refine s_iconst (pc2 := 13) (v := 0) w dX10_beam_12 rfl rfl ?_
  refine s_iload_n (pc2 := 14) w dX10_beam_13 rfl rfl ?_
  refine s_iload_n (pc2 := 15) w dX10_beam_14 rfl rfl ?_
  refine r_X0_formBeam (pc2 := 18) (B := 0) w dX10_beam_15 rfl rfl rfl hp0 hp1.1 hp1.2.1 rfl (by omega) rfl rfl (Nat.le_refl k) kh (fun x1 y1 hx1 hy1 => ?_)
  have f1 := fb_ok hp1.1 f0 hx1 hy1
  have hr : ∀ i, k ≤ i → i ≤ k → x1 91 i = gB g 0 i := fun i h1 h2 => (hx1 91 i (by decide)).trans ((gk_ur_in (by omega)).trans (if_pos ⟨h1, h2⟩))
  refine s_iload_n (pc2 := 19) w dX10_beam_18 rfl rfl ?_
  refine m_ialoadN (pc2 := 20) (t := k) (N := 256) w dX10_beam_19 rfl rfl rfl rfl kh rfl ?_
  rw [hr k (Nat.le_refl _) (Nat.le_refl _)]
  refine s_ireturn w dX10_beam_20 rfl rfl ?_
  exact q0 h1 _ _ f1
theorem lk_X10_beam {l : Launch} (hl : l.stackTraces = false) : ∀ q ∈ L_X10_beam, (q.2.1 < 5 → gk_Lk l RX10 gk_W1 8 q.1 q.2.1 q.2.2.1 q.2.2.2.1 q.2.2.2.2.1 q.2.2.2.2.2) := (List.forall_mem_cons.mpr ⟨(fun _ => ⟨yX10_requireTime, cX10_requireTime, 1, none, 7, _, M_X10_requireTime hl, ⟨by decide, by decide⟩, ⟨by decide, by decide, by decide +kernel⟩, ⟨(gk_wm 920 (by decide +kernel)), (gk_wm 89 (by decide +kernel))⟩, Or.inl ⟨rfl, rfl, (gk_wm 919 (by decide +kernel)), gk_wm 918 (by decide +kernel)⟩⟩), (List.forall_mem_cons.mpr ⟨(fun _ => ⟨yX0_formBeam, cX0_formBeam, 7, (some (.array .int)), 5, _, M_X0_formBeam hl, ⟨by decide, by decide⟩, ⟨by decide, by decide, by decide +kernel⟩, ⟨(gk_wm 1130 (by decide +kernel)), (gk_wm 95 (by decide +kernel))⟩, Or.inr (Or.inr (Or.inr (Or.inl ⟨rfl, rfl, (gk_wm 1128 (by decide +kernel)), (gk_wm 1129 (by decide +kernel)), gk_wm 1127 (by decide +kernel), by decide, rfl⟩)))⟩), (fun _ h => absurd h List.not_mem_nil)⟩)⟩)
theorem sp_X10_beam : ∀ q ∈ L_X10_beam, gk_Sq RX10 gk_W1 8 q := (List.forall_mem_cons.mpr ⟨⟨fun h => absurd h (by decide), fun h => absurd h (by decide), fun h => absurd h (by decide), fun h => absurd h (by decide), fun h => absurd h (by decide), fun h => absurd h (by decide)⟩, (List.forall_mem_cons.mpr ⟨⟨fun h => absurd h (by decide), fun h => absurd h (by decide), fun h => absurd h (by decide), fun h => absurd h (by decide), fun h => absurd h (by decide), fun h => absurd h (by decide)⟩, (fun _ h => absurd h List.not_mem_nil)⟩)⟩)
theorem M_X10_beam {l : Launch} (hl : l.stackTraces = false) : gk_Mt l yX10_beam (.code yX10_beam cX10_beam 2 (some .int) :: gk_W1) 8 1 S_X10_beam := gk_meth hl gk_cw_ok (by decide +kernel) rfl m_X10_beam pX10_ok (gk_Sp_of sp_X10_beam) pX10_st (fun ci m S h => absurd h (by intro h; cases h)) (xf_X10 (by decide)) (fun idx kd ci mm cost S2 h h5 => lk_X10_beam hl _ (gk_lk_mem h) h5)

def S_X10_measureBeam : gk_S := fun as n fl x y K => ∃ (z : Int32) (f : Int32) (l : Int32) (g : Nat → Int32), as = [.ref 0, .int z, .int f, .int l] ∧ (n = 202 ∧ fl = gk_fT) ∧ (RS 1 g x y) ∧ (gOK g) ∧ (((0 ≤ z ∧ z ≤ 4) ∧ (0 ≤ f ∧ f ≤ l ∧ l ≤ 255)) → ∀ (x2 : gk_X) (y2 : gk_Y), COk g x x2 y y2 → K (.inl (some (.long (gk_ms (gB g 0) (cN z) (cN f) (cN l))))) n fl x2 y2) ∧ (¬ ((0 ≤ z ∧ z ≤ 4) ∧ (0 ≤ f ∧ f ≤ l ∧ l ≤ 255)) → ∀ (x2 : gk_X) (y2 : gk_Y), COk g x x2 y y2 → K (.inr 0) n fl x2 y2)
theorem r_X10_measureBeam (w : gk_W c P cs (fun _ _ => none) rt uf sc K V) {idx : Nat} {z : Int32} {f : Int32} {l : Int32} {g : Nat → Int32} (hd : decode c pc = .ok (.invokevirtual idx, 3)) (hp : pc + 3 = pc2) (hc : cs idx = some (1, 9, 4, 3, S_X10_measureBeam)) (h8 : Nat.ble (r.map Value.category).sum 8 = true) (hu : u + 3 ≤ uf) (hp0 : RS 1 g x y) (hp1 : gOK g) (kk0 : ((0 ≤ z ∧ z ≤ 4) ∧ (0 ≤ f ∧ f ≤ l ∧ l ≤ 255)) → ∀ (x2 : gk_X) (y2 : gk_Y), COk g x x2 y y2 → V pc2 L ((.long (gk_ms (gB g 0) (cN z) (cN f) (cN l))) :: r) 202 gk_fT x2 y2 (u + 3)) (kk1 : ¬ ((0 ≤ z ∧ z ≤ 4) ∧ (0 ≤ f ∧ f ≤ l ∧ l ≤ 255)) → ∀ (x2 : gk_X) (y2 : gk_Y), COk g x x2 y y2 → K (.inr 0) 202 gk_fT x2 y2) : V pc L (.int l :: .int f :: .int z :: .ref 0 :: r) 202 gk_fT x y u :=
  g_callv w hd hp hc (as := [.ref 0, .int z, .int f, .int l]) rfl h8 rfl rfl rfl (Or.inr (Or.inl ⟨Or.inl rfl, _, _, rfl, (gk_kd_j rfl rfl), rfl⟩)) (Or.inr hu) ⟨z, f, l, g, rfl, ⟨rfl, rfl⟩, hp0, hp1, kk0, kk1⟩
def L_X10_measureBeam : List (Nat × gk_M0) := [(55, (0, 9, 3, 1, S_X10_requireRange)), (175, (0, 9, 2, 2, S_X10_requireWindow)), (178, (0, 0, 4, 0, S_X6_measured)), (233, (1, 0, 5, 0, S_X0_formBeam))]
def cs_X10_measureBeam : Nat → Option gk_M0 := gk_lk L_X10_measureBeam
theorem m_X10_measureBeam : ∀ (as : List Value) (n : Nat) (fl : gk_F) (x : gk_X) (y : gk_Y) (K : gk_K), S_X10_measureBeam as n fl x y K → (gk_L0 as).length ≤ 4 ∧ ∀ V : gk_V, gk_W cX10_measureBeam pX10 cs_X10_measureBeam (fun _ _ => none) (some .long) 3 none K V → V 0 (gk_en as 4) [] n fl x y 0 := by
  intro as n fl x y K hS
  obtain ⟨z, f, l, g, rfl, ⟨rfl, rfl⟩, hp0, hp1, q0, q1⟩ := hS
  refine ⟨Nat.le_of_ble_eq_true rfl, fun V w => ?_⟩
  show V 0 [some (.ref 0), some (.int z), some (.int f), some (.int l)] [] 202 gk_fT x y 0
  obtain ⟨nv4, ns6, nm8, z6, z7, z8⟩ := wf_n hp1.1
  have f0 := COk.ini hp0
  refine s_iload_n (pc2 := 1) w dX10_measureBeam_0 rfl rfl ?_
  refine s_iconst (pc2 := 2) (v := 0) w dX10_measureBeam_1 rfl rfl ?_
  refine s_iconst (pc2 := 3) (v := 4) w dX10_measureBeam_2 rfl rfl ?_
  refine r_X10_requireRange (pc2 := 6) w dX10_measureBeam_3 rfl rfl rfl (Nat.le_of_ble_eq_true rfl) (fun h3 => ?_) (fun h => q1  (fun hc => h hc.1) _ _ f0)
  refine s_iload_n (pc2 := 7) w dX10_measureBeam_6 rfl rfl ?_
  refine s_iload_n (pc2 := 8) w dX10_measureBeam_7 rfl rfl ?_
  refine r_X10_requireWindow (pc2 := 11) w dX10_measureBeam_8 rfl rfl rfl (Nat.le_of_ble_eq_true rfl) (fun h8 => ?_) (fun h => q1  (fun hc => h hc.2) _ _ f0)
  obtain ⟨k, rfl, kh⟩ := ix_b (b := 4) (by decide) h3
  obtain ⟨b, e, rfl, rfl, be, eh⟩ := ix_w h8
  rw [cN_n k (by omega), cN_n b (by omega), cN_n e (by omega)] at q0
  refine s_aload_n (pc2 := 12) w dX10_measureBeam_11 rfl rfl ?_
  refine m_getR (pc2 := 15) (ci := 9) (k := 5) (j2 := 90) w dX10_measureBeam_12 rfl rfl rfl rfl rfl rfl ?_
  refine s_aload_n (pc2 := 16) w dX10_measureBeam_15 rfl rfl ?_
  refine m_getR (pc2 := 19) (ci := 9) (k := 0) (j2 := 1) w dX10_measureBeam_16 rfl rfl rfl rfl rfl rfl ?_
  refine s_iconst (pc2 := 20) (v := 0) w dX10_measureBeam_19 rfl rfl ?_
  refine s_iload_n (pc2 := 21) w dX10_measureBeam_20 rfl rfl ?_
  refine s_iload_n (pc2 := 22) w dX10_measureBeam_21 rfl rfl ?_
  refine r_X0_formBeam (pc2 := 25) (B := 0) w dX10_measureBeam_22 rfl rfl rfl hp0 hp1.1 hp1.2.1 rfl (by omega) rfl rfl be eh (fun x1 y1 hx1 hy1 => ?_)
  have f1 := fb_ok hp1.1 f0 hx1 hy1
  have hr : ∀ i, b ≤ i → i ≤ e → x1 91 i = gB g 0 i := fun i h1 h2 => (hx1 91 i (by decide)).trans ((gk_ur_in (by omega)).trans (if_pos ⟨h1, h2⟩))
  refine s_iload_n (pc2 := 26) w dX10_measureBeam_25 rfl rfl ?_
  refine s_iload_n (pc2 := 27) w dX10_measureBeam_26 rfl rfl ?_
  refine s_iload_n (pc2 := 28) w dX10_measureBeam_27 rfl rfl ?_
  refine r_X6_measured (pc2 := 31) w dX10_measureBeam_28 rfl rfl rfl rfl rfl rfl kh rfl rfl be eh (win_bd hr (fun k hk => gB_b hp1.1 hp1.2.1 (by omega) hk) eh) ?_
  rw [ms_cg be hr]
  refine s_lreturn w dX10_measureBeam_31 rfl ?_
  exact q0 ⟨h3, h8⟩ _ _ f1
theorem lk_X10_measureBeam {l : Launch} (hl : l.stackTraces = false) : ∀ q ∈ L_X10_measureBeam, (q.2.1 < 5 → gk_Lk l RX10 gk_W1 9 q.1 q.2.1 q.2.2.1 q.2.2.2.1 q.2.2.2.2.1 q.2.2.2.2.2) := (List.forall_mem_cons.mpr ⟨(fun _ => ⟨yX10_requireRange, cX10_requireRange, 3, none, 6, _, M_X10_requireRange hl, ⟨by decide, by decide⟩, ⟨by decide, by decide, by decide +kernel⟩, ⟨(gk_wm 733 (by decide +kernel)), (gk_wm 89 (by decide +kernel))⟩, Or.inl ⟨rfl, rfl, (gk_wm 732 (by decide +kernel)), gk_wm 731 (by decide +kernel)⟩⟩), (List.forall_mem_cons.mpr ⟨(fun _ => ⟨yX10_requireWindow, cX10_requireWindow, 2, none, 8, _, M_X10_requireWindow hl, ⟨by decide, by decide⟩, ⟨by decide, by decide, by decide +kernel⟩, ⟨(gk_wm 978 (by decide +kernel)), (gk_wm 89 (by decide +kernel))⟩, Or.inl ⟨rfl, rfl, (gk_wm 977 (by decide +kernel)), gk_wm 976 (by decide +kernel)⟩⟩), (List.forall_mem_cons.mpr ⟨(fun _ => ⟨yX6_measured, cX6_measured, 4, (some .long), 2, _, M_X6_measured hl, ⟨by decide, by decide⟩, ⟨by decide, by decide, by decide +kernel⟩, ⟨(gk_wm 981 (by decide +kernel)), (gk_wm 108 (by decide +kernel))⟩, Or.inl ⟨rfl, rfl, (gk_wm 980 (by decide +kernel)), gk_wm 979 (by decide +kernel)⟩⟩), (List.forall_mem_cons.mpr ⟨(fun _ => ⟨yX0_formBeam, cX0_formBeam, 7, (some (.array .int)), 5, _, M_X0_formBeam hl, ⟨by decide, by decide⟩, ⟨by decide, by decide, by decide +kernel⟩, ⟨(gk_wm 1130 (by decide +kernel)), (gk_wm 95 (by decide +kernel))⟩, Or.inr (Or.inr (Or.inr (Or.inl ⟨rfl, rfl, (gk_wm 1128 (by decide +kernel)), (gk_wm 1129 (by decide +kernel)), gk_wm 1127 (by decide +kernel), by decide, rfl⟩)))⟩), (fun _ h => absurd h List.not_mem_nil)⟩)⟩)⟩)⟩)
theorem sp_X10_measureBeam : ∀ q ∈ L_X10_measureBeam, gk_Sq RX10 gk_W1 9 q := (List.forall_mem_cons.mpr ⟨⟨fun h => absurd h (by decide), fun h => absurd h (by decide), fun h => absurd h (by decide), fun h => absurd h (by decide), fun h => absurd h (by decide), fun h => absurd h (by decide)⟩, (List.forall_mem_cons.mpr ⟨⟨fun h => absurd h (by decide), fun h => absurd h (by decide), fun h => absurd h (by decide), fun h => absurd h (by decide), fun h => absurd h (by decide), fun h => absurd h (by decide)⟩, (List.forall_mem_cons.mpr ⟨⟨fun h => absurd h (by decide), fun h => absurd h (by decide), fun h => absurd h (by decide), fun h => absurd h (by decide), fun h => absurd h (by decide), fun h => absurd h (by decide)⟩, (List.forall_mem_cons.mpr ⟨⟨fun h => absurd h (by decide), fun h => absurd h (by decide), fun h => absurd h (by decide), fun h => absurd h (by decide), fun h => absurd h (by decide), fun h => absurd h (by decide)⟩, (fun _ h => absurd h List.not_mem_nil)⟩)⟩)⟩)⟩)
theorem M_X10_measureBeam {l : Launch} (hl : l.stackTraces = false) : gk_Mt l yX10_measureBeam (.code yX10_measureBeam cX10_measureBeam 4 (some .long) :: gk_W1) 9 3 S_X10_measureBeam := gk_meth hl gk_cw_ok (by decide +kernel) rfl m_X10_measureBeam pX10_ok (gk_Sp_of sp_X10_measureBeam) pX10_st (fun ci m S h => absurd h (by intro h; cases h)) (xf_X10 (by decide)) (fun idx kd ci mm cost S2 h h5 => lk_X10_measureBeam hl _ (gk_lk_mem h) h5)

def S_X10_periodPower : gk_S := fun as n fl x y K => ∃ (p : Int32) (f : Int32) (l : Int32) (g : Nat → Int32), as = [.ref 0, .int p, .int f, .int l] ∧ (n = 202 ∧ fl = gk_fT) ∧ (RS 1 g x y) ∧ (gOK g) ∧ (((1 ≤ p ∧ p ≤ 64) ∧ (0 ≤ f ∧ f ≤ l ∧ l ≤ 255)) → ∀ (x2 : gk_X) (y2 : gk_Y), COk g x x2 y y2 → K (.inl (some (.long (gL (gk_pw (gJ (gB g 0)) (cN f) (cN p) (cN l + 1 - cN f) (cN p)))))) n fl x2 y2) ∧ (¬ ((1 ≤ p ∧ p ≤ 64) ∧ (0 ≤ f ∧ f ≤ l ∧ l ≤ 255)) → ∀ (x2 : gk_X) (y2 : gk_Y), COk g x x2 y y2 → K (.inr 0) n fl x2 y2)
theorem r_X10_periodPower (w : gk_W c P cs (fun _ _ => none) rt uf sc K V) {idx : Nat} {p : Int32} {f : Int32} {l : Int32} {g : Nat → Int32} (hd : decode c pc = .ok (.invokevirtual idx, 3)) (hp : pc + 3 = pc2) (hc : cs idx = some (1, 9, 4, 3, S_X10_periodPower)) (h8 : Nat.ble (r.map Value.category).sum 8 = true) (hu : u + 3 ≤ uf) (hp0 : RS 1 g x y) (hp1 : gOK g) (kk0 : ((1 ≤ p ∧ p ≤ 64) ∧ (0 ≤ f ∧ f ≤ l ∧ l ≤ 255)) → ∀ (x2 : gk_X) (y2 : gk_Y), COk g x x2 y y2 → V pc2 L ((.long (gL (gk_pw (gJ (gB g 0)) (cN f) (cN p) (cN l + 1 - cN f) (cN p)))) :: r) 202 gk_fT x2 y2 (u + 3)) (kk1 : ¬ ((1 ≤ p ∧ p ≤ 64) ∧ (0 ≤ f ∧ f ≤ l ∧ l ≤ 255)) → ∀ (x2 : gk_X) (y2 : gk_Y), COk g x x2 y y2 → K (.inr 0) 202 gk_fT x2 y2) : V pc L (.int l :: .int f :: .int p :: .ref 0 :: r) 202 gk_fT x y u :=
  g_callv w hd hp hc (as := [.ref 0, .int p, .int f, .int l]) rfl h8 rfl rfl rfl (Or.inr (Or.inl ⟨Or.inl rfl, _, _, rfl, (gk_kd_j rfl rfl), rfl⟩)) (Or.inr hu) ⟨p, f, l, g, rfl, ⟨rfl, rfl⟩, hp0, hp1, kk0, kk1⟩
def L_X10_periodPower : List (Nat × gk_M0) := [(55, (0, 9, 3, 1, S_X10_requireRange)), (175, (0, 9, 2, 2, S_X10_requireWindow)), (233, (1, 0, 5, 0, S_X0_formBeam)), (237, (0, 0, 4, 0, S_X6_powerOf))]
def cs_X10_periodPower : Nat → Option gk_M0 := gk_lk L_X10_periodPower
theorem m_X10_periodPower : ∀ (as : List Value) (n : Nat) (fl : gk_F) (x : gk_X) (y : gk_Y) (K : gk_K), S_X10_periodPower as n fl x y K → (gk_L0 as).length ≤ 4 ∧ ∀ V : gk_V, gk_W cX10_periodPower pX10 cs_X10_periodPower (fun _ _ => none) (some .long) 3 none K V → V 0 (gk_en as 4) [] n fl x y 0 := by
  intro as n fl x y K hS
  obtain ⟨p, f, l, g, rfl, ⟨rfl, rfl⟩, hp0, hp1, q0, q1⟩ := hS
  refine ⟨Nat.le_of_ble_eq_true rfl, fun V w => ?_⟩
  show V 0 [some (.ref 0), some (.int p), some (.int f), some (.int l)] [] 202 gk_fT x y 0
  obtain ⟨nv4, ns6, nm8, z6, z7, z8⟩ := wf_n hp1.1
  have f0 := COk.ini hp0
  refine s_iload_n (pc2 := 1) w dX10_periodPower_0 rfl rfl ?_
  refine s_iconst (pc2 := 2) (v := 1) w dX10_periodPower_1 rfl rfl ?_
  refine s_bipush (pc2 := 4) (v := 64) w dX10_periodPower_2 rfl rfl ?_
  refine r_X10_requireRange (pc2 := 7) w dX10_periodPower_4 rfl rfl rfl (Nat.le_of_ble_eq_true rfl) (fun h4 => ?_) (fun h => q1  (fun hc => h hc.1) _ _ f0)
  refine s_iload_n (pc2 := 8) w dX10_periodPower_7 rfl rfl ?_
  refine s_iload_n (pc2 := 9) w dX10_periodPower_8 rfl rfl ?_
  refine r_X10_requireWindow (pc2 := 12) w dX10_periodPower_9 rfl rfl rfl (Nat.le_of_ble_eq_true rfl) (fun h9 => ?_) (fun h => q1  (fun hc => h hc.2) _ _ f0)
  obtain ⟨p, rfl, ph1, ph2⟩ := ix_p h4
  obtain ⟨b, e, rfl, rfl, be, eh⟩ := ix_w h9
  rw [cN_n p (by omega), cN_n b (by omega), cN_n e (by omega)] at q0
  refine s_aload_n (pc2 := 13) w dX10_periodPower_12 rfl rfl ?_
  refine m_getR (pc2 := 16) (ci := 9) (k := 5) (j2 := 90) w dX10_periodPower_13 rfl rfl rfl rfl rfl rfl ?_
  refine s_aload_n (pc2 := 17) w dX10_periodPower_16 rfl rfl ?_
  refine m_getR (pc2 := 20) (ci := 9) (k := 0) (j2 := 1) w dX10_periodPower_17 rfl rfl rfl rfl rfl rfl ?_
  refine s_iconst (pc2 := 21) (v := 0) w dX10_periodPower_20 rfl rfl ?_
  refine s_iload_n (pc2 := 22) w dX10_periodPower_21 rfl rfl ?_
  refine s_iload_n (pc2 := 23) w dX10_periodPower_22 rfl rfl ?_
  refine r_X0_formBeam (pc2 := 26) (B := 0) w dX10_periodPower_23 rfl rfl rfl hp0 hp1.1 hp1.2.1 rfl (by omega) rfl rfl be eh (fun x1 y1 hx1 hy1 => ?_)
  have f1 := fb_ok hp1.1 f0 hx1 hy1
  have hr : ∀ i, b ≤ i → i ≤ e → x1 91 i = gB g 0 i := fun i h1 h2 => (hx1 91 i (by decide)).trans ((gk_ur_in (by omega)).trans (if_pos ⟨h1, h2⟩))
  refine s_iload_n (pc2 := 27) w dX10_periodPower_26 rfl rfl ?_
  refine s_iload_n (pc2 := 28) w dX10_periodPower_27 rfl rfl ?_
  refine s_iload_n (pc2 := 29) w dX10_periodPower_28 rfl rfl ?_
  refine r_X6_powerOf (pc2 := 32) w dX10_periodPower_29 rfl rfl rfl rfl rfl rfl ⟨ph1, ph2⟩ rfl rfl be eh ?_
  rw [win_pw hr]
  refine s_lreturn w dX10_periodPower_32 rfl ?_
  exact q0 ⟨h4, h9⟩ _ _ f1
theorem lk_X10_periodPower {l : Launch} (hl : l.stackTraces = false) : ∀ q ∈ L_X10_periodPower, (q.2.1 < 5 → gk_Lk l RX10 gk_W1 9 q.1 q.2.1 q.2.2.1 q.2.2.2.1 q.2.2.2.2.1 q.2.2.2.2.2) := (List.forall_mem_cons.mpr ⟨(fun _ => ⟨yX10_requireRange, cX10_requireRange, 3, none, 6, _, M_X10_requireRange hl, ⟨by decide, by decide⟩, ⟨by decide, by decide, by decide +kernel⟩, ⟨(gk_wm 733 (by decide +kernel)), (gk_wm 89 (by decide +kernel))⟩, Or.inl ⟨rfl, rfl, (gk_wm 732 (by decide +kernel)), gk_wm 731 (by decide +kernel)⟩⟩), (List.forall_mem_cons.mpr ⟨(fun _ => ⟨yX10_requireWindow, cX10_requireWindow, 2, none, 8, _, M_X10_requireWindow hl, ⟨by decide, by decide⟩, ⟨by decide, by decide, by decide +kernel⟩, ⟨(gk_wm 978 (by decide +kernel)), (gk_wm 89 (by decide +kernel))⟩, Or.inl ⟨rfl, rfl, (gk_wm 977 (by decide +kernel)), gk_wm 976 (by decide +kernel)⟩⟩), (List.forall_mem_cons.mpr ⟨(fun _ => ⟨yX0_formBeam, cX0_formBeam, 7, (some (.array .int)), 5, _, M_X0_formBeam hl, ⟨by decide, by decide⟩, ⟨by decide, by decide, by decide +kernel⟩, ⟨(gk_wm 1130 (by decide +kernel)), (gk_wm 95 (by decide +kernel))⟩, Or.inr (Or.inr (Or.inr (Or.inl ⟨rfl, rfl, (gk_wm 1128 (by decide +kernel)), (gk_wm 1129 (by decide +kernel)), gk_wm 1127 (by decide +kernel), by decide, rfl⟩)))⟩), (List.forall_mem_cons.mpr ⟨(fun _ => ⟨yX6_powerOf, cX6_powerOf, 9, (some .long), 1, _, M_X6_powerOf hl, ⟨by decide, by decide⟩, ⟨by decide, by decide, by decide +kernel⟩, ⟨(gk_wm 1156 (by decide +kernel)), (gk_wm 108 (by decide +kernel))⟩, Or.inl ⟨rfl, rfl, (gk_wm 1155 (by decide +kernel)), gk_wm 1154 (by decide +kernel)⟩⟩), (fun _ h => absurd h List.not_mem_nil)⟩)⟩)⟩)⟩)
theorem sp_X10_periodPower : ∀ q ∈ L_X10_periodPower, gk_Sq RX10 gk_W1 9 q := (List.forall_mem_cons.mpr ⟨⟨fun h => absurd h (by decide), fun h => absurd h (by decide), fun h => absurd h (by decide), fun h => absurd h (by decide), fun h => absurd h (by decide), fun h => absurd h (by decide)⟩, (List.forall_mem_cons.mpr ⟨⟨fun h => absurd h (by decide), fun h => absurd h (by decide), fun h => absurd h (by decide), fun h => absurd h (by decide), fun h => absurd h (by decide), fun h => absurd h (by decide)⟩, (List.forall_mem_cons.mpr ⟨⟨fun h => absurd h (by decide), fun h => absurd h (by decide), fun h => absurd h (by decide), fun h => absurd h (by decide), fun h => absurd h (by decide), fun h => absurd h (by decide)⟩, (List.forall_mem_cons.mpr ⟨⟨fun h => absurd h (by decide), fun h => absurd h (by decide), fun h => absurd h (by decide), fun h => absurd h (by decide), fun h => absurd h (by decide), fun h => absurd h (by decide)⟩, (fun _ h => absurd h List.not_mem_nil)⟩)⟩)⟩)⟩)
theorem M_X10_periodPower {l : Launch} (hl : l.stackTraces = false) : gk_Mt l yX10_periodPower (.code yX10_periodPower cX10_periodPower 4 (some .long) :: gk_W1) 9 3 S_X10_periodPower := gk_meth hl gk_cw_ok (by decide +kernel) rfl m_X10_periodPower pX10_ok (gk_Sp_of sp_X10_periodPower) pX10_st (fun ci m S h => absurd h (by intro h; cases h)) (xf_X10 (by decide)) (fun idx kd ci mm cost S2 h h5 => lk_X10_periodPower hl _ (gk_lk_mem h) h5)

def S_X10_energyBeside : gk_S := fun as n fl x y K => ∃ (b : Int32) (f : Int32) (l : Int32) (g : Nat → Int32), as = [.ref 0, .int b, .int f, .int l] ∧ (n = 202 ∧ fl = gk_fT) ∧ (RS 1 g x y) ∧ (gOK g) ∧ (((-2000 ≤ b ∧ b ≤ 2000) ∧ (0 ≤ f ∧ f ≤ l ∧ l ≤ 255)) → ∀ (x2 : gk_X) (y2 : gk_Y), COk g x x2 y y2 → K (.inl (some (.long (gL (gE (gB g b.toInt) (cN f) (cN l)))))) n fl x2 y2) ∧ (¬ ((-2000 ≤ b ∧ b ≤ 2000) ∧ (0 ≤ f ∧ f ≤ l ∧ l ≤ 255)) → ∀ (x2 : gk_X) (y2 : gk_Y), COk g x x2 y y2 → K (.inr 0) n fl x2 y2)
theorem r_X10_energyBeside (w : gk_W c P cs (fun _ _ => none) rt uf sc K V) {idx : Nat} {b : Int32} {f : Int32} {l : Int32} {g : Nat → Int32} (hd : decode c pc = .ok (.invokevirtual idx, 3)) (hp : pc + 3 = pc2) (hc : cs idx = some (1, 9, 4, 3, S_X10_energyBeside)) (h8 : Nat.ble (r.map Value.category).sum 8 = true) (hu : u + 3 ≤ uf) (hp0 : RS 1 g x y) (hp1 : gOK g) (kk0 : ((-2000 ≤ b ∧ b ≤ 2000) ∧ (0 ≤ f ∧ f ≤ l ∧ l ≤ 255)) → ∀ (x2 : gk_X) (y2 : gk_Y), COk g x x2 y y2 → V pc2 L ((.long (gL (gE (gB g b.toInt) (cN f) (cN l)))) :: r) 202 gk_fT x2 y2 (u + 3)) (kk1 : ¬ ((-2000 ≤ b ∧ b ≤ 2000) ∧ (0 ≤ f ∧ f ≤ l ∧ l ≤ 255)) → ∀ (x2 : gk_X) (y2 : gk_Y), COk g x x2 y y2 → K (.inr 0) 202 gk_fT x2 y2) : V pc L (.int l :: .int f :: .int b :: .ref 0 :: r) 202 gk_fT x y u :=
  g_callv w hd hp hc (as := [.ref 0, .int b, .int f, .int l]) rfl h8 rfl rfl rfl (Or.inr (Or.inl ⟨Or.inl rfl, _, _, rfl, (gk_kd_j rfl rfl), rfl⟩)) (Or.inr hu) ⟨b, f, l, g, rfl, ⟨rfl, rfl⟩, hp0, hp1, kk0, kk1⟩
def L_X10_energyBeside : List (Nat × gk_M0) := [(55, (0, 9, 3, 1, S_X10_requireRange)), (175, (0, 9, 2, 2, S_X10_requireWindow)), (190, (0, 0, 3, 0, S_X6_energyOf)), (233, (1, 0, 5, 0, S_X0_formBeam))]
def cs_X10_energyBeside : Nat → Option gk_M0 := gk_lk L_X10_energyBeside
theorem m_X10_energyBeside : ∀ (as : List Value) (n : Nat) (fl : gk_F) (x : gk_X) (y : gk_Y) (K : gk_K), S_X10_energyBeside as n fl x y K → (gk_L0 as).length ≤ 4 ∧ ∀ V : gk_V, gk_W cX10_energyBeside pX10 cs_X10_energyBeside (fun _ _ => none) (some .long) 3 none K V → V 0 (gk_en as 4) [] n fl x y 0 := by
  intro as n fl x y K hS
  obtain ⟨b, f, l, g, rfl, ⟨rfl, rfl⟩, hp0, hp1, q0, q1⟩ := hS
  refine ⟨Nat.le_of_ble_eq_true rfl, fun V w => ?_⟩
  show V 0 [some (.ref 0), some (.int b), some (.int f), some (.int l)] [] 202 gk_fT x y 0
  obtain ⟨nv4, ns6, nm8, z6, z7, z8⟩ := wf_n hp1.1
  have f0 := COk.ini hp0
  refine s_iload_n (pc2 := 1) w dX10_energyBeside_0 rfl rfl ?_
  refine s_sipush (pc2 := 4) (v := (-2000)) w dX10_energyBeside_1 rfl rfl ?_
  refine s_sipush (pc2 := 7) (v := 2000) w dX10_energyBeside_4 rfl rfl ?_
  refine r_X10_requireRange (pc2 := 10) w dX10_energyBeside_7 rfl rfl rfl (Nat.le_of_ble_eq_true rfl) (fun h7 => ?_) (fun h => q1  (fun hc => h hc.1) _ _ f0)
  refine s_iload_n (pc2 := 11) w dX10_energyBeside_10 rfl rfl ?_
  refine s_iload_n (pc2 := 12) w dX10_energyBeside_11 rfl rfl ?_
  refine r_X10_requireWindow (pc2 := 15) w dX10_energyBeside_12 rfl rfl rfl (Nat.le_of_ble_eq_true rfl) (fun h12 => ?_) (fun h => q1  (fun hc => h hc.2) _ _ f0)
  obtain ⟨B, rfl, B1, B2⟩ := ix_r (a := -2000) (b := 2000) ⟨by decide, by decide⟩ ⟨by decide, by decide⟩ h7
  obtain ⟨a, e, rfl, rfl, ae, eh⟩ := ix_w h12
  rw [cN_n a (by omega), cN_n e (by omega)] at q0
  rw [gI_of ⟨by omega, by omega⟩] at q0
  refine s_aload_n (pc2 := 16) w dX10_energyBeside_15 rfl rfl ?_
  refine m_getR (pc2 := 19) (ci := 9) (k := 5) (j2 := 90) w dX10_energyBeside_16 rfl rfl rfl rfl rfl rfl ?_
  refine s_aload_n (pc2 := 20) w dX10_energyBeside_19 rfl rfl ?_
  refine m_getR (pc2 := 23) (ci := 9) (k := 0) (j2 := 1) w dX10_energyBeside_20 rfl rfl rfl rfl rfl rfl ?_
  refine s_iload_n (pc2 := 24) w dX10_energyBeside_23 rfl rfl ?_
  refine s_iload_n (pc2 := 25) w dX10_energyBeside_24 rfl rfl ?_
  refine s_iload_n (pc2 := 26) w dX10_energyBeside_25 rfl rfl ?_
  refine r_X0_formBeam (pc2 := 29) w dX10_energyBeside_26 rfl rfl rfl hp0 hp1.1 hp1.2.1 rfl ⟨B1, B2⟩ rfl rfl ae eh (fun x1 y1 hx1 hy1 => ?_)
  have f1 := fb_ok hp1.1 f0 hx1 hy1
  have hr : ∀ i, a ≤ i → i ≤ e → x1 91 i = gB g B i := fun i h1 h2 => (hx1 91 i (by decide)).trans ((gk_ur_in (by omega)).trans (if_pos ⟨h1, h2⟩))
  refine s_iload_n (pc2 := 30) w dX10_energyBeside_29 rfl rfl ?_
  refine s_iload_n (pc2 := 31) w dX10_energyBeside_30 rfl rfl ?_
  refine r_X6_energyOf (pc2 := 34) w dX10_energyBeside_31 rfl rfl rfl rfl rfl rfl rfl (by omega) eh ?_
  rw [win_eI hr]
  refine s_lreturn w dX10_energyBeside_34 rfl ?_
  exact q0 ⟨h7, h12⟩ _ _ f1
theorem lk_X10_energyBeside {l : Launch} (hl : l.stackTraces = false) : ∀ q ∈ L_X10_energyBeside, (q.2.1 < 5 → gk_Lk l RX10 gk_W1 9 q.1 q.2.1 q.2.2.1 q.2.2.2.1 q.2.2.2.2.1 q.2.2.2.2.2) := (List.forall_mem_cons.mpr ⟨(fun _ => ⟨yX10_requireRange, cX10_requireRange, 3, none, 6, _, M_X10_requireRange hl, ⟨by decide, by decide⟩, ⟨by decide, by decide, by decide +kernel⟩, ⟨(gk_wm 733 (by decide +kernel)), (gk_wm 89 (by decide +kernel))⟩, Or.inl ⟨rfl, rfl, (gk_wm 732 (by decide +kernel)), gk_wm 731 (by decide +kernel)⟩⟩), (List.forall_mem_cons.mpr ⟨(fun _ => ⟨yX10_requireWindow, cX10_requireWindow, 2, none, 8, _, M_X10_requireWindow hl, ⟨by decide, by decide⟩, ⟨by decide, by decide, by decide +kernel⟩, ⟨(gk_wm 978 (by decide +kernel)), (gk_wm 89 (by decide +kernel))⟩, Or.inl ⟨rfl, rfl, (gk_wm 977 (by decide +kernel)), gk_wm 976 (by decide +kernel)⟩⟩), (List.forall_mem_cons.mpr ⟨(fun _ => ⟨yX6_energyOf, cX6_energyOf, 6, (some .long), 0, _, M_X6_energyOf hl, ⟨by decide, by decide⟩, ⟨by decide, by decide, by decide +kernel⟩, ⟨(gk_wm 984 (by decide +kernel)), (gk_wm 108 (by decide +kernel))⟩, Or.inl ⟨rfl, rfl, (gk_wm 983 (by decide +kernel)), gk_wm 1012 (by decide +kernel)⟩⟩), (List.forall_mem_cons.mpr ⟨(fun _ => ⟨yX0_formBeam, cX0_formBeam, 7, (some (.array .int)), 5, _, M_X0_formBeam hl, ⟨by decide, by decide⟩, ⟨by decide, by decide, by decide +kernel⟩, ⟨(gk_wm 1130 (by decide +kernel)), (gk_wm 95 (by decide +kernel))⟩, Or.inr (Or.inr (Or.inr (Or.inl ⟨rfl, rfl, (gk_wm 1128 (by decide +kernel)), (gk_wm 1129 (by decide +kernel)), gk_wm 1127 (by decide +kernel), by decide, rfl⟩)))⟩), (fun _ h => absurd h List.not_mem_nil)⟩)⟩)⟩)⟩)
theorem sp_X10_energyBeside : ∀ q ∈ L_X10_energyBeside, gk_Sq RX10 gk_W1 9 q := (List.forall_mem_cons.mpr ⟨⟨fun h => absurd h (by decide), fun h => absurd h (by decide), fun h => absurd h (by decide), fun h => absurd h (by decide), fun h => absurd h (by decide), fun h => absurd h (by decide)⟩, (List.forall_mem_cons.mpr ⟨⟨fun h => absurd h (by decide), fun h => absurd h (by decide), fun h => absurd h (by decide), fun h => absurd h (by decide), fun h => absurd h (by decide), fun h => absurd h (by decide)⟩, (List.forall_mem_cons.mpr ⟨⟨fun h => absurd h (by decide), fun h => absurd h (by decide), fun h => absurd h (by decide), fun h => absurd h (by decide), fun h => absurd h (by decide), fun h => absurd h (by decide)⟩, (List.forall_mem_cons.mpr ⟨⟨fun h => absurd h (by decide), fun h => absurd h (by decide), fun h => absurd h (by decide), fun h => absurd h (by decide), fun h => absurd h (by decide), fun h => absurd h (by decide)⟩, (fun _ h => absurd h List.not_mem_nil)⟩)⟩)⟩)⟩)
theorem M_X10_energyBeside {l : Launch} (hl : l.stackTraces = false) : gk_Mt l yX10_energyBeside (.code yX10_energyBeside cX10_energyBeside 4 (some .long) :: gk_W1) 9 3 S_X10_energyBeside := gk_meth hl gk_cw_ok (by decide +kernel) rfl m_X10_energyBeside pX10_ok (gk_Sp_of sp_X10_energyBeside) pX10_st (fun ci m S h => absurd h (by intro h; cases h)) (xf_X10 (by decide)) (fun idx kd ci mm cost S2 h h5 => lk_X10_energyBeside hl _ (gk_lk_mem h) h5)

def S_X10_spectrum : gk_S := fun as n fl x y K => ∃ (d : Int32) (p : Int32) (f : Int32) (l : Int32) (g : Nat → Int32), as = [.ref 0, .int d, .int p, .int f, .int l] ∧ (n = 202 ∧ fl = gk_fT) ∧ (RS 1 g x y) ∧ (gOK g) ∧ (((-100 ≤ d ∧ d ≤ 100) ∧ (1 ≤ p ∧ p ≤ 64) ∧ (0 ≤ f ∧ f ≤ l ∧ l ≤ 255)) → ∀ (x2 : gk_X) (y2 : gk_Y), COk g x x2 y y2 → K (.inl (some (.long (gL (gk_pw (gJ (gD g d.toInt)) (cN f) (cN p) (cN l + 1 - cN f) (cN p) * (cN p : Int)) / gL ((cN l : Int) - (cN f : Int) + 1))))) n fl x2 y2) ∧ (¬ ((-100 ≤ d ∧ d ≤ 100) ∧ (1 ≤ p ∧ p ≤ 64) ∧ (0 ≤ f ∧ f ≤ l ∧ l ≤ 255)) → ∀ (x2 : gk_X) (y2 : gk_Y), COk g x x2 y y2 → K (.inr 0) n fl x2 y2)
theorem r_X10_spectrum (w : gk_W c P cs (fun _ _ => none) rt uf sc K V) {idx : Nat} {d : Int32} {p : Int32} {f : Int32} {l : Int32} {g : Nat → Int32} (hd : decode c pc = .ok (.invokevirtual idx, 3)) (hp : pc + 3 = pc2) (hc : cs idx = some (1, 9, 5, 4, S_X10_spectrum)) (h8 : Nat.ble (r.map Value.category).sum 8 = true) (hu : u + 4 ≤ uf) (hp0 : RS 1 g x y) (hp1 : gOK g) (kk0 : ((-100 ≤ d ∧ d ≤ 100) ∧ (1 ≤ p ∧ p ≤ 64) ∧ (0 ≤ f ∧ f ≤ l ∧ l ≤ 255)) → ∀ (x2 : gk_X) (y2 : gk_Y), COk g x x2 y y2 → V pc2 L ((.long (gL (gk_pw (gJ (gD g d.toInt)) (cN f) (cN p) (cN l + 1 - cN f) (cN p) * (cN p : Int)) / gL ((cN l : Int) - (cN f : Int) + 1))) :: r) 202 gk_fT x2 y2 (u + 4)) (kk1 : ¬ ((-100 ≤ d ∧ d ≤ 100) ∧ (1 ≤ p ∧ p ≤ 64) ∧ (0 ≤ f ∧ f ≤ l ∧ l ≤ 255)) → ∀ (x2 : gk_X) (y2 : gk_Y), COk g x x2 y y2 → K (.inr 0) 202 gk_fT x2 y2) : V pc L (.int l :: .int f :: .int p :: .int d :: .ref 0 :: r) 202 gk_fT x y u :=
  g_callv w hd hp hc (as := [.ref 0, .int d, .int p, .int f, .int l]) rfl h8 rfl rfl rfl (Or.inr (Or.inl ⟨Or.inl rfl, _, _, rfl, (gk_kd_j rfl rfl), rfl⟩)) (Or.inr hu) ⟨d, p, f, l, g, rfl, ⟨rfl, rfl⟩, hp0, hp1, kk0, kk1⟩
def L_X10_spectrum : List (Nat × gk_M0) := [(55, (0, 9, 3, 1, S_X10_requireRange)), (175, (0, 9, 2, 2, S_X10_requireWindow)), (240, (0, 0, 4, 0, S_X6_periodStrength)), (243, (1, 0, 5, 0, S_X0_formDirectionBeam))]
def cs_X10_spectrum : Nat → Option gk_M0 := gk_lk L_X10_spectrum
theorem m_X10_spectrum : ∀ (as : List Value) (n : Nat) (fl : gk_F) (x : gk_X) (y : gk_Y) (K : gk_K), S_X10_spectrum as n fl x y K → (gk_L0 as).length ≤ 6 ∧ ∀ V : gk_V, gk_W cX10_spectrum pX10 cs_X10_spectrum (fun _ _ => none) (some .long) 4 none K V → V 0 (gk_en as 6) [] n fl x y 0 := by
  intro as n fl x y K hS
  obtain ⟨d, p, f, l, g, rfl, ⟨rfl, rfl⟩, hp0, hp1, q0, q1⟩ := hS
  refine ⟨Nat.le_of_ble_eq_true rfl, fun V w => ?_⟩
  show V 0 [some (.ref 0), some (.int d), some (.int p), some (.int f), some (.int l), none] [] 202 gk_fT x y 0
  obtain ⟨nv4, ns6, nm8, z6, z7, z8⟩ := wf_n hp1.1
  have f0 := COk.ini hp0
  refine s_iload_n (pc2 := 1) w dX10_spectrum_0 rfl rfl ?_
  refine s_bipush (pc2 := 3) (v := (-100)) w dX10_spectrum_1 rfl rfl ?_
  refine s_bipush (pc2 := 5) (v := 100) w dX10_spectrum_3 rfl rfl ?_
  refine r_X10_requireRange (pc2 := 8) w dX10_spectrum_5 rfl rfl rfl (Nat.le_of_ble_eq_true rfl) (fun h5 => ?_) (fun h => q1  (fun hc => h hc.1) _ _ f0)
  refine s_iload_n (pc2 := 9) w dX10_spectrum_8 rfl rfl ?_
  refine s_iconst (pc2 := 10) (v := 1) w dX10_spectrum_9 rfl rfl ?_
  refine s_bipush (pc2 := 12) (v := 64) w dX10_spectrum_10 rfl rfl ?_
  refine r_X10_requireRange (pc2 := 15) w dX10_spectrum_12 rfl rfl rfl (Nat.le_of_ble_eq_true rfl) (fun h12 => ?_) (fun h => q1  (fun hc => h hc.2.1) _ _ f0)
  refine s_iload_n (pc2 := 16) w dX10_spectrum_15 rfl rfl ?_
  refine s_iload (pc2 := 18) w dX10_spectrum_16 rfl rfl ?_
  refine r_X10_requireWindow (pc2 := 21) w dX10_spectrum_18 rfl rfl rfl (Nat.le_of_ble_eq_true rfl) (fun h18 => ?_) (fun h => q1  (fun hc => h hc.2.2) _ _ f0)
  obtain ⟨D, rfl, D1, D2⟩ := ix_r (a := -100) (b := 100) ⟨by decide, by decide⟩ ⟨by decide, by decide⟩ h5
  obtain ⟨p, rfl, ph1, ph2⟩ := ix_p h12
  obtain ⟨b, e, rfl, rfl, be, eh⟩ := ix_w h18
  rw [cN_n p (by omega), cN_n b (by omega), cN_n e (by omega)] at q0
  rw [gI_of ⟨by omega, by omega⟩] at q0
  refine s_aload_n (pc2 := 22) w dX10_spectrum_21 rfl rfl ?_
  refine m_getR (pc2 := 25) (ci := 9) (k := 5) (j2 := 90) w dX10_spectrum_22 rfl rfl rfl rfl rfl rfl ?_
  refine s_aload_n (pc2 := 26) w dX10_spectrum_25 rfl rfl ?_
  refine m_getR (pc2 := 29) (ci := 9) (k := 0) (j2 := 1) w dX10_spectrum_26 rfl rfl rfl rfl rfl rfl ?_
  refine s_iload_n (pc2 := 30) w dX10_spectrum_29 rfl rfl ?_
  refine s_iload_n (pc2 := 31) w dX10_spectrum_30 rfl rfl ?_
  refine s_iload (pc2 := 33) w dX10_spectrum_31 rfl rfl ?_
  refine r_X0_formDirectionBeam (pc2 := 36) w dX10_spectrum_33 rfl rfl rfl hp1.1 hp0.1 hp0.2.2.2.2.1 hp0.2.2.2.2.2.1 rfl (by omega) rfl rfl be eh (fun x1 hx1 => ?_)
  have hy1 : ∀ i k, i ≠ 93 → i ≠ 94 → y i k = y i k := fun _ _ _ _ => rfl
  have f1 := fb_ok hp1.1 f0 hx1 hy1
  have hr : ∀ i, b ≤ i → i ≤ e → x1 91 i = gD g D i := fun i h1 h2 => (hx1 91 i (by decide)).trans ((gk_ur_in (by omega)).trans (if_pos ⟨h1, h2⟩))
  refine s_astore (pc2 := 38) w dX10_spectrum_36 rfl rfl ?_
  dsimp only [gk_s1, gk_s2, gk_cl]
  refine s_aload (pc2 := 40) w dX10_spectrum_38 rfl rfl ?_
  refine s_iload_n (pc2 := 41) w dX10_spectrum_40 rfl rfl ?_
  refine s_iload_n (pc2 := 42) w dX10_spectrum_41 rfl rfl ?_
  refine s_iload (pc2 := 44) w dX10_spectrum_42 rfl rfl ?_
  refine r_X6_periodStrength (pc2 := 47) w dX10_spectrum_44 rfl rfl rfl rfl rfl rfl ⟨ph1, ph2⟩ rfl rfl be eh ?_
  rw [win_pw hr]
  refine s_lreturn w dX10_spectrum_47 rfl ?_
  exact q0 ⟨h5, h12, h18⟩ _ _ f1
theorem lk_X10_spectrum {l : Launch} (hl : l.stackTraces = false) : ∀ q ∈ L_X10_spectrum, (q.2.1 < 5 → gk_Lk l RX10 gk_W1 9 q.1 q.2.1 q.2.2.1 q.2.2.2.1 q.2.2.2.2.1 q.2.2.2.2.2) := (List.forall_mem_cons.mpr ⟨(fun _ => ⟨yX10_requireRange, cX10_requireRange, 3, none, 6, _, M_X10_requireRange hl, ⟨by decide, by decide⟩, ⟨by decide, by decide, by decide +kernel⟩, ⟨(gk_wm 733 (by decide +kernel)), (gk_wm 89 (by decide +kernel))⟩, Or.inl ⟨rfl, rfl, (gk_wm 732 (by decide +kernel)), gk_wm 731 (by decide +kernel)⟩⟩), (List.forall_mem_cons.mpr ⟨(fun _ => ⟨yX10_requireWindow, cX10_requireWindow, 2, none, 8, _, M_X10_requireWindow hl, ⟨by decide, by decide⟩, ⟨by decide, by decide, by decide +kernel⟩, ⟨(gk_wm 978 (by decide +kernel)), (gk_wm 89 (by decide +kernel))⟩, Or.inl ⟨rfl, rfl, (gk_wm 977 (by decide +kernel)), gk_wm 976 (by decide +kernel)⟩⟩), (List.forall_mem_cons.mpr ⟨(fun _ => ⟨yX6_periodStrength, cX6_periodStrength, 4, (some .long), 2, _, M_X6_periodStrength hl, ⟨by decide, by decide⟩, ⟨by decide, by decide, by decide +kernel⟩, ⟨(gk_wm 1166 (by decide +kernel)), (gk_wm 108 (by decide +kernel))⟩, Or.inl ⟨rfl, rfl, (gk_wm 1165 (by decide +kernel)), gk_wm 1164 (by decide +kernel)⟩⟩), (List.forall_mem_cons.mpr ⟨(fun _ => ⟨yX0_formDirectionBeam, cX0_formDirectionBeam, 7, (some (.array .int)), 3, _, M_X0_formDirectionBeam hl, ⟨by decide, by decide⟩, ⟨by decide, by decide, by decide +kernel⟩, ⟨(gk_wm 1134 (by decide +kernel)), (gk_wm 95 (by decide +kernel))⟩, Or.inr (Or.inr (Or.inr (Or.inl ⟨rfl, rfl, (gk_wm 1132 (by decide +kernel)), (gk_wm 1133 (by decide +kernel)), gk_wm 1190 (by decide +kernel), by decide, rfl⟩)))⟩), (fun _ h => absurd h List.not_mem_nil)⟩)⟩)⟩)⟩)
theorem sp_X10_spectrum : ∀ q ∈ L_X10_spectrum, gk_Sq RX10 gk_W1 9 q := (List.forall_mem_cons.mpr ⟨⟨fun h => absurd h (by decide), fun h => absurd h (by decide), fun h => absurd h (by decide), fun h => absurd h (by decide), fun h => absurd h (by decide), fun h => absurd h (by decide)⟩, (List.forall_mem_cons.mpr ⟨⟨fun h => absurd h (by decide), fun h => absurd h (by decide), fun h => absurd h (by decide), fun h => absurd h (by decide), fun h => absurd h (by decide), fun h => absurd h (by decide)⟩, (List.forall_mem_cons.mpr ⟨⟨fun h => absurd h (by decide), fun h => absurd h (by decide), fun h => absurd h (by decide), fun h => absurd h (by decide), fun h => absurd h (by decide), fun h => absurd h (by decide)⟩, (List.forall_mem_cons.mpr ⟨⟨fun h => absurd h (by decide), fun h => absurd h (by decide), fun h => absurd h (by decide), fun h => absurd h (by decide), fun h => absurd h (by decide), fun h => absurd h (by decide)⟩, (fun _ h => absurd h List.not_mem_nil)⟩)⟩)⟩)⟩)
theorem M_X10_spectrum {l : Launch} (hl : l.stackTraces = false) : gk_Mt l yX10_spectrum (.code yX10_spectrum cX10_spectrum 6 (some .long) :: gk_W1) 9 4 S_X10_spectrum := gk_meth hl gk_cw_ok (by decide +kernel) rfl m_X10_spectrum pX10_ok (gk_Sp_of sp_X10_spectrum) pX10_st (fun ci m S h => absurd h (by intro h; cases h)) (xf_X10 (by decide)) (fun idx kd ci mm cost S2 h h5 => lk_X10_spectrum hl _ (gk_lk_mem h) h5)

end GKV

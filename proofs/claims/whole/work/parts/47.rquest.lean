/-! THE METHODS, 27: the reference, its questions -/
section GKV
variable {c : ByteArray} {P : gk_C} {cs : Nat → Option gk_M0} {rt : Option FieldType} {uf : Nat} {sc : Option Nat} {K : gk_K} {V : gk_V}
variable {L : List (Option Value)} {r : List Value} {n : Nat} {fl : gk_F} {x : gk_X} {y : gk_Y} {u pc pc2 : Nat}
/-- an index as a number -/
def cN (v : Int32) : Nat := v.toNatClampNeg
theorem cN_n (n : Nat) (h : n < 2147483648) : cN (nI n) = n := nI_clamp h
theorem isn_e {v n : Int32} (h : 0 ≤ n.toInt) : (if 0 ≤ v ∧ v ≤ n - 1 then (1 : Int32) else 0) = if 0 ≤ v ∧ v < n then 1 else 0 := by
  obtain ⟨b, rfl, hb⟩ := gI_ex n
  obtain ⟨z, rfl, hz⟩ := gI_ex v
  rw [gI_of hb] at h
  have e : (gI z ≤ gI b - 1) ↔ (gI z < gI b) := by
    rw [show gI b - 1 = gI (b - 1) from gI_sub b 1, gI_lt hz hb, gI_le hz ⟨by omega, by have := hb.2; omega⟩]
    omega
  by_cases hc : 0 ≤ gI z ∧ gI z < gI b
  · rw [if_pos hc, if_pos ⟨hc.1, e.mpr hc.2⟩]
  · rw [if_neg hc, if_neg (fun h => hc ⟨h.1, e.mp h.2⟩)]
theorem wf_n {g : Nat → Int32} (hw : gWf g) : nV g ≤ 4 ∧ nS g ≤ 6 ∧ nM g ≤ 8 ∧ gz g 6 = (nV g : Int) ∧ gz g 7 = (nS g : Int) ∧ gz g 8 = (nM g : Int) := by
  have w0 := hw.1
  unfold wf0 at w0
  unfold nV nS nM
  omega
/-- the reference's state says g, thrown is t; nothing else but its rows has changed -/
def MOk (g : Nat → Int32) (t : Int32) (x x2 : gk_X) (y y2 : gk_Y) : Prop := MG g x2 ∧ x2 189 4 = t ∧ MX x2 x ∧ MY y2 y
theorem MOk.ini {g : Nat → Int32} {x : gk_X} {y : gk_Y} (h : MG g x) : MOk g 0 x (gk_up x 189 4 0) y y := ⟨fun k hk => (gk_up_ne (by omega)).trans (h k hk), gk_up_in _ _ _ _, fun i k h => gk_up_ne (by omega), fun _ _ _ => rfl⟩
theorem MOk.fail {g : Nat → Int32} {t : Int32} {x x2 : gk_X} {y y2 : gk_Y} (h : MOk g t x x2 y y2) (v : Int32) : MOk g v x (gk_up x2 189 4 v) y y2 := ⟨fun k hk => (gk_up_ne (by omega)).trans (h.1 k hk), gk_up_in _ _ _ _, fun i k h2 => (gk_up_ne (by omega)).trans (h.2.2.1 i k h2), h.2.2.2⟩
theorem MOk.st {g : Nat → Int32} {t : Int32} {x x2 : gk_X} {y y2 : gk_Y} (h : MOk g t x x2 y y2) (k : Nat) (v : Int32) : MOk (gU g k v) t x (gk_up x2 190 k v) y y2 := by
  refine ⟨fun i hi => ?_, (gk_up_ne (by omega)).trans h.2.1, fun i k h2 => (gk_up_ne (by omega)).trans (h.2.2.1 i k h2), h.2.2.2⟩
  unfold gk_up gU
  by_cases e : i = k
  · rw [if_pos ⟨rfl, e⟩, if_pos e]
  · rw [if_neg (fun h => e h.2), if_neg e]; exact h.1 i hi
theorem MOk.ge {g : Nat → Int32} {t : Int32} {x x2 x3 : gk_X} {y y2 : gk_Y} (h : MOk g t x x2 y y2) (h3 : ∀ i k, ¬ (194 ≤ i ∧ i ≤ 197) → x3 i k = x2 i k) : MOk g t x x3 y y2 := ⟨fun k hk => (h3 _ _ (by omega)).trans (h.1 k hk), (h3 _ _ (by omega)).trans h.2.1, fun i k h2 => (h3 _ _ (by omega)).trans (h.2.2.1 i k h2), h.2.2.2⟩
theorem MOk.ur {g : Nat → Int32} {t : Int32} {x x2 : gk_X} {y y2 : gk_Y} (h : MOk g t x x2 y y2) {j N : Nat} {f : Nat → Int32} (hj : 194 ≤ j ∧ j ≤ 197) : MOk g t x (gk_ur x2 j f N) y y2 := h.ge (fun i k h4 => gk_ur_ne (by omega))
theorem MOk.yr {g : Nat → Int32} {t : Int32} {x x2 : gk_X} {y y2 y3 : gk_Y} (h : MOk g t x x2 y y2) (h3 : ∀ i k, i ≠ 198 → y3 i k = y2 i k) : MOk g t x x2 y y3 := ⟨h.1, h.2.1, h.2.2.1, fun i k h4 => (h3 i k h4).trans (h.2.2.2 i k h4)⟩
theorem MOk.tr {g g2 : Nat → Int32} {t t2 : Int32} {x x2 x3 : gk_X} {y y2 y3 : gk_Y} (h : MOk g t x x2 y y2) (h2 : MOk g2 t2 x2 x3 y2 y3) : MOk g2 t2 x x3 y y3 := ⟨h2.1, h2.2.1, fun i k h4 => (h2.2.2.1 i k h4).trans (h.2.2.1 i k h4), fun i k h4 => (h2.2.2.2 i k h4).trans (h.2.2.2 i k h4)⟩
theorem ix_b {v : Int32} {b : Nat} (hb : b < 1000000) (h : 0 ≤ v ∧ v ≤ nI b) : ∃ n : Nat, v = nI n ∧ n ≤ b := by
  obtain ⟨z, rfl, hz⟩ := gI_ex v
  have h1 := (gI_le (b := (b : Int)) hz ⟨by omega, by omega⟩).mp h.2
  have h2 := (gI_le (a := 0) ⟨by decide, by decide⟩ hz).mp h.1
  exact ⟨z.toNat, by rw [gI_nI]; exact congrArg gI (by omega), by omega⟩
theorem row_eI {x : gk_X} {j : Nat} {r : Nat → Int32} (h : ∀ k, k < 256 → x j k = r k) {a b : Nat} (hb : b < 256) : gk_eI (gr x j) a (b + 1 - a) = gE r a b := eI_cg _ (fun k h1 h2 => congrArg Int32.toInt (h k (by omega)))
theorem row_ms {x : gk_X} {j : Nat} {r : Nat → Int32} (h : ∀ k, k < 256 → x j k = r k) {k a b : Nat} (hab : a ≤ b) (hb : b < 256) : gk_ms (x j) k a b = gk_ms r k a b := ms_cg hab (fun k h1 h2 => h k (by omega))
theorem row_pw {x : gk_X} {j : Nat} {r : Nat → Int32} (h : ∀ k, k < 256 → x j k = r k) {a b p i : Nat} (hb : b < 256) : gk_pw (gr x j) a p (b + 1 - a) i = gk_pw (gJ r) a p (b + 1 - a) i := pw_cg (fun k h1 h2 => congrArg Int32.toInt (h k (by omega))) i
theorem row_bd {g : Nat → Int32} {x : gk_X} {j : Nat} {r : Nat → Int32} (h : ∀ k, k < 256 → x j k = r k) (hr : ∀ k, k < 256 → -8640000 ≤ (r k).toInt ∧ (r k).toInt ≤ 8640000) {a b : Nat} (hb : b < 256) : gk_eI (gr x j) a (b + 1 - a) ≤ 9223372036854775807 := by
  rw [row_eI h hb]
  have := gE_b hr (a := a) hb
  omega
theorem cv_cg {r s r2 s2 : Nat → Int32} {lag : Int32} (h : ∀ k, k < 256 → r k = r2 k) (h2 : ∀ k, k < 256 → s k = s2 k) : ∀ n, n ≤ 256 → gk_cv r s lag n = gk_cv r2 s2 lag n
  | 0, _ => rfl
  | n + 1, hn => by
    unfold gk_cv
    rw [cv_cg h h2 n (by omega), h n (by omega), gk_at_cg h2]
def S_X11_emitted : gk_S := fun as n fl x y K => ∃ (s : Int32) (t : Int32) (g : Nat → Int32), as = [.ref 189, .int s, .int t] ∧ (n = 202 ∧ fl = gk_fT) ∧ (MG g x) ∧ (gOK g) ∧ ((0 ≤ s ∧ s < g 7) → (0 ≤ t ∧ t ≤ 255) → ∀ (x2 : gk_X) (y2 : gk_Y), MOk g 0 x x2 y y2 → K (.inl (some (.int (gI (vE g (cN s) (cN t)))))) n fl x2 y2) ∧ (¬ (0 ≤ s ∧ s < g 7) → ∀ (x2 : gk_X) (y2 : gk_Y), MOk g 1 x x2 y y2 → K (.inl (some (.int 0))) n fl x2 y2) ∧ ((0 ≤ s ∧ s < g 7) → ¬ (0 ≤ t ∧ t ≤ 255) → ∀ (x2 : gk_X) (y2 : gk_Y), MOk g 2 x x2 y y2 → K (.inl (some (.int 0))) n fl x2 y2)
theorem r_X11_emitted (w : gk_W c P cs (fun _ _ => none) rt uf sc K V) {idx : Nat} {s : Int32} {t : Int32} {g : Nat → Int32} (hd : decode c pc = .ok (.invokevirtual idx, 3)) (hp : pc + 3 = pc2) (hc : cs idx = some (1, 10, 3, 0, S_X11_emitted)) (h8 : Nat.ble (r.map Value.category).sum 8 = true) (hp0 : MG g x) (hp1 : gOK g) (kk0 : (0 ≤ s ∧ s < g 7) → (0 ≤ t ∧ t ≤ 255) → ∀ (x2 : gk_X) (y2 : gk_Y), MOk g 0 x x2 y y2 → V pc2 L ((.int (gI (vE g (cN s) (cN t)))) :: r) 202 gk_fT x2 y2 u) (kk1 : ¬ (0 ≤ s ∧ s < g 7) → ∀ (x2 : gk_X) (y2 : gk_Y), MOk g 1 x x2 y y2 → V pc2 L ((.int 0) :: r) 202 gk_fT x2 y2 u) (kk2 : (0 ≤ s ∧ s < g 7) → ¬ (0 ≤ t ∧ t ≤ 255) → ∀ (x2 : gk_X) (y2 : gk_Y), MOk g 2 x x2 y y2 → V pc2 L ((.int 0) :: r) 202 gk_fT x2 y2 u) : V pc L (.int t :: .int s :: .ref 189 :: r) 202 gk_fT x y u :=
  g_callv w hd hp hc (as := [.ref 189, .int s, .int t]) rfl h8 rfl rfl rfl (Or.inr (Or.inl ⟨Or.inl rfl, _, _, rfl, (gk_kd_j rfl rfl), rfl⟩)) (Or.inl rfl) ⟨s, t, g, rfl, ⟨rfl, rfl⟩, hp0, hp1, kk0, kk1, kk2⟩
def L_X11_emitted : List (Nat × gk_M0) := [(56, (0, 10, 1, 0, S_X11_isTime)), (64, (1, 10, 2, 0, S_X11_fail)), (94, (1, 10, 2, 0, S_X11_isSource)), (137, (1, 10, 3, 0, S_X11_emittedBy))]
def cs_X11_emitted : Nat → Option gk_M0 := gk_lk L_X11_emitted
theorem m_X11_emitted : ∀ (as : List Value) (n : Nat) (fl : gk_F) (x : gk_X) (y : gk_Y) (K : gk_K), S_X11_emitted as n fl x y K → (gk_L0 as).length ≤ 3 ∧ ∀ V : gk_V, gk_W cX11_emitted pX11 cs_X11_emitted (fun _ _ => none) (some .int) 0 none K V → V 0 (gk_en as 3) [] n fl x y 0 := by
  intro as n fl x y K hS
  obtain ⟨s, t, g, rfl, ⟨rfl, rfl⟩, hp0, hp1, q0, q1, q2⟩ := hS
  refine ⟨Nat.le_of_ble_eq_true rfl, fun V w => ?_⟩
  show V 0 [some (.ref 189), some (.int s), some (.int t)] [] 202 gk_fT x y 0
  obtain ⟨nv4, ns6, nm8, z6, z7, z8⟩ := wf_n hp1.1
  have w6 : 0 ≤ (g 6).toInt := by show 0 ≤ gz g 6; omega
  have w7 : 0 ≤ (g 7).toInt := by show 0 ≤ gz g 7; omega
  have w8 : 0 ≤ (g 8).toInt := by show 0 ≤ gz g 8; omega
  refine s_aload_n (pc2 := 1) w dX11_emitted_0 rfl rfl ?_
  refine s_iconst (pc2 := 2) (v := 0) w dX11_emitted_1 rfl rfl ?_
  refine m_putI (pc2 := 5) (ci := 10) (k := 4) w dX11_emitted_2 rfl rfl rfl rfl rfl (by intro h; cases h) ?_
  have f0 := MOk.ini (y := y) hp0
  generalize gk_up x 189 4 0 = x0 at f0 ⊢
  refine s_aload_n (pc2 := 6) w dX11_emitted_5 rfl rfl ?_
  refine s_iload_n (pc2 := 7) w dX11_emitted_6 rfl rfl ?_
  refine r_X11_isSource (pc2 := 10) w dX11_emitted_7 rfl rfl rfl ?_
  rw [f0.1 7 (by decide), isn_e w7]
  refine s_if_ne (pc2 := 13) (tgt := 19) w dX11_emitted_10 rfl (by decide) (fun c10 => ?_) (fun c10 => ?_)
  · rw [g_b0, Classical.not_not] at c10
    refine s_iload_n (pc2 := 20) w dX11_emitted_19 rfl rfl ?_
    refine r_X11_isTime (pc2 := 23) w dX11_emitted_20 rfl rfl rfl ?_
    refine s_if_eq (pc2 := 26) (tgt := 35) w dX11_emitted_23 rfl (by decide) (fun c23 => ?_) (fun c23 => ?_)
    · refine s_aload_n (pc2 := 36) w dX11_emitted_35 rfl rfl ?_
      refine s_iconst (pc2 := 37) (v := 2) w dX11_emitted_36 rfl rfl ?_
      refine r_X11_fail (pc2 := 40) w dX11_emitted_37 rfl rfl rfl ?_
      refine s_ireturn w dX11_emitted_40 rfl rfl ?_
      rw [g_b0] at c23
      exact q2 c10 (fun hc => c23 hc) _ _ (f0.fail 2)
    · rw [g_b0, Classical.not_not] at c23
      obtain ⟨a, rfl, ah⟩ := ix_n c10
      have ah : a < nS g := ah
      obtain ⟨k, rfl, kh⟩ := ix_t c23
      rw [cN_n a (by omega), cN_n k (by omega)] at q0
      refine s_aload_n (pc2 := 27) w dX11_emitted_26 rfl rfl ?_
      refine s_iload_n (pc2 := 28) w dX11_emitted_27 rfl rfl ?_
      refine s_iload_n (pc2 := 29) w dX11_emitted_28 rfl rfl ?_
      refine r_X11_emittedBy (pc2 := 32) w dX11_emitted_29 rfl rfl rfl (fun k hk _ => f0.1 k (by omega)) hp1.1 rfl ah rfl kh ?_
      refine s_goto (tgt := 40) w dX11_emitted_32 (by decide) ?_
      refine s_ireturn w dX11_emitted_40 rfl rfl ?_
      exact q0 c10 c23 _ _ f0
  · refine s_aload_n (pc2 := 14) w dX11_emitted_13 rfl rfl ?_
    refine s_iconst (pc2 := 15) (v := 1) w dX11_emitted_14 rfl rfl ?_
    refine r_X11_fail (pc2 := 18) w dX11_emitted_15 rfl rfl rfl ?_
    refine s_ireturn w dX11_emitted_18 rfl rfl ?_
    rw [g_b0] at c10
    exact q1  (fun hc => c10 hc) _ _ (f0.fail 1)
theorem lk_X11_emitted {l : Launch} (hl : l.stackTraces = false) : ∀ q ∈ L_X11_emitted, (q.2.1 < 5 → gk_Lk l RX11 gk_W1 2 q.1 q.2.1 q.2.2.1 q.2.2.2.1 q.2.2.2.2.1 q.2.2.2.2.2) := (List.forall_mem_cons.mpr ⟨(fun _ => ⟨yX11_isTime, cX11_isTime, 1, (some .boolean), 1, _, M_X11_isTime hl, ⟨by decide, by decide⟩, ⟨by decide, by decide, by decide +kernel⟩, ⟨(gk_wm 1432 (by decide +kernel)), (gk_wm 99 (by decide +kernel))⟩, Or.inl ⟨rfl, rfl, (gk_wm 1431 (by decide +kernel)), gk_wm 1430 (by decide +kernel)⟩⟩), (List.forall_mem_cons.mpr ⟨(fun _ => ⟨yX11_fail, cX11_fail, 2, (some .int), 0, _, M_X11_fail hl, ⟨by decide, by decide⟩, ⟨by decide, by decide, by decide +kernel⟩, ⟨(gk_wm 1342 (by decide +kernel)), (gk_wm 99 (by decide +kernel))⟩, Or.inr (Or.inr (Or.inr (Or.inl ⟨rfl, rfl, (gk_wm 1341 (by decide +kernel)), (gk_wm 32 (by decide +kernel)), gk_wm 1339 (by decide +kernel), by decide, rfl⟩)))⟩), (List.forall_mem_cons.mpr ⟨(fun _ => ⟨yX11_isSource, cX11_isSource, 2, (some .boolean), 1, _, M_X11_isSource hl, ⟨by decide, by decide⟩, ⟨by decide, by decide, by decide +kernel⟩, ⟨(gk_wm 1398 (by decide +kernel)), (gk_wm 99 (by decide +kernel))⟩, Or.inr (Or.inr (Or.inr (Or.inl ⟨rfl, rfl, (gk_wm 1397 (by decide +kernel)), (gk_wm 37 (by decide +kernel)), gk_wm 1395 (by decide +kernel), by decide, rfl⟩)))⟩), (List.forall_mem_cons.mpr ⟨(fun _ => ⟨yX11_emittedBy, cX11_emittedBy, 3, (some .int), 1, _, M_X11_emittedBy hl, ⟨by decide, by decide⟩, ⟨by decide, by decide, by decide +kernel⟩, ⟨(gk_wm 1436 (by decide +kernel)), (gk_wm 99 (by decide +kernel))⟩, Or.inr (Or.inr (Or.inr (Or.inl ⟨rfl, rfl, (gk_wm 1435 (by decide +kernel)), (gk_wm 41 (by decide +kernel)), gk_wm 1433 (by decide +kernel), by decide, rfl⟩)))⟩), (fun _ h => absurd h List.not_mem_nil)⟩)⟩)⟩)⟩)
theorem sp_X11_emitted : ∀ q ∈ L_X11_emitted, gk_Sq RX11 gk_W1 2 q := (List.forall_mem_cons.mpr ⟨⟨fun h => absurd h (by decide), fun h => absurd h (by decide), fun h => absurd h (by decide), fun h => absurd h (by decide), fun h => absurd h (by decide), fun h => absurd h (by decide)⟩, (List.forall_mem_cons.mpr ⟨⟨fun h => absurd h (by decide), fun h => absurd h (by decide), fun h => absurd h (by decide), fun h => absurd h (by decide), fun h => absurd h (by decide), fun h => absurd h (by decide)⟩, (List.forall_mem_cons.mpr ⟨⟨fun h => absurd h (by decide), fun h => absurd h (by decide), fun h => absurd h (by decide), fun h => absurd h (by decide), fun h => absurd h (by decide), fun h => absurd h (by decide)⟩, (List.forall_mem_cons.mpr ⟨⟨fun h => absurd h (by decide), fun h => absurd h (by decide), fun h => absurd h (by decide), fun h => absurd h (by decide), fun h => absurd h (by decide), fun h => absurd h (by decide)⟩, (fun _ h => absurd h List.not_mem_nil)⟩)⟩)⟩)⟩)
theorem M_X11_emitted {l : Launch} (hl : l.stackTraces = false) : gk_Mt l yX11_emitted (.code yX11_emitted cX11_emitted 3 (some .int) :: gk_W1) 2 0 S_X11_emitted := gk_meth hl gk_cw_ok (by decide +kernel) rfl m_X11_emitted pX11_ok (gk_Sp_of sp_X11_emitted) pX11_st (fun ci m S h => absurd h (by intro h; cases h)) (xf_X11 2) (fun idx kd ci mm cost S2 h h5 => lk_X11_emitted hl _ (gk_lk_mem h) h5)

def S_X11_distance : gk_S := fun as n fl x y K => ∃ (m : Int32) (s : Int32) (t : Int32) (f : Int32) (g : Nat → Int32) (rf : Bool), as = [.ref 189, .int m, .int s, .int t, .int f] ∧ (n = 202 ∧ fl = gk_fT) ∧ (MG g x) ∧ (gOK g) ∧ (f = if rf then 1 else 0) ∧ (((0 ≤ m ∧ m < g 8) ∧ (0 ≤ s ∧ s < g 7)) → (0 ≤ t ∧ t ≤ 255) → ∀ (x2 : gk_X) (y2 : gk_Y), MOk g 0 x x2 y y2 → K (.inl (some (.int (gI (gk_dl (pA g (cN m) (cN s)) (pS g (cN s)) (pBe g (cN m) (cN s) rf) ((cN t : Nat) : Int)))))) n fl x2 y2) ∧ (¬ ((0 ≤ m ∧ m < g 8) ∧ (0 ≤ s ∧ s < g 7)) → ∀ (x2 : gk_X) (y2 : gk_Y), MOk g 1 x x2 y y2 → K (.inl (some (.int 0))) n fl x2 y2) ∧ (((0 ≤ m ∧ m < g 8) ∧ (0 ≤ s ∧ s < g 7)) → ¬ (0 ≤ t ∧ t ≤ 255) → ∀ (x2 : gk_X) (y2 : gk_Y), MOk g 2 x x2 y y2 → K (.inl (some (.int 0))) n fl x2 y2)
theorem r_X11_distance (w : gk_W c P cs (fun _ _ => none) rt uf sc K V) {idx : Nat} {m : Int32} {s : Int32} {t : Int32} {f : Int32} {g : Nat → Int32} {rf : Bool} (hd : decode c pc = .ok (.invokevirtual idx, 3)) (hp : pc + 3 = pc2) (hc : cs idx = some (1, 10, 5, 0, S_X11_distance)) (h8 : Nat.ble (r.map Value.category).sum 8 = true) (hp0 : MG g x) (hp1 : gOK g) (hp2 : f = if rf then 1 else 0) (kk0 : ((0 ≤ m ∧ m < g 8) ∧ (0 ≤ s ∧ s < g 7)) → (0 ≤ t ∧ t ≤ 255) → ∀ (x2 : gk_X) (y2 : gk_Y), MOk g 0 x x2 y y2 → V pc2 L ((.int (gI (gk_dl (pA g (cN m) (cN s)) (pS g (cN s)) (pBe g (cN m) (cN s) rf) ((cN t : Nat) : Int)))) :: r) 202 gk_fT x2 y2 u) (kk1 : ¬ ((0 ≤ m ∧ m < g 8) ∧ (0 ≤ s ∧ s < g 7)) → ∀ (x2 : gk_X) (y2 : gk_Y), MOk g 1 x x2 y y2 → V pc2 L ((.int 0) :: r) 202 gk_fT x2 y2 u) (kk2 : ((0 ≤ m ∧ m < g 8) ∧ (0 ≤ s ∧ s < g 7)) → ¬ (0 ≤ t ∧ t ≤ 255) → ∀ (x2 : gk_X) (y2 : gk_Y), MOk g 2 x x2 y y2 → V pc2 L ((.int 0) :: r) 202 gk_fT x2 y2 u) : V pc L (.int f :: .int t :: .int s :: .int m :: .ref 189 :: r) 202 gk_fT x y u :=
  g_callv w hd hp hc (as := [.ref 189, .int m, .int s, .int t, .int f]) rfl h8 rfl rfl rfl (Or.inr (Or.inl ⟨Or.inl rfl, _, _, rfl, (gk_kd_j rfl rfl), rfl⟩)) (Or.inl rfl) ⟨m, s, t, f, g, rf, rfl, ⟨rfl, rfl⟩, hp0, hp1, hp2, kk0, kk1, kk2⟩
def L_X11_distance : List (Nat × gk_M0) := [(56, (0, 10, 1, 0, S_X11_isTime)), (64, (1, 10, 2, 0, S_X11_fail)), (94, (1, 10, 2, 0, S_X11_isSource)), (106, (1, 10, 2, 0, S_X11_isMicrophone)), (140, (1, 10, 3, 0, S_X11_laySource))]
def cs_X11_distance : Nat → Option gk_M0 := gk_lk L_X11_distance
theorem m_X11_distance : ∀ (as : List Value) (n : Nat) (fl : gk_F) (x : gk_X) (y : gk_Y) (K : gk_K), S_X11_distance as n fl x y K → (gk_L0 as).length ≤ 5 ∧ ∀ V : gk_V, gk_W cX11_distance pX11 cs_X11_distance (fun _ _ => none) (some .int) 0 none K V → V 0 (gk_en as 5) [] n fl x y 0 := by
  intro as n fl x y K hS
  obtain ⟨m, s, t, f, g, rf, rfl, ⟨rfl, rfl⟩, hp0, hp1, hp2, q0, q1, q2⟩ := hS
  refine ⟨Nat.le_of_ble_eq_true rfl, fun V w => ?_⟩
  show V 0 [some (.ref 189), some (.int m), some (.int s), some (.int t), some (.int f)] [] 202 gk_fT x y 0
  obtain ⟨nv4, ns6, nm8, z6, z7, z8⟩ := wf_n hp1.1
  have w6 : 0 ≤ (g 6).toInt := by show 0 ≤ gz g 6; omega
  have w7 : 0 ≤ (g 7).toInt := by show 0 ≤ gz g 7; omega
  have w8 : 0 ≤ (g 8).toInt := by show 0 ≤ gz g 8; omega
  refine s_aload_n (pc2 := 1) w dX11_distance_0 rfl rfl ?_
  refine s_iconst (pc2 := 2) (v := 0) w dX11_distance_1 rfl rfl ?_
  refine m_putI (pc2 := 5) (ci := 10) (k := 4) w dX11_distance_2 rfl rfl rfl rfl rfl (by intro h; cases h) ?_
  have f0 := MOk.ini (y := y) hp0
  generalize gk_up x 189 4 0 = x0 at f0 ⊢
  refine s_aload_n (pc2 := 6) w dX11_distance_5 rfl rfl ?_
  refine s_iload_n (pc2 := 7) w dX11_distance_6 rfl rfl ?_
  refine r_X11_isMicrophone (pc2 := 10) w dX11_distance_7 rfl rfl rfl ?_
  rw [f0.1 8 (by decide), isn_e w8]
  refine s_if_eq (pc2 := 13) (tgt := 21) w dX11_distance_10 rfl (by decide) (fun c10 => ?_) (fun c10 => ?_)
  · refine s_aload_n (pc2 := 22) w dX11_distance_21 rfl rfl ?_
    refine s_iconst (pc2 := 23) (v := 1) w dX11_distance_22 rfl rfl ?_
    refine r_X11_fail (pc2 := 26) w dX11_distance_23 rfl rfl rfl ?_
    refine s_ireturn w dX11_distance_26 rfl rfl ?_
    rw [g_b0] at c10
    exact q1  (fun hc => c10 hc.1) _ _ (f0.fail 1)
  · rw [g_b0, Classical.not_not] at c10
    refine s_aload_n (pc2 := 14) w dX11_distance_13 rfl rfl ?_
    refine s_iload_n (pc2 := 15) w dX11_distance_14 rfl rfl ?_
    refine r_X11_isSource (pc2 := 18) w dX11_distance_15 rfl rfl rfl ?_
    rw [f0.1 7 (by decide), isn_e w7]
    refine s_if_ne (pc2 := 21) (tgt := 27) w dX11_distance_18 rfl (by decide) (fun c18 => ?_) (fun c18 => ?_)
    · rw [g_b0, Classical.not_not] at c18
      refine s_iload_n (pc2 := 28) w dX11_distance_27 rfl rfl ?_
      refine r_X11_isTime (pc2 := 31) w dX11_distance_28 rfl rfl rfl ?_
      refine s_if_ne (pc2 := 34) (tgt := 40) w dX11_distance_31 rfl (by decide) (fun c31 => ?_) (fun c31 => ?_)
      · rw [g_b0, Classical.not_not] at c31
        subst hp2
        obtain ⟨a, rfl, ah⟩ := ix_n c10
        have ah : a < nM g := ah
        obtain ⟨b, rfl, bh⟩ := ix_n c18
        have bh : b < nS g := bh
        obtain ⟨k, rfl, kh⟩ := ix_t c31
        rw [cN_n a (by omega), cN_n b (by omega), cN_n k (by omega)] at q0
        refine s_aload_n (pc2 := 41) w dX11_distance_40 rfl rfl ?_
        refine s_iload_n (pc2 := 42) w dX11_distance_41 rfl rfl ?_
        refine s_iload_n (pc2 := 43) w dX11_distance_42 rfl rfl ?_
        refine r_X11_laySource (pc2 := 46) w dX11_distance_43 rfl rfl rfl (fun k hk _ => f0.1 k (by omega)) hp1.1 rfl ah rfl bh ?_
        refine s_iload (pc2 := 48) w dX11_distance_46 rfl rfl ?_
        refine s_if_eq (pc2 := 51) (tgt := 60) w dX11_distance_48 rfl (by decide) (fun c48 => ?_) (fun c48 => ?_)
        · refine s_aload_n (pc2 := 61) w dX11_distance_60 rfl rfl ?_
          refine m_getR (pc2 := 64) (ci := 10) (k := 5) (j2 := 194) w dX11_distance_61 rfl rfl rfl rfl rfl rfl ?_
          refine s_iload_n (pc2 := 65) w dX11_distance_64 rfl rfl ?_
          refine m_ialoadN (pc2 := 66) (t := k) (N := 256) w dX11_distance_65 rfl rfl rfl rfl kh rfl ?_
          have e := rf_0 c48
          subst e
          rw [gk_ur_ne (show 194 ≠ 195 by decide), gk_ur_in kh]
          refine s_ireturn w dX11_distance_66 rfl rfl ?_
          exact q0 ⟨c10, c18⟩ c31 _ _ ((f0.ur (by decide)).ur (by decide))
        · refine s_aload_n (pc2 := 52) w dX11_distance_51 rfl rfl ?_
          refine m_getR (pc2 := 55) (ci := 10) (k := 6) (j2 := 195) w dX11_distance_52 rfl rfl rfl rfl rfl rfl ?_
          refine s_iload_n (pc2 := 56) w dX11_distance_55 rfl rfl ?_
          refine m_ialoadN (pc2 := 57) (t := k) (N := 256) w dX11_distance_56 rfl rfl rfl rfl kh rfl ?_
          refine s_goto (tgt := 66) w dX11_distance_57 (by decide) ?_
          have e := rf_1 c48
          subst e
          rw [gk_ur_in kh]
          refine s_ireturn w dX11_distance_66 rfl rfl ?_
          exact q0 ⟨c10, c18⟩ c31 _ _ ((f0.ur (by decide)).ur (by decide))
      · refine s_aload_n (pc2 := 35) w dX11_distance_34 rfl rfl ?_
        refine s_iconst (pc2 := 36) (v := 2) w dX11_distance_35 rfl rfl ?_
        refine r_X11_fail (pc2 := 39) w dX11_distance_36 rfl rfl rfl ?_
        refine s_ireturn w dX11_distance_39 rfl rfl ?_
        rw [g_b0] at c31
        exact q2 ⟨c10, c18⟩ (fun hc => c31 hc) _ _ (f0.fail 2)
    · refine s_aload_n (pc2 := 22) w dX11_distance_21 rfl rfl ?_
      refine s_iconst (pc2 := 23) (v := 1) w dX11_distance_22 rfl rfl ?_
      refine r_X11_fail (pc2 := 26) w dX11_distance_23 rfl rfl rfl ?_
      refine s_ireturn w dX11_distance_26 rfl rfl ?_
      rw [g_b0] at c18
      exact q1  (fun hc => c18 hc.2) _ _ (f0.fail 1)
theorem lk_X11_distance {l : Launch} (hl : l.stackTraces = false) : ∀ q ∈ L_X11_distance, (q.2.1 < 5 → gk_Lk l RX11 gk_W1 4 q.1 q.2.1 q.2.2.1 q.2.2.2.1 q.2.2.2.2.1 q.2.2.2.2.2) := (List.forall_mem_cons.mpr ⟨(fun _ => ⟨yX11_isTime, cX11_isTime, 1, (some .boolean), 1, _, M_X11_isTime hl, ⟨by decide, by decide⟩, ⟨by decide, by decide, by decide +kernel⟩, ⟨(gk_wm 1432 (by decide +kernel)), (gk_wm 99 (by decide +kernel))⟩, Or.inl ⟨rfl, rfl, (gk_wm 1431 (by decide +kernel)), gk_wm 1430 (by decide +kernel)⟩⟩), (List.forall_mem_cons.mpr ⟨(fun _ => ⟨yX11_fail, cX11_fail, 2, (some .int), 0, _, M_X11_fail hl, ⟨by decide, by decide⟩, ⟨by decide, by decide, by decide +kernel⟩, ⟨(gk_wm 1342 (by decide +kernel)), (gk_wm 99 (by decide +kernel))⟩, Or.inr (Or.inr (Or.inr (Or.inl ⟨rfl, rfl, (gk_wm 1341 (by decide +kernel)), (gk_wm 32 (by decide +kernel)), gk_wm 1339 (by decide +kernel), by decide, rfl⟩)))⟩), (List.forall_mem_cons.mpr ⟨(fun _ => ⟨yX11_isSource, cX11_isSource, 2, (some .boolean), 1, _, M_X11_isSource hl, ⟨by decide, by decide⟩, ⟨by decide, by decide, by decide +kernel⟩, ⟨(gk_wm 1398 (by decide +kernel)), (gk_wm 99 (by decide +kernel))⟩, Or.inr (Or.inr (Or.inr (Or.inl ⟨rfl, rfl, (gk_wm 1397 (by decide +kernel)), (gk_wm 37 (by decide +kernel)), gk_wm 1395 (by decide +kernel), by decide, rfl⟩)))⟩), (List.forall_mem_cons.mpr ⟨(fun _ => ⟨yX11_isMicrophone, cX11_isMicrophone, 2, (some .boolean), 1, _, M_X11_isMicrophone hl, ⟨by decide, by decide⟩, ⟨by decide, by decide, by decide +kernel⟩, ⟨(gk_wm 1421 (by decide +kernel)), (gk_wm 99 (by decide +kernel))⟩, Or.inr (Or.inr (Or.inr (Or.inl ⟨rfl, rfl, (gk_wm 1420 (by decide +kernel)), (gk_wm 40 (by decide +kernel)), gk_wm 1418 (by decide +kernel), by decide, rfl⟩)))⟩), (List.forall_mem_cons.mpr ⟨(fun _ => ⟨yX11_laySource, cX11_laySource, 4, none, 3, _, M_X11_laySource hl, ⟨by decide, by decide⟩, ⟨by decide, by decide, by decide +kernel⟩, ⟨(gk_wm 1444 (by decide +kernel)), (gk_wm 99 (by decide +kernel))⟩, Or.inr (Or.inr (Or.inr (Or.inl ⟨rfl, rfl, (gk_wm 1443 (by decide +kernel)), (gk_wm 42 (by decide +kernel)), gk_wm 1441 (by decide +kernel), by decide, rfl⟩)))⟩), (fun _ h => absurd h List.not_mem_nil)⟩)⟩)⟩)⟩)⟩)
theorem sp_X11_distance : ∀ q ∈ L_X11_distance, gk_Sq RX11 gk_W1 4 q := (List.forall_mem_cons.mpr ⟨⟨fun h => absurd h (by decide), fun h => absurd h (by decide), fun h => absurd h (by decide), fun h => absurd h (by decide), fun h => absurd h (by decide), fun h => absurd h (by decide)⟩, (List.forall_mem_cons.mpr ⟨⟨fun h => absurd h (by decide), fun h => absurd h (by decide), fun h => absurd h (by decide), fun h => absurd h (by decide), fun h => absurd h (by decide), fun h => absurd h (by decide)⟩, (List.forall_mem_cons.mpr ⟨⟨fun h => absurd h (by decide), fun h => absurd h (by decide), fun h => absurd h (by decide), fun h => absurd h (by decide), fun h => absurd h (by decide), fun h => absurd h (by decide)⟩, (List.forall_mem_cons.mpr ⟨⟨fun h => absurd h (by decide), fun h => absurd h (by decide), fun h => absurd h (by decide), fun h => absurd h (by decide), fun h => absurd h (by decide), fun h => absurd h (by decide)⟩, (List.forall_mem_cons.mpr ⟨⟨fun h => absurd h (by decide), fun h => absurd h (by decide), fun h => absurd h (by decide), fun h => absurd h (by decide), fun h => absurd h (by decide), fun h => absurd h (by decide)⟩, (fun _ h => absurd h List.not_mem_nil)⟩)⟩)⟩)⟩)⟩)
theorem M_X11_distance {l : Launch} (hl : l.stackTraces = false) : gk_Mt l yX11_distance (.code yX11_distance cX11_distance 5 (some .int) :: gk_W1) 4 0 S_X11_distance := gk_meth hl gk_cw_ok (by decide +kernel) rfl m_X11_distance pX11_ok (gk_Sp_of sp_X11_distance) pX11_st (fun ci m S h => absurd h (by intro h; cases h)) (xf_X11 4) (fun idx kd ci mm cost S2 h h5 => lk_X11_distance hl _ (gk_lk_mem h) h5)

def S_X11_emissionTime : gk_S := fun as n fl x y K => ∃ (m : Int32) (s : Int32) (t : Int32) (f : Int32) (g : Nat → Int32) (rf : Bool), as = [.ref 189, .int m, .int s, .int t, .int f] ∧ (n = 202 ∧ fl = gk_fT) ∧ (MG g x) ∧ (gOK g) ∧ (f = if rf then 1 else 0) ∧ (((0 ≤ m ∧ m < g 8) ∧ (0 ≤ s ∧ s < g 7)) → (0 ≤ t ∧ t ≤ 255) → ∀ (x2 : gk_X) (y2 : gk_Y), MOk g 0 x x2 y y2 → K (.inl (some (.int (gI (gk_last (gk_lp2 (pA g (cN m) (cN s)) (pS g (cN s)) (pBe g (cN m) (cN s) rf) (gz g 0) ((cN t : Nat) : Int)) (cN t + 1)))))) n fl x2 y2) ∧ (¬ ((0 ≤ m ∧ m < g 8) ∧ (0 ≤ s ∧ s < g 7)) → ∀ (x2 : gk_X) (y2 : gk_Y), MOk g 1 x x2 y y2 → K (.inl (some (.int 0))) n fl x2 y2) ∧ (((0 ≤ m ∧ m < g 8) ∧ (0 ≤ s ∧ s < g 7)) → ¬ (0 ≤ t ∧ t ≤ 255) → ∀ (x2 : gk_X) (y2 : gk_Y), MOk g 2 x x2 y y2 → K (.inl (some (.int 0))) n fl x2 y2)
theorem r_X11_emissionTime (w : gk_W c P cs (fun _ _ => none) rt uf sc K V) {idx : Nat} {m : Int32} {s : Int32} {t : Int32} {f : Int32} {g : Nat → Int32} {rf : Bool} (hd : decode c pc = .ok (.invokevirtual idx, 3)) (hp : pc + 3 = pc2) (hc : cs idx = some (1, 10, 5, 0, S_X11_emissionTime)) (h8 : Nat.ble (r.map Value.category).sum 8 = true) (hp0 : MG g x) (hp1 : gOK g) (hp2 : f = if rf then 1 else 0) (kk0 : ((0 ≤ m ∧ m < g 8) ∧ (0 ≤ s ∧ s < g 7)) → (0 ≤ t ∧ t ≤ 255) → ∀ (x2 : gk_X) (y2 : gk_Y), MOk g 0 x x2 y y2 → V pc2 L ((.int (gI (gk_last (gk_lp2 (pA g (cN m) (cN s)) (pS g (cN s)) (pBe g (cN m) (cN s) rf) (gz g 0) ((cN t : Nat) : Int)) (cN t + 1)))) :: r) 202 gk_fT x2 y2 u) (kk1 : ¬ ((0 ≤ m ∧ m < g 8) ∧ (0 ≤ s ∧ s < g 7)) → ∀ (x2 : gk_X) (y2 : gk_Y), MOk g 1 x x2 y y2 → V pc2 L ((.int 0) :: r) 202 gk_fT x2 y2 u) (kk2 : ((0 ≤ m ∧ m < g 8) ∧ (0 ≤ s ∧ s < g 7)) → ¬ (0 ≤ t ∧ t ≤ 255) → ∀ (x2 : gk_X) (y2 : gk_Y), MOk g 2 x x2 y y2 → V pc2 L ((.int 0) :: r) 202 gk_fT x2 y2 u) : V pc L (.int f :: .int t :: .int s :: .int m :: .ref 189 :: r) 202 gk_fT x y u :=
  g_callv w hd hp hc (as := [.ref 189, .int m, .int s, .int t, .int f]) rfl h8 rfl rfl rfl (Or.inr (Or.inl ⟨Or.inl rfl, _, _, rfl, (gk_kd_j rfl rfl), rfl⟩)) (Or.inl rfl) ⟨m, s, t, f, g, rf, rfl, ⟨rfl, rfl⟩, hp0, hp1, hp2, kk0, kk1, kk2⟩
def L_X11_emissionTime : List (Nat × gk_M0) := [(56, (0, 10, 1, 0, S_X11_isTime)), (64, (1, 10, 2, 0, S_X11_fail)), (94, (1, 10, 2, 0, S_X11_isSource)), (106, (1, 10, 2, 0, S_X11_isMicrophone)), (140, (1, 10, 3, 0, S_X11_laySource)), (144, (1, 10, 3, 0, S_X11_latest))]
def cs_X11_emissionTime : Nat → Option gk_M0 := gk_lk L_X11_emissionTime
theorem m_X11_emissionTime : ∀ (as : List Value) (n : Nat) (fl : gk_F) (x : gk_X) (y : gk_Y) (K : gk_K), S_X11_emissionTime as n fl x y K → (gk_L0 as).length ≤ 5 ∧ ∀ V : gk_V, gk_W cX11_emissionTime pX11 cs_X11_emissionTime (fun _ _ => none) (some .int) 0 none K V → V 0 (gk_en as 5) [] n fl x y 0 := by
  intro as n fl x y K hS
  obtain ⟨m, s, t, f, g, rf, rfl, ⟨rfl, rfl⟩, hp0, hp1, hp2, q0, q1, q2⟩ := hS
  refine ⟨Nat.le_of_ble_eq_true rfl, fun V w => ?_⟩
  show V 0 [some (.ref 189), some (.int m), some (.int s), some (.int t), some (.int f)] [] 202 gk_fT x y 0
  obtain ⟨nv4, ns6, nm8, z6, z7, z8⟩ := wf_n hp1.1
  have w6 : 0 ≤ (g 6).toInt := by show 0 ≤ gz g 6; omega
  have w7 : 0 ≤ (g 7).toInt := by show 0 ≤ gz g 7; omega
  have w8 : 0 ≤ (g 8).toInt := by show 0 ≤ gz g 8; omega
  refine s_aload_n (pc2 := 1) w dX11_emissionTime_0 rfl rfl ?_
  refine s_iconst (pc2 := 2) (v := 0) w dX11_emissionTime_1 rfl rfl ?_
  refine m_putI (pc2 := 5) (ci := 10) (k := 4) w dX11_emissionTime_2 rfl rfl rfl rfl rfl (by intro h; cases h) ?_
  have f0 := MOk.ini (y := y) hp0
  generalize gk_up x 189 4 0 = x0 at f0 ⊢
  refine s_aload_n (pc2 := 6) w dX11_emissionTime_5 rfl rfl ?_
  refine s_iload_n (pc2 := 7) w dX11_emissionTime_6 rfl rfl ?_
  refine r_X11_isMicrophone (pc2 := 10) w dX11_emissionTime_7 rfl rfl rfl ?_
  rw [f0.1 8 (by decide), isn_e w8]
  refine s_if_eq (pc2 := 13) (tgt := 21) w dX11_emissionTime_10 rfl (by decide) (fun c10 => ?_) (fun c10 => ?_)
  · refine s_aload_n (pc2 := 22) w dX11_emissionTime_21 rfl rfl ?_
    refine s_iconst (pc2 := 23) (v := 1) w dX11_emissionTime_22 rfl rfl ?_
    refine r_X11_fail (pc2 := 26) w dX11_emissionTime_23 rfl rfl rfl ?_
    refine s_ireturn w dX11_emissionTime_26 rfl rfl ?_
    rw [g_b0] at c10
    exact q1  (fun hc => c10 hc.1) _ _ (f0.fail 1)
  · rw [g_b0, Classical.not_not] at c10
    refine s_aload_n (pc2 := 14) w dX11_emissionTime_13 rfl rfl ?_
    refine s_iload_n (pc2 := 15) w dX11_emissionTime_14 rfl rfl ?_
    refine r_X11_isSource (pc2 := 18) w dX11_emissionTime_15 rfl rfl rfl ?_
    rw [f0.1 7 (by decide), isn_e w7]
    refine s_if_ne (pc2 := 21) (tgt := 27) w dX11_emissionTime_18 rfl (by decide) (fun c18 => ?_) (fun c18 => ?_)
    · rw [g_b0, Classical.not_not] at c18
      refine s_iload_n (pc2 := 28) w dX11_emissionTime_27 rfl rfl ?_
      refine r_X11_isTime (pc2 := 31) w dX11_emissionTime_28 rfl rfl rfl ?_
      refine s_if_ne (pc2 := 34) (tgt := 40) w dX11_emissionTime_31 rfl (by decide) (fun c31 => ?_) (fun c31 => ?_)
      · rw [g_b0, Classical.not_not] at c31
        subst hp2
        obtain ⟨a, rfl, ah⟩ := ix_n c10
        have ah : a < nM g := ah
        obtain ⟨b, rfl, bh⟩ := ix_n c18
        have bh : b < nS g := bh
        obtain ⟨k, rfl, kh⟩ := ix_t c31
        rw [cN_n a (by omega), cN_n b (by omega), cN_n k (by omega)] at q0
        refine s_aload_n (pc2 := 41) w dX11_emissionTime_40 rfl rfl ?_
        refine s_iload_n (pc2 := 42) w dX11_emissionTime_41 rfl rfl ?_
        refine s_iload_n (pc2 := 43) w dX11_emissionTime_42 rfl rfl ?_
        refine r_X11_laySource (pc2 := 46) w dX11_emissionTime_43 rfl rfl rfl (fun k hk _ => f0.1 k (by omega)) hp1.1 rfl ah rfl bh ?_
        refine s_aload_n (pc2 := 47) w dX11_emissionTime_46 rfl rfl ?_
        refine s_iload_n (pc2 := 48) w dX11_emissionTime_47 rfl rfl ?_
        refine s_iload (pc2 := 50) w dX11_emissionTime_48 rfl rfl ?_
        refine r_X11_latest (pc2 := 53) w dX11_emissionTime_50 rfl rfl rfl rfl kh ((gk_ur_ne (by decide)).trans ((gk_ur_ne (by decide)).trans ((f0.1 0 (by decide)).trans (gz_I g 0)))) hp1.1.1.1 ((wf_path hp1.1 ah bh).2.1 rf) (fun t ht => by cases rf; exact (gk_ur_ne (by decide)).trans (gk_ur_in ht); exact gk_ur_in ht) rfl ?_
        refine s_ireturn w dX11_emissionTime_53 rfl rfl ?_
        exact q0 ⟨c10, c18⟩ c31 _ _ ((f0.ur (by decide)).ur (by decide))
      · refine s_aload_n (pc2 := 35) w dX11_emissionTime_34 rfl rfl ?_
        refine s_iconst (pc2 := 36) (v := 2) w dX11_emissionTime_35 rfl rfl ?_
        refine r_X11_fail (pc2 := 39) w dX11_emissionTime_36 rfl rfl rfl ?_
        refine s_ireturn w dX11_emissionTime_39 rfl rfl ?_
        rw [g_b0] at c31
        exact q2 ⟨c10, c18⟩ (fun hc => c31 hc) _ _ (f0.fail 2)
    · refine s_aload_n (pc2 := 22) w dX11_emissionTime_21 rfl rfl ?_
      refine s_iconst (pc2 := 23) (v := 1) w dX11_emissionTime_22 rfl rfl ?_
      refine r_X11_fail (pc2 := 26) w dX11_emissionTime_23 rfl rfl rfl ?_
      refine s_ireturn w dX11_emissionTime_26 rfl rfl ?_
      rw [g_b0] at c18
      exact q1  (fun hc => c18 hc.2) _ _ (f0.fail 1)
theorem lk_X11_emissionTime {l : Launch} (hl : l.stackTraces = false) : ∀ q ∈ L_X11_emissionTime, (q.2.1 < 5 → gk_Lk l RX11 gk_W1 4 q.1 q.2.1 q.2.2.1 q.2.2.2.1 q.2.2.2.2.1 q.2.2.2.2.2) := (List.forall_mem_cons.mpr ⟨(fun _ => ⟨yX11_isTime, cX11_isTime, 1, (some .boolean), 1, _, M_X11_isTime hl, ⟨by decide, by decide⟩, ⟨by decide, by decide, by decide +kernel⟩, ⟨(gk_wm 1432 (by decide +kernel)), (gk_wm 99 (by decide +kernel))⟩, Or.inl ⟨rfl, rfl, (gk_wm 1431 (by decide +kernel)), gk_wm 1430 (by decide +kernel)⟩⟩), (List.forall_mem_cons.mpr ⟨(fun _ => ⟨yX11_fail, cX11_fail, 2, (some .int), 0, _, M_X11_fail hl, ⟨by decide, by decide⟩, ⟨by decide, by decide, by decide +kernel⟩, ⟨(gk_wm 1342 (by decide +kernel)), (gk_wm 99 (by decide +kernel))⟩, Or.inr (Or.inr (Or.inr (Or.inl ⟨rfl, rfl, (gk_wm 1341 (by decide +kernel)), (gk_wm 32 (by decide +kernel)), gk_wm 1339 (by decide +kernel), by decide, rfl⟩)))⟩), (List.forall_mem_cons.mpr ⟨(fun _ => ⟨yX11_isSource, cX11_isSource, 2, (some .boolean), 1, _, M_X11_isSource hl, ⟨by decide, by decide⟩, ⟨by decide, by decide, by decide +kernel⟩, ⟨(gk_wm 1398 (by decide +kernel)), (gk_wm 99 (by decide +kernel))⟩, Or.inr (Or.inr (Or.inr (Or.inl ⟨rfl, rfl, (gk_wm 1397 (by decide +kernel)), (gk_wm 37 (by decide +kernel)), gk_wm 1395 (by decide +kernel), by decide, rfl⟩)))⟩), (List.forall_mem_cons.mpr ⟨(fun _ => ⟨yX11_isMicrophone, cX11_isMicrophone, 2, (some .boolean), 1, _, M_X11_isMicrophone hl, ⟨by decide, by decide⟩, ⟨by decide, by decide, by decide +kernel⟩, ⟨(gk_wm 1421 (by decide +kernel)), (gk_wm 99 (by decide +kernel))⟩, Or.inr (Or.inr (Or.inr (Or.inl ⟨rfl, rfl, (gk_wm 1420 (by decide +kernel)), (gk_wm 40 (by decide +kernel)), gk_wm 1418 (by decide +kernel), by decide, rfl⟩)))⟩), (List.forall_mem_cons.mpr ⟨(fun _ => ⟨yX11_laySource, cX11_laySource, 4, none, 3, _, M_X11_laySource hl, ⟨by decide, by decide⟩, ⟨by decide, by decide, by decide +kernel⟩, ⟨(gk_wm 1444 (by decide +kernel)), (gk_wm 99 (by decide +kernel))⟩, Or.inr (Or.inr (Or.inr (Or.inl ⟨rfl, rfl, (gk_wm 1443 (by decide +kernel)), (gk_wm 42 (by decide +kernel)), gk_wm 1441 (by decide +kernel), by decide, rfl⟩)))⟩), (List.forall_mem_cons.mpr ⟨(fun _ => ⟨yX11_latest, cX11_latest, 5, (some .int), 1, _, M_X11_latest hl, ⟨by decide, by decide⟩, ⟨by decide, by decide, by decide +kernel⟩, ⟨(gk_wm 1477 (by decide +kernel)), (gk_wm 99 (by decide +kernel))⟩, Or.inr (Or.inr (Or.inr (Or.inl ⟨rfl, rfl, (gk_wm 1476 (by decide +kernel)), (gk_wm 48 (by decide +kernel)), gk_wm 1474 (by decide +kernel), by decide, rfl⟩)))⟩), (fun _ h => absurd h List.not_mem_nil)⟩)⟩)⟩)⟩)⟩)⟩)
theorem sp_X11_emissionTime : ∀ q ∈ L_X11_emissionTime, gk_Sq RX11 gk_W1 4 q := (List.forall_mem_cons.mpr ⟨⟨fun h => absurd h (by decide), fun h => absurd h (by decide), fun h => absurd h (by decide), fun h => absurd h (by decide), fun h => absurd h (by decide), fun h => absurd h (by decide)⟩, (List.forall_mem_cons.mpr ⟨⟨fun h => absurd h (by decide), fun h => absurd h (by decide), fun h => absurd h (by decide), fun h => absurd h (by decide), fun h => absurd h (by decide), fun h => absurd h (by decide)⟩, (List.forall_mem_cons.mpr ⟨⟨fun h => absurd h (by decide), fun h => absurd h (by decide), fun h => absurd h (by decide), fun h => absurd h (by decide), fun h => absurd h (by decide), fun h => absurd h (by decide)⟩, (List.forall_mem_cons.mpr ⟨⟨fun h => absurd h (by decide), fun h => absurd h (by decide), fun h => absurd h (by decide), fun h => absurd h (by decide), fun h => absurd h (by decide), fun h => absurd h (by decide)⟩, (List.forall_mem_cons.mpr ⟨⟨fun h => absurd h (by decide), fun h => absurd h (by decide), fun h => absurd h (by decide), fun h => absurd h (by decide), fun h => absurd h (by decide), fun h => absurd h (by decide)⟩, (List.forall_mem_cons.mpr ⟨⟨fun h => absurd h (by decide), fun h => absurd h (by decide), fun h => absurd h (by decide), fun h => absurd h (by decide), fun h => absurd h (by decide), fun h => absurd h (by decide)⟩, (fun _ h => absurd h List.not_mem_nil)⟩)⟩)⟩)⟩)⟩)⟩)
theorem M_X11_emissionTime {l : Launch} (hl : l.stackTraces = false) : gk_Mt l yX11_emissionTime (.code yX11_emissionTime cX11_emissionTime 5 (some .int) :: gk_W1) 4 0 S_X11_emissionTime := gk_meth hl gk_cw_ok (by decide +kernel) rfl m_X11_emissionTime pX11_ok (gk_Sp_of sp_X11_emissionTime) pX11_st (fun ci m S h => absurd h (by intro h; cases h)) (xf_X11 4) (fun idx kd ci mm cost S2 h h5 => lk_X11_emissionTime hl _ (gk_lk_mem h) h5)

def S_X11_sample : gk_S := fun as n fl x y K => ∃ (m : Int32) (t : Int32) (g : Nat → Int32), as = [.ref 189, .int m, .int t] ∧ (n = 202 ∧ fl = gk_fT) ∧ (MG g x) ∧ (gOK g) ∧ ((0 ≤ m ∧ m < g 8) → (0 ≤ t ∧ t ≤ 255) → ∀ (x2 : gk_X) (y2 : gk_Y), MOk g 0 x x2 y y2 → K (.inl (some (.int (g (186 + 256 * cN m + cN t))))) n fl x2 y2) ∧ (¬ (0 ≤ m ∧ m < g 8) → ∀ (x2 : gk_X) (y2 : gk_Y), MOk g 1 x x2 y y2 → K (.inl (some (.int 0))) n fl x2 y2) ∧ ((0 ≤ m ∧ m < g 8) → ¬ (0 ≤ t ∧ t ≤ 255) → ∀ (x2 : gk_X) (y2 : gk_Y), MOk g 2 x x2 y y2 → K (.inl (some (.int 0))) n fl x2 y2)
theorem r_X11_sample (w : gk_W c P cs (fun _ _ => none) rt uf sc K V) {idx : Nat} {m : Int32} {t : Int32} {g : Nat → Int32} (hd : decode c pc = .ok (.invokevirtual idx, 3)) (hp : pc + 3 = pc2) (hc : cs idx = some (1, 10, 3, 0, S_X11_sample)) (h8 : Nat.ble (r.map Value.category).sum 8 = true) (hp0 : MG g x) (hp1 : gOK g) (kk0 : (0 ≤ m ∧ m < g 8) → (0 ≤ t ∧ t ≤ 255) → ∀ (x2 : gk_X) (y2 : gk_Y), MOk g 0 x x2 y y2 → V pc2 L ((.int (g (186 + 256 * cN m + cN t))) :: r) 202 gk_fT x2 y2 u) (kk1 : ¬ (0 ≤ m ∧ m < g 8) → ∀ (x2 : gk_X) (y2 : gk_Y), MOk g 1 x x2 y y2 → V pc2 L ((.int 0) :: r) 202 gk_fT x2 y2 u) (kk2 : (0 ≤ m ∧ m < g 8) → ¬ (0 ≤ t ∧ t ≤ 255) → ∀ (x2 : gk_X) (y2 : gk_Y), MOk g 2 x x2 y y2 → V pc2 L ((.int 0) :: r) 202 gk_fT x2 y2 u) : V pc L (.int t :: .int m :: .ref 189 :: r) 202 gk_fT x y u :=
  g_callv w hd hp hc (as := [.ref 189, .int m, .int t]) rfl h8 rfl rfl rfl (Or.inr (Or.inl ⟨Or.inl rfl, _, _, rfl, (gk_kd_j rfl rfl), rfl⟩)) (Or.inl rfl) ⟨m, t, g, rfl, ⟨rfl, rfl⟩, hp0, hp1, kk0, kk1, kk2⟩
def L_X11_sample : List (Nat × gk_M0) := [(56, (0, 10, 1, 0, S_X11_isTime)), (64, (1, 10, 2, 0, S_X11_fail)), (106, (1, 10, 2, 0, S_X11_isMicrophone)), (175, (1, 10, 3, 0, S_X11_recorded))]
def cs_X11_sample : Nat → Option gk_M0 := gk_lk L_X11_sample
theorem m_X11_sample : ∀ (as : List Value) (n : Nat) (fl : gk_F) (x : gk_X) (y : gk_Y) (K : gk_K), S_X11_sample as n fl x y K → (gk_L0 as).length ≤ 3 ∧ ∀ V : gk_V, gk_W cX11_sample pX11 cs_X11_sample (fun _ _ => none) (some .int) 0 none K V → V 0 (gk_en as 3) [] n fl x y 0 := by
  intro as n fl x y K hS
  obtain ⟨m, t, g, rfl, ⟨rfl, rfl⟩, hp0, hp1, q0, q1, q2⟩ := hS
  refine ⟨Nat.le_of_ble_eq_true rfl, fun V w => ?_⟩
  show V 0 [some (.ref 189), some (.int m), some (.int t)] [] 202 gk_fT x y 0
  obtain ⟨nv4, ns6, nm8, z6, z7, z8⟩ := wf_n hp1.1
  have w6 : 0 ≤ (g 6).toInt := by show 0 ≤ gz g 6; omega
  have w7 : 0 ≤ (g 7).toInt := by show 0 ≤ gz g 7; omega
  have w8 : 0 ≤ (g 8).toInt := by show 0 ≤ gz g 8; omega
  refine s_aload_n (pc2 := 1) w dX11_sample_0 rfl rfl ?_
  refine s_iconst (pc2 := 2) (v := 0) w dX11_sample_1 rfl rfl ?_
  refine m_putI (pc2 := 5) (ci := 10) (k := 4) w dX11_sample_2 rfl rfl rfl rfl rfl (by intro h; cases h) ?_
  have f0 := MOk.ini (y := y) hp0
  generalize gk_up x 189 4 0 = x0 at f0 ⊢
  refine s_aload_n (pc2 := 6) w dX11_sample_5 rfl rfl ?_
  refine s_iload_n (pc2 := 7) w dX11_sample_6 rfl rfl ?_
  refine r_X11_isMicrophone (pc2 := 10) w dX11_sample_7 rfl rfl rfl ?_
  rw [f0.1 8 (by decide), isn_e w8]
  refine s_if_ne (pc2 := 13) (tgt := 19) w dX11_sample_10 rfl (by decide) (fun c10 => ?_) (fun c10 => ?_)
  · rw [g_b0, Classical.not_not] at c10
    refine s_iload_n (pc2 := 20) w dX11_sample_19 rfl rfl ?_
    refine r_X11_isTime (pc2 := 23) w dX11_sample_20 rfl rfl rfl ?_
    refine s_if_eq (pc2 := 26) (tgt := 35) w dX11_sample_23 rfl (by decide) (fun c23 => ?_) (fun c23 => ?_)
    · refine s_aload_n (pc2 := 36) w dX11_sample_35 rfl rfl ?_
      refine s_iconst (pc2 := 37) (v := 2) w dX11_sample_36 rfl rfl ?_
      refine r_X11_fail (pc2 := 40) w dX11_sample_37 rfl rfl rfl ?_
      refine s_ireturn w dX11_sample_40 rfl rfl ?_
      rw [g_b0] at c23
      exact q2 c10 (fun hc => c23 hc) _ _ (f0.fail 2)
    · rw [g_b0, Classical.not_not] at c23
      obtain ⟨a, rfl, ah⟩ := ix_n c10
      have ah : a < nM g := ah
      obtain ⟨k, rfl, kh⟩ := ix_t c23
      rw [cN_n a (by omega), cN_n k (by omega)] at q0
      refine s_aload_n (pc2 := 27) w dX11_sample_26 rfl rfl ?_
      refine s_iload_n (pc2 := 28) w dX11_sample_27 rfl rfl ?_
      refine s_iload_n (pc2 := 29) w dX11_sample_28 rfl rfl ?_
      refine r_X11_recorded (pc2 := 32) w dX11_sample_29 rfl rfl rfl rfl (by omega) ?_
      rw [gk_at_n kh]
      show V _ _ (.int (x0 190 (186 + 256 * a + k)) :: _) _ _ _ _ _
      rw [f0.1 (186 + 256 * a + k) (by omega)]
      refine s_goto (tgt := 40) w dX11_sample_32 (by decide) ?_
      refine s_ireturn w dX11_sample_40 rfl rfl ?_
      exact q0 c10 c23 _ _ f0
  · refine s_aload_n (pc2 := 14) w dX11_sample_13 rfl rfl ?_
    refine s_iconst (pc2 := 15) (v := 1) w dX11_sample_14 rfl rfl ?_
    refine r_X11_fail (pc2 := 18) w dX11_sample_15 rfl rfl rfl ?_
    refine s_ireturn w dX11_sample_18 rfl rfl ?_
    rw [g_b0] at c10
    exact q1  (fun hc => c10 hc) _ _ (f0.fail 1)
theorem lk_X11_sample {l : Launch} (hl : l.stackTraces = false) : ∀ q ∈ L_X11_sample, (q.2.1 < 5 → gk_Lk l RX11 gk_W1 3 q.1 q.2.1 q.2.2.1 q.2.2.2.1 q.2.2.2.2.1 q.2.2.2.2.2) := (List.forall_mem_cons.mpr ⟨(fun _ => ⟨yX11_isTime, cX11_isTime, 1, (some .boolean), 1, _, M_X11_isTime hl, ⟨by decide, by decide⟩, ⟨by decide, by decide, by decide +kernel⟩, ⟨(gk_wm 1432 (by decide +kernel)), (gk_wm 99 (by decide +kernel))⟩, Or.inl ⟨rfl, rfl, (gk_wm 1431 (by decide +kernel)), gk_wm 1430 (by decide +kernel)⟩⟩), (List.forall_mem_cons.mpr ⟨(fun _ => ⟨yX11_fail, cX11_fail, 2, (some .int), 0, _, M_X11_fail hl, ⟨by decide, by decide⟩, ⟨by decide, by decide, by decide +kernel⟩, ⟨(gk_wm 1342 (by decide +kernel)), (gk_wm 99 (by decide +kernel))⟩, Or.inr (Or.inr (Or.inr (Or.inl ⟨rfl, rfl, (gk_wm 1341 (by decide +kernel)), (gk_wm 32 (by decide +kernel)), gk_wm 1339 (by decide +kernel), by decide, rfl⟩)))⟩), (List.forall_mem_cons.mpr ⟨(fun _ => ⟨yX11_isMicrophone, cX11_isMicrophone, 2, (some .boolean), 1, _, M_X11_isMicrophone hl, ⟨by decide, by decide⟩, ⟨by decide, by decide, by decide +kernel⟩, ⟨(gk_wm 1421 (by decide +kernel)), (gk_wm 99 (by decide +kernel))⟩, Or.inr (Or.inr (Or.inr (Or.inl ⟨rfl, rfl, (gk_wm 1420 (by decide +kernel)), (gk_wm 40 (by decide +kernel)), gk_wm 1418 (by decide +kernel), by decide, rfl⟩)))⟩), (List.forall_mem_cons.mpr ⟨(fun _ => ⟨yX11_recorded, cX11_recorded, 3, (some .int), 2, _, M_X11_recorded hl, ⟨by decide, by decide⟩, ⟨by decide, by decide, by decide +kernel⟩, ⟨(gk_wm 1518 (by decide +kernel)), (gk_wm 99 (by decide +kernel))⟩, Or.inr (Or.inr (Or.inr (Or.inl ⟨rfl, rfl, (gk_wm 1517 (by decide +kernel)), (gk_wm 54 (by decide +kernel)), gk_wm 1515 (by decide +kernel), by decide, rfl⟩)))⟩), (fun _ h => absurd h List.not_mem_nil)⟩)⟩)⟩)⟩)
theorem sp_X11_sample : ∀ q ∈ L_X11_sample, gk_Sq RX11 gk_W1 3 q := (List.forall_mem_cons.mpr ⟨⟨fun h => absurd h (by decide), fun h => absurd h (by decide), fun h => absurd h (by decide), fun h => absurd h (by decide), fun h => absurd h (by decide), fun h => absurd h (by decide)⟩, (List.forall_mem_cons.mpr ⟨⟨fun h => absurd h (by decide), fun h => absurd h (by decide), fun h => absurd h (by decide), fun h => absurd h (by decide), fun h => absurd h (by decide), fun h => absurd h (by decide)⟩, (List.forall_mem_cons.mpr ⟨⟨fun h => absurd h (by decide), fun h => absurd h (by decide), fun h => absurd h (by decide), fun h => absurd h (by decide), fun h => absurd h (by decide), fun h => absurd h (by decide)⟩, (List.forall_mem_cons.mpr ⟨⟨fun h => absurd h (by decide), fun h => absurd h (by decide), fun h => absurd h (by decide), fun h => absurd h (by decide), fun h => absurd h (by decide), fun h => absurd h (by decide)⟩, (fun _ h => absurd h List.not_mem_nil)⟩)⟩)⟩)⟩)
theorem M_X11_sample {l : Launch} (hl : l.stackTraces = false) : gk_Mt l yX11_sample (.code yX11_sample cX11_sample 3 (some .int) :: gk_W1) 3 0 S_X11_sample := gk_meth hl gk_cw_ok (by decide +kernel) rfl m_X11_sample pX11_ok (gk_Sp_of sp_X11_sample) pX11_st (fun ci m S h => absurd h (by intro h; cases h)) (xf_X11 3) (fun idx kd ci mm cost S2 h h5 => lk_X11_sample hl _ (gk_lk_mem h) h5)

def S_X11_count : gk_S := fun as n fl x y K => ∃ (v : Int32) (g : Nat → Int32), as = [.ref 189, .int v] ∧ (n = 202 ∧ fl = gk_fT) ∧ (MG g x) ∧ (gOK g) ∧ ((0 ≤ v ∧ v ≤ 3) → ∀ (x2 : gk_X) (y2 : gk_Y), MOk g 0 x x2 y y2 → K (.inl (some (.int (g (6 + cN v))))) n fl x2 y2) ∧ (¬ (0 ≤ v ∧ v ≤ 3) → ∀ (x2 : gk_X) (y2 : gk_Y), MOk g 1 x x2 y y2 → K (.inl (some (.int 0))) n fl x2 y2)
theorem r_X11_count (w : gk_W c P cs (fun _ _ => none) rt uf sc K V) {idx : Nat} {v : Int32} {g : Nat → Int32} (hd : decode c pc = .ok (.invokevirtual idx, 3)) (hp : pc + 3 = pc2) (hc : cs idx = some (1, 10, 2, 0, S_X11_count)) (h8 : Nat.ble (r.map Value.category).sum 8 = true) (hp0 : MG g x) (hp1 : gOK g) (kk0 : (0 ≤ v ∧ v ≤ 3) → ∀ (x2 : gk_X) (y2 : gk_Y), MOk g 0 x x2 y y2 → V pc2 L ((.int (g (6 + cN v))) :: r) 202 gk_fT x2 y2 u) (kk1 : ¬ (0 ≤ v ∧ v ≤ 3) → ∀ (x2 : gk_X) (y2 : gk_Y), MOk g 1 x x2 y y2 → V pc2 L ((.int 0) :: r) 202 gk_fT x2 y2 u) : V pc L (.int v :: .ref 189 :: r) 202 gk_fT x y u :=
  g_callv w hd hp hc (as := [.ref 189, .int v]) rfl h8 rfl rfl rfl (Or.inr (Or.inl ⟨Or.inl rfl, _, _, rfl, (gk_kd_j rfl rfl), rfl⟩)) (Or.inl rfl) ⟨v, g, rfl, ⟨rfl, rfl⟩, hp0, hp1, kk0, kk1⟩
def L_X11_count : List (Nat × gk_M0) := [(52, (0, 10, 3, 0, S_X11_isBetween)), (64, (1, 10, 2, 0, S_X11_fail))]
def cs_X11_count : Nat → Option gk_M0 := gk_lk L_X11_count
theorem m_X11_count : ∀ (as : List Value) (n : Nat) (fl : gk_F) (x : gk_X) (y : gk_Y) (K : gk_K), S_X11_count as n fl x y K → (gk_L0 as).length ≤ 2 ∧ ∀ V : gk_V, gk_W cX11_count pX11 cs_X11_count (fun _ _ => none) (some .int) 0 none K V → V 0 (gk_en as 2) [] n fl x y 0 := by
  intro as n fl x y K hS
  obtain ⟨v, g, rfl, ⟨rfl, rfl⟩, hp0, hp1, q0, q1⟩ := hS
  refine ⟨Nat.le_of_ble_eq_true rfl, fun V w => ?_⟩
  show V 0 [some (.ref 189), some (.int v)] [] 202 gk_fT x y 0
  obtain ⟨nv4, ns6, nm8, z6, z7, z8⟩ := wf_n hp1.1
  have w6 : 0 ≤ (g 6).toInt := by show 0 ≤ gz g 6; omega
  have w7 : 0 ≤ (g 7).toInt := by show 0 ≤ gz g 7; omega
  have w8 : 0 ≤ (g 8).toInt := by show 0 ≤ gz g 8; omega
  refine s_aload_n (pc2 := 1) w dX11_count_0 rfl rfl ?_
  refine s_iconst (pc2 := 2) (v := 0) w dX11_count_1 rfl rfl ?_
  refine m_putI (pc2 := 5) (ci := 10) (k := 4) w dX11_count_2 rfl rfl rfl rfl rfl (by intro h; cases h) ?_
  have f0 := MOk.ini (y := y) hp0
  generalize gk_up x 189 4 0 = x0 at f0 ⊢
  refine s_iload_n (pc2 := 6) w dX11_count_5 rfl rfl ?_
  refine s_iconst (pc2 := 7) (v := 0) w dX11_count_6 rfl rfl ?_
  refine s_iconst (pc2 := 8) (v := 3) w dX11_count_7 rfl rfl ?_
  refine r_X11_isBetween (pc2 := 11) w dX11_count_8 rfl rfl rfl ?_
  refine s_if_eq (pc2 := 14) (tgt := 26) w dX11_count_11 rfl (by decide) (fun c11 => ?_) (fun c11 => ?_)
  · refine s_aload_n (pc2 := 27) w dX11_count_26 rfl rfl ?_
    refine s_iconst (pc2 := 28) (v := 1) w dX11_count_27 rfl rfl ?_
    refine r_X11_fail (pc2 := 31) w dX11_count_28 rfl rfl rfl ?_
    refine s_ireturn w dX11_count_31 rfl rfl ?_
    rw [g_b0] at c11
    exact q1  (fun hc => c11 hc) _ _ (f0.fail 1)
  · rw [g_b0, Classical.not_not] at c11
    obtain ⟨k, rfl, kh⟩ := ix_b (b := 3) (by decide) c11
    rw [cN_n k (by omega)] at q0
    refine s_aload_n (pc2 := 15) w dX11_count_14 rfl rfl ?_
    refine m_getR (pc2 := 18) (ci := 10) (k := 0) (j2 := 190) w dX11_count_15 rfl rfl rfl rfl rfl rfl ?_
    refine s_bipush (pc2 := 20) (v := 6) w dX11_count_18 rfl rfl ?_
    refine s_iload_n (pc2 := 21) w dX11_count_20 rfl rfl ?_
    refine s_iadd (pc2 := 22) w dX11_count_21 rfl ?_
    refine m_ialoadN (pc2 := 23) (t := 6 + k) (N := 2234) w dX11_count_22 rfl rfl rfl (by rw [gI_nI, gI_nI, show (6 : Int32) = gI 6 from rfl, gI_add]; exact congrArg gI (by omega)) (by omega) rfl ?_
    rw [f0.1 (6 + k) (by omega)]
    refine s_goto (tgt := 31) w dX11_count_23 (by decide) ?_
    refine s_ireturn w dX11_count_31 rfl rfl ?_
    exact q0 c11 _ _ f0
theorem lk_X11_count {l : Launch} (hl : l.stackTraces = false) : ∀ q ∈ L_X11_count, (q.2.1 < 5 → gk_Lk l RX11 gk_W1 1 q.1 q.2.1 q.2.2.1 q.2.2.2.1 q.2.2.2.2.1 q.2.2.2.2.2) := (List.forall_mem_cons.mpr ⟨(fun _ => ⟨yX11_isBetween, cX11_isBetween, 3, (some .boolean), 0, _, M_X11_isBetween hl, ⟨by decide, by decide⟩, ⟨by decide, by decide, by decide +kernel⟩, ⟨(gk_wm 1334 (by decide +kernel)), (gk_wm 99 (by decide +kernel))⟩, Or.inl ⟨rfl, rfl, (gk_wm 1333 (by decide +kernel)), gk_wm 1332 (by decide +kernel)⟩⟩), (List.forall_mem_cons.mpr ⟨(fun _ => ⟨yX11_fail, cX11_fail, 2, (some .int), 0, _, M_X11_fail hl, ⟨by decide, by decide⟩, ⟨by decide, by decide, by decide +kernel⟩, ⟨(gk_wm 1342 (by decide +kernel)), (gk_wm 99 (by decide +kernel))⟩, Or.inr (Or.inr (Or.inr (Or.inl ⟨rfl, rfl, (gk_wm 1341 (by decide +kernel)), (gk_wm 32 (by decide +kernel)), gk_wm 1339 (by decide +kernel), by decide, rfl⟩)))⟩), (fun _ h => absurd h List.not_mem_nil)⟩)⟩)
theorem sp_X11_count : ∀ q ∈ L_X11_count, gk_Sq RX11 gk_W1 1 q := (List.forall_mem_cons.mpr ⟨⟨fun h => absurd h (by decide), fun h => absurd h (by decide), fun h => absurd h (by decide), fun h => absurd h (by decide), fun h => absurd h (by decide), fun h => absurd h (by decide)⟩, (List.forall_mem_cons.mpr ⟨⟨fun h => absurd h (by decide), fun h => absurd h (by decide), fun h => absurd h (by decide), fun h => absurd h (by decide), fun h => absurd h (by decide), fun h => absurd h (by decide)⟩, (fun _ h => absurd h List.not_mem_nil)⟩)⟩)
theorem M_X11_count {l : Launch} (hl : l.stackTraces = false) : gk_Mt l yX11_count (.code yX11_count cX11_count 2 (some .int) :: gk_W1) 1 0 S_X11_count := gk_meth hl gk_cw_ok (by decide +kernel) rfl m_X11_count pX11_ok (gk_Sp_of sp_X11_count) pX11_st (fun ci m S h => absurd h (by intro h; cases h)) (xf_X11 1) (fun idx kd ci mm cost S2 h h5 => lk_X11_count hl _ (gk_lk_mem h) h5)

def S_X11_measureRecord : gk_S := fun as n fl x y K => ∃ (m : Int32) (z : Int32) (f : Int32) (l : Int32) (g : Nat → Int32), as = [.ref 189, .int m, .int z, .int f, .int l] ∧ (n = 202 ∧ fl = gk_fT) ∧ (MG g x) ∧ (gOK g) ∧ ((0 ≤ m ∧ m < g 8) → ((0 ≤ z ∧ z ≤ 4) ∧ (0 ≤ f ∧ f ≤ l ∧ l ≤ 255)) → ∀ (x2 : gk_X) (y2 : gk_Y), MOk g 0 x x2 y y2 → K (.inl (some (.long (gk_ms (gC g (cN m)) (cN z) (cN f) (cN l))))) n fl x2 y2) ∧ (¬ (0 ≤ m ∧ m < g 8) → ∀ (x2 : gk_X) (y2 : gk_Y), MOk g 1 x x2 y y2 → K (.inl (some (.long (0 : Int32).toInt64))) n fl x2 y2) ∧ ((0 ≤ m ∧ m < g 8) → ¬ ((0 ≤ z ∧ z ≤ 4) ∧ (0 ≤ f ∧ f ≤ l ∧ l ≤ 255)) → ∀ (x2 : gk_X) (y2 : gk_Y), MOk g 2 x x2 y y2 → K (.inl (some (.long (0 : Int32).toInt64))) n fl x2 y2)
theorem r_X11_measureRecord (w : gk_W c P cs (fun _ _ => none) rt uf sc K V) {idx : Nat} {m : Int32} {z : Int32} {f : Int32} {l : Int32} {g : Nat → Int32} (hd : decode c pc = .ok (.invokevirtual idx, 3)) (hp : pc + 3 = pc2) (hc : cs idx = some (1, 10, 5, 0, S_X11_measureRecord)) (h8 : Nat.ble (r.map Value.category).sum 8 = true) (hp0 : MG g x) (hp1 : gOK g) (kk0 : (0 ≤ m ∧ m < g 8) → ((0 ≤ z ∧ z ≤ 4) ∧ (0 ≤ f ∧ f ≤ l ∧ l ≤ 255)) → ∀ (x2 : gk_X) (y2 : gk_Y), MOk g 0 x x2 y y2 → V pc2 L ((.long (gk_ms (gC g (cN m)) (cN z) (cN f) (cN l))) :: r) 202 gk_fT x2 y2 u) (kk1 : ¬ (0 ≤ m ∧ m < g 8) → ∀ (x2 : gk_X) (y2 : gk_Y), MOk g 1 x x2 y y2 → V pc2 L ((.long (0 : Int32).toInt64) :: r) 202 gk_fT x2 y2 u) (kk2 : (0 ≤ m ∧ m < g 8) → ¬ ((0 ≤ z ∧ z ≤ 4) ∧ (0 ≤ f ∧ f ≤ l ∧ l ≤ 255)) → ∀ (x2 : gk_X) (y2 : gk_Y), MOk g 2 x x2 y y2 → V pc2 L ((.long (0 : Int32).toInt64) :: r) 202 gk_fT x2 y2 u) : V pc L (.int l :: .int f :: .int z :: .int m :: .ref 189 :: r) 202 gk_fT x y u :=
  g_callv w hd hp hc (as := [.ref 189, .int m, .int z, .int f, .int l]) rfl h8 rfl rfl rfl (Or.inr (Or.inl ⟨Or.inl rfl, _, _, rfl, (gk_kd_j rfl rfl), rfl⟩)) (Or.inl rfl) ⟨m, z, f, l, g, rfl, ⟨rfl, rfl⟩, hp0, hp1, kk0, kk1, kk2⟩
def L_X11_measureRecord : List (Nat × gk_M0) := [(52, (0, 10, 3, 0, S_X11_isBetween)), (64, (1, 10, 2, 0, S_X11_fail)), (106, (1, 10, 2, 0, S_X11_isMicrophone)), (200, (0, 10, 2, 0, S_X11_isWindow)), (204, (1, 10, 2, 0, S_X11_layRecord)), (207, (1, 10, 4, 0, S_X11_measureOf))]
def cs_X11_measureRecord : Nat → Option gk_M0 := gk_lk L_X11_measureRecord
theorem m_X11_measureRecord : ∀ (as : List Value) (n : Nat) (fl : gk_F) (x : gk_X) (y : gk_Y) (K : gk_K), S_X11_measureRecord as n fl x y K → (gk_L0 as).length ≤ 5 ∧ ∀ V : gk_V, gk_W cX11_measureRecord pX11 cs_X11_measureRecord (fun _ _ => none) (some .long) 0 none K V → V 0 (gk_en as 5) [] n fl x y 0 := by
  intro as n fl x y K hS
  obtain ⟨m, z, f, l, g, rfl, ⟨rfl, rfl⟩, hp0, hp1, q0, q1, q2⟩ := hS
  refine ⟨Nat.le_of_ble_eq_true rfl, fun V w => ?_⟩
  show V 0 [some (.ref 189), some (.int m), some (.int z), some (.int f), some (.int l)] [] 202 gk_fT x y 0
  obtain ⟨nv4, ns6, nm8, z6, z7, z8⟩ := wf_n hp1.1
  have w6 : 0 ≤ (g 6).toInt := by show 0 ≤ gz g 6; omega
  have w7 : 0 ≤ (g 7).toInt := by show 0 ≤ gz g 7; omega
  have w8 : 0 ≤ (g 8).toInt := by show 0 ≤ gz g 8; omega
  refine s_aload_n (pc2 := 1) w dX11_measureRecord_0 rfl rfl ?_
  refine s_iconst (pc2 := 2) (v := 0) w dX11_measureRecord_1 rfl rfl ?_
  refine m_putI (pc2 := 5) (ci := 10) (k := 4) w dX11_measureRecord_2 rfl rfl rfl rfl rfl (by intro h; cases h) ?_
  have f0 := MOk.ini (y := y) hp0
  generalize gk_up x 189 4 0 = x0 at f0 ⊢
  refine s_aload_n (pc2 := 6) w dX11_measureRecord_5 rfl rfl ?_
  refine s_iload_n (pc2 := 7) w dX11_measureRecord_6 rfl rfl ?_
  refine r_X11_isMicrophone (pc2 := 10) w dX11_measureRecord_7 rfl rfl rfl ?_
  rw [f0.1 8 (by decide), isn_e w8]
  refine s_if_ne (pc2 := 13) (tgt := 20) w dX11_measureRecord_10 rfl (by decide) (fun c10 => ?_) (fun c10 => ?_)
  · rw [g_b0, Classical.not_not] at c10
    refine s_iload_n (pc2 := 21) w dX11_measureRecord_20 rfl rfl ?_
    refine s_iconst (pc2 := 22) (v := 0) w dX11_measureRecord_21 rfl rfl ?_
    refine s_iconst (pc2 := 23) (v := 4) w dX11_measureRecord_22 rfl rfl ?_
    refine r_X11_isBetween (pc2 := 26) w dX11_measureRecord_23 rfl rfl rfl ?_
    refine s_if_eq (pc2 := 29) (tgt := 38) w dX11_measureRecord_26 rfl (by decide) (fun c26 => ?_) (fun c26 => ?_)
    · refine s_aload_n (pc2 := 39) w dX11_measureRecord_38 rfl rfl ?_
      refine s_iconst (pc2 := 40) (v := 2) w dX11_measureRecord_39 rfl rfl ?_
      refine r_X11_fail (pc2 := 43) w dX11_measureRecord_40 rfl rfl rfl ?_
      refine s_i2l (pc2 := 44) w dX11_measureRecord_43 rfl ?_
      refine s_lreturn w dX11_measureRecord_44 rfl ?_
      rw [g_b0] at c26
      exact q2 c10 (fun hc => c26 hc.1) _ _ (f0.fail 2)
    · rw [g_b0, Classical.not_not] at c26
      refine s_iload_n (pc2 := 30) w dX11_measureRecord_29 rfl rfl ?_
      refine s_iload (pc2 := 32) w dX11_measureRecord_30 rfl rfl ?_
      refine r_X11_isWindow (pc2 := 35) w dX11_measureRecord_32 rfl rfl rfl ?_
      refine s_if_ne (pc2 := 38) (tgt := 45) w dX11_measureRecord_35 rfl (by decide) (fun c35 => ?_) (fun c35 => ?_)
      · rw [g_b0, Classical.not_not] at c35
        obtain ⟨a, rfl, ah⟩ := ix_n c10
        have ah : a < nM g := ah
        obtain ⟨k, rfl, kh⟩ := ix_b (b := 4) (by decide) c26
        obtain ⟨b, e, rfl, rfl, be, eh⟩ := ix_w c35
        rw [cN_n a (by omega), cN_n k (by omega), cN_n b (by omega), cN_n e (by omega)] at q0
        refine s_aload_n (pc2 := 46) w dX11_measureRecord_45 rfl rfl ?_
        refine s_iload_n (pc2 := 47) w dX11_measureRecord_46 rfl rfl ?_
        refine r_X11_layRecord (pc2 := 50) w dX11_measureRecord_47 rfl rfl rfl rfl (by omega) ?_
        have f1 : MOk g 0 x (gk_ur x0 196 (fun k => x0 190 (186 + 256 * a + k)) 256) y y := f0.ur (by decide)
        have hr : ∀ k, k < 256 → gk_ur x0 196 (fun k => x0 190 (186 + 256 * a + k)) 256 196 k = gC g a k := fun k hk => (gk_ur_in hk).trans (f0.1 _ (by omega))
        generalize gk_ur x0 196 (fun k => x0 190 (186 + 256 * a + k)) 256 = x1 at f1 hr ⊢
        refine s_aload_n (pc2 := 51) w dX11_measureRecord_50 rfl rfl ?_
        refine s_iload_n (pc2 := 52) w dX11_measureRecord_51 rfl rfl ?_
        refine s_iload_n (pc2 := 53) w dX11_measureRecord_52 rfl rfl ?_
        refine s_iload (pc2 := 55) w dX11_measureRecord_53 rfl rfl ?_
        refine r_X11_measureOf (pc2 := 58) w dX11_measureRecord_55 rfl rfl rfl rfl kh rfl rfl be eh (row_bd (g := g) hr (fun k hk => gC_b hp1.2.1 ah hk) eh) ?_
        rw [row_ms hr be eh]
        refine s_lreturn w dX11_measureRecord_58 rfl ?_
        exact q0 c10 ⟨c26, c35⟩ _ _ f1
      · refine s_aload_n (pc2 := 39) w dX11_measureRecord_38 rfl rfl ?_
        refine s_iconst (pc2 := 40) (v := 2) w dX11_measureRecord_39 rfl rfl ?_
        refine r_X11_fail (pc2 := 43) w dX11_measureRecord_40 rfl rfl rfl ?_
        refine s_i2l (pc2 := 44) w dX11_measureRecord_43 rfl ?_
        refine s_lreturn w dX11_measureRecord_44 rfl ?_
        rw [g_b0] at c35
        exact q2 c10 (fun hc => c35 hc.2) _ _ (f0.fail 2)
  · refine s_aload_n (pc2 := 14) w dX11_measureRecord_13 rfl rfl ?_
    refine s_iconst (pc2 := 15) (v := 1) w dX11_measureRecord_14 rfl rfl ?_
    refine r_X11_fail (pc2 := 18) w dX11_measureRecord_15 rfl rfl rfl ?_
    refine s_i2l (pc2 := 19) w dX11_measureRecord_18 rfl ?_
    refine s_lreturn w dX11_measureRecord_19 rfl ?_
    rw [g_b0] at c10
    exact q1  (fun hc => c10 hc) _ _ (f0.fail 1)
theorem lk_X11_measureRecord {l : Launch} (hl : l.stackTraces = false) : ∀ q ∈ L_X11_measureRecord, (q.2.1 < 5 → gk_Lk l RX11 gk_W1 4 q.1 q.2.1 q.2.2.1 q.2.2.2.1 q.2.2.2.2.1 q.2.2.2.2.2) := (List.forall_mem_cons.mpr ⟨(fun _ => ⟨yX11_isBetween, cX11_isBetween, 3, (some .boolean), 0, _, M_X11_isBetween hl, ⟨by decide, by decide⟩, ⟨by decide, by decide, by decide +kernel⟩, ⟨(gk_wm 1334 (by decide +kernel)), (gk_wm 99 (by decide +kernel))⟩, Or.inl ⟨rfl, rfl, (gk_wm 1333 (by decide +kernel)), gk_wm 1332 (by decide +kernel)⟩⟩), (List.forall_mem_cons.mpr ⟨(fun _ => ⟨yX11_fail, cX11_fail, 2, (some .int), 0, _, M_X11_fail hl, ⟨by decide, by decide⟩, ⟨by decide, by decide, by decide +kernel⟩, ⟨(gk_wm 1342 (by decide +kernel)), (gk_wm 99 (by decide +kernel))⟩, Or.inr (Or.inr (Or.inr (Or.inl ⟨rfl, rfl, (gk_wm 1341 (by decide +kernel)), (gk_wm 32 (by decide +kernel)), gk_wm 1339 (by decide +kernel), by decide, rfl⟩)))⟩), (List.forall_mem_cons.mpr ⟨(fun _ => ⟨yX11_isMicrophone, cX11_isMicrophone, 2, (some .boolean), 1, _, M_X11_isMicrophone hl, ⟨by decide, by decide⟩, ⟨by decide, by decide, by decide +kernel⟩, ⟨(gk_wm 1421 (by decide +kernel)), (gk_wm 99 (by decide +kernel))⟩, Or.inr (Or.inr (Or.inr (Or.inl ⟨rfl, rfl, (gk_wm 1420 (by decide +kernel)), (gk_wm 40 (by decide +kernel)), gk_wm 1418 (by decide +kernel), by decide, rfl⟩)))⟩), (List.forall_mem_cons.mpr ⟨(fun _ => ⟨yX11_isWindow, cX11_isWindow, 2, (some .boolean), 2, _, M_X11_isWindow hl, ⟨by decide, by decide⟩, ⟨by decide, by decide, by decide +kernel⟩, ⟨(gk_wm 1525 (by decide +kernel)), (gk_wm 99 (by decide +kernel))⟩, Or.inl ⟨rfl, rfl, (gk_wm 1524 (by decide +kernel)), gk_wm 1523 (by decide +kernel)⟩⟩), (List.forall_mem_cons.mpr ⟨(fun _ => ⟨yX11_layRecord, cX11_layRecord, 3, none, 3, _, M_X11_layRecord hl, ⟨by decide, by decide⟩, ⟨by decide, by decide, by decide +kernel⟩, ⟨(gk_wm 1529 (by decide +kernel)), (gk_wm 99 (by decide +kernel))⟩, Or.inr (Or.inr (Or.inr (Or.inl ⟨rfl, rfl, (gk_wm 1528 (by decide +kernel)), (gk_wm 55 (by decide +kernel)), gk_wm 1526 (by decide +kernel), by decide, rfl⟩)))⟩), (List.forall_mem_cons.mpr ⟨(fun _ => ⟨yX11_measureOf, cX11_measureOf, 4, (some .long), 2, _, M_X11_measureOf hl, ⟨by decide, by decide⟩, ⟨by decide, by decide, by decide +kernel⟩, ⟨(gk_wm 1533 (by decide +kernel)), (gk_wm 99 (by decide +kernel))⟩, Or.inr (Or.inr (Or.inr (Or.inl ⟨rfl, rfl, (gk_wm 1532 (by decide +kernel)), (gk_wm 56 (by decide +kernel)), gk_wm 1530 (by decide +kernel), by decide, rfl⟩)))⟩), (fun _ h => absurd h List.not_mem_nil)⟩)⟩)⟩)⟩)⟩)⟩)
theorem sp_X11_measureRecord : ∀ q ∈ L_X11_measureRecord, gk_Sq RX11 gk_W1 4 q := (List.forall_mem_cons.mpr ⟨⟨fun h => absurd h (by decide), fun h => absurd h (by decide), fun h => absurd h (by decide), fun h => absurd h (by decide), fun h => absurd h (by decide), fun h => absurd h (by decide)⟩, (List.forall_mem_cons.mpr ⟨⟨fun h => absurd h (by decide), fun h => absurd h (by decide), fun h => absurd h (by decide), fun h => absurd h (by decide), fun h => absurd h (by decide), fun h => absurd h (by decide)⟩, (List.forall_mem_cons.mpr ⟨⟨fun h => absurd h (by decide), fun h => absurd h (by decide), fun h => absurd h (by decide), fun h => absurd h (by decide), fun h => absurd h (by decide), fun h => absurd h (by decide)⟩, (List.forall_mem_cons.mpr ⟨⟨fun h => absurd h (by decide), fun h => absurd h (by decide), fun h => absurd h (by decide), fun h => absurd h (by decide), fun h => absurd h (by decide), fun h => absurd h (by decide)⟩, (List.forall_mem_cons.mpr ⟨⟨fun h => absurd h (by decide), fun h => absurd h (by decide), fun h => absurd h (by decide), fun h => absurd h (by decide), fun h => absurd h (by decide), fun h => absurd h (by decide)⟩, (List.forall_mem_cons.mpr ⟨⟨fun h => absurd h (by decide), fun h => absurd h (by decide), fun h => absurd h (by decide), fun h => absurd h (by decide), fun h => absurd h (by decide), fun h => absurd h (by decide)⟩, (fun _ h => absurd h List.not_mem_nil)⟩)⟩)⟩)⟩)⟩)⟩)
theorem M_X11_measureRecord {l : Launch} (hl : l.stackTraces = false) : gk_Mt l yX11_measureRecord (.code yX11_measureRecord cX11_measureRecord 5 (some .long) :: gk_W1) 4 0 S_X11_measureRecord := gk_meth hl gk_cw_ok (by decide +kernel) rfl m_X11_measureRecord pX11_ok (gk_Sp_of sp_X11_measureRecord) pX11_st (fun ci m S h => absurd h (by intro h; cases h)) (xf_X11 4) (fun idx kd ci mm cost S2 h h5 => lk_X11_measureRecord hl _ (gk_lk_mem h) h5)

def S_X11_correlation : gk_S := fun as n fl x y K => ∃ (m : Int32) (o : Int32) (v : Int32) (g : Nat → Int32), as = [.ref 189, .int m, .int o, .int v] ∧ (n = 202 ∧ fl = gk_fT) ∧ (MG g x) ∧ (gOK g) ∧ (((0 ≤ m ∧ m < g 8) ∧ (0 ≤ o ∧ o < g 8)) → (-255 ≤ v ∧ v ≤ 255) → ∀ (x2 : gk_X) (y2 : gk_Y), MOk g 0 x x2 y y2 → K (.inl (some (.long (gL (gk_cv (gC g (cN m)) (gC g (cN o)) v 256))))) n fl x2 y2) ∧ (¬ ((0 ≤ m ∧ m < g 8) ∧ (0 ≤ o ∧ o < g 8)) → ∀ (x2 : gk_X) (y2 : gk_Y), MOk g 1 x x2 y y2 → K (.inl (some (.long (0 : Int32).toInt64))) n fl x2 y2) ∧ (((0 ≤ m ∧ m < g 8) ∧ (0 ≤ o ∧ o < g 8)) → ¬ (-255 ≤ v ∧ v ≤ 255) → ∀ (x2 : gk_X) (y2 : gk_Y), MOk g 2 x x2 y y2 → K (.inl (some (.long (0 : Int32).toInt64))) n fl x2 y2)
theorem r_X11_correlation (w : gk_W c P cs (fun _ _ => none) rt uf sc K V) {idx : Nat} {m : Int32} {o : Int32} {v : Int32} {g : Nat → Int32} (hd : decode c pc = .ok (.invokevirtual idx, 3)) (hp : pc + 3 = pc2) (hc : cs idx = some (1, 10, 4, 0, S_X11_correlation)) (h8 : Nat.ble (r.map Value.category).sum 8 = true) (hp0 : MG g x) (hp1 : gOK g) (kk0 : ((0 ≤ m ∧ m < g 8) ∧ (0 ≤ o ∧ o < g 8)) → (-255 ≤ v ∧ v ≤ 255) → ∀ (x2 : gk_X) (y2 : gk_Y), MOk g 0 x x2 y y2 → V pc2 L ((.long (gL (gk_cv (gC g (cN m)) (gC g (cN o)) v 256))) :: r) 202 gk_fT x2 y2 u) (kk1 : ¬ ((0 ≤ m ∧ m < g 8) ∧ (0 ≤ o ∧ o < g 8)) → ∀ (x2 : gk_X) (y2 : gk_Y), MOk g 1 x x2 y y2 → V pc2 L ((.long (0 : Int32).toInt64) :: r) 202 gk_fT x2 y2 u) (kk2 : ((0 ≤ m ∧ m < g 8) ∧ (0 ≤ o ∧ o < g 8)) → ¬ (-255 ≤ v ∧ v ≤ 255) → ∀ (x2 : gk_X) (y2 : gk_Y), MOk g 2 x x2 y y2 → V pc2 L ((.long (0 : Int32).toInt64) :: r) 202 gk_fT x2 y2 u) : V pc L (.int v :: .int o :: .int m :: .ref 189 :: r) 202 gk_fT x y u :=
  g_callv w hd hp hc (as := [.ref 189, .int m, .int o, .int v]) rfl h8 rfl rfl rfl (Or.inr (Or.inl ⟨Or.inl rfl, _, _, rfl, (gk_kd_j rfl rfl), rfl⟩)) (Or.inl rfl) ⟨m, o, v, g, rfl, ⟨rfl, rfl⟩, hp0, hp1, kk0, kk1, kk2⟩
def L_X11_correlation : List (Nat × gk_M0) := [(52, (0, 10, 3, 0, S_X11_isBetween)), (64, (1, 10, 2, 0, S_X11_fail)), (106, (1, 10, 2, 0, S_X11_isMicrophone)), (213, (1, 10, 4, 0, S_X11_correlationOf))]
def cs_X11_correlation : Nat → Option gk_M0 := gk_lk L_X11_correlation
theorem m_X11_correlation : ∀ (as : List Value) (n : Nat) (fl : gk_F) (x : gk_X) (y : gk_Y) (K : gk_K), S_X11_correlation as n fl x y K → (gk_L0 as).length ≤ 4 ∧ ∀ V : gk_V, gk_W cX11_correlation pX11 cs_X11_correlation (fun _ _ => none) (some .long) 0 none K V → V 0 (gk_en as 4) [] n fl x y 0 := by
  intro as n fl x y K hS
  obtain ⟨m, o, v, g, rfl, ⟨rfl, rfl⟩, hp0, hp1, q0, q1, q2⟩ := hS
  refine ⟨Nat.le_of_ble_eq_true rfl, fun V w => ?_⟩
  show V 0 [some (.ref 189), some (.int m), some (.int o), some (.int v)] [] 202 gk_fT x y 0
  obtain ⟨nv4, ns6, nm8, z6, z7, z8⟩ := wf_n hp1.1
  have w6 : 0 ≤ (g 6).toInt := by show 0 ≤ gz g 6; omega
  have w7 : 0 ≤ (g 7).toInt := by show 0 ≤ gz g 7; omega
  have w8 : 0 ≤ (g 8).toInt := by show 0 ≤ gz g 8; omega
  refine s_aload_n (pc2 := 1) w dX11_correlation_0 rfl rfl ?_
  refine s_iconst (pc2 := 2) (v := 0) w dX11_correlation_1 rfl rfl ?_
  refine m_putI (pc2 := 5) (ci := 10) (k := 4) w dX11_correlation_2 rfl rfl rfl rfl rfl (by intro h; cases h) ?_
  have f0 := MOk.ini (y := y) hp0
  generalize gk_up x 189 4 0 = x0 at f0 ⊢
  refine s_aload_n (pc2 := 6) w dX11_correlation_5 rfl rfl ?_
  refine s_iload_n (pc2 := 7) w dX11_correlation_6 rfl rfl ?_
  refine r_X11_isMicrophone (pc2 := 10) w dX11_correlation_7 rfl rfl rfl ?_
  rw [f0.1 8 (by decide), isn_e w8]
  refine s_if_eq (pc2 := 13) (tgt := 21) w dX11_correlation_10 rfl (by decide) (fun c10 => ?_) (fun c10 => ?_)
  · refine s_aload_n (pc2 := 22) w dX11_correlation_21 rfl rfl ?_
    refine s_iconst (pc2 := 23) (v := 1) w dX11_correlation_22 rfl rfl ?_
    refine r_X11_fail (pc2 := 26) w dX11_correlation_23 rfl rfl rfl ?_
    refine s_i2l (pc2 := 27) w dX11_correlation_26 rfl ?_
    refine s_lreturn w dX11_correlation_27 rfl ?_
    rw [g_b0] at c10
    exact q1  (fun hc => c10 hc.1) _ _ (f0.fail 1)
  · rw [g_b0, Classical.not_not] at c10
    refine s_aload_n (pc2 := 14) w dX11_correlation_13 rfl rfl ?_
    refine s_iload_n (pc2 := 15) w dX11_correlation_14 rfl rfl ?_
    refine r_X11_isMicrophone (pc2 := 18) w dX11_correlation_15 rfl rfl rfl ?_
    rw [f0.1 8 (by decide), isn_e w8]
    refine s_if_ne (pc2 := 21) (tgt := 28) w dX11_correlation_18 rfl (by decide) (fun c18 => ?_) (fun c18 => ?_)
    · rw [g_b0, Classical.not_not] at c18
      refine s_iload_n (pc2 := 29) w dX11_correlation_28 rfl rfl ?_
      refine s_sipush (pc2 := 32) (v := (-255)) w dX11_correlation_29 rfl rfl ?_
      refine s_sipush (pc2 := 35) (v := 255) w dX11_correlation_32 rfl rfl ?_
      refine r_X11_isBetween (pc2 := 38) w dX11_correlation_35 rfl rfl rfl ?_
      refine s_if_eq (pc2 := 41) (tgt := 51) w dX11_correlation_38 rfl (by decide) (fun c38 => ?_) (fun c38 => ?_)
      · refine s_aload_n (pc2 := 52) w dX11_correlation_51 rfl rfl ?_
        refine s_iconst (pc2 := 53) (v := 2) w dX11_correlation_52 rfl rfl ?_
        refine r_X11_fail (pc2 := 56) w dX11_correlation_53 rfl rfl rfl ?_
        refine s_i2l (pc2 := 57) w dX11_correlation_56 rfl ?_
        refine s_lreturn w dX11_correlation_57 rfl ?_
        rw [g_b0] at c38
        exact q2 ⟨c10, c18⟩ (fun hc => c38 hc) _ _ (f0.fail 2)
      · rw [g_b0, Classical.not_not] at c38
        obtain ⟨a, rfl, ah⟩ := ix_n c10
        have ah : a < nM g := ah
        obtain ⟨b, rfl, bh⟩ := ix_n c18
        have bh : b < nM g := bh
        rw [cN_n a (by omega), cN_n b (by omega)] at q0
        refine s_aload_n (pc2 := 42) w dX11_correlation_41 rfl rfl ?_
        refine s_iload_n (pc2 := 43) w dX11_correlation_42 rfl rfl ?_
        refine s_iload_n (pc2 := 44) w dX11_correlation_43 rfl rfl ?_
        refine s_iload_n (pc2 := 45) w dX11_correlation_44 rfl rfl ?_
        refine r_X11_correlationOf (pc2 := 48) w dX11_correlation_45 rfl rfl rfl rfl (by omega) rfl (by omega) ?_
        rw [cv_cg (r2 := gC g a) (s2 := gC g b) (fun k hk => f0.1 _ (by omega)) (fun k hk => f0.1 _ (by omega)) 256 (Nat.le_refl _)]
        refine s_goto (tgt := 57) w dX11_correlation_48 (by decide) ?_
        refine s_lreturn w dX11_correlation_57 rfl ?_
        exact q0 ⟨c10, c18⟩ c38 _ _ f0
    · refine s_aload_n (pc2 := 22) w dX11_correlation_21 rfl rfl ?_
      refine s_iconst (pc2 := 23) (v := 1) w dX11_correlation_22 rfl rfl ?_
      refine r_X11_fail (pc2 := 26) w dX11_correlation_23 rfl rfl rfl ?_
      refine s_i2l (pc2 := 27) w dX11_correlation_26 rfl ?_
      refine s_lreturn w dX11_correlation_27 rfl ?_
      rw [g_b0] at c18
      exact q1  (fun hc => c18 hc.2) _ _ (f0.fail 1)
theorem lk_X11_correlation {l : Launch} (hl : l.stackTraces = false) : ∀ q ∈ L_X11_correlation, (q.2.1 < 5 → gk_Lk l RX11 gk_W1 4 q.1 q.2.1 q.2.2.1 q.2.2.2.1 q.2.2.2.2.1 q.2.2.2.2.2) := (List.forall_mem_cons.mpr ⟨(fun _ => ⟨yX11_isBetween, cX11_isBetween, 3, (some .boolean), 0, _, M_X11_isBetween hl, ⟨by decide, by decide⟩, ⟨by decide, by decide, by decide +kernel⟩, ⟨(gk_wm 1334 (by decide +kernel)), (gk_wm 99 (by decide +kernel))⟩, Or.inl ⟨rfl, rfl, (gk_wm 1333 (by decide +kernel)), gk_wm 1332 (by decide +kernel)⟩⟩), (List.forall_mem_cons.mpr ⟨(fun _ => ⟨yX11_fail, cX11_fail, 2, (some .int), 0, _, M_X11_fail hl, ⟨by decide, by decide⟩, ⟨by decide, by decide, by decide +kernel⟩, ⟨(gk_wm 1342 (by decide +kernel)), (gk_wm 99 (by decide +kernel))⟩, Or.inr (Or.inr (Or.inr (Or.inl ⟨rfl, rfl, (gk_wm 1341 (by decide +kernel)), (gk_wm 32 (by decide +kernel)), gk_wm 1339 (by decide +kernel), by decide, rfl⟩)))⟩), (List.forall_mem_cons.mpr ⟨(fun _ => ⟨yX11_isMicrophone, cX11_isMicrophone, 2, (some .boolean), 1, _, M_X11_isMicrophone hl, ⟨by decide, by decide⟩, ⟨by decide, by decide, by decide +kernel⟩, ⟨(gk_wm 1421 (by decide +kernel)), (gk_wm 99 (by decide +kernel))⟩, Or.inr (Or.inr (Or.inr (Or.inl ⟨rfl, rfl, (gk_wm 1420 (by decide +kernel)), (gk_wm 40 (by decide +kernel)), gk_wm 1418 (by decide +kernel), by decide, rfl⟩)))⟩), (List.forall_mem_cons.mpr ⟨(fun _ => ⟨yX11_correlationOf, cX11_correlationOf, 7, (some .long), 3, _, M_X11_correlationOf hl, ⟨by decide, by decide⟩, ⟨by decide, by decide, by decide +kernel⟩, ⟨(gk_wm 1573 (by decide +kernel)), (gk_wm 99 (by decide +kernel))⟩, Or.inr (Or.inr (Or.inr (Or.inl ⟨rfl, rfl, (gk_wm 1572 (by decide +kernel)), (gk_wm 61 (by decide +kernel)), gk_wm 1570 (by decide +kernel), by decide, rfl⟩)))⟩), (fun _ h => absurd h List.not_mem_nil)⟩)⟩)⟩)⟩)
theorem sp_X11_correlation : ∀ q ∈ L_X11_correlation, gk_Sq RX11 gk_W1 4 q := (List.forall_mem_cons.mpr ⟨⟨fun h => absurd h (by decide), fun h => absurd h (by decide), fun h => absurd h (by decide), fun h => absurd h (by decide), fun h => absurd h (by decide), fun h => absurd h (by decide)⟩, (List.forall_mem_cons.mpr ⟨⟨fun h => absurd h (by decide), fun h => absurd h (by decide), fun h => absurd h (by decide), fun h => absurd h (by decide), fun h => absurd h (by decide), fun h => absurd h (by decide)⟩, (List.forall_mem_cons.mpr ⟨⟨fun h => absurd h (by decide), fun h => absurd h (by decide), fun h => absurd h (by decide), fun h => absurd h (by decide), fun h => absurd h (by decide), fun h => absurd h (by decide)⟩, (List.forall_mem_cons.mpr ⟨⟨fun h => absurd h (by decide), fun h => absurd h (by decide), fun h => absurd h (by decide), fun h => absurd h (by decide), fun h => absurd h (by decide), fun h => absurd h (by decide)⟩, (fun _ h => absurd h List.not_mem_nil)⟩)⟩)⟩)⟩)
theorem M_X11_correlation {l : Launch} (hl : l.stackTraces = false) : gk_Mt l yX11_correlation (.code yX11_correlation cX11_correlation 4 (some .long) :: gk_W1) 4 0 S_X11_correlation := gk_meth hl gk_cw_ok (by decide +kernel) rfl m_X11_correlation pX11_ok (gk_Sp_of sp_X11_correlation) pX11_st (fun ci m S h => absurd h (by intro h; cases h)) (xf_X11 4) (fun idx kd ci mm cost S2 h h5 => lk_X11_correlation hl _ (gk_lk_mem h) h5)

def S_X11_sampleNumber : gk_S := fun as n fl x y K => ∃ (m : Int32) (t : Int32) (g : Nat → Int32), as = [.ref 189, .int m, .int t] ∧ (n = 202 ∧ fl = gk_fT) ∧ (MG g x) ∧ (gOK g) ∧ ((0 ≤ m ∧ m < g 8) → (0 ≤ t ∧ t ≤ 255) → ∀ (x2 : gk_X) (y2 : gk_Y), MOk g 0 x x2 y y2 → K (.inl (some (.int (gk_sn g (cN m) (cN t))))) n fl x2 y2) ∧ (¬ (0 ≤ m ∧ m < g 8) → ∀ (x2 : gk_X) (y2 : gk_Y), MOk g 1 x x2 y y2 → K (.inl (some (.int 0))) n fl x2 y2) ∧ ((0 ≤ m ∧ m < g 8) → ¬ (0 ≤ t ∧ t ≤ 255) → ∀ (x2 : gk_X) (y2 : gk_Y), MOk g 2 x x2 y y2 → K (.inl (some (.int 0))) n fl x2 y2)
theorem r_X11_sampleNumber (w : gk_W c P cs (fun _ _ => none) rt uf sc K V) {idx : Nat} {m : Int32} {t : Int32} {g : Nat → Int32} (hd : decode c pc = .ok (.invokevirtual idx, 3)) (hp : pc + 3 = pc2) (hc : cs idx = some (1, 10, 3, 0, S_X11_sampleNumber)) (h8 : Nat.ble (r.map Value.category).sum 8 = true) (hp0 : MG g x) (hp1 : gOK g) (kk0 : (0 ≤ m ∧ m < g 8) → (0 ≤ t ∧ t ≤ 255) → ∀ (x2 : gk_X) (y2 : gk_Y), MOk g 0 x x2 y y2 → V pc2 L ((.int (gk_sn g (cN m) (cN t))) :: r) 202 gk_fT x2 y2 u) (kk1 : ¬ (0 ≤ m ∧ m < g 8) → ∀ (x2 : gk_X) (y2 : gk_Y), MOk g 1 x x2 y y2 → V pc2 L ((.int 0) :: r) 202 gk_fT x2 y2 u) (kk2 : (0 ≤ m ∧ m < g 8) → ¬ (0 ≤ t ∧ t ≤ 255) → ∀ (x2 : gk_X) (y2 : gk_Y), MOk g 2 x x2 y y2 → V pc2 L ((.int 0) :: r) 202 gk_fT x2 y2 u) : V pc L (.int t :: .int m :: .ref 189 :: r) 202 gk_fT x y u :=
  g_callv w hd hp hc (as := [.ref 189, .int m, .int t]) rfl h8 rfl rfl rfl (Or.inr (Or.inl ⟨Or.inl rfl, _, _, rfl, (gk_kd_j rfl rfl), rfl⟩)) (Or.inl rfl) ⟨m, t, g, rfl, ⟨rfl, rfl⟩, hp0, hp1, kk0, kk1, kk2⟩
def L_X11_sampleNumber : List (Nat × gk_M0) := [(56, (0, 10, 1, 0, S_X11_isTime)), (64, (1, 10, 2, 0, S_X11_fail)), (106, (1, 10, 2, 0, S_X11_isMicrophone)), (133, (1, 10, 3, 0, S_X11_markOf)), (229, (1, 10, 3, 0, S_X11_layFocus)), (232, (1, 10, 2, 0, S_X11_firstSample)), (238, (1, 10, 3, 0, S_X11_shiftOf))]
def cs_X11_sampleNumber : Nat → Option gk_M0 := gk_lk L_X11_sampleNumber
theorem m_X11_sampleNumber : ∀ (as : List Value) (n : Nat) (fl : gk_F) (x : gk_X) (y : gk_Y) (K : gk_K), S_X11_sampleNumber as n fl x y K → (gk_L0 as).length ≤ 3 ∧ ∀ V : gk_V, gk_W cX11_sampleNumber pX11 cs_X11_sampleNumber (fun _ _ => none) (some .int) 0 none K V → V 0 (gk_en as 3) [] n fl x y 0 := by
  intro as n fl x y K hS
  obtain ⟨m, t, g, rfl, ⟨rfl, rfl⟩, hp0, hp1, q0, q1, q2⟩ := hS
  refine ⟨Nat.le_of_ble_eq_true rfl, fun V w => ?_⟩
  show V 0 [some (.ref 189), some (.int m), some (.int t)] [] 202 gk_fT x y 0
  obtain ⟨nv4, ns6, nm8, z6, z7, z8⟩ := wf_n hp1.1
  have w6 : 0 ≤ (g 6).toInt := by show 0 ≤ gz g 6; omega
  have w7 : 0 ≤ (g 7).toInt := by show 0 ≤ gz g 7; omega
  have w8 : 0 ≤ (g 8).toInt := by show 0 ≤ gz g 8; omega
  refine s_aload_n (pc2 := 1) w dX11_sampleNumber_0 rfl rfl ?_
  refine s_iconst (pc2 := 2) (v := 0) w dX11_sampleNumber_1 rfl rfl ?_
  refine m_putI (pc2 := 5) (ci := 10) (k := 4) w dX11_sampleNumber_2 rfl rfl rfl rfl rfl (by intro h; cases h) ?_
  have f0 := MOk.ini (y := y) hp0
  generalize gk_up x 189 4 0 = x0 at f0 ⊢
  refine s_aload_n (pc2 := 6) w dX11_sampleNumber_5 rfl rfl ?_
  refine s_iload_n (pc2 := 7) w dX11_sampleNumber_6 rfl rfl ?_
  refine r_X11_isMicrophone (pc2 := 10) w dX11_sampleNumber_7 rfl rfl rfl ?_
  rw [f0.1 8 (by decide), isn_e w8]
  refine s_if_ne (pc2 := 13) (tgt := 19) w dX11_sampleNumber_10 rfl (by decide) (fun c10 => ?_) (fun c10 => ?_)
  · rw [g_b0, Classical.not_not] at c10
    refine s_iload_n (pc2 := 20) w dX11_sampleNumber_19 rfl rfl ?_
    refine r_X11_isTime (pc2 := 23) w dX11_sampleNumber_20 rfl rfl rfl ?_
    refine s_if_ne (pc2 := 26) (tgt := 32) w dX11_sampleNumber_23 rfl (by decide) (fun c23 => ?_) (fun c23 => ?_)
    · rw [g_b0, Classical.not_not] at c23
      obtain ⟨a, rfl, ah⟩ := ix_n c10
      have ah : a < nM g := ah
      obtain ⟨k, rfl, kh⟩ := ix_t c23
      rw [cN_n a (by omega), cN_n k (by omega)] at q0
      refine s_aload_n (pc2 := 33) w dX11_sampleNumber_32 rfl rfl ?_
      refine m_getR (pc2 := 36) (ci := 10) (k := 0) (j2 := 190) w dX11_sampleNumber_33 rfl rfl rfl rfl rfl rfl ?_
      refine s_bipush (pc2 := 38) (v := 10) w dX11_sampleNumber_36 rfl rfl ?_
      refine m_ialoadN (pc2 := 39) (t := 10) (N := 2234) w dX11_sampleNumber_38 rfl rfl rfl rfl (by decide) rfl ?_
      refine s_iconst (pc2 := 40) (v := 2) w dX11_sampleNumber_39 rfl rfl ?_
      refine s_ic_ne (pc2 := 43) (tgt := 58) w dX11_sampleNumber_40 rfl (by decide) (fun c40 => ?_) (fun c40 => ?_)
      · have hn : ¬ g 10 = 2 := fun h => c40 ((f0.1 10 (by decide)).trans h)
        obtain ⟨k1, k2, k3, k4, k5, -, hpb⟩ := wf_focus hp1.1 hn ah (by_ := 0) (by omega)
        have hdb := gk_dlb (hpb false) (t := (k : Int)) (by omega) (by omega)
        have hcc := hp1.1.1.1
        have hq1 := gk_mulb (a := (k : Int)) (b := gz g 0) (A := 256) (B := 1000) (by omega) (by omega) (by omega) (by omega)
        have hq0 : 0 ≤ (k : Int) * gz g 0 := Int.mul_nonneg (by omega) (by omega)
        refine s_aload_n (pc2 := 59) w dX11_sampleNumber_58 rfl rfl ?_
        refine s_iload_n (pc2 := 60) w dX11_sampleNumber_59 rfl rfl ?_
        refine s_iconst (pc2 := 61) (v := 0) w dX11_sampleNumber_60 rfl rfl ?_
        refine r_X11_layFocus (pc2 := 64) (B := 0) w dX11_sampleNumber_61 rfl rfl rfl (fun k hk => f0.1 k (by omega)) hp1.1 hn rfl ah rfl (by omega) ?_
        refine s_aload_n (pc2 := 65) w dX11_sampleNumber_64 rfl rfl ?_
        refine s_aload_n (pc2 := 66) w dX11_sampleNumber_65 rfl rfl ?_
        refine s_iload_n (pc2 := 67) w dX11_sampleNumber_66 rfl rfl ?_
        refine s_iconst (pc2 := 68) (v := 0) w dX11_sampleNumber_67 rfl rfl ?_
        refine r_X11_markOf (pc2 := 71) (rf := false) w dX11_sampleNumber_68 rfl rfl rfl rfl kh ((gk_ur_ne (by decide)).trans ((gk_ur_ne (by decide)).trans ((f0.1 0 (by decide)).trans (gz_I g 0)))) ((gk_ur_ne (by decide)).trans (gk_ur_in kh)) rfl ?_
        refine r_X11_firstSample (pc2 := 74) w dX11_sampleNumber_71 rfl rfl rfl rfl (by omega) ((gk_ur_ne (by decide)).trans ((gk_ur_ne (by decide)).trans ((f0.1 0 (by decide)).trans (gz_I g 0)))) hp1.1.1.1 ?_
        rw [fN_e hcc.1, show gI (fN g a 0 k) = gk_sn g a k from (if_neg hn).symm]
        refine s_ireturn w dX11_sampleNumber_74 rfl rfl ?_
        first | exact q0 c10 c23 _ _ f0 | exact q0 c10 c23 _ _ ((f0.ur (by decide)).ur (by decide))
      · have hd : g 10 = 2 := (f0.1 10 (by decide)).symm.trans c40
        refine s_iload_n (pc2 := 44) w dX11_sampleNumber_43 rfl rfl ?_
        refine s_aload_n (pc2 := 45) w dX11_sampleNumber_44 rfl rfl ?_
        refine s_iload_n (pc2 := 46) w dX11_sampleNumber_45 rfl rfl ?_
        refine s_aload_n (pc2 := 47) w dX11_sampleNumber_46 rfl rfl ?_
        refine m_getR (pc2 := 50) (ci := 10) (k := 0) (j2 := 190) w dX11_sampleNumber_47 rfl rfl rfl rfl rfl rfl ?_
        refine s_bipush (pc2 := 52) (v := 12) w dX11_sampleNumber_50 rfl rfl ?_
        refine m_ialoadN (pc2 := 53) (t := 12) (N := 2234) w dX11_sampleNumber_52 rfl rfl rfl rfl (by decide) rfl ?_
        refine r_X11_shiftOf (pc2 := 56) w dX11_sampleNumber_53 rfl rfl rfl rfl (by omega) ((f0.1 (154 + 4 * a + 0) (by omega)).trans (gz_I g _)) (hp1.1.2.2.2.1 a ah).1 ((f0.1 12 (by decide)).trans (gz_I g 12)) (by have := dir_b hp1.1 hd; omega) ((f0.1 0 (by decide)).trans (gz_I g 0)) hp1.1.1.1 ?_
        refine s_iadd (pc2 := 57) w dX11_sampleNumber_56 rfl ?_
        rw [show nI k + gI (gz g (154 + 4 * a + 0) * gz g 12 / (100 * gz g 0)) = gk_sn g a k by unfold gk_sn; rw [if_pos hd]; rfl]
        refine s_ireturn w dX11_sampleNumber_57 rfl rfl ?_
        first | exact q0 c10 c23 _ _ f0 | exact q0 c10 c23 _ _ ((f0.ur (by decide)).ur (by decide))
    · refine s_aload_n (pc2 := 27) w dX11_sampleNumber_26 rfl rfl ?_
      refine s_iconst (pc2 := 28) (v := 2) w dX11_sampleNumber_27 rfl rfl ?_
      refine r_X11_fail (pc2 := 31) w dX11_sampleNumber_28 rfl rfl rfl ?_
      refine s_ireturn w dX11_sampleNumber_31 rfl rfl ?_
      rw [g_b0] at c23
      exact q2 c10 (fun hc => c23 hc) _ _ (f0.fail 2)
  · refine s_aload_n (pc2 := 14) w dX11_sampleNumber_13 rfl rfl ?_
    refine s_iconst (pc2 := 15) (v := 1) w dX11_sampleNumber_14 rfl rfl ?_
    refine r_X11_fail (pc2 := 18) w dX11_sampleNumber_15 rfl rfl rfl ?_
    refine s_ireturn w dX11_sampleNumber_18 rfl rfl ?_
    rw [g_b0] at c10
    exact q1  (fun hc => c10 hc) _ _ (f0.fail 1)
theorem lk_X11_sampleNumber {l : Launch} (hl : l.stackTraces = false) : ∀ q ∈ L_X11_sampleNumber, (q.2.1 < 5 → gk_Lk l RX11 gk_W1 4 q.1 q.2.1 q.2.2.1 q.2.2.2.1 q.2.2.2.2.1 q.2.2.2.2.2) := (List.forall_mem_cons.mpr ⟨(fun _ => ⟨yX11_isTime, cX11_isTime, 1, (some .boolean), 1, _, M_X11_isTime hl, ⟨by decide, by decide⟩, ⟨by decide, by decide, by decide +kernel⟩, ⟨(gk_wm 1432 (by decide +kernel)), (gk_wm 99 (by decide +kernel))⟩, Or.inl ⟨rfl, rfl, (gk_wm 1431 (by decide +kernel)), gk_wm 1430 (by decide +kernel)⟩⟩), (List.forall_mem_cons.mpr ⟨(fun _ => ⟨yX11_fail, cX11_fail, 2, (some .int), 0, _, M_X11_fail hl, ⟨by decide, by decide⟩, ⟨by decide, by decide, by decide +kernel⟩, ⟨(gk_wm 1342 (by decide +kernel)), (gk_wm 99 (by decide +kernel))⟩, Or.inr (Or.inr (Or.inr (Or.inl ⟨rfl, rfl, (gk_wm 1341 (by decide +kernel)), (gk_wm 32 (by decide +kernel)), gk_wm 1339 (by decide +kernel), by decide, rfl⟩)))⟩), (List.forall_mem_cons.mpr ⟨(fun _ => ⟨yX11_isMicrophone, cX11_isMicrophone, 2, (some .boolean), 1, _, M_X11_isMicrophone hl, ⟨by decide, by decide⟩, ⟨by decide, by decide, by decide +kernel⟩, ⟨(gk_wm 1421 (by decide +kernel)), (gk_wm 99 (by decide +kernel))⟩, Or.inr (Or.inr (Or.inr (Or.inl ⟨rfl, rfl, (gk_wm 1420 (by decide +kernel)), (gk_wm 40 (by decide +kernel)), gk_wm 1418 (by decide +kernel), by decide, rfl⟩)))⟩), (List.forall_mem_cons.mpr ⟨(fun _ => ⟨yX11_markOf, cX11_markOf, 3, (some .int), 0, _, M_X11_markOf hl, ⟨by decide, by decide⟩, ⟨by decide, by decide, by decide +kernel⟩, ⟨(gk_wm 1481 (by decide +kernel)), (gk_wm 99 (by decide +kernel))⟩, Or.inr (Or.inr (Or.inr (Or.inl ⟨rfl, rfl, (gk_wm 1480 (by decide +kernel)), (gk_wm 49 (by decide +kernel)), gk_wm 1478 (by decide +kernel), by decide, rfl⟩)))⟩), (List.forall_mem_cons.mpr ⟨(fun _ => ⟨yX11_layFocus, cX11_layFocus, 6, none, 3, _, M_X11_layFocus hl, ⟨by decide, by decide⟩, ⟨by decide, by decide, by decide +kernel⟩, ⟨(gk_wm 1610 (by decide +kernel)), (gk_wm 99 (by decide +kernel))⟩, Or.inr (Or.inr (Or.inr (Or.inl ⟨rfl, rfl, (gk_wm 1609 (by decide +kernel)), (gk_wm 64 (by decide +kernel)), gk_wm 1607 (by decide +kernel), by decide, rfl⟩)))⟩), (List.forall_mem_cons.mpr ⟨(fun _ => ⟨yX11_firstSample, cX11_firstSample, 2, (some .int), 0, _, M_X11_firstSample hl, ⟨by decide, by decide⟩, ⟨by decide, by decide, by decide +kernel⟩, ⟨(gk_wm 1614 (by decide +kernel)), (gk_wm 99 (by decide +kernel))⟩, Or.inr (Or.inr (Or.inr (Or.inl ⟨rfl, rfl, (gk_wm 1613 (by decide +kernel)), (gk_wm 65 (by decide +kernel)), gk_wm 1611 (by decide +kernel), by decide, rfl⟩)))⟩), (List.forall_mem_cons.mpr ⟨(fun _ => ⟨yX11_shiftOf, cX11_shiftOf, 3, (some .int), 1, _, M_X11_shiftOf hl, ⟨by decide, by decide⟩, ⟨by decide, by decide, by decide +kernel⟩, ⟨(gk_wm 1605 (by decide +kernel)), (gk_wm 99 (by decide +kernel))⟩, Or.inr (Or.inr (Or.inr (Or.inl ⟨rfl, rfl, (gk_wm 1604 (by decide +kernel)), (gk_wm 63 (by decide +kernel)), gk_wm 1602 (by decide +kernel), by decide, rfl⟩)))⟩), (fun _ h => absurd h List.not_mem_nil)⟩)⟩)⟩)⟩)⟩)⟩)⟩)
theorem sp_X11_sampleNumber : ∀ q ∈ L_X11_sampleNumber, gk_Sq RX11 gk_W1 4 q := (List.forall_mem_cons.mpr ⟨⟨fun h => absurd h (by decide), fun h => absurd h (by decide), fun h => absurd h (by decide), fun h => absurd h (by decide), fun h => absurd h (by decide), fun h => absurd h (by decide)⟩, (List.forall_mem_cons.mpr ⟨⟨fun h => absurd h (by decide), fun h => absurd h (by decide), fun h => absurd h (by decide), fun h => absurd h (by decide), fun h => absurd h (by decide), fun h => absurd h (by decide)⟩, (List.forall_mem_cons.mpr ⟨⟨fun h => absurd h (by decide), fun h => absurd h (by decide), fun h => absurd h (by decide), fun h => absurd h (by decide), fun h => absurd h (by decide), fun h => absurd h (by decide)⟩, (List.forall_mem_cons.mpr ⟨⟨fun h => absurd h (by decide), fun h => absurd h (by decide), fun h => absurd h (by decide), fun h => absurd h (by decide), fun h => absurd h (by decide), fun h => absurd h (by decide)⟩, (List.forall_mem_cons.mpr ⟨⟨fun h => absurd h (by decide), fun h => absurd h (by decide), fun h => absurd h (by decide), fun h => absurd h (by decide), fun h => absurd h (by decide), fun h => absurd h (by decide)⟩, (List.forall_mem_cons.mpr ⟨⟨fun h => absurd h (by decide), fun h => absurd h (by decide), fun h => absurd h (by decide), fun h => absurd h (by decide), fun h => absurd h (by decide), fun h => absurd h (by decide)⟩, (List.forall_mem_cons.mpr ⟨⟨fun h => absurd h (by decide), fun h => absurd h (by decide), fun h => absurd h (by decide), fun h => absurd h (by decide), fun h => absurd h (by decide), fun h => absurd h (by decide)⟩, (fun _ h => absurd h List.not_mem_nil)⟩)⟩)⟩)⟩)⟩)⟩)⟩)
theorem M_X11_sampleNumber {l : Launch} (hl : l.stackTraces = false) : gk_Mt l yX11_sampleNumber (.code yX11_sampleNumber cX11_sampleNumber 3 (some .int) :: gk_W1) 4 0 S_X11_sampleNumber := gk_meth hl gk_cw_ok (by decide +kernel) rfl m_X11_sampleNumber pX11_ok (gk_Sp_of sp_X11_sampleNumber) pX11_st (fun ci m S h => absurd h (by intro h; cases h)) (xf_X11 4) (fun idx kd ci mm cost S2 h h5 => lk_X11_sampleNumber hl _ (gk_lk_mem h) h5)

def S_X11_part : gk_S := fun as n fl x y K => ∃ (m : Int32) (t : Int32) (g : Nat → Int32), as = [.ref 189, .int m, .int t] ∧ (n = 202 ∧ fl = gk_fT) ∧ (MG g x) ∧ (gOK g) ∧ ((0 ≤ m ∧ m < g 8) → (0 ≤ t ∧ t ≤ 255) → ∀ (x2 : gk_X) (y2 : gk_Y), MOk g 0 x x2 y y2 → K (.inl (some (.int (gk_pp g (cN m) 0 (cN t))))) n fl x2 y2) ∧ (¬ (0 ≤ m ∧ m < g 8) → ∀ (x2 : gk_X) (y2 : gk_Y), MOk g 1 x x2 y y2 → K (.inl (some (.int 0))) n fl x2 y2) ∧ ((0 ≤ m ∧ m < g 8) → ¬ (0 ≤ t ∧ t ≤ 255) → ∀ (x2 : gk_X) (y2 : gk_Y), MOk g 2 x x2 y y2 → K (.inl (some (.int 0))) n fl x2 y2)
theorem r_X11_part (w : gk_W c P cs (fun _ _ => none) rt uf sc K V) {idx : Nat} {m : Int32} {t : Int32} {g : Nat → Int32} (hd : decode c pc = .ok (.invokevirtual idx, 3)) (hp : pc + 3 = pc2) (hc : cs idx = some (1, 10, 3, 0, S_X11_part)) (h8 : Nat.ble (r.map Value.category).sum 8 = true) (hp0 : MG g x) (hp1 : gOK g) (kk0 : (0 ≤ m ∧ m < g 8) → (0 ≤ t ∧ t ≤ 255) → ∀ (x2 : gk_X) (y2 : gk_Y), MOk g 0 x x2 y y2 → V pc2 L ((.int (gk_pp g (cN m) 0 (cN t))) :: r) 202 gk_fT x2 y2 u) (kk1 : ¬ (0 ≤ m ∧ m < g 8) → ∀ (x2 : gk_X) (y2 : gk_Y), MOk g 1 x x2 y y2 → V pc2 L ((.int 0) :: r) 202 gk_fT x2 y2 u) (kk2 : (0 ≤ m ∧ m < g 8) → ¬ (0 ≤ t ∧ t ≤ 255) → ∀ (x2 : gk_X) (y2 : gk_Y), MOk g 2 x x2 y y2 → V pc2 L ((.int 0) :: r) 202 gk_fT x2 y2 u) : V pc L (.int t :: .int m :: .ref 189 :: r) 202 gk_fT x y u :=
  g_callv w hd hp hc (as := [.ref 189, .int m, .int t]) rfl h8 rfl rfl rfl (Or.inr (Or.inl ⟨Or.inl rfl, _, _, rfl, (gk_kd_j rfl rfl), rfl⟩)) (Or.inl rfl) ⟨m, t, g, rfl, ⟨rfl, rfl⟩, hp0, hp1, kk0, kk1, kk2⟩
def L_X11_part : List (Nat × gk_M0) := [(56, (0, 10, 1, 0, S_X11_isTime)), (64, (1, 10, 2, 0, S_X11_fail)), (106, (1, 10, 2, 0, S_X11_isMicrophone)), (241, (1, 10, 3, 0, S_X11_layParts))]
def cs_X11_part : Nat → Option gk_M0 := gk_lk L_X11_part
theorem m_X11_part : ∀ (as : List Value) (n : Nat) (fl : gk_F) (x : gk_X) (y : gk_Y) (K : gk_K), S_X11_part as n fl x y K → (gk_L0 as).length ≤ 3 ∧ ∀ V : gk_V, gk_W cX11_part pX11 cs_X11_part (fun _ _ => none) (some .int) 0 none K V → V 0 (gk_en as 3) [] n fl x y 0 := by
  intro as n fl x y K hS
  obtain ⟨m, t, g, rfl, ⟨rfl, rfl⟩, hp0, hp1, q0, q1, q2⟩ := hS
  refine ⟨Nat.le_of_ble_eq_true rfl, fun V w => ?_⟩
  show V 0 [some (.ref 189), some (.int m), some (.int t)] [] 202 gk_fT x y 0
  obtain ⟨nv4, ns6, nm8, z6, z7, z8⟩ := wf_n hp1.1
  have w6 : 0 ≤ (g 6).toInt := by show 0 ≤ gz g 6; omega
  have w7 : 0 ≤ (g 7).toInt := by show 0 ≤ gz g 7; omega
  have w8 : 0 ≤ (g 8).toInt := by show 0 ≤ gz g 8; omega
  refine s_aload_n (pc2 := 1) w dX11_part_0 rfl rfl ?_
  refine s_iconst (pc2 := 2) (v := 0) w dX11_part_1 rfl rfl ?_
  refine m_putI (pc2 := 5) (ci := 10) (k := 4) w dX11_part_2 rfl rfl rfl rfl rfl (by intro h; cases h) ?_
  have f0 := MOk.ini (y := y) hp0
  generalize gk_up x 189 4 0 = x0 at f0 ⊢
  refine s_aload_n (pc2 := 6) w dX11_part_5 rfl rfl ?_
  refine s_iload_n (pc2 := 7) w dX11_part_6 rfl rfl ?_
  refine r_X11_isMicrophone (pc2 := 10) w dX11_part_7 rfl rfl rfl ?_
  rw [f0.1 8 (by decide), isn_e w8]
  refine s_if_ne (pc2 := 13) (tgt := 19) w dX11_part_10 rfl (by decide) (fun c10 => ?_) (fun c10 => ?_)
  · rw [g_b0, Classical.not_not] at c10
    refine s_iload_n (pc2 := 20) w dX11_part_19 rfl rfl ?_
    refine r_X11_isTime (pc2 := 23) w dX11_part_20 rfl rfl rfl ?_
    refine s_if_ne (pc2 := 26) (tgt := 32) w dX11_part_23 rfl (by decide) (fun c23 => ?_) (fun c23 => ?_)
    · rw [g_b0, Classical.not_not] at c23
      obtain ⟨a, rfl, ah⟩ := ix_n c10
      have ah : a < nM g := ah
      obtain ⟨k, rfl, kh⟩ := ix_t c23
      rw [cN_n a (by omega), cN_n k (by omega)] at q0
      refine s_aload_n (pc2 := 33) w dX11_part_32 rfl rfl ?_
      refine s_iload_n (pc2 := 34) w dX11_part_33 rfl rfl ?_
      refine s_iconst (pc2 := 35) (v := 0) w dX11_part_34 rfl rfl ?_
      refine r_X11_layParts (pc2 := 38) (B := 0) w dX11_part_35 rfl rfl rfl f0.1 hp1.1 hp1.2.1 rfl ah rfl (by omega) (fun x1 hx1 => ?_)
      refine s_aload_n (pc2 := 39) w dX11_part_38 rfl rfl ?_
      refine m_getR (pc2 := 42) (ci := 10) (k := 8) (j2 := 197) w dX11_part_39 rfl rfl rfl rfl rfl rfl ?_
      refine s_iload_n (pc2 := 43) w dX11_part_42 rfl rfl ?_
      refine m_ialoadN (pc2 := 44) (t := k) (N := 256) w dX11_part_43 rfl rfl rfl rfl kh rfl ?_
      rw [hx1 197 k (by decide) (by decide), gk_ur_in kh]
      refine s_ireturn w dX11_part_44 rfl rfl ?_
      exact q0 c10 c23 _ _ (f0.ge (fun i k h => (hx1 i k (by omega) (by omega)).trans (gk_ur_ne (by omega))))
    · refine s_aload_n (pc2 := 27) w dX11_part_26 rfl rfl ?_
      refine s_iconst (pc2 := 28) (v := 2) w dX11_part_27 rfl rfl ?_
      refine r_X11_fail (pc2 := 31) w dX11_part_28 rfl rfl rfl ?_
      refine s_ireturn w dX11_part_31 rfl rfl ?_
      rw [g_b0] at c23
      exact q2 c10 (fun hc => c23 hc) _ _ (f0.fail 2)
  · refine s_aload_n (pc2 := 14) w dX11_part_13 rfl rfl ?_
    refine s_iconst (pc2 := 15) (v := 1) w dX11_part_14 rfl rfl ?_
    refine r_X11_fail (pc2 := 18) w dX11_part_15 rfl rfl rfl ?_
    refine s_ireturn w dX11_part_18 rfl rfl ?_
    rw [g_b0] at c10
    exact q1  (fun hc => c10 hc) _ _ (f0.fail 1)
theorem lk_X11_part {l : Launch} (hl : l.stackTraces = false) : ∀ q ∈ L_X11_part, (q.2.1 < 5 → gk_Lk l RX11 gk_W1 5 q.1 q.2.1 q.2.2.1 q.2.2.2.1 q.2.2.2.2.1 q.2.2.2.2.2) := (List.forall_mem_cons.mpr ⟨(fun _ => ⟨yX11_isTime, cX11_isTime, 1, (some .boolean), 1, _, M_X11_isTime hl, ⟨by decide, by decide⟩, ⟨by decide, by decide, by decide +kernel⟩, ⟨(gk_wm 1432 (by decide +kernel)), (gk_wm 99 (by decide +kernel))⟩, Or.inl ⟨rfl, rfl, (gk_wm 1431 (by decide +kernel)), gk_wm 1430 (by decide +kernel)⟩⟩), (List.forall_mem_cons.mpr ⟨(fun _ => ⟨yX11_fail, cX11_fail, 2, (some .int), 0, _, M_X11_fail hl, ⟨by decide, by decide⟩, ⟨by decide, by decide, by decide +kernel⟩, ⟨(gk_wm 1342 (by decide +kernel)), (gk_wm 99 (by decide +kernel))⟩, Or.inr (Or.inr (Or.inr (Or.inl ⟨rfl, rfl, (gk_wm 1341 (by decide +kernel)), (gk_wm 32 (by decide +kernel)), gk_wm 1339 (by decide +kernel), by decide, rfl⟩)))⟩), (List.forall_mem_cons.mpr ⟨(fun _ => ⟨yX11_isMicrophone, cX11_isMicrophone, 2, (some .boolean), 1, _, M_X11_isMicrophone hl, ⟨by decide, by decide⟩, ⟨by decide, by decide, by decide +kernel⟩, ⟨(gk_wm 1421 (by decide +kernel)), (gk_wm 99 (by decide +kernel))⟩, Or.inr (Or.inr (Or.inr (Or.inl ⟨rfl, rfl, (gk_wm 1420 (by decide +kernel)), (gk_wm 40 (by decide +kernel)), gk_wm 1418 (by decide +kernel), by decide, rfl⟩)))⟩), (List.forall_mem_cons.mpr ⟨(fun _ => ⟨yX11_layParts, cX11_layParts, 5, none, 4, _, M_X11_layParts hl, ⟨by decide, by decide⟩, ⟨by decide, by decide, by decide +kernel⟩, ⟨(gk_wm 1622 (by decide +kernel)), (gk_wm 99 (by decide +kernel))⟩, Or.inr (Or.inr (Or.inr (Or.inl ⟨rfl, rfl, (gk_wm 1621 (by decide +kernel)), (gk_wm 66 (by decide +kernel)), gk_wm 1619 (by decide +kernel), by decide, rfl⟩)))⟩), (fun _ h => absurd h List.not_mem_nil)⟩)⟩)⟩)⟩)
theorem sp_X11_part : ∀ q ∈ L_X11_part, gk_Sq RX11 gk_W1 5 q := (List.forall_mem_cons.mpr ⟨⟨fun h => absurd h (by decide), fun h => absurd h (by decide), fun h => absurd h (by decide), fun h => absurd h (by decide), fun h => absurd h (by decide), fun h => absurd h (by decide)⟩, (List.forall_mem_cons.mpr ⟨⟨fun h => absurd h (by decide), fun h => absurd h (by decide), fun h => absurd h (by decide), fun h => absurd h (by decide), fun h => absurd h (by decide), fun h => absurd h (by decide)⟩, (List.forall_mem_cons.mpr ⟨⟨fun h => absurd h (by decide), fun h => absurd h (by decide), fun h => absurd h (by decide), fun h => absurd h (by decide), fun h => absurd h (by decide), fun h => absurd h (by decide)⟩, (List.forall_mem_cons.mpr ⟨⟨fun h => absurd h (by decide), fun h => absurd h (by decide), fun h => absurd h (by decide), fun h => absurd h (by decide), fun h => absurd h (by decide), fun h => absurd h (by decide)⟩, (fun _ h => absurd h List.not_mem_nil)⟩)⟩)⟩)⟩)
theorem M_X11_part {l : Launch} (hl : l.stackTraces = false) : gk_Mt l yX11_part (.code yX11_part cX11_part 3 (some .int) :: gk_W1) 5 0 S_X11_part := gk_meth hl gk_cw_ok (by decide +kernel) rfl m_X11_part pX11_ok (gk_Sp_of sp_X11_part) pX11_st (fun ci m S h => absurd h (by intro h; cases h)) (xf_X11 5) (fun idx kd ci mm cost S2 h h5 => lk_X11_part hl _ (gk_lk_mem h) h5)

def S_X11_beam : gk_S := fun as n fl x y K => ∃ (t : Int32) (g : Nat → Int32), as = [.ref 189, .int t] ∧ (n = 202 ∧ fl = gk_fT) ∧ (MG g x) ∧ (gOK g) ∧ ((0 ≤ t ∧ t ≤ 255) → ∀ (x2 : gk_X) (y2 : gk_Y), MOk g 0 x x2 y y2 → K (.inl (some (.int (gB g 0 (cN t))))) n fl x2 y2) ∧ (¬ (0 ≤ t ∧ t ≤ 255) → ∀ (x2 : gk_X) (y2 : gk_Y), MOk g 1 x x2 y y2 → K (.inl (some (.int 0))) n fl x2 y2)
theorem r_X11_beam (w : gk_W c P cs (fun _ _ => none) rt uf sc K V) {idx : Nat} {t : Int32} {g : Nat → Int32} (hd : decode c pc = .ok (.invokevirtual idx, 3)) (hp : pc + 3 = pc2) (hc : cs idx = some (1, 10, 2, 0, S_X11_beam)) (h8 : Nat.ble (r.map Value.category).sum 8 = true) (hp0 : MG g x) (hp1 : gOK g) (kk0 : (0 ≤ t ∧ t ≤ 255) → ∀ (x2 : gk_X) (y2 : gk_Y), MOk g 0 x x2 y y2 → V pc2 L ((.int (gB g 0 (cN t))) :: r) 202 gk_fT x2 y2 u) (kk1 : ¬ (0 ≤ t ∧ t ≤ 255) → ∀ (x2 : gk_X) (y2 : gk_Y), MOk g 1 x x2 y y2 → V pc2 L ((.int 0) :: r) 202 gk_fT x2 y2 u) : V pc L (.int t :: .ref 189 :: r) 202 gk_fT x y u :=
  g_callv w hd hp hc (as := [.ref 189, .int t]) rfl h8 rfl rfl rfl (Or.inr (Or.inl ⟨Or.inl rfl, _, _, rfl, (gk_kd_j rfl rfl), rfl⟩)) (Or.inl rfl) ⟨t, g, rfl, ⟨rfl, rfl⟩, hp0, hp1, kk0, kk1⟩
def L_X11_beam : List (Nat × gk_M0) := [(56, (0, 10, 1, 0, S_X11_isTime)), (64, (1, 10, 2, 0, S_X11_fail)), (250, (1, 10, 2, 0, S_X11_layBeam))]
def cs_X11_beam : Nat → Option gk_M0 := gk_lk L_X11_beam
theorem m_X11_beam : ∀ (as : List Value) (n : Nat) (fl : gk_F) (x : gk_X) (y : gk_Y) (K : gk_K), S_X11_beam as n fl x y K → (gk_L0 as).length ≤ 2 ∧ ∀ V : gk_V, gk_W cX11_beam pX11 cs_X11_beam (fun _ _ => none) (some .int) 0 none K V → V 0 (gk_en as 2) [] n fl x y 0 := by
  intro as n fl x y K hS
  obtain ⟨t, g, rfl, ⟨rfl, rfl⟩, hp0, hp1, q0, q1⟩ := hS
  refine ⟨Nat.le_of_ble_eq_true rfl, fun V w => ?_⟩
  show V 0 [some (.ref 189), some (.int t)] [] 202 gk_fT x y 0
  obtain ⟨nv4, ns6, nm8, z6, z7, z8⟩ := wf_n hp1.1
  have w6 : 0 ≤ (g 6).toInt := by show 0 ≤ gz g 6; omega
  have w7 : 0 ≤ (g 7).toInt := by show 0 ≤ gz g 7; omega
  have w8 : 0 ≤ (g 8).toInt := by show 0 ≤ gz g 8; omega
  refine s_aload_n (pc2 := 1) w dX11_beam_0 rfl rfl ?_
  refine s_iconst (pc2 := 2) (v := 0) w dX11_beam_1 rfl rfl ?_
  refine m_putI (pc2 := 5) (ci := 10) (k := 4) w dX11_beam_2 rfl rfl rfl rfl rfl (by intro h; cases h) ?_
  have f0 := MOk.ini (y := y) hp0
  generalize gk_up x 189 4 0 = x0 at f0 ⊢
  refine s_iload_n (pc2 := 6) w dX11_beam_5 rfl rfl ?_
  refine r_X11_isTime (pc2 := 9) w dX11_beam_6 rfl rfl rfl ?_
  refine s_if_ne (pc2 := 12) (tgt := 18) w dX11_beam_9 rfl (by decide) (fun c9 => ?_) (fun c9 => ?_)
  · rw [g_b0, Classical.not_not] at c9
    obtain ⟨k, rfl, kh⟩ := ix_t c9
    rw [cN_n k (by omega)] at q0
    refine s_aload_n (pc2 := 19) w dX11_beam_18 rfl rfl ?_
    refine s_iconst (pc2 := 20) (v := 0) w dX11_beam_19 rfl rfl ?_
    refine r_X11_layBeam (pc2 := 23) (B := 0) w dX11_beam_20 rfl rfl rfl f0.1 hp1.1 hp1.2.1 rfl (by omega) (fun x1 hx1 => ?_)
    have f1 : MOk g 0 x x1 y y := f0.ge (fun i k h => (hx1 i k (by omega) (by omega) (by omega)).trans (gk_ur_ne (by omega)))
    have hr : ∀ k, k < 256 → x1 196 k = gB g 0 k := fun k hk => (hx1 196 k (by decide) (by decide) (by decide)).trans (gk_ur_in hk)
    refine s_aload_n (pc2 := 24) w dX11_beam_23 rfl rfl ?_
    refine m_getR (pc2 := 27) (ci := 10) (k := 7) (j2 := 196) w dX11_beam_24 rfl rfl rfl rfl rfl rfl ?_
    refine s_iload_n (pc2 := 28) w dX11_beam_27 rfl rfl ?_
    refine m_ialoadN (pc2 := 29) (t := k) (N := 256) w dX11_beam_28 rfl rfl rfl rfl kh rfl ?_
    rw [hr k kh]
    refine s_ireturn w dX11_beam_29 rfl rfl ?_
    exact q0 c9 _ _ f1
  · refine s_aload_n (pc2 := 13) w dX11_beam_12 rfl rfl ?_
    refine s_iconst (pc2 := 14) (v := 1) w dX11_beam_13 rfl rfl ?_
    refine r_X11_fail (pc2 := 17) w dX11_beam_14 rfl rfl rfl ?_
    refine s_ireturn w dX11_beam_17 rfl rfl ?_
    rw [g_b0] at c9
    exact q1  (fun hc => c9 hc) _ _ (f0.fail 1)
theorem lk_X11_beam {l : Launch} (hl : l.stackTraces = false) : ∀ q ∈ L_X11_beam, (q.2.1 < 5 → gk_Lk l RX11 gk_W1 6 q.1 q.2.1 q.2.2.1 q.2.2.2.1 q.2.2.2.2.1 q.2.2.2.2.2) := (List.forall_mem_cons.mpr ⟨(fun _ => ⟨yX11_isTime, cX11_isTime, 1, (some .boolean), 1, _, M_X11_isTime hl, ⟨by decide, by decide⟩, ⟨by decide, by decide, by decide +kernel⟩, ⟨(gk_wm 1432 (by decide +kernel)), (gk_wm 99 (by decide +kernel))⟩, Or.inl ⟨rfl, rfl, (gk_wm 1431 (by decide +kernel)), gk_wm 1430 (by decide +kernel)⟩⟩), (List.forall_mem_cons.mpr ⟨(fun _ => ⟨yX11_fail, cX11_fail, 2, (some .int), 0, _, M_X11_fail hl, ⟨by decide, by decide⟩, ⟨by decide, by decide, by decide +kernel⟩, ⟨(gk_wm 1342 (by decide +kernel)), (gk_wm 99 (by decide +kernel))⟩, Or.inr (Or.inr (Or.inr (Or.inl ⟨rfl, rfl, (gk_wm 1341 (by decide +kernel)), (gk_wm 32 (by decide +kernel)), gk_wm 1339 (by decide +kernel), by decide, rfl⟩)))⟩), (List.forall_mem_cons.mpr ⟨(fun _ => ⟨yX11_layBeam, cX11_layBeam, 3, none, 5, _, M_X11_layBeam hl, ⟨by decide, by decide⟩, ⟨by decide, by decide, by decide +kernel⟩, ⟨(gk_wm 1640 (by decide +kernel)), (gk_wm 99 (by decide +kernel))⟩, Or.inr (Or.inr (Or.inr (Or.inl ⟨rfl, rfl, (gk_wm 1639 (by decide +kernel)), (gk_wm 69 (by decide +kernel)), gk_wm 1637 (by decide +kernel), by decide, rfl⟩)))⟩), (fun _ h => absurd h List.not_mem_nil)⟩)⟩)⟩)
theorem sp_X11_beam : ∀ q ∈ L_X11_beam, gk_Sq RX11 gk_W1 6 q := (List.forall_mem_cons.mpr ⟨⟨fun h => absurd h (by decide), fun h => absurd h (by decide), fun h => absurd h (by decide), fun h => absurd h (by decide), fun h => absurd h (by decide), fun h => absurd h (by decide)⟩, (List.forall_mem_cons.mpr ⟨⟨fun h => absurd h (by decide), fun h => absurd h (by decide), fun h => absurd h (by decide), fun h => absurd h (by decide), fun h => absurd h (by decide), fun h => absurd h (by decide)⟩, (List.forall_mem_cons.mpr ⟨⟨fun h => absurd h (by decide), fun h => absurd h (by decide), fun h => absurd h (by decide), fun h => absurd h (by decide), fun h => absurd h (by decide), fun h => absurd h (by decide)⟩, (fun _ h => absurd h List.not_mem_nil)⟩)⟩)⟩)
theorem M_X11_beam {l : Launch} (hl : l.stackTraces = false) : gk_Mt l yX11_beam (.code yX11_beam cX11_beam 2 (some .int) :: gk_W1) 6 0 S_X11_beam := gk_meth hl gk_cw_ok (by decide +kernel) rfl m_X11_beam pX11_ok (gk_Sp_of sp_X11_beam) pX11_st (fun ci m S h => absurd h (by intro h; cases h)) (xf_X11 6) (fun idx kd ci mm cost S2 h h5 => lk_X11_beam hl _ (gk_lk_mem h) h5)

def S_X11_measureBeam : gk_S := fun as n fl x y K => ∃ (z : Int32) (f : Int32) (l : Int32) (g : Nat → Int32), as = [.ref 189, .int z, .int f, .int l] ∧ (n = 202 ∧ fl = gk_fT) ∧ (MG g x) ∧ (gOK g) ∧ (((0 ≤ z ∧ z ≤ 4) ∧ (0 ≤ f ∧ f ≤ l ∧ l ≤ 255)) → ∀ (x2 : gk_X) (y2 : gk_Y), MOk g 0 x x2 y y2 → K (.inl (some (.long (gk_ms (gB g 0) (cN z) (cN f) (cN l))))) n fl x2 y2) ∧ (¬ ((0 ≤ z ∧ z ≤ 4) ∧ (0 ≤ f ∧ f ≤ l ∧ l ≤ 255)) → ∀ (x2 : gk_X) (y2 : gk_Y), MOk g 1 x x2 y y2 → K (.inl (some (.long (0 : Int32).toInt64))) n fl x2 y2)
theorem r_X11_measureBeam (w : gk_W c P cs (fun _ _ => none) rt uf sc K V) {idx : Nat} {z : Int32} {f : Int32} {l : Int32} {g : Nat → Int32} (hd : decode c pc = .ok (.invokevirtual idx, 3)) (hp : pc + 3 = pc2) (hc : cs idx = some (1, 10, 4, 0, S_X11_measureBeam)) (h8 : Nat.ble (r.map Value.category).sum 8 = true) (hp0 : MG g x) (hp1 : gOK g) (kk0 : ((0 ≤ z ∧ z ≤ 4) ∧ (0 ≤ f ∧ f ≤ l ∧ l ≤ 255)) → ∀ (x2 : gk_X) (y2 : gk_Y), MOk g 0 x x2 y y2 → V pc2 L ((.long (gk_ms (gB g 0) (cN z) (cN f) (cN l))) :: r) 202 gk_fT x2 y2 u) (kk1 : ¬ ((0 ≤ z ∧ z ≤ 4) ∧ (0 ≤ f ∧ f ≤ l ∧ l ≤ 255)) → ∀ (x2 : gk_X) (y2 : gk_Y), MOk g 1 x x2 y y2 → V pc2 L ((.long (0 : Int32).toInt64) :: r) 202 gk_fT x2 y2 u) : V pc L (.int l :: .int f :: .int z :: .ref 189 :: r) 202 gk_fT x y u :=
  g_callv w hd hp hc (as := [.ref 189, .int z, .int f, .int l]) rfl h8 rfl rfl rfl (Or.inr (Or.inl ⟨Or.inl rfl, _, _, rfl, (gk_kd_j rfl rfl), rfl⟩)) (Or.inl rfl) ⟨z, f, l, g, rfl, ⟨rfl, rfl⟩, hp0, hp1, kk0, kk1⟩
def L_X11_measureBeam : List (Nat × gk_M0) := [(52, (0, 10, 3, 0, S_X11_isBetween)), (64, (1, 10, 2, 0, S_X11_fail)), (200, (0, 10, 2, 0, S_X11_isWindow)), (207, (1, 10, 4, 0, S_X11_measureOf)), (250, (1, 10, 2, 0, S_X11_layBeam))]
def cs_X11_measureBeam : Nat → Option gk_M0 := gk_lk L_X11_measureBeam
theorem m_X11_measureBeam : ∀ (as : List Value) (n : Nat) (fl : gk_F) (x : gk_X) (y : gk_Y) (K : gk_K), S_X11_measureBeam as n fl x y K → (gk_L0 as).length ≤ 4 ∧ ∀ V : gk_V, gk_W cX11_measureBeam pX11 cs_X11_measureBeam (fun _ _ => none) (some .long) 0 none K V → V 0 (gk_en as 4) [] n fl x y 0 := by
  intro as n fl x y K hS
  obtain ⟨z, f, l, g, rfl, ⟨rfl, rfl⟩, hp0, hp1, q0, q1⟩ := hS
  refine ⟨Nat.le_of_ble_eq_true rfl, fun V w => ?_⟩
  show V 0 [some (.ref 189), some (.int z), some (.int f), some (.int l)] [] 202 gk_fT x y 0
  obtain ⟨nv4, ns6, nm8, z6, z7, z8⟩ := wf_n hp1.1
  have w6 : 0 ≤ (g 6).toInt := by show 0 ≤ gz g 6; omega
  have w7 : 0 ≤ (g 7).toInt := by show 0 ≤ gz g 7; omega
  have w8 : 0 ≤ (g 8).toInt := by show 0 ≤ gz g 8; omega
  refine s_aload_n (pc2 := 1) w dX11_measureBeam_0 rfl rfl ?_
  refine s_iconst (pc2 := 2) (v := 0) w dX11_measureBeam_1 rfl rfl ?_
  refine m_putI (pc2 := 5) (ci := 10) (k := 4) w dX11_measureBeam_2 rfl rfl rfl rfl rfl (by intro h; cases h) ?_
  have f0 := MOk.ini (y := y) hp0
  generalize gk_up x 189 4 0 = x0 at f0 ⊢
  refine s_iload_n (pc2 := 6) w dX11_measureBeam_5 rfl rfl ?_
  refine s_iconst (pc2 := 7) (v := 0) w dX11_measureBeam_6 rfl rfl ?_
  refine s_iconst (pc2 := 8) (v := 4) w dX11_measureBeam_7 rfl rfl ?_
  refine r_X11_isBetween (pc2 := 11) w dX11_measureBeam_8 rfl rfl rfl ?_
  refine s_if_eq (pc2 := 14) (tgt := 22) w dX11_measureBeam_11 rfl (by decide) (fun c11 => ?_) (fun c11 => ?_)
  · refine s_aload_n (pc2 := 23) w dX11_measureBeam_22 rfl rfl ?_
    refine s_iconst (pc2 := 24) (v := 1) w dX11_measureBeam_23 rfl rfl ?_
    refine r_X11_fail (pc2 := 27) w dX11_measureBeam_24 rfl rfl rfl ?_
    refine s_i2l (pc2 := 28) w dX11_measureBeam_27 rfl ?_
    refine s_lreturn w dX11_measureBeam_28 rfl ?_
    rw [g_b0] at c11
    exact q1  (fun hc => c11 hc.1) _ _ (f0.fail 1)
  · rw [g_b0, Classical.not_not] at c11
    refine s_iload_n (pc2 := 15) w dX11_measureBeam_14 rfl rfl ?_
    refine s_iload_n (pc2 := 16) w dX11_measureBeam_15 rfl rfl ?_
    refine r_X11_isWindow (pc2 := 19) w dX11_measureBeam_16 rfl rfl rfl ?_
    refine s_if_ne (pc2 := 22) (tgt := 29) w dX11_measureBeam_19 rfl (by decide) (fun c19 => ?_) (fun c19 => ?_)
    · rw [g_b0, Classical.not_not] at c19
      obtain ⟨k, rfl, kh⟩ := ix_b (b := 4) (by decide) c11
      obtain ⟨b, e, rfl, rfl, be, eh⟩ := ix_w c19
      rw [cN_n k (by omega), cN_n b (by omega), cN_n e (by omega)] at q0
      refine s_aload_n (pc2 := 30) w dX11_measureBeam_29 rfl rfl ?_
      refine s_iconst (pc2 := 31) (v := 0) w dX11_measureBeam_30 rfl rfl ?_
      refine r_X11_layBeam (pc2 := 34) (B := 0) w dX11_measureBeam_31 rfl rfl rfl f0.1 hp1.1 hp1.2.1 rfl (by omega) (fun x1 hx1 => ?_)
      have f1 : MOk g 0 x x1 y y := f0.ge (fun i k h => (hx1 i k (by omega) (by omega) (by omega)).trans (gk_ur_ne (by omega)))
      have hr : ∀ k, k < 256 → x1 196 k = gB g 0 k := fun k hk => (hx1 196 k (by decide) (by decide) (by decide)).trans (gk_ur_in hk)
      refine s_aload_n (pc2 := 35) w dX11_measureBeam_34 rfl rfl ?_
      refine s_iload_n (pc2 := 36) w dX11_measureBeam_35 rfl rfl ?_
      refine s_iload_n (pc2 := 37) w dX11_measureBeam_36 rfl rfl ?_
      refine s_iload_n (pc2 := 38) w dX11_measureBeam_37 rfl rfl ?_
      refine r_X11_measureOf (pc2 := 41) w dX11_measureBeam_38 rfl rfl rfl rfl kh rfl rfl be eh (row_bd (g := g) hr (fun k hk => gB_b hp1.1 hp1.2.1 (by omega) hk) eh) ?_
      rw [row_ms hr be eh]
      refine s_lreturn w dX11_measureBeam_41 rfl ?_
      exact q0 ⟨c11, c19⟩ _ _ f1
    · refine s_aload_n (pc2 := 23) w dX11_measureBeam_22 rfl rfl ?_
      refine s_iconst (pc2 := 24) (v := 1) w dX11_measureBeam_23 rfl rfl ?_
      refine r_X11_fail (pc2 := 27) w dX11_measureBeam_24 rfl rfl rfl ?_
      refine s_i2l (pc2 := 28) w dX11_measureBeam_27 rfl ?_
      refine s_lreturn w dX11_measureBeam_28 rfl ?_
      rw [g_b0] at c19
      exact q1  (fun hc => c19 hc.2) _ _ (f0.fail 1)
theorem lk_X11_measureBeam {l : Launch} (hl : l.stackTraces = false) : ∀ q ∈ L_X11_measureBeam, (q.2.1 < 5 → gk_Lk l RX11 gk_W1 6 q.1 q.2.1 q.2.2.1 q.2.2.2.1 q.2.2.2.2.1 q.2.2.2.2.2) := (List.forall_mem_cons.mpr ⟨(fun _ => ⟨yX11_isBetween, cX11_isBetween, 3, (some .boolean), 0, _, M_X11_isBetween hl, ⟨by decide, by decide⟩, ⟨by decide, by decide, by decide +kernel⟩, ⟨(gk_wm 1334 (by decide +kernel)), (gk_wm 99 (by decide +kernel))⟩, Or.inl ⟨rfl, rfl, (gk_wm 1333 (by decide +kernel)), gk_wm 1332 (by decide +kernel)⟩⟩), (List.forall_mem_cons.mpr ⟨(fun _ => ⟨yX11_fail, cX11_fail, 2, (some .int), 0, _, M_X11_fail hl, ⟨by decide, by decide⟩, ⟨by decide, by decide, by decide +kernel⟩, ⟨(gk_wm 1342 (by decide +kernel)), (gk_wm 99 (by decide +kernel))⟩, Or.inr (Or.inr (Or.inr (Or.inl ⟨rfl, rfl, (gk_wm 1341 (by decide +kernel)), (gk_wm 32 (by decide +kernel)), gk_wm 1339 (by decide +kernel), by decide, rfl⟩)))⟩), (List.forall_mem_cons.mpr ⟨(fun _ => ⟨yX11_isWindow, cX11_isWindow, 2, (some .boolean), 2, _, M_X11_isWindow hl, ⟨by decide, by decide⟩, ⟨by decide, by decide, by decide +kernel⟩, ⟨(gk_wm 1525 (by decide +kernel)), (gk_wm 99 (by decide +kernel))⟩, Or.inl ⟨rfl, rfl, (gk_wm 1524 (by decide +kernel)), gk_wm 1523 (by decide +kernel)⟩⟩), (List.forall_mem_cons.mpr ⟨(fun _ => ⟨yX11_measureOf, cX11_measureOf, 4, (some .long), 2, _, M_X11_measureOf hl, ⟨by decide, by decide⟩, ⟨by decide, by decide, by decide +kernel⟩, ⟨(gk_wm 1533 (by decide +kernel)), (gk_wm 99 (by decide +kernel))⟩, Or.inr (Or.inr (Or.inr (Or.inl ⟨rfl, rfl, (gk_wm 1532 (by decide +kernel)), (gk_wm 56 (by decide +kernel)), gk_wm 1530 (by decide +kernel), by decide, rfl⟩)))⟩), (List.forall_mem_cons.mpr ⟨(fun _ => ⟨yX11_layBeam, cX11_layBeam, 3, none, 5, _, M_X11_layBeam hl, ⟨by decide, by decide⟩, ⟨by decide, by decide, by decide +kernel⟩, ⟨(gk_wm 1640 (by decide +kernel)), (gk_wm 99 (by decide +kernel))⟩, Or.inr (Or.inr (Or.inr (Or.inl ⟨rfl, rfl, (gk_wm 1639 (by decide +kernel)), (gk_wm 69 (by decide +kernel)), gk_wm 1637 (by decide +kernel), by decide, rfl⟩)))⟩), (fun _ h => absurd h List.not_mem_nil)⟩)⟩)⟩)⟩)⟩)
theorem sp_X11_measureBeam : ∀ q ∈ L_X11_measureBeam, gk_Sq RX11 gk_W1 6 q := (List.forall_mem_cons.mpr ⟨⟨fun h => absurd h (by decide), fun h => absurd h (by decide), fun h => absurd h (by decide), fun h => absurd h (by decide), fun h => absurd h (by decide), fun h => absurd h (by decide)⟩, (List.forall_mem_cons.mpr ⟨⟨fun h => absurd h (by decide), fun h => absurd h (by decide), fun h => absurd h (by decide), fun h => absurd h (by decide), fun h => absurd h (by decide), fun h => absurd h (by decide)⟩, (List.forall_mem_cons.mpr ⟨⟨fun h => absurd h (by decide), fun h => absurd h (by decide), fun h => absurd h (by decide), fun h => absurd h (by decide), fun h => absurd h (by decide), fun h => absurd h (by decide)⟩, (List.forall_mem_cons.mpr ⟨⟨fun h => absurd h (by decide), fun h => absurd h (by decide), fun h => absurd h (by decide), fun h => absurd h (by decide), fun h => absurd h (by decide), fun h => absurd h (by decide)⟩, (List.forall_mem_cons.mpr ⟨⟨fun h => absurd h (by decide), fun h => absurd h (by decide), fun h => absurd h (by decide), fun h => absurd h (by decide), fun h => absurd h (by decide), fun h => absurd h (by decide)⟩, (fun _ h => absurd h List.not_mem_nil)⟩)⟩)⟩)⟩)⟩)
theorem M_X11_measureBeam {l : Launch} (hl : l.stackTraces = false) : gk_Mt l yX11_measureBeam (.code yX11_measureBeam cX11_measureBeam 4 (some .long) :: gk_W1) 6 0 S_X11_measureBeam := gk_meth hl gk_cw_ok (by decide +kernel) rfl m_X11_measureBeam pX11_ok (gk_Sp_of sp_X11_measureBeam) pX11_st (fun ci m S h => absurd h (by intro h; cases h)) (xf_X11 6) (fun idx kd ci mm cost S2 h h5 => lk_X11_measureBeam hl _ (gk_lk_mem h) h5)

theorem ix_p {v : Int32} (h : 1 ≤ v ∧ v ≤ 64) : ∃ n : Nat, v = nI n ∧ 1 ≤ n ∧ n ≤ 64 := by
  obtain ⟨z, rfl, hz⟩ := gI_ex v
  have h1 := (gI_le (b := 64) hz ⟨by decide, by decide⟩).mp h.2
  have h2 := (gI_le (a := 1) ⟨by decide, by decide⟩ hz).mp h.1
  exact ⟨z.toNat, by rw [gI_nI]; exact congrArg gI (by omega), by omega, by omega⟩
def S_X11_periodPower : gk_S := fun as n fl x y K => ∃ (p : Int32) (f : Int32) (l : Int32) (g : Nat → Int32), as = [.ref 189, .int p, .int f, .int l] ∧ (n = 202 ∧ fl = gk_fT) ∧ (MG g x) ∧ (gOK g) ∧ (((1 ≤ p ∧ p ≤ 64) ∧ (0 ≤ f ∧ f ≤ l ∧ l ≤ 255)) → ∀ (x2 : gk_X) (y2 : gk_Y), MOk g 0 x x2 y y2 → K (.inl (some (.long (gL (gk_pw (gJ (gB g 0)) (cN f) (cN p) (cN l + 1 - cN f) (cN p)))))) n fl x2 y2) ∧ (¬ ((1 ≤ p ∧ p ≤ 64) ∧ (0 ≤ f ∧ f ≤ l ∧ l ≤ 255)) → ∀ (x2 : gk_X) (y2 : gk_Y), MOk g 1 x x2 y y2 → K (.inl (some (.long (0 : Int32).toInt64))) n fl x2 y2)
theorem r_X11_periodPower (w : gk_W c P cs (fun _ _ => none) rt uf sc K V) {idx : Nat} {p : Int32} {f : Int32} {l : Int32} {g : Nat → Int32} (hd : decode c pc = .ok (.invokevirtual idx, 3)) (hp : pc + 3 = pc2) (hc : cs idx = some (1, 10, 4, 0, S_X11_periodPower)) (h8 : Nat.ble (r.map Value.category).sum 8 = true) (hp0 : MG g x) (hp1 : gOK g) (kk0 : ((1 ≤ p ∧ p ≤ 64) ∧ (0 ≤ f ∧ f ≤ l ∧ l ≤ 255)) → ∀ (x2 : gk_X) (y2 : gk_Y), MOk g 0 x x2 y y2 → V pc2 L ((.long (gL (gk_pw (gJ (gB g 0)) (cN f) (cN p) (cN l + 1 - cN f) (cN p)))) :: r) 202 gk_fT x2 y2 u) (kk1 : ¬ ((1 ≤ p ∧ p ≤ 64) ∧ (0 ≤ f ∧ f ≤ l ∧ l ≤ 255)) → ∀ (x2 : gk_X) (y2 : gk_Y), MOk g 1 x x2 y y2 → V pc2 L ((.long (0 : Int32).toInt64) :: r) 202 gk_fT x2 y2 u) : V pc L (.int l :: .int f :: .int p :: .ref 189 :: r) 202 gk_fT x y u :=
  g_callv w hd hp hc (as := [.ref 189, .int p, .int f, .int l]) rfl h8 rfl rfl rfl (Or.inr (Or.inl ⟨Or.inl rfl, _, _, rfl, (gk_kd_j rfl rfl), rfl⟩)) (Or.inl rfl) ⟨p, f, l, g, rfl, ⟨rfl, rfl⟩, hp0, hp1, kk0, kk1⟩
def L_X11_periodPower : List (Nat × gk_M0) := [(64, (1, 10, 2, 0, S_X11_fail)), (200, (0, 10, 2, 0, S_X11_isWindow)), (250, (1, 10, 2, 0, S_X11_layBeam)), (253, (1, 10, 4, 0, S_X11_powerOf)), (256, (0, 10, 1, 0, S_X11_isPeriod))]
def cs_X11_periodPower : Nat → Option gk_M0 := gk_lk L_X11_periodPower
theorem m_X11_periodPower : ∀ (as : List Value) (n : Nat) (fl : gk_F) (x : gk_X) (y : gk_Y) (K : gk_K), S_X11_periodPower as n fl x y K → (gk_L0 as).length ≤ 4 ∧ ∀ V : gk_V, gk_W cX11_periodPower pX11 cs_X11_periodPower (fun _ _ => none) (some .long) 0 none K V → V 0 (gk_en as 4) [] n fl x y 0 := by
  intro as n fl x y K hS
  obtain ⟨p, f, l, g, rfl, ⟨rfl, rfl⟩, hp0, hp1, q0, q1⟩ := hS
  refine ⟨Nat.le_of_ble_eq_true rfl, fun V w => ?_⟩
  show V 0 [some (.ref 189), some (.int p), some (.int f), some (.int l)] [] 202 gk_fT x y 0
  obtain ⟨nv4, ns6, nm8, z6, z7, z8⟩ := wf_n hp1.1
  have w6 : 0 ≤ (g 6).toInt := by show 0 ≤ gz g 6; omega
  have w7 : 0 ≤ (g 7).toInt := by show 0 ≤ gz g 7; omega
  have w8 : 0 ≤ (g 8).toInt := by show 0 ≤ gz g 8; omega
  refine s_aload_n (pc2 := 1) w dX11_periodPower_0 rfl rfl ?_
  refine s_iconst (pc2 := 2) (v := 0) w dX11_periodPower_1 rfl rfl ?_
  refine m_putI (pc2 := 5) (ci := 10) (k := 4) w dX11_periodPower_2 rfl rfl rfl rfl rfl (by intro h; cases h) ?_
  have f0 := MOk.ini (y := y) hp0
  generalize gk_up x 189 4 0 = x0 at f0 ⊢
  refine s_iload_n (pc2 := 6) w dX11_periodPower_5 rfl rfl ?_
  refine r_X11_isPeriod (pc2 := 9) w dX11_periodPower_6 rfl rfl rfl ?_
  refine s_if_eq (pc2 := 12) (tgt := 20) w dX11_periodPower_9 rfl (by decide) (fun c9 => ?_) (fun c9 => ?_)
  · refine s_aload_n (pc2 := 21) w dX11_periodPower_20 rfl rfl ?_
    refine s_iconst (pc2 := 22) (v := 1) w dX11_periodPower_21 rfl rfl ?_
    refine r_X11_fail (pc2 := 25) w dX11_periodPower_22 rfl rfl rfl ?_
    refine s_i2l (pc2 := 26) w dX11_periodPower_25 rfl ?_
    refine s_lreturn w dX11_periodPower_26 rfl ?_
    rw [g_b0] at c9
    exact q1  (fun hc => c9 hc.1) _ _ (f0.fail 1)
  · rw [g_b0, Classical.not_not] at c9
    refine s_iload_n (pc2 := 13) w dX11_periodPower_12 rfl rfl ?_
    refine s_iload_n (pc2 := 14) w dX11_periodPower_13 rfl rfl ?_
    refine r_X11_isWindow (pc2 := 17) w dX11_periodPower_14 rfl rfl rfl ?_
    refine s_if_ne (pc2 := 20) (tgt := 27) w dX11_periodPower_17 rfl (by decide) (fun c17 => ?_) (fun c17 => ?_)
    · rw [g_b0, Classical.not_not] at c17
      obtain ⟨p, rfl, ph1, ph2⟩ := ix_p c9
      obtain ⟨b, e, rfl, rfl, be, eh⟩ := ix_w c17
      rw [cN_n p (by omega), cN_n b (by omega), cN_n e (by omega)] at q0
      refine s_aload_n (pc2 := 28) w dX11_periodPower_27 rfl rfl ?_
      refine s_iconst (pc2 := 29) (v := 0) w dX11_periodPower_28 rfl rfl ?_
      refine r_X11_layBeam (pc2 := 32) (B := 0) w dX11_periodPower_29 rfl rfl rfl f0.1 hp1.1 hp1.2.1 rfl (by omega) (fun x1 hx1 => ?_)
      have f1 : MOk g 0 x x1 y y := f0.ge (fun i k h => (hx1 i k (by omega) (by omega) (by omega)).trans (gk_ur_ne (by omega)))
      have hr : ∀ k, k < 256 → x1 196 k = gB g 0 k := fun k hk => (hx1 196 k (by decide) (by decide) (by decide)).trans (gk_ur_in hk)
      refine s_aload_n (pc2 := 33) w dX11_periodPower_32 rfl rfl ?_
      refine s_iload_n (pc2 := 34) w dX11_periodPower_33 rfl rfl ?_
      refine s_iload_n (pc2 := 35) w dX11_periodPower_34 rfl rfl ?_
      refine s_iload_n (pc2 := 36) w dX11_periodPower_35 rfl rfl ?_
      refine r_X11_powerOf (pc2 := 39) w dX11_periodPower_36 rfl rfl rfl rfl ⟨ph1, ph2⟩ rfl rfl be eh ?_
      rw [row_pw hr eh]
      refine s_lreturn w dX11_periodPower_39 rfl ?_
      exact q0 ⟨c9, c17⟩ _ _ (f1.yr (fun i k h => if_neg (fun h2 => h h2.1)))
    · refine s_aload_n (pc2 := 21) w dX11_periodPower_20 rfl rfl ?_
      refine s_iconst (pc2 := 22) (v := 1) w dX11_periodPower_21 rfl rfl ?_
      refine r_X11_fail (pc2 := 25) w dX11_periodPower_22 rfl rfl rfl ?_
      refine s_i2l (pc2 := 26) w dX11_periodPower_25 rfl ?_
      refine s_lreturn w dX11_periodPower_26 rfl ?_
      rw [g_b0] at c17
      exact q1  (fun hc => c17 hc.2) _ _ (f0.fail 1)
theorem lk_X11_periodPower {l : Launch} (hl : l.stackTraces = false) : ∀ q ∈ L_X11_periodPower, (q.2.1 < 5 → gk_Lk l RX11 gk_W1 6 q.1 q.2.1 q.2.2.1 q.2.2.2.1 q.2.2.2.2.1 q.2.2.2.2.2) := (List.forall_mem_cons.mpr ⟨(fun _ => ⟨yX11_fail, cX11_fail, 2, (some .int), 0, _, M_X11_fail hl, ⟨by decide, by decide⟩, ⟨by decide, by decide, by decide +kernel⟩, ⟨(gk_wm 1342 (by decide +kernel)), (gk_wm 99 (by decide +kernel))⟩, Or.inr (Or.inr (Or.inr (Or.inl ⟨rfl, rfl, (gk_wm 1341 (by decide +kernel)), (gk_wm 32 (by decide +kernel)), gk_wm 1339 (by decide +kernel), by decide, rfl⟩)))⟩), (List.forall_mem_cons.mpr ⟨(fun _ => ⟨yX11_isWindow, cX11_isWindow, 2, (some .boolean), 2, _, M_X11_isWindow hl, ⟨by decide, by decide⟩, ⟨by decide, by decide, by decide +kernel⟩, ⟨(gk_wm 1525 (by decide +kernel)), (gk_wm 99 (by decide +kernel))⟩, Or.inl ⟨rfl, rfl, (gk_wm 1524 (by decide +kernel)), gk_wm 1523 (by decide +kernel)⟩⟩), (List.forall_mem_cons.mpr ⟨(fun _ => ⟨yX11_layBeam, cX11_layBeam, 3, none, 5, _, M_X11_layBeam hl, ⟨by decide, by decide⟩, ⟨by decide, by decide, by decide +kernel⟩, ⟨(gk_wm 1640 (by decide +kernel)), (gk_wm 99 (by decide +kernel))⟩, Or.inr (Or.inr (Or.inr (Or.inl ⟨rfl, rfl, (gk_wm 1639 (by decide +kernel)), (gk_wm 69 (by decide +kernel)), gk_wm 1637 (by decide +kernel), by decide, rfl⟩)))⟩), (List.forall_mem_cons.mpr ⟨(fun _ => ⟨yX11_powerOf, cX11_powerOf, 7, (some .long), 0, _, M_X11_powerOf hl, ⟨by decide, by decide⟩, ⟨by decide, by decide, by decide +kernel⟩, ⟨(gk_wm 1663 (by decide +kernel)), (gk_wm 99 (by decide +kernel))⟩, Or.inr (Or.inr (Or.inr (Or.inl ⟨rfl, rfl, (gk_wm 1662 (by decide +kernel)), (gk_wm 72 (by decide +kernel)), gk_wm 1660 (by decide +kernel), by decide, rfl⟩)))⟩), (List.forall_mem_cons.mpr ⟨(fun _ => ⟨yX11_isPeriod, cX11_isPeriod, 1, (some .boolean), 1, _, M_X11_isPeriod hl, ⟨by decide, by decide⟩, ⟨by decide, by decide, by decide +kernel⟩, ⟨(gk_wm 1659 (by decide +kernel)), (gk_wm 99 (by decide +kernel))⟩, Or.inl ⟨rfl, rfl, (gk_wm 1658 (by decide +kernel)), gk_wm 1657 (by decide +kernel)⟩⟩), (fun _ h => absurd h List.not_mem_nil)⟩)⟩)⟩)⟩)⟩)
theorem sp_X11_periodPower : ∀ q ∈ L_X11_periodPower, gk_Sq RX11 gk_W1 6 q := (List.forall_mem_cons.mpr ⟨⟨fun h => absurd h (by decide), fun h => absurd h (by decide), fun h => absurd h (by decide), fun h => absurd h (by decide), fun h => absurd h (by decide), fun h => absurd h (by decide)⟩, (List.forall_mem_cons.mpr ⟨⟨fun h => absurd h (by decide), fun h => absurd h (by decide), fun h => absurd h (by decide), fun h => absurd h (by decide), fun h => absurd h (by decide), fun h => absurd h (by decide)⟩, (List.forall_mem_cons.mpr ⟨⟨fun h => absurd h (by decide), fun h => absurd h (by decide), fun h => absurd h (by decide), fun h => absurd h (by decide), fun h => absurd h (by decide), fun h => absurd h (by decide)⟩, (List.forall_mem_cons.mpr ⟨⟨fun h => absurd h (by decide), fun h => absurd h (by decide), fun h => absurd h (by decide), fun h => absurd h (by decide), fun h => absurd h (by decide), fun h => absurd h (by decide)⟩, (List.forall_mem_cons.mpr ⟨⟨fun h => absurd h (by decide), fun h => absurd h (by decide), fun h => absurd h (by decide), fun h => absurd h (by decide), fun h => absurd h (by decide), fun h => absurd h (by decide)⟩, (fun _ h => absurd h List.not_mem_nil)⟩)⟩)⟩)⟩)⟩)
theorem M_X11_periodPower {l : Launch} (hl : l.stackTraces = false) : gk_Mt l yX11_periodPower (.code yX11_periodPower cX11_periodPower 4 (some .long) :: gk_W1) 6 0 S_X11_periodPower := gk_meth hl gk_cw_ok (by decide +kernel) rfl m_X11_periodPower pX11_ok (gk_Sp_of sp_X11_periodPower) pX11_st (fun ci m S h => absurd h (by intro h; cases h)) (xf_X11 6) (fun idx kd ci mm cost S2 h h5 => lk_X11_periodPower hl _ (gk_lk_mem h) h5)

def S_X11_energyWith : gk_S := fun as n fl x y K => ∃ (b : Int32) (f : Int32) (l : Int32) (g : Nat → Int32) (B : Int) (a : Nat) (e : Nat), as = [.ref 189, .int b, .int f, .int l] ∧ (n = 202 ∧ fl = gk_fT) ∧ (MG g x) ∧ (gOK g) ∧ (b = gI B) ∧ (-2000 ≤ B ∧ B ≤ 2000) ∧ (f = nI a) ∧ (l = nI e) ∧ (a ≤ e) ∧ (e < 256) ∧ (∀ x2 : gk_X, (∀ i k, ¬ (194 ≤ i ∧ i ≤ 197) → x2 i k = x i k) → K (.inl (some (.long (gL (gE (gB g B) a e))))) n fl x2 y)
theorem r_X11_energyWith (w : gk_W c P cs (fun _ _ => none) rt uf sc K V) {idx : Nat} {b : Int32} {f : Int32} {l : Int32} {g : Nat → Int32} {B : Int} {a : Nat} {e : Nat} (hd : decode c pc = .ok (.invokevirtual idx, 3)) (hp : pc + 3 = pc2) (hc : cs idx = some (1, 10, 4, 0, S_X11_energyWith)) (h8 : Nat.ble (r.map Value.category).sum 8 = true) (hp0 : MG g x) (hp1 : gOK g) (hp2 : b = gI B) (hp3 : -2000 ≤ B ∧ B ≤ 2000) (hp4 : f = nI a) (hp5 : l = nI e) (hp6 : a ≤ e) (hp7 : e < 256) (kk0 : ∀ x2 : gk_X, (∀ i k, ¬ (194 ≤ i ∧ i ≤ 197) → x2 i k = x i k) → V pc2 L ((.long (gL (gE (gB g B) a e))) :: r) 202 gk_fT x2 y u) : V pc L (.int l :: .int f :: .int b :: .ref 189 :: r) 202 gk_fT x y u :=
  g_callv w hd hp hc (as := [.ref 189, .int b, .int f, .int l]) rfl h8 rfl rfl rfl (Or.inr (Or.inl ⟨Or.inl rfl, _, _, rfl, (gk_kd_j rfl rfl), rfl⟩)) (Or.inl rfl) ⟨b, f, l, g, B, a, e, rfl, ⟨rfl, rfl⟩, hp0, hp1, hp2, hp3, hp4, hp5, hp6, hp7, kk0⟩
def L_X11_energyWith : List (Nat × gk_M0) := [(184, (1, 10, 3, 0, S_X11_energyOf)), (250, (1, 10, 2, 0, S_X11_layBeam))]
def cs_X11_energyWith : Nat → Option gk_M0 := gk_lk L_X11_energyWith
theorem m_X11_energyWith : ∀ (as : List Value) (n : Nat) (fl : gk_F) (x : gk_X) (y : gk_Y) (K : gk_K), S_X11_energyWith as n fl x y K → (gk_L0 as).length ≤ 4 ∧ ∀ V : gk_V, gk_W cX11_energyWith pX11 cs_X11_energyWith (fun _ _ => none) (some .long) 0 none K V → V 0 (gk_en as 4) [] n fl x y 0 := by
  intro as n fl x y K hS
  obtain ⟨b, f, l, g, B, a, e, rfl, ⟨rfl, rfl⟩, hp0, hp1, hp2, hp3, hp4, hp5, hp6, hp7, q0⟩ := hS
  refine ⟨Nat.le_of_ble_eq_true rfl, fun V w => ?_⟩
  show V 0 [some (.ref 189), some (.int b), some (.int f), some (.int l)] [] 202 gk_fT x y 0
  subst hp2 hp4 hp5
  refine s_aload_n (pc2 := 1) w dX11_energyWith_0 rfl rfl ?_
  refine s_iload_n (pc2 := 2) w dX11_energyWith_1 rfl rfl ?_
  refine r_X11_layBeam (pc2 := 5) w dX11_energyWith_2 rfl rfl rfl hp0 hp1.1 hp1.2.1 rfl hp3 (fun x1 hx1 => ?_)
  have hr : ∀ k, k < 256 → x1 196 k = gB g B k := fun k hk => (hx1 196 k (by decide) (by decide) (by decide)).trans (gk_ur_in hk)
  refine s_aload_n (pc2 := 6) w dX11_energyWith_5 rfl rfl ?_
  refine s_iload_n (pc2 := 7) w dX11_energyWith_6 rfl rfl ?_
  refine s_iload_n (pc2 := 8) w dX11_energyWith_7 rfl rfl ?_
  refine r_X11_energyOf (pc2 := 11) w dX11_energyWith_8 rfl rfl rfl rfl rfl (by omega) hp7 ?_
  rw [row_eI hr hp7]
  refine s_lreturn w dX11_energyWith_11 rfl ?_
  exact q0 x1 (fun i k h => (hx1 i k (by omega) (by omega) (by omega)).trans (gk_ur_ne (by omega)))
theorem lk_X11_energyWith {l : Launch} (hl : l.stackTraces = false) : ∀ q ∈ L_X11_energyWith, (q.2.1 < 5 → gk_Lk l RX11 gk_W1 6 q.1 q.2.1 q.2.2.1 q.2.2.2.1 q.2.2.2.2.1 q.2.2.2.2.2) := (List.forall_mem_cons.mpr ⟨(fun _ => ⟨yX11_energyOf, cX11_energyOf, 6, (some .long), 0, _, M_X11_energyOf hl, ⟨by decide, by decide⟩, ⟨by decide, by decide, by decide +kernel⟩, ⟨(gk_wm 1537 (by decide +kernel)), (gk_wm 99 (by decide +kernel))⟩, Or.inr (Or.inr (Or.inr (Or.inl ⟨rfl, rfl, (gk_wm 1536 (by decide +kernel)), (gk_wm 57 (by decide +kernel)), gk_wm 1534 (by decide +kernel), by decide, rfl⟩)))⟩), (List.forall_mem_cons.mpr ⟨(fun _ => ⟨yX11_layBeam, cX11_layBeam, 3, none, 5, _, M_X11_layBeam hl, ⟨by decide, by decide⟩, ⟨by decide, by decide, by decide +kernel⟩, ⟨(gk_wm 1640 (by decide +kernel)), (gk_wm 99 (by decide +kernel))⟩, Or.inr (Or.inr (Or.inr (Or.inl ⟨rfl, rfl, (gk_wm 1639 (by decide +kernel)), (gk_wm 69 (by decide +kernel)), gk_wm 1637 (by decide +kernel), by decide, rfl⟩)))⟩), (fun _ h => absurd h List.not_mem_nil)⟩)⟩)
theorem sp_X11_energyWith : ∀ q ∈ L_X11_energyWith, gk_Sq RX11 gk_W1 6 q := (List.forall_mem_cons.mpr ⟨⟨fun h => absurd h (by decide), fun h => absurd h (by decide), fun h => absurd h (by decide), fun h => absurd h (by decide), fun h => absurd h (by decide), fun h => absurd h (by decide)⟩, (List.forall_mem_cons.mpr ⟨⟨fun h => absurd h (by decide), fun h => absurd h (by decide), fun h => absurd h (by decide), fun h => absurd h (by decide), fun h => absurd h (by decide), fun h => absurd h (by decide)⟩, (fun _ h => absurd h List.not_mem_nil)⟩)⟩)
theorem M_X11_energyWith {l : Launch} (hl : l.stackTraces = false) : gk_Mt l yX11_energyWith (.code yX11_energyWith cX11_energyWith 4 (some .long) :: gk_W1) 6 0 S_X11_energyWith := gk_meth hl gk_cw_ok (by decide +kernel) rfl m_X11_energyWith pX11_ok (gk_Sp_of sp_X11_energyWith) pX11_st (fun ci m S h => absurd h (by intro h; cases h)) (xf_X11 6) (fun idx kd ci mm cost S2 h h5 => lk_X11_energyWith hl _ (gk_lk_mem h) h5)

def S_X11_energyBeside : gk_S := fun as n fl x y K => ∃ (b : Int32) (f : Int32) (l : Int32) (g : Nat → Int32), as = [.ref 189, .int b, .int f, .int l] ∧ (n = 202 ∧ fl = gk_fT) ∧ (MG g x) ∧ (gOK g) ∧ (((-2000 ≤ b ∧ b ≤ 2000) ∧ (0 ≤ f ∧ f ≤ l ∧ l ≤ 255)) → ∀ (x2 : gk_X) (y2 : gk_Y), MOk g 0 x x2 y y2 → K (.inl (some (.long (gL (gE (gB g b.toInt) (cN f) (cN l)))))) n fl x2 y2) ∧ (¬ ((-2000 ≤ b ∧ b ≤ 2000) ∧ (0 ≤ f ∧ f ≤ l ∧ l ≤ 255)) → ∀ (x2 : gk_X) (y2 : gk_Y), MOk g 1 x x2 y y2 → K (.inl (some (.long (0 : Int32).toInt64))) n fl x2 y2)
theorem r_X11_energyBeside (w : gk_W c P cs (fun _ _ => none) rt uf sc K V) {idx : Nat} {b : Int32} {f : Int32} {l : Int32} {g : Nat → Int32} (hd : decode c pc = .ok (.invokevirtual idx, 3)) (hp : pc + 3 = pc2) (hc : cs idx = some (1, 10, 4, 0, S_X11_energyBeside)) (h8 : Nat.ble (r.map Value.category).sum 8 = true) (hp0 : MG g x) (hp1 : gOK g) (kk0 : ((-2000 ≤ b ∧ b ≤ 2000) ∧ (0 ≤ f ∧ f ≤ l ∧ l ≤ 255)) → ∀ (x2 : gk_X) (y2 : gk_Y), MOk g 0 x x2 y y2 → V pc2 L ((.long (gL (gE (gB g b.toInt) (cN f) (cN l)))) :: r) 202 gk_fT x2 y2 u) (kk1 : ¬ ((-2000 ≤ b ∧ b ≤ 2000) ∧ (0 ≤ f ∧ f ≤ l ∧ l ≤ 255)) → ∀ (x2 : gk_X) (y2 : gk_Y), MOk g 1 x x2 y y2 → V pc2 L ((.long (0 : Int32).toInt64) :: r) 202 gk_fT x2 y2 u) : V pc L (.int l :: .int f :: .int b :: .ref 189 :: r) 202 gk_fT x y u :=
  g_callv w hd hp hc (as := [.ref 189, .int b, .int f, .int l]) rfl h8 rfl rfl rfl (Or.inr (Or.inl ⟨Or.inl rfl, _, _, rfl, (gk_kd_j rfl rfl), rfl⟩)) (Or.inl rfl) ⟨b, f, l, g, rfl, ⟨rfl, rfl⟩, hp0, hp1, kk0, kk1⟩
def L_X11_energyBeside : List (Nat × gk_M0) := [(52, (0, 10, 3, 0, S_X11_isBetween)), (64, (1, 10, 2, 0, S_X11_fail)), (200, (0, 10, 2, 0, S_X11_isWindow)), (262, (1, 10, 4, 0, S_X11_energyWith))]
def cs_X11_energyBeside : Nat → Option gk_M0 := gk_lk L_X11_energyBeside
theorem m_X11_energyBeside : ∀ (as : List Value) (n : Nat) (fl : gk_F) (x : gk_X) (y : gk_Y) (K : gk_K), S_X11_energyBeside as n fl x y K → (gk_L0 as).length ≤ 4 ∧ ∀ V : gk_V, gk_W cX11_energyBeside pX11 cs_X11_energyBeside (fun _ _ => none) (some .long) 0 none K V → V 0 (gk_en as 4) [] n fl x y 0 := by
  intro as n fl x y K hS
  obtain ⟨b, f, l, g, rfl, ⟨rfl, rfl⟩, hp0, hp1, q0, q1⟩ := hS
  refine ⟨Nat.le_of_ble_eq_true rfl, fun V w => ?_⟩
  show V 0 [some (.ref 189), some (.int b), some (.int f), some (.int l)] [] 202 gk_fT x y 0
  obtain ⟨nv4, ns6, nm8, z6, z7, z8⟩ := wf_n hp1.1
  have w6 : 0 ≤ (g 6).toInt := by show 0 ≤ gz g 6; omega
  have w7 : 0 ≤ (g 7).toInt := by show 0 ≤ gz g 7; omega
  have w8 : 0 ≤ (g 8).toInt := by show 0 ≤ gz g 8; omega
  refine s_aload_n (pc2 := 1) w dX11_energyBeside_0 rfl rfl ?_
  refine s_iconst (pc2 := 2) (v := 0) w dX11_energyBeside_1 rfl rfl ?_
  refine m_putI (pc2 := 5) (ci := 10) (k := 4) w dX11_energyBeside_2 rfl rfl rfl rfl rfl (by intro h; cases h) ?_
  have f0 := MOk.ini (y := y) hp0
  generalize gk_up x 189 4 0 = x0 at f0 ⊢
  refine s_iload_n (pc2 := 6) w dX11_energyBeside_5 rfl rfl ?_
  refine s_sipush (pc2 := 9) (v := (-2000)) w dX11_energyBeside_6 rfl rfl ?_
  refine s_sipush (pc2 := 12) (v := 2000) w dX11_energyBeside_9 rfl rfl ?_
  refine r_X11_isBetween (pc2 := 15) w dX11_energyBeside_12 rfl rfl rfl ?_
  refine s_if_eq (pc2 := 18) (tgt := 26) w dX11_energyBeside_15 rfl (by decide) (fun c15 => ?_) (fun c15 => ?_)
  · refine s_aload_n (pc2 := 27) w dX11_energyBeside_26 rfl rfl ?_
    refine s_iconst (pc2 := 28) (v := 1) w dX11_energyBeside_27 rfl rfl ?_
    refine r_X11_fail (pc2 := 31) w dX11_energyBeside_28 rfl rfl rfl ?_
    refine s_i2l (pc2 := 32) w dX11_energyBeside_31 rfl ?_
    refine s_lreturn w dX11_energyBeside_32 rfl ?_
    rw [g_b0] at c15
    exact q1  (fun hc => c15 hc.1) _ _ (f0.fail 1)
  · rw [g_b0, Classical.not_not] at c15
    refine s_iload_n (pc2 := 19) w dX11_energyBeside_18 rfl rfl ?_
    refine s_iload_n (pc2 := 20) w dX11_energyBeside_19 rfl rfl ?_
    refine r_X11_isWindow (pc2 := 23) w dX11_energyBeside_20 rfl rfl rfl ?_
    refine s_if_ne (pc2 := 26) (tgt := 33) w dX11_energyBeside_23 rfl (by decide) (fun c23 => ?_) (fun c23 => ?_)
    · rw [g_b0, Classical.not_not] at c23
      obtain ⟨B, rfl, B1, B2⟩ := ix_r (a := -2000) (b := 2000) ⟨by decide, by decide⟩ ⟨by decide, by decide⟩ c15
      obtain ⟨a, e, rfl, rfl, ae, eh⟩ := ix_w c23
      rw [cN_n a (by omega), cN_n e (by omega)] at q0
      rw [gI_of ⟨by omega, by omega⟩] at q0
      refine s_aload_n (pc2 := 34) w dX11_energyBeside_33 rfl rfl ?_
      refine s_iload_n (pc2 := 35) w dX11_energyBeside_34 rfl rfl ?_
      refine s_iload_n (pc2 := 36) w dX11_energyBeside_35 rfl rfl ?_
      refine s_iload_n (pc2 := 37) w dX11_energyBeside_36 rfl rfl ?_
      refine r_X11_energyWith (pc2 := 40) w dX11_energyBeside_37 rfl rfl rfl f0.1 hp1 rfl ⟨B1, B2⟩ rfl rfl ae eh (fun x1 hx1 => ?_)
      refine s_lreturn w dX11_energyBeside_40 rfl ?_
      exact q0 ⟨c15, c23⟩ _ _ (f0.ge hx1)
    · refine s_aload_n (pc2 := 27) w dX11_energyBeside_26 rfl rfl ?_
      refine s_iconst (pc2 := 28) (v := 1) w dX11_energyBeside_27 rfl rfl ?_
      refine r_X11_fail (pc2 := 31) w dX11_energyBeside_28 rfl rfl rfl ?_
      refine s_i2l (pc2 := 32) w dX11_energyBeside_31 rfl ?_
      refine s_lreturn w dX11_energyBeside_32 rfl ?_
      rw [g_b0] at c23
      exact q1  (fun hc => c23 hc.2) _ _ (f0.fail 1)
theorem lk_X11_energyBeside {l : Launch} (hl : l.stackTraces = false) : ∀ q ∈ L_X11_energyBeside, (q.2.1 < 5 → gk_Lk l RX11 gk_W1 7 q.1 q.2.1 q.2.2.1 q.2.2.2.1 q.2.2.2.2.1 q.2.2.2.2.2) := (List.forall_mem_cons.mpr ⟨(fun _ => ⟨yX11_isBetween, cX11_isBetween, 3, (some .boolean), 0, _, M_X11_isBetween hl, ⟨by decide, by decide⟩, ⟨by decide, by decide, by decide +kernel⟩, ⟨(gk_wm 1334 (by decide +kernel)), (gk_wm 99 (by decide +kernel))⟩, Or.inl ⟨rfl, rfl, (gk_wm 1333 (by decide +kernel)), gk_wm 1332 (by decide +kernel)⟩⟩), (List.forall_mem_cons.mpr ⟨(fun _ => ⟨yX11_fail, cX11_fail, 2, (some .int), 0, _, M_X11_fail hl, ⟨by decide, by decide⟩, ⟨by decide, by decide, by decide +kernel⟩, ⟨(gk_wm 1342 (by decide +kernel)), (gk_wm 99 (by decide +kernel))⟩, Or.inr (Or.inr (Or.inr (Or.inl ⟨rfl, rfl, (gk_wm 1341 (by decide +kernel)), (gk_wm 32 (by decide +kernel)), gk_wm 1339 (by decide +kernel), by decide, rfl⟩)))⟩), (List.forall_mem_cons.mpr ⟨(fun _ => ⟨yX11_isWindow, cX11_isWindow, 2, (some .boolean), 2, _, M_X11_isWindow hl, ⟨by decide, by decide⟩, ⟨by decide, by decide, by decide +kernel⟩, ⟨(gk_wm 1525 (by decide +kernel)), (gk_wm 99 (by decide +kernel))⟩, Or.inl ⟨rfl, rfl, (gk_wm 1524 (by decide +kernel)), gk_wm 1523 (by decide +kernel)⟩⟩), (List.forall_mem_cons.mpr ⟨(fun _ => ⟨yX11_energyWith, cX11_energyWith, 4, (some .long), 6, _, M_X11_energyWith hl, ⟨by decide, by decide⟩, ⟨by decide, by decide, by decide +kernel⟩, ⟨(gk_wm 1679 (by decide +kernel)), (gk_wm 99 (by decide +kernel))⟩, Or.inr (Or.inr (Or.inr (Or.inl ⟨rfl, rfl, (gk_wm 1678 (by decide +kernel)), (gk_wm 74 (by decide +kernel)), gk_wm 1676 (by decide +kernel), by decide, rfl⟩)))⟩), (fun _ h => absurd h List.not_mem_nil)⟩)⟩)⟩)⟩)
theorem sp_X11_energyBeside : ∀ q ∈ L_X11_energyBeside, gk_Sq RX11 gk_W1 7 q := (List.forall_mem_cons.mpr ⟨⟨fun h => absurd h (by decide), fun h => absurd h (by decide), fun h => absurd h (by decide), fun h => absurd h (by decide), fun h => absurd h (by decide), fun h => absurd h (by decide)⟩, (List.forall_mem_cons.mpr ⟨⟨fun h => absurd h (by decide), fun h => absurd h (by decide), fun h => absurd h (by decide), fun h => absurd h (by decide), fun h => absurd h (by decide), fun h => absurd h (by decide)⟩, (List.forall_mem_cons.mpr ⟨⟨fun h => absurd h (by decide), fun h => absurd h (by decide), fun h => absurd h (by decide), fun h => absurd h (by decide), fun h => absurd h (by decide), fun h => absurd h (by decide)⟩, (List.forall_mem_cons.mpr ⟨⟨fun h => absurd h (by decide), fun h => absurd h (by decide), fun h => absurd h (by decide), fun h => absurd h (by decide), fun h => absurd h (by decide), fun h => absurd h (by decide)⟩, (fun _ h => absurd h List.not_mem_nil)⟩)⟩)⟩)⟩)
theorem M_X11_energyBeside {l : Launch} (hl : l.stackTraces = false) : gk_Mt l yX11_energyBeside (.code yX11_energyBeside cX11_energyBeside 4 (some .long) :: gk_W1) 7 0 S_X11_energyBeside := gk_meth hl gk_cw_ok (by decide +kernel) rfl m_X11_energyBeside pX11_ok (gk_Sp_of sp_X11_energyBeside) pX11_st (fun ci m S h => absurd h (by intro h; cases h)) (xf_X11 7) (fun idx kd ci mm cost S2 h h5 => lk_X11_energyBeside hl _ (gk_lk_mem h) h5)

def S_X11_spectrum : gk_S := fun as n fl x y K => ∃ (d : Int32) (p : Int32) (f : Int32) (l : Int32) (g : Nat → Int32), as = [.ref 189, .int d, .int p, .int f, .int l] ∧ (n = 202 ∧ fl = gk_fT) ∧ (MG g x) ∧ (gOK g) ∧ (((-100 ≤ d ∧ d ≤ 100) ∧ (1 ≤ p ∧ p ≤ 64) ∧ (0 ≤ f ∧ f ≤ l ∧ l ≤ 255)) → ∀ (x2 : gk_X) (y2 : gk_Y), MOk g 0 x x2 y y2 → K (.inl (some (.long (gL (gk_pw (gJ (gD g d.toInt)) (cN f) (cN p) (cN l + 1 - cN f) (cN p) * (cN p : Int)) / gL ((cN l : Int) - (cN f : Int) + 1))))) n fl x2 y2) ∧ (¬ ((-100 ≤ d ∧ d ≤ 100) ∧ (1 ≤ p ∧ p ≤ 64) ∧ (0 ≤ f ∧ f ≤ l ∧ l ≤ 255)) → ∀ (x2 : gk_X) (y2 : gk_Y), MOk g 1 x x2 y y2 → K (.inl (some (.long (0 : Int32).toInt64))) n fl x2 y2)
theorem r_X11_spectrum (w : gk_W c P cs (fun _ _ => none) rt uf sc K V) {idx : Nat} {d : Int32} {p : Int32} {f : Int32} {l : Int32} {g : Nat → Int32} (hd : decode c pc = .ok (.invokevirtual idx, 3)) (hp : pc + 3 = pc2) (hc : cs idx = some (1, 10, 5, 0, S_X11_spectrum)) (h8 : Nat.ble (r.map Value.category).sum 8 = true) (hp0 : MG g x) (hp1 : gOK g) (kk0 : ((-100 ≤ d ∧ d ≤ 100) ∧ (1 ≤ p ∧ p ≤ 64) ∧ (0 ≤ f ∧ f ≤ l ∧ l ≤ 255)) → ∀ (x2 : gk_X) (y2 : gk_Y), MOk g 0 x x2 y y2 → V pc2 L ((.long (gL (gk_pw (gJ (gD g d.toInt)) (cN f) (cN p) (cN l + 1 - cN f) (cN p) * (cN p : Int)) / gL ((cN l : Int) - (cN f : Int) + 1))) :: r) 202 gk_fT x2 y2 u) (kk1 : ¬ ((-100 ≤ d ∧ d ≤ 100) ∧ (1 ≤ p ∧ p ≤ 64) ∧ (0 ≤ f ∧ f ≤ l ∧ l ≤ 255)) → ∀ (x2 : gk_X) (y2 : gk_Y), MOk g 1 x x2 y y2 → V pc2 L ((.long (0 : Int32).toInt64) :: r) 202 gk_fT x2 y2 u) : V pc L (.int l :: .int f :: .int p :: .int d :: .ref 189 :: r) 202 gk_fT x y u :=
  g_callv w hd hp hc (as := [.ref 189, .int d, .int p, .int f, .int l]) rfl h8 rfl rfl rfl (Or.inr (Or.inl ⟨Or.inl rfl, _, _, rfl, (gk_kd_j rfl rfl), rfl⟩)) (Or.inl rfl) ⟨d, p, f, l, g, rfl, ⟨rfl, rfl⟩, hp0, hp1, kk0, kk1⟩
def L_X11_spectrum : List (Nat × gk_M0) := [(52, (0, 10, 3, 0, S_X11_isBetween)), (64, (1, 10, 2, 0, S_X11_fail)), (200, (0, 10, 2, 0, S_X11_isWindow)), (256, (0, 10, 1, 0, S_X11_isPeriod)), (259, (1, 10, 4, 0, S_X11_strengthOf)), (265, (1, 10, 2, 0, S_X11_layDirectedBeam))]
def cs_X11_spectrum : Nat → Option gk_M0 := gk_lk L_X11_spectrum
theorem m_X11_spectrum : ∀ (as : List Value) (n : Nat) (fl : gk_F) (x : gk_X) (y : gk_Y) (K : gk_K), S_X11_spectrum as n fl x y K → (gk_L0 as).length ≤ 5 ∧ ∀ V : gk_V, gk_W cX11_spectrum pX11 cs_X11_spectrum (fun _ _ => none) (some .long) 0 none K V → V 0 (gk_en as 5) [] n fl x y 0 := by
  intro as n fl x y K hS
  obtain ⟨d, p, f, l, g, rfl, ⟨rfl, rfl⟩, hp0, hp1, q0, q1⟩ := hS
  refine ⟨Nat.le_of_ble_eq_true rfl, fun V w => ?_⟩
  show V 0 [some (.ref 189), some (.int d), some (.int p), some (.int f), some (.int l)] [] 202 gk_fT x y 0
  obtain ⟨nv4, ns6, nm8, z6, z7, z8⟩ := wf_n hp1.1
  have w6 : 0 ≤ (g 6).toInt := by show 0 ≤ gz g 6; omega
  have w7 : 0 ≤ (g 7).toInt := by show 0 ≤ gz g 7; omega
  have w8 : 0 ≤ (g 8).toInt := by show 0 ≤ gz g 8; omega
  refine s_aload_n (pc2 := 1) w dX11_spectrum_0 rfl rfl ?_
  refine s_iconst (pc2 := 2) (v := 0) w dX11_spectrum_1 rfl rfl ?_
  refine m_putI (pc2 := 5) (ci := 10) (k := 4) w dX11_spectrum_2 rfl rfl rfl rfl rfl (by intro h; cases h) ?_
  have f0 := MOk.ini (y := y) hp0
  generalize gk_up x 189 4 0 = x0 at f0 ⊢
  refine s_iload_n (pc2 := 6) w dX11_spectrum_5 rfl rfl ?_
  refine s_bipush (pc2 := 8) (v := (-100)) w dX11_spectrum_6 rfl rfl ?_
  refine s_bipush (pc2 := 10) (v := 100) w dX11_spectrum_8 rfl rfl ?_
  refine r_X11_isBetween (pc2 := 13) w dX11_spectrum_10 rfl rfl rfl ?_
  refine s_if_eq (pc2 := 16) (tgt := 32) w dX11_spectrum_13 rfl (by decide) (fun c13 => ?_) (fun c13 => ?_)
  · refine s_aload_n (pc2 := 33) w dX11_spectrum_32 rfl rfl ?_
    refine s_iconst (pc2 := 34) (v := 1) w dX11_spectrum_33 rfl rfl ?_
    refine r_X11_fail (pc2 := 37) w dX11_spectrum_34 rfl rfl rfl ?_
    refine s_i2l (pc2 := 38) w dX11_spectrum_37 rfl ?_
    refine s_lreturn w dX11_spectrum_38 rfl ?_
    rw [g_b0] at c13
    exact q1  (fun hc => c13 hc.1) _ _ (f0.fail 1)
  · rw [g_b0, Classical.not_not] at c13
    refine s_iload_n (pc2 := 17) w dX11_spectrum_16 rfl rfl ?_
    refine r_X11_isPeriod (pc2 := 20) w dX11_spectrum_17 rfl rfl rfl ?_
    refine s_if_eq (pc2 := 23) (tgt := 32) w dX11_spectrum_20 rfl (by decide) (fun c20 => ?_) (fun c20 => ?_)
    · refine s_aload_n (pc2 := 33) w dX11_spectrum_32 rfl rfl ?_
      refine s_iconst (pc2 := 34) (v := 1) w dX11_spectrum_33 rfl rfl ?_
      refine r_X11_fail (pc2 := 37) w dX11_spectrum_34 rfl rfl rfl ?_
      refine s_i2l (pc2 := 38) w dX11_spectrum_37 rfl ?_
      refine s_lreturn w dX11_spectrum_38 rfl ?_
      rw [g_b0] at c20
      exact q1  (fun hc => c20 hc.2.1) _ _ (f0.fail 1)
    · rw [g_b0, Classical.not_not] at c20
      refine s_iload_n (pc2 := 24) w dX11_spectrum_23 rfl rfl ?_
      refine s_iload (pc2 := 26) w dX11_spectrum_24 rfl rfl ?_
      refine r_X11_isWindow (pc2 := 29) w dX11_spectrum_26 rfl rfl rfl ?_
      refine s_if_ne (pc2 := 32) (tgt := 39) w dX11_spectrum_29 rfl (by decide) (fun c29 => ?_) (fun c29 => ?_)
      · rw [g_b0, Classical.not_not] at c29
        obtain ⟨D, rfl, D1, D2⟩ := ix_r (a := -100) (b := 100) ⟨by decide, by decide⟩ ⟨by decide, by decide⟩ c13
        obtain ⟨p, rfl, ph1, ph2⟩ := ix_p c20
        obtain ⟨b, e, rfl, rfl, be, eh⟩ := ix_w c29
        rw [cN_n p (by omega), cN_n b (by omega), cN_n e (by omega)] at q0
        rw [gI_of ⟨by omega, by omega⟩] at q0
        refine s_aload_n (pc2 := 40) w dX11_spectrum_39 rfl rfl ?_
        refine s_iload_n (pc2 := 41) w dX11_spectrum_40 rfl rfl ?_
        refine r_X11_layDirectedBeam (pc2 := 44) w dX11_spectrum_41 rfl rfl rfl f0.1 hp1.1 rfl (by omega) (fun x1 hx1 => ?_)
        have f1 : MOk g 0 x x1 y y := f0.ge (fun i k h => (hx1 i k (by omega)).trans (gk_ur_ne (by omega)))
        have hr : ∀ k, k < 256 → x1 196 k = gD g D k := fun k hk => (hx1 196 k (by decide)).trans (gk_ur_in hk)
        refine s_aload_n (pc2 := 45) w dX11_spectrum_44 rfl rfl ?_
        refine s_iload_n (pc2 := 46) w dX11_spectrum_45 rfl rfl ?_
        refine s_iload_n (pc2 := 47) w dX11_spectrum_46 rfl rfl ?_
        refine s_iload (pc2 := 49) w dX11_spectrum_47 rfl rfl ?_
        refine r_X11_strengthOf (pc2 := 52) w dX11_spectrum_49 rfl rfl rfl rfl ⟨ph1, ph2⟩ rfl rfl be eh ?_
        rw [row_pw hr eh]
        refine s_lreturn w dX11_spectrum_52 rfl ?_
        exact q0 ⟨c13, c20, c29⟩ _ _ (f1.yr (fun i k h => if_neg (fun h2 => h h2.1)))
      · refine s_aload_n (pc2 := 33) w dX11_spectrum_32 rfl rfl ?_
        refine s_iconst (pc2 := 34) (v := 1) w dX11_spectrum_33 rfl rfl ?_
        refine r_X11_fail (pc2 := 37) w dX11_spectrum_34 rfl rfl rfl ?_
        refine s_i2l (pc2 := 38) w dX11_spectrum_37 rfl ?_
        refine s_lreturn w dX11_spectrum_38 rfl ?_
        rw [g_b0] at c29
        exact q1  (fun hc => c29 hc.2.2) _ _ (f0.fail 1)
theorem lk_X11_spectrum {l : Launch} (hl : l.stackTraces = false) : ∀ q ∈ L_X11_spectrum, (q.2.1 < 5 → gk_Lk l RX11 gk_W1 5 q.1 q.2.1 q.2.2.1 q.2.2.2.1 q.2.2.2.2.1 q.2.2.2.2.2) := (List.forall_mem_cons.mpr ⟨(fun _ => ⟨yX11_isBetween, cX11_isBetween, 3, (some .boolean), 0, _, M_X11_isBetween hl, ⟨by decide, by decide⟩, ⟨by decide, by decide, by decide +kernel⟩, ⟨(gk_wm 1334 (by decide +kernel)), (gk_wm 99 (by decide +kernel))⟩, Or.inl ⟨rfl, rfl, (gk_wm 1333 (by decide +kernel)), gk_wm 1332 (by decide +kernel)⟩⟩), (List.forall_mem_cons.mpr ⟨(fun _ => ⟨yX11_fail, cX11_fail, 2, (some .int), 0, _, M_X11_fail hl, ⟨by decide, by decide⟩, ⟨by decide, by decide, by decide +kernel⟩, ⟨(gk_wm 1342 (by decide +kernel)), (gk_wm 99 (by decide +kernel))⟩, Or.inr (Or.inr (Or.inr (Or.inl ⟨rfl, rfl, (gk_wm 1341 (by decide +kernel)), (gk_wm 32 (by decide +kernel)), gk_wm 1339 (by decide +kernel), by decide, rfl⟩)))⟩), (List.forall_mem_cons.mpr ⟨(fun _ => ⟨yX11_isWindow, cX11_isWindow, 2, (some .boolean), 2, _, M_X11_isWindow hl, ⟨by decide, by decide⟩, ⟨by decide, by decide, by decide +kernel⟩, ⟨(gk_wm 1525 (by decide +kernel)), (gk_wm 99 (by decide +kernel))⟩, Or.inl ⟨rfl, rfl, (gk_wm 1524 (by decide +kernel)), gk_wm 1523 (by decide +kernel)⟩⟩), (List.forall_mem_cons.mpr ⟨(fun _ => ⟨yX11_isPeriod, cX11_isPeriod, 1, (some .boolean), 1, _, M_X11_isPeriod hl, ⟨by decide, by decide⟩, ⟨by decide, by decide, by decide +kernel⟩, ⟨(gk_wm 1659 (by decide +kernel)), (gk_wm 99 (by decide +kernel))⟩, Or.inl ⟨rfl, rfl, (gk_wm 1658 (by decide +kernel)), gk_wm 1657 (by decide +kernel)⟩⟩), (List.forall_mem_cons.mpr ⟨(fun _ => ⟨yX11_strengthOf, cX11_strengthOf, 4, (some .long), 1, _, M_X11_strengthOf hl, ⟨by decide, by decide⟩, ⟨by decide, by decide, by decide +kernel⟩, ⟨(gk_wm 1671 (by decide +kernel)), (gk_wm 99 (by decide +kernel))⟩, Or.inr (Or.inr (Or.inr (Or.inl ⟨rfl, rfl, (gk_wm 1670 (by decide +kernel)), (gk_wm 73 (by decide +kernel)), gk_wm 1668 (by decide +kernel), by decide, rfl⟩)))⟩), (List.forall_mem_cons.mpr ⟨(fun _ => ⟨yX11_layDirectedBeam, cX11_layDirectedBeam, 3, none, 4, _, M_X11_layDirectedBeam hl, ⟨by decide, by decide⟩, ⟨by decide, by decide, by decide +kernel⟩, ⟨(gk_wm 1691 (by decide +kernel)), (gk_wm 99 (by decide +kernel))⟩, Or.inr (Or.inr (Or.inr (Or.inl ⟨rfl, rfl, (gk_wm 1690 (by decide +kernel)), (gk_wm 75 (by decide +kernel)), gk_wm 1688 (by decide +kernel), by decide, rfl⟩)))⟩), (fun _ h => absurd h List.not_mem_nil)⟩)⟩)⟩)⟩)⟩)⟩)
theorem sp_X11_spectrum : ∀ q ∈ L_X11_spectrum, gk_Sq RX11 gk_W1 5 q := (List.forall_mem_cons.mpr ⟨⟨fun h => absurd h (by decide), fun h => absurd h (by decide), fun h => absurd h (by decide), fun h => absurd h (by decide), fun h => absurd h (by decide), fun h => absurd h (by decide)⟩, (List.forall_mem_cons.mpr ⟨⟨fun h => absurd h (by decide), fun h => absurd h (by decide), fun h => absurd h (by decide), fun h => absurd h (by decide), fun h => absurd h (by decide), fun h => absurd h (by decide)⟩, (List.forall_mem_cons.mpr ⟨⟨fun h => absurd h (by decide), fun h => absurd h (by decide), fun h => absurd h (by decide), fun h => absurd h (by decide), fun h => absurd h (by decide), fun h => absurd h (by decide)⟩, (List.forall_mem_cons.mpr ⟨⟨fun h => absurd h (by decide), fun h => absurd h (by decide), fun h => absurd h (by decide), fun h => absurd h (by decide), fun h => absurd h (by decide), fun h => absurd h (by decide)⟩, (List.forall_mem_cons.mpr ⟨⟨fun h => absurd h (by decide), fun h => absurd h (by decide), fun h => absurd h (by decide), fun h => absurd h (by decide), fun h => absurd h (by decide), fun h => absurd h (by decide)⟩, (List.forall_mem_cons.mpr ⟨⟨fun h => absurd h (by decide), fun h => absurd h (by decide), fun h => absurd h (by decide), fun h => absurd h (by decide), fun h => absurd h (by decide), fun h => absurd h (by decide)⟩, (fun _ h => absurd h List.not_mem_nil)⟩)⟩)⟩)⟩)⟩)⟩)
theorem M_X11_spectrum {l : Launch} (hl : l.stackTraces = false) : gk_Mt l yX11_spectrum (.code yX11_spectrum cX11_spectrum 5 (some .long) :: gk_W1) 5 0 S_X11_spectrum := gk_meth hl gk_cw_ok (by decide +kernel) rfl m_X11_spectrum pX11_ok (gk_Sp_of sp_X11_spectrum) pX11_st (fun ci m S h => absurd h (by intro h; cases h)) (xf_X11 5) (fun idx kd ci mm cost S2 h h5 => lk_X11_spectrum hl _ (gk_lk_mem h) h5)

end GKV

/-! THE METHODS, 35: the class, setters -/
section GKV
variable {c : ByteArray} {P : gk_C} {cs : Nat → Option gk_M0} {rt : Option FieldType} {uf : Nat} {sc : Option Nat} {K : gk_K} {V : gk_V}
variable {L : List (Option Value)} {r : List Value} {n : Nat} {fl : gk_F} {x : gk_X} {y : gk_Y} {u pc pc2 : Nat}
theorem le_mx (a : Int32) : a ≤ 2147483647 := by
  rw [Int32.le_iff_toInt_le, show (2147483647 : Int32).toInt = 2147483647 by decide]
  exact (gR_toInt a).2
theorem nI_m1 {n : Nat} (h : n < 2147483648) : ¬ nI n = -1 := fun h2 => by
  have := congrArg Int32.toInt h2
  rw [nI_t h, show (-1 : Int32).toInt = -1 by decide] at this
  omega
theorem ct_ne {g : Nat → Int32} {k n N : Nat} {v : Int32} (e : g k = nI n) (hN : N < 1000) (hv : nI N = v) (h : n < N) : ¬ g k = v := fun h2 => by
  rw [e, ← hv] at h2
  have := congrArg Int32.toInt h2
  rw [nI_t (by omega), nI_t (by omega)] at this
  omega
theorem ct_eq {g : Nat → Int32} {k n N : Nat} {v : Int32} (e : g k = nI n) (hv : nI N = v) (h : n ≤ N) (h2 : ¬ n < N) : g k = v := by
  rw [e, show n = N by omega]
  exact hv
theorem fo_e (g : Nat → Int32) (k v a b h : Int32) : (gFO g k v a b h 10 = k ∧ gFO g k v a b h 11 = v ∧ gFO g k v a b h 12 = a ∧ gFO g k v a b h 13 = b ∧ gFO g k v a b h 14 = h) ∧ ∀ i, ¬ (10 ≤ i ∧ i ≤ 14) → gFO g k v a b h i = g i := by
  refine ⟨⟨?_, ?_, ?_, ?_, gU_in _ _ _⟩, fun i hi => ?_⟩
  · exact (gU_ne (by decide)).trans ((gU_ne (by decide)).trans ((gU_ne (by decide)).trans ((gU_ne (by decide)).trans (gU_in _ _ _))))
  · exact (gU_ne (by decide)).trans ((gU_ne (by decide)).trans ((gU_ne (by decide)).trans (gU_in _ _ _)))
  · exact (gU_ne (by decide)).trans ((gU_ne (by decide)).trans (gU_in _ _ _))
  · exact (gU_ne (by decide)).trans (gU_in _ _ _)
  · exact (gU_ne (by omega)).trans ((gU_ne (by omega)).trans ((gU_ne (by omega)).trans ((gU_ne (by omega)).trans (gU_ne (by omega)))))
/-- the records are made -/
def gRec (g : Nat → Int32) : Nat → Int32 := fun k => if k = 3 then gI (gk_rs g (nM g)) else if 186 ≤ k ∧ k < 186 + 256 * nM g then gI (gk_rec g ((k - 186) / 256) ((k - 186) % 256)) else if k = 9 then g 9 + 1 else g k
theorem gRec_e (g : Nat → Int32) : gRec g 3 = gI (gk_rs g (nM g)) ∧ gRec g 9 = g 9 + 1 ∧ (∀ k, k ≠ 3 → k ≠ 9 → k < 186 → gRec g k = g k) ∧ (∀ m k, m < nM g → k < 256 → gRec g (186 + 256 * m + k) = gI (gk_rec g m k)) ∧ (∀ m k, nM g ≤ m → k < 256 → gRec g (186 + 256 * m + k) = g (186 + 256 * m + k)) := by
  unfold gRec
  refine ⟨if_pos rfl, ?_, fun k h1 h2 h3 => ?_, fun m k h1 h2 => ?_, fun m k h1 h2 => ?_⟩
  · rw [if_neg (by decide), if_neg (by omega), if_pos rfl]
  · rw [if_neg h1, if_neg (by omega), if_neg h2]
  · rw [if_neg (by omega), if_pos (by omega), show (186 + 256 * m + k - 186) / 256 = m by omega, show (186 + 256 * m + k - 186) % 256 = k by omega]
  · rw [if_neg (by omega), if_neg (by omega), if_neg (by omega)]
theorem RS_Rec {b : Nat} {g : Nat → Int32} {x x2 : gk_X} {y y2 : gk_Y} (hw : gWf g) (h : RS b g x y) (h12 : x2 b 12 = g 9 + 1) (hr : ∀ m k, m < nM g → k < 256 → x2 (2 * m + (b + 28)) k = gI (gk_rec g m k)) (hx : ∀ i k, ¬ (b + 28 ≤ i ∧ i < b + 28 + 2 * nM g ∧ (i - b) % 2 = 0) → ¬ (i = b ∧ k = 12) → x2 i k = x i k) (hy : y2 b 10 = gL (gk_rs g (nM g))) : RS b (gRec g) x2 y2 := by
  obtain ⟨k0, k2, k3, k4, k5, k6, k7⟩ := h
  obtain ⟨nv4, ns6, nm8, -⟩ := wf_n hw
  obtain ⟨e3, e9, hg, hrec, -⟩ := gRec_e g
  have eV : nV (gRec g) = nV g := by unfold nV; rw [zg (hg 6 (by omega) (by omega) (by omega))]
  have eS : nS (gRec g) = nS g := by unfold nS; rw [zg (hg 7 (by omega) (by omega) (by omega))]
  have eM : nM (gRec g) = nM g := by unfold nM; rw [zg (hg 8 (by omega) (by omega) (by omega))]
  have hv : ∀ v j, v < nV g → j < 3 → gRec g (16 + 3 * v + j) = g (16 + 3 * v + j) := fun v j q1 q2 => hg _ (by omega) (by omega) (by omega)
  refine ⟨?_, ?_, rsv_tr k3 eV hv (fun v j hv => hx _ _ (by omega) (by omega)), fun a2 ha2 => ?_, rsm_tr k5 eM (fun m _ _ _ => hg _ (by omega) (by omega) (by omega)) (fun m j hm => hx _ _ (by omega) (by omega)), fun m hm k hk => ?_, rsf_tr hw k7 hv (fun _ _ _ => hg _ (by omega) (by omega) (by omega)) (fun j => hx _ _ (by omega) (by omega))⟩
  · obtain ⟨⟨r4, r5, r6⟩, r7, r8, r9, r11, r12, r15, r13, r14⟩ := k0
    have hb : ∀ k, k ≠ 12 → x2 b k = x b k := fun k q1 => hx b k (by omega) (by omega)
    refine ⟨⟨?_, ?_, ?_⟩, ?_, ?_, ?_, ?_, h12.trans e9.symm, ?_, ?_, ?_⟩
    · rw [hb 4 (by decide), hg 6 (by omega) (by omega) (by omega)]; exact r4
    · rw [hb 5 (by decide), hg 7 (by omega) (by omega) (by omega)]; exact r5
    · rw [hb 6 (by decide), hg 8 (by omega) (by omega) (by omega)]; exact r6
    · rw [hb 7 (by decide), hg 0 (by omega) (by omega) (by omega)]; exact r7
    · rw [hb 8 (by decide), hg 1 (by omega) (by omega) (by omega)]; exact r8
    · rw [hb 9 (by decide), hg 4 (by omega) (by omega) (by omega)]; exact r9
    · rw [hb 11 (by decide), hg 2 (by omega) (by omega) (by omega)]; exact r11
    · rw [hb 15 (by decide), hg 5 (by omega) (by omega) (by omega)]; exact r15
    · rw [hb 13 (by decide), hg 10 (by omega) (by omega) (by omega)]; exact r13
    · rw [hb 14 (by decide), hg 10 (by omega) (by omega) (by omega), hg 12 (by omega) (by omega) (by omega)]; exact r14
  · unfold rsr gz
    rw [hy, e3, gI_of ⟨by have := gk_rs_b hw.1 (nM g); omega, by have := gk_rs_b hw.1 (nM g); omega⟩]
  · rw [eS] at ha2
    exact rss_1 hw ha2 k4 hv (fun j _ => hg _ (by omega) (by omega) (by omega)) (fun i j _ _ => hx _ _ (by omega) (by omega))
  · rw [eM] at hm
    rw [hrec m k hm hk]
    exact hr m k hm hk
def S_X10_setSound : gk_S := fun as n fl x y K => ∃ (v : Int32) (g : Nat → Int32), as = [.ref 0, .int v] ∧ (n = 202 ∧ fl = gk_fT) ∧ (RS 1 g x y) ∧ (gOK g) ∧ ((100 ≤ v ∧ v ≤ 1000) → ∀ (x2 : gk_X) (y2 : gk_Y), COk (gU g 0 v) x x2 y y2 → K (.inl (some (.int (g 0)))) n fl x2 y2) ∧ (¬ (100 ≤ v ∧ v ≤ 1000) → ∀ (x2 : gk_X) (y2 : gk_Y), COk g x x2 y y2 → K (.inr 0) n fl x2 y2)
theorem r_X10_setSound (w : gk_W c P cs (fun _ _ => none) rt uf sc K V) {idx : Nat} {v : Int32} {g : Nat → Int32} (hd : decode c pc = .ok (.invokevirtual idx, 3)) (hp : pc + 3 = pc2) (hc : cs idx = some (1, 9, 2, 1, S_X10_setSound)) (h8 : Nat.ble (r.map Value.category).sum 8 = true) (hu : u + 1 ≤ uf) (hp0 : RS 1 g x y) (hp1 : gOK g) (kk0 : (100 ≤ v ∧ v ≤ 1000) → ∀ (x2 : gk_X) (y2 : gk_Y), COk (gU g 0 v) x x2 y y2 → V pc2 L ((.int (g 0)) :: r) 202 gk_fT x2 y2 (u + 1)) (kk1 : ¬ (100 ≤ v ∧ v ≤ 1000) → ∀ (x2 : gk_X) (y2 : gk_Y), COk g x x2 y y2 → K (.inr 0) 202 gk_fT x2 y2) : V pc L (.int v :: .ref 0 :: r) 202 gk_fT x y u :=
  g_callv w hd hp hc (as := [.ref 0, .int v]) rfl h8 rfl rfl rfl (Or.inr (Or.inl ⟨Or.inl rfl, _, _, rfl, (gk_kd_j rfl rfl), rfl⟩)) (Or.inr hu) ⟨v, g, rfl, ⟨rfl, rfl⟩, hp0, hp1, kk0, kk1⟩
def L_X10_setSound : List (Nat × gk_M0) := [(55, (0, 9, 3, 1, S_X10_requireRange))]
def cs_X10_setSound : Nat → Option gk_M0 := gk_lk L_X10_setSound
theorem m_X10_setSound : ∀ (as : List Value) (n : Nat) (fl : gk_F) (x : gk_X) (y : gk_Y) (K : gk_K), S_X10_setSound as n fl x y K → (gk_L0 as).length ≤ 3 ∧ ∀ V : gk_V, gk_W cX10_setSound pX10 cs_X10_setSound (fun _ _ => none) (some .int) 1 none K V → V 0 (gk_en as 3) [] n fl x y 0 := by
  intro as n fl x y K hS
  obtain ⟨v, g, rfl, ⟨rfl, rfl⟩, hp0, hp1, q0, q1⟩ := hS
  refine ⟨Nat.le_of_ble_eq_true rfl, fun V w => ?_⟩
  show V 0 [some (.ref 0), some (.int v), none] [] 202 gk_fT x y 0
  obtain ⟨nv4, ns6, nm8, z6, z7, z8⟩ := wf_n hp1.1
  have f0 := COk.ini hp0
  refine s_iload_n (pc2 := 1) w dX10_setSound_0 rfl rfl ?_
  refine s_bipush (pc2 := 3) (v := 100) w dX10_setSound_1 rfl rfl ?_
  refine s_sipush (pc2 := 6) (v := 1000) w dX10_setSound_3 rfl rfl ?_
  refine r_X10_requireRange (pc2 := 9) w dX10_setSound_6 rfl rfl rfl (Nat.le_of_ble_eq_true rfl) (fun h6 => ?_) (fun h => q1  (fun hc => h hc) _ _ f0)
  refine s_aload_n (pc2 := 10) w dX10_setSound_9 rfl rfl ?_
  refine m_getR (pc2 := 13) (ci := 9) (k := 0) (j2 := 1) w dX10_setSound_10 rfl rfl rfl rfl rfl rfl ?_
  refine m_getI (pc2 := 16) (ci := 4) (k := 7) w dX10_setSound_13 rfl rfl rfl rfl rfl ?_
  rw [show x 1 7 = g 0 from hp0.1.2.1]
  refine s_istore_n (pc2 := 17) (k2 := 2) w dX10_setSound_16 rfl rfl rfl ?_
  dsimp only [gk_s1, gk_s2, gk_cl]
  refine s_aload_n (pc2 := 18) w dX10_setSound_17 rfl rfl ?_
  refine m_getR (pc2 := 21) (ci := 9) (k := 0) (j2 := 1) w dX10_setSound_18 rfl rfl rfl rfl rfl rfl ?_
  refine s_iload_n (pc2 := 22) w dX10_setSound_21 rfl rfl ?_
  refine m_putI (pc2 := 25) (ci := 4) (k := 7) w dX10_setSound_22 rfl rfl rfl rfl rfl (by intro h; cases h) ?_
  refine s_iload_n (pc2 := 26) w dX10_setSound_25 rfl rfl ?_
  refine s_ireturn w dX10_setSound_26 rfl rfl ?_
  obtain ⟨⟨r4, r5, r6⟩, r7, r8, r9, r11, r12, r15, r13, r14⟩ := hp0.1
  refine q0 h6 _ _ ⟨RS_lo hp1.1 hp0 (fun k h1 h2 => gU_ne (by omega)) (fun i k h1 h2 => gk_up_ne (by omega)) ⟨⟨r4, r5, r6⟩, rfl, r8, r9, r11, r12, r15, r13, r14⟩ hp0.2.1, fun i k h => gk_up_ne (by omega), fun _ _ _ => rfl⟩
theorem lk_X10_setSound {l : Launch} (hl : l.stackTraces = false) : ∀ q ∈ L_X10_setSound, (q.2.1 < 5 → gk_Lk l RX10 gk_W1 7 q.1 q.2.1 q.2.2.1 q.2.2.2.1 q.2.2.2.2.1 q.2.2.2.2.2) := (List.forall_mem_cons.mpr ⟨(fun _ => ⟨yX10_requireRange, cX10_requireRange, 3, none, 6, _, M_X10_requireRange hl, ⟨by decide, by decide⟩, ⟨by decide, by decide, by decide +kernel⟩, ⟨(gk_wm 733 (by decide +kernel)), (gk_wm 89 (by decide +kernel))⟩, Or.inl ⟨rfl, rfl, (gk_wm 732 (by decide +kernel)), gk_wm 731 (by decide +kernel)⟩⟩), (fun _ h => absurd h List.not_mem_nil)⟩)
theorem sp_X10_setSound : ∀ q ∈ L_X10_setSound, gk_Sq RX10 gk_W1 7 q := (List.forall_mem_cons.mpr ⟨⟨fun h => absurd h (by decide), fun h => absurd h (by decide), fun h => absurd h (by decide), fun h => absurd h (by decide), fun h => absurd h (by decide), fun h => absurd h (by decide)⟩, (fun _ h => absurd h List.not_mem_nil)⟩)
theorem M_X10_setSound {l : Launch} (hl : l.stackTraces = false) : gk_Mt l yX10_setSound (.code yX10_setSound cX10_setSound 3 (some .int) :: gk_W1) 7 1 S_X10_setSound := gk_meth hl gk_cw_ok (by decide +kernel) rfl m_X10_setSound pX10_ok (gk_Sp_of sp_X10_setSound) pX10_st (fun ci m S h => absurd h (by intro h; cases h)) (xf_X10 (by decide)) (fun idx kd ci mm cost S2 h h5 => lk_X10_setSound hl _ (gk_lk_mem h) h5)

def S_X10_setGround : gk_S := fun as n fl x y K => ∃ (v : Int32) (g : Nat → Int32), as = [.ref 0, .int v] ∧ (n = 202 ∧ fl = gk_fT) ∧ (RS 1 g x y) ∧ (gOK g) ∧ ((-90 ≤ v ∧ v ≤ 90) → ∀ (x2 : gk_X) (y2 : gk_Y), COk (gU g 1 v) x x2 y y2 → K (.inl (some (.int (g 1)))) n fl x2 y2) ∧ (¬ (-90 ≤ v ∧ v ≤ 90) → ∀ (x2 : gk_X) (y2 : gk_Y), COk g x x2 y y2 → K (.inr 0) n fl x2 y2)
theorem r_X10_setGround (w : gk_W c P cs (fun _ _ => none) rt uf sc K V) {idx : Nat} {v : Int32} {g : Nat → Int32} (hd : decode c pc = .ok (.invokevirtual idx, 3)) (hp : pc + 3 = pc2) (hc : cs idx = some (1, 9, 2, 1, S_X10_setGround)) (h8 : Nat.ble (r.map Value.category).sum 8 = true) (hu : u + 1 ≤ uf) (hp0 : RS 1 g x y) (hp1 : gOK g) (kk0 : (-90 ≤ v ∧ v ≤ 90) → ∀ (x2 : gk_X) (y2 : gk_Y), COk (gU g 1 v) x x2 y y2 → V pc2 L ((.int (g 1)) :: r) 202 gk_fT x2 y2 (u + 1)) (kk1 : ¬ (-90 ≤ v ∧ v ≤ 90) → ∀ (x2 : gk_X) (y2 : gk_Y), COk g x x2 y y2 → K (.inr 0) 202 gk_fT x2 y2) : V pc L (.int v :: .ref 0 :: r) 202 gk_fT x y u :=
  g_callv w hd hp hc (as := [.ref 0, .int v]) rfl h8 rfl rfl rfl (Or.inr (Or.inl ⟨Or.inl rfl, _, _, rfl, (gk_kd_j rfl rfl), rfl⟩)) (Or.inr hu) ⟨v, g, rfl, ⟨rfl, rfl⟩, hp0, hp1, kk0, kk1⟩
def L_X10_setGround : List (Nat × gk_M0) := [(55, (0, 9, 3, 1, S_X10_requireRange))]
def cs_X10_setGround : Nat → Option gk_M0 := gk_lk L_X10_setGround
theorem m_X10_setGround : ∀ (as : List Value) (n : Nat) (fl : gk_F) (x : gk_X) (y : gk_Y) (K : gk_K), S_X10_setGround as n fl x y K → (gk_L0 as).length ≤ 3 ∧ ∀ V : gk_V, gk_W cX10_setGround pX10 cs_X10_setGround (fun _ _ => none) (some .int) 1 none K V → V 0 (gk_en as 3) [] n fl x y 0 := by
  intro as n fl x y K hS
  obtain ⟨v, g, rfl, ⟨rfl, rfl⟩, hp0, hp1, q0, q1⟩ := hS
  refine ⟨Nat.le_of_ble_eq_true rfl, fun V w => ?_⟩
  show V 0 [some (.ref 0), some (.int v), none] [] 202 gk_fT x y 0
  obtain ⟨nv4, ns6, nm8, z6, z7, z8⟩ := wf_n hp1.1
  have f0 := COk.ini hp0
  refine s_iload_n (pc2 := 1) w dX10_setGround_0 rfl rfl ?_
  refine s_bipush (pc2 := 3) (v := (-90)) w dX10_setGround_1 rfl rfl ?_
  refine s_bipush (pc2 := 5) (v := 90) w dX10_setGround_3 rfl rfl ?_
  refine r_X10_requireRange (pc2 := 8) w dX10_setGround_5 rfl rfl rfl (Nat.le_of_ble_eq_true rfl) (fun h5 => ?_) (fun h => q1  (fun hc => h hc) _ _ f0)
  refine s_aload_n (pc2 := 9) w dX10_setGround_8 rfl rfl ?_
  refine m_getR (pc2 := 12) (ci := 9) (k := 0) (j2 := 1) w dX10_setGround_9 rfl rfl rfl rfl rfl rfl ?_
  refine m_getI (pc2 := 15) (ci := 4) (k := 8) w dX10_setGround_12 rfl rfl rfl rfl rfl ?_
  rw [show x 1 8 = g 1 from hp0.1.2.2.1]
  refine s_istore_n (pc2 := 16) (k2 := 2) w dX10_setGround_15 rfl rfl rfl ?_
  dsimp only [gk_s1, gk_s2, gk_cl]
  refine s_aload_n (pc2 := 17) w dX10_setGround_16 rfl rfl ?_
  refine m_getR (pc2 := 20) (ci := 9) (k := 0) (j2 := 1) w dX10_setGround_17 rfl rfl rfl rfl rfl rfl ?_
  refine s_iload_n (pc2 := 21) w dX10_setGround_20 rfl rfl ?_
  refine m_putI (pc2 := 24) (ci := 4) (k := 8) w dX10_setGround_21 rfl rfl rfl rfl rfl (by intro h; cases h) ?_
  refine s_iload_n (pc2 := 25) w dX10_setGround_24 rfl rfl ?_
  refine s_ireturn w dX10_setGround_25 rfl rfl ?_
  obtain ⟨⟨r4, r5, r6⟩, r7, r8, r9, r11, r12, r15, r13, r14⟩ := hp0.1
  refine q0 h5 _ _ ⟨RS_lo hp1.1 hp0 (fun k h1 h2 => gU_ne (by omega)) (fun i k h1 h2 => gk_up_ne (by omega)) ⟨⟨r4, r5, r6⟩, r7, rfl, r9, r11, r12, r15, r13, r14⟩ hp0.2.1, fun i k h => gk_up_ne (by omega), fun _ _ _ => rfl⟩
theorem lk_X10_setGround {l : Launch} (hl : l.stackTraces = false) : ∀ q ∈ L_X10_setGround, (q.2.1 < 5 → gk_Lk l RX10 gk_W1 7 q.1 q.2.1 q.2.2.1 q.2.2.2.1 q.2.2.2.2.1 q.2.2.2.2.2) := (List.forall_mem_cons.mpr ⟨(fun _ => ⟨yX10_requireRange, cX10_requireRange, 3, none, 6, _, M_X10_requireRange hl, ⟨by decide, by decide⟩, ⟨by decide, by decide, by decide +kernel⟩, ⟨(gk_wm 733 (by decide +kernel)), (gk_wm 89 (by decide +kernel))⟩, Or.inl ⟨rfl, rfl, (gk_wm 732 (by decide +kernel)), gk_wm 731 (by decide +kernel)⟩⟩), (fun _ h => absurd h List.not_mem_nil)⟩)
theorem sp_X10_setGround : ∀ q ∈ L_X10_setGround, gk_Sq RX10 gk_W1 7 q := (List.forall_mem_cons.mpr ⟨⟨fun h => absurd h (by decide), fun h => absurd h (by decide), fun h => absurd h (by decide), fun h => absurd h (by decide), fun h => absurd h (by decide), fun h => absurd h (by decide)⟩, (fun _ h => absurd h List.not_mem_nil)⟩)
theorem M_X10_setGround {l : Launch} (hl : l.stackTraces = false) : gk_Mt l yX10_setGround (.code yX10_setGround cX10_setGround 3 (some .int) :: gk_W1) 7 1 S_X10_setGround := gk_meth hl gk_cw_ok (by decide +kernel) rfl m_X10_setGround pX10_ok (gk_Sp_of sp_X10_setGround) pX10_st (fun ci m S h => absurd h (by intro h; cases h)) (xf_X10 (by decide)) (fun idx kd ci mm cost S2 h h5 => lk_X10_setGround hl _ (gk_lk_mem h) h5)

def S_X10_setSpreading : gk_S := fun as n fl x y K => ∃ (v : Int32) (g : Nat → Int32), as = [.ref 0, .int v] ∧ (n = 202 ∧ fl = gk_fT) ∧ (RS 1 g x y) ∧ (gOK g) ∧ (v = 0 ∨ v = 1) ∧ (∀ (x2 : gk_X) (y2 : gk_Y), COk (gU g 2 v) x x2 y y2 → K (.inl (some (.int (g 2)))) n fl x2 y2)
theorem r_X10_setSpreading (w : gk_W c P cs (fun _ _ => none) rt uf sc K V) {idx : Nat} {v : Int32} {g : Nat → Int32} (hd : decode c pc = .ok (.invokevirtual idx, 3)) (hp : pc + 3 = pc2) (hc : cs idx = some (1, 9, 2, 0, S_X10_setSpreading)) (h8 : Nat.ble (r.map Value.category).sum 8 = true) (hp0 : RS 1 g x y) (hp1 : gOK g) (hp2 : v = 0 ∨ v = 1) (kk0 : ∀ (x2 : gk_X) (y2 : gk_Y), COk (gU g 2 v) x x2 y y2 → V pc2 L ((.int (g 2)) :: r) 202 gk_fT x2 y2 u) : V pc L (.int v :: .ref 0 :: r) 202 gk_fT x y u :=
  g_callv w hd hp hc (as := [.ref 0, .int v]) rfl h8 rfl rfl rfl (Or.inr (Or.inl ⟨Or.inl rfl, _, _, rfl, (gk_kd_j rfl rfl), rfl⟩)) (Or.inl rfl) ⟨v, g, rfl, ⟨rfl, rfl⟩, hp0, hp1, hp2, kk0⟩
def L_X10_setSpreading : List (Nat × gk_M0) := []
def cs_X10_setSpreading : Nat → Option gk_M0 := gk_lk L_X10_setSpreading
theorem m_X10_setSpreading : ∀ (as : List Value) (n : Nat) (fl : gk_F) (x : gk_X) (y : gk_Y) (K : gk_K), S_X10_setSpreading as n fl x y K → (gk_L0 as).length ≤ 3 ∧ ∀ V : gk_V, gk_W cX10_setSpreading pX10q cs_X10_setSpreading (fun _ _ => none) (some .boolean) 0 none K V → V 0 (gk_en as 3) [] n fl x y 0 := by
  intro as n fl x y K hS
  obtain ⟨v, g, rfl, ⟨rfl, rfl⟩, hp0, hp1, hp2, q0⟩ := hS
  refine ⟨Nat.le_of_ble_eq_true rfl, fun V w => ?_⟩
  show V 0 [some (.ref 0), some (.int v), none] [] 202 gk_fT x y 0
  obtain ⟨nv4, ns6, nm8, z6, z7, z8⟩ := wf_n hp1.1
  have f0 := COk.ini hp0
  have h01 : g 2 = 0 ∨ g 2 = 1 := hp1.1.1.2.2.1
  refine s_aload_n (pc2 := 1) w dX10_setSpreading_0 rfl rfl ?_
  refine m_getR (pc2 := 4) (ci := 9) (k := 0) (j2 := 1) w dX10_setSpreading_1 rfl rfl rfl rfl rfl rfl ?_
  refine m_getI (pc2 := 7) (ci := 4) (k := 11) w dX10_setSpreading_4 rfl rfl rfl rfl rfl ?_
  rw [show x 1 11 = g 2 from hp0.1.2.2.2.2.1]
  refine s_istore_n (pc2 := 8) (k2 := 2) w dX10_setSpreading_7 rfl rfl rfl ?_
  dsimp only [gk_s1, gk_s2, gk_cl]
  refine s_aload_n (pc2 := 9) w dX10_setSpreading_8 rfl rfl ?_
  refine m_getR (pc2 := 12) (ci := 9) (k := 0) (j2 := 1) w dX10_setSpreading_9 rfl rfl rfl rfl rfl rfl ?_
  refine s_iload_n (pc2 := 13) w dX10_setSpreading_12 rfl rfl ?_
  refine m_putI (pc2 := 16) (ci := 4) (k := 11) w dX10_setSpreading_13 rfl rfl rfl rfl rfl (fun _ => hp2) ?_
  refine s_iload_n (pc2 := 17) w dX10_setSpreading_16 rfl rfl ?_
  refine s_ireturn w dX10_setSpreading_17 rfl (by rcases h01 with e | e <;> rw [e] <;> rfl) ?_
  obtain ⟨⟨r4, r5, r6⟩, r7, r8, r9, r11, r12, r15, r13, r14⟩ := hp0.1
  refine q0 _ _ ⟨RS_lo hp1.1 hp0 (fun k h1 h2 => gU_ne (by omega)) (fun i k h1 h2 => gk_up_ne (by omega)) ⟨⟨r4, r5, r6⟩, r7, r8, r9, rfl, r12, r15, r13, r14⟩ hp0.2.1, fun i k h => gk_up_ne (by omega), fun _ _ _ => rfl⟩
theorem lk_X10_setSpreading {l : Launch} (hl : l.stackTraces = false) : ∀ q ∈ L_X10_setSpreading, (q.2.1 < 5 → gk_Lk l RX10 gk_W1 0 q.1 q.2.1 q.2.2.1 q.2.2.2.1 q.2.2.2.2.1 q.2.2.2.2.2) := (fun _ h => absurd h List.not_mem_nil)
theorem sp_X10_setSpreading : ∀ q ∈ L_X10_setSpreading, gk_Sq RX10 gk_W1 0 q := (fun _ h => absurd h List.not_mem_nil)
theorem M_X10_setSpreading {l : Launch} (hl : l.stackTraces = false) : gk_Mt l yX10_setSpreading (.code yX10_setSpreading cX10_setSpreading 3 (some .boolean) :: gk_W1) 0 0 S_X10_setSpreading := gk_meth hl gk_cw_ok (by decide +kernel) rfl m_X10_setSpreading pX10q_ok (gk_Sp_of sp_X10_setSpreading) pX10q_st (fun ci m S h => absurd h (by intro h; cases h)) (xf_X10q 0) (fun idx kd ci mm cost S2 h h5 => lk_X10_setSpreading hl _ (gk_lk_mem h) h5)

def S_X10_setCut : gk_S := fun as n fl x y K => ∃ (v : Int32) (g : Nat → Int32), as = [.ref 0, .int v] ∧ (n = 202 ∧ fl = gk_fT) ∧ (RS 1 g x y) ∧ (gOK g) ∧ (v = 0 ∨ v = 1) ∧ (∀ (x2 : gk_X) (y2 : gk_Y), COk (gU g 5 v) x x2 y y2 → K (.inl (some (.int (g 5)))) n fl x2 y2)
theorem r_X10_setCut (w : gk_W c P cs (fun _ _ => none) rt uf sc K V) {idx : Nat} {v : Int32} {g : Nat → Int32} (hd : decode c pc = .ok (.invokevirtual idx, 3)) (hp : pc + 3 = pc2) (hc : cs idx = some (1, 9, 2, 0, S_X10_setCut)) (h8 : Nat.ble (r.map Value.category).sum 8 = true) (hp0 : RS 1 g x y) (hp1 : gOK g) (hp2 : v = 0 ∨ v = 1) (kk0 : ∀ (x2 : gk_X) (y2 : gk_Y), COk (gU g 5 v) x x2 y y2 → V pc2 L ((.int (g 5)) :: r) 202 gk_fT x2 y2 u) : V pc L (.int v :: .ref 0 :: r) 202 gk_fT x y u :=
  g_callv w hd hp hc (as := [.ref 0, .int v]) rfl h8 rfl rfl rfl (Or.inr (Or.inl ⟨Or.inl rfl, _, _, rfl, (gk_kd_j rfl rfl), rfl⟩)) (Or.inl rfl) ⟨v, g, rfl, ⟨rfl, rfl⟩, hp0, hp1, hp2, kk0⟩
def L_X10_setCut : List (Nat × gk_M0) := []
def cs_X10_setCut : Nat → Option gk_M0 := gk_lk L_X10_setCut
theorem m_X10_setCut : ∀ (as : List Value) (n : Nat) (fl : gk_F) (x : gk_X) (y : gk_Y) (K : gk_K), S_X10_setCut as n fl x y K → (gk_L0 as).length ≤ 3 ∧ ∀ V : gk_V, gk_W cX10_setCut pX10q cs_X10_setCut (fun _ _ => none) (some .boolean) 0 none K V → V 0 (gk_en as 3) [] n fl x y 0 := by
  intro as n fl x y K hS
  obtain ⟨v, g, rfl, ⟨rfl, rfl⟩, hp0, hp1, hp2, q0⟩ := hS
  refine ⟨Nat.le_of_ble_eq_true rfl, fun V w => ?_⟩
  show V 0 [some (.ref 0), some (.int v), none] [] 202 gk_fT x y 0
  obtain ⟨nv4, ns6, nm8, z6, z7, z8⟩ := wf_n hp1.1
  have f0 := COk.ini hp0
  have h01 : g 5 = 0 ∨ g 5 = 1 := hp1.1.1.2.2.2.2.2.1
  refine s_aload_n (pc2 := 1) w dX10_setCut_0 rfl rfl ?_
  refine m_getR (pc2 := 4) (ci := 9) (k := 0) (j2 := 1) w dX10_setCut_1 rfl rfl rfl rfl rfl rfl ?_
  refine m_getI (pc2 := 7) (ci := 4) (k := 15) w dX10_setCut_4 rfl rfl rfl rfl rfl ?_
  rw [show x 1 15 = g 5 from hp0.1.2.2.2.2.2.2.1]
  refine s_istore_n (pc2 := 8) (k2 := 2) w dX10_setCut_7 rfl rfl rfl ?_
  dsimp only [gk_s1, gk_s2, gk_cl]
  refine s_aload_n (pc2 := 9) w dX10_setCut_8 rfl rfl ?_
  refine m_getR (pc2 := 12) (ci := 9) (k := 0) (j2 := 1) w dX10_setCut_9 rfl rfl rfl rfl rfl rfl ?_
  refine s_iload_n (pc2 := 13) w dX10_setCut_12 rfl rfl ?_
  refine m_putI (pc2 := 16) (ci := 4) (k := 15) w dX10_setCut_13 rfl rfl rfl rfl rfl (fun _ => hp2) ?_
  refine s_iload_n (pc2 := 17) w dX10_setCut_16 rfl rfl ?_
  refine s_ireturn w dX10_setCut_17 rfl (by rcases h01 with e | e <;> rw [e] <;> rfl) ?_
  obtain ⟨⟨r4, r5, r6⟩, r7, r8, r9, r11, r12, r15, r13, r14⟩ := hp0.1
  refine q0 _ _ ⟨RS_lo hp1.1 hp0 (fun k h1 h2 => gU_ne (by omega)) (fun i k h1 h2 => gk_up_ne (by omega)) ⟨⟨r4, r5, r6⟩, r7, r8, r9, r11, r12, rfl, r13, r14⟩ hp0.2.1, fun i k h => gk_up_ne (by omega), fun _ _ _ => rfl⟩
theorem lk_X10_setCut {l : Launch} (hl : l.stackTraces = false) : ∀ q ∈ L_X10_setCut, (q.2.1 < 5 → gk_Lk l RX10 gk_W1 0 q.1 q.2.1 q.2.2.1 q.2.2.2.1 q.2.2.2.2.1 q.2.2.2.2.2) := (fun _ h => absurd h List.not_mem_nil)
theorem sp_X10_setCut : ∀ q ∈ L_X10_setCut, gk_Sq RX10 gk_W1 0 q := (fun _ h => absurd h List.not_mem_nil)
theorem M_X10_setCut {l : Launch} (hl : l.stackTraces = false) : gk_Mt l yX10_setCut (.code yX10_setCut cX10_setCut 3 (some .boolean) :: gk_W1) 0 0 S_X10_setCut := gk_meth hl gk_cw_ok (by decide +kernel) rfl m_X10_setCut pX10q_ok (gk_Sp_of sp_X10_setCut) pX10q_st (fun ci m S h => absurd h (by intro h; cases h)) (xf_X10q 0) (fun idx kd ci mm cost S2 h h5 => lk_X10_setCut hl _ (gk_lk_mem h) h5)

def S_X10_setNoise : gk_S := fun as n fl x y K => ∃ (a : Int32) (b : Int32) (g : Nat → Int32), as = [.ref 0, .int a, .int b] ∧ (n = 202 ∧ fl = gk_fT) ∧ (RS 1 g x y) ∧ (gOK g) ∧ (((0 ≤ a) ∧ (0 ≤ b ∧ b ≤ 99)) → ∀ (x2 : gk_X) (y2 : gk_Y), COk (gU (gU g 3 a) 4 b) x x2 y y2 → K (.inl none) n fl x2 y2) ∧ (¬ ((0 ≤ a) ∧ (0 ≤ b ∧ b ≤ 99)) → ∀ (x2 : gk_X) (y2 : gk_Y), COk g x x2 y y2 → K (.inr 0) n fl x2 y2)
theorem r_X10_setNoise (w : gk_W c P cs (fun _ _ => none) rt uf sc K V) {idx : Nat} {a : Int32} {b : Int32} {g : Nat → Int32} (hd : decode c pc = .ok (.invokevirtual idx, 3)) (hp : pc + 3 = pc2) (hc : cs idx = some (1, 9, 3, 2, S_X10_setNoise)) (h8 : Nat.ble (r.map Value.category).sum 8 = true) (hu : u + 2 ≤ uf) (hp0 : RS 1 g x y) (hp1 : gOK g) (kk0 : ((0 ≤ a) ∧ (0 ≤ b ∧ b ≤ 99)) → ∀ (x2 : gk_X) (y2 : gk_Y), COk (gU (gU g 3 a) 4 b) x x2 y y2 → V pc2 L r 202 gk_fT x2 y2 (u + 2)) (kk1 : ¬ ((0 ≤ a) ∧ (0 ≤ b ∧ b ≤ 99)) → ∀ (x2 : gk_X) (y2 : gk_Y), COk g x x2 y y2 → K (.inr 0) 202 gk_fT x2 y2) : V pc L (.int b :: .int a :: .ref 0 :: r) 202 gk_fT x y u :=
  g_callv w hd hp hc (as := [.ref 0, .int a, .int b]) rfl h8 rfl rfl rfl (Or.inr (Or.inl ⟨Or.inl rfl, _, _, rfl, (gk_kd_j rfl rfl), rfl⟩)) (Or.inr hu) ⟨a, b, g, rfl, ⟨rfl, rfl⟩, hp0, hp1, kk0, kk1⟩
def L_X10_setNoise : List (Nat × gk_M0) := [(55, (0, 9, 3, 1, S_X10_requireRange))]
def cs_X10_setNoise : Nat → Option gk_M0 := gk_lk L_X10_setNoise
theorem m_X10_setNoise : ∀ (as : List Value) (n : Nat) (fl : gk_F) (x : gk_X) (y : gk_Y) (K : gk_K), S_X10_setNoise as n fl x y K → (gk_L0 as).length ≤ 3 ∧ ∀ V : gk_V, gk_W cX10_setNoise pX10 cs_X10_setNoise (fun _ _ => none) none 2 none K V → V 0 (gk_en as 3) [] n fl x y 0 := by
  intro as n fl x y K hS
  obtain ⟨a, b, g, rfl, ⟨rfl, rfl⟩, hp0, hp1, q0, q1⟩ := hS
  refine ⟨Nat.le_of_ble_eq_true rfl, fun V w => ?_⟩
  show V 0 [some (.ref 0), some (.int a), some (.int b)] [] 202 gk_fT x y 0
  obtain ⟨nv4, ns6, nm8, z6, z7, z8⟩ := wf_n hp1.1
  have f0 := COk.ini hp0
  refine s_iload_n (pc2 := 1) w dX10_setNoise_0 rfl rfl ?_
  refine s_iconst (pc2 := 2) (v := 0) w dX10_setNoise_1 rfl rfl ?_
  refine s_ldc (pc2 := 4) (v := 2147483647) w dX10_setNoise_2 rfl rfl ?_
  refine r_X10_requireRange (pc2 := 7) w dX10_setNoise_4 rfl rfl rfl (Nat.le_of_ble_eq_true rfl) (fun h4 => ?_) (fun h => q1  (fun hc => h ⟨hc.1, le_mx _⟩) _ _ f0)
  refine s_iload_n (pc2 := 8) w dX10_setNoise_7 rfl rfl ?_
  refine s_iconst (pc2 := 9) (v := 0) w dX10_setNoise_8 rfl rfl ?_
  refine s_bipush (pc2 := 11) (v := 99) w dX10_setNoise_9 rfl rfl ?_
  refine r_X10_requireRange (pc2 := 14) w dX10_setNoise_11 rfl rfl rfl (Nat.le_of_ble_eq_true rfl) (fun h11 => ?_) (fun h => q1  (fun hc => h hc.2) _ _ f0)
  refine s_aload_n (pc2 := 15) w dX10_setNoise_14 rfl rfl ?_
  refine m_getR (pc2 := 18) (ci := 9) (k := 0) (j2 := 1) w dX10_setNoise_15 rfl rfl rfl rfl rfl rfl ?_
  refine s_iload_n (pc2 := 19) w dX10_setNoise_18 rfl rfl ?_
  refine s_i2l (pc2 := 20) w dX10_setNoise_19 rfl ?_
  refine m_putL (pc2 := 23) (ci := 4) (k := 10) w dX10_setNoise_20 rfl rfl rfl rfl rfl ?_
  refine s_aload_n (pc2 := 24) w dX10_setNoise_23 rfl rfl ?_
  refine m_getR (pc2 := 27) (ci := 9) (k := 0) (j2 := 1) w dX10_setNoise_24 rfl rfl rfl rfl rfl rfl ?_
  refine s_iload_n (pc2 := 28) w dX10_setNoise_27 rfl rfl ?_
  refine m_putI (pc2 := 31) (ci := 4) (k := 9) w dX10_setNoise_28 rfl rfl rfl rfl rfl (by intro h; cases h) ?_
  refine s_return w dX10_setNoise_31 rfl ?_
  obtain ⟨⟨r4, r5, r6⟩, r7, r8, r9, r11, r12, r15, r13, r14⟩ := hp0.1
  refine q0 ⟨h4.1, h11⟩ _ _ ⟨RS_lo hp1.1 hp0 (fun k h1 h2 => (gU_ne (by omega)).trans (gU_ne (by omega))) (fun i k h1 h2 => gk_up_ne (by omega)) ⟨⟨r4, r5, r6⟩, r7, r8, rfl, r11, r12, r15, r13, r14⟩ (gI64 a), fun i k h => gk_up_ne (by omega), fun i k h => if_neg (by omega)⟩
theorem lk_X10_setNoise {l : Launch} (hl : l.stackTraces = false) : ∀ q ∈ L_X10_setNoise, (q.2.1 < 5 → gk_Lk l RX10 gk_W1 7 q.1 q.2.1 q.2.2.1 q.2.2.2.1 q.2.2.2.2.1 q.2.2.2.2.2) := (List.forall_mem_cons.mpr ⟨(fun _ => ⟨yX10_requireRange, cX10_requireRange, 3, none, 6, _, M_X10_requireRange hl, ⟨by decide, by decide⟩, ⟨by decide, by decide, by decide +kernel⟩, ⟨(gk_wm 733 (by decide +kernel)), (gk_wm 89 (by decide +kernel))⟩, Or.inl ⟨rfl, rfl, (gk_wm 732 (by decide +kernel)), gk_wm 731 (by decide +kernel)⟩⟩), (fun _ h => absurd h List.not_mem_nil)⟩)
theorem sp_X10_setNoise : ∀ q ∈ L_X10_setNoise, gk_Sq RX10 gk_W1 7 q := (List.forall_mem_cons.mpr ⟨⟨fun h => absurd h (by decide), fun h => absurd h (by decide), fun h => absurd h (by decide), fun h => absurd h (by decide), fun h => absurd h (by decide), fun h => absurd h (by decide)⟩, (fun _ h => absurd h List.not_mem_nil)⟩)
theorem M_X10_setNoise {l : Launch} (hl : l.stackTraces = false) : gk_Mt l yX10_setNoise (.code yX10_setNoise cX10_setNoise 3 none :: gk_W1) 7 2 S_X10_setNoise := gk_meth hl gk_cw_ok (by decide +kernel) rfl m_X10_setNoise pX10_ok (gk_Sp_of sp_X10_setNoise) pX10_st (fun ci m S h => absurd h (by intro h; cases h)) (xf_X10 (by decide)) (fun idx kd ci mm cost S2 h h5 => lk_X10_setNoise hl _ (gk_lk_mem h) h5)

def S_X10_addVehicle : gk_S := fun as n fl x y K => ∃ (a : Int32) (b : Int32) (e : Int32) (g : Nat → Int32), as = [.ref 0, .int a, .int b, .int e] ∧ (n = 202 ∧ fl = gk_fT) ∧ (RS 1 g x y) ∧ (gOK g) ∧ (((-20000 ≤ a ∧ a ≤ 20000) ∧ (-50 ≤ b ∧ b ≤ 50) ∧ (100 ≤ e ∧ e ≤ 5000)) → (¬ g 6 = 4) → ∀ (x2 : gk_X) (y2 : gk_Y), COk (gAV g (nV g) a b e) x x2 y y2 → K (.inl (some (.int (g 6)))) n fl x2 y2) ∧ (¬ ((-20000 ≤ a ∧ a ≤ 20000) ∧ (-50 ≤ b ∧ b ≤ 50) ∧ (100 ≤ e ∧ e ≤ 5000)) → ∀ (x2 : gk_X) (y2 : gk_Y), COk g x x2 y y2 → K (.inr 0) n fl x2 y2) ∧ (((-20000 ≤ a ∧ a ≤ 20000) ∧ (-50 ≤ b ∧ b ≤ 50) ∧ (100 ≤ e ∧ e ≤ 5000)) → ¬ (¬ g 6 = 4) → ∀ (x2 : gk_X) (y2 : gk_Y), COk g x x2 y y2 → K (.inr 1) n fl x2 y2)
theorem r_X10_addVehicle (w : gk_W c P cs (fun _ _ => none) rt uf sc K V) {idx : Nat} {a : Int32} {b : Int32} {e : Int32} {g : Nat → Int32} (hd : decode c pc = .ok (.invokevirtual idx, 3)) (hp : pc + 3 = pc2) (hc : cs idx = some (1, 9, 4, 4, S_X10_addVehicle)) (h8 : Nat.ble (r.map Value.category).sum 8 = true) (hu : u + 4 ≤ uf) (hp0 : RS 1 g x y) (hp1 : gOK g) (kk0 : ((-20000 ≤ a ∧ a ≤ 20000) ∧ (-50 ≤ b ∧ b ≤ 50) ∧ (100 ≤ e ∧ e ≤ 5000)) → (¬ g 6 = 4) → ∀ (x2 : gk_X) (y2 : gk_Y), COk (gAV g (nV g) a b e) x x2 y y2 → V pc2 L ((.int (g 6)) :: r) 202 gk_fT x2 y2 (u + 4)) (kk1 : ¬ ((-20000 ≤ a ∧ a ≤ 20000) ∧ (-50 ≤ b ∧ b ≤ 50) ∧ (100 ≤ e ∧ e ≤ 5000)) → ∀ (x2 : gk_X) (y2 : gk_Y), COk g x x2 y y2 → K (.inr 0) 202 gk_fT x2 y2) (kk2 : ((-20000 ≤ a ∧ a ≤ 20000) ∧ (-50 ≤ b ∧ b ≤ 50) ∧ (100 ≤ e ∧ e ≤ 5000)) → ¬ (¬ g 6 = 4) → ∀ (x2 : gk_X) (y2 : gk_Y), COk g x x2 y y2 → K (.inr 1) 202 gk_fT x2 y2) : V pc L (.int e :: .int b :: .int a :: .ref 0 :: r) 202 gk_fT x y u :=
  g_callv w hd hp hc (as := [.ref 0, .int a, .int b, .int e]) rfl h8 rfl rfl rfl (Or.inr (Or.inl ⟨Or.inl rfl, _, _, rfl, (gk_kd_j rfl rfl), rfl⟩)) (Or.inr hu) ⟨a, b, e, g, rfl, ⟨rfl, rfl⟩, hp0, hp1, kk0, kk1, kk2⟩
def L_X10_addVehicle : List (Nat × gk_M0) := [(55, (0, 9, 3, 1, S_X10_requireRange)), (80, (1, 4, 4, 0, S_X4_putVehicle)), (84, (0, 9, 1, 1, S_X10_requireRoom))]
def cs_X10_addVehicle : Nat → Option gk_M0 := gk_lk L_X10_addVehicle
theorem m_X10_addVehicle : ∀ (as : List Value) (n : Nat) (fl : gk_F) (x : gk_X) (y : gk_Y) (K : gk_K), S_X10_addVehicle as n fl x y K → (gk_L0 as).length ≤ 4 ∧ ∀ V : gk_V, gk_W cX10_addVehicle pX10 cs_X10_addVehicle (fun _ _ => none) (some .int) 4 none K V → V 0 (gk_en as 4) [] n fl x y 0 := by
  intro as n fl x y K hS
  obtain ⟨a, b, e, g, rfl, ⟨rfl, rfl⟩, hp0, hp1, q0, q1, q2⟩ := hS
  refine ⟨Nat.le_of_ble_eq_true rfl, fun V w => ?_⟩
  show V 0 [some (.ref 0), some (.int a), some (.int b), some (.int e)] [] 202 gk_fT x y 0
  obtain ⟨nv4, ns6, nm8, z6, z7, z8⟩ := wf_n hp1.1
  have f0 := COk.ini hp0
  have e6 : g 6 = nI (nV g) := (gz_I g 6).trans (congrArg gI z6)
  refine s_iload_n (pc2 := 1) w dX10_addVehicle_0 rfl rfl ?_
  refine s_sipush (pc2 := 4) (v := (-20000)) w dX10_addVehicle_1 rfl rfl ?_
  refine s_sipush (pc2 := 7) (v := 20000) w dX10_addVehicle_4 rfl rfl ?_
  refine r_X10_requireRange (pc2 := 10) w dX10_addVehicle_7 rfl rfl rfl (Nat.le_of_ble_eq_true rfl) (fun h7 => ?_) (fun h => q1  (fun hc => h hc.1) _ _ f0)
  refine s_iload_n (pc2 := 11) w dX10_addVehicle_10 rfl rfl ?_
  refine s_bipush (pc2 := 13) (v := (-50)) w dX10_addVehicle_11 rfl rfl ?_
  refine s_bipush (pc2 := 15) (v := 50) w dX10_addVehicle_13 rfl rfl ?_
  refine r_X10_requireRange (pc2 := 18) w dX10_addVehicle_15 rfl rfl rfl (Nat.le_of_ble_eq_true rfl) (fun h15 => ?_) (fun h => q1  (fun hc => h hc.2.1) _ _ f0)
  refine s_iload_n (pc2 := 19) w dX10_addVehicle_18 rfl rfl ?_
  refine s_bipush (pc2 := 21) (v := 100) w dX10_addVehicle_19 rfl rfl ?_
  refine s_sipush (pc2 := 24) (v := 5000) w dX10_addVehicle_21 rfl rfl ?_
  refine r_X10_requireRange (pc2 := 27) w dX10_addVehicle_24 rfl rfl rfl (Nat.le_of_ble_eq_true rfl) (fun h24 => ?_) (fun h => q1  (fun hc => h hc.2.2) _ _ f0)
  by_cases hn : nV g < 4
  · refine s_aload_n (pc2 := 28) w dX10_addVehicle_27 rfl rfl ?_
    refine m_getR (pc2 := 31) (ci := 9) (k := 0) (j2 := 1) w dX10_addVehicle_28 rfl rfl rfl rfl rfl rfl ?_
    refine s_iload_n (pc2 := 32) w dX10_addVehicle_31 rfl rfl ?_
    refine s_iload_n (pc2 := 33) w dX10_addVehicle_32 rfl rfl ?_
    refine s_iload_n (pc2 := 34) w dX10_addVehicle_33 rfl rfl ?_
    refine r_X4_putVehicle (pc2 := 37) w dX10_addVehicle_34 rfl rfl rfl rfl (Or.inl rfl) hp0 hp1.1 (fun _ x1 hx1 hx2 => ?_) (fun h => absurd hn h)
    refine r_X10_requireRoom (pc2 := 40) w dX10_addVehicle_37 rfl rfl rfl (Nat.le_of_ble_eq_true rfl) (fun _ => ?_) (fun h => absurd h (nI_m1 (by omega)))
    refine s_ireturn w dX10_addVehicle_40 rfl rfl ?_
    rw [← e6]
    exact q0 ⟨h7, h15, h24⟩ (ct_ne e6 (by decide) rfl hn) _ _ ⟨hx1, fun i k h => hx2 i k (by omega), fun _ _ _ => rfl⟩
  · refine s_aload_n (pc2 := 28) w dX10_addVehicle_27 rfl rfl ?_
    refine m_getR (pc2 := 31) (ci := 9) (k := 0) (j2 := 1) w dX10_addVehicle_28 rfl rfl rfl rfl rfl rfl ?_
    refine s_iload_n (pc2 := 32) w dX10_addVehicle_31 rfl rfl ?_
    refine s_iload_n (pc2 := 33) w dX10_addVehicle_32 rfl rfl ?_
    refine s_iload_n (pc2 := 34) w dX10_addVehicle_33 rfl rfl ?_
    refine r_X4_putVehicle (pc2 := 37) w dX10_addVehicle_34 rfl rfl rfl rfl (Or.inl rfl) hp0 hp1.1 (fun h => absurd h hn) (fun _ => ?_)
    exact r_X10_requireRoom (pc2 := 40) w dX10_addVehicle_37 rfl rfl rfl (Nat.le_of_ble_eq_true rfl) (fun h => absurd rfl h) (fun _ => q2 ⟨h7, h15, h24⟩ (fun hc => hc (ct_eq e6 rfl nv4 hn)) _ _ f0)
  
theorem lk_X10_addVehicle {l : Launch} (hl : l.stackTraces = false) : ∀ q ∈ L_X10_addVehicle, (q.2.1 < 5 → gk_Lk l RX10 gk_W1 7 q.1 q.2.1 q.2.2.1 q.2.2.2.1 q.2.2.2.2.1 q.2.2.2.2.2) := (List.forall_mem_cons.mpr ⟨(fun _ => ⟨yX10_requireRange, cX10_requireRange, 3, none, 6, _, M_X10_requireRange hl, ⟨by decide, by decide⟩, ⟨by decide, by decide, by decide +kernel⟩, ⟨(gk_wm 733 (by decide +kernel)), (gk_wm 89 (by decide +kernel))⟩, Or.inl ⟨rfl, rfl, (gk_wm 732 (by decide +kernel)), gk_wm 731 (by decide +kernel)⟩⟩), (List.forall_mem_cons.mpr ⟨(fun _ => ⟨yX4_putVehicle, cX4_putVehicle, 5, (some .int), 1, _, M_X4_putVehicle hl, ⟨by decide, by decide⟩, ⟨by decide, by decide, by decide +kernel⟩, ⟨(gk_wm 653 (by decide +kernel)), (gk_wm 90 (by decide +kernel))⟩, Or.inr (Or.inr (Or.inr (Or.inl ⟨rfl, rfl, (gk_wm 651 (by decide +kernel)), (gk_wm 652 (by decide +kernel)), gk_wm 824 (by decide +kernel), by decide, rfl⟩)))⟩), (List.forall_mem_cons.mpr ⟨(fun _ => ⟨yX10_requireRoom, cX10_requireRoom, 1, (some .int), 6, _, M_X10_requireRoom hl, ⟨by decide, by decide⟩, ⟨by decide, by decide, by decide +kernel⟩, ⟨(gk_wm 827 (by decide +kernel)), (gk_wm 89 (by decide +kernel))⟩, Or.inl ⟨rfl, rfl, (gk_wm 826 (by decide +kernel)), gk_wm 825 (by decide +kernel)⟩⟩), (fun _ h => absurd h List.not_mem_nil)⟩)⟩)⟩)
theorem sp_X10_addVehicle : ∀ q ∈ L_X10_addVehicle, gk_Sq RX10 gk_W1 7 q := (List.forall_mem_cons.mpr ⟨⟨fun h => absurd h (by decide), fun h => absurd h (by decide), fun h => absurd h (by decide), fun h => absurd h (by decide), fun h => absurd h (by decide), fun h => absurd h (by decide)⟩, (List.forall_mem_cons.mpr ⟨⟨fun h => absurd h (by decide), fun h => absurd h (by decide), fun h => absurd h (by decide), fun h => absurd h (by decide), fun h => absurd h (by decide), fun h => absurd h (by decide)⟩, (List.forall_mem_cons.mpr ⟨⟨fun h => absurd h (by decide), fun h => absurd h (by decide), fun h => absurd h (by decide), fun h => absurd h (by decide), fun h => absurd h (by decide), fun h => absurd h (by decide)⟩, (fun _ h => absurd h List.not_mem_nil)⟩)⟩)⟩)
theorem M_X10_addVehicle {l : Launch} (hl : l.stackTraces = false) : gk_Mt l yX10_addVehicle (.code yX10_addVehicle cX10_addVehicle 4 (some .int) :: gk_W1) 7 4 S_X10_addVehicle := gk_meth hl gk_cw_ok (by decide +kernel) rfl m_X10_addVehicle pX10_ok (gk_Sp_of sp_X10_addVehicle) pX10_st (fun ci m S h => absurd h (by intro h; cases h)) (xf_X10 (by decide)) (fun idx kd ci mm cost S2 h h5 => lk_X10_addVehicle hl _ (gk_lk_mem h) h5)

def S_X10_addSource : gk_S := fun as n fl x y K => ∃ (v : Int32) (b : Int32) (e : Int32) (d : Int32) (f : Int32) (g : Nat → Int32), as = [.ref 0, .int v, .int b, .int e, .int d, .int f] ∧ (n = 202 ∧ fl = gk_fT) ∧ (RS 1 g x y) ∧ (gOK g) ∧ ((0 ≤ v ∧ v < g 6) → ((-1000 ≤ b ∧ b ≤ 1000) ∧ (0 ≤ e ∧ e ≤ 500) ∧ (1 ≤ d ∧ d ≤ 10) ∧ (-99 ≤ f ∧ f ≤ 99)) → (¬ g 7 = 6) → ∀ (x2 : gk_X) (y2 : gk_Y), COk (gAS g (nS g) v b e d f) x x2 y y2 → K (.inl (some (.int (g 7)))) n fl x2 y2) ∧ (¬ (0 ≤ v ∧ v < g 6) → ∀ (x2 : gk_X) (y2 : gk_Y), COk g x x2 y y2 → K (.inr 2) n fl x2 y2) ∧ ((0 ≤ v ∧ v < g 6) → ¬ ((-1000 ≤ b ∧ b ≤ 1000) ∧ (0 ≤ e ∧ e ≤ 500) ∧ (1 ≤ d ∧ d ≤ 10) ∧ (-99 ≤ f ∧ f ≤ 99)) → ∀ (x2 : gk_X) (y2 : gk_Y), COk g x x2 y y2 → K (.inr 0) n fl x2 y2) ∧ ((0 ≤ v ∧ v < g 6) → ((-1000 ≤ b ∧ b ≤ 1000) ∧ (0 ≤ e ∧ e ≤ 500) ∧ (1 ≤ d ∧ d ≤ 10) ∧ (-99 ≤ f ∧ f ≤ 99)) → ¬ (¬ g 7 = 6) → ∀ (x2 : gk_X) (y2 : gk_Y), COk g x x2 y y2 → K (.inr 1) n fl x2 y2)
theorem r_X10_addSource (w : gk_W c P cs (fun _ _ => none) rt uf sc K V) {idx : Nat} {v : Int32} {b : Int32} {e : Int32} {d : Int32} {f : Int32} {g : Nat → Int32} (hd : decode c pc = .ok (.invokevirtual idx, 3)) (hp : pc + 3 = pc2) (hc : cs idx = some (1, 9, 6, 6, S_X10_addSource)) (h8 : Nat.ble (r.map Value.category).sum 8 = true) (hu : u + 6 ≤ uf) (hp0 : RS 1 g x y) (hp1 : gOK g) (kk0 : (0 ≤ v ∧ v < g 6) → ((-1000 ≤ b ∧ b ≤ 1000) ∧ (0 ≤ e ∧ e ≤ 500) ∧ (1 ≤ d ∧ d ≤ 10) ∧ (-99 ≤ f ∧ f ≤ 99)) → (¬ g 7 = 6) → ∀ (x2 : gk_X) (y2 : gk_Y), COk (gAS g (nS g) v b e d f) x x2 y y2 → V pc2 L ((.int (g 7)) :: r) 202 gk_fT x2 y2 (u + 6)) (kk1 : ¬ (0 ≤ v ∧ v < g 6) → ∀ (x2 : gk_X) (y2 : gk_Y), COk g x x2 y y2 → K (.inr 2) 202 gk_fT x2 y2) (kk2 : (0 ≤ v ∧ v < g 6) → ¬ ((-1000 ≤ b ∧ b ≤ 1000) ∧ (0 ≤ e ∧ e ≤ 500) ∧ (1 ≤ d ∧ d ≤ 10) ∧ (-99 ≤ f ∧ f ≤ 99)) → ∀ (x2 : gk_X) (y2 : gk_Y), COk g x x2 y y2 → K (.inr 0) 202 gk_fT x2 y2) (kk3 : (0 ≤ v ∧ v < g 6) → ((-1000 ≤ b ∧ b ≤ 1000) ∧ (0 ≤ e ∧ e ≤ 500) ∧ (1 ≤ d ∧ d ≤ 10) ∧ (-99 ≤ f ∧ f ≤ 99)) → ¬ (¬ g 7 = 6) → ∀ (x2 : gk_X) (y2 : gk_Y), COk g x x2 y y2 → K (.inr 1) 202 gk_fT x2 y2) : V pc L (.int f :: .int d :: .int e :: .int b :: .int v :: .ref 0 :: r) 202 gk_fT x y u :=
  g_callv w hd hp hc (as := [.ref 0, .int v, .int b, .int e, .int d, .int f]) rfl h8 rfl rfl rfl (Or.inr (Or.inl ⟨Or.inl rfl, _, _, rfl, (gk_kd_j rfl rfl), rfl⟩)) (Or.inr hu) ⟨v, b, e, d, f, g, rfl, ⟨rfl, rfl⟩, hp0, hp1, kk0, kk1, kk2, kk3⟩
def L_X10_addSource : List (Nat × gk_M0) := [(55, (0, 9, 3, 1, S_X10_requireRange)), (84, (0, 9, 1, 1, S_X10_requireRoom)), (91, (0, 9, 2, 1, S_X10_requireNumber)), (95, (1, 4, 6, 0, S_X4_putSource))]
def cs_X10_addSource : Nat → Option gk_M0 := gk_lk L_X10_addSource
theorem m_X10_addSource : ∀ (as : List Value) (n : Nat) (fl : gk_F) (x : gk_X) (y : gk_Y) (K : gk_K), S_X10_addSource as n fl x y K → (gk_L0 as).length ≤ 6 ∧ ∀ V : gk_V, gk_W cX10_addSource pX10 cs_X10_addSource (fun _ _ => none) (some .int) 6 none K V → V 0 (gk_en as 6) [] n fl x y 0 := by
  intro as n fl x y K hS
  obtain ⟨v, b, e, d, f, g, rfl, ⟨rfl, rfl⟩, hp0, hp1, q0, q1, q2, q3⟩ := hS
  refine ⟨Nat.le_of_ble_eq_true rfl, fun V w => ?_⟩
  show V 0 [some (.ref 0), some (.int v), some (.int b), some (.int e), some (.int d), some (.int f)] [] 202 gk_fT x y 0
  obtain ⟨nv4, ns6, nm8, z6, z7, z8⟩ := wf_n hp1.1
  have f0 := COk.ini hp0
  have e7 : g 7 = nI (nS g) := (gz_I g 7).trans (congrArg gI z7)
  refine s_iload_n (pc2 := 1) w dX10_addSource_0 rfl rfl ?_
  refine s_aload_n (pc2 := 2) w dX10_addSource_1 rfl rfl ?_
  refine m_getR (pc2 := 5) (ci := 9) (k := 0) (j2 := 1) w dX10_addSource_2 rfl rfl rfl rfl rfl rfl ?_
  refine m_getI (pc2 := 8) (ci := 4) (k := 4) w dX10_addSource_5 rfl rfl rfl rfl rfl ?_
  rw [hp0.1.1.1]
  refine r_X10_requireNumber (pc2 := 11) w dX10_addSource_8 rfl rfl rfl (Nat.le_of_ble_eq_true rfl) (fun h8 => ?_) (fun h => q1  (fun hc => h hc) _ _ f0)
  refine s_iload_n (pc2 := 12) w dX10_addSource_11 rfl rfl ?_
  refine s_sipush (pc2 := 15) (v := (-1000)) w dX10_addSource_12 rfl rfl ?_
  refine s_sipush (pc2 := 18) (v := 1000) w dX10_addSource_15 rfl rfl ?_
  refine r_X10_requireRange (pc2 := 21) w dX10_addSource_18 rfl rfl rfl (Nat.le_of_ble_eq_true rfl) (fun h18 => ?_) (fun h => q2 h8 (fun hc => h hc.1) _ _ f0)
  refine s_iload_n (pc2 := 22) w dX10_addSource_21 rfl rfl ?_
  refine s_iconst (pc2 := 23) (v := 0) w dX10_addSource_22 rfl rfl ?_
  refine s_sipush (pc2 := 26) (v := 500) w dX10_addSource_23 rfl rfl ?_
  refine r_X10_requireRange (pc2 := 29) w dX10_addSource_26 rfl rfl rfl (Nat.le_of_ble_eq_true rfl) (fun h26 => ?_) (fun h => q2 h8 (fun hc => h hc.2.1) _ _ f0)
  refine s_iload (pc2 := 31) w dX10_addSource_29 rfl rfl ?_
  refine s_iconst (pc2 := 32) (v := 1) w dX10_addSource_31 rfl rfl ?_
  refine s_bipush (pc2 := 34) (v := 10) w dX10_addSource_32 rfl rfl ?_
  refine r_X10_requireRange (pc2 := 37) w dX10_addSource_34 rfl rfl rfl (Nat.le_of_ble_eq_true rfl) (fun h34 => ?_) (fun h => q2 h8 (fun hc => h hc.2.2.1) _ _ f0)
  refine s_iload (pc2 := 39) w dX10_addSource_37 rfl rfl ?_
  refine s_bipush (pc2 := 41) (v := (-99)) w dX10_addSource_39 rfl rfl ?_
  refine s_bipush (pc2 := 43) (v := 99) w dX10_addSource_41 rfl rfl ?_
  refine r_X10_requireRange (pc2 := 46) w dX10_addSource_43 rfl rfl rfl (Nat.le_of_ble_eq_true rfl) (fun h43 => ?_) (fun h => q2 h8 (fun hc => h hc.2.2.2) _ _ f0)
  obtain ⟨w0, rfl, wh⟩ := ix_n h8
  have wh : w0 < nV g := wh
  by_cases hn : nS g < 6
  · refine s_aload_n (pc2 := 47) w dX10_addSource_46 rfl rfl ?_
    refine m_getR (pc2 := 50) (ci := 9) (k := 0) (j2 := 1) w dX10_addSource_47 rfl rfl rfl rfl rfl rfl ?_
    refine s_iload_n (pc2 := 51) w dX10_addSource_50 rfl rfl ?_
    refine s_iload_n (pc2 := 52) w dX10_addSource_51 rfl rfl ?_
    refine s_iload_n (pc2 := 53) w dX10_addSource_52 rfl rfl ?_
    refine s_iload (pc2 := 55) w dX10_addSource_53 rfl rfl ?_
    refine s_iload (pc2 := 57) w dX10_addSource_55 rfl rfl ?_
    refine r_X4_putSource (pc2 := 60) w dX10_addSource_57 rfl rfl rfl rfl (Or.inl rfl) hp0 hp1.1 rfl wh (fun _ x1 hx1 hx2 => ?_) (fun h => absurd hn h)
    refine r_X10_requireRoom (pc2 := 63) w dX10_addSource_60 rfl rfl rfl (Nat.le_of_ble_eq_true rfl) (fun _ => ?_) (fun h => absurd h (nI_m1 (by omega)))
    refine s_ireturn w dX10_addSource_63 rfl rfl ?_
    rw [← e7]
    exact q0 h8 ⟨h18, h26, h34, h43⟩ (ct_ne e7 (by decide) rfl hn) _ _ ⟨hx1, fun i k h => hx2 i k (by omega), fun _ _ _ => rfl⟩
  · refine s_aload_n (pc2 := 47) w dX10_addSource_46 rfl rfl ?_
    refine m_getR (pc2 := 50) (ci := 9) (k := 0) (j2 := 1) w dX10_addSource_47 rfl rfl rfl rfl rfl rfl ?_
    refine s_iload_n (pc2 := 51) w dX10_addSource_50 rfl rfl ?_
    refine s_iload_n (pc2 := 52) w dX10_addSource_51 rfl rfl ?_
    refine s_iload_n (pc2 := 53) w dX10_addSource_52 rfl rfl ?_
    refine s_iload (pc2 := 55) w dX10_addSource_53 rfl rfl ?_
    refine s_iload (pc2 := 57) w dX10_addSource_55 rfl rfl ?_
    refine r_X4_putSource (pc2 := 60) w dX10_addSource_57 rfl rfl rfl rfl (Or.inl rfl) hp0 hp1.1 rfl wh (fun h => absurd h hn) (fun _ => ?_)
    exact r_X10_requireRoom (pc2 := 63) w dX10_addSource_60 rfl rfl rfl (Nat.le_of_ble_eq_true rfl) (fun h => absurd rfl h) (fun _ => q3 h8 ⟨h18, h26, h34, h43⟩ (fun hc => hc (ct_eq e7 rfl ns6 hn)) _ _ f0)
  
theorem lk_X10_addSource {l : Launch} (hl : l.stackTraces = false) : ∀ q ∈ L_X10_addSource, (q.2.1 < 5 → gk_Lk l RX10 gk_W1 7 q.1 q.2.1 q.2.2.1 q.2.2.2.1 q.2.2.2.2.1 q.2.2.2.2.2) := (List.forall_mem_cons.mpr ⟨(fun _ => ⟨yX10_requireRange, cX10_requireRange, 3, none, 6, _, M_X10_requireRange hl, ⟨by decide, by decide⟩, ⟨by decide, by decide, by decide +kernel⟩, ⟨(gk_wm 733 (by decide +kernel)), (gk_wm 89 (by decide +kernel))⟩, Or.inl ⟨rfl, rfl, (gk_wm 732 (by decide +kernel)), gk_wm 731 (by decide +kernel)⟩⟩), (List.forall_mem_cons.mpr ⟨(fun _ => ⟨yX10_requireRoom, cX10_requireRoom, 1, (some .int), 6, _, M_X10_requireRoom hl, ⟨by decide, by decide⟩, ⟨by decide, by decide, by decide +kernel⟩, ⟨(gk_wm 827 (by decide +kernel)), (gk_wm 89 (by decide +kernel))⟩, Or.inl ⟨rfl, rfl, (gk_wm 826 (by decide +kernel)), gk_wm 825 (by decide +kernel)⟩⟩), (List.forall_mem_cons.mpr ⟨(fun _ => ⟨yX10_requireNumber, cX10_requireNumber, 2, none, 6, _, M_X10_requireNumber hl, ⟨by decide, by decide⟩, ⟨by decide, by decide, by decide +kernel⟩, ⟨(gk_wm 854 (by decide +kernel)), (gk_wm 89 (by decide +kernel))⟩, Or.inl ⟨rfl, rfl, (gk_wm 853 (by decide +kernel)), gk_wm 852 (by decide +kernel)⟩⟩), (List.forall_mem_cons.mpr ⟨(fun _ => ⟨yX4_putSource, cX4_putSource, 8, (some .int), 2, _, M_X4_putSource hl, ⟨by decide, by decide⟩, ⟨by decide, by decide, by decide +kernel⟩, ⟨(gk_wm 665 (by decide +kernel)), (gk_wm 90 (by decide +kernel))⟩, Or.inr (Or.inr (Or.inr (Or.inl ⟨rfl, rfl, (gk_wm 663 (by decide +kernel)), (gk_wm 664 (by decide +kernel)), gk_wm 871 (by decide +kernel), by decide, rfl⟩)))⟩), (fun _ h => absurd h List.not_mem_nil)⟩)⟩)⟩)⟩)
theorem sp_X10_addSource : ∀ q ∈ L_X10_addSource, gk_Sq RX10 gk_W1 7 q := (List.forall_mem_cons.mpr ⟨⟨fun h => absurd h (by decide), fun h => absurd h (by decide), fun h => absurd h (by decide), fun h => absurd h (by decide), fun h => absurd h (by decide), fun h => absurd h (by decide)⟩, (List.forall_mem_cons.mpr ⟨⟨fun h => absurd h (by decide), fun h => absurd h (by decide), fun h => absurd h (by decide), fun h => absurd h (by decide), fun h => absurd h (by decide), fun h => absurd h (by decide)⟩, (List.forall_mem_cons.mpr ⟨⟨fun h => absurd h (by decide), fun h => absurd h (by decide), fun h => absurd h (by decide), fun h => absurd h (by decide), fun h => absurd h (by decide), fun h => absurd h (by decide)⟩, (List.forall_mem_cons.mpr ⟨⟨fun h => absurd h (by decide), fun h => absurd h (by decide), fun h => absurd h (by decide), fun h => absurd h (by decide), fun h => absurd h (by decide), fun h => absurd h (by decide)⟩, (fun _ h => absurd h List.not_mem_nil)⟩)⟩)⟩)⟩)
theorem M_X10_addSource {l : Launch} (hl : l.stackTraces = false) : gk_Mt l yX10_addSource (.code yX10_addSource cX10_addSource 6 (some .int) :: gk_W1) 7 6 S_X10_addSource := gk_meth hl gk_cw_ok (by decide +kernel) rfl m_X10_addSource pX10_ok (gk_Sp_of sp_X10_addSource) pX10_st (fun ci m S h => absurd h (by intro h; cases h)) (xf_X10 (by decide)) (fun idx kd ci mm cost S2 h h5 => lk_X10_addSource hl _ (gk_lk_mem h) h5)

def S_X10_addValue : gk_S := fun as n fl x y K => ∃ (v : Int32) (f : Int32) (g : Nat → Int32), as = [.ref 0, .int v, .int f] ∧ (n = 202 ∧ fl = gk_fT) ∧ (RS 1 g x y) ∧ (gOK g) ∧ ((0 ≤ v ∧ v < g 7) → (-99 ≤ f ∧ f ≤ 99) → (¬ g (28 + 21 * cN v + 4) = 16) → ∀ (x2 : gk_X) (y2 : gk_Y), COk (gVA g (cN v) f) x x2 y y2 → K (.inl (some (.int (g (28 + 21 * cN v + 4) + 1)))) n fl x2 y2) ∧ (¬ (0 ≤ v ∧ v < g 7) → ∀ (x2 : gk_X) (y2 : gk_Y), COk g x x2 y y2 → K (.inr 2) n fl x2 y2) ∧ ((0 ≤ v ∧ v < g 7) → ¬ (-99 ≤ f ∧ f ≤ 99) → ∀ (x2 : gk_X) (y2 : gk_Y), COk g x x2 y y2 → K (.inr 0) n fl x2 y2) ∧ ((0 ≤ v ∧ v < g 7) → (-99 ≤ f ∧ f ≤ 99) → ¬ (¬ g (28 + 21 * cN v + 4) = 16) → ∀ (x2 : gk_X) (y2 : gk_Y), COk g x x2 y y2 → K (.inr 1) n fl x2 y2)
theorem r_X10_addValue (w : gk_W c P cs (fun _ _ => none) rt uf sc K V) {idx : Nat} {v : Int32} {f : Int32} {g : Nat → Int32} (hd : decode c pc = .ok (.invokevirtual idx, 3)) (hp : pc + 3 = pc2) (hc : cs idx = some (1, 9, 3, 3, S_X10_addValue)) (h8 : Nat.ble (r.map Value.category).sum 8 = true) (hu : u + 3 ≤ uf) (hp0 : RS 1 g x y) (hp1 : gOK g) (kk0 : (0 ≤ v ∧ v < g 7) → (-99 ≤ f ∧ f ≤ 99) → (¬ g (28 + 21 * cN v + 4) = 16) → ∀ (x2 : gk_X) (y2 : gk_Y), COk (gVA g (cN v) f) x x2 y y2 → V pc2 L ((.int (g (28 + 21 * cN v + 4) + 1)) :: r) 202 gk_fT x2 y2 (u + 3)) (kk1 : ¬ (0 ≤ v ∧ v < g 7) → ∀ (x2 : gk_X) (y2 : gk_Y), COk g x x2 y y2 → K (.inr 2) 202 gk_fT x2 y2) (kk2 : (0 ≤ v ∧ v < g 7) → ¬ (-99 ≤ f ∧ f ≤ 99) → ∀ (x2 : gk_X) (y2 : gk_Y), COk g x x2 y y2 → K (.inr 0) 202 gk_fT x2 y2) (kk3 : (0 ≤ v ∧ v < g 7) → (-99 ≤ f ∧ f ≤ 99) → ¬ (¬ g (28 + 21 * cN v + 4) = 16) → ∀ (x2 : gk_X) (y2 : gk_Y), COk g x x2 y y2 → K (.inr 1) 202 gk_fT x2 y2) : V pc L (.int f :: .int v :: .ref 0 :: r) 202 gk_fT x y u :=
  g_callv w hd hp hc (as := [.ref 0, .int v, .int f]) rfl h8 rfl rfl rfl (Or.inr (Or.inl ⟨Or.inl rfl, _, _, rfl, (gk_kd_j rfl rfl), rfl⟩)) (Or.inr hu) ⟨v, f, g, rfl, ⟨rfl, rfl⟩, hp0, hp1, kk0, kk1, kk2, kk3⟩
def L_X10_addValue : List (Nat × gk_M0) := [(55, (0, 9, 3, 1, S_X10_requireRange)), (84, (0, 9, 1, 1, S_X10_requireRoom)), (99, (1, 9, 2, 1, S_X10_requireSource)), (103, (1, 6, 2, 0, S_X7_append))]
def cs_X10_addValue : Nat → Option gk_M0 := gk_lk L_X10_addValue
theorem m_X10_addValue : ∀ (as : List Value) (n : Nat) (fl : gk_F) (x : gk_X) (y : gk_Y) (K : gk_K), S_X10_addValue as n fl x y K → (gk_L0 as).length ≤ 4 ∧ ∀ V : gk_V, gk_W cX10_addValue pX10 cs_X10_addValue (fun _ _ => none) (some .int) 3 none K V → V 0 (gk_en as 4) [] n fl x y 0 := by
  intro as n fl x y K hS
  obtain ⟨v, f, g, rfl, ⟨rfl, rfl⟩, hp0, hp1, q0, q1, q2, q3⟩ := hS
  refine ⟨Nat.le_of_ble_eq_true rfl, fun V w => ?_⟩
  show V 0 [some (.ref 0), some (.int v), some (.int f), none] [] 202 gk_fT x y 0
  obtain ⟨nv4, ns6, nm8, z6, z7, z8⟩ := wf_n hp1.1
  have f0 := COk.ini hp0
  refine s_aload_n (pc2 := 1) w dX10_addValue_0 rfl rfl ?_
  refine s_iload_n (pc2 := 2) w dX10_addValue_1 rfl rfl ?_
  refine r_X10_requireSource (pc2 := 5) w dX10_addValue_2 rfl rfl rfl (Nat.le_of_ble_eq_true rfl) hp0 hp1.1 (fun h2 a ae ah => ?_) (fun h => q1  (fun hc => h hc) _ _ f0)
  subst ae
  obtain ⟨j1, j2, j3, j4⟩ := kd_s (show a < 6 by omega)
  refine s_astore_n (pc2 := 6) (k2 := 3) w dX10_addValue_5 rfl rfl rfl ?_
  dsimp only [gk_s1, gk_s2, gk_cl]
  refine s_iload_n (pc2 := 7) w dX10_addValue_6 rfl rfl ?_
  refine s_bipush (pc2 := 9) (v := (-99)) w dX10_addValue_7 rfl rfl ?_
  refine s_bipush (pc2 := 11) (v := 99) w dX10_addValue_9 rfl rfl ?_
  refine r_X10_requireRange (pc2 := 14) w dX10_addValue_11 rfl rfl rfl (Nat.le_of_ble_eq_true rfl) (fun h11 => ?_) (fun h => q2 h2 (fun hc => h hc) _ _ f0)
  rw [cN_n a (by omega)] at q0 q3
  have w16 := (hp1.1.2.2.1 a ah).2.2.2.2.1
  have e4 : g (28 + 21 * a + 4) = nI (sW g a) := (gz_I g _).trans (congrArg gI (show gz g (28 + 21 * a + 4) = ((gz g (28 + 21 * a + 4)).toNat : Int) by omega))
  have e2 : x (3 * a + 10) 2 = nI (sW g a) := (hp0.2.2.2.1 a ah).1.1.trans e4
  have hs16 : sW g a ≤ 16 := by unfold sW; omega
  by_cases hn : sW g a < 16
  · refine s_aload_n (pc2 := 15) w dX10_addValue_14 rfl rfl ?_
    refine s_iload_n (pc2 := 16) w dX10_addValue_15 rfl rfl ?_
    refine r_X7_append (pc2 := 19) (n0 := sW g a) w dX10_addValue_16 rfl rfl rfl (by first | exact j1 | exact j2 | exact j3) j3 j4 e2 (by omega) (fun _ => ?_) (fun h => absurd hn h)
    refine r_X10_requireRoom (pc2 := 22) w dX10_addValue_19 rfl rfl rfl (Nat.le_of_ble_eq_true rfl) (fun _ => ?_) (fun h => absurd h (nI_m1 (by omega)))
    refine s_ireturn w dX10_addValue_22 rfl rfl ?_
    have q9 := q0 h2 h11 (ct_ne e4 (by decide) rfl hn) (gk_up (gk_up x (3 * a + 10 + 2) (sW g a) f) (3 * a + 10) 2 (nI (sW g a + 1))) y ⟨RS_VA hp1.1 ah hn hp0 ((gk_up_ne (by omega)).trans (gk_up_in _ _ _ _)) (gk_up_in _ _ _ _) (fun i k h1 h2 => (gk_up_ne (by omega)).trans (gk_up_ne (by omega))), fun i k h => (gk_up_ne (by omega)).trans (gk_up_ne (by omega)), fun _ _ _ => rfl⟩
    rw [show g (28 + 21 * a + 4) + 1 = nI (sW g a + 1) from by rw [e4]; exact nI_s _] at q9
    exact q9
  · refine s_aload_n (pc2 := 15) w dX10_addValue_14 rfl rfl ?_
    refine s_iload_n (pc2 := 16) w dX10_addValue_15 rfl rfl ?_
    refine r_X7_append (pc2 := 19) (n0 := sW g a) w dX10_addValue_16 rfl rfl rfl (by first | exact j1 | exact j2 | exact j3) j3 j4 e2 (by omega) (fun h => absurd h hn) (fun _ => ?_)
    exact r_X10_requireRoom (pc2 := 22) w dX10_addValue_19 rfl rfl rfl (Nat.le_of_ble_eq_true rfl) (fun h => absurd rfl h) (fun _ => q3 h2 h11 (fun hc => hc (ct_eq e4 rfl (by omega) hn)) _ _ f0)
  
theorem lk_X10_addValue {l : Launch} (hl : l.stackTraces = false) : ∀ q ∈ L_X10_addValue, (q.2.1 < 5 → gk_Lk l RX10 gk_W1 8 q.1 q.2.1 q.2.2.1 q.2.2.2.1 q.2.2.2.2.1 q.2.2.2.2.2) := (List.forall_mem_cons.mpr ⟨(fun _ => ⟨yX10_requireRange, cX10_requireRange, 3, none, 6, _, M_X10_requireRange hl, ⟨by decide, by decide⟩, ⟨by decide, by decide, by decide +kernel⟩, ⟨(gk_wm 733 (by decide +kernel)), (gk_wm 89 (by decide +kernel))⟩, Or.inl ⟨rfl, rfl, (gk_wm 732 (by decide +kernel)), gk_wm 731 (by decide +kernel)⟩⟩), (List.forall_mem_cons.mpr ⟨(fun _ => ⟨yX10_requireRoom, cX10_requireRoom, 1, (some .int), 6, _, M_X10_requireRoom hl, ⟨by decide, by decide⟩, ⟨by decide, by decide, by decide +kernel⟩, ⟨(gk_wm 827 (by decide +kernel)), (gk_wm 89 (by decide +kernel))⟩, Or.inl ⟨rfl, rfl, (gk_wm 826 (by decide +kernel)), gk_wm 825 (by decide +kernel)⟩⟩), (List.forall_mem_cons.mpr ⟨(fun _ => ⟨yX10_requireSource, cX10_requireSource, 2, (some (.object "TrackArray$Source")), 7, _, M_X10_requireSource hl, ⟨by decide, by decide⟩, ⟨by decide, by decide, by decide +kernel⟩, ⟨(gk_wm 882 (by decide +kernel)), (gk_wm 89 (by decide +kernel))⟩, Or.inr (Or.inr (Or.inr (Or.inl ⟨rfl, rfl, (gk_wm 881 (by decide +kernel)), (gk_wm 22 (by decide +kernel)), gk_wm 879 (by decide +kernel), by decide, rfl⟩)))⟩), (List.forall_mem_cons.mpr ⟨(fun _ => ⟨yX7_append, cX7_append, 2, (some .int), 0, _, M_X7_append hl, ⟨by decide, by decide⟩, ⟨by decide, by decide, by decide +kernel⟩, ⟨(gk_wm 674 (by decide +kernel)), (gk_wm 92 (by decide +kernel))⟩, Or.inr (Or.inr (Or.inr (Or.inl ⟨rfl, rfl, (gk_wm 672 (by decide +kernel)), (gk_wm 673 (by decide +kernel)), gk_wm 883 (by decide +kernel), by decide, rfl⟩)))⟩), (fun _ h => absurd h List.not_mem_nil)⟩)⟩)⟩)⟩)
theorem sp_X10_addValue : ∀ q ∈ L_X10_addValue, gk_Sq RX10 gk_W1 8 q := (List.forall_mem_cons.mpr ⟨⟨fun h => absurd h (by decide), fun h => absurd h (by decide), fun h => absurd h (by decide), fun h => absurd h (by decide), fun h => absurd h (by decide), fun h => absurd h (by decide)⟩, (List.forall_mem_cons.mpr ⟨⟨fun h => absurd h (by decide), fun h => absurd h (by decide), fun h => absurd h (by decide), fun h => absurd h (by decide), fun h => absurd h (by decide), fun h => absurd h (by decide)⟩, (List.forall_mem_cons.mpr ⟨⟨fun h => absurd h (by decide), fun h => absurd h (by decide), fun h => absurd h (by decide), fun h => absurd h (by decide), fun h => absurd h (by decide), fun h => absurd h (by decide)⟩, (List.forall_mem_cons.mpr ⟨⟨fun h => absurd h (by decide), fun h => absurd h (by decide), fun h => absurd h (by decide), fun h => absurd h (by decide), fun h => absurd h (by decide), fun h => absurd h (by decide)⟩, (fun _ h => absurd h List.not_mem_nil)⟩)⟩)⟩)⟩)
theorem M_X10_addValue {l : Launch} (hl : l.stackTraces = false) : gk_Mt l yX10_addValue (.code yX10_addValue cX10_addValue 4 (some .int) :: gk_W1) 8 3 S_X10_addValue := gk_meth hl gk_cw_ok (by decide +kernel) rfl m_X10_addValue pX10_ok (gk_Sp_of sp_X10_addValue) pX10_st (fun ci m S h => absurd h (by intro h; cases h)) (xf_X10 (by decide)) (fun idx kd ci mm cost S2 h h5 => lk_X10_addValue hl _ (gk_lk_mem h) h5)

def S_X10_addMicrophone : gk_S := fun as n fl x y K => ∃ (a : Int32) (b : Int32) (e : Int32) (d : Int32) (g : Nat → Int32), as = [.ref 0, .int a, .int b, .int e, .int d] ∧ (n = 202 ∧ fl = gk_fT) ∧ (RS 1 g x y) ∧ (gOK g) ∧ ((((-5000 ≤ a ∧ a ≤ 5000) ∧ (-100 ≤ b ∧ b ≤ 99) ∧ (0 ≤ e ∧ e ≤ 500)) ∧ (0 ≤ d ∧ d ≤ 9)) → (¬ g 8 = 8) → ∀ (x2 : gk_X) (y2 : gk_Y), COk (gAM g (nM g) a b e d) x x2 y y2 → K (.inl (some (.int (g 8)))) n fl x2 y2) ∧ (¬ (((-5000 ≤ a ∧ a ≤ 5000) ∧ (-100 ≤ b ∧ b ≤ 99) ∧ (0 ≤ e ∧ e ≤ 500)) ∧ (0 ≤ d ∧ d ≤ 9)) → ∀ (x2 : gk_X) (y2 : gk_Y), COk g x x2 y y2 → K (.inr 0) n fl x2 y2) ∧ ((((-5000 ≤ a ∧ a ≤ 5000) ∧ (-100 ≤ b ∧ b ≤ 99) ∧ (0 ≤ e ∧ e ≤ 500)) ∧ (0 ≤ d ∧ d ≤ 9)) → ¬ (¬ g 8 = 8) → ∀ (x2 : gk_X) (y2 : gk_Y), COk g x x2 y y2 → K (.inr 1) n fl x2 y2)
theorem r_X10_addMicrophone (w : gk_W c P cs (fun _ _ => none) rt uf sc K V) {idx : Nat} {a : Int32} {b : Int32} {e : Int32} {d : Int32} {g : Nat → Int32} (hd : decode c pc = .ok (.invokevirtual idx, 3)) (hp : pc + 3 = pc2) (hc : cs idx = some (1, 9, 5, 5, S_X10_addMicrophone)) (h8 : Nat.ble (r.map Value.category).sum 8 = true) (hu : u + 5 ≤ uf) (hp0 : RS 1 g x y) (hp1 : gOK g) (kk0 : (((-5000 ≤ a ∧ a ≤ 5000) ∧ (-100 ≤ b ∧ b ≤ 99) ∧ (0 ≤ e ∧ e ≤ 500)) ∧ (0 ≤ d ∧ d ≤ 9)) → (¬ g 8 = 8) → ∀ (x2 : gk_X) (y2 : gk_Y), COk (gAM g (nM g) a b e d) x x2 y y2 → V pc2 L ((.int (g 8)) :: r) 202 gk_fT x2 y2 (u + 5)) (kk1 : ¬ (((-5000 ≤ a ∧ a ≤ 5000) ∧ (-100 ≤ b ∧ b ≤ 99) ∧ (0 ≤ e ∧ e ≤ 500)) ∧ (0 ≤ d ∧ d ≤ 9)) → ∀ (x2 : gk_X) (y2 : gk_Y), COk g x x2 y y2 → K (.inr 0) 202 gk_fT x2 y2) (kk2 : (((-5000 ≤ a ∧ a ≤ 5000) ∧ (-100 ≤ b ∧ b ≤ 99) ∧ (0 ≤ e ∧ e ≤ 500)) ∧ (0 ≤ d ∧ d ≤ 9)) → ¬ (¬ g 8 = 8) → ∀ (x2 : gk_X) (y2 : gk_Y), COk g x x2 y y2 → K (.inr 1) 202 gk_fT x2 y2) : V pc L (.int d :: .int e :: .int b :: .int a :: .ref 0 :: r) 202 gk_fT x y u :=
  g_callv w hd hp hc (as := [.ref 0, .int a, .int b, .int e, .int d]) rfl h8 rfl rfl rfl (Or.inr (Or.inl ⟨Or.inl rfl, _, _, rfl, (gk_kd_j rfl rfl), rfl⟩)) (Or.inr hu) ⟨a, b, e, d, g, rfl, ⟨rfl, rfl⟩, hp0, hp1, kk0, kk1, kk2⟩
def L_X10_addMicrophone : List (Nat × gk_M0) := [(55, (0, 9, 3, 1, S_X10_requireRange)), (84, (0, 9, 1, 1, S_X10_requireRoom)), (108, (1, 4, 5, 0, S_X4_putMicrophone))]
def cs_X10_addMicrophone : Nat → Option gk_M0 := gk_lk L_X10_addMicrophone
theorem m_X10_addMicrophone : ∀ (as : List Value) (n : Nat) (fl : gk_F) (x : gk_X) (y : gk_Y) (K : gk_K), S_X10_addMicrophone as n fl x y K → (gk_L0 as).length ≤ 5 ∧ ∀ V : gk_V, gk_W cX10_addMicrophone pX10 cs_X10_addMicrophone (fun _ _ => none) (some .int) 5 none K V → V 0 (gk_en as 5) [] n fl x y 0 := by
  intro as n fl x y K hS
  obtain ⟨a, b, e, d, g, rfl, ⟨rfl, rfl⟩, hp0, hp1, q0, q1, q2⟩ := hS
  refine ⟨Nat.le_of_ble_eq_true rfl, fun V w => ?_⟩
  show V 0 [some (.ref 0), some (.int a), some (.int b), some (.int e), some (.int d)] [] 202 gk_fT x y 0
  obtain ⟨nv4, ns6, nm8, z6, z7, z8⟩ := wf_n hp1.1
  have f0 := COk.ini hp0
  have e8 : g 8 = nI (nM g) := (gz_I g 8).trans (congrArg gI z8)
  refine s_iload_n (pc2 := 1) w dX10_addMicrophone_0 rfl rfl ?_
  refine s_sipush (pc2 := 4) (v := (-5000)) w dX10_addMicrophone_1 rfl rfl ?_
  refine s_sipush (pc2 := 7) (v := 5000) w dX10_addMicrophone_4 rfl rfl ?_
  refine r_X10_requireRange (pc2 := 10) w dX10_addMicrophone_7 rfl rfl rfl (Nat.le_of_ble_eq_true rfl) (fun h7 => ?_) (fun h => q1  (fun hc => h hc.1.1) _ _ f0)
  refine s_iload_n (pc2 := 11) w dX10_addMicrophone_10 rfl rfl ?_
  refine s_bipush (pc2 := 13) (v := (-100)) w dX10_addMicrophone_11 rfl rfl ?_
  refine s_bipush (pc2 := 15) (v := 99) w dX10_addMicrophone_13 rfl rfl ?_
  refine r_X10_requireRange (pc2 := 18) w dX10_addMicrophone_15 rfl rfl rfl (Nat.le_of_ble_eq_true rfl) (fun h15 => ?_) (fun h => q1  (fun hc => h hc.1.2.1) _ _ f0)
  refine s_iload_n (pc2 := 19) w dX10_addMicrophone_18 rfl rfl ?_
  refine s_iconst (pc2 := 20) (v := 0) w dX10_addMicrophone_19 rfl rfl ?_
  refine s_sipush (pc2 := 23) (v := 500) w dX10_addMicrophone_20 rfl rfl ?_
  refine r_X10_requireRange (pc2 := 26) w dX10_addMicrophone_23 rfl rfl rfl (Nat.le_of_ble_eq_true rfl) (fun h23 => ?_) (fun h => q1  (fun hc => h hc.1.2.2) _ _ f0)
  refine s_iload (pc2 := 28) w dX10_addMicrophone_26 rfl rfl ?_
  refine s_iconst (pc2 := 29) (v := 0) w dX10_addMicrophone_28 rfl rfl ?_
  refine s_bipush (pc2 := 31) (v := 9) w dX10_addMicrophone_29 rfl rfl ?_
  refine r_X10_requireRange (pc2 := 34) w dX10_addMicrophone_31 rfl rfl rfl (Nat.le_of_ble_eq_true rfl) (fun h31 => ?_) (fun h => q1  (fun hc => h hc.2) _ _ f0)
  by_cases hn : nM g < 8
  · refine s_aload_n (pc2 := 35) w dX10_addMicrophone_34 rfl rfl ?_
    refine m_getR (pc2 := 38) (ci := 9) (k := 0) (j2 := 1) w dX10_addMicrophone_35 rfl rfl rfl rfl rfl rfl ?_
    refine s_iload_n (pc2 := 39) w dX10_addMicrophone_38 rfl rfl ?_
    refine s_iload_n (pc2 := 40) w dX10_addMicrophone_39 rfl rfl ?_
    refine s_iload_n (pc2 := 41) w dX10_addMicrophone_40 rfl rfl ?_
    refine s_iload (pc2 := 43) w dX10_addMicrophone_41 rfl rfl ?_
    refine r_X4_putMicrophone (pc2 := 46) w dX10_addMicrophone_43 rfl rfl rfl rfl (Or.inl rfl) hp0 hp1.1 hp1.2.2 (fun _ x1 hx1 hx2 => ?_) (fun h => absurd hn h)
    refine r_X10_requireRoom (pc2 := 49) w dX10_addMicrophone_46 rfl rfl rfl (Nat.le_of_ble_eq_true rfl) (fun _ => ?_) (fun h => absurd h (nI_m1 (by omega)))
    refine s_ireturn w dX10_addMicrophone_49 rfl rfl ?_
    rw [← e8]
    exact q0 ⟨⟨h7, h15, h23⟩, h31⟩ (ct_ne e8 (by decide) rfl hn) _ _ ⟨hx1, fun i k h => hx2 i k (by omega), fun _ _ _ => rfl⟩
  · refine s_aload_n (pc2 := 35) w dX10_addMicrophone_34 rfl rfl ?_
    refine m_getR (pc2 := 38) (ci := 9) (k := 0) (j2 := 1) w dX10_addMicrophone_35 rfl rfl rfl rfl rfl rfl ?_
    refine s_iload_n (pc2 := 39) w dX10_addMicrophone_38 rfl rfl ?_
    refine s_iload_n (pc2 := 40) w dX10_addMicrophone_39 rfl rfl ?_
    refine s_iload_n (pc2 := 41) w dX10_addMicrophone_40 rfl rfl ?_
    refine s_iload (pc2 := 43) w dX10_addMicrophone_41 rfl rfl ?_
    refine r_X4_putMicrophone (pc2 := 46) w dX10_addMicrophone_43 rfl rfl rfl rfl (Or.inl rfl) hp0 hp1.1 hp1.2.2 (fun h => absurd h hn) (fun _ => ?_)
    exact r_X10_requireRoom (pc2 := 49) w dX10_addMicrophone_46 rfl rfl rfl (Nat.le_of_ble_eq_true rfl) (fun h => absurd rfl h) (fun _ => q2 ⟨⟨h7, h15, h23⟩, h31⟩ (fun hc => hc (ct_eq e8 rfl nm8 hn)) _ _ f0)
  
theorem lk_X10_addMicrophone {l : Launch} (hl : l.stackTraces = false) : ∀ q ∈ L_X10_addMicrophone, (q.2.1 < 5 → gk_Lk l RX10 gk_W1 7 q.1 q.2.1 q.2.2.1 q.2.2.2.1 q.2.2.2.2.1 q.2.2.2.2.2) := (List.forall_mem_cons.mpr ⟨(fun _ => ⟨yX10_requireRange, cX10_requireRange, 3, none, 6, _, M_X10_requireRange hl, ⟨by decide, by decide⟩, ⟨by decide, by decide, by decide +kernel⟩, ⟨(gk_wm 733 (by decide +kernel)), (gk_wm 89 (by decide +kernel))⟩, Or.inl ⟨rfl, rfl, (gk_wm 732 (by decide +kernel)), gk_wm 731 (by decide +kernel)⟩⟩), (List.forall_mem_cons.mpr ⟨(fun _ => ⟨yX10_requireRoom, cX10_requireRoom, 1, (some .int), 6, _, M_X10_requireRoom hl, ⟨by decide, by decide⟩, ⟨by decide, by decide, by decide +kernel⟩, ⟨(gk_wm 827 (by decide +kernel)), (gk_wm 89 (by decide +kernel))⟩, Or.inl ⟨rfl, rfl, (gk_wm 826 (by decide +kernel)), gk_wm 825 (by decide +kernel)⟩⟩), (List.forall_mem_cons.mpr ⟨(fun _ => ⟨yX4_putMicrophone, cX4_putMicrophone, 7, (some .int), 1, _, M_X4_putMicrophone hl, ⟨by decide, by decide⟩, ⟨by decide, by decide, by decide +kernel⟩, ⟨(gk_wm 642 (by decide +kernel)), (gk_wm 90 (by decide +kernel))⟩, Or.inr (Or.inr (Or.inr (Or.inl ⟨rfl, rfl, (gk_wm 640 (by decide +kernel)), (gk_wm 641 (by decide +kernel)), gk_wm 891 (by decide +kernel), by decide, rfl⟩)))⟩), (fun _ h => absurd h List.not_mem_nil)⟩)⟩)⟩)
theorem sp_X10_addMicrophone : ∀ q ∈ L_X10_addMicrophone, gk_Sq RX10 gk_W1 7 q := (List.forall_mem_cons.mpr ⟨⟨fun h => absurd h (by decide), fun h => absurd h (by decide), fun h => absurd h (by decide), fun h => absurd h (by decide), fun h => absurd h (by decide), fun h => absurd h (by decide)⟩, (List.forall_mem_cons.mpr ⟨⟨fun h => absurd h (by decide), fun h => absurd h (by decide), fun h => absurd h (by decide), fun h => absurd h (by decide), fun h => absurd h (by decide), fun h => absurd h (by decide)⟩, (List.forall_mem_cons.mpr ⟨⟨fun h => absurd h (by decide), fun h => absurd h (by decide), fun h => absurd h (by decide), fun h => absurd h (by decide), fun h => absurd h (by decide), fun h => absurd h (by decide)⟩, (fun _ h => absurd h List.not_mem_nil)⟩)⟩)⟩)
theorem M_X10_addMicrophone {l : Launch} (hl : l.stackTraces = false) : gk_Mt l yX10_addMicrophone (.code yX10_addMicrophone cX10_addMicrophone 5 (some .int) :: gk_W1) 7 5 S_X10_addMicrophone := gk_meth hl gk_cw_ok (by decide +kernel) rfl m_X10_addMicrophone pX10_ok (gk_Sp_of sp_X10_addMicrophone) pX10_st (fun ci m S h => absurd h (by intro h; cases h)) (xf_X10 (by decide)) (fun idx kd ci mm cost S2 h h5 => lk_X10_addMicrophone hl _ (gk_lk_mem h) h5)

def S_X10_setWeight : gk_S := fun as n fl x y K => ∃ (m : Int32) (v : Int32) (g : Nat → Int32), as = [.ref 0, .int m, .int v] ∧ (n = 202 ∧ fl = gk_fT) ∧ (RS 1 g x y) ∧ (gOK g) ∧ ((0 ≤ m ∧ m < g 8) → (0 ≤ v ∧ v ≤ 9) → ∀ (x2 : gk_X) (y2 : gk_Y), COk (gU g (154 + 4 * cN m + 3) v) x x2 y y2 → K (.inl (some (.int (g (154 + 4 * cN m + 3))))) n fl x2 y2) ∧ (¬ (0 ≤ m ∧ m < g 8) → ∀ (x2 : gk_X) (y2 : gk_Y), COk g x x2 y y2 → K (.inr 2) n fl x2 y2) ∧ ((0 ≤ m ∧ m < g 8) → ¬ (0 ≤ v ∧ v ≤ 9) → ∀ (x2 : gk_X) (y2 : gk_Y), COk g x x2 y y2 → K (.inr 0) n fl x2 y2)
theorem r_X10_setWeight (w : gk_W c P cs (fun _ _ => none) rt uf sc K V) {idx : Nat} {m : Int32} {v : Int32} {g : Nat → Int32} (hd : decode c pc = .ok (.invokevirtual idx, 3)) (hp : pc + 3 = pc2) (hc : cs idx = some (1, 9, 3, 2, S_X10_setWeight)) (h8 : Nat.ble (r.map Value.category).sum 8 = true) (hu : u + 2 ≤ uf) (hp0 : RS 1 g x y) (hp1 : gOK g) (kk0 : (0 ≤ m ∧ m < g 8) → (0 ≤ v ∧ v ≤ 9) → ∀ (x2 : gk_X) (y2 : gk_Y), COk (gU g (154 + 4 * cN m + 3) v) x x2 y y2 → V pc2 L ((.int (g (154 + 4 * cN m + 3))) :: r) 202 gk_fT x2 y2 (u + 2)) (kk1 : ¬ (0 ≤ m ∧ m < g 8) → ∀ (x2 : gk_X) (y2 : gk_Y), COk g x x2 y y2 → K (.inr 2) 202 gk_fT x2 y2) (kk2 : (0 ≤ m ∧ m < g 8) → ¬ (0 ≤ v ∧ v ≤ 9) → ∀ (x2 : gk_X) (y2 : gk_Y), COk g x x2 y y2 → K (.inr 0) 202 gk_fT x2 y2) : V pc L (.int v :: .int m :: .ref 0 :: r) 202 gk_fT x y u :=
  g_callv w hd hp hc (as := [.ref 0, .int m, .int v]) rfl h8 rfl rfl rfl (Or.inr (Or.inl ⟨Or.inl rfl, _, _, rfl, (gk_kd_j rfl rfl), rfl⟩)) (Or.inr hu) ⟨m, v, g, rfl, ⟨rfl, rfl⟩, hp0, hp1, kk0, kk1, kk2⟩
def L_X10_setWeight : List (Nat × gk_M0) := [(55, (0, 9, 3, 1, S_X10_requireRange)), (112, (1, 9, 2, 1, S_X10_requireMicrophone))]
def cs_X10_setWeight : Nat → Option gk_M0 := gk_lk L_X10_setWeight
theorem m_X10_setWeight : ∀ (as : List Value) (n : Nat) (fl : gk_F) (x : gk_X) (y : gk_Y) (K : gk_K), S_X10_setWeight as n fl x y K → (gk_L0 as).length ≤ 5 ∧ ∀ V : gk_V, gk_W cX10_setWeight pX10 cs_X10_setWeight (fun _ _ => none) (some .int) 2 none K V → V 0 (gk_en as 5) [] n fl x y 0 := by
  intro as n fl x y K hS
  obtain ⟨m, v, g, rfl, ⟨rfl, rfl⟩, hp0, hp1, q0, q1, q2⟩ := hS
  refine ⟨Nat.le_of_ble_eq_true rfl, fun V w => ?_⟩
  show V 0 [some (.ref 0), some (.int m), some (.int v), none, none] [] 202 gk_fT x y 0
  obtain ⟨nv4, ns6, nm8, z6, z7, z8⟩ := wf_n hp1.1
  have f0 := COk.ini hp0
  refine s_aload_n (pc2 := 1) w dX10_setWeight_0 rfl rfl ?_
  refine s_iload_n (pc2 := 2) w dX10_setWeight_1 rfl rfl ?_
  refine r_X10_requireMicrophone (pc2 := 5) w dX10_setWeight_2 rfl rfl rfl (Nat.le_of_ble_eq_true rfl) hp0 hp1.1 (fun h2 a ae ah => ?_) (fun h => q1  (fun hc => h hc) _ _ f0)
  subst ae
  obtain ⟨j1a, j2a, j3a⟩ := kd_m (show a < 8 by omega)
  have j1 := j1a
  have j2 := j2a
  have j3 := j3a
  refine s_astore_n (pc2 := 6) (k2 := 3) w dX10_setWeight_5 rfl rfl rfl ?_
  dsimp only [gk_s1, gk_s2, gk_cl]
  refine s_iload_n (pc2 := 7) w dX10_setWeight_6 rfl rfl ?_
  refine s_iconst (pc2 := 8) (v := 0) w dX10_setWeight_7 rfl rfl ?_
  refine s_bipush (pc2 := 10) (v := 9) w dX10_setWeight_8 rfl rfl ?_
  refine r_X10_requireRange (pc2 := 13) w dX10_setWeight_10 rfl rfl rfl (Nat.le_of_ble_eq_true rfl) (fun h10 => ?_) (fun h => q2 h2 (fun hc => h hc) _ _ f0)
  rw [cN_n a (by omega)] at q0
  refine s_aload_n (pc2 := 14) w dX10_setWeight_13 rfl rfl ?_
  refine m_getI (pc2 := 17) (ci := 1) (k := 4) w dX10_setWeight_14 rfl rfl (by first | exact j2 | exact j1) rfl rfl ?_
  rw [show x (2 * a + 28) 4 = g (154 + 4 * a + 3) from (hp0.2.2.2.2.1 a ah).2.2.2]
  refine s_istore (pc2 := 19) w dX10_setWeight_17 rfl rfl ?_
  dsimp only [gk_s1, gk_s2, gk_cl]
  refine s_aload_n (pc2 := 20) w dX10_setWeight_19 rfl rfl ?_
  refine s_iload_n (pc2 := 21) w dX10_setWeight_20 rfl rfl ?_
  refine m_putI (pc2 := 24) (ci := 1) (k := 4) w dX10_setWeight_21 rfl rfl (by first | exact j2 | exact j1) rfl rfl (by intro h; cases h) ?_
  refine s_iload (pc2 := 26) w dX10_setWeight_24 rfl rfl ?_
  refine s_ireturn w dX10_setWeight_26 rfl rfl ?_
  exact q0 h2 h10 _ _ ⟨RS_W hp1.1 ah hp0 (gk_up_in _ _ _ _) (fun i k h => gk_up_ne h), fun i k h => gk_up_ne (by omega), fun _ _ _ => rfl⟩
theorem lk_X10_setWeight {l : Launch} (hl : l.stackTraces = false) : ∀ q ∈ L_X10_setWeight, (q.2.1 < 5 → gk_Lk l RX10 gk_W1 8 q.1 q.2.1 q.2.2.1 q.2.2.2.1 q.2.2.2.2.1 q.2.2.2.2.2) := (List.forall_mem_cons.mpr ⟨(fun _ => ⟨yX10_requireRange, cX10_requireRange, 3, none, 6, _, M_X10_requireRange hl, ⟨by decide, by decide⟩, ⟨by decide, by decide, by decide +kernel⟩, ⟨(gk_wm 733 (by decide +kernel)), (gk_wm 89 (by decide +kernel))⟩, Or.inl ⟨rfl, rfl, (gk_wm 732 (by decide +kernel)), gk_wm 731 (by decide +kernel)⟩⟩), (List.forall_mem_cons.mpr ⟨(fun _ => ⟨yX10_requireMicrophone, cX10_requireMicrophone, 2, (some (.object "TrackArray$Microphone")), 7, _, M_X10_requireMicrophone hl, ⟨by decide, by decide⟩, ⟨by decide, by decide, by decide +kernel⟩, ⟨(gk_wm 902 (by decide +kernel)), (gk_wm 89 (by decide +kernel))⟩, Or.inr (Or.inr (Or.inr (Or.inl ⟨rfl, rfl, (gk_wm 901 (by decide +kernel)), (gk_wm 23 (by decide +kernel)), gk_wm 899 (by decide +kernel), by decide, rfl⟩)))⟩), (fun _ h => absurd h List.not_mem_nil)⟩)⟩)
theorem sp_X10_setWeight : ∀ q ∈ L_X10_setWeight, gk_Sq RX10 gk_W1 8 q := (List.forall_mem_cons.mpr ⟨⟨fun h => absurd h (by decide), fun h => absurd h (by decide), fun h => absurd h (by decide), fun h => absurd h (by decide), fun h => absurd h (by decide), fun h => absurd h (by decide)⟩, (List.forall_mem_cons.mpr ⟨⟨fun h => absurd h (by decide), fun h => absurd h (by decide), fun h => absurd h (by decide), fun h => absurd h (by decide), fun h => absurd h (by decide), fun h => absurd h (by decide)⟩, (fun _ h => absurd h List.not_mem_nil)⟩)⟩)
theorem M_X10_setWeight {l : Launch} (hl : l.stackTraces = false) : gk_Mt l yX10_setWeight (.code yX10_setWeight cX10_setWeight 5 (some .int) :: gk_W1) 8 2 S_X10_setWeight := gk_meth hl gk_cw_ok (by decide +kernel) rfl m_X10_setWeight pX10_ok (gk_Sp_of sp_X10_setWeight) pX10_st (fun ci m S h => absurd h (by intro h; cases h)) (xf_X10 (by decide)) (fun idx kd ci mm cost S2 h h5 => lk_X10_setWeight hl _ (gk_lk_mem h) h5)

def S_X10_focusOnVehicle : gk_S := fun as n fl x y K => ∃ (v : Int32) (b : Int32) (e : Int32) (g : Nat → Int32), as = [.ref 0, .int v, .int b, .int e] ∧ (n = 202 ∧ fl = gk_fT) ∧ (RS 1 g x y) ∧ (gOK g) ∧ ((0 ≤ v ∧ v < g 6) → ((-1000 ≤ b ∧ b ≤ 1000) ∧ (0 ≤ e ∧ e ≤ 500)) → ∀ (x2 : gk_X) (y2 : gk_Y), COk (gFO g 0 v b 0 e) x x2 y y2 → K (.inl none) n fl x2 y2) ∧ (¬ (0 ≤ v ∧ v < g 6) → ∀ (x2 : gk_X) (y2 : gk_Y), COk g x x2 y y2 → K (.inr 2) n fl x2 y2) ∧ ((0 ≤ v ∧ v < g 6) → ¬ ((-1000 ≤ b ∧ b ≤ 1000) ∧ (0 ≤ e ∧ e ≤ 500)) → ∀ (x2 : gk_X) (y2 : gk_Y), COk g x x2 y y2 → K (.inr 0) n fl x2 y2)
theorem r_X10_focusOnVehicle (w : gk_W c P cs (fun _ _ => none) rt uf sc K V) {idx : Nat} {v : Int32} {b : Int32} {e : Int32} {g : Nat → Int32} (hd : decode c pc = .ok (.invokevirtual idx, 3)) (hp : pc + 3 = pc2) (hc : cs idx = some (1, 9, 4, 3, S_X10_focusOnVehicle)) (h8 : Nat.ble (r.map Value.category).sum 8 = true) (hu : u + 3 ≤ uf) (hp0 : RS 1 g x y) (hp1 : gOK g) (kk0 : (0 ≤ v ∧ v < g 6) → ((-1000 ≤ b ∧ b ≤ 1000) ∧ (0 ≤ e ∧ e ≤ 500)) → ∀ (x2 : gk_X) (y2 : gk_Y), COk (gFO g 0 v b 0 e) x x2 y y2 → V pc2 L r 202 gk_fT x2 y2 (u + 3)) (kk1 : ¬ (0 ≤ v ∧ v < g 6) → ∀ (x2 : gk_X) (y2 : gk_Y), COk g x x2 y y2 → K (.inr 2) 202 gk_fT x2 y2) (kk2 : (0 ≤ v ∧ v < g 6) → ¬ ((-1000 ≤ b ∧ b ≤ 1000) ∧ (0 ≤ e ∧ e ≤ 500)) → ∀ (x2 : gk_X) (y2 : gk_Y), COk g x x2 y y2 → K (.inr 0) 202 gk_fT x2 y2) : V pc L (.int e :: .int b :: .int v :: .ref 0 :: r) 202 gk_fT x y u :=
  g_callv w hd hp hc (as := [.ref 0, .int v, .int b, .int e]) rfl h8 rfl rfl rfl (Or.inr (Or.inl ⟨Or.inl rfl, _, _, rfl, (gk_kd_j rfl rfl), rfl⟩)) (Or.inr hu) ⟨v, b, e, g, rfl, ⟨rfl, rfl⟩, hp0, hp1, kk0, kk1, kk2⟩
def L_X10_focusOnVehicle : List (Nat × gk_M0) := [(55, (0, 9, 3, 1, S_X10_requireRange)), (91, (0, 9, 2, 1, S_X10_requireNumber)), (209, (1, 3, 4, 0, S_X3_ride))]
def cs_X10_focusOnVehicle : Nat → Option gk_M0 := gk_lk L_X10_focusOnVehicle
theorem m_X10_focusOnVehicle : ∀ (as : List Value) (n : Nat) (fl : gk_F) (x : gk_X) (y : gk_Y) (K : gk_K), S_X10_focusOnVehicle as n fl x y K → (gk_L0 as).length ≤ 4 ∧ ∀ V : gk_V, gk_W cX10_focusOnVehicle pX10 cs_X10_focusOnVehicle (fun _ _ => none) none 3 none K V → V 0 (gk_en as 4) [] n fl x y 0 := by
  intro as n fl x y K hS
  obtain ⟨v, b, e, g, rfl, ⟨rfl, rfl⟩, hp0, hp1, q0, q1, q2⟩ := hS
  refine ⟨Nat.le_of_ble_eq_true rfl, fun V w => ?_⟩
  show V 0 [some (.ref 0), some (.int v), some (.int b), some (.int e)] [] 202 gk_fT x y 0
  obtain ⟨nv4, ns6, nm8, z6, z7, z8⟩ := wf_n hp1.1
  have f0 := COk.ini hp0
  refine s_iload_n (pc2 := 1) w dX10_focusOnVehicle_0 rfl rfl ?_
  refine s_aload_n (pc2 := 2) w dX10_focusOnVehicle_1 rfl rfl ?_
  refine m_getR (pc2 := 5) (ci := 9) (k := 0) (j2 := 1) w dX10_focusOnVehicle_2 rfl rfl rfl rfl rfl rfl ?_
  refine m_getI (pc2 := 8) (ci := 4) (k := 4) w dX10_focusOnVehicle_5 rfl rfl rfl rfl rfl ?_
  rw [hp0.1.1.1]
  refine r_X10_requireNumber (pc2 := 11) w dX10_focusOnVehicle_8 rfl rfl rfl (Nat.le_of_ble_eq_true rfl) (fun h8 => ?_) (fun h => q1  (fun hc => h hc) _ _ f0)
  refine s_iload_n (pc2 := 12) w dX10_focusOnVehicle_11 rfl rfl ?_
  refine s_sipush (pc2 := 15) (v := (-1000)) w dX10_focusOnVehicle_12 rfl rfl ?_
  refine s_sipush (pc2 := 18) (v := 1000) w dX10_focusOnVehicle_15 rfl rfl ?_
  refine r_X10_requireRange (pc2 := 21) w dX10_focusOnVehicle_18 rfl rfl rfl (Nat.le_of_ble_eq_true rfl) (fun h18 => ?_) (fun h => q2 h8 (fun hc => h hc.1) _ _ f0)
  refine s_iload_n (pc2 := 22) w dX10_focusOnVehicle_21 rfl rfl ?_
  refine s_iconst (pc2 := 23) (v := 0) w dX10_focusOnVehicle_22 rfl rfl ?_
  refine s_sipush (pc2 := 26) (v := 500) w dX10_focusOnVehicle_23 rfl rfl ?_
  refine r_X10_requireRange (pc2 := 29) w dX10_focusOnVehicle_26 rfl rfl rfl (Nat.le_of_ble_eq_true rfl) (fun h26 => ?_) (fun h => q2 h8 (fun hc => h hc.2) _ _ f0)
  obtain ⟨v2, rfl, vh⟩ := ix_n h8
  have vh : v2 < nV g := vh
  have jv : gk_kd (v2 + 6) = 3 := (by decide : ∀ v, v < 4 → gk_kd (v + 6) = 3) v2 (by omega)
  obtain ⟨s1, s2, s3⟩ := hp0.2.2.1 v2 vh
  refine s_aload_n (pc2 := 30) w dX10_focusOnVehicle_29 rfl rfl ?_
  refine m_getR (pc2 := 33) (ci := 9) (k := 0) (j2 := 1) w dX10_focusOnVehicle_30 rfl rfl rfl rfl rfl rfl ?_
  refine m_getR (pc2 := 36) (ci := 4) (k := 3) (j2 := 5) w dX10_focusOnVehicle_33 rfl rfl rfl rfl rfl rfl ?_
  refine s_aload_n (pc2 := 37) w dX10_focusOnVehicle_36 rfl rfl ?_
  refine m_getR (pc2 := 40) (ci := 9) (k := 0) (j2 := 1) w dX10_focusOnVehicle_37 rfl rfl rfl rfl rfl rfl ?_
  refine m_getR (pc2 := 43) (ci := 4) (k := 0) (j2 := 2) w dX10_focusOnVehicle_40 rfl rfl rfl rfl rfl rfl ?_
  refine s_iload_n (pc2 := 44) w dX10_focusOnVehicle_43 rfl rfl ?_
  refine m_aaloadN (pc2 := 45) (t := v2) (kd := 24) (j2 := (v2 + 6)) (N := 4) w dX10_focusOnVehicle_44 rfl rfl rfl rfl rfl rfl (by omega) rfl (by show 2 + (4 + v2) = v2 + 6; omega) ?_
  refine s_iload_n (pc2 := 46) w dX10_focusOnVehicle_45 rfl rfl ?_
  refine s_iload_n (pc2 := 47) w dX10_focusOnVehicle_46 rfl rfl ?_
  refine r_X3_ride (pc2 := 50) w dX10_focusOnVehicle_47 rfl rfl rfl rfl jv ?_
  refine s_aload_n (pc2 := 51) w dX10_focusOnVehicle_50 rfl rfl ?_
  refine m_getR (pc2 := 54) (ci := 9) (k := 0) (j2 := 1) w dX10_focusOnVehicle_51 rfl rfl rfl rfl rfl rfl ?_
  refine s_iconst (pc2 := 55) (v := 0) w dX10_focusOnVehicle_54 rfl rfl ?_
  refine m_putI (pc2 := 58) (ci := 4) (k := 13) w dX10_focusOnVehicle_55 rfl rfl rfl rfl rfl (fun _ => Or.inl rfl) ?_
  refine s_return w dX10_focusOnVehicle_58 rfl ?_
  obtain ⟨⟨e10, e11, e12, e13, e14⟩, eo⟩ := fo_e g 0 (nI v2) b 0 e
  have ev : (gz (gFO g 0 (nI v2) b 0 e) 11).toNat = v2 := by unfold gz; rw [e11, nI_t (by omega)]; exact Int.toNat_natCast _
  refine q0 h8 ⟨h18, h26⟩ _ _ ⟨RS_FO hp1.1 hp0 eo (fun i k h1 h2 => (gk_up_ne (by omega)).trans ((gk_up_ne (by omega)).trans ((gk_up_ne (by omega)).trans ((gk_up_ne (by omega)).trans (gk_up_ne (by omega)))))) ((gk_up_in _ _ _ _).trans (if_neg (fun h => by rw [e10] at h; exact absurd h (by decide))).symm) (fun h => by rw [e10] at h; exact absurd h (by decide)) ⟨fun _ => ?_, fun h => by rw [e10] at h; exact absurd h (by decide)⟩, fun i k h => (gk_up_ne (by omega)).trans ((gk_up_ne (by omega)).trans ((gk_up_ne (by omega)).trans ((gk_up_ne (by omega)).trans (gk_up_ne (by omega))))), fun _ _ _ => rfl⟩
  rw [ev, eo (16 + 3 * v2 + 1) (by omega), eo (16 + 3 * v2 + 2) (by omega), e14, zg (eo (16 + 3 * v2 + 0) (by omega))]
  refine ⟨((gk_up_ne (by omega)).trans ((gk_up_ne (by omega)).trans ((gk_up_ne (by omega)).trans ((gk_up_ne (by omega)).trans (gk_up_in _ _ _ _))))).trans ?_, ((gk_up_ne (by omega)).trans ((gk_up_ne (by omega)).trans ((gk_up_ne (by omega)).trans (gk_up_in _ _ _ _)))).trans s2, ((gk_up_ne (by omega)).trans ((gk_up_ne (by omega)).trans (gk_up_in _ _ _ _))).trans s3, (gk_up_ne (by omega)).trans (gk_up_in _ _ _ _)⟩
  rw [show x (v2 + 6) 0 = g (16 + 3 * v2 + 0) from s1]
  unfold gz
  rw [e12, ← gI_add, gI_self, gI_self]
theorem lk_X10_focusOnVehicle {l : Launch} (hl : l.stackTraces = false) : ∀ q ∈ L_X10_focusOnVehicle, (q.2.1 < 5 → gk_Lk l RX10 gk_W1 7 q.1 q.2.1 q.2.2.1 q.2.2.2.1 q.2.2.2.2.1 q.2.2.2.2.2) := (List.forall_mem_cons.mpr ⟨(fun _ => ⟨yX10_requireRange, cX10_requireRange, 3, none, 6, _, M_X10_requireRange hl, ⟨by decide, by decide⟩, ⟨by decide, by decide, by decide +kernel⟩, ⟨(gk_wm 733 (by decide +kernel)), (gk_wm 89 (by decide +kernel))⟩, Or.inl ⟨rfl, rfl, (gk_wm 732 (by decide +kernel)), gk_wm 731 (by decide +kernel)⟩⟩), (List.forall_mem_cons.mpr ⟨(fun _ => ⟨yX10_requireNumber, cX10_requireNumber, 2, none, 6, _, M_X10_requireNumber hl, ⟨by decide, by decide⟩, ⟨by decide, by decide, by decide +kernel⟩, ⟨(gk_wm 854 (by decide +kernel)), (gk_wm 89 (by decide +kernel))⟩, Or.inl ⟨rfl, rfl, (gk_wm 853 (by decide +kernel)), gk_wm 852 (by decide +kernel)⟩⟩), (List.forall_mem_cons.mpr ⟨(fun _ => ⟨yX3_ride, cX3_ride, 4, none, 1, _, M_X3_ride hl, ⟨by decide, by decide⟩, ⟨by decide, by decide, by decide +kernel⟩, ⟨(gk_wm 669 (by decide +kernel)), (gk_wm 91 (by decide +kernel))⟩, Or.inr (Or.inr (Or.inr (Or.inl ⟨rfl, rfl, (gk_wm 667 (by decide +kernel)), (gk_wm 668 (by decide +kernel)), gk_wm 1049 (by decide +kernel), by decide, rfl⟩)))⟩), (fun _ h => absurd h List.not_mem_nil)⟩)⟩)⟩)
theorem sp_X10_focusOnVehicle : ∀ q ∈ L_X10_focusOnVehicle, gk_Sq RX10 gk_W1 7 q := (List.forall_mem_cons.mpr ⟨⟨fun h => absurd h (by decide), fun h => absurd h (by decide), fun h => absurd h (by decide), fun h => absurd h (by decide), fun h => absurd h (by decide), fun h => absurd h (by decide)⟩, (List.forall_mem_cons.mpr ⟨⟨fun h => absurd h (by decide), fun h => absurd h (by decide), fun h => absurd h (by decide), fun h => absurd h (by decide), fun h => absurd h (by decide), fun h => absurd h (by decide)⟩, (List.forall_mem_cons.mpr ⟨⟨fun h => absurd h (by decide), fun h => absurd h (by decide), fun h => absurd h (by decide), fun h => absurd h (by decide), fun h => absurd h (by decide), fun h => absurd h (by decide)⟩, (fun _ h => absurd h List.not_mem_nil)⟩)⟩)⟩)
theorem M_X10_focusOnVehicle {l : Launch} (hl : l.stackTraces = false) : gk_Mt l yX10_focusOnVehicle (.code yX10_focusOnVehicle cX10_focusOnVehicle 4 none :: gk_W1) 7 3 S_X10_focusOnVehicle := gk_meth hl gk_cw_ok (by decide +kernel) rfl m_X10_focusOnVehicle pX10_ok (gk_Sp_of sp_X10_focusOnVehicle) pX10_st (fun ci m S h => absurd h (by intro h; cases h)) (xf_X10 (by decide)) (fun idx kd ci mm cost S2 h h5 => lk_X10_focusOnVehicle hl _ (gk_lk_mem h) h5)

def S_X10_focusOnPlace : gk_S := fun as n fl x y K => ∃ (a : Int32) (b : Int32) (e : Int32) (g : Nat → Int32), as = [.ref 0, .int a, .int b, .int e] ∧ (n = 202 ∧ fl = gk_fT) ∧ (RS 1 g x y) ∧ (gOK g) ∧ ((((-20000 ≤ a ∧ a ≤ 20000) ∧ (-50 ≤ (0 : Int32) ∧ (0 : Int32) ≤ 50) ∧ (100 ≤ b ∧ b ≤ 5000)) ∧ (0 ≤ e ∧ e ≤ 500)) → ∀ (x2 : gk_X) (y2 : gk_Y), COk (gFO g 1 0 a b e) x x2 y y2 → K (.inl none) n fl x2 y2) ∧ (¬ (((-20000 ≤ a ∧ a ≤ 20000) ∧ (-50 ≤ (0 : Int32) ∧ (0 : Int32) ≤ 50) ∧ (100 ≤ b ∧ b ≤ 5000)) ∧ (0 ≤ e ∧ e ≤ 500)) → ∀ (x2 : gk_X) (y2 : gk_Y), COk g x x2 y y2 → K (.inr 0) n fl x2 y2)
theorem r_X10_focusOnPlace (w : gk_W c P cs (fun _ _ => none) rt uf sc K V) {idx : Nat} {a : Int32} {b : Int32} {e : Int32} {g : Nat → Int32} (hd : decode c pc = .ok (.invokevirtual idx, 3)) (hp : pc + 3 = pc2) (hc : cs idx = some (1, 9, 4, 3, S_X10_focusOnPlace)) (h8 : Nat.ble (r.map Value.category).sum 8 = true) (hu : u + 3 ≤ uf) (hp0 : RS 1 g x y) (hp1 : gOK g) (kk0 : (((-20000 ≤ a ∧ a ≤ 20000) ∧ (-50 ≤ (0 : Int32) ∧ (0 : Int32) ≤ 50) ∧ (100 ≤ b ∧ b ≤ 5000)) ∧ (0 ≤ e ∧ e ≤ 500)) → ∀ (x2 : gk_X) (y2 : gk_Y), COk (gFO g 1 0 a b e) x x2 y y2 → V pc2 L r 202 gk_fT x2 y2 (u + 3)) (kk1 : ¬ (((-20000 ≤ a ∧ a ≤ 20000) ∧ (-50 ≤ (0 : Int32) ∧ (0 : Int32) ≤ 50) ∧ (100 ≤ b ∧ b ≤ 5000)) ∧ (0 ≤ e ∧ e ≤ 500)) → ∀ (x2 : gk_X) (y2 : gk_Y), COk g x x2 y y2 → K (.inr 0) 202 gk_fT x2 y2) : V pc L (.int e :: .int b :: .int a :: .ref 0 :: r) 202 gk_fT x y u :=
  g_callv w hd hp hc (as := [.ref 0, .int a, .int b, .int e]) rfl h8 rfl rfl rfl (Or.inr (Or.inl ⟨Or.inl rfl, _, _, rfl, (gk_kd_j rfl rfl), rfl⟩)) (Or.inr hu) ⟨a, b, e, g, rfl, ⟨rfl, rfl⟩, hp0, hp1, kk0, kk1⟩
def L_X10_focusOnPlace : List (Nat × gk_M0) := [(55, (0, 9, 3, 1, S_X10_requireRange)), (216, (1, 3, 5, 0, S_X3_put))]
def cs_X10_focusOnPlace : Nat → Option gk_M0 := gk_lk L_X10_focusOnPlace
theorem m_X10_focusOnPlace : ∀ (as : List Value) (n : Nat) (fl : gk_F) (x : gk_X) (y : gk_Y) (K : gk_K), S_X10_focusOnPlace as n fl x y K → (gk_L0 as).length ≤ 4 ∧ ∀ V : gk_V, gk_W cX10_focusOnPlace pX10 cs_X10_focusOnPlace (fun _ _ => none) none 3 none K V → V 0 (gk_en as 4) [] n fl x y 0 := by
  intro as n fl x y K hS
  obtain ⟨a, b, e, g, rfl, ⟨rfl, rfl⟩, hp0, hp1, q0, q1⟩ := hS
  refine ⟨Nat.le_of_ble_eq_true rfl, fun V w => ?_⟩
  show V 0 [some (.ref 0), some (.int a), some (.int b), some (.int e)] [] 202 gk_fT x y 0
  obtain ⟨nv4, ns6, nm8, z6, z7, z8⟩ := wf_n hp1.1
  have f0 := COk.ini hp0
  refine s_iload_n (pc2 := 1) w dX10_focusOnPlace_0 rfl rfl ?_
  refine s_sipush (pc2 := 4) (v := (-20000)) w dX10_focusOnPlace_1 rfl rfl ?_
  refine s_sipush (pc2 := 7) (v := 20000) w dX10_focusOnPlace_4 rfl rfl ?_
  refine r_X10_requireRange (pc2 := 10) w dX10_focusOnPlace_7 rfl rfl rfl (Nat.le_of_ble_eq_true rfl) (fun h7 => ?_) (fun h => q1  (fun hc => h hc.1.1) _ _ f0)
  refine s_iload_n (pc2 := 11) w dX10_focusOnPlace_10 rfl rfl ?_
  refine s_bipush (pc2 := 13) (v := 100) w dX10_focusOnPlace_11 rfl rfl ?_
  refine s_sipush (pc2 := 16) (v := 5000) w dX10_focusOnPlace_13 rfl rfl ?_
  refine r_X10_requireRange (pc2 := 19) w dX10_focusOnPlace_16 rfl rfl rfl (Nat.le_of_ble_eq_true rfl) (fun h16 => ?_) (fun h => q1  (fun hc => h hc.1.2.2) _ _ f0)
  refine s_iload_n (pc2 := 20) w dX10_focusOnPlace_19 rfl rfl ?_
  refine s_iconst (pc2 := 21) (v := 0) w dX10_focusOnPlace_20 rfl rfl ?_
  refine s_sipush (pc2 := 24) (v := 500) w dX10_focusOnPlace_21 rfl rfl ?_
  refine r_X10_requireRange (pc2 := 27) w dX10_focusOnPlace_24 rfl rfl rfl (Nat.le_of_ble_eq_true rfl) (fun h24 => ?_) (fun h => q1  (fun hc => h hc.2) _ _ f0)
  refine s_aload_n (pc2 := 28) w dX10_focusOnPlace_27 rfl rfl ?_
  refine m_getR (pc2 := 31) (ci := 9) (k := 0) (j2 := 1) w dX10_focusOnPlace_28 rfl rfl rfl rfl rfl rfl ?_
  refine m_getR (pc2 := 34) (ci := 4) (k := 3) (j2 := 5) w dX10_focusOnPlace_31 rfl rfl rfl rfl rfl rfl ?_
  refine s_iload_n (pc2 := 35) w dX10_focusOnPlace_34 rfl rfl ?_
  refine s_iconst (pc2 := 36) (v := 0) w dX10_focusOnPlace_35 rfl rfl ?_
  refine s_iload_n (pc2 := 37) w dX10_focusOnPlace_36 rfl rfl ?_
  refine s_iload_n (pc2 := 38) w dX10_focusOnPlace_37 rfl rfl ?_
  refine r_X3_put (pc2 := 41) w dX10_focusOnPlace_38 rfl rfl rfl rfl ?_
  refine s_aload_n (pc2 := 42) w dX10_focusOnPlace_41 rfl rfl ?_
  refine m_getR (pc2 := 45) (ci := 9) (k := 0) (j2 := 1) w dX10_focusOnPlace_42 rfl rfl rfl rfl rfl rfl ?_
  refine s_iconst (pc2 := 46) (v := 0) w dX10_focusOnPlace_45 rfl rfl ?_
  refine m_putI (pc2 := 49) (ci := 4) (k := 13) w dX10_focusOnPlace_46 rfl rfl rfl rfl rfl (fun _ => Or.inl rfl) ?_
  refine s_return w dX10_focusOnPlace_49 rfl ?_
  obtain ⟨⟨e10, e11, e12, e13, e14⟩, eo⟩ := fo_e g 1 0 a b e
  refine q0 ⟨⟨h7, by decide, h16⟩, h24⟩ _ _ ⟨RS_FO hp1.1 hp0 eo (fun i k h1 h2 => (gk_up_ne (by omega)).trans ((gk_up_ne (by omega)).trans ((gk_up_ne (by omega)).trans ((gk_up_ne (by omega)).trans (gk_up_ne (by omega)))))) ((gk_up_in _ _ _ _).trans (if_neg (fun h => by rw [e10] at h; exact absurd h (by decide))).symm) (fun h => by rw [e10] at h; exact absurd h (by decide)) ⟨fun h => by rw [e10] at h; exact absurd h (by decide), fun _ => ?_⟩, fun i k h => (gk_up_ne (by omega)).trans ((gk_up_ne (by omega)).trans ((gk_up_ne (by omega)).trans ((gk_up_ne (by omega)).trans (gk_up_ne (by omega))))), fun _ _ _ => rfl⟩
  rw [e12, e13, e14]
  exact ⟨(gk_up_ne (by omega)).trans ((gk_up_ne (by omega)).trans ((gk_up_ne (by omega)).trans ((gk_up_ne (by omega)).trans (gk_up_in _ _ _ _)))), (gk_up_ne (by omega)).trans ((gk_up_ne (by omega)).trans ((gk_up_ne (by omega)).trans (gk_up_in _ _ _ _))), (gk_up_ne (by omega)).trans ((gk_up_ne (by omega)).trans (gk_up_in _ _ _ _)), (gk_up_ne (by omega)).trans (gk_up_in _ _ _ _)⟩
theorem lk_X10_focusOnPlace {l : Launch} (hl : l.stackTraces = false) : ∀ q ∈ L_X10_focusOnPlace, (q.2.1 < 5 → gk_Lk l RX10 gk_W1 7 q.1 q.2.1 q.2.2.1 q.2.2.2.1 q.2.2.2.2.1 q.2.2.2.2.2) := (List.forall_mem_cons.mpr ⟨(fun _ => ⟨yX10_requireRange, cX10_requireRange, 3, none, 6, _, M_X10_requireRange hl, ⟨by decide, by decide⟩, ⟨by decide, by decide, by decide +kernel⟩, ⟨(gk_wm 733 (by decide +kernel)), (gk_wm 89 (by decide +kernel))⟩, Or.inl ⟨rfl, rfl, (gk_wm 732 (by decide +kernel)), gk_wm 731 (by decide +kernel)⟩⟩), (List.forall_mem_cons.mpr ⟨(fun _ => ⟨yX3_put, cX3_put, 5, none, 0, _, M_X3_put hl, ⟨by decide, by decide⟩, ⟨by decide, by decide, by decide +kernel⟩, ⟨(gk_wm 223 (by decide +kernel)), (gk_wm 91 (by decide +kernel))⟩, Or.inr (Or.inr (Or.inr (Or.inl ⟨rfl, rfl, (gk_wm 221 (by decide +kernel)), (gk_wm 222 (by decide +kernel)), gk_wm 1057 (by decide +kernel), by decide, rfl⟩)))⟩), (fun _ h => absurd h List.not_mem_nil)⟩)⟩)
theorem sp_X10_focusOnPlace : ∀ q ∈ L_X10_focusOnPlace, gk_Sq RX10 gk_W1 7 q := (List.forall_mem_cons.mpr ⟨⟨fun h => absurd h (by decide), fun h => absurd h (by decide), fun h => absurd h (by decide), fun h => absurd h (by decide), fun h => absurd h (by decide), fun h => absurd h (by decide)⟩, (List.forall_mem_cons.mpr ⟨⟨fun h => absurd h (by decide), fun h => absurd h (by decide), fun h => absurd h (by decide), fun h => absurd h (by decide), fun h => absurd h (by decide), fun h => absurd h (by decide)⟩, (fun _ h => absurd h List.not_mem_nil)⟩)⟩)
theorem M_X10_focusOnPlace {l : Launch} (hl : l.stackTraces = false) : gk_Mt l yX10_focusOnPlace (.code yX10_focusOnPlace cX10_focusOnPlace 4 none :: gk_W1) 7 3 S_X10_focusOnPlace := gk_meth hl gk_cw_ok (by decide +kernel) rfl m_X10_focusOnPlace pX10_ok (gk_Sp_of sp_X10_focusOnPlace) pX10_st (fun ci m S h => absurd h (by intro h; cases h)) (xf_X10 (by decide)) (fun idx kd ci mm cost S2 h h5 => lk_X10_focusOnPlace hl _ (gk_lk_mem h) h5)

def S_X10_focusOnDirection : gk_S := fun as n fl x y K => ∃ (a : Int32) (g : Nat → Int32), as = [.ref 0, .int a] ∧ (n = 202 ∧ fl = gk_fT) ∧ (RS 1 g x y) ∧ (gOK g) ∧ ((-100 ≤ a ∧ a ≤ 100) → ∀ (x2 : gk_X) (y2 : gk_Y), COk (gFO g 2 0 a 0 0) x x2 y y2 → K (.inl none) n fl x2 y2) ∧ (¬ (-100 ≤ a ∧ a ≤ 100) → ∀ (x2 : gk_X) (y2 : gk_Y), COk g x x2 y y2 → K (.inr 0) n fl x2 y2)
theorem r_X10_focusOnDirection (w : gk_W c P cs (fun _ _ => none) rt uf sc K V) {idx : Nat} {a : Int32} {g : Nat → Int32} (hd : decode c pc = .ok (.invokevirtual idx, 3)) (hp : pc + 3 = pc2) (hc : cs idx = some (1, 9, 2, 1, S_X10_focusOnDirection)) (h8 : Nat.ble (r.map Value.category).sum 8 = true) (hu : u + 1 ≤ uf) (hp0 : RS 1 g x y) (hp1 : gOK g) (kk0 : (-100 ≤ a ∧ a ≤ 100) → ∀ (x2 : gk_X) (y2 : gk_Y), COk (gFO g 2 0 a 0 0) x x2 y y2 → V pc2 L r 202 gk_fT x2 y2 (u + 1)) (kk1 : ¬ (-100 ≤ a ∧ a ≤ 100) → ∀ (x2 : gk_X) (y2 : gk_Y), COk g x x2 y y2 → K (.inr 0) 202 gk_fT x2 y2) : V pc L (.int a :: .ref 0 :: r) 202 gk_fT x y u :=
  g_callv w hd hp hc (as := [.ref 0, .int a]) rfl h8 rfl rfl rfl (Or.inr (Or.inl ⟨Or.inl rfl, _, _, rfl, (gk_kd_j rfl rfl), rfl⟩)) (Or.inr hu) ⟨a, g, rfl, ⟨rfl, rfl⟩, hp0, hp1, kk0, kk1⟩
def L_X10_focusOnDirection : List (Nat × gk_M0) := [(55, (0, 9, 3, 1, S_X10_requireRange))]
def cs_X10_focusOnDirection : Nat → Option gk_M0 := gk_lk L_X10_focusOnDirection
theorem m_X10_focusOnDirection : ∀ (as : List Value) (n : Nat) (fl : gk_F) (x : gk_X) (y : gk_Y) (K : gk_K), S_X10_focusOnDirection as n fl x y K → (gk_L0 as).length ≤ 2 ∧ ∀ V : gk_V, gk_W cX10_focusOnDirection pX10 cs_X10_focusOnDirection (fun _ _ => none) none 1 none K V → V 0 (gk_en as 2) [] n fl x y 0 := by
  intro as n fl x y K hS
  obtain ⟨a, g, rfl, ⟨rfl, rfl⟩, hp0, hp1, q0, q1⟩ := hS
  refine ⟨Nat.le_of_ble_eq_true rfl, fun V w => ?_⟩
  show V 0 [some (.ref 0), some (.int a)] [] 202 gk_fT x y 0
  obtain ⟨nv4, ns6, nm8, z6, z7, z8⟩ := wf_n hp1.1
  have f0 := COk.ini hp0
  refine s_iload_n (pc2 := 1) w dX10_focusOnDirection_0 rfl rfl ?_
  refine s_bipush (pc2 := 3) (v := (-100)) w dX10_focusOnDirection_1 rfl rfl ?_
  refine s_bipush (pc2 := 5) (v := 100) w dX10_focusOnDirection_3 rfl rfl ?_
  refine r_X10_requireRange (pc2 := 8) w dX10_focusOnDirection_5 rfl rfl rfl (Nat.le_of_ble_eq_true rfl) (fun h5 => ?_) (fun h => q1  (fun hc => h hc) _ _ f0)
  refine s_aload_n (pc2 := 9) w dX10_focusOnDirection_8 rfl rfl ?_
  refine m_getR (pc2 := 12) (ci := 9) (k := 0) (j2 := 1) w dX10_focusOnDirection_9 rfl rfl rfl rfl rfl rfl ?_
  refine s_iload_n (pc2 := 13) w dX10_focusOnDirection_12 rfl rfl ?_
  refine m_putI (pc2 := 16) (ci := 4) (k := 14) w dX10_focusOnDirection_13 rfl rfl rfl rfl rfl (by intro h; cases h) ?_
  refine s_aload_n (pc2 := 17) w dX10_focusOnDirection_16 rfl rfl ?_
  refine m_getR (pc2 := 20) (ci := 9) (k := 0) (j2 := 1) w dX10_focusOnDirection_17 rfl rfl rfl rfl rfl rfl ?_
  refine s_iconst (pc2 := 21) (v := 1) w dX10_focusOnDirection_20 rfl rfl ?_
  refine m_putI (pc2 := 24) (ci := 4) (k := 13) w dX10_focusOnDirection_21 rfl rfl rfl rfl rfl (fun _ => Or.inr rfl) ?_
  refine s_return w dX10_focusOnDirection_24 rfl ?_
  obtain ⟨⟨e10, e11, e12, e13, e14⟩, eo⟩ := fo_e g 2 0 a 0 0
  refine q0 h5 _ _ ⟨RS_FO hp1.1 hp0 eo (fun i k h1 h2 => (gk_up_ne (by omega)).trans (gk_up_ne (by omega))) ((gk_up_in _ _ _ _).trans (if_pos e10).symm) (fun h => ((gk_up_ne (by omega)).trans (gk_up_in _ _ _ _)).trans e12.symm) ⟨fun h => by rw [e10] at h; exact absurd h (by decide), fun h => by rw [e10] at h; exact absurd h (by decide)⟩, fun i k h => (gk_up_ne (by omega)).trans (gk_up_ne (by omega)), fun _ _ _ => rfl⟩
theorem lk_X10_focusOnDirection {l : Launch} (hl : l.stackTraces = false) : ∀ q ∈ L_X10_focusOnDirection, (q.2.1 < 5 → gk_Lk l RX10 gk_W1 7 q.1 q.2.1 q.2.2.1 q.2.2.2.1 q.2.2.2.2.1 q.2.2.2.2.2) := (List.forall_mem_cons.mpr ⟨(fun _ => ⟨yX10_requireRange, cX10_requireRange, 3, none, 6, _, M_X10_requireRange hl, ⟨by decide, by decide⟩, ⟨by decide, by decide, by decide +kernel⟩, ⟨(gk_wm 733 (by decide +kernel)), (gk_wm 89 (by decide +kernel))⟩, Or.inl ⟨rfl, rfl, (gk_wm 732 (by decide +kernel)), gk_wm 731 (by decide +kernel)⟩⟩), (fun _ h => absurd h List.not_mem_nil)⟩)
theorem sp_X10_focusOnDirection : ∀ q ∈ L_X10_focusOnDirection, gk_Sq RX10 gk_W1 7 q := (List.forall_mem_cons.mpr ⟨⟨fun h => absurd h (by decide), fun h => absurd h (by decide), fun h => absurd h (by decide), fun h => absurd h (by decide), fun h => absurd h (by decide), fun h => absurd h (by decide)⟩, (fun _ h => absurd h List.not_mem_nil)⟩)
theorem M_X10_focusOnDirection {l : Launch} (hl : l.stackTraces = false) : gk_Mt l yX10_focusOnDirection (.code yX10_focusOnDirection cX10_focusOnDirection 2 none :: gk_W1) 7 1 S_X10_focusOnDirection := gk_meth hl gk_cw_ok (by decide +kernel) rfl m_X10_focusOnDirection pX10_ok (gk_Sp_of sp_X10_focusOnDirection) pX10_st (fun ci m S h => absurd h (by intro h; cases h)) (xf_X10 (by decide)) (fun idx kd ci mm cost S2 h h5 => lk_X10_focusOnDirection hl _ (gk_lk_mem h) h5)

def S_X10_makeRecording : gk_S := fun as n fl x y K => ∃ (g : Nat → Int32), as = [.ref 0] ∧ (n = 202 ∧ fl = gk_fT) ∧ (RS 1 g x y) ∧ (gOK g) ∧ (∀ (x2 : gk_X) (y2 : gk_Y), COk (gRec g) x x2 y y2 → K (.inl (some (.int (g 9 + 1)))) n fl x2 y2)
theorem r_X10_makeRecording (w : gk_W c P cs (fun _ _ => none) rt uf sc K V) {idx : Nat} {g : Nat → Int32} (hd : decode c pc = .ok (.invokevirtual idx, 3)) (hp : pc + 3 = pc2) (hc : cs idx = some (1, 9, 1, 0, S_X10_makeRecording)) (h8 : Nat.ble (r.map Value.category).sum 8 = true) (hp0 : RS 1 g x y) (hp1 : gOK g) (kk0 : ∀ (x2 : gk_X) (y2 : gk_Y), COk (gRec g) x x2 y y2 → V pc2 L ((.int (g 9 + 1)) :: r) 202 gk_fT x2 y2 u) : V pc L (.ref 0 :: r) 202 gk_fT x y u :=
  g_callv w hd hp hc (as := [.ref 0]) rfl h8 rfl rfl rfl (Or.inr (Or.inl ⟨Or.inl rfl, _, _, rfl, (gk_kd_j rfl rfl), rfl⟩)) (Or.inl rfl) ⟨g, rfl, ⟨rfl, rfl⟩, hp0, hp1, kk0⟩
def L_X10_makeRecording : List (Nat × gk_M0) := [(167, (1, 4, 2, 0, S_X4_recordAll))]
def cs_X10_makeRecording : Nat → Option gk_M0 := gk_lk L_X10_makeRecording
theorem m_X10_makeRecording : ∀ (as : List Value) (n : Nat) (fl : gk_F) (x : gk_X) (y : gk_Y) (K : gk_K), S_X10_makeRecording as n fl x y K → (gk_L0 as).length ≤ 1 ∧ ∀ V : gk_V, gk_W cX10_makeRecording pX10q cs_X10_makeRecording (fun _ _ => none) (some .int) 0 none K V → V 0 (gk_en as 1) [] n fl x y 0 := by
  intro as n fl x y K hS
  obtain ⟨g, rfl, ⟨rfl, rfl⟩, hp0, hp1, q0⟩ := hS
  refine ⟨Nat.le_of_ble_eq_true rfl, fun V w => ?_⟩
  show V 0 [some (.ref 0)] [] 202 gk_fT x y 0
  obtain ⟨nv4, ns6, nm8, z6, z7, z8⟩ := wf_n hp1.1
  have f0 := COk.ini hp0
  refine s_aload_n (pc2 := 1) w dX10_makeRecording_0 rfl rfl ?_
  refine m_getR (pc2 := 4) (ci := 9) (k := 0) (j2 := 1) w dX10_makeRecording_1 rfl rfl rfl rfl rfl rfl ?_
  refine s_aload_n (pc2 := 5) w dX10_makeRecording_4 rfl rfl ?_
  refine m_getR (pc2 := 8) (ci := 9) (k := 4) (j2 := 89) w dX10_makeRecording_5 rfl rfl rfl rfl rfl rfl ?_
  refine r_X4_recordAll (pc2 := 11) w dX10_makeRecording_8 rfl rfl rfl hp1.1 hp0.1 hp0.2.1 hp0.2.2.2.1 hp0.2.2.2.2.1 (fun y1 hy1 => ?_)
  refine s_aload_n (pc2 := 12) w dX10_makeRecording_11 rfl rfl ?_
  refine m_getR (pc2 := 15) (ci := 9) (k := 0) (j2 := 1) w dX10_makeRecording_12 rfl rfl rfl rfl rfl rfl ?_
  refine m_getI (pc2 := 18) (ci := 4) (k := 12) w dX10_makeRecording_15 rfl rfl rfl rfl rfl ?_
  rw [show gk_up (gk_cr x g (nM g)) 1 12 (x 1 12 + 1) 1 12 = g 9 + 1 from (gk_up_in _ _ _ _).trans (by rw [hp0.1.2.2.2.2.2.1])]
  refine s_ireturn w dX10_makeRecording_18 rfl rfl ?_
  refine q0 _ _ ⟨RS_Rec hp1.1 hp0 ((gk_up_in _ _ _ _).trans (by rw [hp0.1.2.2.2.2.2.1])) (fun m k h1 h2 => (gk_up_ne (by omega)).trans ((if_pos (by omega)).trans ?_)) (fun i k h1 h2 => (gk_up_ne h2).trans (if_neg (by omega))) ((hy1 1 10 (by decide)).trans (gk_uy_in _ _ _ _)), fun i k h => (gk_up_ne (by omega)).trans (if_neg (by omega)), fun i k h => (hy1 i k (by omega)).trans (if_neg (by omega))⟩
  rw [show (2 * m + (1 + 28) - 29) / 2 = m by omega]
theorem lk_X10_makeRecording {l : Launch} (hl : l.stackTraces = false) : ∀ q ∈ L_X10_makeRecording, (q.2.1 < 5 → gk_Lk l RX10 gk_W1 5 q.1 q.2.1 q.2.2.1 q.2.2.2.1 q.2.2.2.2.1 q.2.2.2.2.2) := (List.forall_mem_cons.mpr ⟨(fun _ => ⟨yX4_recordAll, cX4_recordAll, 5, none, 4, _, M_X4_recordAll hl, ⟨by decide, by decide⟩, ⟨by decide, by decide, by decide +kernel⟩, ⟨(gk_wm 442 (by decide +kernel)), (gk_wm 90 (by decide +kernel))⟩, Or.inr (Or.inr (Or.inr (Or.inl ⟨rfl, rfl, (gk_wm 440 (by decide +kernel)), (gk_wm 441 (by decide +kernel)), gk_wm 439 (by decide +kernel), by decide, rfl⟩)))⟩), (fun _ h => absurd h List.not_mem_nil)⟩)
theorem sp_X10_makeRecording : ∀ q ∈ L_X10_makeRecording, gk_Sq RX10 gk_W1 5 q := (List.forall_mem_cons.mpr ⟨⟨fun h => absurd h (by decide), fun h => absurd h (by decide), fun h => absurd h (by decide), fun h => absurd h (by decide), fun h => absurd h (by decide), fun h => absurd h (by decide)⟩, (fun _ h => absurd h List.not_mem_nil)⟩)
theorem M_X10_makeRecording {l : Launch} (hl : l.stackTraces = false) : gk_Mt l yX10_makeRecording (.code yX10_makeRecording cX10_makeRecording 1 (some .int) :: gk_W1) 5 0 S_X10_makeRecording := gk_meth hl gk_cw_ok (by decide +kernel) rfl m_X10_makeRecording pX10q_ok (gk_Sp_of sp_X10_makeRecording) pX10q_st (fun ci m S h => absurd h (by intro h; cases h)) (xf_X10q 5) (fun idx kd ci mm cost S2 h h5 => lk_X10_makeRecording hl _ (gk_lk_mem h) h5)

def S_X10_count : gk_S := fun as n fl x y K => ∃ (v : Int32) (g : Nat → Int32), as = [.ref 0, .int v] ∧ (n = 202 ∧ fl = gk_fT) ∧ (RS 1 g x y) ∧ (gOK g) ∧ ((0 ≤ v ∧ v ≤ 3) → ∀ (x2 : gk_X) (y2 : gk_Y), COk g x x2 y y2 → K (.inl (some (.int (g (6 + cN v))))) n fl x2 y2) ∧ (¬ (0 ≤ v ∧ v ≤ 3) → ∀ (x2 : gk_X) (y2 : gk_Y), COk g x x2 y y2 → K (.inr 0) n fl x2 y2)
theorem r_X10_count (w : gk_W c P cs (fun _ _ => none) rt uf sc K V) {idx : Nat} {v : Int32} {g : Nat → Int32} (hd : decode c pc = .ok (.invokevirtual idx, 3)) (hp : pc + 3 = pc2) (hc : cs idx = some (1, 9, 2, 1, S_X10_count)) (h8 : Nat.ble (r.map Value.category).sum 8 = true) (hu : u + 1 ≤ uf) (hp0 : RS 1 g x y) (hp1 : gOK g) (kk0 : (0 ≤ v ∧ v ≤ 3) → ∀ (x2 : gk_X) (y2 : gk_Y), COk g x x2 y y2 → V pc2 L ((.int (g (6 + cN v))) :: r) 202 gk_fT x2 y2 (u + 1)) (kk1 : ¬ (0 ≤ v ∧ v ≤ 3) → ∀ (x2 : gk_X) (y2 : gk_Y), COk g x x2 y y2 → K (.inr 0) 202 gk_fT x2 y2) : V pc L (.int v :: .ref 0 :: r) 202 gk_fT x y u :=
  g_callv w hd hp hc (as := [.ref 0, .int v]) rfl h8 rfl rfl rfl (Or.inr (Or.inl ⟨Or.inl rfl, _, _, rfl, (gk_kd_j rfl rfl), rfl⟩)) (Or.inr hu) ⟨v, g, rfl, ⟨rfl, rfl⟩, hp0, hp1, kk0, kk1⟩
def L_X10_count : List (Nat × gk_M0) := []
def cs_X10_count : Nat → Option gk_M0 := gk_lk L_X10_count
theorem m_X10_count : ∀ (as : List Value) (n : Nat) (fl : gk_F) (x : gk_X) (y : gk_Y) (K : gk_K), S_X10_count as n fl x y K → (gk_L0 as).length ≤ 2 ∧ ∀ V : gk_V, gk_W cX10_count pX10 cs_X10_count (fun _ _ => none) (some .int) 1 none K V → V 0 (gk_en as 2) [] n fl x y 0 := by
  intro as n fl x y K hS
  obtain ⟨v, g, rfl, ⟨rfl, rfl⟩, hp0, hp1, q0, q1⟩ := hS
  refine ⟨Nat.le_of_ble_eq_true rfl, fun V w => ?_⟩
  show V 0 [some (.ref 0), some (.int v)] [] 202 gk_fT x y 0
  have f0 := COk.ini hp0
  refine s_iload_n (pc2 := 1) w dX10_count_0 rfl rfl ?_
  by_cases hc : 0 ≤ v ∧ v ≤ 3
  · obtain ⟨k, rfl, kh⟩ := ix_b (b := 3) (by decide) hc
    rw [cN_n k (by omega)] at q0
    obtain h9 | h9 | h9 | h9 : k = 0 ∨ k = 1 ∨ k = 2 ∨ k = 3 := by omega
    · subst h9
      refine s_tabIn (tgt := 32) w dX10_count_1 (by decide) (by decide) rfl (by decide) ?_
      refine s_aload_n (pc2 := 33) w dX10_count_32 rfl rfl ?_
      refine m_getR (pc2 := 36) (ci := 9) (k := 0) (j2 := 1) w dX10_count_33 rfl rfl rfl rfl rfl rfl ?_
      refine m_getI (pc2 := 39) (ci := 4) (k := 4) w dX10_count_36 rfl rfl rfl rfl rfl ?_
      rw [show x 1 4 = g (6 + 0) from hp0.1.1.1]
      refine s_ireturn w dX10_count_39 rfl rfl ?_
      exact q0 hc _ _ f0
    · subst h9
      refine s_tabIn (tgt := 40) w dX10_count_1 (by decide) (by decide) rfl (by decide) ?_
      refine s_aload_n (pc2 := 41) w dX10_count_40 rfl rfl ?_
      refine m_getR (pc2 := 44) (ci := 9) (k := 0) (j2 := 1) w dX10_count_41 rfl rfl rfl rfl rfl rfl ?_
      refine m_getI (pc2 := 47) (ci := 4) (k := 5) w dX10_count_44 rfl rfl rfl rfl rfl ?_
      rw [show x 1 5 = g (6 + 1) from hp0.1.1.2.1]
      refine s_ireturn w dX10_count_47 rfl rfl ?_
      exact q0 hc _ _ f0
    · subst h9
      refine s_tabIn (tgt := 48) w dX10_count_1 (by decide) (by decide) rfl (by decide) ?_
      refine s_aload_n (pc2 := 49) w dX10_count_48 rfl rfl ?_
      refine m_getR (pc2 := 52) (ci := 9) (k := 0) (j2 := 1) w dX10_count_49 rfl rfl rfl rfl rfl rfl ?_
      refine m_getI (pc2 := 55) (ci := 4) (k := 6) w dX10_count_52 rfl rfl rfl rfl rfl ?_
      rw [show x 1 6 = g (6 + 2) from hp0.1.1.2.2]
      refine s_ireturn w dX10_count_55 rfl rfl ?_
      exact q0 hc _ _ f0
    · subst h9
      refine s_tabIn (tgt := 56) w dX10_count_1 (by decide) (by decide) rfl (by decide) ?_
      refine s_aload_n (pc2 := 57) w dX10_count_56 rfl rfl ?_
      refine m_getR (pc2 := 60) (ci := 9) (k := 0) (j2 := 1) w dX10_count_57 rfl rfl rfl rfl rfl rfl ?_
      refine m_getI (pc2 := 63) (ci := 4) (k := 12) w dX10_count_60 rfl rfl rfl rfl rfl ?_
      rw [show x 1 12 = g (6 + 3) from hp0.1.2.2.2.2.2.1]
      refine s_ireturn w dX10_count_63 rfl rfl ?_
      exact q0 hc _ _ f0
  · refine s_tabOut (tgt := 64) w dX10_count_1 ?_ (by decide) ?_
    · obtain ⟨z, rfl, hz⟩ := gI_ex v
      rw [show (0 : Int32) = gI 0 from rfl, show (3 : Int32) = gI 3 from rfl, gI_le ⟨by omega, by omega⟩ hz, gI_le hz ⟨by omega, by omega⟩] at hc
      rw [gI_of hz]
      omega
    · refine g_throw (ek := 0) w dX10_count_64 rfl dX10_count_67 dX10_count_68 rfl dX10_count_70 rfl dX10_count_73 rfl (Nat.le_of_ble_eq_true rfl) ?_
      exact q1 hc _ _ f0
theorem lk_X10_count {l : Launch} (hl : l.stackTraces = false) : ∀ q ∈ L_X10_count, (q.2.1 < 5 → gk_Lk l RX10 gk_W1 6 q.1 q.2.1 q.2.2.1 q.2.2.2.1 q.2.2.2.2.1 q.2.2.2.2.2) := (fun _ h => absurd h List.not_mem_nil)
theorem sp_X10_count : ∀ q ∈ L_X10_count, gk_Sq RX10 gk_W1 6 q := (fun _ h => absurd h List.not_mem_nil)
theorem M_X10_count {l : Launch} (hl : l.stackTraces = false) : gk_Mt l yX10_count (.code yX10_count cX10_count 2 (some .int) :: gk_W1) 6 1 S_X10_count := gk_meth hl gk_cw_ok (by decide +kernel) rfl m_X10_count pX10_ok (gk_Sp_of sp_X10_count) pX10_st (fun ci m S h => absurd h (by intro h; cases h)) (xf_X10 (by decide)) (fun idx kd ci mm cost S2 h h5 => lk_X10_count hl _ (gk_lk_mem h) h5)

end GKV

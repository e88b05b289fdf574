/-! THE METHODS, 34: the class, what changes its scene -/
section GKV
variable {c : ByteArray} {P : gk_C} {cs : Nat → Option gk_M0} {rt : Option FieldType} {uf : Nat} {sc : Option Nat} {K : gk_K} {V : gk_V}
variable {L : List (Option Value)} {r : List Value} {n : Nat} {fl : gk_F} {x : gk_X} {y : gk_Y} {u pc pc2 : Nat}
theorem RS_FO {b : Nat} {g G : Nat → Int32} {x x2 : gk_X} {y : gk_Y} (hw : gWf g) (h : RS b g x y) (hg : ∀ k, ¬ (10 ≤ k ∧ k ≤ 14) → G k = g k) (hx : ∀ i k, i ≠ b + 4 → ¬ (i = b ∧ (k = 13 ∨ k = 14)) → x2 i k = x i k) (h13 : x2 b 13 = if G 10 = 2 then 1 else 0) (h14 : G 10 = 2 → x2 b 14 = G 12) (hf : rsf b G x2) : RS b G x2 y := by
  obtain ⟨k0, k2, k3, k4, k5, k6, k7⟩ := h
  obtain ⟨nv4, ns6, nm8, -⟩ := wf_n hw
  have eV : nV G = nV g := by unfold nV; rw [zg (hg 6 (by omega))]
  have eS : nS G = nS g := by unfold nS; rw [zg (hg 7 (by omega))]
  have eM : nM G = nM g := by unfold nM; rw [zg (hg 8 (by omega))]
  have hv : ∀ v j, v < nV g → j < 3 → G (16 + 3 * v + j) = g (16 + 3 * v + j) := fun v j q1 q2 => hg _ (by omega)
  refine ⟨?_, ?_, rsv_tr k3 eV hv (fun v j hv => hx _ _ (by omega) (by omega)), fun a2 ha2 => ?_, rsm_tr k5 eM (fun m _ _ _ => hg _ (by omega)) (fun m j hm => hx _ _ (by omega) (by omega)), rsq_tr k6 eM (fun m _ _ _ => hg _ (by omega)) (fun m j hm => hx _ _ (by omega) (by omega)), hf⟩
  · obtain ⟨⟨r4, r5, r6⟩, r7, r8, r9, r11, r12, r15, -, -⟩ := k0
    have hb : ∀ k, k ≠ 13 → k ≠ 14 → x2 b k = x b k := fun k q1 q2 => hx b k (by omega) (by omega)
    refine ⟨⟨?_, ?_, ?_⟩, ?_, ?_, ?_, ?_, ?_, ?_, h13, h14⟩
    · rw [hb 4 (by decide) (by decide), hg 6 (by omega)]; exact r4
    · rw [hb 5 (by decide) (by decide), hg 7 (by omega)]; exact r5
    · rw [hb 6 (by decide) (by decide), hg 8 (by omega)]; exact r6
    · rw [hb 7 (by decide) (by decide), hg 0 (by omega)]; exact r7
    · rw [hb 8 (by decide) (by decide), hg 1 (by omega)]; exact r8
    · rw [hb 9 (by decide) (by decide), hg 4 (by omega)]; exact r9
    · rw [hb 11 (by decide) (by decide), hg 2 (by omega)]; exact r11
    · rw [hb 12 (by decide) (by decide), hg 9 (by omega)]; exact r12
    · rw [hb 15 (by decide) (by decide), hg 5 (by omega)]; exact r15
  · unfold rsr; rw [zg (hg 3 (by omega))]; exact k2
  · rw [eS] at ha2
    exact rss_1 hw ha2 k4 hv (fun j _ => hg _ (by omega)) (fun i j _ _ => hx _ _ (by omega) (by omega))
theorem kdV {b n : Nat} (hb : b = 1 ∨ b = 44) (h : n < 4) : gk_kd (n + (b + 5)) = 3 := by
  rcases hb with rfl | rfl
  · exact (by decide : ∀ v, v < 4 → gk_kd (v + (1 + 5)) = 3) n h
  · exact (by decide : ∀ v, v < 4 → gk_kd (v + (44 + 5)) = 3) n h
theorem kdS {b n : Nat} (hb : b = 1 ∨ b = 44) (h : n < 6) : gk_kd (3 * n + (b + 9)) = 6 ∧ gk_kd (3 * n + (b + 10)) = 3 ∧ gk_kd (3 * n + (b + 11)) = 20 ∧ gk_ln (3 * n + (b + 11)) = 16 := by
  rcases hb with rfl | rfl
  · exact (by decide : ∀ n, n < 6 → gk_kd (3 * n + (1 + 9)) = 6 ∧ gk_kd (3 * n + (1 + 10)) = 3 ∧ gk_kd (3 * n + (1 + 11)) = 20 ∧ gk_ln (3 * n + (1 + 11)) = 16) n h
  · exact (by decide : ∀ n, n < 6 → gk_kd (3 * n + (44 + 9)) = 6 ∧ gk_kd (3 * n + (44 + 10)) = 3 ∧ gk_kd (3 * n + (44 + 11)) = 20 ∧ gk_ln (3 * n + (44 + 11)) = 16) n h
theorem kdM {b n : Nat} (hb : b = 1 ∨ b = 44) (h : n < 8) : gk_kd (2 * n + (b + 27)) = 1 ∧ gk_kd (2 * n + (b + 28)) = 20 ∧ gk_ln (2 * n + (b + 28)) = 256 := by
  rcases hb with rfl | rfl
  · exact (by decide : ∀ n, n < 8 → gk_kd (2 * n + (1 + 27)) = 1 ∧ gk_kd (2 * n + (1 + 28)) = 20 ∧ gk_ln (2 * n + (1 + 28)) = 256) n h
  · exact (by decide : ∀ n, n < 8 → gk_kd (2 * n + (44 + 27)) = 1 ∧ gk_kd (2 * n + (44 + 28)) = 20 ∧ gk_ln (2 * n + (44 + 28)) = 256) n h
def S_X7_append : gk_S := fun as n fl x y K => ∃ (j : Nat) (v : Int32) (n0 : Nat), as = [.ref j, .int v] ∧ (n = 202 ∧ fl = gk_fT) ∧ gk_kd j = 6 ∧ (gk_kd (j + 2) = 20) ∧ (gk_ln (j + 2) = 16) ∧ (x j 2 = nI n0) ∧ (n0 ≤ 16) ∧ (n0 < 16 → K (.inl (some (.int (nI (n0 + 1))))) n fl (gk_up (gk_up x (j + 2) n0 v) j 2 (nI (n0 + 1))) y) ∧ (¬ n0 < 16 → K (.inl (some (.int (-1)))) n fl x y)
theorem r_X7_append (w : gk_W c P cs (fun _ _ => none) rt uf sc K V) {idx : Nat} {j : Nat} {v : Int32} {n0 : Nat} (hd : decode c pc = .ok (.invokevirtual idx, 3)) (hp : pc + 3 = pc2) (hc : cs idx = some (1, 6, 2, 0, S_X7_append)) (h8 : Nat.ble (r.map Value.category).sum 8 = true) (hk0 : gk_kd j = 6) (hp0 : gk_kd (j + 2) = 20) (hp1 : gk_ln (j + 2) = 16) (hp2 : x j 2 = nI n0) (hp3 : n0 ≤ 16) (kk0 : n0 < 16 → V pc2 L ((.int (nI (n0 + 1))) :: r) 202 gk_fT (gk_up (gk_up x (j + 2) n0 v) j 2 (nI (n0 + 1))) y u) (kk1 : ¬ n0 < 16 → V pc2 L ((.int (-1)) :: r) 202 gk_fT x y u) : V pc L (.int v :: .ref j :: r) 202 gk_fT x y u :=
  g_callv w hd hp hc (as := [.ref j, .int v]) rfl h8 rfl rfl rfl (Or.inr (Or.inl ⟨Or.inl rfl, _, _, rfl, (gk_kd_j hk0 rfl), hk0⟩)) (Or.inl rfl) ⟨j, v, n0, rfl, ⟨rfl, rfl⟩, hk0, hp0, hp1, hp2, hp3, kk0, kk1⟩
def L_X7_append : List (Nat × gk_M0) := []
def cs_X7_append : Nat → Option gk_M0 := gk_lk L_X7_append
theorem m_X7_append : ∀ (as : List Value) (n : Nat) (fl : gk_F) (x : gk_X) (y : gk_Y) (K : gk_K), S_X7_append as n fl x y K → (gk_L0 as).length ≤ 2 ∧ ∀ V : gk_V, gk_W cX7_append pX7 cs_X7_append (fun _ _ => none) (some .int) 0 none K V → V 0 (gk_en as 2) [] n fl x y 0 := by
  intro as n fl x y K hS
  obtain ⟨j, v, n0, rfl, ⟨rfl, rfl⟩, hk0, hp0, hp1, hp2, hp3, q0, q1⟩ := hS
  refine ⟨Nat.le_of_ble_eq_true rfl, fun V w => ?_⟩
  show V 0 [some (.ref j), some (.int v)] [] 202 gk_fT x y 0
  by_cases hn : n0 < 16
  · refine s_aload_n (pc2 := 1) w dX7_append_0 rfl rfl ?_
    refine m_getI (pc2 := 4) (ci := 6) (k := 2) w dX7_append_1 rfl rfl (by first | exact hp0 | exact hk0) rfl rfl ?_
    rw [hp2]
    refine s_if_lt (pc2 := 7) (tgt := 19) w dX7_append_4 rfl (by decide) (fun h0 => absurd h0 (by rw [show (0 : Int32) = gI 0 from rfl, gI_nI, gI_lt ⟨by omega, by omega⟩ ⟨by omega, by omega⟩]; omega)) (fun _ => ?_)
    refine s_aload_n (pc2 := 8) w dX7_append_7 rfl rfl ?_
    refine m_getI (pc2 := 11) (ci := 6) (k := 2) w dX7_append_8 rfl rfl (by first | exact hp0 | exact hk0) rfl rfl ?_
    refine s_aload_n (pc2 := 12) w dX7_append_11 rfl rfl ?_
    refine m_getR (pc2 := 15) (ci := 6) (k := 1) (j2 := (j + 2)) w dX7_append_12 rfl rfl (by first | exact hp0 | exact hk0) rfl rfl rfl ?_
    refine m_alen (pc2 := 16) (kd := 20) (N := (gI 16)) w dX7_append_15 rfl (by first | exact hp0 | exact hk0) rfl rfl (congrArg nI hp1) ?_
    rw [hp2]
    refine s_ic_lt (pc2 := 19) (tgt := 21) w dX7_append_16 rfl (by decide) (fun _ => ?_) (fun h0 => absurd (by rw [gI_nI, gI_lt ⟨by omega, by omega⟩ ⟨by omega, by omega⟩]; omega) h0)
    refine s_aload_n (pc2 := 22) w dX7_append_21 rfl rfl ?_
    refine m_getR (pc2 := 25) (ci := 6) (k := 1) (j2 := (j + 2)) w dX7_append_22 rfl rfl (by first | exact hp0 | exact hk0) rfl rfl rfl ?_
    refine s_aload_n (pc2 := 26) w dX7_append_25 rfl rfl ?_
    refine m_getI (pc2 := 29) (ci := 6) (k := 2) w dX7_append_26 rfl rfl (by first | exact hp0 | exact hk0) rfl rfl ?_
    rw [hp2]
    refine s_iload_n (pc2 := 30) w dX7_append_29 rfl rfl ?_
    refine m_iastoreN (pc2 := 31) (t := n0) w dX7_append_30 rfl (by first | exact hp0 | exact hk0) hp1 rfl hn rfl ?_
    refine s_aload_n (pc2 := 32) w dX7_append_31 rfl rfl ?_
    refine s_dup (pc2 := 33) w dX7_append_32 rfl rfl ?_
    refine m_getI (pc2 := 36) (ci := 6) (k := 2) w dX7_append_33 rfl rfl (by first | exact hp0 | exact hk0) rfl rfl ?_
    rw [gk_up_ne (show ¬ (j = j + 2 ∧ 2 = n0) by omega), hp2]
    refine s_iconst (pc2 := 37) (v := gI 1) w dX7_append_36 rfl rfl ?_
    refine s_iadd (pc2 := 38) w dX7_append_37 rfl ?_
    rw [show nI n0 + gI 1 = nI (n0 + 1) from nI_s n0]
    refine m_putI (pc2 := 41) (ci := 6) (k := 2) w dX7_append_38 rfl rfl (by first | exact hp0 | exact hk0) rfl rfl (by intro h; cases h) ?_
    refine s_aload_n (pc2 := 42) w dX7_append_41 rfl rfl ?_
    refine m_getI (pc2 := 45) (ci := 6) (k := 2) w dX7_append_42 rfl rfl (by first | exact hp0 | exact hk0) rfl rfl ?_
    rw [gk_up_in]
    refine s_ireturn w dX7_append_45 rfl rfl ?_
    exact q0 hn
  · refine s_aload_n (pc2 := 1) w dX7_append_0 rfl rfl ?_
    refine m_getI (pc2 := 4) (ci := 6) (k := 2) w dX7_append_1 rfl rfl (by first | exact hp0 | exact hk0) rfl rfl ?_
    rw [hp2]
    refine s_if_lt (pc2 := 7) (tgt := 19) w dX7_append_4 rfl (by decide) (fun h0 => absurd h0 (by rw [show (0 : Int32) = gI 0 from rfl, gI_nI, gI_lt ⟨by omega, by omega⟩ ⟨by omega, by omega⟩]; omega)) (fun _ => ?_)
    refine s_aload_n (pc2 := 8) w dX7_append_7 rfl rfl ?_
    refine m_getI (pc2 := 11) (ci := 6) (k := 2) w dX7_append_8 rfl rfl (by first | exact hp0 | exact hk0) rfl rfl ?_
    refine s_aload_n (pc2 := 12) w dX7_append_11 rfl rfl ?_
    refine m_getR (pc2 := 15) (ci := 6) (k := 1) (j2 := (j + 2)) w dX7_append_12 rfl rfl (by first | exact hp0 | exact hk0) rfl rfl rfl ?_
    refine m_alen (pc2 := 16) (kd := 20) (N := (gI 16)) w dX7_append_15 rfl (by first | exact hp0 | exact hk0) rfl rfl (congrArg nI hp1) ?_
    rw [hp2]
    refine s_ic_lt (pc2 := 19) (tgt := 21) w dX7_append_16 rfl (by decide) (fun h0 => absurd h0 (by rw [gI_nI, gI_lt ⟨by omega, by omega⟩ ⟨by omega, by omega⟩]; omega)) (fun _ => ?_)
    refine s_iconst (pc2 := 20) (v := gI (-1)) w dX7_append_19 rfl rfl ?_
    refine s_ireturn w dX7_append_20 rfl rfl ?_
    exact q1 hn
theorem lk_X7_append {l : Launch} (hl : l.stackTraces = false) : ∀ q ∈ L_X7_append, (q.2.1 < 5 → gk_Lk l RX7 gk_W1 0 q.1 q.2.1 q.2.2.1 q.2.2.2.1 q.2.2.2.2.1 q.2.2.2.2.2) := (fun _ h => absurd h List.not_mem_nil)
theorem sp_X7_append : ∀ q ∈ L_X7_append, gk_Sq RX7 gk_W1 0 q := (fun _ h => absurd h List.not_mem_nil)
theorem M_X7_append {l : Launch} (hl : l.stackTraces = false) : gk_Mt l yX7_append (.code yX7_append cX7_append 2 (some .int) :: gk_W1) 0 0 S_X7_append := gk_meth hl gk_cw_ok (by decide +kernel) rfl m_X7_append pX7_ok (gk_Sp_of sp_X7_append) pX7_st (fun ci m S h => absurd h (by intro h; cases h)) (xf_X7 0) (fun idx kd ci mm cost S2 h h5 => lk_X7_append hl _ (gk_lk_mem h) h5)

def S_X4_putVehicle : gk_S := fun as n fl x y K => ∃ (b : Nat) (a : Int32) (s : Int32) (e : Int32) (g : Nat → Int32), as = [.ref b, .int a, .int s, .int e] ∧ (n = 202 ∧ fl = gk_fT) ∧ gk_kd b = 4 ∧ (b = 1 ∨ b = 44) ∧ (RS b g x y) ∧ (gWf g) ∧ (nV g < 4 → ∀ x2 : gk_X, RS b (gAV g (nV g) a s e) x2 y → (∀ i k, ¬ (b ≤ i ∧ i < b + 43) → x2 i k = x i k) → K (.inl (some (.int (nI (nV g))))) n fl x2 y) ∧ (¬ nV g < 4 → K (.inl (some (.int (-1)))) n fl x y)
theorem r_X4_putVehicle (w : gk_W c P cs (fun _ _ => none) rt uf sc K V) {idx : Nat} {b : Nat} {a : Int32} {s : Int32} {e : Int32} {g : Nat → Int32} (hd : decode c pc = .ok (.invokevirtual idx, 3)) (hp : pc + 3 = pc2) (hc : cs idx = some (1, 4, 4, 0, S_X4_putVehicle)) (h8 : Nat.ble (r.map Value.category).sum 8 = true) (hk0 : gk_kd b = 4) (hp0 : b = 1 ∨ b = 44) (hp1 : RS b g x y) (hp2 : gWf g) (kk0 : nV g < 4 → ∀ x2 : gk_X, RS b (gAV g (nV g) a s e) x2 y → (∀ i k, ¬ (b ≤ i ∧ i < b + 43) → x2 i k = x i k) → V pc2 L ((.int (nI (nV g))) :: r) 202 gk_fT x2 y u) (kk1 : ¬ nV g < 4 → V pc2 L ((.int (-1)) :: r) 202 gk_fT x y u) : V pc L (.int e :: .int s :: .int a :: .ref b :: r) 202 gk_fT x y u :=
  g_callv w hd hp hc (as := [.ref b, .int a, .int s, .int e]) rfl h8 rfl rfl rfl (Or.inr (Or.inl ⟨Or.inl rfl, _, _, rfl, (gk_kd_j hk0 rfl), hk0⟩)) (Or.inl rfl) ⟨b, a, s, e, g, rfl, ⟨rfl, rfl⟩, hk0, hp0, hp1, hp2, kk0, kk1⟩
def L_X4_putVehicle : List (Nat × gk_M0) := [(69, (1, 3, 5, 0, S_X3_put))]
def cs_X4_putVehicle : Nat → Option gk_M0 := gk_lk L_X4_putVehicle
theorem m_X4_putVehicle : ∀ (as : List Value) (n : Nat) (fl : gk_F) (x : gk_X) (y : gk_Y) (K : gk_K), S_X4_putVehicle as n fl x y K → (gk_L0 as).length ≤ 5 ∧ ∀ V : gk_V, gk_W cX4_putVehicle pX4 cs_X4_putVehicle (fun _ _ => none) (some .int) 0 none K V → V 0 (gk_en as 5) [] n fl x y 0 := by
  intro as n fl x y K hS
  obtain ⟨b, a, s, e, g, rfl, ⟨rfl, rfl⟩, hk0, hp0, hp1, hp2, q0, q1⟩ := hS
  refine ⟨Nat.le_of_ble_eq_true rfl, fun V w => ?_⟩
  show V 0 [some (.ref b), some (.int a), some (.int s), some (.int e), none] [] 202 gk_fT x y 0
  obtain ⟨nv4, ns6, nm8, z6, z7, z8⟩ := wf_n hp2
  have e6 : x b 4 = nI (nV g) := hp1.1.1.1.trans ((gz_I g 6).trans (congrArg gI z6))
  rcases hp0 with rfl | rfl
  · by_cases hn : nV g < 4
    · have jv : gk_kd (nV g + 6) = 3 := kdV (Or.inl rfl) hn
      refine s_aload_n (pc2 := 1) w dX4_putVehicle_0 rfl rfl ?_
      refine m_getI (pc2 := 4) (ci := 4) (k := 4) w dX4_putVehicle_1 rfl rfl rfl rfl rfl ?_
      rw [e6]
      refine s_istore (pc2 := 6) w dX4_putVehicle_4 rfl rfl ?_
      dsimp only [gk_s1, gk_s2, gk_cl]
      refine s_iload (pc2 := 8) w dX4_putVehicle_6 rfl rfl ?_
      refine s_if_lt (pc2 := 11) (tgt := 21) w dX4_putVehicle_8 rfl (by decide) (fun h0 => absurd h0 (by rw [show (0 : Int32) = gI 0 from rfl, gI_nI, gI_lt ⟨by omega, by omega⟩ ⟨by omega, by omega⟩]; omega)) (fun _ => ?_)
      refine s_iload (pc2 := 13) w dX4_putVehicle_11 rfl rfl ?_
      refine s_aload_n (pc2 := 14) w dX4_putVehicle_13 rfl rfl ?_
      refine m_getR (pc2 := 17) (ci := 4) (k := 0) (j2 := 2) w dX4_putVehicle_14 rfl rfl rfl rfl rfl rfl ?_
      refine m_alen (pc2 := 18) (kd := 24) (N := (gI 4)) w dX4_putVehicle_17 rfl rfl rfl rfl rfl ?_
      refine s_ic_lt (pc2 := 21) (tgt := 23) w dX4_putVehicle_18 rfl (by decide) (fun _ => ?_) (fun h0 => absurd (by rw [gI_nI, gI_lt ⟨by omega, by omega⟩ ⟨by omega, by omega⟩]; omega) h0)
      refine s_aload_n (pc2 := 24) w dX4_putVehicle_23 rfl rfl ?_
      refine m_getR (pc2 := 27) (ci := 4) (k := 0) (j2 := 2) w dX4_putVehicle_24 rfl rfl rfl rfl rfl rfl ?_
      refine s_iload (pc2 := 29) w dX4_putVehicle_27 rfl rfl ?_
      refine m_aaloadN (pc2 := 30) (t := nV g) (kd := 24) (j2 := (nV g + 6)) (N := 4) w dX4_putVehicle_29 rfl rfl rfl rfl rfl rfl (by omega) rfl (by show 2 + (4 + nV g) = nV g + 6; omega) ?_
      refine s_iload_n (pc2 := 31) w dX4_putVehicle_30 rfl rfl ?_
      refine s_iload_n (pc2 := 32) w dX4_putVehicle_31 rfl rfl ?_
      refine s_iload_n (pc2 := 33) w dX4_putVehicle_32 rfl rfl ?_
      refine s_iconst (pc2 := 34) (v := gI 0) w dX4_putVehicle_33 rfl rfl ?_
      refine r_X3_put (pc2 := 37) w dX4_putVehicle_34 rfl rfl rfl jv ?_
      refine s_aload_n (pc2 := 38) w dX4_putVehicle_37 rfl rfl ?_
      refine s_dup (pc2 := 39) w dX4_putVehicle_38 rfl rfl ?_
      refine m_getI (pc2 := 42) (ci := 4) (k := 4) w dX4_putVehicle_39 rfl rfl rfl rfl rfl ?_
      rw [gk_up_ne (show ¬ (1 = nV g + 6 ∧ 4 = 3) by omega), gk_up_ne (show ¬ (1 = nV g + 6 ∧ 4 = 2) by omega), gk_up_ne (show ¬ (1 = nV g + 6 ∧ 4 = 1) by omega), gk_up_ne (show ¬ (1 = nV g + 6 ∧ 4 = 0) by omega), e6]
      refine s_iconst (pc2 := 43) (v := gI 1) w dX4_putVehicle_42 rfl rfl ?_
      refine s_iadd (pc2 := 44) w dX4_putVehicle_43 rfl ?_
      rw [show nI (nV g) + gI 1 = nI (nV g + 1) from nI_s _]
      refine m_putI (pc2 := 47) (ci := 4) (k := 4) w dX4_putVehicle_44 rfl rfl rfl rfl rfl (by intro h; cases h) ?_
      refine s_iload (pc2 := 49) w dX4_putVehicle_47 rfl rfl ?_
      refine s_ireturn w dX4_putVehicle_49 rfl rfl ?_
      exact q0 hn _ (RS_AV hp2 rfl hn hp1 ⟨((gk_up_ne (by omega)).trans ((gk_up_ne (by omega)).trans ((gk_up_ne (by omega)).trans ((gk_up_ne (by omega)).trans (gk_up_in _ _ _ _))))), ((gk_up_ne (by omega)).trans ((gk_up_ne (by omega)).trans ((gk_up_ne (by omega)).trans (gk_up_in _ _ _ _)))), ((gk_up_ne (by omega)).trans ((gk_up_ne (by omega)).trans (gk_up_in _ _ _ _)))⟩ (gk_up_in _ _ _ _) (fun i k h1 h2 => ((gk_up_ne (by omega)).trans ((gk_up_ne (by omega)).trans ((gk_up_ne (by omega)).trans ((gk_up_ne (by omega)).trans (gk_up_ne (by omega)))))))) (fun i k h => ((gk_up_ne (by omega)).trans ((gk_up_ne (by omega)).trans ((gk_up_ne (by omega)).trans ((gk_up_ne (by omega)).trans (gk_up_ne (by omega)))))))
    · refine s_aload_n (pc2 := 1) w dX4_putVehicle_0 rfl rfl ?_
      refine m_getI (pc2 := 4) (ci := 4) (k := 4) w dX4_putVehicle_1 rfl rfl rfl rfl rfl ?_
      rw [e6]
      refine s_istore (pc2 := 6) w dX4_putVehicle_4 rfl rfl ?_
      dsimp only [gk_s1, gk_s2, gk_cl]
      refine s_iload (pc2 := 8) w dX4_putVehicle_6 rfl rfl ?_
      refine s_if_lt (pc2 := 11) (tgt := 21) w dX4_putVehicle_8 rfl (by decide) (fun h0 => absurd h0 (by rw [show (0 : Int32) = gI 0 from rfl, gI_nI, gI_lt ⟨by omega, by omega⟩ ⟨by omega, by omega⟩]; omega)) (fun _ => ?_)
      refine s_iload (pc2 := 13) w dX4_putVehicle_11 rfl rfl ?_
      refine s_aload_n (pc2 := 14) w dX4_putVehicle_13 rfl rfl ?_
      refine m_getR (pc2 := 17) (ci := 4) (k := 0) (j2 := 2) w dX4_putVehicle_14 rfl rfl rfl rfl rfl rfl ?_
      refine m_alen (pc2 := 18) (kd := 24) (N := (gI 4)) w dX4_putVehicle_17 rfl rfl rfl rfl rfl ?_
      refine s_ic_lt (pc2 := 21) (tgt := 23) w dX4_putVehicle_18 rfl (by decide) (fun h0 => absurd h0 (by rw [gI_nI, gI_lt ⟨by omega, by omega⟩ ⟨by omega, by omega⟩]; omega)) (fun _ => ?_)
      refine s_iconst (pc2 := 22) (v := gI (-1)) w dX4_putVehicle_21 rfl rfl ?_
      refine s_ireturn w dX4_putVehicle_22 rfl rfl ?_
      exact q1 hn
  · by_cases hn : nV g < 4
    · have jv : gk_kd (nV g + 49) = 3 := kdV (Or.inr rfl) hn
      refine s_aload_n (pc2 := 1) w dX4_putVehicle_0 rfl rfl ?_
      refine m_getI (pc2 := 4) (ci := 4) (k := 4) w dX4_putVehicle_1 rfl rfl rfl rfl rfl ?_
      rw [e6]
      refine s_istore (pc2 := 6) w dX4_putVehicle_4 rfl rfl ?_
      dsimp only [gk_s1, gk_s2, gk_cl]
      refine s_iload (pc2 := 8) w dX4_putVehicle_6 rfl rfl ?_
      refine s_if_lt (pc2 := 11) (tgt := 21) w dX4_putVehicle_8 rfl (by decide) (fun h0 => absurd h0 (by rw [show (0 : Int32) = gI 0 from rfl, gI_nI, gI_lt ⟨by omega, by omega⟩ ⟨by omega, by omega⟩]; omega)) (fun _ => ?_)
      refine s_iload (pc2 := 13) w dX4_putVehicle_11 rfl rfl ?_
      refine s_aload_n (pc2 := 14) w dX4_putVehicle_13 rfl rfl ?_
      refine m_getR (pc2 := 17) (ci := 4) (k := 0) (j2 := 45) w dX4_putVehicle_14 rfl rfl rfl rfl rfl rfl ?_
      refine m_alen (pc2 := 18) (kd := 24) (N := (gI 4)) w dX4_putVehicle_17 rfl rfl rfl rfl rfl ?_
      refine s_ic_lt (pc2 := 21) (tgt := 23) w dX4_putVehicle_18 rfl (by decide) (fun _ => ?_) (fun h0 => absurd (by rw [gI_nI, gI_lt ⟨by omega, by omega⟩ ⟨by omega, by omega⟩]; omega) h0)
      refine s_aload_n (pc2 := 24) w dX4_putVehicle_23 rfl rfl ?_
      refine m_getR (pc2 := 27) (ci := 4) (k := 0) (j2 := 45) w dX4_putVehicle_24 rfl rfl rfl rfl rfl rfl ?_
      refine s_iload (pc2 := 29) w dX4_putVehicle_27 rfl rfl ?_
      refine m_aaloadN (pc2 := 30) (t := nV g) (kd := 24) (j2 := (nV g + 49)) (N := 4) w dX4_putVehicle_29 rfl rfl rfl rfl rfl rfl (by omega) rfl (by show 45 + (4 + nV g) = nV g + 49; omega) ?_
      refine s_iload_n (pc2 := 31) w dX4_putVehicle_30 rfl rfl ?_
      refine s_iload_n (pc2 := 32) w dX4_putVehicle_31 rfl rfl ?_
      refine s_iload_n (pc2 := 33) w dX4_putVehicle_32 rfl rfl ?_
      refine s_iconst (pc2 := 34) (v := gI 0) w dX4_putVehicle_33 rfl rfl ?_
      refine r_X3_put (pc2 := 37) w dX4_putVehicle_34 rfl rfl rfl jv ?_
      refine s_aload_n (pc2 := 38) w dX4_putVehicle_37 rfl rfl ?_
      refine s_dup (pc2 := 39) w dX4_putVehicle_38 rfl rfl ?_
      refine m_getI (pc2 := 42) (ci := 4) (k := 4) w dX4_putVehicle_39 rfl rfl rfl rfl rfl ?_
      rw [gk_up_ne (show ¬ (44 = nV g + 49 ∧ 4 = 3) by omega), gk_up_ne (show ¬ (44 = nV g + 49 ∧ 4 = 2) by omega), gk_up_ne (show ¬ (44 = nV g + 49 ∧ 4 = 1) by omega), gk_up_ne (show ¬ (44 = nV g + 49 ∧ 4 = 0) by omega), e6]
      refine s_iconst (pc2 := 43) (v := gI 1) w dX4_putVehicle_42 rfl rfl ?_
      refine s_iadd (pc2 := 44) w dX4_putVehicle_43 rfl ?_
      rw [show nI (nV g) + gI 1 = nI (nV g + 1) from nI_s _]
      refine m_putI (pc2 := 47) (ci := 4) (k := 4) w dX4_putVehicle_44 rfl rfl rfl rfl rfl (by intro h; cases h) ?_
      refine s_iload (pc2 := 49) w dX4_putVehicle_47 rfl rfl ?_
      refine s_ireturn w dX4_putVehicle_49 rfl rfl ?_
      exact q0 hn _ (RS_AV hp2 rfl hn hp1 ⟨((gk_up_ne (by omega)).trans ((gk_up_ne (by omega)).trans ((gk_up_ne (by omega)).trans ((gk_up_ne (by omega)).trans (gk_up_in _ _ _ _))))), ((gk_up_ne (by omega)).trans ((gk_up_ne (by omega)).trans ((gk_up_ne (by omega)).trans (gk_up_in _ _ _ _)))), ((gk_up_ne (by omega)).trans ((gk_up_ne (by omega)).trans (gk_up_in _ _ _ _)))⟩ (gk_up_in _ _ _ _) (fun i k h1 h2 => ((gk_up_ne (by omega)).trans ((gk_up_ne (by omega)).trans ((gk_up_ne (by omega)).trans ((gk_up_ne (by omega)).trans (gk_up_ne (by omega)))))))) (fun i k h => ((gk_up_ne (by omega)).trans ((gk_up_ne (by omega)).trans ((gk_up_ne (by omega)).trans ((gk_up_ne (by omega)).trans (gk_up_ne (by omega)))))))
    · refine s_aload_n (pc2 := 1) w dX4_putVehicle_0 rfl rfl ?_
      refine m_getI (pc2 := 4) (ci := 4) (k := 4) w dX4_putVehicle_1 rfl rfl rfl rfl rfl ?_
      rw [e6]
      refine s_istore (pc2 := 6) w dX4_putVehicle_4 rfl rfl ?_
      dsimp only [gk_s1, gk_s2, gk_cl]
      refine s_iload (pc2 := 8) w dX4_putVehicle_6 rfl rfl ?_
      refine s_if_lt (pc2 := 11) (tgt := 21) w dX4_putVehicle_8 rfl (by decide) (fun h0 => absurd h0 (by rw [show (0 : Int32) = gI 0 from rfl, gI_nI, gI_lt ⟨by omega, by omega⟩ ⟨by omega, by omega⟩]; omega)) (fun _ => ?_)
      refine s_iload (pc2 := 13) w dX4_putVehicle_11 rfl rfl ?_
      refine s_aload_n (pc2 := 14) w dX4_putVehicle_13 rfl rfl ?_
      refine m_getR (pc2 := 17) (ci := 4) (k := 0) (j2 := 45) w dX4_putVehicle_14 rfl rfl rfl rfl rfl rfl ?_
      refine m_alen (pc2 := 18) (kd := 24) (N := (gI 4)) w dX4_putVehicle_17 rfl rfl rfl rfl rfl ?_
      refine s_ic_lt (pc2 := 21) (tgt := 23) w dX4_putVehicle_18 rfl (by decide) (fun h0 => absurd h0 (by rw [gI_nI, gI_lt ⟨by omega, by omega⟩ ⟨by omega, by omega⟩]; omega)) (fun _ => ?_)
      refine s_iconst (pc2 := 22) (v := gI (-1)) w dX4_putVehicle_21 rfl rfl ?_
      refine s_ireturn w dX4_putVehicle_22 rfl rfl ?_
      exact q1 hn
theorem lk_X4_putVehicle {l : Launch} (hl : l.stackTraces = false) : ∀ q ∈ L_X4_putVehicle, (q.2.1 < 5 → gk_Lk l RX4 gk_W1 1 q.1 q.2.1 q.2.2.1 q.2.2.2.1 q.2.2.2.2.1 q.2.2.2.2.2) := (List.forall_mem_cons.mpr ⟨(fun _ => ⟨yX3_put, cX3_put, 5, none, 0, _, M_X3_put hl, ⟨by decide, by decide⟩, ⟨by decide, by decide, by decide +kernel⟩, ⟨(gk_wm 223 (by decide +kernel)), (gk_wm 91 (by decide +kernel))⟩, Or.inr (Or.inr (Or.inr (Or.inl ⟨rfl, rfl, (gk_wm 221 (by decide +kernel)), (gk_wm 222 (by decide +kernel)), gk_wm 220 (by decide +kernel), by decide, rfl⟩)))⟩), (fun _ h => absurd h List.not_mem_nil)⟩)
theorem sp_X4_putVehicle : ∀ q ∈ L_X4_putVehicle, gk_Sq RX4 gk_W1 1 q := (List.forall_mem_cons.mpr ⟨⟨fun h => absurd h (by decide), fun h => absurd h (by decide), fun h => absurd h (by decide), fun h => absurd h (by decide), fun h => absurd h (by decide), fun h => absurd h (by decide)⟩, (fun _ h => absurd h List.not_mem_nil)⟩)
theorem M_X4_putVehicle {l : Launch} (hl : l.stackTraces = false) : gk_Mt l yX4_putVehicle (.code yX4_putVehicle cX4_putVehicle 5 (some .int) :: gk_W1) 1 0 S_X4_putVehicle := gk_meth hl gk_cw_ok (by decide +kernel) rfl m_X4_putVehicle pX4_ok (gk_Sp_of sp_X4_putVehicle) pX4_st (fun ci m S h => absurd h (by intro h; cases h)) (xf_X4 1) (fun idx kd ci mm cost S2 h h5 => lk_X4_putVehicle hl _ (gk_lk_mem h) h5)

def S_X4_putSource : gk_S := fun as n fl x y K => ∃ (b : Nat) (v : Int32) (o : Int32) (h : Int32) (st : Int32) (va : Int32) (g : Nat → Int32) (w0 : Nat), as = [.ref b, .int v, .int o, .int h, .int st, .int va] ∧ (n = 202 ∧ fl = gk_fT) ∧ gk_kd b = 4 ∧ (b = 1 ∨ b = 44) ∧ (RS b g x y) ∧ (gWf g) ∧ (v = nI w0) ∧ (w0 < nV g) ∧ (nS g < 6 → ∀ x2 : gk_X, RS b (gAS g (nS g) (nI w0) o h st va) x2 y → (∀ i k, ¬ (b ≤ i ∧ i < b + 43) → x2 i k = x i k) → K (.inl (some (.int (nI (nS g))))) n fl x2 y) ∧ (¬ nS g < 6 → K (.inl (some (.int (-1)))) n fl x y)
theorem r_X4_putSource (w : gk_W c P cs (fun _ _ => none) rt uf sc K V) {idx : Nat} {b : Nat} {v : Int32} {o : Int32} {h : Int32} {st : Int32} {va : Int32} {g : Nat → Int32} {w0 : Nat} (hd : decode c pc = .ok (.invokevirtual idx, 3)) (hp : pc + 3 = pc2) (hc : cs idx = some (1, 4, 6, 0, S_X4_putSource)) (h8 : Nat.ble (r.map Value.category).sum 8 = true) (hk0 : gk_kd b = 4) (hp0 : b = 1 ∨ b = 44) (hp1 : RS b g x y) (hp2 : gWf g) (hp3 : v = nI w0) (hp4 : w0 < nV g) (kk0 : nS g < 6 → ∀ x2 : gk_X, RS b (gAS g (nS g) (nI w0) o h st va) x2 y → (∀ i k, ¬ (b ≤ i ∧ i < b + 43) → x2 i k = x i k) → V pc2 L ((.int (nI (nS g))) :: r) 202 gk_fT x2 y u) (kk1 : ¬ nS g < 6 → V pc2 L ((.int (-1)) :: r) 202 gk_fT x y u) : V pc L (.int va :: .int st :: .int h :: .int o :: .int v :: .ref b :: r) 202 gk_fT x y u :=
  g_callv w hd hp hc (as := [.ref b, .int v, .int o, .int h, .int st, .int va]) rfl h8 rfl rfl rfl (Or.inr (Or.inl ⟨Or.inl rfl, _, _, rfl, (gk_kd_j hk0 rfl), hk0⟩)) (Or.inl rfl) ⟨b, v, o, h, st, va, g, w0, rfl, ⟨rfl, rfl⟩, hk0, hp0, hp1, hp2, hp3, hp4, kk0, kk1⟩
def L_X4_putSource : List (Nat × gk_M0) := [(95, (1, 3, 4, 0, S_X3_ride)), (105, (1, 6, 2, 0, S_X7_append))]
def cs_X4_putSource : Nat → Option gk_M0 := gk_lk L_X4_putSource
theorem m_X4_putSource : ∀ (as : List Value) (n : Nat) (fl : gk_F) (x : gk_X) (y : gk_Y) (K : gk_K), S_X4_putSource as n fl x y K → (gk_L0 as).length ≤ 8 ∧ ∀ V : gk_V, gk_W cX4_putSource pX4 cs_X4_putSource (fun _ _ => none) (some .int) 0 none K V → V 0 (gk_en as 8) [] n fl x y 0 := by
  intro as n fl x y K hS
  obtain ⟨b, v, o, h, st, va, g, w0, rfl, ⟨rfl, rfl⟩, hk0, hp0, hp1, hp2, hp3, hp4, q0, q1⟩ := hS
  refine ⟨Nat.le_of_ble_eq_true rfl, fun V w => ?_⟩
  show V 0 [some (.ref b), some (.int v), some (.int o), some (.int h), some (.int st), some (.int va), none, none] [] 202 gk_fT x y 0
  subst hp3
  obtain ⟨nv4, ns6, nm8, z6, z7, z8⟩ := wf_n hp2
  have e6 : x b 4 = nI (nV g) := hp1.1.1.1.trans ((gz_I g 6).trans (congrArg gI z6))
  have e7 : x b 5 = nI (nS g) := hp1.1.1.2.1.trans ((gz_I g 7).trans (congrArg gI z7))
  rcases hp0 with rfl | rfl
  · by_cases hn : nS g < 6
    · have jv : gk_kd (w0 + 6) = 3 := kdV (Or.inl rfl) (by omega)
      obtain ⟨j1, j2, j3, j4⟩ := kdS (b := 1) (Or.inl rfl) hn
      refine s_aload_n (pc2 := 1) w dX4_putSource_0 rfl rfl ?_
      refine m_getI (pc2 := 4) (ci := 4) (k := 5) w dX4_putSource_1 rfl rfl rfl rfl rfl ?_
      rw [e7]
      refine s_istore (pc2 := 6) w dX4_putSource_4 rfl rfl ?_
      dsimp only [gk_s1, gk_s2, gk_cl]
      refine s_iload (pc2 := 8) w dX4_putSource_6 rfl rfl ?_
      refine s_if_lt (pc2 := 11) (tgt := 33) w dX4_putSource_8 rfl (by decide) (fun h0 => absurd h0 (by rw [show (0 : Int32) = gI 0 from rfl, gI_nI, gI_lt ⟨by omega, by omega⟩ ⟨by omega, by omega⟩]; omega)) (fun _ => ?_)
      refine s_iload (pc2 := 13) w dX4_putSource_11 rfl rfl ?_
      refine s_aload_n (pc2 := 14) w dX4_putSource_13 rfl rfl ?_
      refine m_getR (pc2 := 17) (ci := 4) (k := 1) (j2 := 3) w dX4_putSource_14 rfl rfl rfl rfl rfl rfl ?_
      refine m_alen (pc2 := 18) (kd := 25) (N := (gI 6)) w dX4_putSource_17 rfl rfl rfl rfl rfl ?_
      refine s_ic_ge (pc2 := 21) (tgt := 33) w dX4_putSource_18 rfl (by decide) (fun h0 => absurd h0 (by rw [gI_nI, gI_le ⟨by omega, by omega⟩ ⟨by omega, by omega⟩]; omega)) (fun _ => ?_)
      refine s_iload_n (pc2 := 22) w dX4_putSource_21 rfl rfl ?_
      refine s_if_lt (pc2 := 25) (tgt := 33) w dX4_putSource_22 rfl (by decide) (fun h0 => absurd h0 (by rw [show (0 : Int32) = gI 0 from rfl, gI_nI, gI_lt ⟨by omega, by omega⟩ ⟨by omega, by omega⟩]; omega)) (fun _ => ?_)
      refine s_iload_n (pc2 := 26) w dX4_putSource_25 rfl rfl ?_
      refine s_aload_n (pc2 := 27) w dX4_putSource_26 rfl rfl ?_
      refine m_getI (pc2 := 30) (ci := 4) (k := 4) w dX4_putSource_27 rfl rfl rfl rfl rfl ?_
      rw [e6]
      refine s_ic_lt (pc2 := 33) (tgt := 35) w dX4_putSource_30 rfl (by decide) (fun _ => ?_) (fun h0 => absurd (by rw [gI_nI, gI_nI, gI_lt ⟨by omega, by omega⟩ ⟨by omega, by omega⟩]; omega) h0)
      refine s_aload_n (pc2 := 36) w dX4_putSource_35 rfl rfl ?_
      refine m_getR (pc2 := 39) (ci := 4) (k := 1) (j2 := 3) w dX4_putSource_36 rfl rfl rfl rfl rfl rfl ?_
      refine s_iload (pc2 := 41) w dX4_putSource_39 rfl rfl ?_
      refine m_aaloadN (pc2 := 42) (t := nS g) (kd := 25) (j2 := (3 * nS g + 10)) (N := 6) w dX4_putSource_41 rfl rfl rfl rfl rfl rfl (by omega) rfl (by show 3 + (7 + 3 * nS g) = 3 * nS g + 10; omega) ?_
      refine s_astore (pc2 := 44) w dX4_putSource_42 rfl rfl ?_
      dsimp only [gk_s1, gk_s2, gk_cl]
      refine s_aload (pc2 := 46) w dX4_putSource_44 rfl rfl ?_
      refine m_getR (pc2 := 49) (ci := 6) (k := 0) (j2 := (3 * nS g + 11)) w dX4_putSource_46 rfl rfl (by first | exact j1 | exact j2 | exact jv | exact j3) rfl rfl rfl ?_
      refine s_aload_n (pc2 := 50) w dX4_putSource_49 rfl rfl ?_
      refine m_getR (pc2 := 53) (ci := 4) (k := 0) (j2 := 2) w dX4_putSource_50 rfl rfl rfl rfl rfl rfl ?_
      refine s_iload_n (pc2 := 54) w dX4_putSource_53 rfl rfl ?_
      refine m_aaloadN (pc2 := 55) (t := w0) (kd := 24) (j2 := (w0 + 6)) (N := 4) w dX4_putSource_54 rfl rfl rfl rfl rfl rfl (by omega) rfl (by show 2 + (4 + w0) = w0 + 6; omega) ?_
      refine s_iload_n (pc2 := 56) w dX4_putSource_55 rfl rfl ?_
      refine s_iload_n (pc2 := 57) w dX4_putSource_56 rfl rfl ?_
      refine r_X3_ride (pc2 := 60) w dX4_putSource_57 rfl rfl rfl (by first | exact j1 | exact j2 | exact jv | exact j3) (by first | exact j1 | exact j2 | exact jv | exact j3) ?_
      refine s_aload (pc2 := 62) w dX4_putSource_60 rfl rfl ?_
      refine s_iload (pc2 := 64) w dX4_putSource_62 rfl rfl ?_
      refine m_putI (pc2 := 67) (ci := 6) (k := 3) w dX4_putSource_64 rfl rfl (by first | exact j1 | exact j2 | exact jv | exact j3) rfl rfl (by intro h; cases h) ?_
      refine s_aload (pc2 := 69) w dX4_putSource_67 rfl rfl ?_
      refine s_iconst (pc2 := 70) (v := gI 0) w dX4_putSource_69 rfl rfl ?_
      refine m_putI (pc2 := 73) (ci := 6) (k := 2) w dX4_putSource_70 rfl rfl (by first | exact j1 | exact j2 | exact jv | exact j3) rfl rfl (by intro h; cases h) ?_
      refine s_aload (pc2 := 75) w dX4_putSource_73 rfl rfl ?_
      refine s_iload (pc2 := 77) w dX4_putSource_75 rfl rfl ?_
      refine r_X7_append (pc2 := 80) (n0 := 0) w dX4_putSource_77 rfl rfl rfl (by first | exact j1 | exact j2 | exact jv | exact j3) j3 j4 (gk_up_in _ _ _ _) (by decide) (fun _ => ?_) (fun h => absurd (show 0 < 16 by decide) h)
      refine s_pop (pc2 := 81) w dX4_putSource_80 rfl rfl ?_
      refine s_aload_n (pc2 := 82) w dX4_putSource_81 rfl rfl ?_
      refine s_dup (pc2 := 83) w dX4_putSource_82 rfl rfl ?_
      refine m_getI (pc2 := 86) (ci := 4) (k := 5) w dX4_putSource_83 rfl rfl rfl rfl rfl ?_
      rw [gk_up_ne (show ¬ (1 = 3 * nS g + 10 ∧ 5 = 2) by omega), gk_up_ne (show ¬ (1 = 3 * nS g + 10 + 2 ∧ 5 = 0) by omega), gk_up_ne (show ¬ (1 = 3 * nS g + 10 ∧ 5 = 2) by omega), gk_up_ne (show ¬ (1 = 3 * nS g + 10 ∧ 5 = 3) by omega), gk_up_ne (show ¬ (1 = 3 * nS g + 11 ∧ 5 = 3) by omega), gk_up_ne (show ¬ (1 = 3 * nS g + 11 ∧ 5 = 2) by omega), gk_up_ne (show ¬ (1 = 3 * nS g + 11 ∧ 5 = 1) by omega), gk_up_ne (show ¬ (1 = 3 * nS g + 11 ∧ 5 = 0) by omega), e7]
      refine s_iconst (pc2 := 87) (v := gI 1) w dX4_putSource_86 rfl rfl ?_
      refine s_iadd (pc2 := 88) w dX4_putSource_87 rfl ?_
      rw [show nI (nS g) + gI 1 = nI (nS g + 1) from nI_s _]
      refine m_putI (pc2 := 91) (ci := 4) (k := 5) w dX4_putSource_88 rfl rfl rfl rfl rfl (by intro h; cases h) ?_
      refine s_iload (pc2 := 93) w dX4_putSource_91 rfl rfl ?_
      refine s_ireturn w dX4_putSource_93 rfl rfl ?_
      exact q0 hn _ (RS_AS hp2 rfl hn hp4 hp1 ⟨((gk_up_ne (by omega)).trans (gk_up_in _ _ _ _)), ((gk_up_ne (by omega)).trans ((gk_up_ne (by omega)).trans ((gk_up_ne (by omega)).trans ((gk_up_ne (by omega)).trans (gk_up_in _ _ _ _)))))⟩ ⟨((gk_up_ne (by omega)).trans ((gk_up_ne (by omega)).trans ((gk_up_ne (by omega)).trans ((gk_up_ne (by omega)).trans ((gk_up_ne (by omega)).trans ((gk_up_ne (by omega)).trans ((gk_up_ne (by omega)).trans ((gk_up_ne (by omega)).trans (gk_up_in _ _ _ _))))))))), ((gk_up_ne (by omega)).trans ((gk_up_ne (by omega)).trans ((gk_up_ne (by omega)).trans ((gk_up_ne (by omega)).trans ((gk_up_ne (by omega)).trans ((gk_up_ne (by omega)).trans ((gk_up_ne (by omega)).trans (gk_up_in _ _ _ _)))))))), ((gk_up_ne (by omega)).trans ((gk_up_ne (by omega)).trans ((gk_up_ne (by omega)).trans ((gk_up_ne (by omega)).trans ((gk_up_ne (by omega)).trans ((gk_up_ne (by omega)).trans (gk_up_in _ _ _ _))))))), ((gk_up_ne (by omega)).trans ((gk_up_ne (by omega)).trans ((gk_up_ne (by omega)).trans ((gk_up_ne (by omega)).trans ((gk_up_ne (by omega)).trans (gk_up_in _ _ _ _))))))⟩ ((gk_up_ne (by omega)).trans ((gk_up_ne (by omega)).trans (gk_up_in _ _ _ _))) (gk_up_in _ _ _ _) (fun i k h1 h2 => ((gk_up_ne (by omega)).trans ((gk_up_ne (by omega)).trans ((gk_up_ne (by omega)).trans ((gk_up_ne (by omega)).trans ((gk_up_ne (by omega)).trans ((gk_up_ne (by omega)).trans ((gk_up_ne (by omega)).trans ((gk_up_ne (by omega)).trans (gk_up_ne (by omega)))))))))))) (fun i k h => ((gk_up_ne (by omega)).trans ((gk_up_ne (by omega)).trans ((gk_up_ne (by omega)).trans ((gk_up_ne (by omega)).trans ((gk_up_ne (by omega)).trans ((gk_up_ne (by omega)).trans ((gk_up_ne (by omega)).trans ((gk_up_ne (by omega)).trans (gk_up_ne (by omega)))))))))))
    · refine s_aload_n (pc2 := 1) w dX4_putSource_0 rfl rfl ?_
      refine m_getI (pc2 := 4) (ci := 4) (k := 5) w dX4_putSource_1 rfl rfl rfl rfl rfl ?_
      rw [e7]
      refine s_istore (pc2 := 6) w dX4_putSource_4 rfl rfl ?_
      dsimp only [gk_s1, gk_s2, gk_cl]
      refine s_iload (pc2 := 8) w dX4_putSource_6 rfl rfl ?_
      refine s_if_lt (pc2 := 11) (tgt := 33) w dX4_putSource_8 rfl (by decide) (fun h0 => absurd h0 (by rw [show (0 : Int32) = gI 0 from rfl, gI_nI, gI_lt ⟨by omega, by omega⟩ ⟨by omega, by omega⟩]; omega)) (fun _ => ?_)
      refine s_iload (pc2 := 13) w dX4_putSource_11 rfl rfl ?_
      refine s_aload_n (pc2 := 14) w dX4_putSource_13 rfl rfl ?_
      refine m_getR (pc2 := 17) (ci := 4) (k := 1) (j2 := 3) w dX4_putSource_14 rfl rfl rfl rfl rfl rfl ?_
      refine m_alen (pc2 := 18) (kd := 25) (N := (gI 6)) w dX4_putSource_17 rfl rfl rfl rfl rfl ?_
      refine s_ic_ge (pc2 := 21) (tgt := 33) w dX4_putSource_18 rfl (by decide) (fun _ => ?_) (fun h0 => absurd (by rw [gI_nI, gI_le ⟨by omega, by omega⟩ ⟨by omega, by omega⟩]; omega) h0)
      refine s_iconst (pc2 := 34) (v := gI (-1)) w dX4_putSource_33 rfl rfl ?_
      refine s_ireturn w dX4_putSource_34 rfl rfl ?_
      exact q1 hn
  · by_cases hn : nS g < 6
    · have jv : gk_kd (w0 + 49) = 3 := kdV (Or.inr rfl) (by omega)
      obtain ⟨j1, j2, j3, j4⟩ := kdS (b := 44) (Or.inr rfl) hn
      refine s_aload_n (pc2 := 1) w dX4_putSource_0 rfl rfl ?_
      refine m_getI (pc2 := 4) (ci := 4) (k := 5) w dX4_putSource_1 rfl rfl rfl rfl rfl ?_
      rw [e7]
      refine s_istore (pc2 := 6) w dX4_putSource_4 rfl rfl ?_
      dsimp only [gk_s1, gk_s2, gk_cl]
      refine s_iload (pc2 := 8) w dX4_putSource_6 rfl rfl ?_
      refine s_if_lt (pc2 := 11) (tgt := 33) w dX4_putSource_8 rfl (by decide) (fun h0 => absurd h0 (by rw [show (0 : Int32) = gI 0 from rfl, gI_nI, gI_lt ⟨by omega, by omega⟩ ⟨by omega, by omega⟩]; omega)) (fun _ => ?_)
      refine s_iload (pc2 := 13) w dX4_putSource_11 rfl rfl ?_
      refine s_aload_n (pc2 := 14) w dX4_putSource_13 rfl rfl ?_
      refine m_getR (pc2 := 17) (ci := 4) (k := 1) (j2 := 46) w dX4_putSource_14 rfl rfl rfl rfl rfl rfl ?_
      refine m_alen (pc2 := 18) (kd := 25) (N := (gI 6)) w dX4_putSource_17 rfl rfl rfl rfl rfl ?_
      refine s_ic_ge (pc2 := 21) (tgt := 33) w dX4_putSource_18 rfl (by decide) (fun h0 => absurd h0 (by rw [gI_nI, gI_le ⟨by omega, by omega⟩ ⟨by omega, by omega⟩]; omega)) (fun _ => ?_)
      refine s_iload_n (pc2 := 22) w dX4_putSource_21 rfl rfl ?_
      refine s_if_lt (pc2 := 25) (tgt := 33) w dX4_putSource_22 rfl (by decide) (fun h0 => absurd h0 (by rw [show (0 : Int32) = gI 0 from rfl, gI_nI, gI_lt ⟨by omega, by omega⟩ ⟨by omega, by omega⟩]; omega)) (fun _ => ?_)
      refine s_iload_n (pc2 := 26) w dX4_putSource_25 rfl rfl ?_
      refine s_aload_n (pc2 := 27) w dX4_putSource_26 rfl rfl ?_
      refine m_getI (pc2 := 30) (ci := 4) (k := 4) w dX4_putSource_27 rfl rfl rfl rfl rfl ?_
      rw [e6]
      refine s_ic_lt (pc2 := 33) (tgt := 35) w dX4_putSource_30 rfl (by decide) (fun _ => ?_) (fun h0 => absurd (by rw [gI_nI, gI_nI, gI_lt ⟨by omega, by omega⟩ ⟨by omega, by omega⟩]; omega) h0)
      refine s_aload_n (pc2 := 36) w dX4_putSource_35 rfl rfl ?_
      refine m_getR (pc2 := 39) (ci := 4) (k := 1) (j2 := 46) w dX4_putSource_36 rfl rfl rfl rfl rfl rfl ?_
      refine s_iload (pc2 := 41) w dX4_putSource_39 rfl rfl ?_
      refine m_aaloadN (pc2 := 42) (t := nS g) (kd := 25) (j2 := (3 * nS g + 53)) (N := 6) w dX4_putSource_41 rfl rfl rfl rfl rfl rfl (by omega) rfl (by show 46 + (7 + 3 * nS g) = 3 * nS g + 53; omega) ?_
      refine s_astore (pc2 := 44) w dX4_putSource_42 rfl rfl ?_
      dsimp only [gk_s1, gk_s2, gk_cl]
      refine s_aload (pc2 := 46) w dX4_putSource_44 rfl rfl ?_
      refine m_getR (pc2 := 49) (ci := 6) (k := 0) (j2 := (3 * nS g + 54)) w dX4_putSource_46 rfl rfl (by first | exact j1 | exact j2 | exact jv | exact j3) rfl rfl rfl ?_
      refine s_aload_n (pc2 := 50) w dX4_putSource_49 rfl rfl ?_
      refine m_getR (pc2 := 53) (ci := 4) (k := 0) (j2 := 45) w dX4_putSource_50 rfl rfl rfl rfl rfl rfl ?_
      refine s_iload_n (pc2 := 54) w dX4_putSource_53 rfl rfl ?_
      refine m_aaloadN (pc2 := 55) (t := w0) (kd := 24) (j2 := (w0 + 49)) (N := 4) w dX4_putSource_54 rfl rfl rfl rfl rfl rfl (by omega) rfl (by show 45 + (4 + w0) = w0 + 49; omega) ?_
      refine s_iload_n (pc2 := 56) w dX4_putSource_55 rfl rfl ?_
      refine s_iload_n (pc2 := 57) w dX4_putSource_56 rfl rfl ?_
      refine r_X3_ride (pc2 := 60) w dX4_putSource_57 rfl rfl rfl (by first | exact j1 | exact j2 | exact jv | exact j3) (by first | exact j1 | exact j2 | exact jv | exact j3) ?_
      refine s_aload (pc2 := 62) w dX4_putSource_60 rfl rfl ?_
      refine s_iload (pc2 := 64) w dX4_putSource_62 rfl rfl ?_
      refine m_putI (pc2 := 67) (ci := 6) (k := 3) w dX4_putSource_64 rfl rfl (by first | exact j1 | exact j2 | exact jv | exact j3) rfl rfl (by intro h; cases h) ?_
      refine s_aload (pc2 := 69) w dX4_putSource_67 rfl rfl ?_
      refine s_iconst (pc2 := 70) (v := gI 0) w dX4_putSource_69 rfl rfl ?_
      refine m_putI (pc2 := 73) (ci := 6) (k := 2) w dX4_putSource_70 rfl rfl (by first | exact j1 | exact j2 | exact jv | exact j3) rfl rfl (by intro h; cases h) ?_
      refine s_aload (pc2 := 75) w dX4_putSource_73 rfl rfl ?_
      refine s_iload (pc2 := 77) w dX4_putSource_75 rfl rfl ?_
      refine r_X7_append (pc2 := 80) (n0 := 0) w dX4_putSource_77 rfl rfl rfl (by first | exact j1 | exact j2 | exact jv | exact j3) j3 j4 (gk_up_in _ _ _ _) (by decide) (fun _ => ?_) (fun h => absurd (show 0 < 16 by decide) h)
      refine s_pop (pc2 := 81) w dX4_putSource_80 rfl rfl ?_
      refine s_aload_n (pc2 := 82) w dX4_putSource_81 rfl rfl ?_
      refine s_dup (pc2 := 83) w dX4_putSource_82 rfl rfl ?_
      refine m_getI (pc2 := 86) (ci := 4) (k := 5) w dX4_putSource_83 rfl rfl rfl rfl rfl ?_
      rw [gk_up_ne (show ¬ (44 = 3 * nS g + 53 ∧ 5 = 2) by omega), gk_up_ne (show ¬ (44 = 3 * nS g + 53 + 2 ∧ 5 = 0) by omega), gk_up_ne (show ¬ (44 = 3 * nS g + 53 ∧ 5 = 2) by omega), gk_up_ne (show ¬ (44 = 3 * nS g + 53 ∧ 5 = 3) by omega), gk_up_ne (show ¬ (44 = 3 * nS g + 54 ∧ 5 = 3) by omega), gk_up_ne (show ¬ (44 = 3 * nS g + 54 ∧ 5 = 2) by omega), gk_up_ne (show ¬ (44 = 3 * nS g + 54 ∧ 5 = 1) by omega), gk_up_ne (show ¬ (44 = 3 * nS g + 54 ∧ 5 = 0) by omega), e7]
      refine s_iconst (pc2 := 87) (v := gI 1) w dX4_putSource_86 rfl rfl ?_
      refine s_iadd (pc2 := 88) w dX4_putSource_87 rfl ?_
      rw [show nI (nS g) + gI 1 = nI (nS g + 1) from nI_s _]
      refine m_putI (pc2 := 91) (ci := 4) (k := 5) w dX4_putSource_88 rfl rfl rfl rfl rfl (by intro h; cases h) ?_
      refine s_iload (pc2 := 93) w dX4_putSource_91 rfl rfl ?_
      refine s_ireturn w dX4_putSource_93 rfl rfl ?_
      exact q0 hn _ (RS_AS hp2 rfl hn hp4 hp1 ⟨((gk_up_ne (by omega)).trans (gk_up_in _ _ _ _)), ((gk_up_ne (by omega)).trans ((gk_up_ne (by omega)).trans ((gk_up_ne (by omega)).trans ((gk_up_ne (by omega)).trans (gk_up_in _ _ _ _)))))⟩ ⟨((gk_up_ne (by omega)).trans ((gk_up_ne (by omega)).trans ((gk_up_ne (by omega)).trans ((gk_up_ne (by omega)).trans ((gk_up_ne (by omega)).trans ((gk_up_ne (by omega)).trans ((gk_up_ne (by omega)).trans ((gk_up_ne (by omega)).trans (gk_up_in _ _ _ _))))))))), ((gk_up_ne (by omega)).trans ((gk_up_ne (by omega)).trans ((gk_up_ne (by omega)).trans ((gk_up_ne (by omega)).trans ((gk_up_ne (by omega)).trans ((gk_up_ne (by omega)).trans ((gk_up_ne (by omega)).trans (gk_up_in _ _ _ _)))))))), ((gk_up_ne (by omega)).trans ((gk_up_ne (by omega)).trans ((gk_up_ne (by omega)).trans ((gk_up_ne (by omega)).trans ((gk_up_ne (by omega)).trans ((gk_up_ne (by omega)).trans (gk_up_in _ _ _ _))))))), ((gk_up_ne (by omega)).trans ((gk_up_ne (by omega)).trans ((gk_up_ne (by omega)).trans ((gk_up_ne (by omega)).trans ((gk_up_ne (by omega)).trans (gk_up_in _ _ _ _))))))⟩ ((gk_up_ne (by omega)).trans ((gk_up_ne (by omega)).trans (gk_up_in _ _ _ _))) (gk_up_in _ _ _ _) (fun i k h1 h2 => ((gk_up_ne (by omega)).trans ((gk_up_ne (by omega)).trans ((gk_up_ne (by omega)).trans ((gk_up_ne (by omega)).trans ((gk_up_ne (by omega)).trans ((gk_up_ne (by omega)).trans ((gk_up_ne (by omega)).trans ((gk_up_ne (by omega)).trans (gk_up_ne (by omega)))))))))))) (fun i k h => ((gk_up_ne (by omega)).trans ((gk_up_ne (by omega)).trans ((gk_up_ne (by omega)).trans ((gk_up_ne (by omega)).trans ((gk_up_ne (by omega)).trans ((gk_up_ne (by omega)).trans ((gk_up_ne (by omega)).trans ((gk_up_ne (by omega)).trans (gk_up_ne (by omega)))))))))))
    · refine s_aload_n (pc2 := 1) w dX4_putSource_0 rfl rfl ?_
      refine m_getI (pc2 := 4) (ci := 4) (k := 5) w dX4_putSource_1 rfl rfl rfl rfl rfl ?_
      rw [e7]
      refine s_istore (pc2 := 6) w dX4_putSource_4 rfl rfl ?_
      dsimp only [gk_s1, gk_s2, gk_cl]
      refine s_iload (pc2 := 8) w dX4_putSource_6 rfl rfl ?_
      refine s_if_lt (pc2 := 11) (tgt := 33) w dX4_putSource_8 rfl (by decide) (fun h0 => absurd h0 (by rw [show (0 : Int32) = gI 0 from rfl, gI_nI, gI_lt ⟨by omega, by omega⟩ ⟨by omega, by omega⟩]; omega)) (fun _ => ?_)
      refine s_iload (pc2 := 13) w dX4_putSource_11 rfl rfl ?_
      refine s_aload_n (pc2 := 14) w dX4_putSource_13 rfl rfl ?_
      refine m_getR (pc2 := 17) (ci := 4) (k := 1) (j2 := 46) w dX4_putSource_14 rfl rfl rfl rfl rfl rfl ?_
      refine m_alen (pc2 := 18) (kd := 25) (N := (gI 6)) w dX4_putSource_17 rfl rfl rfl rfl rfl ?_
      refine s_ic_ge (pc2 := 21) (tgt := 33) w dX4_putSource_18 rfl (by decide) (fun _ => ?_) (fun h0 => absurd (by rw [gI_nI, gI_le ⟨by omega, by omega⟩ ⟨by omega, by omega⟩]; omega) h0)
      refine s_iconst (pc2 := 34) (v := gI (-1)) w dX4_putSource_33 rfl rfl ?_
      refine s_ireturn w dX4_putSource_34 rfl rfl ?_
      exact q1 hn
theorem lk_X4_putSource {l : Launch} (hl : l.stackTraces = false) : ∀ q ∈ L_X4_putSource, (q.2.1 < 5 → gk_Lk l RX4 gk_W1 2 q.1 q.2.1 q.2.2.1 q.2.2.2.1 q.2.2.2.2.1 q.2.2.2.2.2) := (List.forall_mem_cons.mpr ⟨(fun _ => ⟨yX3_ride, cX3_ride, 4, none, 1, _, M_X3_ride hl, ⟨by decide, by decide⟩, ⟨by decide, by decide, by decide +kernel⟩, ⟨(gk_wm 669 (by decide +kernel)), (gk_wm 91 (by decide +kernel))⟩, Or.inr (Or.inr (Or.inr (Or.inl ⟨rfl, rfl, (gk_wm 667 (by decide +kernel)), (gk_wm 668 (by decide +kernel)), gk_wm 666 (by decide +kernel), by decide, rfl⟩)))⟩), (List.forall_mem_cons.mpr ⟨(fun _ => ⟨yX7_append, cX7_append, 2, (some .int), 0, _, M_X7_append hl, ⟨by decide, by decide⟩, ⟨by decide, by decide, by decide +kernel⟩, ⟨(gk_wm 674 (by decide +kernel)), (gk_wm 92 (by decide +kernel))⟩, Or.inr (Or.inr (Or.inr (Or.inl ⟨rfl, rfl, (gk_wm 672 (by decide +kernel)), (gk_wm 673 (by decide +kernel)), gk_wm 671 (by decide +kernel), by decide, rfl⟩)))⟩), (fun _ h => absurd h List.not_mem_nil)⟩)⟩)
theorem sp_X4_putSource : ∀ q ∈ L_X4_putSource, gk_Sq RX4 gk_W1 2 q := (List.forall_mem_cons.mpr ⟨⟨fun h => absurd h (by decide), fun h => absurd h (by decide), fun h => absurd h (by decide), fun h => absurd h (by decide), fun h => absurd h (by decide), fun h => absurd h (by decide)⟩, (List.forall_mem_cons.mpr ⟨⟨fun h => absurd h (by decide), fun h => absurd h (by decide), fun h => absurd h (by decide), fun h => absurd h (by decide), fun h => absurd h (by decide), fun h => absurd h (by decide)⟩, (fun _ h => absurd h List.not_mem_nil)⟩)⟩)
theorem M_X4_putSource {l : Launch} (hl : l.stackTraces = false) : gk_Mt l yX4_putSource (.code yX4_putSource cX4_putSource 8 (some .int) :: gk_W1) 2 0 S_X4_putSource := gk_meth hl gk_cw_ok (by decide +kernel) rfl m_X4_putSource pX4_ok (gk_Sp_of sp_X4_putSource) pX4_st (fun ci m S h => absurd h (by intro h; cases h)) (xf_X4 2) (fun idx kd ci mm cost S2 h h5 => lk_X4_putSource hl _ (gk_lk_mem h) h5)

def S_X4_putMicrophone : gk_S := fun as n fl x y K => ∃ (b : Nat) (a : Int32) (s : Int32) (e : Int32) (d : Int32) (g : Nat → Int32), as = [.ref b, .int a, .int s, .int e, .int d] ∧ (n = 202 ∧ fl = gk_fT) ∧ gk_kd b = 4 ∧ (b = 1 ∨ b = 44) ∧ (RS b g x y) ∧ (gWf g) ∧ (gWz g) ∧ (nM g < 8 → ∀ x2 : gk_X, RS b (gAM g (nM g) a s e d) x2 y → (∀ i k, ¬ (b ≤ i ∧ i < b + 43) → x2 i k = x i k) → K (.inl (some (.int (nI (nM g))))) n fl x2 y) ∧ (¬ nM g < 8 → K (.inl (some (.int (-1)))) n fl x y)
theorem r_X4_putMicrophone (w : gk_W c P cs (fun _ _ => none) rt uf sc K V) {idx : Nat} {b : Nat} {a : Int32} {s : Int32} {e : Int32} {d : Int32} {g : Nat → Int32} (hd : decode c pc = .ok (.invokevirtual idx, 3)) (hp : pc + 3 = pc2) (hc : cs idx = some (1, 4, 5, 0, S_X4_putMicrophone)) (h8 : Nat.ble (r.map Value.category).sum 8 = true) (hk0 : gk_kd b = 4) (hp0 : b = 1 ∨ b = 44) (hp1 : RS b g x y) (hp2 : gWf g) (hp3 : gWz g) (kk0 : nM g < 8 → ∀ x2 : gk_X, RS b (gAM g (nM g) a s e d) x2 y → (∀ i k, ¬ (b ≤ i ∧ i < b + 43) → x2 i k = x i k) → V pc2 L ((.int (nI (nM g))) :: r) 202 gk_fT x2 y u) (kk1 : ¬ nM g < 8 → V pc2 L ((.int (-1)) :: r) 202 gk_fT x y u) : V pc L (.int d :: .int e :: .int s :: .int a :: .ref b :: r) 202 gk_fT x y u :=
  g_callv w hd hp hc (as := [.ref b, .int a, .int s, .int e, .int d]) rfl h8 rfl rfl rfl (Or.inr (Or.inl ⟨Or.inl rfl, _, _, rfl, (gk_kd_j hk0 rfl), hk0⟩)) (Or.inl rfl) ⟨b, a, s, e, d, g, rfl, ⟨rfl, rfl⟩, hk0, hp0, hp1, hp2, hp3, kk0, kk1⟩
def L_X4_putMicrophone : List (Nat × gk_M0) := [(125, (0, 0, 2, 0, S_J7_fill_53178))]
def cs_X4_putMicrophone : Nat → Option gk_M0 := gk_lk L_X4_putMicrophone
theorem m_X4_putMicrophone : ∀ (as : List Value) (n : Nat) (fl : gk_F) (x : gk_X) (y : gk_Y) (K : gk_K), S_X4_putMicrophone as n fl x y K → (gk_L0 as).length ≤ 7 ∧ ∀ V : gk_V, gk_W cX4_putMicrophone pX4 cs_X4_putMicrophone (fun _ _ => none) (some .int) 0 none K V → V 0 (gk_en as 7) [] n fl x y 0 := by
  intro as n fl x y K hS
  obtain ⟨b, a, s, e, d, g, rfl, ⟨rfl, rfl⟩, hk0, hp0, hp1, hp2, hp3, q0, q1⟩ := hS
  refine ⟨Nat.le_of_ble_eq_true rfl, fun V w => ?_⟩
  show V 0 [some (.ref b), some (.int a), some (.int s), some (.int e), some (.int d), none, none] [] 202 gk_fT x y 0
  obtain ⟨nv4, ns6, nm8, z6, z7, z8⟩ := wf_n hp2
  have e8 : x b 6 = nI (nM g) := hp1.1.1.2.2.trans ((gz_I g 8).trans (congrArg gI z8))
  rcases hp0 with rfl | rfl
  · by_cases hn : nM g < 8
    · obtain ⟨j1, j2, j3⟩ := kdM (b := 1) (Or.inl rfl) hn
      refine s_aload_n (pc2 := 1) w dX4_putMicrophone_0 rfl rfl ?_
      refine m_getI (pc2 := 4) (ci := 4) (k := 6) w dX4_putMicrophone_1 rfl rfl rfl rfl rfl ?_
      rw [e8]
      refine s_istore (pc2 := 6) w dX4_putMicrophone_4 rfl rfl ?_
      dsimp only [gk_s1, gk_s2, gk_cl]
      refine s_iload (pc2 := 8) w dX4_putMicrophone_6 rfl rfl ?_
      refine s_if_lt (pc2 := 11) (tgt := 21) w dX4_putMicrophone_8 rfl (by decide) (fun h0 => absurd h0 (by rw [show (0 : Int32) = gI 0 from rfl, gI_nI, gI_lt ⟨by omega, by omega⟩ ⟨by omega, by omega⟩]; omega)) (fun _ => ?_)
      refine s_iload (pc2 := 13) w dX4_putMicrophone_11 rfl rfl ?_
      refine s_aload_n (pc2 := 14) w dX4_putMicrophone_13 rfl rfl ?_
      refine m_getR (pc2 := 17) (ci := 4) (k := 2) (j2 := 4) w dX4_putMicrophone_14 rfl rfl rfl rfl rfl rfl ?_
      refine m_alen (pc2 := 18) (kd := 26) (N := (gI 8)) w dX4_putMicrophone_17 rfl rfl rfl rfl rfl ?_
      refine s_ic_lt (pc2 := 21) (tgt := 23) w dX4_putMicrophone_18 rfl (by decide) (fun _ => ?_) (fun h0 => absurd (by rw [gI_nI, gI_lt ⟨by omega, by omega⟩ ⟨by omega, by omega⟩]; omega) h0)
      refine s_aload_n (pc2 := 24) w dX4_putMicrophone_23 rfl rfl ?_
      refine m_getR (pc2 := 27) (ci := 4) (k := 2) (j2 := 4) w dX4_putMicrophone_24 rfl rfl rfl rfl rfl rfl ?_
      refine s_iload (pc2 := 29) w dX4_putMicrophone_27 rfl rfl ?_
      refine m_aaloadN (pc2 := 30) (t := nM g) (kd := 26) (j2 := (2 * nM g + 28)) (N := 8) w dX4_putMicrophone_29 rfl rfl rfl rfl rfl rfl (by omega) rfl (by show 4 + (24 + 2 * nM g) = 2 * nM g + 28; omega) ?_
      refine s_astore (pc2 := 32) w dX4_putMicrophone_30 rfl rfl ?_
      dsimp only [gk_s1, gk_s2, gk_cl]
      refine s_aload (pc2 := 34) w dX4_putMicrophone_32 rfl rfl ?_
      refine s_iload_n (pc2 := 35) w dX4_putMicrophone_34 rfl rfl ?_
      refine m_putI (pc2 := 38) (ci := 1) (k := 1) w dX4_putMicrophone_35 rfl rfl (by first | exact j1 | exact j2) rfl rfl (by intro h; cases h) ?_
      refine s_aload (pc2 := 40) w dX4_putMicrophone_38 rfl rfl ?_
      refine s_iload_n (pc2 := 41) w dX4_putMicrophone_40 rfl rfl ?_
      refine m_putI (pc2 := 44) (ci := 1) (k := 2) w dX4_putMicrophone_41 rfl rfl (by first | exact j1 | exact j2) rfl rfl (by intro h; cases h) ?_
      refine s_aload (pc2 := 46) w dX4_putMicrophone_44 rfl rfl ?_
      refine s_iload_n (pc2 := 47) w dX4_putMicrophone_46 rfl rfl ?_
      refine m_putI (pc2 := 50) (ci := 1) (k := 3) w dX4_putMicrophone_47 rfl rfl (by first | exact j1 | exact j2) rfl rfl (by intro h; cases h) ?_
      refine s_aload (pc2 := 52) w dX4_putMicrophone_50 rfl rfl ?_
      refine s_iload (pc2 := 54) w dX4_putMicrophone_52 rfl rfl ?_
      refine m_putI (pc2 := 57) (ci := 1) (k := 4) w dX4_putMicrophone_54 rfl rfl (by first | exact j1 | exact j2) rfl rfl (by intro h; cases h) ?_
      refine s_aload (pc2 := 59) w dX4_putMicrophone_57 rfl rfl ?_
      refine m_getR (pc2 := 62) (ci := 1) (k := 0) (j2 := (2 * nM g + 29)) w dX4_putMicrophone_59 rfl rfl (by first | exact j1 | exact j2) rfl rfl rfl ?_
      refine s_iconst (pc2 := 63) (v := gI 0) w dX4_putMicrophone_62 rfl rfl ?_
      refine r_J7_fill_53178 (pc2 := 66) w dX4_putMicrophone_63 rfl rfl rfl (by first | exact j1 | exact j2) j3 ?_
      refine s_aload_n (pc2 := 67) w dX4_putMicrophone_66 rfl rfl ?_
      refine s_dup (pc2 := 68) w dX4_putMicrophone_67 rfl rfl ?_
      refine m_getI (pc2 := 71) (ci := 4) (k := 6) w dX4_putMicrophone_68 rfl rfl rfl rfl rfl ?_
      rw [gk_ur_ne (show 1 ≠ 2 * nM g + 28 + 1 by omega), gk_up_ne (show ¬ (1 = 2 * nM g + 28 ∧ 6 = 4) by omega), gk_up_ne (show ¬ (1 = 2 * nM g + 28 ∧ 6 = 3) by omega), gk_up_ne (show ¬ (1 = 2 * nM g + 28 ∧ 6 = 2) by omega), gk_up_ne (show ¬ (1 = 2 * nM g + 28 ∧ 6 = 1) by omega), e8]
      refine s_iconst (pc2 := 72) (v := gI 1) w dX4_putMicrophone_71 rfl rfl ?_
      refine s_iadd (pc2 := 73) w dX4_putMicrophone_72 rfl ?_
      rw [show nI (nM g) + gI 1 = nI (nM g + 1) from nI_s _]
      refine m_putI (pc2 := 76) (ci := 4) (k := 6) w dX4_putMicrophone_73 rfl rfl rfl rfl rfl (by intro h; cases h) ?_
      refine s_iload (pc2 := 78) w dX4_putMicrophone_76 rfl rfl ?_
      refine s_ireturn w dX4_putMicrophone_78 rfl rfl ?_
      exact q0 hn _ (RS_AM hp2 hp3 rfl hn hp1 ⟨((gk_up_ne (by omega)).trans ((gk_ur_ne (by omega)).trans ((gk_up_ne (by omega)).trans ((gk_up_ne (by omega)).trans ((gk_up_ne (by omega)).trans (gk_up_in _ _ _ _)))))), ((gk_up_ne (by omega)).trans ((gk_ur_ne (by omega)).trans ((gk_up_ne (by omega)).trans ((gk_up_ne (by omega)).trans (gk_up_in _ _ _ _))))), ((gk_up_ne (by omega)).trans ((gk_ur_ne (by omega)).trans ((gk_up_ne (by omega)).trans (gk_up_in _ _ _ _)))), ((gk_up_ne (by omega)).trans ((gk_ur_ne (by omega)).trans (gk_up_in _ _ _ _)))⟩ (fun k hk => (gk_up_ne (by omega)).trans (gk_ur_in hk)) (gk_up_in _ _ _ _) (fun i k h1 h2 h3 => ((gk_up_ne (by omega)).trans ((gk_ur_ne (by omega)).trans ((gk_up_ne (by omega)).trans ((gk_up_ne (by omega)).trans ((gk_up_ne (by omega)).trans (gk_up_ne (by omega))))))))) (fun i k h => ((gk_up_ne (by omega)).trans ((gk_ur_ne (by omega)).trans ((gk_up_ne (by omega)).trans ((gk_up_ne (by omega)).trans ((gk_up_ne (by omega)).trans (gk_up_ne (by omega))))))))
    · refine s_aload_n (pc2 := 1) w dX4_putMicrophone_0 rfl rfl ?_
      refine m_getI (pc2 := 4) (ci := 4) (k := 6) w dX4_putMicrophone_1 rfl rfl rfl rfl rfl ?_
      rw [e8]
      refine s_istore (pc2 := 6) w dX4_putMicrophone_4 rfl rfl ?_
      dsimp only [gk_s1, gk_s2, gk_cl]
      refine s_iload (pc2 := 8) w dX4_putMicrophone_6 rfl rfl ?_
      refine s_if_lt (pc2 := 11) (tgt := 21) w dX4_putMicrophone_8 rfl (by decide) (fun h0 => absurd h0 (by rw [show (0 : Int32) = gI 0 from rfl, gI_nI, gI_lt ⟨by omega, by omega⟩ ⟨by omega, by omega⟩]; omega)) (fun _ => ?_)
      refine s_iload (pc2 := 13) w dX4_putMicrophone_11 rfl rfl ?_
      refine s_aload_n (pc2 := 14) w dX4_putMicrophone_13 rfl rfl ?_
      refine m_getR (pc2 := 17) (ci := 4) (k := 2) (j2 := 4) w dX4_putMicrophone_14 rfl rfl rfl rfl rfl rfl ?_
      refine m_alen (pc2 := 18) (kd := 26) (N := (gI 8)) w dX4_putMicrophone_17 rfl rfl rfl rfl rfl ?_
      refine s_ic_lt (pc2 := 21) (tgt := 23) w dX4_putMicrophone_18 rfl (by decide) (fun h0 => absurd h0 (by rw [gI_nI, gI_lt ⟨by omega, by omega⟩ ⟨by omega, by omega⟩]; omega)) (fun _ => ?_)
      refine s_iconst (pc2 := 22) (v := gI (-1)) w dX4_putMicrophone_21 rfl rfl ?_
      refine s_ireturn w dX4_putMicrophone_22 rfl rfl ?_
      exact q1 hn
  · by_cases hn : nM g < 8
    · obtain ⟨j1, j2, j3⟩ := kdM (b := 44) (Or.inr rfl) hn
      refine s_aload_n (pc2 := 1) w dX4_putMicrophone_0 rfl rfl ?_
      refine m_getI (pc2 := 4) (ci := 4) (k := 6) w dX4_putMicrophone_1 rfl rfl rfl rfl rfl ?_
      rw [e8]
      refine s_istore (pc2 := 6) w dX4_putMicrophone_4 rfl rfl ?_
      dsimp only [gk_s1, gk_s2, gk_cl]
      refine s_iload (pc2 := 8) w dX4_putMicrophone_6 rfl rfl ?_
      refine s_if_lt (pc2 := 11) (tgt := 21) w dX4_putMicrophone_8 rfl (by decide) (fun h0 => absurd h0 (by rw [show (0 : Int32) = gI 0 from rfl, gI_nI, gI_lt ⟨by omega, by omega⟩ ⟨by omega, by omega⟩]; omega)) (fun _ => ?_)
      refine s_iload (pc2 := 13) w dX4_putMicrophone_11 rfl rfl ?_
      refine s_aload_n (pc2 := 14) w dX4_putMicrophone_13 rfl rfl ?_
      refine m_getR (pc2 := 17) (ci := 4) (k := 2) (j2 := 47) w dX4_putMicrophone_14 rfl rfl rfl rfl rfl rfl ?_
      refine m_alen (pc2 := 18) (kd := 26) (N := (gI 8)) w dX4_putMicrophone_17 rfl rfl rfl rfl rfl ?_
      refine s_ic_lt (pc2 := 21) (tgt := 23) w dX4_putMicrophone_18 rfl (by decide) (fun _ => ?_) (fun h0 => absurd (by rw [gI_nI, gI_lt ⟨by omega, by omega⟩ ⟨by omega, by omega⟩]; omega) h0)
      refine s_aload_n (pc2 := 24) w dX4_putMicrophone_23 rfl rfl ?_
      refine m_getR (pc2 := 27) (ci := 4) (k := 2) (j2 := 47) w dX4_putMicrophone_24 rfl rfl rfl rfl rfl rfl ?_
      refine s_iload (pc2 := 29) w dX4_putMicrophone_27 rfl rfl ?_
      refine m_aaloadN (pc2 := 30) (t := nM g) (kd := 26) (j2 := (2 * nM g + 71)) (N := 8) w dX4_putMicrophone_29 rfl rfl rfl rfl rfl rfl (by omega) rfl (by show 47 + (24 + 2 * nM g) = 2 * nM g + 71; omega) ?_
      refine s_astore (pc2 := 32) w dX4_putMicrophone_30 rfl rfl ?_
      dsimp only [gk_s1, gk_s2, gk_cl]
      refine s_aload (pc2 := 34) w dX4_putMicrophone_32 rfl rfl ?_
      refine s_iload_n (pc2 := 35) w dX4_putMicrophone_34 rfl rfl ?_
      refine m_putI (pc2 := 38) (ci := 1) (k := 1) w dX4_putMicrophone_35 rfl rfl (by first | exact j1 | exact j2) rfl rfl (by intro h; cases h) ?_
      refine s_aload (pc2 := 40) w dX4_putMicrophone_38 rfl rfl ?_
      refine s_iload_n (pc2 := 41) w dX4_putMicrophone_40 rfl rfl ?_
      refine m_putI (pc2 := 44) (ci := 1) (k := 2) w dX4_putMicrophone_41 rfl rfl (by first | exact j1 | exact j2) rfl rfl (by intro h; cases h) ?_
      refine s_aload (pc2 := 46) w dX4_putMicrophone_44 rfl rfl ?_
      refine s_iload_n (pc2 := 47) w dX4_putMicrophone_46 rfl rfl ?_
      refine m_putI (pc2 := 50) (ci := 1) (k := 3) w dX4_putMicrophone_47 rfl rfl (by first | exact j1 | exact j2) rfl rfl (by intro h; cases h) ?_
      refine s_aload (pc2 := 52) w dX4_putMicrophone_50 rfl rfl ?_
      refine s_iload (pc2 := 54) w dX4_putMicrophone_52 rfl rfl ?_
      refine m_putI (pc2 := 57) (ci := 1) (k := 4) w dX4_putMicrophone_54 rfl rfl (by first | exact j1 | exact j2) rfl rfl (by intro h; cases h) ?_
      refine s_aload (pc2 := 59) w dX4_putMicrophone_57 rfl rfl ?_
      refine m_getR (pc2 := 62) (ci := 1) (k := 0) (j2 := (2 * nM g + 72)) w dX4_putMicrophone_59 rfl rfl (by first | exact j1 | exact j2) rfl rfl rfl ?_
      refine s_iconst (pc2 := 63) (v := gI 0) w dX4_putMicrophone_62 rfl rfl ?_
      refine r_J7_fill_53178 (pc2 := 66) w dX4_putMicrophone_63 rfl rfl rfl (by first | exact j1 | exact j2) j3 ?_
      refine s_aload_n (pc2 := 67) w dX4_putMicrophone_66 rfl rfl ?_
      refine s_dup (pc2 := 68) w dX4_putMicrophone_67 rfl rfl ?_
      refine m_getI (pc2 := 71) (ci := 4) (k := 6) w dX4_putMicrophone_68 rfl rfl rfl rfl rfl ?_
      rw [gk_ur_ne (show 44 ≠ 2 * nM g + 71 + 1 by omega), gk_up_ne (show ¬ (44 = 2 * nM g + 71 ∧ 6 = 4) by omega), gk_up_ne (show ¬ (44 = 2 * nM g + 71 ∧ 6 = 3) by omega), gk_up_ne (show ¬ (44 = 2 * nM g + 71 ∧ 6 = 2) by omega), gk_up_ne (show ¬ (44 = 2 * nM g + 71 ∧ 6 = 1) by omega), e8]
      refine s_iconst (pc2 := 72) (v := gI 1) w dX4_putMicrophone_71 rfl rfl ?_
      refine s_iadd (pc2 := 73) w dX4_putMicrophone_72 rfl ?_
      rw [show nI (nM g) + gI 1 = nI (nM g + 1) from nI_s _]
      refine m_putI (pc2 := 76) (ci := 4) (k := 6) w dX4_putMicrophone_73 rfl rfl rfl rfl rfl (by intro h; cases h) ?_
      refine s_iload (pc2 := 78) w dX4_putMicrophone_76 rfl rfl ?_
      refine s_ireturn w dX4_putMicrophone_78 rfl rfl ?_
      exact q0 hn _ (RS_AM hp2 hp3 rfl hn hp1 ⟨((gk_up_ne (by omega)).trans ((gk_ur_ne (by omega)).trans ((gk_up_ne (by omega)).trans ((gk_up_ne (by omega)).trans ((gk_up_ne (by omega)).trans (gk_up_in _ _ _ _)))))), ((gk_up_ne (by omega)).trans ((gk_ur_ne (by omega)).trans ((gk_up_ne (by omega)).trans ((gk_up_ne (by omega)).trans (gk_up_in _ _ _ _))))), ((gk_up_ne (by omega)).trans ((gk_ur_ne (by omega)).trans ((gk_up_ne (by omega)).trans (gk_up_in _ _ _ _)))), ((gk_up_ne (by omega)).trans ((gk_ur_ne (by omega)).trans (gk_up_in _ _ _ _)))⟩ (fun k hk => (gk_up_ne (by omega)).trans (gk_ur_in hk)) (gk_up_in _ _ _ _) (fun i k h1 h2 h3 => ((gk_up_ne (by omega)).trans ((gk_ur_ne (by omega)).trans ((gk_up_ne (by omega)).trans ((gk_up_ne (by omega)).trans ((gk_up_ne (by omega)).trans (gk_up_ne (by omega))))))))) (fun i k h => ((gk_up_ne (by omega)).trans ((gk_ur_ne (by omega)).trans ((gk_up_ne (by omega)).trans ((gk_up_ne (by omega)).trans ((gk_up_ne (by omega)).trans (gk_up_ne (by omega))))))))
    · refine s_aload_n (pc2 := 1) w dX4_putMicrophone_0 rfl rfl ?_
      refine m_getI (pc2 := 4) (ci := 4) (k := 6) w dX4_putMicrophone_1 rfl rfl rfl rfl rfl ?_
      rw [e8]
      refine s_istore (pc2 := 6) w dX4_putMicrophone_4 rfl rfl ?_
      dsimp only [gk_s1, gk_s2, gk_cl]
      refine s_iload (pc2 := 8) w dX4_putMicrophone_6 rfl rfl ?_
      refine s_if_lt (pc2 := 11) (tgt := 21) w dX4_putMicrophone_8 rfl (by decide) (fun h0 => absurd h0 (by rw [show (0 : Int32) = gI 0 from rfl, gI_nI, gI_lt ⟨by omega, by omega⟩ ⟨by omega, by omega⟩]; omega)) (fun _ => ?_)
      refine s_iload (pc2 := 13) w dX4_putMicrophone_11 rfl rfl ?_
      refine s_aload_n (pc2 := 14) w dX4_putMicrophone_13 rfl rfl ?_
      refine m_getR (pc2 := 17) (ci := 4) (k := 2) (j2 := 47) w dX4_putMicrophone_14 rfl rfl rfl rfl rfl rfl ?_
      refine m_alen (pc2 := 18) (kd := 26) (N := (gI 8)) w dX4_putMicrophone_17 rfl rfl rfl rfl rfl ?_
      refine s_ic_lt (pc2 := 21) (tgt := 23) w dX4_putMicrophone_18 rfl (by decide) (fun h0 => absurd h0 (by rw [gI_nI, gI_lt ⟨by omega, by omega⟩ ⟨by omega, by omega⟩]; omega)) (fun _ => ?_)
      refine s_iconst (pc2 := 22) (v := gI (-1)) w dX4_putMicrophone_21 rfl rfl ?_
      refine s_ireturn w dX4_putMicrophone_22 rfl rfl ?_
      exact q1 hn
theorem lk_X4_putMicrophone {l : Launch} (hl : l.stackTraces = false) : ∀ q ∈ L_X4_putMicrophone, (q.2.1 < 5 → gk_Lk l RX4 gk_W1 1 q.1 q.2.1 q.2.2.1 q.2.2.2.1 q.2.2.2.2.1 q.2.2.2.2.2) := (List.forall_mem_cons.mpr ⟨(fun _ => ⟨yJ7_fill_53178, cJ7_fill_53178, 4, none, 0, _, M_J7_fill_53178 hl, ⟨by decide, by decide⟩, ⟨by decide, by decide, by decide +kernel⟩, ⟨(gk_wm 645 (by decide +kernel)), (gk_wm 106 (by decide +kernel))⟩, Or.inl ⟨rfl, rfl, (gk_wm 644 (by decide +kernel)), gk_wm 643 (by decide +kernel)⟩⟩), (fun _ h => absurd h List.not_mem_nil)⟩)
theorem sp_X4_putMicrophone : ∀ q ∈ L_X4_putMicrophone, gk_Sq RX4 gk_W1 1 q := (List.forall_mem_cons.mpr ⟨⟨fun h => absurd h (by decide), fun h => absurd h (by decide), fun h => absurd h (by decide), fun h => absurd h (by decide), fun h => absurd h (by decide), fun h => absurd h (by decide)⟩, (fun _ h => absurd h List.not_mem_nil)⟩)
theorem M_X4_putMicrophone {l : Launch} (hl : l.stackTraces = false) : gk_Mt l yX4_putMicrophone (.code yX4_putMicrophone cX4_putMicrophone 7 (some .int) :: gk_W1) 1 0 S_X4_putMicrophone := gk_meth hl gk_cw_ok (by decide +kernel) rfl m_X4_putMicrophone pX4_ok (gk_Sp_of sp_X4_putMicrophone) pX4_st (fun ci m S h => absurd h (by intro h; cases h)) (xf_X4 1) (fun idx kd ci mm cost S2 h h5 => lk_X4_putMicrophone hl _ (gk_lk_mem h) h5)

end GKV

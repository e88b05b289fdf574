/-! THE METHODS, 13: measures, powers, correlations -/
section GKV
variable {c : ByteArray} {P : gk_C} {cs : Nat → Option gk_M0} {rt : Option FieldType} {uf : Nat} {sc : Option Nat} {K : gk_K} {V : gk_V}
variable {L : List (Option Value)} {r : List Value} {n : Nat} {fl : gk_F} {x : gk_X} {y : gk_Y} {u pc pc2 : Nat}
/-- a measure of a row -/
def gk_ms (r : Nat → Int32) (k a b : Nat) : Int64 := if k = 0 then gL (gk_eI (fun t => (r t).toInt) a (b + 1 - a)) else if k = 1 then (gk_pk r a (b + 1 - a)).toInt64 else if k = 2 then gL (gk_bd 63 (gk_eI (fun t => (r t).toInt) a (b + 1 - a))) else if k = 3 then gL (gk_fd (fun t => (r t).toInt) a 1 0 (b + 1 - a)) else gL (gk_cx r a (b - a))
theorem gk_eI_nn (r : Nat → Int) (a : Nat) : ∀ n, 0 ≤ gk_eI r a n
  | 0 => Int.le_refl _
  | n + 1 => by
    have h1 := gk_eI_nn r a n
    have h2 : 0 ≤ r (a + n) * r (a + n) := by
      rcases Int.le_total 0 (r (a + n)) with h3 | h3
      · exact Int.mul_nonneg h3 h3
      · exact Int.mul_nonneg_of_nonpos_of_nonpos h3 h3
    show 0 ≤ gk_eI r a n + r (a + n) * r (a + n)
    omega
/-- a row's sample; 0 where there is none -/
def gk_at (r : Nat → Int32) (s : Int32) : Int32 := if 0 ≤ s ∧ s ≤ 255 then r s.toNatClampNeg else 0
theorem gk_at_e (r : Nat → Int32) (i : Int32) : (if i < 0 ∨ nI 256 ≤ i then 0 else r i.toNatClampNeg) = gk_at r i := by
  unfold gk_at
  by_cases h : 0 ≤ i ∧ i ≤ 255
  · rw [if_pos h, if_neg]
    intro h2
    rw [show nI 256 = gI 256 from rfl] at h2
    rw [Int32.le_iff_toInt_le, Int32.le_iff_toInt_le] at h
    rw [Int32.lt_iff_toInt_lt, Int32.le_iff_toInt_le, gI_of ⟨by decide, by decide⟩] at h2
    have e0 : (0 : Int32).toInt = 0 := by decide
    have e1 : (255 : Int32).toInt = 255 := by decide
    omega
  · rw [if_neg h, if_pos]
    rw [show nI 256 = gI 256 from rfl]
    rw [Int32.le_iff_toInt_le, Int32.le_iff_toInt_le] at h
    rw [Int32.lt_iff_toInt_lt, Int32.le_iff_toInt_le, gI_of ⟨by decide, by decide⟩]
    have e0 : (0 : Int32).toInt = 0 := by decide
    have e1 : (255 : Int32).toInt = 255 := by decide
    omega
def gk_pw (r : Nat → Int) (a p n : Nat) : Nat → Int
  | 0 => 0
  | i + 1 => gk_pw r a p n i + gk_fd r a p i n * gk_fd r a p i n
def gk_cv (r s : Nat → Int32) (lag : Int32) : Nat → Int
  | 0 => 0
  | n + 1 => gk_cv r s lag n + (r n).toInt * (gk_at s (nI n + lag)).toInt
theorem gk_bd_le : ∀ (f : Nat) (e : Int), gk_bd f e ≤ f
  | 0, _ => Nat.le_refl _
  | f + 1, e => by
    unfold gk_bd
    split
    · omega
    · have := gk_bd_le f (e / 2); omega
theorem gk_cx_le (r : Nat → Int32) (a : Nat) : ∀ n, gk_cx r a n ≤ n
  | 0 => Nat.le_refl _
  | n + 1 => by
    have := gk_cx_le r a n
    unfold gk_cx
    split <;> omega
def S_X6_measured : gk_S := fun as n fl x y K => ∃ (j : Nat) (ms : Int32) (f : Int32) (l : Int32) (k : Nat) (a : Nat) (b : Nat), as = [.ref j, .int ms, .int f, .int l] ∧ (n = 202 ∧ fl = gk_fT) ∧ gk_kd j = 20 ∧ (gk_ln j = 256) ∧ (ms = nI k) ∧ (k ≤ 4) ∧ (f = nI a) ∧ (l = nI b) ∧ (a ≤ b) ∧ (b < 256) ∧ (gk_eI (gr x j) a (b + 1 - a) ≤ 9223372036854775807) ∧ (K (.inl (some (.long (gk_ms (x j) k a b)))) n fl x y)
theorem r_X6_measured (w : gk_W c P cs (fun _ _ => none) rt uf sc K V) {idx : Nat} {j : Nat} {ms : Int32} {f : Int32} {l : Int32} {k : Nat} {a : Nat} {b : Nat} (hd : decode c pc = .ok (.invokestatic idx, 3)) (hp : pc + 3 = pc2) (hc : cs idx = some (0, 0, 4, 0, S_X6_measured)) (h8 : Nat.ble (r.map Value.category).sum 8 = true) (hk0 : gk_kd j = 20) (hp0 : gk_ln j = 256) (hp1 : ms = nI k) (hp2 : k ≤ 4) (hp3 : f = nI a) (hp4 : l = nI b) (hp5 : a ≤ b) (hp6 : b < 256) (hp7 : gk_eI (gr x j) a (b + 1 - a) ≤ 9223372036854775807) (kk0 : V pc2 L ((.long (gk_ms (x j) k a b)) :: r) 202 gk_fT x y u) : V pc L (.int l :: .int f :: .int ms :: .ref j :: r) 202 gk_fT x y u :=
  g_calls w hd hp hc (as := [.ref j, .int ms, .int f, .int l]) rfl h8 rfl rfl rfl (Or.inl rfl) (Or.inl rfl) ⟨j, ms, f, l, k, a, b, rfl, ⟨rfl, rfl⟩, hk0, hp0, hp1, hp2, hp3, hp4, hp5, hp6, hp7, kk0⟩
def L_X6_measured : List (Nat × gk_M0) := [(9, (0, 0, 3, 0, S_X6_energyOf)), (15, (0, 0, 3, 0, S_X6_peakOf)), (19, (0, 0, 1, 0, S_X6_binaryDigits)), (23, (0, 0, 4, 0, S_X6_sumOf)), (27, (0, 0, 3, 0, S_X6_crossingsOf))]
def cs_X6_measured : Nat → Option gk_M0 := gk_lk L_X6_measured
theorem m_X6_measured : ∀ (as : List Value) (n : Nat) (fl : gk_F) (x : gk_X) (y : gk_Y) (K : gk_K), S_X6_measured as n fl x y K → (gk_L0 as).length ≤ 4 ∧ ∀ V : gk_V, gk_W cX6_measured pX6 cs_X6_measured (fun _ _ => none) (some .long) 0 none K V → V 0 (gk_en as 4) [] n fl x y 0 := by
  intro as n fl x y K hS
  obtain ⟨j, ms, f, l, k, a, b, rfl, ⟨rfl, rfl⟩, hk0, hp0, hp1, hp2, hp3, hp4, hp5, hp6, hp7, q0⟩ := hS
  refine ⟨Nat.le_of_ble_eq_true rfl, fun V w => ?_⟩
  show V 0 [some (.ref j), some (.int ms), some (.int f), some (.int l)] [] 202 gk_fT x y 0
  subst hp1 hp3 hp4
  have hk : k = 0 ∨ k = 1 ∨ k = 2 ∨ k = 3 ∨ k = 4 := by omega
  rcases hk with rfl | rfl | rfl | rfl | rfl
  · refine s_iload_n (pc2 := 1) w dX6_measured_0 rfl rfl ?_
    refine s_tabIn (tgt := 32) w dX6_measured_1 (by decide) (by decide) rfl (by decide) ?_
    refine s_aload_n (pc2 := 33) w dX6_measured_32 rfl rfl ?_
    refine s_iload_n (pc2 := 34) w dX6_measured_33 rfl rfl ?_
    refine s_iload_n (pc2 := 35) w dX6_measured_34 rfl rfl ?_
    refine r_X6_energyOf (pc2 := 38) w dX6_measured_35 rfl rfl rfl hk0 hp0 rfl rfl (by omega) (by omega) ?_
    refine s_lreturn w dX6_measured_38 rfl ?_
    exact q0
  · refine s_iload_n (pc2 := 1) w dX6_measured_0 rfl rfl ?_
    refine s_tabIn (tgt := 39) w dX6_measured_1 (by decide) (by decide) rfl (by decide) ?_
    refine s_aload_n (pc2 := 40) w dX6_measured_39 rfl rfl ?_
    refine s_iload_n (pc2 := 41) w dX6_measured_40 rfl rfl ?_
    refine s_iload_n (pc2 := 42) w dX6_measured_41 rfl rfl ?_
    refine r_X6_peakOf (pc2 := 45) w dX6_measured_42 rfl rfl rfl hk0 hp0 rfl rfl (by omega) (by omega) ?_
    refine s_i2l (pc2 := 46) w dX6_measured_45 rfl ?_
    refine s_lreturn w dX6_measured_46 rfl ?_
    exact q0
  · refine s_iload_n (pc2 := 1) w dX6_measured_0 rfl rfl ?_
    refine s_tabIn (tgt := 47) w dX6_measured_1 (by decide) (by decide) rfl (by decide) ?_
    refine s_aload_n (pc2 := 48) w dX6_measured_47 rfl rfl ?_
    refine s_iload_n (pc2 := 49) w dX6_measured_48 rfl rfl ?_
    refine s_iload_n (pc2 := 50) w dX6_measured_49 rfl rfl ?_
    refine r_X6_energyOf (pc2 := 53) w dX6_measured_50 rfl rfl rfl hk0 hp0 rfl rfl (by omega) (by omega) ?_
    refine r_X6_binaryDigits (pc2 := 56) w dX6_measured_53 rfl rfl rfl rfl ⟨gk_eI_nn _ _ _, hp7⟩ ?_
    refine s_i2l (pc2 := 57) w dX6_measured_56 rfl ?_
    refine s_lreturn w dX6_measured_57 rfl ?_
    rw [gI_nI, gIL ⟨by omega, by have := gk_bd_le 63 (gk_eI (gr x j) a (b + 1 - a)); omega⟩]
    exact q0
  · refine s_iload_n (pc2 := 1) w dX6_measured_0 rfl rfl ?_
    refine s_tabIn (tgt := 58) w dX6_measured_1 (by decide) (by decide) rfl (by decide) ?_
    refine s_aload_n (pc2 := 59) w dX6_measured_58 rfl rfl ?_
    refine s_iload_n (pc2 := 60) w dX6_measured_59 rfl rfl ?_
    refine s_iload_n (pc2 := 61) w dX6_measured_60 rfl rfl ?_
    refine s_iconst (pc2 := 62) (v := 1) w dX6_measured_61 rfl rfl ?_
    refine r_X6_sumOf (pc2 := 65) (p := 1) (i := 0) (a := a) w dX6_measured_62 rfl rfl rfl hk0 hp0 rfl rfl rfl (by decide) (by decide) (by omega) (by omega) ?_
    refine s_lreturn w dX6_measured_65 rfl ?_
    exact q0
  · refine s_iload_n (pc2 := 1) w dX6_measured_0 rfl rfl ?_
    refine s_tabOut (tgt := 66) w dX6_measured_1 (by decide) (by decide) ?_
    refine s_aload_n (pc2 := 67) w dX6_measured_66 rfl rfl ?_
    refine s_iload_n (pc2 := 68) w dX6_measured_67 rfl rfl ?_
    refine s_iload_n (pc2 := 69) w dX6_measured_68 rfl rfl ?_
    refine r_X6_crossingsOf (pc2 := 72) w dX6_measured_69 rfl rfl rfl hk0 hp0 rfl rfl hp5 hp6 ?_
    refine s_i2l (pc2 := 73) w dX6_measured_72 rfl ?_
    refine s_lreturn w dX6_measured_73 rfl ?_
    rw [gI_nI, gIL ⟨by omega, by have := gk_cx_le (x j) a (b - a); omega⟩]
    exact q0
theorem lk_X6_measured {l : Launch} (hl : l.stackTraces = false) : ∀ q ∈ L_X6_measured, (q.2.1 < 5 → gk_Lk l RX6 gk_W1 2 q.1 q.2.1 q.2.2.1 q.2.2.2.1 q.2.2.2.2.1 q.2.2.2.2.2) := (List.forall_mem_cons.mpr ⟨(fun _ => ⟨yX6_energyOf, cX6_energyOf, 6, (some .long), 0, _, M_X6_energyOf hl, ⟨by decide, by decide⟩, ⟨by decide, by decide, by decide +kernel⟩, ⟨(gk_wm 984 (by decide +kernel)), (gk_wm 108 (by decide +kernel))⟩, Or.inl ⟨rfl, rfl, (gk_wm 983 (by decide +kernel)), gk_wm 982 (by decide +kernel)⟩⟩), (List.forall_mem_cons.mpr ⟨(fun _ => ⟨yX6_peakOf, cX6_peakOf, 5, (some .int), 1, _, M_X6_peakOf hl, ⟨by decide, by decide⟩, ⟨by decide, by decide, by decide +kernel⟩, ⟨(gk_wm 987 (by decide +kernel)), (gk_wm 108 (by decide +kernel))⟩, Or.inl ⟨rfl, rfl, (gk_wm 986 (by decide +kernel)), gk_wm 985 (by decide +kernel)⟩⟩), (List.forall_mem_cons.mpr ⟨(fun _ => ⟨yX6_binaryDigits, cX6_binaryDigits, 3, (some .int), 0, _, M_X6_binaryDigits hl, ⟨by decide, by decide⟩, ⟨by decide, by decide, by decide +kernel⟩, ⟨(gk_wm 994 (by decide +kernel)), (gk_wm 108 (by decide +kernel))⟩, Or.inl ⟨rfl, rfl, (gk_wm 993 (by decide +kernel)), gk_wm 992 (by decide +kernel)⟩⟩), (List.forall_mem_cons.mpr ⟨(fun _ => ⟨yX6_sumOf, cX6_sumOf, 7, (some .long), 0, _, M_X6_sumOf hl, ⟨by decide, by decide⟩, ⟨by decide, by decide, by decide +kernel⟩, ⟨(gk_wm 997 (by decide +kernel)), (gk_wm 108 (by decide +kernel))⟩, Or.inl ⟨rfl, rfl, (gk_wm 996 (by decide +kernel)), gk_wm 995 (by decide +kernel)⟩⟩), (List.forall_mem_cons.mpr ⟨(fun _ => ⟨yX6_crossingsOf, cX6_crossingsOf, 5, (some .int), 1, _, M_X6_crossingsOf hl, ⟨by decide, by decide⟩, ⟨by decide, by decide, by decide +kernel⟩, ⟨(gk_wm 1000 (by decide +kernel)), (gk_wm 108 (by decide +kernel))⟩, Or.inl ⟨rfl, rfl, (gk_wm 999 (by decide +kernel)), gk_wm 998 (by decide +kernel)⟩⟩), (fun _ h => absurd h List.not_mem_nil)⟩)⟩)⟩)⟩)⟩)
theorem sp_X6_measured : ∀ q ∈ L_X6_measured, gk_Sq RX6 gk_W1 2 q := (List.forall_mem_cons.mpr ⟨⟨fun h => absurd h (by decide), fun h => absurd h (by decide), fun h => absurd h (by decide), fun h => absurd h (by decide), fun h => absurd h (by decide), fun h => absurd h (by decide)⟩, (List.forall_mem_cons.mpr ⟨⟨fun h => absurd h (by decide), fun h => absurd h (by decide), fun h => absurd h (by decide), fun h => absurd h (by decide), fun h => absurd h (by decide), fun h => absurd h (by decide)⟩, (List.forall_mem_cons.mpr ⟨⟨fun h => absurd h (by decide), fun h => absurd h (by decide), fun h => absurd h (by decide), fun h => absurd h (by decide), fun h => absurd h (by decide), fun h => absurd h (by decide)⟩, (List.forall_mem_cons.mpr ⟨⟨fun h => absurd h (by decide), fun h => absurd h (by decide), fun h => absurd h (by decide), fun h => absurd h (by decide), fun h => absurd h (by decide), fun h => absurd h (by decide)⟩, (List.forall_mem_cons.mpr ⟨⟨fun h => absurd h (by decide), fun h => absurd h (by decide), fun h => absurd h (by decide), fun h => absurd h (by decide), fun h => absurd h (by decide), fun h => absurd h (by decide)⟩, (fun _ h => absurd h List.not_mem_nil)⟩)⟩)⟩)⟩)⟩)
theorem M_X6_measured {l : Launch} (hl : l.stackTraces = false) : gk_Mt l yX6_measured (.code yX6_measured cX6_measured 4 (some .long) :: gk_W1) 2 0 S_X6_measured := gk_meth hl gk_cw_ok (by decide +kernel) rfl m_X6_measured pX6_ok (gk_Sp_of sp_X6_measured) pX6_st (fun ci m S h => absurd h (by intro h; cases h)) (xf_X6 2) (fun idx kd ci mm cost S2 h h5 => lk_X6_measured hl _ (gk_lk_mem h) h5)

def S_X11_measureOf : gk_S := fun as n fl x y K => ∃ (ms : Int32) (f : Int32) (l : Int32) (k : Nat) (a : Nat) (b : Nat), as = [.ref 189, .int ms, .int f, .int l] ∧ (n = 202 ∧ fl = gk_fT) ∧ (ms = nI k) ∧ (k ≤ 4) ∧ (f = nI a) ∧ (l = nI b) ∧ (a ≤ b) ∧ (b < 256) ∧ (gk_eI (gr x 196) a (b + 1 - a) ≤ 9223372036854775807) ∧ (K (.inl (some (.long (gk_ms (x 196) k a b)))) n fl x y)
theorem r_X11_measureOf (w : gk_W c P cs (fun _ _ => none) rt uf sc K V) {idx : Nat} {ms : Int32} {f : Int32} {l : Int32} {k : Nat} {a : Nat} {b : Nat} (hd : decode c pc = .ok (.invokevirtual idx, 3)) (hp : pc + 3 = pc2) (hc : cs idx = some (1, 10, 4, 0, S_X11_measureOf)) (h8 : Nat.ble (r.map Value.category).sum 8 = true) (hp0 : ms = nI k) (hp1 : k ≤ 4) (hp2 : f = nI a) (hp3 : l = nI b) (hp4 : a ≤ b) (hp5 : b < 256) (hp6 : gk_eI (gr x 196) a (b + 1 - a) ≤ 9223372036854775807) (kk0 : V pc2 L ((.long (gk_ms (x 196) k a b)) :: r) 202 gk_fT x y u) : V pc L (.int l :: .int f :: .int ms :: .ref 189 :: r) 202 gk_fT x y u :=
  g_callv w hd hp hc (as := [.ref 189, .int ms, .int f, .int l]) rfl h8 rfl rfl rfl (Or.inr (Or.inl ⟨Or.inl rfl, _, _, rfl, (gk_kd_j rfl rfl), rfl⟩)) (Or.inl rfl) ⟨ms, f, l, k, a, b, rfl, ⟨rfl, rfl⟩, hp0, hp1, hp2, hp3, hp4, hp5, hp6, kk0⟩
def L_X11_measureOf : List (Nat × gk_M0) := [(184, (1, 10, 3, 0, S_X11_energyOf)), (188, (1, 10, 3, 0, S_X11_peakOf)), (191, (0, 10, 1, 0, S_X11_digitsOf)), (194, (1, 10, 3, 0, S_X11_sumOf)), (197, (1, 10, 3, 0, S_X11_crossingsOf))]
def cs_X11_measureOf : Nat → Option gk_M0 := gk_lk L_X11_measureOf
theorem m_X11_measureOf : ∀ (as : List Value) (n : Nat) (fl : gk_F) (x : gk_X) (y : gk_Y) (K : gk_K), S_X11_measureOf as n fl x y K → (gk_L0 as).length ≤ 4 ∧ ∀ V : gk_V, gk_W cX11_measureOf pX11 cs_X11_measureOf (fun _ _ => none) (some .long) 0 none K V → V 0 (gk_en as 4) [] n fl x y 0 := by
  intro as n fl x y K hS
  obtain ⟨ms, f, l, k, a, b, rfl, ⟨rfl, rfl⟩, hp0, hp1, hp2, hp3, hp4, hp5, hp6, q0⟩ := hS
  refine ⟨Nat.le_of_ble_eq_true rfl, fun V w => ?_⟩
  show V 0 [some (.ref 189), some (.int ms), some (.int f), some (.int l)] [] 202 gk_fT x y 0
  subst hp0 hp2 hp3
  have hk : k = 0 ∨ k = 1 ∨ k = 2 ∨ k = 3 ∨ k = 4 := by omega
  rcases hk with rfl | rfl | rfl | rfl | rfl
  · refine s_iload_n (pc2 := 1) w dX11_measureOf_0 rfl rfl ?_
    refine s_tabIn (tgt := 32) w dX11_measureOf_1 (by decide) (by decide) rfl (by decide) ?_
    refine s_aload_n (pc2 := 33) w dX11_measureOf_32 rfl rfl ?_
    refine s_iload_n (pc2 := 34) w dX11_measureOf_33 rfl rfl ?_
    refine s_iload_n (pc2 := 35) w dX11_measureOf_34 rfl rfl ?_
    refine r_X11_energyOf (pc2 := 38) w dX11_measureOf_35 rfl rfl rfl rfl rfl (by omega) (by omega) ?_
    refine s_lreturn w dX11_measureOf_38 rfl ?_
    exact q0
  · refine s_iload_n (pc2 := 1) w dX11_measureOf_0 rfl rfl ?_
    refine s_tabIn (tgt := 39) w dX11_measureOf_1 (by decide) (by decide) rfl (by decide) ?_
    refine s_aload_n (pc2 := 40) w dX11_measureOf_39 rfl rfl ?_
    refine s_iload_n (pc2 := 41) w dX11_measureOf_40 rfl rfl ?_
    refine s_iload_n (pc2 := 42) w dX11_measureOf_41 rfl rfl ?_
    refine r_X11_peakOf (pc2 := 45) w dX11_measureOf_42 rfl rfl rfl rfl rfl (by omega) (by omega) ?_
    refine s_i2l (pc2 := 46) w dX11_measureOf_45 rfl ?_
    refine s_lreturn w dX11_measureOf_46 rfl ?_
    exact q0
  · refine s_iload_n (pc2 := 1) w dX11_measureOf_0 rfl rfl ?_
    refine s_tabIn (tgt := 47) w dX11_measureOf_1 (by decide) (by decide) rfl (by decide) ?_
    refine s_aload_n (pc2 := 48) w dX11_measureOf_47 rfl rfl ?_
    refine s_iload_n (pc2 := 49) w dX11_measureOf_48 rfl rfl ?_
    refine s_iload_n (pc2 := 50) w dX11_measureOf_49 rfl rfl ?_
    refine r_X11_energyOf (pc2 := 53) w dX11_measureOf_50 rfl rfl rfl rfl rfl (by omega) (by omega) ?_
    refine r_X11_digitsOf (pc2 := 56) w dX11_measureOf_53 rfl rfl rfl rfl ⟨gk_eI_nn _ _ _, hp6⟩ ?_
    refine s_i2l (pc2 := 57) w dX11_measureOf_56 rfl ?_
    refine s_lreturn w dX11_measureOf_57 rfl ?_
    rw [gI_nI, gIL ⟨by omega, by have := gk_bd_le 63 (gk_eI (gr x 196) a (b + 1 - a)); omega⟩]
    exact q0
  · refine s_iload_n (pc2 := 1) w dX11_measureOf_0 rfl rfl ?_
    refine s_tabIn (tgt := 58) w dX11_measureOf_1 (by decide) (by decide) rfl (by decide) ?_
    refine s_aload_n (pc2 := 59) w dX11_measureOf_58 rfl rfl ?_
    refine s_iload_n (pc2 := 60) w dX11_measureOf_59 rfl rfl ?_
    refine s_iload_n (pc2 := 61) w dX11_measureOf_60 rfl rfl ?_
    refine r_X11_sumOf (pc2 := 64) w dX11_measureOf_61 rfl rfl rfl rfl rfl (by omega) (by omega) ?_
    refine s_lreturn w dX11_measureOf_64 rfl ?_
    exact q0
  · refine s_iload_n (pc2 := 1) w dX11_measureOf_0 rfl rfl ?_
    refine s_tabOut (tgt := 65) w dX11_measureOf_1 (by decide) (by decide) ?_
    refine s_aload_n (pc2 := 66) w dX11_measureOf_65 rfl rfl ?_
    refine s_iload_n (pc2 := 67) w dX11_measureOf_66 rfl rfl ?_
    refine s_iload_n (pc2 := 68) w dX11_measureOf_67 rfl rfl ?_
    refine r_X11_crossingsOf (pc2 := 71) w dX11_measureOf_68 rfl rfl rfl rfl rfl hp4 hp5 ?_
    refine s_i2l (pc2 := 72) w dX11_measureOf_71 rfl ?_
    refine s_lreturn w dX11_measureOf_72 rfl ?_
    rw [gI_nI, gIL ⟨by omega, by have := gk_cx_le (x 196) a (b - a); omega⟩]
    exact q0
theorem lk_X11_measureOf {l : Launch} (hl : l.stackTraces = false) : ∀ q ∈ L_X11_measureOf, (q.2.1 < 5 → gk_Lk l RX11 gk_W1 2 q.1 q.2.1 q.2.2.1 q.2.2.2.1 q.2.2.2.2.1 q.2.2.2.2.2) := (List.forall_mem_cons.mpr ⟨(fun _ => ⟨yX11_energyOf, cX11_energyOf, 6, (some .long), 0, _, M_X11_energyOf hl, ⟨by decide, by decide⟩, ⟨by decide, by decide, by decide +kernel⟩, ⟨(gk_wm 1537 (by decide +kernel)), (gk_wm 99 (by decide +kernel))⟩, Or.inr (Or.inr (Or.inr (Or.inl ⟨rfl, rfl, (gk_wm 1536 (by decide +kernel)), (gk_wm 57 (by decide +kernel)), gk_wm 1534 (by decide +kernel), by decide, rfl⟩)))⟩), (List.forall_mem_cons.mpr ⟨(fun _ => ⟨yX11_peakOf, cX11_peakOf, 5, (some .int), 1, _, M_X11_peakOf hl, ⟨by decide, by decide⟩, ⟨by decide, by decide, by decide +kernel⟩, ⟨(gk_wm 1541 (by decide +kernel)), (gk_wm 99 (by decide +kernel))⟩, Or.inr (Or.inr (Or.inr (Or.inl ⟨rfl, rfl, (gk_wm 1540 (by decide +kernel)), (gk_wm 58 (by decide +kernel)), gk_wm 1538 (by decide +kernel), by decide, rfl⟩)))⟩), (List.forall_mem_cons.mpr ⟨(fun _ => ⟨yX11_digitsOf, cX11_digitsOf, 5, (some .int), 0, _, M_X11_digitsOf hl, ⟨by decide, by decide⟩, ⟨by decide, by decide, by decide +kernel⟩, ⟨(gk_wm 1545 (by decide +kernel)), (gk_wm 99 (by decide +kernel))⟩, Or.inl ⟨rfl, rfl, (gk_wm 1544 (by decide +kernel)), gk_wm 1543 (by decide +kernel)⟩⟩), (List.forall_mem_cons.mpr ⟨(fun _ => ⟨yX11_sumOf, cX11_sumOf, 6, (some .long), 0, _, M_X11_sumOf hl, ⟨by decide, by decide⟩, ⟨by decide, by decide, by decide +kernel⟩, ⟨(gk_wm 1549 (by decide +kernel)), (gk_wm 99 (by decide +kernel))⟩, Or.inr (Or.inr (Or.inr (Or.inl ⟨rfl, rfl, (gk_wm 1548 (by decide +kernel)), (gk_wm 59 (by decide +kernel)), gk_wm 1546 (by decide +kernel), by decide, rfl⟩)))⟩), (List.forall_mem_cons.mpr ⟨(fun _ => ⟨yX11_crossingsOf, cX11_crossingsOf, 5, (some .int), 1, _, M_X11_crossingsOf hl, ⟨by decide, by decide⟩, ⟨by decide, by decide, by decide +kernel⟩, ⟨(gk_wm 1553 (by decide +kernel)), (gk_wm 99 (by decide +kernel))⟩, Or.inr (Or.inr (Or.inr (Or.inl ⟨rfl, rfl, (gk_wm 1552 (by decide +kernel)), (gk_wm 60 (by decide +kernel)), gk_wm 1550 (by decide +kernel), by decide, rfl⟩)))⟩), (fun _ h => absurd h List.not_mem_nil)⟩)⟩)⟩)⟩)⟩)
theorem sp_X11_measureOf : ∀ q ∈ L_X11_measureOf, gk_Sq RX11 gk_W1 2 q := (List.forall_mem_cons.mpr ⟨⟨fun h => absurd h (by decide), fun h => absurd h (by decide), fun h => absurd h (by decide), fun h => absurd h (by decide), fun h => absurd h (by decide), fun h => absurd h (by decide)⟩, (List.forall_mem_cons.mpr ⟨⟨fun h => absurd h (by decide), fun h => absurd h (by decide), fun h => absurd h (by decide), fun h => absurd h (by decide), fun h => absurd h (by decide), fun h => absurd h (by decide)⟩, (List.forall_mem_cons.mpr ⟨⟨fun h => absurd h (by decide), fun h => absurd h (by decide), fun h => absurd h (by decide), fun h => absurd h (by decide), fun h => absurd h (by decide), fun h => absurd h (by decide)⟩, (List.forall_mem_cons.mpr ⟨⟨fun h => absurd h (by decide), fun h => absurd h (by decide), fun h => absurd h (by decide), fun h => absurd h (by decide), fun h => absurd h (by decide), fun h => absurd h (by decide)⟩, (List.forall_mem_cons.mpr ⟨⟨fun h => absurd h (by decide), fun h => absurd h (by decide), fun h => absurd h (by decide), fun h => absurd h (by decide), fun h => absurd h (by decide), fun h => absurd h (by decide)⟩, (fun _ h => absurd h List.not_mem_nil)⟩)⟩)⟩)⟩)⟩)
theorem M_X11_measureOf {l : Launch} (hl : l.stackTraces = false) : gk_Mt l yX11_measureOf (.code yX11_measureOf cX11_measureOf 4 (some .long) :: gk_W1) 2 0 S_X11_measureOf := gk_meth hl gk_cw_ok (by decide +kernel) rfl m_X11_measureOf pX11_ok (gk_Sp_of sp_X11_measureOf) pX11_st (fun ci m S h => absurd h (by intro h; cases h)) (xf_X11 2) (fun idx kd ci mm cost S2 h h5 => lk_X11_measureOf hl _ (gk_lk_mem h) h5)

end GKV

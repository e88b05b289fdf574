/-! THE METHODS, 15: rows laid, correlations, shifts -/
section GKV
variable {c : ByteArray} {P : gk_C} {cs : Nat → Option gk_M0} {rt : Option FieldType} {uf : Nat} {sc : Option Nat} {K : gk_K} {V : gk_V}
variable {L : List (Option Value)} {r : List Value} {n : Nat} {fl : gk_F} {x : gk_X} {y : gk_Y} {u pc pc2 : Nat}
theorem gk_at_n {r : Nat → Int32} {n : Nat} (h : n < 256) : gk_at r (nI n) = r n := by
  unfold gk_at
  have e : (nI n).toNatClampNeg = n := by
    show (gI (n : Int)).toInt.toNat = n
    rw [gI_of ⟨by omega, by omega⟩]
    rfl
  rw [if_pos, e]
  rw [show (0 : Int32) = gI 0 from rfl, show (255 : Int32) = gI 255 from rfl, gI_nI, gI_le ⟨by decide, by decide⟩ ⟨by omega, by omega⟩, gI_le ⟨by omega, by omega⟩ ⟨by decide, by decide⟩]
  omega
theorem xor_neg (a b : Int32) : (a ^^^ b).toInt < 0 ↔ ((a.toInt < 0 ∧ 0 ≤ b.toInt) ∨ (0 ≤ a.toInt ∧ b.toInt < 0)) := by
  have h : ∀ v : Int32, v.toBitVec.msb = decide (v.toInt < 0) := fun v => BitVec.msb_eq_toInt
  have h1 := h (a ^^^ b)
  rw [Int32.toBitVec_xor, BitVec.msb_xor, h a, h b] at h1
  by_cases ha : a.toInt < 0 <;> by_cases hb : b.toInt < 0 <;> by_cases hc : (a ^^^ b).toInt < 0 <;> simp only [ha, hb, hc, decide_true, decide_false] at h1 <;> first | omega | exact absurd h1 (by decide)
theorem neg_td {A B : Int} (hA : A < 0) (hB : 0 < B) : A.tdiv B = -((-A) / B) ∧ A.tmod B = -((-A) % B) := by
  have e : A = -(-A) := by omega
  constructor
  · conv => lhs; rw [e]
    rw [Int.neg_tdiv, Int.tdiv_eq_ediv_of_nonneg (by omega)]
  · conv => lhs; rw [e]
    rw [Int.neg_tmod, Int.tmod_eq_emod_of_nonneg (by omega)]
theorem fdiv_0 {A B : Int} (hB : 0 < B) (h : A.tdiv B * B = A) : A / B = A.tdiv B := ((Int.ediv_emod_unique (q := A.tdiv B) (r := 0) hB).mpr ⟨by rw [Int.mul_comm]; omega, Int.le_refl _, hB⟩).1
theorem fdiv_1 {A B : Int} (hA : A < 0) (hB : 0 < B) (h : ¬ A.tdiv B * B = A) : A / B = A.tdiv B - 1 := by
  have h1 := Int.mul_tdiv_add_tmod A B
  have hn := (neg_td hA hB).2
  have hn1 := Int.emod_nonneg (-A) (show B ≠ 0 by omega)
  have hn2 := Int.emod_lt_of_pos (-A) hB
  have h2 : A.tmod B ≤ 0 := by omega
  have h3 : -B < A.tmod B := by omega
  have h4 := Int.mul_comm (A.tdiv B) B
  exact ((Int.ediv_emod_unique (q := A.tdiv B - 1) (r := B + A.tmod B) hB).mpr ⟨by rw [Int.mul_sub, Int.mul_one]; omega, by omega, by omega⟩).1
def S_J9_floorDiv_7cf53 : gk_S := fun as n fl x y K => ∃ (a : Int32) (b : Int32) (A : Int) (B : Int), as = [.int a, .int b] ∧ (n = 202 ∧ fl = gk_fT) ∧ (a = gI A) ∧ (b = gI B) ∧ (gR A) ∧ (1 ≤ B ∧ B ≤ 2147483647) ∧ (K (.inl (some (.int (gI (A / B))))) n fl x y)
theorem r_J9_floorDiv_7cf53 (w : gk_W c P cs (fun _ _ => none) rt uf sc K V) {idx : Nat} {a : Int32} {b : Int32} {A : Int} {B : Int} (hd : decode c pc = .ok (.invokestatic idx, 3)) (hp : pc + 3 = pc2) (hc : cs idx = some (0, 0, 2, 0, S_J9_floorDiv_7cf53)) (h8 : Nat.ble (r.map Value.category).sum 8 = true) (hp0 : a = gI A) (hp1 : b = gI B) (hp2 : gR A) (hp3 : 1 ≤ B ∧ B ≤ 2147483647) (kk0 : V pc2 L ((.int (gI (A / B))) :: r) 202 gk_fT x y u) : V pc L (.int b :: .int a :: r) 202 gk_fT x y u :=
  g_calls w hd hp hc (as := [.int a, .int b]) rfl h8 rfl rfl rfl (Or.inl rfl) (Or.inl rfl) ⟨a, b, A, B, rfl, ⟨rfl, rfl⟩, hp0, hp1, hp2, hp3, kk0⟩
def L_J9_floorDiv_7cf53 : List (Nat × gk_M0) := []
def cs_J9_floorDiv_7cf53 : Nat → Option gk_M0 := gk_lk L_J9_floorDiv_7cf53
theorem m_J9_floorDiv_7cf53 : ∀ (as : List Value) (n : Nat) (fl : gk_F) (x : gk_X) (y : gk_Y) (K : gk_K), S_J9_floorDiv_7cf53 as n fl x y K → (gk_L0 as).length ≤ 3 ∧ ∀ V : gk_V, gk_W cJ9_floorDiv_7cf53 pJ9 cs_J9_floorDiv_7cf53 (fun _ _ => none) (some .int) 0 none K V → V 0 (gk_en as 3) [] n fl x y 0 := by
  intro as n fl x y K hS
  obtain ⟨a, b, A, B, rfl, ⟨rfl, rfl⟩, hp0, hp1, hp2, hp3, q0⟩ := hS
  refine ⟨Nat.le_of_ble_eq_true rfl, fun V w => ?_⟩
  show V 0 [some (.int a), some (.int b), none] [] 202 gk_fT x y 0
  subst hp0 hp1
  obtain ⟨r1, r2⟩ := hp2
  refine s_iload_n (pc2 := 1) w dJ9_floorDiv_7cf53_0 rfl rfl ?_
  refine s_iload_n (pc2 := 2) w dJ9_floorDiv_7cf53_1 rfl rfl ?_
  refine s_idiv (pc2 := 3) w dJ9_floorDiv_7cf53_2 rfl (by rw [show (0 : Int32) = gI 0 from rfl, gI_eq ⟨by omega, by omega⟩ ⟨by omega, by omega⟩]; omega) ?_
  rw [gI_div ⟨by omega, by omega⟩ ⟨by omega, by omega⟩]
  refine s_istore_n (pc2 := 4) (k2 := 2) w dJ9_floorDiv_7cf53_3 rfl rfl rfl ?_
  dsimp only [gk_s1, gk_s2, gk_cl]
  refine s_iload_n (pc2 := 5) w dJ9_floorDiv_7cf53_4 rfl rfl ?_
  refine s_iload_n (pc2 := 6) w dJ9_floorDiv_7cf53_5 rfl rfl ?_
  refine s_ixor (pc2 := 7) w dJ9_floorDiv_7cf53_6 rfl ?_
  refine s_if_ge (pc2 := 10) (tgt := 21) w dJ9_floorDiv_7cf53_7 rfl (by decide) (fun c7 => ?_) (fun c7 => ?_)
  · refine s_iload_n (pc2 := 22) w dJ9_floorDiv_7cf53_21 rfl rfl ?_
    refine s_ireturn w dJ9_floorDiv_7cf53_22 rfl rfl ?_
    rw [show (0 : Int32) = gI 0 from rfl, Int32.le_iff_toInt_le, gI_of ⟨by omega, by omega⟩] at c7
    have hx := xor_neg (gI A) (gI B)
    rw [gI_of ⟨by omega, by omega⟩, gI_of ⟨by omega, by omega⟩] at hx
    rw [Int.tdiv_eq_ediv_of_nonneg (by omega)]
    exact q0
  · refine s_iload_n (pc2 := 11) w dJ9_floorDiv_7cf53_10 rfl rfl ?_
    refine s_iload_n (pc2 := 12) w dJ9_floorDiv_7cf53_11 rfl rfl ?_
    refine s_imul (pc2 := 13) w dJ9_floorDiv_7cf53_12 rfl ?_
    refine s_iload_n (pc2 := 14) w dJ9_floorDiv_7cf53_13 rfl rfl ?_
    rw [gI_mul]
    refine s_ic_eq (pc2 := 17) (tgt := 21) w dJ9_floorDiv_7cf53_14 rfl (by decide) (fun c14 => ?_) (fun c14 => ?_)
    · refine s_iload_n (pc2 := 22) w dJ9_floorDiv_7cf53_21 rfl rfl ?_
      refine s_ireturn w dJ9_floorDiv_7cf53_22 rfl rfl ?_
      rw [show (0 : Int32) = gI 0 from rfl, Int32.le_iff_toInt_le, gI_of ⟨by omega, by omega⟩] at c7
      have hx := xor_neg (gI A) (gI B)
      rw [gI_of ⟨by omega, by omega⟩, gI_of ⟨by omega, by omega⟩] at hx
      have ht := tdiv_b hp3.1 (a := A) (A := 2147483648) (by omega) (by omega)
      have hm := Int.mul_tdiv_add_tmod A B
      have hn := neg_td (A := A) (B := B) (by omega) (by omega)
      have hn1 := Int.emod_nonneg (-A) (show B ≠ 0 by omega)
      have hn2 := Int.emod_lt_of_pos (-A) (show 0 < B by omega)
      have hn3 := Int.ediv_nonneg (show 0 ≤ -A by omega) (show 0 ≤ B by omega)
      have hm4 := Int.mul_comm (A.tdiv B) B
      have hm5 : gR (A.tdiv B * B) := by
        refine ⟨?_, ?_⟩
        · omega
        · have : A.tdiv B ≤ 0 := by omega
          have := Int.mul_nonpos_of_nonpos_of_nonneg this (show 0 ≤ B by omega)
          omega
      rw [gI_eq hm5 ⟨by omega, by omega⟩] at c14
      rw [← fdiv_0 (by omega) c14]
      exact q0
    · refine s_iload_n (pc2 := 18) w dJ9_floorDiv_7cf53_17 rfl rfl ?_
      refine s_iconst (pc2 := 19) (v := gI 1) w dJ9_floorDiv_7cf53_18 rfl rfl ?_
      refine s_isub (pc2 := 20) w dJ9_floorDiv_7cf53_19 rfl ?_
      rw [gI_sub]
      refine s_ireturn w dJ9_floorDiv_7cf53_20 rfl rfl ?_
      rw [show (0 : Int32) = gI 0 from rfl, Int32.le_iff_toInt_le, gI_of ⟨by omega, by omega⟩] at c7
      have hx := xor_neg (gI A) (gI B)
      rw [gI_of ⟨by omega, by omega⟩, gI_of ⟨by omega, by omega⟩] at hx
      have hne : ¬ A.tdiv B * B = A := fun h => c14 (by rw [h])
      rw [← fdiv_1 (by omega) (by omega) hne]
      exact q0
theorem lk_J9_floorDiv_7cf53 {l : Launch} (hl : l.stackTraces = false) : ∀ q ∈ L_J9_floorDiv_7cf53, (q.2.1 < 5 → gk_Lk l RJ9 gk_W1 0 q.1 q.2.1 q.2.2.1 q.2.2.2.1 q.2.2.2.2.1 q.2.2.2.2.2) := (fun _ h => absurd h List.not_mem_nil)
theorem sp_J9_floorDiv_7cf53 : ∀ q ∈ L_J9_floorDiv_7cf53, gk_Sq RJ9 gk_W1 0 q := (fun _ h => absurd h List.not_mem_nil)
theorem M_J9_floorDiv_7cf53 {l : Launch} (hl : l.stackTraces = false) : gk_Mt l yJ9_floorDiv_7cf53 (.code yJ9_floorDiv_7cf53 cJ9_floorDiv_7cf53 3 (some .int) :: gk_W1) 0 0 S_J9_floorDiv_7cf53 := gk_meth hl gk_cw_ok (by decide +kernel) rfl m_J9_floorDiv_7cf53 pJ9_ok (gk_Sp_of sp_J9_floorDiv_7cf53) pJ9_st (fun ci m S h => absurd h (by intro h; cases h)) (xf_J9 0) (fun idx kd ci mm cost S2 h h5 => lk_J9_floorDiv_7cf53 hl _ (gk_lk_mem h) h5)

def S_X11_shiftOf : gk_S := fun as n fl x y K => ∃ (m : Int32) (d : Int32) (mm : Nat) (mx : Int) (D : Int) (cc : Int), as = [.ref 189, .int m, .int d] ∧ (n = 202 ∧ fl = gk_fT) ∧ (m = nI mm) ∧ (mm < 8) ∧ (x 190 (154 + 4 * mm + 0) = gI mx) ∧ (-5000 ≤ mx ∧ mx ≤ 5000) ∧ (d = gI D) ∧ (-3000 ≤ D ∧ D ≤ 3000) ∧ (x 190 0 = gI cc) ∧ (100 ≤ cc ∧ cc ≤ 1000) ∧ (K (.inl (some (.int (gI (mx * D / (100 * cc)))))) n fl x y)
theorem r_X11_shiftOf (w : gk_W c P cs (fun _ _ => none) rt uf sc K V) {idx : Nat} {m : Int32} {d : Int32} {mm : Nat} {mx : Int} {D : Int} {cc : Int} (hd : decode c pc = .ok (.invokevirtual idx, 3)) (hp : pc + 3 = pc2) (hc : cs idx = some (1, 10, 3, 0, S_X11_shiftOf)) (h8 : Nat.ble (r.map Value.category).sum 8 = true) (hp0 : m = nI mm) (hp1 : mm < 8) (hp2 : x 190 (154 + 4 * mm + 0) = gI mx) (hp3 : -5000 ≤ mx ∧ mx ≤ 5000) (hp4 : d = gI D) (hp5 : -3000 ≤ D ∧ D ≤ 3000) (hp6 : x 190 0 = gI cc) (hp7 : 100 ≤ cc ∧ cc ≤ 1000) (kk0 : V pc2 L ((.int (gI (mx * D / (100 * cc)))) :: r) 202 gk_fT x y u) : V pc L (.int d :: .int m :: .ref 189 :: r) 202 gk_fT x y u :=
  g_callv w hd hp hc (as := [.ref 189, .int m, .int d]) rfl h8 rfl rfl rfl (Or.inr (Or.inl ⟨Or.inl rfl, _, _, rfl, (gk_kd_j rfl rfl), rfl⟩)) (Or.inl rfl) ⟨m, d, mm, mx, D, cc, rfl, ⟨rfl, rfl⟩, hp0, hp1, hp2, hp3, hp4, hp5, hp6, hp7, kk0⟩
def L_X11_shiftOf : List (Nat × gk_M0) := [(116, (1, 10, 3, 0, S_X11_microphone)), (219, (0, 0, 2, 0, S_J9_floorDiv_7cf53))]
def cs_X11_shiftOf : Nat → Option gk_M0 := gk_lk L_X11_shiftOf
theorem m_X11_shiftOf : ∀ (as : List Value) (n : Nat) (fl : gk_F) (x : gk_X) (y : gk_Y) (K : gk_K), S_X11_shiftOf as n fl x y K → (gk_L0 as).length ≤ 3 ∧ ∀ V : gk_V, gk_W cX11_shiftOf pX11 cs_X11_shiftOf (fun _ _ => none) (some .int) 0 none K V → V 0 (gk_en as 3) [] n fl x y 0 := by
  intro as n fl x y K hS
  obtain ⟨m, d, mm, mx, D, cc, rfl, ⟨rfl, rfl⟩, hp0, hp1, hp2, hp3, hp4, hp5, hp6, hp7, q0⟩ := hS
  refine ⟨Nat.le_of_ble_eq_true rfl, fun V w => ?_⟩
  show V 0 [some (.ref 189), some (.int m), some (.int d)] [] 202 gk_fT x y 0
  subst hp0 hp4
  have hb := gk_mulb (a := mx) (b := D) (A := 5000) (B := 3000) (by omega) (by omega) (by omega) (by omega)
  refine s_aload_n (pc2 := 1) w dX11_shiftOf_0 rfl rfl ?_
  refine s_iload_n (pc2 := 2) w dX11_shiftOf_1 rfl rfl ?_
  refine s_iconst (pc2 := 3) (v := gI 0) w dX11_shiftOf_2 rfl rfl ?_
  refine r_X11_microphone (pc2 := 6) (b := 0) w dX11_shiftOf_3 rfl rfl rfl rfl rfl (by omega) ?_
  rw [hp2]
  refine s_iload_n (pc2 := 7) w dX11_shiftOf_6 rfl rfl ?_
  refine s_imul (pc2 := 8) w dX11_shiftOf_7 rfl ?_
  rw [gI_mul]
  refine s_bipush (pc2 := 10) (v := gI 100) w dX11_shiftOf_8 rfl rfl ?_
  refine s_aload_n (pc2 := 11) w dX11_shiftOf_10 rfl rfl ?_
  refine m_getR (pc2 := 14) (ci := 10) (k := 0) (j2 := 190) w dX11_shiftOf_11 rfl rfl rfl rfl rfl rfl ?_
  refine s_iconst (pc2 := 15) (v := gI 0) w dX11_shiftOf_14 rfl rfl ?_
  refine m_ialoadN (pc2 := 16) (t := 0) (N := 2234) w dX11_shiftOf_15 rfl rfl rfl rfl (by decide) rfl ?_
  rw [hp6]
  refine s_imul (pc2 := 17) w dX11_shiftOf_16 rfl ?_
  rw [gI_mul 100]
  refine r_J9_floorDiv_7cf53 (pc2 := 20) w dX11_shiftOf_17 rfl rfl rfl rfl rfl (by unfold gR; omega) (by omega) ?_
  refine s_ireturn w dX11_shiftOf_20 rfl rfl ?_
  exact q0
theorem lk_X11_shiftOf {l : Launch} (hl : l.stackTraces = false) : ∀ q ∈ L_X11_shiftOf, (q.2.1 < 5 → gk_Lk l RX11 gk_W1 1 q.1 q.2.1 q.2.2.1 q.2.2.2.1 q.2.2.2.2.1 q.2.2.2.2.2) := (List.forall_mem_cons.mpr ⟨(fun _ => ⟨yX11_microphone, cX11_microphone, 3, (some .int), 0, _, M_X11_microphone hl, ⟨by decide, by decide⟩, ⟨by decide, by decide, by decide +kernel⟩, ⟨(gk_wm 1464 (by decide +kernel)), (gk_wm 99 (by decide +kernel))⟩, Or.inr (Or.inr (Or.inr (Or.inl ⟨rfl, rfl, (gk_wm 1463 (by decide +kernel)), (gk_wm 47 (by decide +kernel)), gk_wm 1461 (by decide +kernel), by decide, rfl⟩)))⟩), (List.forall_mem_cons.mpr ⟨(fun _ => ⟨yJ9_floorDiv_7cf53, cJ9_floorDiv_7cf53, 3, (some .int), 0, _, M_J9_floorDiv_7cf53 hl, ⟨by decide, by decide⟩, ⟨by decide, by decide, by decide +kernel⟩, ⟨(gk_wm 1081 (by decide +kernel)), (gk_wm 107 (by decide +kernel))⟩, Or.inl ⟨rfl, rfl, (gk_wm 1080 (by decide +kernel)), gk_wm 1606 (by decide +kernel)⟩⟩), (fun _ h => absurd h List.not_mem_nil)⟩)⟩)
theorem sp_X11_shiftOf : ∀ q ∈ L_X11_shiftOf, gk_Sq RX11 gk_W1 1 q := (List.forall_mem_cons.mpr ⟨⟨fun h => absurd h (by decide), fun h => absurd h (by decide), fun h => absurd h (by decide), fun h => absurd h (by decide), fun h => absurd h (by decide), fun h => absurd h (by decide)⟩, (List.forall_mem_cons.mpr ⟨⟨fun h => absurd h (by decide), fun h => absurd h (by decide), fun h => absurd h (by decide), fun h => absurd h (by decide), fun h => absurd h (by decide), fun h => absurd h (by decide)⟩, (fun _ h => absurd h List.not_mem_nil)⟩)⟩)
theorem M_X11_shiftOf {l : Launch} (hl : l.stackTraces = false) : gk_Mt l yX11_shiftOf (.code yX11_shiftOf cX11_shiftOf 3 (some .int) :: gk_W1) 1 0 S_X11_shiftOf := gk_meth hl gk_cw_ok (by decide +kernel) rfl m_X11_shiftOf pX11_ok (gk_Sp_of sp_X11_shiftOf) pX11_st (fun ci m S h => absurd h (by intro h; cases h)) (xf_X11 1) (fun idx kd ci mm cost S2 h h5 => lk_X11_shiftOf hl _ (gk_lk_mem h) h5)

def S_X11_firstSample : gk_S := fun as n fl x y K => ∃ (mk : Int32) (M : Int) (cc : Int), as = [.ref 189, .int mk] ∧ (n = 202 ∧ fl = gk_fT) ∧ (mk = gI M) ∧ (0 ≤ M ∧ M ≤ 1000000) ∧ (x 190 0 = gI cc) ∧ (100 ≤ cc ∧ cc ≤ 1000) ∧ (K (.inl (some (.int (gI ((M + cc - 1) / cc))))) n fl x y)
theorem r_X11_firstSample (w : gk_W c P cs (fun _ _ => none) rt uf sc K V) {idx : Nat} {mk : Int32} {M : Int} {cc : Int} (hd : decode c pc = .ok (.invokevirtual idx, 3)) (hp : pc + 3 = pc2) (hc : cs idx = some (1, 10, 2, 0, S_X11_firstSample)) (h8 : Nat.ble (r.map Value.category).sum 8 = true) (hp0 : mk = gI M) (hp1 : 0 ≤ M ∧ M ≤ 1000000) (hp2 : x 190 0 = gI cc) (hp3 : 100 ≤ cc ∧ cc ≤ 1000) (kk0 : V pc2 L ((.int (gI ((M + cc - 1) / cc))) :: r) 202 gk_fT x y u) : V pc L (.int mk :: .ref 189 :: r) 202 gk_fT x y u :=
  g_callv w hd hp hc (as := [.ref 189, .int mk]) rfl h8 rfl rfl rfl (Or.inr (Or.inl ⟨Or.inl rfl, _, _, rfl, (gk_kd_j rfl rfl), rfl⟩)) (Or.inl rfl) ⟨mk, M, cc, rfl, ⟨rfl, rfl⟩, hp0, hp1, hp2, hp3, kk0⟩
def L_X11_firstSample : List (Nat × gk_M0) := []
def cs_X11_firstSample : Nat → Option gk_M0 := gk_lk L_X11_firstSample
theorem m_X11_firstSample : ∀ (as : List Value) (n : Nat) (fl : gk_F) (x : gk_X) (y : gk_Y) (K : gk_K), S_X11_firstSample as n fl x y K → (gk_L0 as).length ≤ 2 ∧ ∀ V : gk_V, gk_W cX11_firstSample pX11 cs_X11_firstSample (fun _ _ => none) (some .int) 0 none K V → V 0 (gk_en as 2) [] n fl x y 0 := by
  intro as n fl x y K hS
  obtain ⟨mk, M, cc, rfl, ⟨rfl, rfl⟩, hp0, hp1, hp2, hp3, q0⟩ := hS
  refine ⟨Nat.le_of_ble_eq_true rfl, fun V w => ?_⟩
  show V 0 [some (.ref 189), some (.int mk)] [] 202 gk_fT x y 0
  subst hp0
  refine s_iload_n (pc2 := 1) w dX11_firstSample_0 rfl rfl ?_
  refine s_aload_n (pc2 := 2) w dX11_firstSample_1 rfl rfl ?_
  refine m_getR (pc2 := 5) (ci := 10) (k := 0) (j2 := 190) w dX11_firstSample_2 rfl rfl rfl rfl rfl rfl ?_
  refine s_iconst (pc2 := 6) (v := gI 0) w dX11_firstSample_5 rfl rfl ?_
  refine m_ialoadN (pc2 := 7) (t := 0) (N := 2234) w dX11_firstSample_6 rfl rfl rfl rfl (by decide) rfl ?_
  rw [hp2]
  refine s_iadd (pc2 := 8) w dX11_firstSample_7 rfl ?_
  refine s_iconst (pc2 := 9) (v := gI 1) w dX11_firstSample_8 rfl rfl ?_
  refine s_isub (pc2 := 10) w dX11_firstSample_9 rfl ?_
  rw [gI_add, gI_sub]
  refine s_aload_n (pc2 := 11) w dX11_firstSample_10 rfl rfl ?_
  refine m_getR (pc2 := 14) (ci := 10) (k := 0) (j2 := 190) w dX11_firstSample_11 rfl rfl rfl rfl rfl rfl ?_
  refine s_iconst (pc2 := 15) (v := gI 0) w dX11_firstSample_14 rfl rfl ?_
  refine m_ialoadN (pc2 := 16) (t := 0) (N := 2234) w dX11_firstSample_15 rfl rfl rfl rfl (by decide) rfl ?_
  rw [hp2]
  refine s_idiv (pc2 := 17) w dX11_firstSample_16 rfl (by rw [show (0 : Int32) = gI 0 from rfl, gI_eq ⟨by omega, by omega⟩ ⟨by omega, by omega⟩]; omega) ?_
  rw [gI_div ⟨by omega, by omega⟩ ⟨by omega, by omega⟩, Int.tdiv_eq_ediv_of_nonneg (by omega)]
  refine s_ireturn w dX11_firstSample_17 rfl rfl ?_
  exact q0
theorem lk_X11_firstSample {l : Launch} (hl : l.stackTraces = false) : ∀ q ∈ L_X11_firstSample, (q.2.1 < 5 → gk_Lk l RX11 gk_W1 0 q.1 q.2.1 q.2.2.1 q.2.2.2.1 q.2.2.2.2.1 q.2.2.2.2.2) := (fun _ h => absurd h List.not_mem_nil)
theorem sp_X11_firstSample : ∀ q ∈ L_X11_firstSample, gk_Sq RX11 gk_W1 0 q := (fun _ h => absurd h List.not_mem_nil)
theorem M_X11_firstSample {l : Launch} (hl : l.stackTraces = false) : gk_Mt l yX11_firstSample (.code yX11_firstSample cX11_firstSample 2 (some .int) :: gk_W1) 0 0 S_X11_firstSample := gk_meth hl gk_cw_ok (by decide +kernel) rfl m_X11_firstSample pX11_ok (gk_Sp_of sp_X11_firstSample) pX11_st (fun ci m S h => absurd h (by intro h; cases h)) (xf_X11 0) (fun idx kd ci mm cost S2 h h5 => lk_X11_firstSample hl _ (gk_lk_mem h) h5)

def S_X11_layRecord : gk_S := fun as n fl x y K => ∃ (m : Int32) (mm : Nat), as = [.ref 189, .int m] ∧ (n = 202 ∧ fl = gk_fT) ∧ (m = nI mm) ∧ (mm < 8) ∧ (K (.inl none) n fl (gk_ur x 196 (fun k => x 190 (186 + 256 * mm + k)) 256) y)
theorem r_X11_layRecord (w : gk_W c P cs (fun _ _ => none) rt uf sc K V) {idx : Nat} {m : Int32} {mm : Nat} (hd : decode c pc = .ok (.invokevirtual idx, 3)) (hp : pc + 3 = pc2) (hc : cs idx = some (1, 10, 2, 0, S_X11_layRecord)) (h8 : Nat.ble (r.map Value.category).sum 8 = true) (hp0 : m = nI mm) (hp1 : mm < 8) (kk0 : V pc2 L r 202 gk_fT (gk_ur x 196 (fun k => x 190 (186 + 256 * mm + k)) 256) y u) : V pc L (.int m :: .ref 189 :: r) 202 gk_fT x y u :=
  g_callv w hd hp hc (as := [.ref 189, .int m]) rfl h8 rfl rfl rfl (Or.inr (Or.inl ⟨Or.inl rfl, _, _, rfl, (gk_kd_j rfl rfl), rfl⟩)) (Or.inl rfl) ⟨m, mm, rfl, ⟨rfl, rfl⟩, hp0, hp1, kk0⟩
def L_X11_layRecord : List (Nat × gk_M0) := [(175, (1, 10, 3, 0, S_X11_recorded))]
def cs_X11_layRecord : Nat → Option gk_M0 := gk_lk L_X11_layRecord
theorem m_X11_layRecord : ∀ (as : List Value) (n : Nat) (fl : gk_F) (x : gk_X) (y : gk_Y) (K : gk_K), S_X11_layRecord as n fl x y K → (gk_L0 as).length ≤ 3 ∧ ∀ V : gk_V, gk_W cX11_layRecord pX11 cs_X11_layRecord (fun _ _ => none) none 0 none K V → V 0 (gk_en as 3) [] n fl x y 0 := by
  intro as n fl x y K hS
  obtain ⟨m, mm, rfl, ⟨rfl, rfl⟩, hp0, hp1, q0⟩ := hS
  refine ⟨Nat.le_of_ble_eq_true rfl, fun V w => ?_⟩
  show V 0 [some (.ref 189), some (.int m), none] [] 202 gk_fT x y 0
  subst hp0
  have key : ∀ (k t : Nat), t + k = 256 → V 2 [some (.ref 189), some (.int (nI mm)), some (.int (nI t))] [] 202 gk_fT (gk_ur x 196 (fun k => x 190 (186 + 256 * mm + k)) t) y 0 := by
    intro k
    induction k with
    | zero =>
      intro t ht
      obtain rfl : t = 256 := by omega
      refine s_iload_n (pc2 := 3) w dX11_layRecord_2 rfl rfl ?_
      refine s_sipush (pc2 := 6) (v := gI 256) w dX11_layRecord_3 rfl rfl ?_
      refine s_ic_ge (pc2 := 9) (tgt := 27) w dX11_layRecord_6 rfl (by decide) (fun _ => ?_) (fun h0 => absurd ((Int32.le_refl _)) h0)
      refine s_return w dX11_layRecord_27 rfl ?_
      exact q0
    | succ k ih =>
      intro t ht
      refine s_iload_n (pc2 := 3) w dX11_layRecord_2 rfl rfl ?_
      refine s_sipush (pc2 := 6) (v := gI 256) w dX11_layRecord_3 rfl rfl ?_
      refine s_ic_ge (pc2 := 9) (tgt := 27) w dX11_layRecord_6 rfl (by decide) (fun h0 => absurd h0 (by rw [gI_nI, gI_le ⟨by omega, by omega⟩ ⟨by omega, by omega⟩]; omega)) (fun _ => ?_)
      refine s_aload_n (pc2 := 10) w dX11_layRecord_9 rfl rfl ?_
      refine m_getR (pc2 := 13) (ci := 10) (k := 7) (j2 := 196) w dX11_layRecord_10 rfl rfl rfl rfl rfl rfl ?_
      refine s_iload_n (pc2 := 14) w dX11_layRecord_13 rfl rfl ?_
      refine s_aload_n (pc2 := 15) w dX11_layRecord_14 rfl rfl ?_
      refine s_iload_n (pc2 := 16) w dX11_layRecord_15 rfl rfl ?_
      refine s_iload_n (pc2 := 17) w dX11_layRecord_16 rfl rfl ?_
      refine r_X11_recorded (pc2 := 20) w dX11_layRecord_17 rfl rfl rfl rfl hp1 ?_
      rw [gk_at_n (by omega), gk_ur_ne (by decide)]
      refine m_iastoreN (pc2 := 21) (t := t) (N := 256) w dX11_layRecord_20 rfl rfl rfl rfl (by omega) rfl ?_
      refine s_iinc (pc2 := 24) w dX11_layRecord_21 rfl rfl rfl rfl ?_
      dsimp only [gk_s1, gk_s2, gk_cl]
      rw [nI_s]
      refine s_goto (tgt := 2) w dX11_layRecord_24 (by decide) ?_
      have h := ih (t + 1) (by omega)
      rw [← gk_ur_s] at h
      exact h
  refine s_iconst (pc2 := 1) (v := gI 0) w dX11_layRecord_0 rfl rfl ?_
  refine s_istore_n (pc2 := 2) (k2 := 2) w dX11_layRecord_1 rfl rfl rfl ?_
  dsimp only [gk_s1, gk_s2, gk_cl]
  have h := key 256 0 rfl
  rw [gk_ur_0] at h
  exact h
theorem lk_X11_layRecord {l : Launch} (hl : l.stackTraces = false) : ∀ q ∈ L_X11_layRecord, (q.2.1 < 5 → gk_Lk l RX11 gk_W1 3 q.1 q.2.1 q.2.2.1 q.2.2.2.1 q.2.2.2.2.1 q.2.2.2.2.2) := (List.forall_mem_cons.mpr ⟨(fun _ => ⟨yX11_recorded, cX11_recorded, 3, (some .int), 2, _, M_X11_recorded hl, ⟨by decide, by decide⟩, ⟨by decide, by decide, by decide +kernel⟩, ⟨(gk_wm 1518 (by decide +kernel)), (gk_wm 99 (by decide +kernel))⟩, Or.inr (Or.inr (Or.inr (Or.inl ⟨rfl, rfl, (gk_wm 1517 (by decide +kernel)), (gk_wm 54 (by decide +kernel)), gk_wm 1515 (by decide +kernel), by decide, rfl⟩)))⟩), (fun _ h => absurd h List.not_mem_nil)⟩)
theorem sp_X11_layRecord : ∀ q ∈ L_X11_layRecord, gk_Sq RX11 gk_W1 3 q := (List.forall_mem_cons.mpr ⟨⟨fun h => absurd h (by decide), fun h => absurd h (by decide), fun h => absurd h (by decide), fun h => absurd h (by decide), fun h => absurd h (by decide), fun h => absurd h (by decide)⟩, (fun _ h => absurd h List.not_mem_nil)⟩)
theorem M_X11_layRecord {l : Launch} (hl : l.stackTraces = false) : gk_Mt l yX11_layRecord (.code yX11_layRecord cX11_layRecord 3 none :: gk_W1) 3 0 S_X11_layRecord := gk_meth hl gk_cw_ok (by decide +kernel) rfl m_X11_layRecord pX11_ok (gk_Sp_of sp_X11_layRecord) pX11_st (fun ci m S h => absurd h (by intro h; cases h)) (xf_X11 3) (fun idx kd ci mm cost S2 h h5 => lk_X11_layRecord hl _ (gk_lk_mem h) h5)

def S_X11_clearSignal : gk_S := fun as n fl x y K => as = [.ref 189] ∧ (n = 202 ∧ fl = gk_fT) ∧ (K (.inl none) n fl (gk_ur x 196 (fun _ => 0) 256) y)
theorem r_X11_clearSignal (w : gk_W c P cs (fun _ _ => none) rt uf sc K V) {idx : Nat}  (hd : decode c pc = .ok (.invokevirtual idx, 3)) (hp : pc + 3 = pc2) (hc : cs idx = some (1, 10, 1, 0, S_X11_clearSignal)) (h8 : Nat.ble (r.map Value.category).sum 8 = true) (kk0 : V pc2 L r 202 gk_fT (gk_ur x 196 (fun _ => 0) 256) y u) : V pc L (.ref 189 :: r) 202 gk_fT x y u :=
  g_callv w hd hp hc (as := [.ref 189]) rfl h8 rfl rfl rfl (Or.inr (Or.inl ⟨Or.inl rfl, _, _, rfl, (gk_kd_j rfl rfl), rfl⟩)) (Or.inl rfl) ⟨rfl, ⟨rfl, rfl⟩, kk0⟩
def L_X11_clearSignal : List (Nat × gk_M0) := []
def cs_X11_clearSignal : Nat → Option gk_M0 := gk_lk L_X11_clearSignal
theorem m_X11_clearSignal : ∀ (as : List Value) (n : Nat) (fl : gk_F) (x : gk_X) (y : gk_Y) (K : gk_K), S_X11_clearSignal as n fl x y K → (gk_L0 as).length ≤ 2 ∧ ∀ V : gk_V, gk_W cX11_clearSignal pX11 cs_X11_clearSignal (fun _ _ => none) none 0 none K V → V 0 (gk_en as 2) [] n fl x y 0 := by
  intro as n fl x y K hS
  obtain ⟨rfl, ⟨rfl, rfl⟩, q0⟩ := hS
  refine ⟨Nat.le_of_ble_eq_true rfl, fun V w => ?_⟩
  show V 0 [some (.ref 189), none] [] 202 gk_fT x y 0
  have key : ∀ (k t : Nat), t + k = 256 → V 2 [some (.ref 189), some (.int (nI t))] [] 202 gk_fT (gk_ur x 196 (fun _ => 0) t) y 0 := by
    intro k
    induction k with
    | zero =>
      intro t ht
      obtain rfl : t = 256 := by omega
      refine s_iload_n (pc2 := 3) w dX11_clearSignal_2 rfl rfl ?_
      refine s_sipush (pc2 := 6) (v := gI 256) w dX11_clearSignal_3 rfl rfl ?_
      refine s_ic_ge (pc2 := 9) (tgt := 22) w dX11_clearSignal_6 rfl (by decide) (fun _ => ?_) (fun h0 => absurd ((Int32.le_refl _)) h0)
      refine s_return w dX11_clearSignal_22 rfl ?_
      exact q0
    | succ k ih =>
      intro t ht
      refine s_iload_n (pc2 := 3) w dX11_clearSignal_2 rfl rfl ?_
      refine s_sipush (pc2 := 6) (v := gI 256) w dX11_clearSignal_3 rfl rfl ?_
      refine s_ic_ge (pc2 := 9) (tgt := 22) w dX11_clearSignal_6 rfl (by decide) (fun h0 => absurd h0 (by rw [gI_nI, gI_le ⟨by omega, by omega⟩ ⟨by omega, by omega⟩]; omega)) (fun _ => ?_)
      refine s_aload_n (pc2 := 10) w dX11_clearSignal_9 rfl rfl ?_
      refine m_getR (pc2 := 13) (ci := 10) (k := 7) (j2 := 196) w dX11_clearSignal_10 rfl rfl rfl rfl rfl rfl ?_
      refine s_iload_n (pc2 := 14) w dX11_clearSignal_13 rfl rfl ?_
      refine s_iconst (pc2 := 15) (v := gI 0) w dX11_clearSignal_14 rfl rfl ?_
      refine m_iastoreN (pc2 := 16) (t := t) (N := 256) w dX11_clearSignal_15 rfl rfl rfl rfl (by omega) rfl ?_
      refine s_iinc (pc2 := 19) w dX11_clearSignal_16 rfl rfl rfl rfl ?_
      dsimp only [gk_s1, gk_s2, gk_cl]
      rw [nI_s]
      refine s_goto (tgt := 2) w dX11_clearSignal_19 (by decide) ?_
      have h := ih (t + 1) (by omega)
      rw [← gk_ur_s] at h
      exact h
  refine s_iconst (pc2 := 1) (v := gI 0) w dX11_clearSignal_0 rfl rfl ?_
  refine s_istore_n (pc2 := 2) (k2 := 1) w dX11_clearSignal_1 rfl rfl rfl ?_
  dsimp only [gk_s1, gk_s2, gk_cl]
  have h := key 256 0 rfl
  rw [gk_ur_0] at h
  exact h
theorem lk_X11_clearSignal {l : Launch} (hl : l.stackTraces = false) : ∀ q ∈ L_X11_clearSignal, (q.2.1 < 5 → gk_Lk l RX11 gk_W1 0 q.1 q.2.1 q.2.2.1 q.2.2.2.1 q.2.2.2.2.1 q.2.2.2.2.2) := (fun _ h => absurd h List.not_mem_nil)
theorem sp_X11_clearSignal : ∀ q ∈ L_X11_clearSignal, gk_Sq RX11 gk_W1 0 q := (fun _ h => absurd h List.not_mem_nil)
theorem M_X11_clearSignal {l : Launch} (hl : l.stackTraces = false) : gk_Mt l yX11_clearSignal (.code yX11_clearSignal cX11_clearSignal 2 none :: gk_W1) 0 0 S_X11_clearSignal := gk_meth hl gk_cw_ok (by decide +kernel) rfl m_X11_clearSignal pX11_ok (gk_Sp_of sp_X11_clearSignal) pX11_st (fun ci m S h => absurd h (by intro h; cases h)) (xf_X11 0) (fun idx kd ci mm cost S2 h h5 => lk_X11_clearSignal hl _ (gk_lk_mem h) h5)

def S_X11_addParts : gk_S := fun as n fl x y K => ∃ (m : Int32) (mm : Nat), as = [.ref 189, .int m] ∧ (n = 202 ∧ fl = gk_fT) ∧ (m = nI mm) ∧ (mm < 8) ∧ (K (.inl none) n fl (gk_ur x 196 (fun k => x 196 k + x 190 (154 + 4 * mm + 3) * x 197 k) 256) y)
theorem r_X11_addParts (w : gk_W c P cs (fun _ _ => none) rt uf sc K V) {idx : Nat} {m : Int32} {mm : Nat} (hd : decode c pc = .ok (.invokevirtual idx, 3)) (hp : pc + 3 = pc2) (hc : cs idx = some (1, 10, 2, 0, S_X11_addParts)) (h8 : Nat.ble (r.map Value.category).sum 8 = true) (hp0 : m = nI mm) (hp1 : mm < 8) (kk0 : V pc2 L r 202 gk_fT (gk_ur x 196 (fun k => x 196 k + x 190 (154 + 4 * mm + 3) * x 197 k) 256) y u) : V pc L (.int m :: .ref 189 :: r) 202 gk_fT x y u :=
  g_callv w hd hp hc (as := [.ref 189, .int m]) rfl h8 rfl rfl rfl (Or.inr (Or.inl ⟨Or.inl rfl, _, _, rfl, (gk_kd_j rfl rfl), rfl⟩)) (Or.inl rfl) ⟨m, mm, rfl, ⟨rfl, rfl⟩, hp0, hp1, kk0⟩
def L_X11_addParts : List (Nat × gk_M0) := [(116, (1, 10, 3, 0, S_X11_microphone))]
def cs_X11_addParts : Nat → Option gk_M0 := gk_lk L_X11_addParts
theorem m_X11_addParts : ∀ (as : List Value) (n : Nat) (fl : gk_F) (x : gk_X) (y : gk_Y) (K : gk_K), S_X11_addParts as n fl x y K → (gk_L0 as).length ≤ 3 ∧ ∀ V : gk_V, gk_W cX11_addParts pX11 cs_X11_addParts (fun _ _ => none) none 0 none K V → V 0 (gk_en as 3) [] n fl x y 0 := by
  intro as n fl x y K hS
  obtain ⟨m, mm, rfl, ⟨rfl, rfl⟩, hp0, hp1, q0⟩ := hS
  refine ⟨Nat.le_of_ble_eq_true rfl, fun V w => ?_⟩
  show V 0 [some (.ref 189), some (.int m), none] [] 202 gk_fT x y 0
  subst hp0
  have key : ∀ (k t : Nat), t + k = 256 → V 2 [some (.ref 189), some (.int (nI mm)), some (.int (nI t))] [] 202 gk_fT (gk_ur x 196 (fun k => x 196 k + x 190 (154 + 4 * mm + 3) * x 197 k) t) y 0 := by
    intro k
    induction k with
    | zero =>
      intro t ht
      obtain rfl : t = 256 := by omega
      refine s_iload_n (pc2 := 3) w dX11_addParts_2 rfl rfl ?_
      refine s_sipush (pc2 := 6) (v := gI 256) w dX11_addParts_3 rfl rfl ?_
      refine s_ic_ge (pc2 := 9) (tgt := 37) w dX11_addParts_6 rfl (by decide) (fun _ => ?_) (fun h0 => absurd ((Int32.le_refl _)) h0)
      refine s_return w dX11_addParts_37 rfl ?_
      exact q0
    | succ k ih =>
      intro t ht
      refine s_iload_n (pc2 := 3) w dX11_addParts_2 rfl rfl ?_
      refine s_sipush (pc2 := 6) (v := gI 256) w dX11_addParts_3 rfl rfl ?_
      refine s_ic_ge (pc2 := 9) (tgt := 37) w dX11_addParts_6 rfl (by decide) (fun h0 => absurd h0 (by rw [gI_nI, gI_le ⟨by omega, by omega⟩ ⟨by omega, by omega⟩]; omega)) (fun _ => ?_)
      refine s_aload_n (pc2 := 10) w dX11_addParts_9 rfl rfl ?_
      refine m_getR (pc2 := 13) (ci := 10) (k := 7) (j2 := 196) w dX11_addParts_10 rfl rfl rfl rfl rfl rfl ?_
      refine s_iload_n (pc2 := 14) w dX11_addParts_13 rfl rfl ?_
      refine s_dup2 (pc2 := 15) w dX11_addParts_14 rfl rfl rfl ?_
      refine m_ialoadN (pc2 := 16) (t := t) (N := 256) w dX11_addParts_15 rfl rfl rfl rfl (by omega) rfl ?_
      refine s_aload_n (pc2 := 17) w dX11_addParts_16 rfl rfl ?_
      refine s_iload_n (pc2 := 18) w dX11_addParts_17 rfl rfl ?_
      refine s_iconst (pc2 := 19) (v := gI 3) w dX11_addParts_18 rfl rfl ?_
      refine r_X11_microphone (pc2 := 22) (b := 3) w dX11_addParts_19 rfl rfl rfl rfl rfl (by omega) ?_
      refine s_aload_n (pc2 := 23) w dX11_addParts_22 rfl rfl ?_
      refine m_getR (pc2 := 26) (ci := 10) (k := 8) (j2 := 197) w dX11_addParts_23 rfl rfl rfl rfl rfl rfl ?_
      refine s_iload_n (pc2 := 27) w dX11_addParts_26 rfl rfl ?_
      refine m_ialoadN (pc2 := 28) (t := t) (N := 256) w dX11_addParts_27 rfl rfl rfl rfl (by omega) rfl ?_
      refine s_imul (pc2 := 29) w dX11_addParts_28 rfl ?_
      refine s_iadd (pc2 := 30) w dX11_addParts_29 rfl ?_
      rw [gk_ur_nf (Nat.le_refl t), gk_ur_ne (show 190 ≠ 196 by decide), gk_ur_ne (show 197 ≠ 196 by decide)]
      refine m_iastoreN (pc2 := 31) (t := t) (N := 256) w dX11_addParts_30 rfl rfl rfl rfl (by omega) rfl ?_
      refine s_iinc (pc2 := 34) w dX11_addParts_31 rfl rfl rfl rfl ?_
      dsimp only [gk_s1, gk_s2, gk_cl]
      rw [nI_s]
      refine s_goto (tgt := 2) w dX11_addParts_34 (by decide) ?_
      have h := ih (t + 1) (by omega)
      rw [← gk_ur_s] at h
      exact h
  refine s_iconst (pc2 := 1) (v := gI 0) w dX11_addParts_0 rfl rfl ?_
  refine s_istore_n (pc2 := 2) (k2 := 2) w dX11_addParts_1 rfl rfl rfl ?_
  dsimp only [gk_s1, gk_s2, gk_cl]
  have h := key 256 0 rfl
  rw [gk_ur_0] at h
  exact h
theorem lk_X11_addParts {l : Launch} (hl : l.stackTraces = false) : ∀ q ∈ L_X11_addParts, (q.2.1 < 5 → gk_Lk l RX11 gk_W1 1 q.1 q.2.1 q.2.2.1 q.2.2.2.1 q.2.2.2.2.1 q.2.2.2.2.2) := (List.forall_mem_cons.mpr ⟨(fun _ => ⟨yX11_microphone, cX11_microphone, 3, (some .int), 0, _, M_X11_microphone hl, ⟨by decide, by decide⟩, ⟨by decide, by decide, by decide +kernel⟩, ⟨(gk_wm 1464 (by decide +kernel)), (gk_wm 99 (by decide +kernel))⟩, Or.inr (Or.inr (Or.inr (Or.inl ⟨rfl, rfl, (gk_wm 1463 (by decide +kernel)), (gk_wm 47 (by decide +kernel)), gk_wm 1461 (by decide +kernel), by decide, rfl⟩)))⟩), (fun _ h => absurd h List.not_mem_nil)⟩)
theorem sp_X11_addParts : ∀ q ∈ L_X11_addParts, gk_Sq RX11 gk_W1 1 q := (List.forall_mem_cons.mpr ⟨⟨fun h => absurd h (by decide), fun h => absurd h (by decide), fun h => absurd h (by decide), fun h => absurd h (by decide), fun h => absurd h (by decide), fun h => absurd h (by decide)⟩, (fun _ h => absurd h List.not_mem_nil)⟩)
theorem M_X11_addParts {l : Launch} (hl : l.stackTraces = false) : gk_Mt l yX11_addParts (.code yX11_addParts cX11_addParts 3 none :: gk_W1) 1 0 S_X11_addParts := gk_meth hl gk_cw_ok (by decide +kernel) rfl m_X11_addParts pX11_ok (gk_Sp_of sp_X11_addParts) pX11_st (fun ci m S h => absurd h (by intro h; cases h)) (xf_X11 1) (fun idx kd ci mm cost S2 h h5 => lk_X11_addParts hl _ (gk_lk_mem h) h5)

end GKV

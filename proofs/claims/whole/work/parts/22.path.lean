/-! THE METHODS, 3: paths -/
section GKV
variable {c : ByteArray} {P : gk_C} {cs : Nat → Option gk_M0} {rt : Option FieldType} {uf : Nat} {sc : Option Nat} {K : gk_K} {V : gk_V}
variable {L : List (Option Value)} {r : List Value} {n : Nat} {fl : gk_F} {x : gk_X} {y : gk_Y} {u pc pc2 : Nat}
def gk_ur (x : gk_X) (j : Nat) (f : Nat → Int32) (N : Nat) : gk_X := fun i k => if i = j ∧ k < N then f k else x i k
theorem gk_ur_0 (x : gk_X) (j : Nat) (f : Nat → Int32) : gk_ur x j f 0 = x := by
  funext i k
  exact if_neg (fun h => Nat.not_lt_zero k h.2)
theorem gk_ur_s (x : gk_X) (j : Nat) (f : Nat → Int32) (t : Nat) : gk_up (gk_ur x j f t) j t (f t) = gk_ur x j f (t + 1) := by
  funext i k
  simp only [gk_up, gk_ur]
  by_cases h : i = j ∧ k = t
  · obtain ⟨rfl, rfl⟩ := h
    rw [if_pos ⟨rfl, rfl⟩, if_pos ⟨rfl, Nat.lt_succ_self _⟩]
  · rw [if_neg h]
    by_cases h2 : i = j ∧ k < t
    · rw [if_pos h2, if_pos ⟨h2.1, by omega⟩]
    · rw [if_neg h2, if_neg (fun h3 => by
        have : k = t ∨ k < t := by omega
        rcases this with h4 | h4
        · exact h ⟨h3.1, h4⟩
        · exact h2 ⟨h3.1, h4⟩)]
theorem gk_ur_in {x : gk_X} {j : Nat} {f : Nat → Int32} {N k : Nat} (h : k < N) : gk_ur x j f N j k = f k := if_pos ⟨rfl, h⟩
theorem gk_ur_ne {x : gk_X} {i j : Nat} {f : Nat → Int32} {N k : Nat} (h : i ≠ j) : gk_ur x j f N i k = x i k := if_neg (fun h2 => h h2.1)
theorem gk_ur_up {x : gk_X} {i j k : Nat} {f : Nat → Int32} {N : Nat} {v : Int32} (h : i ≠ j) : gk_up (gk_ur x j f N) i k v = gk_ur (gk_up x i k v) j f N := by
  funext a b
  simp only [gk_up, gk_ur]
  by_cases h1 : a = i ∧ b = k
  · rw [if_pos h1, if_pos h1, if_neg (fun h2 => h (h1.1 ▸ h2.1))]
  · rw [if_neg h1, if_neg h1]
def gk_PL (y : gk_Y) (P : Nat) (A S B : Int) : Prop := y P 0 = gL A ∧ y P 1 = gL S ∧ y P 2 = gL B
def gk_PB (A S B : Int) : Prop := -30000 ≤ A ∧ A ≤ 30000 ∧ -50 ≤ S ∧ S ≤ 50 ∧ 0 ≤ B ∧ B ≤ 30000000
def gk_dl (A S B t : Int) : Int := gk_rt ((A + S * t) * (A + S * t) + B)
theorem gk_mulb {a b A B : Int} (h1 : -A ≤ a) (h2 : a ≤ A) (h3 : -B ≤ b) (h4 : b ≤ B) : -(A * B) ≤ a * b ∧ a * b ≤ A * B := by
  have hA : 0 ≤ A := by omega
  have hB : 0 ≤ B := by omega
  have h : a.natAbs * b.natAbs ≤ A.toNat * B.toNat := Nat.mul_le_mul (by omega) (by omega)
  have e : ((a * b).natAbs : Int) ≤ A * B := by
    rw [Int.natAbs_mul]
    have : ((A.toNat * B.toNat : Nat) : Int) = A * B := by rw [Int.natCast_mul, Int.toNat_of_nonneg hA, Int.toNat_of_nonneg hB]
    rw [← this]
    exact_mod_cast h
  omega
theorem gk_sqb {a A : Int} (h1 : -A ≤ a) (h2 : a ≤ A) : 0 ≤ a * a ∧ a * a ≤ A * A := by
  have h := gk_mulb h1 h2 h1 h2
  refine ⟨?_, h.2⟩
  rcases Int.le_total 0 a with h3 | h3
  · exact Int.mul_nonneg h3 h3
  · exact Int.mul_nonneg_of_nonpos_of_nonpos h3 h3
theorem gk_PBs {A S B t : Int} (h : gk_PB A S B) (h0 : 0 ≤ t) (h1 : t ≤ 256) : (-12800 ≤ S * t ∧ S * t ≤ 12800) ∧ 0 ≤ (A + S * t) * (A + S * t) ∧ (A + S * t) * (A + S * t) ≤ 1831840000 := by
  obtain ⟨a1, a2, a3, a4, a5, a6⟩ := h
  have h2 := gk_mulb (a := S) (b := t) (A := 50) (B := 256) (by omega) (by omega) (by omega) (by omega)
  refine ⟨by omega, ?_⟩
  have h3 := gk_sqb (a := A + S * t) (A := 42800) (by omega) (by omega)
  omega
theorem gk_dlb {A S B t : Int} (h : gk_PB A S B) (h0 : 0 ≤ t) (h1 : t ≤ 256) : 0 ≤ gk_dl A S B t ∧ gk_dl A S B t < 65536 := by
  refine ⟨gk_rt_nn _, gk_rt_lt (by decide) ?_⟩
  have := gk_PBs h h0 h1
  have := h.2.2.2.2.2
  omega
def gk_PP (x : gk_X) (j : Nat) (px ps py ph : Int) : Prop := (x j 0 = gI px ∧ x j 1 = gI ps ∧ x j 2 = gI py ∧ x j 3 = gI ph) ∧ (-22000 ≤ px ∧ px ≤ 22000) ∧ (-50 ≤ ps ∧ ps ≤ 50) ∧ (0 ≤ py ∧ py ≤ 5000) ∧ 0 ≤ ph ∧ ph ≤ 500
def gk_MP (x : gk_X) (j : Nat) (mx my mh : Int) : Prop := (x j 1 = gI mx ∧ x j 2 = gI my ∧ x j 3 = gI mh) ∧ (-5000 ≤ mx ∧ mx ≤ 5000) ∧ (-100 ≤ my ∧ my ≤ 100) ∧ 0 ≤ mh ∧ mh ≤ 500
def gk_ly (y : gk_Y) (j : Nat) (A S B : Int) : gk_Y := gk_uy (gk_uy (gk_uy y j 0 (gL A)) j 1 (gL S)) j 2 (gL B)
theorem gk_ly_PL (y : gk_Y) (j : Nat) (A S B : Int) : gk_PL (gk_ly y j A S B) j A S B := by
  have no : ∀ a b : Nat, a ≠ b → ¬ (j = j ∧ a = b) := fun a b h h2 => h h2.2
  exact ⟨(if_neg (no 0 2 (by decide))).trans ((if_neg (no 0 1 (by decide))).trans (if_pos ⟨rfl, rfl⟩)), (if_neg (no 1 2 (by decide))).trans (if_pos ⟨rfl, rfl⟩), if_pos ⟨rfl, rfl⟩⟩
/-- the square of what lies beside: direct or mirrored -/
def gk_be (py ph my mh : Int) (rf : Bool) : Int := (py - my) * (py - my) + ((if rf then -ph else ph) - mh) * ((if rf then -ph else ph) - mh)
theorem gk_be_b {py ph my mh : Int} {rf : Bool} (h1 : 0 ≤ py) (h2 : py ≤ 5000) (h3 : 0 ≤ ph) (h4 : ph ≤ 500) (h5 : -100 ≤ my) (h6 : my ≤ 100) (h7 : 0 ≤ mh) (h8 : mh ≤ 500) : 0 ≤ gk_be py ph my mh rf ∧ gk_be py ph my mh rf ≤ 30000000 := by
  have a := gk_sqb (a := py - my) (A := 5100) (by omega) (by omega)
  have b : ∀ e : Int, -500 ≤ e → e ≤ 500 → 0 ≤ (e - mh) * (e - mh) ∧ (e - mh) * (e - mh) ≤ 1000000 := fun e h9 h10 => gk_sqb (a := e - mh) (A := 1000) (by omega) (by omega)
  unfold gk_be
  cases rf
  · have := b ph (by omega) h4
    simp only [Bool.false_eq_true, if_false]
    omega
  · have := b (-ph) (by omega) (by omega)
    simp only [if_true]
    omega
def S_X2_lay : gk_S := fun as n fl x y K => ∃ (j : Nat) (pl : Nat) (s : Int32) (mc : Nat) (f : Int32) (px : Int) (ps : Int) (py : Int) (ph : Int) (mx : Int) (my : Int) (mh : Int) (sh : Int) (rf : Bool), as = [.ref j, .ref pl, .int s, .ref mc, .int f] ∧ (n = 202 ∧ fl = gk_fT) ∧ gk_kd j = 2 ∧ gk_kd pl = 3 ∧ gk_kd mc = 1 ∧ (gk_PP x pl px ps py ph) ∧ (gk_MP x mc mx my mh) ∧ (s = gI sh) ∧ (-2000 ≤ sh ∧ sh ≤ 2000) ∧ (f = if rf then 1 else 0) ∧ (K (.inl none) n fl x (gk_ly y j (px + sh - mx) ps (gk_be py ph my mh rf)))
theorem r_X2_lay (w : gk_W c P cs (fun _ _ => none) rt uf sc K V) {idx : Nat} {j : Nat} {pl : Nat} {s : Int32} {mc : Nat} {f : Int32} {px : Int} {ps : Int} {py : Int} {ph : Int} {mx : Int} {my : Int} {mh : Int} {sh : Int} {rf : Bool} (hd : decode c pc = .ok (.invokevirtual idx, 3)) (hp : pc + 3 = pc2) (hc : cs idx = some (1, 2, 5, 0, S_X2_lay)) (h8 : Nat.ble (r.map Value.category).sum 8 = true) (hk0 : gk_kd j = 2) (hk1 : gk_kd pl = 3) (hk2 : gk_kd mc = 1) (hp0 : gk_PP x pl px ps py ph) (hp1 : gk_MP x mc mx my mh) (hp2 : s = gI sh) (hp3 : -2000 ≤ sh ∧ sh ≤ 2000) (hp4 : f = if rf then 1 else 0) (kk0 : V pc2 L r 202 gk_fT x (gk_ly y j (px + sh - mx) ps (gk_be py ph my mh rf)) u) : V pc L (.int f :: .ref mc :: .int s :: .ref pl :: .ref j :: r) 202 gk_fT x y u :=
  g_callv w hd hp hc (as := [.ref j, .ref pl, .int s, .ref mc, .int f]) rfl h8 rfl rfl rfl (Or.inr (Or.inl ⟨Or.inl rfl, _, _, rfl, (gk_kd_j hk0 rfl), hk0⟩)) (Or.inl rfl) ⟨j, pl, s, mc, f, px, ps, py, ph, mx, my, mh, sh, rf, rfl, ⟨rfl, rfl⟩, hk0, hk1, hk2, hp0, hp1, hp2, hp3, hp4, kk0⟩
def L_X2_lay : List (Nat × gk_M0) := []
def cs_X2_lay : Nat → Option gk_M0 := gk_lk L_X2_lay
theorem m_X2_lay : ∀ (as : List Value) (n : Nat) (fl : gk_F) (x : gk_X) (y : gk_Y) (K : gk_K), S_X2_lay as n fl x y K → (gk_L0 as).length ≤ 11 ∧ ∀ V : gk_V, gk_W cX2_lay pX2 cs_X2_lay (fun _ _ => none) none 0 none K V → V 0 (gk_en as 11) [] n fl x y 0 := by
  intro as n fl x y K hS
  obtain ⟨j, pl, s, mc, f, px, ps, py, ph, mx, my, mh, sh, rf, rfl, ⟨rfl, rfl⟩, hk0, hk1, hk2, hp0, hp1, hp2, hp3, hp4, q0⟩ := hS
  refine ⟨Nat.le_of_ble_eq_true rfl, fun V w => ?_⟩
  show V 0 [some (.ref j), some (.ref pl), some (.int s), some (.ref mc), some (.int f), none, none, none, none, none, none] [] 202 gk_fT x y 0
  obtain ⟨⟨p0, p1, p2, p3⟩, pr0, pr1, pr2, pr3⟩ := hp0
  obtain ⟨⟨m1, m2, m3⟩, mr1, mr2, mr3⟩ := hp1
  subst hp2
  refine s_aload_n (pc2 := 1) w dX2_lay_0 rfl rfl ?_
  refine m_getI (pc2 := 4) (ci := 3) (k := 2) w dX2_lay_1 rfl rfl (by first | assumption | rfl) rfl rfl ?_
  refine s_aload_n (pc2 := 5) w dX2_lay_4 rfl rfl ?_
  refine m_getI (pc2 := 8) (ci := 1) (k := 2) w dX2_lay_5 rfl rfl (by first | assumption | rfl) rfl rfl ?_
  refine s_isub (pc2 := 9) w dX2_lay_8 rfl ?_
  refine s_i2l (pc2 := 10) w dX2_lay_9 rfl ?_
  rw [p2, m2, gI_sub, gIL ⟨by omega, by omega⟩]
  refine s_lstore (pc2 := 12) w dX2_lay_10 rfl rfl ?_
  dsimp only [gk_s1, gk_s2, gk_cl]
  refine s_iload (pc2 := 14) w dX2_lay_12 rfl rfl ?_
  refine s_if_eq (pc2 := 17) (tgt := 26) w dX2_lay_14 rfl (by decide) (fun c14 => ?_) (fun c14 => ?_)
  · refine s_aload_n (pc2 := 27) w dX2_lay_26 rfl rfl ?_
    refine m_getI (pc2 := 30) (ci := 3) (k := 3) w dX2_lay_27 rfl rfl (by first | assumption | rfl) rfl rfl ?_
    refine s_i2l (pc2 := 31) w dX2_lay_30 rfl ?_
    rw [p3, gIL ⟨by omega, by omega⟩]
    refine s_lstore (pc2 := 33) w dX2_lay_31 rfl rfl ?_
    dsimp only [gk_s1, gk_s2, gk_cl]
    refine s_lload (pc2 := 35) w dX2_lay_33 rfl rfl ?_
    refine s_aload_n (pc2 := 36) w dX2_lay_35 rfl rfl ?_
    refine m_getI (pc2 := 39) (ci := 1) (k := 3) w dX2_lay_36 rfl rfl (by first | assumption | rfl) rfl rfl ?_
    refine s_i2l (pc2 := 40) w dX2_lay_39 rfl ?_
    refine s_lsub (pc2 := 41) w dX2_lay_40 rfl ?_
    rw [m3, gIL ⟨by omega, by omega⟩, gL_sub]
    refine s_lstore (pc2 := 43) w dX2_lay_41 rfl rfl ?_
    dsimp only [gk_s1, gk_s2, gk_cl]
    refine s_aload_n (pc2 := 44) w dX2_lay_43 rfl rfl ?_
    refine s_aload_n (pc2 := 45) w dX2_lay_44 rfl rfl ?_
    refine m_getI (pc2 := 48) (ci := 3) (k := 0) w dX2_lay_45 rfl rfl (by first | assumption | rfl) rfl rfl ?_
    refine s_iload_n (pc2 := 49) w dX2_lay_48 rfl rfl ?_
    refine s_iadd (pc2 := 50) w dX2_lay_49 rfl ?_
    refine s_aload_n (pc2 := 51) w dX2_lay_50 rfl rfl ?_
    refine m_getI (pc2 := 54) (ci := 1) (k := 1) w dX2_lay_51 rfl rfl (by first | assumption | rfl) rfl rfl ?_
    refine s_isub (pc2 := 55) w dX2_lay_54 rfl ?_
    refine s_i2l (pc2 := 56) w dX2_lay_55 rfl ?_
    rw [p0, m1, gI_add, gI_sub, gIL ⟨by omega, by omega⟩]
    refine m_putL (pc2 := 59) (ci := 2) (k := 0) w dX2_lay_56 rfl rfl (by first | assumption | rfl) rfl rfl ?_
    refine s_aload_n (pc2 := 60) w dX2_lay_59 rfl rfl ?_
    refine s_aload_n (pc2 := 61) w dX2_lay_60 rfl rfl ?_
    refine m_getI (pc2 := 64) (ci := 3) (k := 1) w dX2_lay_61 rfl rfl (by first | assumption | rfl) rfl rfl ?_
    refine s_i2l (pc2 := 65) w dX2_lay_64 rfl ?_
    rw [p1, gIL ⟨by omega, by omega⟩]
    refine m_putL (pc2 := 68) (ci := 2) (k := 1) w dX2_lay_65 rfl rfl (by first | assumption | rfl) rfl rfl ?_
    refine s_aload_n (pc2 := 69) w dX2_lay_68 rfl rfl ?_
    refine s_lload (pc2 := 71) w dX2_lay_69 rfl rfl ?_
    refine s_lload (pc2 := 73) w dX2_lay_71 rfl rfl ?_
    refine s_lmul (pc2 := 74) w dX2_lay_73 rfl ?_
    refine s_lload (pc2 := 76) w dX2_lay_74 rfl rfl ?_
    refine s_lload (pc2 := 78) w dX2_lay_76 rfl rfl ?_
    refine s_lmul (pc2 := 79) w dX2_lay_78 rfl ?_
    refine s_ladd (pc2 := 80) w dX2_lay_79 rfl ?_
    rw [gL_mul, gL_mul, gL_add]
    refine m_putL (pc2 := 83) (ci := 2) (k := 2) w dX2_lay_80 rfl rfl (by first | assumption | rfl) rfl rfl ?_
    refine s_return w dX2_lay_83 rfl ?_
    have e : rf = false := by
      cases rf
      · rfl
      · rw [hp4] at c14; exact absurd c14 (by decide)
    subst e
    exact q0
  · refine s_aload_n (pc2 := 18) w dX2_lay_17 rfl rfl ?_
    refine m_getI (pc2 := 21) (ci := 3) (k := 3) w dX2_lay_18 rfl rfl (by first | assumption | rfl) rfl rfl ?_
    refine s_ineg (pc2 := 22) w dX2_lay_21 rfl ?_
    refine s_i2l (pc2 := 23) w dX2_lay_22 rfl ?_
    rw [p3, gI_neg, gIL ⟨by omega, by omega⟩]
    refine s_goto (tgt := 31) w dX2_lay_23 (by decide) ?_
    refine s_lstore (pc2 := 33) w dX2_lay_31 rfl rfl ?_
    dsimp only [gk_s1, gk_s2, gk_cl]
    refine s_lload (pc2 := 35) w dX2_lay_33 rfl rfl ?_
    refine s_aload_n (pc2 := 36) w dX2_lay_35 rfl rfl ?_
    refine m_getI (pc2 := 39) (ci := 1) (k := 3) w dX2_lay_36 rfl rfl (by first | assumption | rfl) rfl rfl ?_
    refine s_i2l (pc2 := 40) w dX2_lay_39 rfl ?_
    refine s_lsub (pc2 := 41) w dX2_lay_40 rfl ?_
    rw [m3, gIL ⟨by omega, by omega⟩, gL_sub]
    refine s_lstore (pc2 := 43) w dX2_lay_41 rfl rfl ?_
    dsimp only [gk_s1, gk_s2, gk_cl]
    refine s_aload_n (pc2 := 44) w dX2_lay_43 rfl rfl ?_
    refine s_aload_n (pc2 := 45) w dX2_lay_44 rfl rfl ?_
    refine m_getI (pc2 := 48) (ci := 3) (k := 0) w dX2_lay_45 rfl rfl (by first | assumption | rfl) rfl rfl ?_
    refine s_iload_n (pc2 := 49) w dX2_lay_48 rfl rfl ?_
    refine s_iadd (pc2 := 50) w dX2_lay_49 rfl ?_
    refine s_aload_n (pc2 := 51) w dX2_lay_50 rfl rfl ?_
    refine m_getI (pc2 := 54) (ci := 1) (k := 1) w dX2_lay_51 rfl rfl (by first | assumption | rfl) rfl rfl ?_
    refine s_isub (pc2 := 55) w dX2_lay_54 rfl ?_
    refine s_i2l (pc2 := 56) w dX2_lay_55 rfl ?_
    rw [p0, m1, gI_add, gI_sub, gIL ⟨by omega, by omega⟩]
    refine m_putL (pc2 := 59) (ci := 2) (k := 0) w dX2_lay_56 rfl rfl (by first | assumption | rfl) rfl rfl ?_
    refine s_aload_n (pc2 := 60) w dX2_lay_59 rfl rfl ?_
    refine s_aload_n (pc2 := 61) w dX2_lay_60 rfl rfl ?_
    refine m_getI (pc2 := 64) (ci := 3) (k := 1) w dX2_lay_61 rfl rfl (by first | assumption | rfl) rfl rfl ?_
    refine s_i2l (pc2 := 65) w dX2_lay_64 rfl ?_
    rw [p1, gIL ⟨by omega, by omega⟩]
    refine m_putL (pc2 := 68) (ci := 2) (k := 1) w dX2_lay_65 rfl rfl (by first | assumption | rfl) rfl rfl ?_
    refine s_aload_n (pc2 := 69) w dX2_lay_68 rfl rfl ?_
    refine s_lload (pc2 := 71) w dX2_lay_69 rfl rfl ?_
    refine s_lload (pc2 := 73) w dX2_lay_71 rfl rfl ?_
    refine s_lmul (pc2 := 74) w dX2_lay_73 rfl ?_
    refine s_lload (pc2 := 76) w dX2_lay_74 rfl rfl ?_
    refine s_lload (pc2 := 78) w dX2_lay_76 rfl rfl ?_
    refine s_lmul (pc2 := 79) w dX2_lay_78 rfl ?_
    refine s_ladd (pc2 := 80) w dX2_lay_79 rfl ?_
    rw [gL_mul, gL_mul, gL_add]
    refine m_putL (pc2 := 83) (ci := 2) (k := 2) w dX2_lay_80 rfl rfl (by first | assumption | rfl) rfl rfl ?_
    refine s_return w dX2_lay_83 rfl ?_
    have e : rf = true := by
      cases rf
      · rw [hp4] at c14; exact absurd rfl c14
      · rfl
    subst e
    exact q0
theorem lk_X2_lay {l : Launch} (hl : l.stackTraces = false) : ∀ q ∈ L_X2_lay, (q.2.1 < 5 → gk_Lk l RX2 gk_W1 0 q.1 q.2.1 q.2.2.1 q.2.2.2.1 q.2.2.2.2.1 q.2.2.2.2.2) := (fun _ h => absurd h List.not_mem_nil)
theorem sp_X2_lay : ∀ q ∈ L_X2_lay, gk_Sq RX2 gk_W1 0 q := (fun _ h => absurd h List.not_mem_nil)
theorem M_X2_lay {l : Launch} (hl : l.stackTraces = false) : gk_Mt l yX2_lay (.code yX2_lay cX2_lay 11 none :: gk_W1) 0 0 S_X2_lay := gk_meth hl gk_cw_ok (by decide +kernel) rfl m_X2_lay pX2_ok (gk_Sp_of sp_X2_lay) pX2_st (fun ci m S h => absurd h (by intro h; cases h)) (xf_X2 0) (fun idx kd ci mm cost S2 h h5 => lk_X2_lay hl _ (gk_lk_mem h) h5)

def S_X2_lengthAt : gk_S := fun as n fl x y K => ∃ (j : Nat) (t : Int32) (A : Int) (S : Int) (B : Int) (tt : Int), as = [.ref j, .int t] ∧ (n = 202 ∧ fl = gk_fT) ∧ gk_kd j = 2 ∧ (gk_PL y j A S B) ∧ (gk_PB A S B) ∧ (t = gI tt) ∧ (0 ≤ tt ∧ tt ≤ 256) ∧ (K (.inl (some (.int (gI (gk_dl A S B tt))))) n fl x y)
theorem r_X2_lengthAt (w : gk_W c P cs (fun _ _ => none) rt uf sc K V) {idx : Nat} {j : Nat} {t : Int32} {A : Int} {S : Int} {B : Int} {tt : Int} (hd : decode c pc = .ok (.invokevirtual idx, 3)) (hp : pc + 3 = pc2) (hc : cs idx = some (1, 2, 2, 0, S_X2_lengthAt)) (h8 : Nat.ble (r.map Value.category).sum 8 = true) (hk0 : gk_kd j = 2) (hp0 : gk_PL y j A S B) (hp1 : gk_PB A S B) (hp2 : t = gI tt) (hp3 : 0 ≤ tt ∧ tt ≤ 256) (kk0 : V pc2 L ((.int (gI (gk_dl A S B tt))) :: r) 202 gk_fT x y u) : V pc L (.int t :: .ref j :: r) 202 gk_fT x y u :=
  g_callv w hd hp hc (as := [.ref j, .int t]) rfl h8 rfl rfl rfl (Or.inr (Or.inl ⟨Or.inl rfl, _, _, rfl, (gk_kd_j hk0 rfl), hk0⟩)) (Or.inl rfl) ⟨j, t, A, S, B, tt, rfl, ⟨rfl, rfl⟩, hk0, hp0, hp1, hp2, hp3, kk0⟩
def L_X2_lengthAt : List (Nat × gk_M0) := [(40, (0, 9, 1, 0, S_X10_root))]
def cs_X2_lengthAt : Nat → Option gk_M0 := gk_lk L_X2_lengthAt
theorem m_X2_lengthAt : ∀ (as : List Value) (n : Nat) (fl : gk_F) (x : gk_X) (y : gk_Y) (K : gk_K), S_X2_lengthAt as n fl x y K → (gk_L0 as).length ≤ 4 ∧ ∀ V : gk_V, gk_W cX2_lengthAt pX2 cs_X2_lengthAt (fun _ _ => none) (some .int) 0 none K V → V 0 (gk_en as 4) [] n fl x y 0 := by
  intro as n fl x y K hS
  obtain ⟨j, t, A, S, B, tt, rfl, ⟨rfl, rfl⟩, hk0, hp0, hp1, hp2, hp3, q0⟩ := hS
  refine ⟨Nat.le_of_ble_eq_true rfl, fun V w => ?_⟩
  show V 0 [some (.ref j), some (.int t), none, none] [] 202 gk_fT x y 0
  obtain ⟨y0, y1, y2⟩ := hp0
  subst hp2
  have hb := gk_PBs hp1 hp3.1 hp3.2
  have hb2 := hp1.2.2.2.2
  refine s_aload_n (pc2 := 1) w dX2_lengthAt_0 rfl rfl ?_
  refine m_getL (pc2 := 4) (ci := 2) (k := 0) w dX2_lengthAt_1 rfl rfl (by first | assumption | rfl) rfl rfl ?_
  refine s_aload_n (pc2 := 5) w dX2_lengthAt_4 rfl rfl ?_
  refine m_getL (pc2 := 8) (ci := 2) (k := 1) w dX2_lengthAt_5 rfl rfl (by first | assumption | rfl) rfl rfl ?_
  refine s_iload_n (pc2 := 9) w dX2_lengthAt_8 rfl rfl ?_
  refine s_i2l (pc2 := 10) w dX2_lengthAt_9 rfl ?_
  refine s_lmul (pc2 := 11) w dX2_lengthAt_10 rfl ?_
  refine s_ladd (pc2 := 12) w dX2_lengthAt_11 rfl ?_
  rw [y0, y1, gIL ⟨by omega, by omega⟩, gL_mul, gL_add]
  refine s_lstore_n (pc2 := 13) (k2 := 2) w dX2_lengthAt_12 rfl rfl rfl ?_
  dsimp only [gk_s1, gk_s2, gk_cl]
  refine s_lload_n (pc2 := 14) w dX2_lengthAt_13 rfl rfl ?_
  refine s_lload_n (pc2 := 15) w dX2_lengthAt_14 rfl rfl ?_
  refine s_lmul (pc2 := 16) w dX2_lengthAt_15 rfl ?_
  refine s_aload_n (pc2 := 17) w dX2_lengthAt_16 rfl rfl ?_
  refine m_getL (pc2 := 20) (ci := 2) (k := 2) w dX2_lengthAt_17 rfl rfl (by first | assumption | rfl) rfl rfl ?_
  refine s_ladd (pc2 := 21) w dX2_lengthAt_20 rfl ?_
  rw [y2, gL_mul, gL_add]
  refine r_X10_root (pc2 := 24) w dX2_lengthAt_21 rfl rfl rfl rfl (by omega) (by omega) ?_
  refine s_ireturn w dX2_lengthAt_24 rfl rfl ?_
  exact q0
theorem lk_X2_lengthAt {l : Launch} (hl : l.stackTraces = false) : ∀ q ∈ L_X2_lengthAt, (q.2.1 < 5 → gk_Lk l RX2 gk_W1 1 q.1 q.2.1 q.2.2.1 q.2.2.2.1 q.2.2.2.2.1 q.2.2.2.2.2) := (List.forall_mem_cons.mpr ⟨(fun _ => ⟨yX10_root, cX10_root, 8, (some .int), 0, _, M_X10_root hl, ⟨by decide, by decide⟩, ⟨by decide, by decide, by decide +kernel⟩, ⟨(gk_wm 473 (by decide +kernel)), (gk_wm 89 (by decide +kernel))⟩, Or.inr (Or.inl ⟨rfl, rfl, (gk_wm 472 (by decide +kernel)), ⟨_, gk_nsm 10 rfl⟩, nt_X10_root⟩)⟩), (fun _ h => absurd h List.not_mem_nil)⟩)
theorem sp_X2_lengthAt : ∀ q ∈ L_X2_lengthAt, gk_Sq RX2 gk_W1 1 q := (List.forall_mem_cons.mpr ⟨⟨fun h => absurd h (by decide), fun h => absurd h (by decide), fun h => absurd h (by decide), fun h => absurd h (by decide), fun h => absurd h (by decide), fun h => absurd h (by decide)⟩, (fun _ h => absurd h List.not_mem_nil)⟩)
theorem M_X2_lengthAt {l : Launch} (hl : l.stackTraces = false) : gk_Mt l yX2_lengthAt (.code yX2_lengthAt cX2_lengthAt 4 (some .int) :: gk_W1) 1 0 S_X2_lengthAt := gk_meth hl gk_cw_ok (by decide +kernel) rfl m_X2_lengthAt pX2_ok (gk_Sp_of sp_X2_lengthAt) pX2_st (fun ci m S h => absurd h (by intro h; cases h)) (xf_X2 1) (fun idx kd ci mm cost S2 h h5 => lk_X2_lengthAt hl _ (gk_lk_mem h) h5)

def S_X2_markAt : gk_S := fun as n fl x y K => ∃ (j : Nat) (t : Int32) (c0 : Int32) (A : Int) (S : Int) (B : Int) (tt : Int) (cc : Int), as = [.ref j, .int t, .int c0] ∧ (n = 202 ∧ fl = gk_fT) ∧ gk_kd j = 2 ∧ (gk_PL y j A S B) ∧ (gk_PB A S B) ∧ (t = gI tt) ∧ (0 ≤ tt ∧ tt ≤ 256) ∧ (c0 = gI cc) ∧ (100 ≤ cc ∧ cc ≤ 1000) ∧ (K (.inl (some (.int (gI (tt * cc + gk_dl A S B tt))))) n fl x y)
theorem r_X2_markAt (w : gk_W c P cs (fun _ _ => none) rt uf sc K V) {idx : Nat} {j : Nat} {t : Int32} {c0 : Int32} {A : Int} {S : Int} {B : Int} {tt : Int} {cc : Int} (hd : decode c pc = .ok (.invokevirtual idx, 3)) (hp : pc + 3 = pc2) (hc : cs idx = some (1, 2, 3, 0, S_X2_markAt)) (h8 : Nat.ble (r.map Value.category).sum 8 = true) (hk0 : gk_kd j = 2) (hp0 : gk_PL y j A S B) (hp1 : gk_PB A S B) (hp2 : t = gI tt) (hp3 : 0 ≤ tt ∧ tt ≤ 256) (hp4 : c0 = gI cc) (hp5 : 100 ≤ cc ∧ cc ≤ 1000) (kk0 : V pc2 L ((.int (gI (tt * cc + gk_dl A S B tt))) :: r) 202 gk_fT x y u) : V pc L (.int c0 :: .int t :: .ref j :: r) 202 gk_fT x y u :=
  g_callv w hd hp hc (as := [.ref j, .int t, .int c0]) rfl h8 rfl rfl rfl (Or.inr (Or.inl ⟨Or.inl rfl, _, _, rfl, (gk_kd_j hk0 rfl), hk0⟩)) (Or.inl rfl) ⟨j, t, c0, A, S, B, tt, cc, rfl, ⟨rfl, rfl⟩, hk0, hp0, hp1, hp2, hp3, hp4, hp5, kk0⟩
def L_X2_markAt : List (Nat × gk_M0) := [(44, (1, 2, 2, 0, S_X2_lengthAt))]
def cs_X2_markAt : Nat → Option gk_M0 := gk_lk L_X2_markAt
theorem m_X2_markAt : ∀ (as : List Value) (n : Nat) (fl : gk_F) (x : gk_X) (y : gk_Y) (K : gk_K), S_X2_markAt as n fl x y K → (gk_L0 as).length ≤ 3 ∧ ∀ V : gk_V, gk_W cX2_markAt pX2 cs_X2_markAt (fun _ _ => none) (some .int) 0 none K V → V 0 (gk_en as 3) [] n fl x y 0 := by
  intro as n fl x y K hS
  obtain ⟨j, t, c0, A, S, B, tt, cc, rfl, ⟨rfl, rfl⟩, hk0, hp0, hp1, hp2, hp3, hp4, hp5, q0⟩ := hS
  refine ⟨Nat.le_of_ble_eq_true rfl, fun V w => ?_⟩
  show V 0 [some (.ref j), some (.int t), some (.int c0)] [] 202 gk_fT x y 0
  subst hp2 hp4
  refine s_iload_n (pc2 := 1) w dX2_markAt_0 rfl rfl ?_
  refine s_iload_n (pc2 := 2) w dX2_markAt_1 rfl rfl ?_
  refine s_imul (pc2 := 3) w dX2_markAt_2 rfl ?_
  refine s_aload_n (pc2 := 4) w dX2_markAt_3 rfl rfl ?_
  refine s_iload_n (pc2 := 5) w dX2_markAt_4 rfl rfl ?_
  refine r_X2_lengthAt (pc2 := 8) w dX2_markAt_5 rfl rfl rfl (by first | assumption | rfl) hp0 hp1 rfl hp3 ?_
  rw [gI_mul]
  refine s_iadd (pc2 := 9) w dX2_markAt_8 rfl ?_
  rw [gI_add]
  refine s_ireturn w dX2_markAt_9 rfl rfl ?_
  exact q0
theorem lk_X2_markAt {l : Launch} (hl : l.stackTraces = false) : ∀ q ∈ L_X2_markAt, (q.2.1 < 5 → gk_Lk l RX2 gk_W1 2 q.1 q.2.1 q.2.2.1 q.2.2.2.1 q.2.2.2.2.1 q.2.2.2.2.2) := (List.forall_mem_cons.mpr ⟨(fun _ => ⟨yX2_lengthAt, cX2_lengthAt, 4, (some .int), 1, _, M_X2_lengthAt hl, ⟨by decide, by decide⟩, ⟨by decide, by decide, by decide +kernel⟩, ⟨(gk_wm 470 (by decide +kernel)), (gk_wm 94 (by decide +kernel))⟩, Or.inr (Or.inr (Or.inr (Or.inl ⟨rfl, rfl, (gk_wm 468 (by decide +kernel)), (gk_wm 469 (by decide +kernel)), gk_wm 467 (by decide +kernel), by decide, rfl⟩)))⟩), (fun _ h => absurd h List.not_mem_nil)⟩)
theorem sp_X2_markAt : ∀ q ∈ L_X2_markAt, gk_Sq RX2 gk_W1 2 q := (List.forall_mem_cons.mpr ⟨⟨fun h => absurd h (by decide), fun h => absurd h (by decide), fun h => absurd h (by decide), fun h => absurd h (by decide), fun h => absurd h (by decide), fun h => absurd h (by decide)⟩, (fun _ h => absurd h List.not_mem_nil)⟩)
theorem M_X2_markAt {l : Launch} (hl : l.stackTraces = false) : gk_Mt l yX2_markAt (.code yX2_markAt cX2_markAt 3 (some .int) :: gk_W1) 2 0 S_X2_markAt := gk_meth hl gk_cw_ok (by decide +kernel) rfl m_X2_markAt pX2_ok (gk_Sp_of sp_X2_markAt) pX2_st (fun ci m S h => absurd h (by intro h; cases h)) (xf_X2 2) (fun idx kd ci mm cost S2 h h5 => lk_X2_markAt hl _ (gk_lk_mem h) h5)

def S_X2_sampleAt : gk_S := fun as n fl x y K => ∃ (j : Nat) (t : Int32) (c0 : Int32) (A : Int) (S : Int) (B : Int) (tt : Int) (cc : Int), as = [.ref j, .int t, .int c0] ∧ (n = 202 ∧ fl = gk_fT) ∧ gk_kd j = 2 ∧ (gk_PL y j A S B) ∧ (gk_PB A S B) ∧ (t = gI tt) ∧ (0 ≤ tt ∧ tt ≤ 256) ∧ (c0 = gI cc) ∧ (100 ≤ cc ∧ cc ≤ 1000) ∧ (K (.inl (some (.int (gI (tt + (gk_dl A S B tt + cc - 1) / cc))))) n fl x y)
theorem r_X2_sampleAt (w : gk_W c P cs (fun _ _ => none) rt uf sc K V) {idx : Nat} {j : Nat} {t : Int32} {c0 : Int32} {A : Int} {S : Int} {B : Int} {tt : Int} {cc : Int} (hd : decode c pc = .ok (.invokevirtual idx, 3)) (hp : pc + 3 = pc2) (hc : cs idx = some (1, 2, 3, 0, S_X2_sampleAt)) (h8 : Nat.ble (r.map Value.category).sum 8 = true) (hk0 : gk_kd j = 2) (hp0 : gk_PL y j A S B) (hp1 : gk_PB A S B) (hp2 : t = gI tt) (hp3 : 0 ≤ tt ∧ tt ≤ 256) (hp4 : c0 = gI cc) (hp5 : 100 ≤ cc ∧ cc ≤ 1000) (kk0 : V pc2 L ((.int (gI (tt + (gk_dl A S B tt + cc - 1) / cc))) :: r) 202 gk_fT x y u) : V pc L (.int c0 :: .int t :: .ref j :: r) 202 gk_fT x y u :=
  g_callv w hd hp hc (as := [.ref j, .int t, .int c0]) rfl h8 rfl rfl rfl (Or.inr (Or.inl ⟨Or.inl rfl, _, _, rfl, (gk_kd_j hk0 rfl), hk0⟩)) (Or.inl rfl) ⟨j, t, c0, A, S, B, tt, cc, rfl, ⟨rfl, rfl⟩, hk0, hp0, hp1, hp2, hp3, hp4, hp5, kk0⟩
def L_X2_sampleAt : List (Nat × gk_M0) := [(44, (1, 2, 2, 0, S_X2_lengthAt)), (48, (0, 9, 2, 0, S_X10_quotient))]
def cs_X2_sampleAt : Nat → Option gk_M0 := gk_lk L_X2_sampleAt
theorem m_X2_sampleAt : ∀ (as : List Value) (n : Nat) (fl : gk_F) (x : gk_X) (y : gk_Y) (K : gk_K), S_X2_sampleAt as n fl x y K → (gk_L0 as).length ≤ 3 ∧ ∀ V : gk_V, gk_W cX2_sampleAt pX2 cs_X2_sampleAt (fun _ _ => none) (some .int) 0 none K V → V 0 (gk_en as 3) [] n fl x y 0 := by
  intro as n fl x y K hS
  obtain ⟨j, t, c0, A, S, B, tt, cc, rfl, ⟨rfl, rfl⟩, hk0, hp0, hp1, hp2, hp3, hp4, hp5, q0⟩ := hS
  refine ⟨Nat.le_of_ble_eq_true rfl, fun V w => ?_⟩
  show V 0 [some (.ref j), some (.int t), some (.int c0)] [] 202 gk_fT x y 0
  subst hp2 hp4
  have hb := gk_dlb hp1 hp3.1 hp3.2
  refine s_iload_n (pc2 := 1) w dX2_sampleAt_0 rfl rfl ?_
  refine s_aload_n (pc2 := 2) w dX2_sampleAt_1 rfl rfl ?_
  refine s_iload_n (pc2 := 3) w dX2_sampleAt_2 rfl rfl ?_
  refine r_X2_lengthAt (pc2 := 6) w dX2_sampleAt_3 rfl rfl rfl (by first | assumption | rfl) hp0 hp1 rfl hp3 ?_
  refine s_iload_n (pc2 := 7) w dX2_sampleAt_6 rfl rfl ?_
  refine s_iadd (pc2 := 8) w dX2_sampleAt_7 rfl ?_
  refine s_iconst (pc2 := 9) (v := gI 1) w dX2_sampleAt_8 rfl rfl ?_
  refine s_isub (pc2 := 10) w dX2_sampleAt_9 rfl ?_
  rw [gI_add, gI_sub]
  refine s_i2l (pc2 := 11) w dX2_sampleAt_10 rfl ?_
  rw [gIL ⟨by omega, by omega⟩]
  refine s_iload_n (pc2 := 12) w dX2_sampleAt_11 rfl rfl ?_
  refine s_i2l (pc2 := 13) w dX2_sampleAt_12 rfl ?_
  rw [gIL ⟨by omega, by omega⟩]
  refine r_X10_quotient (pc2 := 16) w dX2_sampleAt_13 rfl rfl rfl ?_
  rw [if_neg (by rw [show (0 : Int64) = gL 0 from rfl, gL_eq ⟨by omega, by omega⟩ ⟨by omega, by omega⟩]; omega), gL_div ⟨by omega, by omega⟩ ⟨by omega, by omega⟩, Int.tdiv_eq_ediv_of_nonneg (by omega)]
  refine s_l2i (pc2 := 17) w dX2_sampleAt_16 rfl ?_
  rw [gLI]
  refine s_iadd (pc2 := 18) w dX2_sampleAt_17 rfl ?_
  rw [gI_add]
  refine s_ireturn w dX2_sampleAt_18 rfl rfl ?_
  exact q0
theorem lk_X2_sampleAt {l : Launch} (hl : l.stackTraces = false) : ∀ q ∈ L_X2_sampleAt, (q.2.1 < 5 → gk_Lk l RX2 gk_W1 2 q.1 q.2.1 q.2.2.1 q.2.2.2.1 q.2.2.2.2.1 q.2.2.2.2.2) := (List.forall_mem_cons.mpr ⟨(fun _ => ⟨yX2_lengthAt, cX2_lengthAt, 4, (some .int), 1, _, M_X2_lengthAt hl, ⟨by decide, by decide⟩, ⟨by decide, by decide, by decide +kernel⟩, ⟨(gk_wm 470 (by decide +kernel)), (gk_wm 94 (by decide +kernel))⟩, Or.inr (Or.inr (Or.inr (Or.inl ⟨rfl, rfl, (gk_wm 468 (by decide +kernel)), (gk_wm 469 (by decide +kernel)), gk_wm 467 (by decide +kernel), by decide, rfl⟩)))⟩), (List.forall_mem_cons.mpr ⟨(fun _ => ⟨yX10_quotient, cX10_quotient, 4, (some .long), 0, _, M_X10_quotient hl, ⟨by decide, by decide⟩, ⟨by decide, by decide, by decide +kernel⟩, ⟨(gk_wm 490 (by decide +kernel)), (gk_wm 89 (by decide +kernel))⟩, Or.inr (Or.inl ⟨rfl, rfl, (gk_wm 489 (by decide +kernel)), ⟨_, gk_nsm 16 rfl⟩, nt_X10_quotient⟩)⟩), (fun _ h => absurd h List.not_mem_nil)⟩)⟩)
theorem sp_X2_sampleAt : ∀ q ∈ L_X2_sampleAt, gk_Sq RX2 gk_W1 2 q := (List.forall_mem_cons.mpr ⟨⟨fun h => absurd h (by decide), fun h => absurd h (by decide), fun h => absurd h (by decide), fun h => absurd h (by decide), fun h => absurd h (by decide), fun h => absurd h (by decide)⟩, (List.forall_mem_cons.mpr ⟨⟨fun h => absurd h (by decide), fun h => absurd h (by decide), fun h => absurd h (by decide), fun h => absurd h (by decide), fun h => absurd h (by decide), fun h => absurd h (by decide)⟩, (fun _ h => absurd h List.not_mem_nil)⟩)⟩)
theorem M_X2_sampleAt {l : Launch} (hl : l.stackTraces = false) : gk_Mt l yX2_sampleAt (.code yX2_sampleAt cX2_sampleAt 3 (some .int) :: gk_W1) 2 0 S_X2_sampleAt := gk_meth hl gk_cw_ok (by decide +kernel) rfl m_X2_sampleAt pX2_ok (gk_Sp_of sp_X2_sampleAt) pX2_st (fun ci m S h => absurd h (by intro h; cases h)) (xf_X2 2) (fun idx kd ci mm cost S2 h h5 => lk_X2_sampleAt hl _ (gk_lk_mem h) h5)

/-- the latest below n that is one; -1 if none is -/
def gk_last (p : Nat → Bool) : Nat → Int
  | 0 => -1
  | n + 1 => if p n then n else gk_last p n
theorem gk_last_none {p : Nat → Bool} {m : Nat} : ∀ n, m ≤ n → (∀ k, m ≤ k → k < n → p k = false) → gk_last p n = gk_last p m
  | 0, h, _ => by rw [Nat.le_zero.mp h]
  | n + 1, h, h2 => by
    by_cases h3 : m = n + 1
    · rw [h3]
    · unfold gk_last
      rw [h2 n (by omega) (by omega), if_neg (by decide)]
      have h4 := gk_last_none n (by omega) (fun k a b => h2 k a (by omega))
      rw [h4]
      cases m <;> rfl
def gk_lp2 (A S B c s : Int) : Nat → Bool := fun t => decide ((t : Int) * c + gk_dl A S B t ≤ s * c)
def S_X2_latestTime : gk_S := fun as n fl x y K => ∃ (j : Nat) (t : Int32) (c0 : Int32) (A : Int) (S : Int) (B : Int) (s : Nat) (cc : Int), as = [.ref j, .int t, .int c0] ∧ (n = 202 ∧ fl = gk_fT) ∧ gk_kd j = 2 ∧ (gk_PL y j A S B) ∧ (gk_PB A S B) ∧ (t = nI s) ∧ (s < 256) ∧ (c0 = gI cc) ∧ (100 ≤ cc ∧ cc ≤ 1000) ∧ (K (.inl (some (.int (gI (gk_last (gk_lp2 A S B cc s) (s + 1)))))) n fl x y)
theorem r_X2_latestTime (w : gk_W c P cs (fun _ _ => none) rt uf sc K V) {idx : Nat} {j : Nat} {t : Int32} {c0 : Int32} {A : Int} {S : Int} {B : Int} {s : Nat} {cc : Int} (hd : decode c pc = .ok (.invokevirtual idx, 3)) (hp : pc + 3 = pc2) (hc : cs idx = some (1, 2, 3, 0, S_X2_latestTime)) (h8 : Nat.ble (r.map Value.category).sum 8 = true) (hk0 : gk_kd j = 2) (hp0 : gk_PL y j A S B) (hp1 : gk_PB A S B) (hp2 : t = nI s) (hp3 : s < 256) (hp4 : c0 = gI cc) (hp5 : 100 ≤ cc ∧ cc ≤ 1000) (kk0 : V pc2 L ((.int (gI (gk_last (gk_lp2 A S B cc s) (s + 1)))) :: r) 202 gk_fT x y u) : V pc L (.int c0 :: .int t :: .ref j :: r) 202 gk_fT x y u :=
  g_callv w hd hp hc (as := [.ref j, .int t, .int c0]) rfl h8 rfl rfl rfl (Or.inr (Or.inl ⟨Or.inl rfl, _, _, rfl, (gk_kd_j hk0 rfl), hk0⟩)) (Or.inl rfl) ⟨j, t, c0, A, S, B, s, cc, rfl, ⟨rfl, rfl⟩, hk0, hp0, hp1, hp2, hp3, hp4, hp5, kk0⟩
def L_X2_latestTime : List (Nat × gk_M0) := [(52, (1, 2, 3, 0, S_X2_markAt))]
def cs_X2_latestTime : Nat → Option gk_M0 := gk_lk L_X2_latestTime
theorem m_X2_latestTime : ∀ (as : List Value) (n : Nat) (fl : gk_F) (x : gk_X) (y : gk_Y) (K : gk_K), S_X2_latestTime as n fl x y K → (gk_L0 as).length ≤ 4 ∧ ∀ V : gk_V, gk_W cX2_latestTime pX2 cs_X2_latestTime (fun _ _ => none) (some .int) 0 none K V → V 0 (gk_en as 4) [] n fl x y 0 := by
  intro as n fl x y K hS
  obtain ⟨j, t, c0, A, S, B, s, cc, rfl, ⟨rfl, rfl⟩, hk0, hp0, hp1, hp2, hp3, hp4, hp5, q0⟩ := hS
  refine ⟨Nat.le_of_ble_eq_true rfl, fun V w => ?_⟩
  show V 0 [some (.ref j), some (.int t), some (.int c0), none] [] 202 gk_fT x y 0
  subst hp2 hp4
  have key : ∀ m : Nat, m ≤ s + 1 → gk_last (gk_lp2 A S B cc s) (s + 1) = gk_last (gk_lp2 A S B cc s) m → V 2 [some (.ref j), some (.int (nI s)), some (.int (gI cc)), some (.int (gI ((m : Int) - 1)))] [] 202 gk_fT x y 0 := by
    intro m
    induction m with
    | zero =>
      intro _ he
      refine s_iload_n (pc2 := 3) w dX2_latestTime_2 rfl rfl ?_
      refine s_if_lt (pc2 := 6) (tgt := 26) w dX2_latestTime_3 rfl (by decide) (fun _ => ?_) (fun h0 => absurd (by rw [show (0 : Int32) = gI 0 from rfl, gI_lt ⟨by omega, by omega⟩ ⟨by decide, by decide⟩]; omega) h0)
      refine s_iconst (pc2 := 27) (v := (-1)) w dX2_latestTime_26 rfl rfl ?_
      refine s_ireturn w dX2_latestTime_27 rfl rfl ?_
      rw [he] at q0
      exact q0
    | succ m ih =>
      intro hm he
      have hb := gk_dlb hp1 (t := (m : Int)) (by omega) (by omega)
      have hq1 := gk_mulb (a := (m : Int)) (b := cc) (A := 256) (B := 1000) (by omega) (by omega) (by omega) (by omega)
      have hq2 := gk_mulb (a := (s : Int)) (b := cc) (A := 256) (B := 1000) (by omega) (by omega) (by omega) (by omega)
      rw [show ((m + 1 : Nat) : Int) - 1 = (m : Int) by omega]
      refine s_iload_n (pc2 := 3) w dX2_latestTime_2 rfl rfl ?_
      refine s_if_lt (pc2 := 6) (tgt := 26) w dX2_latestTime_3 rfl (by decide) (fun h0 => absurd h0 (by rw [show (0 : Int32) = gI 0 from rfl, gI_lt ⟨by omega, by omega⟩ ⟨by decide, by decide⟩]; omega)) (fun _ => ?_)
      refine s_aload_n (pc2 := 7) w dX2_latestTime_6 rfl rfl ?_
      refine s_iload_n (pc2 := 8) w dX2_latestTime_7 rfl rfl ?_
      refine s_iload_n (pc2 := 9) w dX2_latestTime_8 rfl rfl ?_
      refine r_X2_markAt (pc2 := 12) w dX2_latestTime_9 rfl rfl rfl (by first | assumption | rfl) hp0 hp1 rfl ⟨by omega, by omega⟩ rfl hp5 ?_
      refine s_iload_n (pc2 := 13) w dX2_latestTime_12 rfl rfl ?_
      refine s_iload_n (pc2 := 14) w dX2_latestTime_13 rfl rfl ?_
      refine s_imul (pc2 := 15) w dX2_latestTime_14 rfl ?_
      rw [gI_nI, gI_mul]
      refine s_ic_gt (pc2 := 18) (tgt := 20) w dX2_latestTime_15 rfl (by decide) (fun c15 => ?_) (fun c15 => ?_)
      · refine s_iinc (pc2 := 23) w dX2_latestTime_20 rfl rfl rfl rfl ?_
        dsimp only [gk_s1, gk_s2, gk_cl]
        refine s_goto (tgt := 2) w dX2_latestTime_23 (by decide) ?_
        have hl : (s : Int) * cc < (m : Int) * cc + gk_dl A S B m := (gI_lt ⟨by omega, by omega⟩ ⟨by omega, by omega⟩).mp c15
        have he2 : gk_last (gk_lp2 A S B cc s) (m + 1) = gk_last (gk_lp2 A S B cc s) m := if_neg (fun h => by have := of_decide_eq_true h; omega)
        rw [gI_inc]
        exact ih (by omega) (he.trans he2)
      · refine s_iload_n (pc2 := 19) w dX2_latestTime_18 rfl rfl ?_
        refine s_ireturn w dX2_latestTime_19 rfl rfl ?_
        have hl : ¬ ((s : Int) * cc < (m : Int) * cc + gk_dl A S B m) := fun h => c15 ((gI_lt ⟨by omega, by omega⟩ ⟨by omega, by omega⟩).mpr h)
        have he2 : gk_last (gk_lp2 A S B cc s) (m + 1) = (m : Int) := if_pos (decide_eq_true (by omega))
        rw [he, he2] at q0
        exact q0
  refine s_iload_n (pc2 := 1) w dX2_latestTime_0 rfl rfl ?_
  refine s_istore_n (pc2 := 2) (k2 := 3) w dX2_latestTime_1 rfl rfl rfl ?_
  dsimp only [gk_s1, gk_s2, gk_cl]
  have h := key (s + 1) (Nat.le_refl _) rfl
  rw [show ((s + 1 : Nat) : Int) - 1 = (s : Int) by omega] at h
  exact h
theorem lk_X2_latestTime {l : Launch} (hl : l.stackTraces = false) : ∀ q ∈ L_X2_latestTime, (q.2.1 < 5 → gk_Lk l RX2 gk_W1 3 q.1 q.2.1 q.2.2.1 q.2.2.2.1 q.2.2.2.2.1 q.2.2.2.2.2) := (List.forall_mem_cons.mpr ⟨(fun _ => ⟨yX2_markAt, cX2_markAt, 3, (some .int), 2, _, M_X2_markAt hl, ⟨by decide, by decide⟩, ⟨by decide, by decide, by decide +kernel⟩, ⟨(gk_wm 466 (by decide +kernel)), (gk_wm 94 (by decide +kernel))⟩, Or.inr (Or.inr (Or.inr (Or.inl ⟨rfl, rfl, (gk_wm 464 (by decide +kernel)), (gk_wm 465 (by decide +kernel)), gk_wm 946 (by decide +kernel), by decide, rfl⟩)))⟩), (fun _ h => absurd h List.not_mem_nil)⟩)
theorem sp_X2_latestTime : ∀ q ∈ L_X2_latestTime, gk_Sq RX2 gk_W1 3 q := (List.forall_mem_cons.mpr ⟨⟨fun h => absurd h (by decide), fun h => absurd h (by decide), fun h => absurd h (by decide), fun h => absurd h (by decide), fun h => absurd h (by decide), fun h => absurd h (by decide)⟩, (fun _ h => absurd h List.not_mem_nil)⟩)
theorem M_X2_latestTime {l : Launch} (hl : l.stackTraces = false) : gk_Mt l yX2_latestTime (.code yX2_latestTime cX2_latestTime 4 (some .int) :: gk_W1) 3 0 S_X2_latestTime := gk_meth hl gk_cw_ok (by decide +kernel) rfl m_X2_latestTime pX2_ok (gk_Sp_of sp_X2_latestTime) pX2_st (fun ci m S h => absurd h (by intro h; cases h)) (xf_X2 3) (fun idx kd ci mm cost S2 h h5 => lk_X2_latestTime hl _ (gk_lk_mem h) h5)

end GKV

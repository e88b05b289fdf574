/-! THE METHODS, 14: powers, correlations, records -/
section GKV
variable {c : ByteArray} {P : gk_C} {cs : Nat → Option gk_M0} {rt : Option FieldType} {uf : Nat} {sc : Option Nat} {K : gk_K} {V : gk_V}
variable {L : List (Option Value)} {r : List Value} {n : Nat} {fl : gk_F} {x : gk_X} {y : gk_Y} {u pc pc2 : Nat}
theorem gL_nz {a : Int} (h : gQ a) (h0 : a ≠ 0) : ¬ gL a = (0 : Int64) := fun h2 => h0 ((gL_eq h ⟨by decide, by decide⟩).mp h2)
def gk_yr (y : gk_Y) (j : Nat) (f : Nat → Int64) (N : Nat) : gk_Y := fun i k => if i = j ∧ k < N then f k else y i k
theorem gk_yr_0 (y : gk_Y) (j : Nat) (f : Nat → Int64) : gk_yr y j f 0 = y := by
  funext i k
  exact if_neg (fun h => Nat.not_lt_zero k h.2)
theorem gk_yr_in {y : gk_Y} {j : Nat} {f : Nat → Int64} {N k : Nat} (h : k < N) : gk_yr y j f N j k = f k := if_pos ⟨rfl, h⟩
theorem gk_yr_s (y : gk_Y) (j : Nat) (f : Nat → Int64) (t : Nat) : gk_uy (gk_yr y j f t) j t (f t) = gk_yr y j f (t + 1) := by
  funext i k
  simp only [gk_uy, gk_yr]
  by_cases h : i = j ∧ k = t
  · obtain ⟨rfl, rfl⟩ := h
    rw [if_pos ⟨rfl, rfl⟩, if_pos ⟨rfl, Nat.lt_succ_self _⟩]
  · rw [if_neg h]
    by_cases h2 : i = j ∧ k < t
    · rw [if_pos h2, if_pos ⟨h2.1, by omega⟩]
    · rw [if_neg h2, if_neg (fun h3 => by
        have : k = t ∨ k < t := by omega
        rcases this with h4 | h4
        · exact h ⟨h3.1, h4⟩
        · exact h2 ⟨h3.1, h4⟩)]
/-- one place of a laid row written over -/
theorem gk_yr_w {y : gk_Y} {j : Nat} {f h : Nat → Int64} {N t : Nat} (ht : t < N) (e : ∀ k, k < N → k ≠ t → f k = h k) : gk_uy (gk_yr y j f N) j t (h t) = gk_yr y j h N := by
  funext i k
  simp only [gk_uy, gk_yr]
  by_cases h1 : i = j ∧ k = t
  · rw [if_pos h1, h1.1, h1.2, if_pos ⟨rfl, ht⟩]
  · rw [if_neg h1]
    by_cases h2 : i = j ∧ k < N
    · rw [if_pos h2, if_pos h2, e k h2.2 (fun h3 => h1 ⟨h2.1, h3⟩)]
    · rw [if_neg h2, if_neg h2]
def S_X6_powerOf : gk_S := fun as n fl x y K => ∃ (j : Nat) (p0 : Int32) (f : Int32) (l : Int32) (p : Nat) (a : Nat) (b : Nat), as = [.ref j, .int p0, .int f, .int l] ∧ (n = 202 ∧ fl = gk_fT) ∧ gk_kd j = 20 ∧ (gk_ln j = 256) ∧ (p0 = nI p) ∧ (1 ≤ p ∧ p ≤ 64) ∧ (f = nI a) ∧ (l = nI b) ∧ (a ≤ b) ∧ (b < 256) ∧ (K (.inl (some (.long (gL (gk_pw (gr x j) a p (b + 1 - a) p))))) n fl x y)
theorem r_X6_powerOf (w : gk_W c P cs (fun _ _ => none) rt uf sc K V) {idx : Nat} {j : Nat} {p0 : Int32} {f : Int32} {l : Int32} {p : Nat} {a : Nat} {b : Nat} (hd : decode c pc = .ok (.invokestatic idx, 3)) (hp : pc + 3 = pc2) (hc : cs idx = some (0, 0, 4, 0, S_X6_powerOf)) (h8 : Nat.ble (r.map Value.category).sum 8 = true) (hk0 : gk_kd j = 20) (hp0 : gk_ln j = 256) (hp1 : p0 = nI p) (hp2 : 1 ≤ p ∧ p ≤ 64) (hp3 : f = nI a) (hp4 : l = nI b) (hp5 : a ≤ b) (hp6 : b < 256) (kk0 : V pc2 L ((.long (gL (gk_pw (gr x j) a p (b + 1 - a) p))) :: r) 202 gk_fT x y u) : V pc L (.int l :: .int f :: .int p0 :: .ref j :: r) 202 gk_fT x y u :=
  g_calls w hd hp hc (as := [.ref j, .int p0, .int f, .int l]) rfl h8 rfl rfl rfl (Or.inl rfl) (Or.inl rfl) ⟨j, p0, f, l, p, a, b, rfl, ⟨rfl, rfl⟩, hk0, hp0, hp1, hp2, hp3, hp4, hp5, hp6, kk0⟩
def L_X6_powerOf : List (Nat × gk_M0) := [(23, (0, 0, 4, 0, S_X6_sumOf))]
def cs_X6_powerOf : Nat → Option gk_M0 := gk_lk L_X6_powerOf
theorem m_X6_powerOf : ∀ (as : List Value) (n : Nat) (fl : gk_F) (x : gk_X) (y : gk_Y) (K : gk_K), S_X6_powerOf as n fl x y K → (gk_L0 as).length ≤ 9 ∧ ∀ V : gk_V, gk_W cX6_powerOf pX6 cs_X6_powerOf (fun _ _ => none) (some .long) 0 none K V → V 0 (gk_en as 9) [] n fl x y 0 := by
  intro as n fl x y K hS
  obtain ⟨j, p0, f, l, p, a, b, rfl, ⟨rfl, rfl⟩, hk0, hp0, hp1, hp2, hp3, hp4, hp5, hp6, q0⟩ := hS
  refine ⟨Nat.le_of_ble_eq_true rfl, fun V w => ?_⟩
  show V 0 [some (.ref j), some (.int p0), some (.int f), some (.int l), none, none, none, none, none] [] 202 gk_fT x y 0
  subst hp1 hp3 hp4
  have key : ∀ (k i : Nat) (m7 : Option Value), i + k = p → V 6 [some (.ref j), some (.int (nI p)), some (.int (nI a)), some (.int (nI b)), some (.long (gL (gk_pw (gr x j) a p (b + 1 - a) i))), none, some (.int (nI i)), m7, none] [] 202 gk_fT x y 0 := by
    intro k
    induction k with
    | zero =>
      intro i m7 ht
      obtain rfl : i = p := by omega
      refine s_iload (pc2 := 8) w dX6_powerOf_6 rfl rfl ?_
      refine s_iload_n (pc2 := 9) w dX6_powerOf_8 rfl rfl ?_
      refine s_ic_ge (pc2 := 12) (tgt := 40) w dX6_powerOf_9 rfl (by decide) (fun _ => ?_) (fun h0 => absurd ((Int32.le_refl _)) h0)
      refine s_lload (pc2 := 42) w dX6_powerOf_40 rfl rfl ?_
      refine s_lreturn w dX6_powerOf_42 rfl ?_
      exact q0
    | succ k ih =>
      intro i m7 ht
      refine s_iload (pc2 := 8) w dX6_powerOf_6 rfl rfl ?_
      refine s_iload_n (pc2 := 9) w dX6_powerOf_8 rfl rfl ?_
      refine s_ic_ge (pc2 := 12) (tgt := 40) w dX6_powerOf_9 rfl (by decide) (fun h0 => absurd h0 (by rw [gI_nI, gI_nI, gI_le ⟨by omega, by omega⟩ ⟨by omega, by omega⟩]; omega)) (fun _ => ?_)
      refine s_aload_n (pc2 := 13) w dX6_powerOf_12 rfl rfl ?_
      refine s_iload_n (pc2 := 14) w dX6_powerOf_13 rfl rfl ?_
      refine s_iload (pc2 := 16) w dX6_powerOf_14 rfl rfl ?_
      refine s_iadd (pc2 := 17) w dX6_powerOf_16 rfl ?_
      rw [nI_add]
      refine s_iload_n (pc2 := 18) w dX6_powerOf_17 rfl rfl ?_
      refine s_iload_n (pc2 := 19) w dX6_powerOf_18 rfl rfl ?_
      refine r_X6_sumOf (pc2 := 22) (a := a) (i := i) w dX6_powerOf_19 rfl rfl rfl hk0 hp0 rfl rfl rfl (by omega) (by omega) (by omega) (by omega) ?_
      refine s_lstore (pc2 := 24) w dX6_powerOf_22 rfl rfl ?_
      dsimp only [gk_s1, gk_s2, gk_cl]
      refine s_lload (pc2 := 26) w dX6_powerOf_24 rfl rfl ?_
      refine s_lload (pc2 := 28) w dX6_powerOf_26 rfl rfl ?_
      refine s_lload (pc2 := 30) w dX6_powerOf_28 rfl rfl ?_
      refine s_lmul (pc2 := 31) w dX6_powerOf_30 rfl ?_
      refine s_ladd (pc2 := 32) w dX6_powerOf_31 rfl ?_
      rw [gL_mul, gL_add]
      refine s_lstore (pc2 := 34) w dX6_powerOf_32 rfl rfl ?_
      dsimp only [gk_s1, gk_s2, gk_cl]
      refine s_iinc (pc2 := 37) w dX6_powerOf_34 rfl rfl rfl rfl ?_
      dsimp only [gk_s1, gk_s2, gk_cl]
      rw [nI_s]
      refine s_goto (tgt := 6) w dX6_powerOf_37 (by decide) ?_
      exact ih (i + 1) _ (by omega)
  refine s_lconst (pc2 := 1) (v := gL 0) w dX6_powerOf_0 rfl rfl ?_
  refine s_lstore (pc2 := 3) w dX6_powerOf_1 rfl rfl ?_
  dsimp only [gk_s1, gk_s2, gk_cl]
  refine s_iconst (pc2 := 4) (v := 0) w dX6_powerOf_3 rfl rfl ?_
  refine s_istore (pc2 := 6) w dX6_powerOf_4 rfl rfl ?_
  dsimp only [gk_s1, gk_s2, gk_cl]
  exact key p 0 none (by omega)
theorem lk_X6_powerOf {l : Launch} (hl : l.stackTraces = false) : ∀ q ∈ L_X6_powerOf, (q.2.1 < 5 → gk_Lk l RX6 gk_W1 1 q.1 q.2.1 q.2.2.1 q.2.2.2.1 q.2.2.2.2.1 q.2.2.2.2.2) := (List.forall_mem_cons.mpr ⟨(fun _ => ⟨yX6_sumOf, cX6_sumOf, 7, (some .long), 0, _, M_X6_sumOf hl, ⟨by decide, by decide⟩, ⟨by decide, by decide, by decide +kernel⟩, ⟨(gk_wm 997 (by decide +kernel)), (gk_wm 108 (by decide +kernel))⟩, Or.inl ⟨rfl, rfl, (gk_wm 996 (by decide +kernel)), gk_wm 995 (by decide +kernel)⟩⟩), (fun _ h => absurd h List.not_mem_nil)⟩)
theorem sp_X6_powerOf : ∀ q ∈ L_X6_powerOf, gk_Sq RX6 gk_W1 1 q := (List.forall_mem_cons.mpr ⟨⟨fun h => absurd h (by decide), fun h => absurd h (by decide), fun h => absurd h (by decide), fun h => absurd h (by decide), fun h => absurd h (by decide), fun h => absurd h (by decide)⟩, (fun _ h => absurd h List.not_mem_nil)⟩)
theorem M_X6_powerOf {l : Launch} (hl : l.stackTraces = false) : gk_Mt l yX6_powerOf (.code yX6_powerOf cX6_powerOf 9 (some .long) :: gk_W1) 1 0 S_X6_powerOf := gk_meth hl gk_cw_ok (by decide +kernel) rfl m_X6_powerOf pX6_ok (gk_Sp_of sp_X6_powerOf) pX6_st (fun ci m S h => absurd h (by intro h; cases h)) (xf_X6 1) (fun idx kd ci mm cost S2 h h5 => lk_X6_powerOf hl _ (gk_lk_mem h) h5)

def S_X6_periodStrength : gk_S := fun as n fl x y K => ∃ (j : Nat) (p0 : Int32) (f : Int32) (l : Int32) (p : Nat) (a : Nat) (b : Nat), as = [.ref j, .int p0, .int f, .int l] ∧ (n = 202 ∧ fl = gk_fT) ∧ gk_kd j = 20 ∧ (gk_ln j = 256) ∧ (p0 = nI p) ∧ (1 ≤ p ∧ p ≤ 64) ∧ (f = nI a) ∧ (l = nI b) ∧ (a ≤ b) ∧ (b < 256) ∧ (K (.inl (some (.long (gL (gk_pw (gr x j) a p (b + 1 - a) p * p) / gL ((b : Int) - a + 1))))) n fl x y)
theorem r_X6_periodStrength (w : gk_W c P cs (fun _ _ => none) rt uf sc K V) {idx : Nat} {j : Nat} {p0 : Int32} {f : Int32} {l : Int32} {p : Nat} {a : Nat} {b : Nat} (hd : decode c pc = .ok (.invokestatic idx, 3)) (hp : pc + 3 = pc2) (hc : cs idx = some (0, 0, 4, 0, S_X6_periodStrength)) (h8 : Nat.ble (r.map Value.category).sum 8 = true) (hk0 : gk_kd j = 20) (hp0 : gk_ln j = 256) (hp1 : p0 = nI p) (hp2 : 1 ≤ p ∧ p ≤ 64) (hp3 : f = nI a) (hp4 : l = nI b) (hp5 : a ≤ b) (hp6 : b < 256) (kk0 : V pc2 L ((.long (gL (gk_pw (gr x j) a p (b + 1 - a) p * p) / gL ((b : Int) - a + 1))) :: r) 202 gk_fT x y u) : V pc L (.int l :: .int f :: .int p0 :: .ref j :: r) 202 gk_fT x y u :=
  g_calls w hd hp hc (as := [.ref j, .int p0, .int f, .int l]) rfl h8 rfl rfl rfl (Or.inl rfl) (Or.inl rfl) ⟨j, p0, f, l, p, a, b, rfl, ⟨rfl, rfl⟩, hk0, hp0, hp1, hp2, hp3, hp4, hp5, hp6, kk0⟩
def L_X6_periodStrength : List (Nat × gk_M0) := [(43, (0, 0, 4, 0, S_X6_powerOf)), (46, (0, 9, 2, 0, S_X10_quotient))]
def cs_X6_periodStrength : Nat → Option gk_M0 := gk_lk L_X6_periodStrength
theorem m_X6_periodStrength : ∀ (as : List Value) (n : Nat) (fl : gk_F) (x : gk_X) (y : gk_Y) (K : gk_K), S_X6_periodStrength as n fl x y K → (gk_L0 as).length ≤ 4 ∧ ∀ V : gk_V, gk_W cX6_periodStrength pX6 cs_X6_periodStrength (fun _ _ => none) (some .long) 0 none K V → V 0 (gk_en as 4) [] n fl x y 0 := by
  intro as n fl x y K hS
  obtain ⟨j, p0, f, l, p, a, b, rfl, ⟨rfl, rfl⟩, hk0, hp0, hp1, hp2, hp3, hp4, hp5, hp6, q0⟩ := hS
  refine ⟨Nat.le_of_ble_eq_true rfl, fun V w => ?_⟩
  show V 0 [some (.ref j), some (.int p0), some (.int f), some (.int l)] [] 202 gk_fT x y 0
  subst hp1 hp3 hp4
  refine s_aload_n (pc2 := 1) w dX6_periodStrength_0 rfl rfl ?_
  refine s_iload_n (pc2 := 2) w dX6_periodStrength_1 rfl rfl ?_
  refine s_iload_n (pc2 := 3) w dX6_periodStrength_2 rfl rfl ?_
  refine s_iload_n (pc2 := 4) w dX6_periodStrength_3 rfl rfl ?_
  refine r_X6_powerOf (pc2 := 7) w dX6_periodStrength_4 rfl rfl rfl hk0 hp0 rfl hp2 rfl rfl hp5 hp6 ?_
  refine s_iload_n (pc2 := 8) w dX6_periodStrength_7 rfl rfl ?_
  refine s_i2l (pc2 := 9) w dX6_periodStrength_8 rfl ?_
  rw [gI_nI p, gIL ⟨by omega, by omega⟩]
  refine s_lmul (pc2 := 10) w dX6_periodStrength_9 rfl ?_
  rw [gL_mul]
  refine s_iload_n (pc2 := 11) w dX6_periodStrength_10 rfl rfl ?_
  refine s_iload_n (pc2 := 12) w dX6_periodStrength_11 rfl rfl ?_
  refine s_isub (pc2 := 13) w dX6_periodStrength_12 rfl ?_
  refine s_iconst (pc2 := 14) (v := gI 1) w dX6_periodStrength_13 rfl rfl ?_
  refine s_iadd (pc2 := 15) w dX6_periodStrength_14 rfl ?_
  refine s_i2l (pc2 := 16) w dX6_periodStrength_15 rfl ?_
  rw [gI_nI b, gI_nI a, gI_sub, gI_add, gIL ⟨by omega, by omega⟩]
  refine r_X10_quotient (pc2 := 19) w dX6_periodStrength_16 rfl rfl rfl ?_
  rw [if_neg (gL_nz ⟨by omega, by omega⟩ (by omega) : ¬ gL ((b : Int) - a + 1) = (0 : Int64))]
  refine s_lreturn w dX6_periodStrength_19 rfl ?_
  exact q0
theorem lk_X6_periodStrength {l : Launch} (hl : l.stackTraces = false) : ∀ q ∈ L_X6_periodStrength, (q.2.1 < 5 → gk_Lk l RX6 gk_W1 2 q.1 q.2.1 q.2.2.1 q.2.2.2.1 q.2.2.2.2.1 q.2.2.2.2.2) := (List.forall_mem_cons.mpr ⟨(fun _ => ⟨yX6_powerOf, cX6_powerOf, 9, (some .long), 1, _, M_X6_powerOf hl, ⟨by decide, by decide⟩, ⟨by decide, by decide, by decide +kernel⟩, ⟨(gk_wm 1156 (by decide +kernel)), (gk_wm 108 (by decide +kernel))⟩, Or.inl ⟨rfl, rfl, (gk_wm 1155 (by decide +kernel)), gk_wm 1167 (by decide +kernel)⟩⟩), (List.forall_mem_cons.mpr ⟨(fun _ => ⟨yX10_quotient, cX10_quotient, 4, (some .long), 0, _, M_X10_quotient hl, ⟨by decide, by decide⟩, ⟨by decide, by decide, by decide +kernel⟩, ⟨(gk_wm 490 (by decide +kernel)), (gk_wm 89 (by decide +kernel))⟩, Or.inr (Or.inl ⟨rfl, rfl, (gk_wm 489 (by decide +kernel)), ⟨_, gk_nsm 19 rfl⟩, nt_X10_quotient⟩)⟩), (fun _ h => absurd h List.not_mem_nil)⟩)⟩)
theorem sp_X6_periodStrength : ∀ q ∈ L_X6_periodStrength, gk_Sq RX6 gk_W1 2 q := (List.forall_mem_cons.mpr ⟨⟨fun h => absurd h (by decide), fun h => absurd h (by decide), fun h => absurd h (by decide), fun h => absurd h (by decide), fun h => absurd h (by decide), fun h => absurd h (by decide)⟩, (List.forall_mem_cons.mpr ⟨⟨fun h => absurd h (by decide), fun h => absurd h (by decide), fun h => absurd h (by decide), fun h => absurd h (by decide), fun h => absurd h (by decide), fun h => absurd h (by decide)⟩, (fun _ h => absurd h List.not_mem_nil)⟩)⟩)
theorem M_X6_periodStrength {l : Launch} (hl : l.stackTraces = false) : gk_Mt l yX6_periodStrength (.code yX6_periodStrength cX6_periodStrength 4 (some .long) :: gk_W1) 2 0 S_X6_periodStrength := gk_meth hl gk_cw_ok (by decide +kernel) rfl m_X6_periodStrength pX6_ok (gk_Sp_of sp_X6_periodStrength) pX6_st (fun ci m S h => absurd h (by intro h; cases h)) (xf_X6 2) (fun idx kd ci mm cost S2 h h5 => lk_X6_periodStrength hl _ (gk_lk_mem h) h5)

def S_X11_powerOf : gk_S := fun as n fl x y K => ∃ (p0 : Int32) (f : Int32) (l : Int32) (p : Nat) (a : Nat) (b : Nat), as = [.ref 189, .int p0, .int f, .int l] ∧ (n = 202 ∧ fl = gk_fT) ∧ (p0 = nI p) ∧ (1 ≤ p ∧ p ≤ 64) ∧ (f = nI a) ∧ (l = nI b) ∧ (a ≤ b) ∧ (b < 256) ∧ (K (.inl (some (.long (gL (gk_pw (gr x 196) a p (b + 1 - a) p))))) n fl x (gk_yr y 198 (fun i => gL (gk_fd (gr x 196) a p i (b + 1 - a))) p))
theorem r_X11_powerOf (w : gk_W c P cs (fun _ _ => none) rt uf sc K V) {idx : Nat} {p0 : Int32} {f : Int32} {l : Int32} {p : Nat} {a : Nat} {b : Nat} (hd : decode c pc = .ok (.invokevirtual idx, 3)) (hp : pc + 3 = pc2) (hc : cs idx = some (1, 10, 4, 0, S_X11_powerOf)) (h8 : Nat.ble (r.map Value.category).sum 8 = true) (hp0 : p0 = nI p) (hp1 : 1 ≤ p ∧ p ≤ 64) (hp2 : f = nI a) (hp3 : l = nI b) (hp4 : a ≤ b) (hp5 : b < 256) (kk0 : V pc2 L ((.long (gL (gk_pw (gr x 196) a p (b + 1 - a) p))) :: r) 202 gk_fT x (gk_yr y 198 (fun i => gL (gk_fd (gr x 196) a p i (b + 1 - a))) p) u) : V pc L (.int l :: .int f :: .int p0 :: .ref 189 :: r) 202 gk_fT x y u :=
  g_callv w hd hp hc (as := [.ref 189, .int p0, .int f, .int l]) rfl h8 rfl rfl rfl (Or.inr (Or.inl ⟨Or.inl rfl, _, _, rfl, (gk_kd_j rfl rfl), rfl⟩)) (Or.inl rfl) ⟨p0, f, l, p, a, b, rfl, ⟨rfl, rfl⟩, hp0, hp1, hp2, hp3, hp4, hp5, kk0⟩
def L_X11_powerOf : List (Nat × gk_M0) := []
def cs_X11_powerOf : Nat → Option gk_M0 := gk_lk L_X11_powerOf
theorem m_X11_powerOf : ∀ (as : List Value) (n : Nat) (fl : gk_F) (x : gk_X) (y : gk_Y) (K : gk_K), S_X11_powerOf as n fl x y K → (gk_L0 as).length ≤ 7 ∧ ∀ V : gk_V, gk_W cX11_powerOf pX11 cs_X11_powerOf (fun _ _ => none) (some .long) 0 none K V → V 0 (gk_en as 7) [] n fl x y 0 := by
  intro as n fl x y K hS
  obtain ⟨p0, f, l, p, a, b, rfl, ⟨rfl, rfl⟩, hp0, hp1, hp2, hp3, hp4, hp5, q0⟩ := hS
  refine ⟨Nat.le_of_ble_eq_true rfl, fun V w => ?_⟩
  show V 0 [some (.ref 189), some (.int p0), some (.int f), some (.int l), none, none, none] [] 202 gk_fT x y 0
  subst hp0 hp2 hp3
  have k3 : ∀ (k i : Nat), i + k = p → V 66 [some (.ref 189), some (.int (nI p)), some (.int (nI a)), some (.int (nI b)), some (.long (gL (gk_pw (gr x 196) a p (b + 1 - a) i))), none, some (.int (nI i))] [] 202 gk_fT x (gk_yr y 198 (fun i => gL (gk_fd (gr x 196) a p i (b + 1 - a))) p) 0 := by
    intro k
    induction k with
    | zero =>
      intro i ht
      obtain rfl : i = p := by omega
      refine s_iload (pc2 := 68) w dX11_powerOf_66 rfl rfl ?_
      refine s_iload_n (pc2 := 69) w dX11_powerOf_68 rfl rfl ?_
      refine s_ic_ge (pc2 := 72) (tgt := 98) w dX11_powerOf_69 rfl (by decide) (fun _ => ?_) (fun h0 => absurd ((Int32.le_refl _)) h0)
      refine s_lload (pc2 := 100) w dX11_powerOf_98 rfl rfl ?_
      refine s_lreturn w dX11_powerOf_100 rfl ?_
      exact q0
    | succ k ih =>
      intro i ht
      refine s_iload (pc2 := 68) w dX11_powerOf_66 rfl rfl ?_
      refine s_iload_n (pc2 := 69) w dX11_powerOf_68 rfl rfl ?_
      refine s_ic_ge (pc2 := 72) (tgt := 98) w dX11_powerOf_69 rfl (by decide) (fun h0 => absurd h0 (by rw [gI_nI, gI_nI, gI_le ⟨by omega, by omega⟩ ⟨by omega, by omega⟩]; omega)) (fun _ => ?_)
      refine s_lload (pc2 := 74) w dX11_powerOf_72 rfl rfl ?_
      refine s_aload_n (pc2 := 75) w dX11_powerOf_74 rfl rfl ?_
      refine m_getR (pc2 := 78) (ci := 10) (k := 9) (j2 := 198) w dX11_powerOf_75 rfl rfl rfl rfl rfl rfl ?_
      refine s_iload (pc2 := 80) w dX11_powerOf_78 rfl rfl ?_
      refine m_laloadN (pc2 := 81) (t := i) (N := 64) w dX11_powerOf_80 rfl rfl rfl rfl (by omega) rfl ?_
      refine s_aload_n (pc2 := 82) w dX11_powerOf_81 rfl rfl ?_
      refine m_getR (pc2 := 85) (ci := 10) (k := 9) (j2 := 198) w dX11_powerOf_82 rfl rfl rfl rfl rfl rfl ?_
      refine s_iload (pc2 := 87) w dX11_powerOf_85 rfl rfl ?_
      refine m_laloadN (pc2 := 88) (t := i) (N := 64) w dX11_powerOf_87 rfl rfl rfl rfl (by omega) rfl ?_
      rw [gk_yr_in (by omega)]
      refine s_lmul (pc2 := 89) w dX11_powerOf_88 rfl ?_
      refine s_ladd (pc2 := 90) w dX11_powerOf_89 rfl ?_
      rw [gL_mul, gL_add]
      refine s_lstore (pc2 := 92) w dX11_powerOf_90 rfl rfl ?_
      dsimp only [gk_s1, gk_s2, gk_cl]
      refine s_iinc (pc2 := 95) w dX11_powerOf_92 rfl rfl rfl rfl ?_
      dsimp only [gk_s1, gk_s2, gk_cl]
      rw [nI_s]
      refine s_goto (tgt := 66) w dX11_powerOf_95 (by decide) ?_
      exact ih (i + 1) (by omega)
  have k2 : ∀ (k n : Nat), a + n + k = b + 1 → V 26 [some (.ref 189), some (.int (nI p)), some (.int (nI a)), some (.int (nI b)), some (.int (nI (a + n))), none, none] [] 202 gk_fT x (gk_yr y 198 (fun i => gL (gk_fd (gr x 196) a p i (n))) p) 0 := by
    intro k
    induction k with
    | zero =>
      intro n ht
      obtain rfl : n = b + 1 - a := by omega
      refine s_iload (pc2 := 28) w dX11_powerOf_26 rfl rfl ?_
      refine s_iload_n (pc2 := 29) w dX11_powerOf_28 rfl rfl ?_
      refine s_ic_gt (pc2 := 32) (tgt := 60) w dX11_powerOf_29 rfl (by decide) (fun _ => ?_) (fun h0 => absurd (by rw [gI_nI, gI_nI, gI_lt ⟨by omega, by omega⟩ ⟨by omega, by omega⟩]; omega) h0)
      refine s_lconst (pc2 := 61) (v := gL 0) w dX11_powerOf_60 rfl rfl ?_
      refine s_lstore (pc2 := 63) w dX11_powerOf_61 rfl rfl ?_
      dsimp only [gk_s1, gk_s2, gk_cl]
      refine s_iconst (pc2 := 64) (v := 0) w dX11_powerOf_63 rfl rfl ?_
      refine s_istore (pc2 := 66) w dX11_powerOf_64 rfl rfl ?_
      dsimp only [gk_s1, gk_s2, gk_cl]
      exact k3 p 0 (by omega)
    | succ k ih =>
      intro n ht
      have hnp : n % p < p := Nat.mod_lt _ (by omega)
      refine s_iload (pc2 := 28) w dX11_powerOf_26 rfl rfl ?_
      refine s_iload_n (pc2 := 29) w dX11_powerOf_28 rfl rfl ?_
      refine s_ic_gt (pc2 := 32) (tgt := 60) w dX11_powerOf_29 rfl (by decide) (fun h0 => absurd h0 (by rw [gI_nI, gI_nI, gI_lt ⟨by omega, by omega⟩ ⟨by omega, by omega⟩]; omega)) (fun _ => ?_)
      refine s_aload_n (pc2 := 33) w dX11_powerOf_32 rfl rfl ?_
      refine m_getR (pc2 := 36) (ci := 10) (k := 9) (j2 := 198) w dX11_powerOf_33 rfl rfl rfl rfl rfl rfl ?_
      refine s_iload (pc2 := 38) w dX11_powerOf_36 rfl rfl ?_
      refine s_iload_n (pc2 := 39) w dX11_powerOf_38 rfl rfl ?_
      refine s_isub (pc2 := 40) w dX11_powerOf_39 rfl ?_
      refine s_iload_n (pc2 := 41) w dX11_powerOf_40 rfl rfl ?_
      refine s_irem (pc2 := 42) w dX11_powerOf_41 rfl (by rw [show (0 : Int32) = gI 0 from rfl, gI_nI, gI_eq ⟨by omega, by omega⟩ ⟨by omega, by omega⟩]; omega) ?_
      rw [show nI (a + n) - nI a = gI (n : Int) by rw [gI_nI, gI_nI, gI_sub]; exact congrArg gI (by omega), gI_nI p, gI_rem ⟨by omega, by omega⟩ ⟨by omega, by omega⟩, Int.tmod_eq_emod_of_nonneg (by omega), show gI ((n : Int) % (p : Int)) = nI (n % p) by rw [gI_nI]; exact congrArg gI (by omega)]
      refine s_dup2 (pc2 := 43) w dX11_powerOf_42 rfl rfl rfl ?_
      refine m_laloadN (pc2 := 44) (t := (n % p)) (N := 64) w dX11_powerOf_43 rfl rfl rfl rfl (by omega) rfl ?_
      rw [gk_yr_in hnp]
      refine s_aload_n (pc2 := 45) w dX11_powerOf_44 rfl rfl ?_
      refine m_getR (pc2 := 48) (ci := 10) (k := 7) (j2 := 196) w dX11_powerOf_45 rfl rfl rfl rfl rfl rfl ?_
      refine s_iload (pc2 := 50) w dX11_powerOf_48 rfl rfl ?_
      refine m_ialoadN (pc2 := 51) (t := a + n) (N := 256) w dX11_powerOf_50 rfl rfl rfl rfl (by omega) rfl ?_
      refine s_i2l (pc2 := 52) w dX11_powerOf_51 rfl ?_
      refine s_ladd (pc2 := 53) w dX11_powerOf_52 rfl ?_
      rw [gI64, gL_add]
      refine m_lastoreN (pc2 := 54) (t := (n % p)) (N := 64) w dX11_powerOf_53 rfl rfl rfl rfl (by omega) rfl ?_
      refine s_iinc (pc2 := 57) w dX11_powerOf_54 rfl rfl rfl rfl ?_
      dsimp only [gk_s1, gk_s2, gk_cl]
      rw [nI_s]
      refine s_goto (tgt := 26) w dX11_powerOf_57 (by decide) ?_
      have h := ih (n + 1) (by omega)
      have e : gk_fd (gr x 196) a p (n % p) (n + 1) = gk_fd (gr x 196) a p (n % p) n + gr x 196 (a + n) := if_pos rfl
      rw [← gk_yr_w (f := fun i => gL (gk_fd (gr x 196) a p i n)) hnp (fun k _ hk => congrArg gL (show gk_fd (gr x 196) a p k n = gk_fd (gr x 196) a p k (n + 1) from (if_neg (fun h9 => hk h9.symm)).symm)), e] at h
      exact h
  have k1 : ∀ (k t : Nat), t + k = p → V 3 [some (.ref 189), some (.int (nI p)), some (.int (nI a)), some (.int (nI b)), some (.int (nI t)), none, none] [] 202 gk_fT x (gk_yr y 198 (fun _ => 0) t) 0 := by
    intro k
    induction k with
    | zero =>
      intro t ht
      obtain rfl : t = p := by omega
      refine s_iload (pc2 := 5) w dX11_powerOf_3 rfl rfl ?_
      refine s_iload_n (pc2 := 6) w dX11_powerOf_5 rfl rfl ?_
      refine s_ic_ge (pc2 := 9) (tgt := 23) w dX11_powerOf_6 rfl (by decide) (fun _ => ?_) (fun h0 => absurd ((Int32.le_refl _)) h0)
      refine s_iload_n (pc2 := 24) w dX11_powerOf_23 rfl rfl ?_
      refine s_istore (pc2 := 26) w dX11_powerOf_24 rfl rfl ?_
      dsimp only [gk_s1, gk_s2, gk_cl]
      exact k2 (b + 1 - a) 0 (by omega)
    | succ k ih =>
      intro t ht
      refine s_iload (pc2 := 5) w dX11_powerOf_3 rfl rfl ?_
      refine s_iload_n (pc2 := 6) w dX11_powerOf_5 rfl rfl ?_
      refine s_ic_ge (pc2 := 9) (tgt := 23) w dX11_powerOf_6 rfl (by decide) (fun h0 => absurd h0 (by rw [gI_nI, gI_nI, gI_le ⟨by omega, by omega⟩ ⟨by omega, by omega⟩]; omega)) (fun _ => ?_)
      refine s_aload_n (pc2 := 10) w dX11_powerOf_9 rfl rfl ?_
      refine m_getR (pc2 := 13) (ci := 10) (k := 9) (j2 := 198) w dX11_powerOf_10 rfl rfl rfl rfl rfl rfl ?_
      refine s_iload (pc2 := 15) w dX11_powerOf_13 rfl rfl ?_
      refine s_lconst (pc2 := 16) (v := 0) w dX11_powerOf_15 rfl rfl ?_
      refine m_lastoreN (pc2 := 17) (t := t) (N := 64) w dX11_powerOf_16 rfl rfl rfl rfl (by omega) rfl ?_
      refine s_iinc (pc2 := 20) w dX11_powerOf_17 rfl rfl rfl rfl ?_
      dsimp only [gk_s1, gk_s2, gk_cl]
      rw [nI_s]
      refine s_goto (tgt := 3) w dX11_powerOf_20 (by decide) ?_
      have h := ih (t + 1) (by omega)
      rw [← gk_yr_s] at h
      exact h
  refine s_iconst (pc2 := 1) (v := 0) w dX11_powerOf_0 rfl rfl ?_
  refine s_istore (pc2 := 3) w dX11_powerOf_1 rfl rfl ?_
  dsimp only [gk_s1, gk_s2, gk_cl]
  have h := k1 p 0 (by omega)
  rw [gk_yr_0] at h
  exact h
theorem lk_X11_powerOf {l : Launch} (hl : l.stackTraces = false) : ∀ q ∈ L_X11_powerOf, (q.2.1 < 5 → gk_Lk l RX11 gk_W1 0 q.1 q.2.1 q.2.2.1 q.2.2.2.1 q.2.2.2.2.1 q.2.2.2.2.2) := (fun _ h => absurd h List.not_mem_nil)
theorem sp_X11_powerOf : ∀ q ∈ L_X11_powerOf, gk_Sq RX11 gk_W1 0 q := (fun _ h => absurd h List.not_mem_nil)
theorem M_X11_powerOf {l : Launch} (hl : l.stackTraces = false) : gk_Mt l yX11_powerOf (.code yX11_powerOf cX11_powerOf 7 (some .long) :: gk_W1) 0 0 S_X11_powerOf := gk_meth hl gk_cw_ok (by decide +kernel) rfl m_X11_powerOf pX11_ok (gk_Sp_of sp_X11_powerOf) pX11_st (fun ci m S h => absurd h (by intro h; cases h)) (xf_X11 0) (fun idx kd ci mm cost S2 h h5 => lk_X11_powerOf hl _ (gk_lk_mem h) h5)

def S_X11_strengthOf : gk_S := fun as n fl x y K => ∃ (p0 : Int32) (f : Int32) (l : Int32) (p : Nat) (a : Nat) (b : Nat), as = [.ref 189, .int p0, .int f, .int l] ∧ (n = 202 ∧ fl = gk_fT) ∧ (p0 = nI p) ∧ (1 ≤ p ∧ p ≤ 64) ∧ (f = nI a) ∧ (l = nI b) ∧ (a ≤ b) ∧ (b < 256) ∧ (K (.inl (some (.long (gL (gk_pw (gr x 196) a p (b + 1 - a) p * p) / gL ((b : Int) - a + 1))))) n fl x (gk_yr y 198 (fun i => gL (gk_fd (gr x 196) a p i (b + 1 - a))) p))
theorem r_X11_strengthOf (w : gk_W c P cs (fun _ _ => none) rt uf sc K V) {idx : Nat} {p0 : Int32} {f : Int32} {l : Int32} {p : Nat} {a : Nat} {b : Nat} (hd : decode c pc = .ok (.invokevirtual idx, 3)) (hp : pc + 3 = pc2) (hc : cs idx = some (1, 10, 4, 0, S_X11_strengthOf)) (h8 : Nat.ble (r.map Value.category).sum 8 = true) (hp0 : p0 = nI p) (hp1 : 1 ≤ p ∧ p ≤ 64) (hp2 : f = nI a) (hp3 : l = nI b) (hp4 : a ≤ b) (hp5 : b < 256) (kk0 : V pc2 L ((.long (gL (gk_pw (gr x 196) a p (b + 1 - a) p * p) / gL ((b : Int) - a + 1))) :: r) 202 gk_fT x (gk_yr y 198 (fun i => gL (gk_fd (gr x 196) a p i (b + 1 - a))) p) u) : V pc L (.int l :: .int f :: .int p0 :: .ref 189 :: r) 202 gk_fT x y u :=
  g_callv w hd hp hc (as := [.ref 189, .int p0, .int f, .int l]) rfl h8 rfl rfl rfl (Or.inr (Or.inl ⟨Or.inl rfl, _, _, rfl, (gk_kd_j rfl rfl), rfl⟩)) (Or.inl rfl) ⟨p0, f, l, p, a, b, rfl, ⟨rfl, rfl⟩, hp0, hp1, hp2, hp3, hp4, hp5, kk0⟩
def L_X11_strengthOf : List (Nat × gk_M0) := [(253, (1, 10, 4, 0, S_X11_powerOf))]
def cs_X11_strengthOf : Nat → Option gk_M0 := gk_lk L_X11_strengthOf
theorem m_X11_strengthOf : ∀ (as : List Value) (n : Nat) (fl : gk_F) (x : gk_X) (y : gk_Y) (K : gk_K), S_X11_strengthOf as n fl x y K → (gk_L0 as).length ≤ 4 ∧ ∀ V : gk_V, gk_W cX11_strengthOf pX11 cs_X11_strengthOf (fun _ _ => none) (some .long) 0 none K V → V 0 (gk_en as 4) [] n fl x y 0 := by
  intro as n fl x y K hS
  obtain ⟨p0, f, l, p, a, b, rfl, ⟨rfl, rfl⟩, hp0, hp1, hp2, hp3, hp4, hp5, q0⟩ := hS
  refine ⟨Nat.le_of_ble_eq_true rfl, fun V w => ?_⟩
  show V 0 [some (.ref 189), some (.int p0), some (.int f), some (.int l)] [] 202 gk_fT x y 0
  subst hp0 hp2 hp3
  refine s_aload_n (pc2 := 1) w dX11_strengthOf_0 rfl rfl ?_
  refine s_iload_n (pc2 := 2) w dX11_strengthOf_1 rfl rfl ?_
  refine s_iload_n (pc2 := 3) w dX11_strengthOf_2 rfl rfl ?_
  refine s_iload_n (pc2 := 4) w dX11_strengthOf_3 rfl rfl ?_
  refine r_X11_powerOf (pc2 := 7) w dX11_strengthOf_4 rfl rfl rfl rfl hp1 rfl rfl hp4 hp5 ?_
  refine s_iload_n (pc2 := 8) w dX11_strengthOf_7 rfl rfl ?_
  refine s_i2l (pc2 := 9) w dX11_strengthOf_8 rfl ?_
  rw [gI_nI p, gIL ⟨by omega, by omega⟩]
  refine s_lmul (pc2 := 10) w dX11_strengthOf_9 rfl ?_
  rw [gL_mul]
  refine s_iload_n (pc2 := 11) w dX11_strengthOf_10 rfl rfl ?_
  refine s_iload_n (pc2 := 12) w dX11_strengthOf_11 rfl rfl ?_
  refine s_isub (pc2 := 13) w dX11_strengthOf_12 rfl ?_
  refine s_iconst (pc2 := 14) (v := gI 1) w dX11_strengthOf_13 rfl rfl ?_
  refine s_iadd (pc2 := 15) w dX11_strengthOf_14 rfl ?_
  refine s_i2l (pc2 := 16) w dX11_strengthOf_15 rfl ?_
  rw [gI_nI b, gI_nI a, gI_sub, gI_add, gIL ⟨by omega, by omega⟩]
  refine s_ldiv (pc2 := 17) w dX11_strengthOf_16 rfl (gL_nz ⟨by omega, by omega⟩ (by omega) : ¬ gL ((b : Int) - a + 1) = (0 : Int64)) ?_
  refine s_lreturn w dX11_strengthOf_17 rfl ?_
  exact q0
theorem lk_X11_strengthOf {l : Launch} (hl : l.stackTraces = false) : ∀ q ∈ L_X11_strengthOf, (q.2.1 < 5 → gk_Lk l RX11 gk_W1 1 q.1 q.2.1 q.2.2.1 q.2.2.2.1 q.2.2.2.2.1 q.2.2.2.2.2) := (List.forall_mem_cons.mpr ⟨(fun _ => ⟨yX11_powerOf, cX11_powerOf, 7, (some .long), 0, _, M_X11_powerOf hl, ⟨by decide, by decide⟩, ⟨by decide, by decide, by decide +kernel⟩, ⟨(gk_wm 1663 (by decide +kernel)), (gk_wm 99 (by decide +kernel))⟩, Or.inr (Or.inr (Or.inr (Or.inl ⟨rfl, rfl, (gk_wm 1662 (by decide +kernel)), (gk_wm 72 (by decide +kernel)), gk_wm 1660 (by decide +kernel), by decide, rfl⟩)))⟩), (fun _ h => absurd h List.not_mem_nil)⟩)
theorem sp_X11_strengthOf : ∀ q ∈ L_X11_strengthOf, gk_Sq RX11 gk_W1 1 q := (List.forall_mem_cons.mpr ⟨⟨fun h => absurd h (by decide), fun h => absurd h (by decide), fun h => absurd h (by decide), fun h => absurd h (by decide), fun h => absurd h (by decide), fun h => absurd h (by decide)⟩, (fun _ h => absurd h List.not_mem_nil)⟩)
theorem M_X11_strengthOf {l : Launch} (hl : l.stackTraces = false) : gk_Mt l yX11_strengthOf (.code yX11_strengthOf cX11_strengthOf 4 (some .long) :: gk_W1) 1 0 S_X11_strengthOf := gk_meth hl gk_cw_ok (by decide +kernel) rfl m_X11_strengthOf pX11_ok (gk_Sp_of sp_X11_strengthOf) pX11_st (fun ci m S h => absurd h (by intro h; cases h)) (xf_X11 1) (fun idx kd ci mm cost S2 h h5 => lk_X11_strengthOf hl _ (gk_lk_mem h) h5)

def S_X11_recorded : gk_S := fun as n fl x y K => ∃ (m : Int32) (s : Int32) (mm : Nat), as = [.ref 189, .int m, .int s] ∧ (n = 202 ∧ fl = gk_fT) ∧ (m = nI mm) ∧ (mm < 8) ∧ (K (.inl (some (.int (gk_at (fun k => x 190 (186 + 256 * mm + k)) s)))) n fl x y)
theorem r_X11_recorded (w : gk_W c P cs (fun _ _ => none) rt uf sc K V) {idx : Nat} {m : Int32} {s : Int32} {mm : Nat} (hd : decode c pc = .ok (.invokevirtual idx, 3)) (hp : pc + 3 = pc2) (hc : cs idx = some (1, 10, 3, 0, S_X11_recorded)) (h8 : Nat.ble (r.map Value.category).sum 8 = true) (hp0 : m = nI mm) (hp1 : mm < 8) (kk0 : V pc2 L ((.int (gk_at (fun k => x 190 (186 + 256 * mm + k)) s)) :: r) 202 gk_fT x y u) : V pc L (.int s :: .int m :: .ref 189 :: r) 202 gk_fT x y u :=
  g_callv w hd hp hc (as := [.ref 189, .int m, .int s]) rfl h8 rfl rfl rfl (Or.inr (Or.inl ⟨Or.inl rfl, _, _, rfl, (gk_kd_j rfl rfl), rfl⟩)) (Or.inl rfl) ⟨m, s, mm, rfl, ⟨rfl, rfl⟩, hp0, hp1, kk0⟩
def L_X11_recorded : List (Nat × gk_M0) := [(56, (0, 10, 1, 0, S_X11_isTime))]
def cs_X11_recorded : Nat → Option gk_M0 := gk_lk L_X11_recorded
theorem m_X11_recorded : ∀ (as : List Value) (n : Nat) (fl : gk_F) (x : gk_X) (y : gk_Y) (K : gk_K), S_X11_recorded as n fl x y K → (gk_L0 as).length ≤ 3 ∧ ∀ V : gk_V, gk_W cX11_recorded pX11 cs_X11_recorded (fun _ _ => none) (some .int) 0 none K V → V 0 (gk_en as 3) [] n fl x y 0 := by
  intro as n fl x y K hS
  obtain ⟨m, s, mm, rfl, ⟨rfl, rfl⟩, hp0, hp1, q0⟩ := hS
  refine ⟨Nat.le_of_ble_eq_true rfl, fun V w => ?_⟩
  show V 0 [some (.ref 189), some (.int m), some (.int s)] [] 202 gk_fT x y 0
  subst hp0
  refine s_iload_n (pc2 := 1) w dX11_recorded_0 rfl rfl ?_
  refine r_X11_isTime (pc2 := 4) w dX11_recorded_1 rfl rfl rfl ?_
  refine s_if_eq (pc2 := 7) (tgt := 26) w dX11_recorded_4 rfl (by decide) (fun c4 => ?_) (fun c4 => ?_)
  · refine s_iconst (pc2 := 27) (v := gI 0) w dX11_recorded_26 rfl rfl ?_
    refine s_ireturn w dX11_recorded_27 rfl rfl ?_
    rw [g_b0] at c4
    rw [show gk_at (fun k => x 190 (186 + 256 * mm + k)) s = 0 from if_neg c4] at q0
    exact q0
  · rw [g_b0, Classical.not_not] at c4
    have hs := c4
    obtain ⟨s0, rfl, hR⟩ := gI_ex s
    rw [show (0 : Int32) = gI 0 from rfl, show (255 : Int32) = gI 255 from rfl, gI_le ⟨by decide, by decide⟩ hR, gI_le hR ⟨by decide, by decide⟩] at hs
    obtain ⟨t, rfl⟩ := Int.eq_ofNat_of_zero_le hs.1
    refine s_aload_n (pc2 := 8) w dX11_recorded_7 rfl rfl ?_
    refine m_getR (pc2 := 11) (ci := 10) (k := 0) (j2 := 190) w dX11_recorded_8 rfl rfl rfl rfl rfl rfl ?_
    refine s_sipush (pc2 := 14) (v := gI 186) w dX11_recorded_11 rfl rfl ?_
    refine s_sipush (pc2 := 17) (v := gI 256) w dX11_recorded_14 rfl rfl ?_
    refine s_iload_n (pc2 := 18) w dX11_recorded_17 rfl rfl ?_
    refine s_imul (pc2 := 19) w dX11_recorded_18 rfl ?_
    refine s_iadd (pc2 := 20) w dX11_recorded_19 rfl ?_
    refine s_iload_n (pc2 := 21) w dX11_recorded_20 rfl rfl ?_
    refine s_iadd (pc2 := 22) w dX11_recorded_21 rfl ?_
    refine m_ialoadN (pc2 := 23) (t := 186 + 256 * mm + t) (N := 2234) w dX11_recorded_22 rfl rfl rfl (by rw [show gI (t : Int) = nI t from rfl]; simp only [gI_nI, gI_add, gI_mul]; exact congrArg gI (by omega)) (by omega) rfl ?_
    refine s_goto (tgt := 27) w dX11_recorded_23 (by decide) ?_
    refine s_ireturn w dX11_recorded_27 rfl rfl ?_
    rw [show gk_at (fun k => x 190 (186 + 256 * mm + k)) (gI (t : Int)) = x 190 (186 + 256 * mm + t) from (if_pos c4).trans (by show x 190 (186 + 256 * mm + (gI (t : Int)).toInt.toNat) = _; rw [gI_of hR]; rfl)] at q0
    exact q0
theorem lk_X11_recorded {l : Launch} (hl : l.stackTraces = false) : ∀ q ∈ L_X11_recorded, (q.2.1 < 5 → gk_Lk l RX11 gk_W1 2 q.1 q.2.1 q.2.2.1 q.2.2.2.1 q.2.2.2.2.1 q.2.2.2.2.2) := (List.forall_mem_cons.mpr ⟨(fun _ => ⟨yX11_isTime, cX11_isTime, 1, (some .boolean), 1, _, M_X11_isTime hl, ⟨by decide, by decide⟩, ⟨by decide, by decide, by decide +kernel⟩, ⟨(gk_wm 1432 (by decide +kernel)), (gk_wm 99 (by decide +kernel))⟩, Or.inl ⟨rfl, rfl, (gk_wm 1431 (by decide +kernel)), gk_wm 1430 (by decide +kernel)⟩⟩), (fun _ h => absurd h List.not_mem_nil)⟩)
theorem sp_X11_recorded : ∀ q ∈ L_X11_recorded, gk_Sq RX11 gk_W1 2 q := (List.forall_mem_cons.mpr ⟨⟨fun h => absurd h (by decide), fun h => absurd h (by decide), fun h => absurd h (by decide), fun h => absurd h (by decide), fun h => absurd h (by decide), fun h => absurd h (by decide)⟩, (fun _ h => absurd h List.not_mem_nil)⟩)
theorem M_X11_recorded {l : Launch} (hl : l.stackTraces = false) : gk_Mt l yX11_recorded (.code yX11_recorded cX11_recorded 3 (some .int) :: gk_W1) 2 0 S_X11_recorded := gk_meth hl gk_cw_ok (by decide +kernel) rfl m_X11_recorded pX11_ok (gk_Sp_of sp_X11_recorded) pX11_st (fun ci m S h => absurd h (by intro h; cases h)) (xf_X11 2) (fun idx kd ci mm cost S2 h h5 => lk_X11_recorded hl _ (gk_lk_mem h) h5)

end GKV

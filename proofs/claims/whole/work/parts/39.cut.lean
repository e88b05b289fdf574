/-! THE METHODS, 20: what a cut takes away -/
section GKV
variable {c : ByteArray} {P : gk_C} {cs : Nat → Option gk_M0} {rt : Option FieldType} {uf : Nat} {sc : Option Nat} {K : gk_K} {V : gk_V}
variable {L : List (Option Value)} {r : List Value} {n : Nat} {fl : gk_F} {x : gk_X} {y : gk_Y} {u pc pc2 : Nat}
def gk_rp (sp : Bool) (gr v d e : Int) : Int := ((if sp then (v * (1000 + d)).tdiv (1000 + e) else v) * gr).tdiv 100
theorem rp_b {v d e : Int} (hv : -1000000 ≤ v ∧ v ≤ 1000000) (hd : 0 ≤ d ∧ d ≤ 65536) (he : 0 ≤ e) : (-67000000000 ≤ v * (1000 + d) ∧ v * (1000 + d) ≤ 67000000000) ∧ -67000000000 ≤ (v * (1000 + d)).tdiv (1000 + e) ∧ (v * (1000 + d)).tdiv (1000 + e) ≤ 67000000000 := by
  have h := gk_mulb (a := v) (b := 1000 + d) (A := 1000000) (B := 67000) (by omega) (by omega) (by omega) (by omega)
  have h2 := tdiv_b (a := v * (1000 + d)) (b := 1000 + e) (A := 67000000000) (by omega) (by omega) (by omega)
  exact ⟨by omega, h2⟩
def S_X0_reflectedPart : gk_S := fun as n fl x y K => ∃ (t : Int32) (g : Nat → Int32) (tt : Nat) (A : Int) (S : Int) (B : Int) (B2 : Int) (v : Int), as = [.ref 90, .ref 1, .int t] ∧ (n = 202 ∧ fl = gk_fT) ∧ (rs0 1 g x) ∧ (gWf g) ∧ (t = nI tt) ∧ (tt < 256) ∧ (gk_PL y 93 A S B) ∧ (gk_PB A S B) ∧ (gk_PL y 94 A S B2) ∧ (gk_PB A S B2) ∧ (x 92 tt = gI v) ∧ (-1000000 ≤ v ∧ v ≤ 1000000) ∧ (K (.inl (some (.int (gI (gk_rp (gSp g) (gz g 1) v (gk_dl A S B tt) (gk_dl A S B2 tt)))))) n fl x y)
theorem r_X0_reflectedPart (w : gk_W c P cs (fun _ _ => none) rt uf sc K V) {idx : Nat} {t : Int32} {g : Nat → Int32} {tt : Nat} {A : Int} {S : Int} {B : Int} {B2 : Int} {v : Int} (hd : decode c pc = .ok (.invokevirtual idx, 3)) (hp : pc + 3 = pc2) (hc : cs idx = some (1, 0, 3, 0, S_X0_reflectedPart)) (h8 : Nat.ble (r.map Value.category).sum 8 = true) (hp0 : rs0 1 g x) (hp1 : gWf g) (hp2 : t = nI tt) (hp3 : tt < 256) (hp4 : gk_PL y 93 A S B) (hp5 : gk_PB A S B) (hp6 : gk_PL y 94 A S B2) (hp7 : gk_PB A S B2) (hp8 : x 92 tt = gI v) (hp9 : -1000000 ≤ v ∧ v ≤ 1000000) (kk0 : V pc2 L ((.int (gI (gk_rp (gSp g) (gz g 1) v (gk_dl A S B tt) (gk_dl A S B2 tt)))) :: r) 202 gk_fT x y u) : V pc L (.int t :: .ref 1 :: .ref 90 :: r) 202 gk_fT x y u :=
  g_callv w hd hp hc (as := [.ref 90, .ref 1, .int t]) rfl h8 rfl rfl rfl (Or.inr (Or.inl ⟨Or.inl rfl, _, _, rfl, (gk_kd_j rfl rfl), rfl⟩)) (Or.inl rfl) ⟨t, g, tt, A, S, B, B2, v, rfl, ⟨rfl, rfl⟩, hp0, hp1, hp2, hp3, hp4, hp5, hp6, hp7, hp8, hp9, kk0⟩
def L_X0_reflectedPart : List (Nat × gk_M0) := [(122, (1, 2, 2, 0, S_X2_lengthAt)), (126, (0, 9, 2, 0, S_X10_quotient))]
def cs_X0_reflectedPart : Nat → Option gk_M0 := gk_lk L_X0_reflectedPart
theorem m_X0_reflectedPart : ∀ (as : List Value) (n : Nat) (fl : gk_F) (x : gk_X) (y : gk_Y) (K : gk_K), S_X0_reflectedPart as n fl x y K → (gk_L0 as).length ≤ 5 ∧ ∀ V : gk_V, gk_W cX0_reflectedPart pX0 cs_X0_reflectedPart (fun _ _ => none) (some .int) 0 none K V → V 0 (gk_en as 5) [] n fl x y 0 := by
  intro as n fl x y K hS
  obtain ⟨t, g, tt, A, S, B, B2, v, rfl, ⟨rfl, rfl⟩, hp0, hp1, hp2, hp3, hp4, hp5, hp6, hp7, hp8, hp9, q0⟩ := hS
  refine ⟨Nat.le_of_ble_eq_true rfl, fun V w => ?_⟩
  show V 0 [some (.ref 90), some (.ref 1), some (.int t), none, none] [] 202 gk_fT x y 0
  subst hp2
  obtain ⟨-, -, e8, -, e11, -⟩ := hp0
  obtain ⟨⟨-, hg, h2, -⟩, -⟩ := hp1
  have hd := gk_dlb hp5 (t := (tt : Int)) (by omega) (by omega)
  have he := gk_dlb hp7 (t := (tt : Int)) (by omega) (by omega)
  have hb := rp_b hp9 (show 0 ≤ gk_dl A S B tt ∧ gk_dl A S B tt ≤ 65536 by omega) he.1
  unfold gk_rp at q0
  refine s_aload_n (pc2 := 1) w dX0_reflectedPart_0 rfl rfl ?_
  refine m_getR (pc2 := 4) (ci := 0) (k := 1) (j2 := 92) w dX0_reflectedPart_1 rfl rfl rfl rfl rfl rfl ?_
  refine s_iload_n (pc2 := 5) w dX0_reflectedPart_4 rfl rfl ?_
  refine m_ialoadN (pc2 := 6) (t := tt) (N := 256) w dX0_reflectedPart_5 rfl rfl rfl rfl hp3 rfl ?_
  refine s_i2l (pc2 := 7) w dX0_reflectedPart_6 rfl ?_
  rw [hp8, gIL ⟨by omega, by omega⟩]
  refine s_lstore_n (pc2 := 8) (k2 := 3) w dX0_reflectedPart_7 rfl rfl rfl ?_
  dsimp only [gk_s1, gk_s2, gk_cl]
  refine s_aload_n (pc2 := 9) w dX0_reflectedPart_8 rfl rfl ?_
  refine m_getI (pc2 := 12) (ci := 4) (k := 11) w dX0_reflectedPart_9 rfl rfl rfl rfl rfl ?_
  refine s_if_eq (pc2 := 15) (tgt := 47) w dX0_reflectedPart_12 rfl (by decide) (fun c12 => ?_) (fun c12 => ?_)
  · have es : gSp g = false := decide_eq_false (by rw [← e11, c12]; decide)
    rw [es, if_neg (by decide)] at q0
    refine s_lload_n (pc2 := 48) w dX0_reflectedPart_47 rfl rfl ?_
    refine s_aload_n (pc2 := 49) w dX0_reflectedPart_48 rfl rfl ?_
    refine m_getI (pc2 := 52) (ci := 4) (k := 8) w dX0_reflectedPart_49 rfl rfl rfl rfl rfl ?_
    refine s_i2l (pc2 := 53) w dX0_reflectedPart_52 rfl ?_
    refine s_lmul (pc2 := 54) w dX0_reflectedPart_53 rfl ?_
    refine s_ldc2_w (pc2 := 57) (v := 100) w dX0_reflectedPart_54 rfl rfl ?_
    refine s_ldiv (pc2 := 58) w dX0_reflectedPart_57 rfl (by decide) ?_
    have h3 := gk_mulb (a := v) (b := gz g 1) (A := 67000000000) (B := 90) (by omega) (by omega) (by omega) hg.2
    rw [e8, gz_I g 1, gIL ⟨by omega, by omega⟩, gL_mul, show (100 : Int64) = gL 100 from rfl, gL_div ⟨by omega, by omega⟩ ⟨by omega, by omega⟩]
    refine s_l2i (pc2 := 59) w dX0_reflectedPart_58 rfl ?_
    rw [gLI]
    refine s_ireturn w dX0_reflectedPart_59 rfl rfl ?_
    exact q0
  · have es : gSp g = true := decide_eq_true (h2.resolve_left (fun h => c12 (e11.trans h)))
    rw [es, if_pos rfl] at q0
    refine s_lload_n (pc2 := 16) w dX0_reflectedPart_15 rfl rfl ?_
    refine s_sipush (pc2 := 19) (v := gI 1000) w dX0_reflectedPart_16 rfl rfl ?_
    refine s_aload_n (pc2 := 20) w dX0_reflectedPart_19 rfl rfl ?_
    refine m_getR (pc2 := 23) (ci := 0) (k := 2) (j2 := 93) w dX0_reflectedPart_20 rfl rfl rfl rfl rfl rfl ?_
    refine s_iload_n (pc2 := 24) w dX0_reflectedPart_23 rfl rfl ?_
    refine r_X2_lengthAt (pc2 := 27) (tt := (tt : Int)) w dX0_reflectedPart_24 rfl rfl rfl rfl hp4 hp5 rfl (by omega) ?_
    refine s_iadd (pc2 := 28) w dX0_reflectedPart_27 rfl ?_
    refine s_i2l (pc2 := 29) w dX0_reflectedPart_28 rfl ?_
    rw [gI_add, gIL ⟨by omega, by omega⟩]
    refine s_lmul (pc2 := 30) w dX0_reflectedPart_29 rfl ?_
    rw [gL_mul]
    refine s_sipush (pc2 := 33) (v := gI 1000) w dX0_reflectedPart_30 rfl rfl ?_
    refine s_aload_n (pc2 := 34) w dX0_reflectedPart_33 rfl rfl ?_
    refine m_getR (pc2 := 37) (ci := 0) (k := 3) (j2 := 94) w dX0_reflectedPart_34 rfl rfl rfl rfl rfl rfl ?_
    refine s_iload_n (pc2 := 38) w dX0_reflectedPart_37 rfl rfl ?_
    refine r_X2_lengthAt (pc2 := 41) (tt := (tt : Int)) w dX0_reflectedPart_38 rfl rfl rfl rfl hp6 hp7 rfl (by omega) ?_
    refine s_iadd (pc2 := 42) w dX0_reflectedPart_41 rfl ?_
    refine s_i2l (pc2 := 43) w dX0_reflectedPart_42 rfl ?_
    rw [gI_add, gIL ⟨by omega, by omega⟩]
    refine r_X10_quotient (pc2 := 46) w dX0_reflectedPart_43 rfl rfl rfl ?_
    rw [qt_L ⟨by omega, by omega⟩ ⟨by omega, by omega⟩ (by omega)]
    obtain ⟨z, hz⟩ : ∃ z, z = (v * (1000 + gk_dl A S B ↑tt)).tdiv (1000 + gk_dl A S B2 ↑tt) := ⟨_, rfl⟩
    rw [← hz] at hb q0 ⊢
    refine s_lstore_n (pc2 := 47) (k2 := 3) w dX0_reflectedPart_46 rfl rfl rfl ?_
    dsimp only [gk_s1, gk_s2, gk_cl]
    refine s_lload_n (pc2 := 48) w dX0_reflectedPart_47 rfl rfl ?_
    refine s_aload_n (pc2 := 49) w dX0_reflectedPart_48 rfl rfl ?_
    refine m_getI (pc2 := 52) (ci := 4) (k := 8) w dX0_reflectedPart_49 rfl rfl rfl rfl rfl ?_
    refine s_i2l (pc2 := 53) w dX0_reflectedPart_52 rfl ?_
    refine s_lmul (pc2 := 54) w dX0_reflectedPart_53 rfl ?_
    refine s_ldc2_w (pc2 := 57) (v := 100) w dX0_reflectedPart_54 rfl rfl ?_
    refine s_ldiv (pc2 := 58) w dX0_reflectedPart_57 rfl (by decide) ?_
    have h3 := gk_mulb (a := z) (b := gz g 1) (A := 67000000000) (B := 90) (by omega) (by omega) (by omega) hg.2
    rw [e8, gz_I g 1, gIL ⟨by omega, by omega⟩, gL_mul, show (100 : Int64) = gL 100 from rfl, gL_div ⟨by omega, by omega⟩ ⟨by omega, by omega⟩]
    refine s_l2i (pc2 := 59) w dX0_reflectedPart_58 rfl ?_
    rw [gLI]
    refine s_ireturn w dX0_reflectedPart_59 rfl rfl ?_
    exact q0
theorem lk_X0_reflectedPart {l : Launch} (hl : l.stackTraces = false) : ∀ q ∈ L_X0_reflectedPart, (q.2.1 < 5 → gk_Lk l RX0 gk_W1 2 q.1 q.2.1 q.2.2.1 q.2.2.2.1 q.2.2.2.2.1 q.2.2.2.2.2) := (List.forall_mem_cons.mpr ⟨(fun _ => ⟨yX2_lengthAt, cX2_lengthAt, 4, (some .int), 1, _, M_X2_lengthAt hl, ⟨by decide, by decide⟩, ⟨by decide, by decide, by decide +kernel⟩, ⟨(gk_wm 470 (by decide +kernel)), (gk_wm 94 (by decide +kernel))⟩, Or.inr (Or.inr (Or.inr (Or.inl ⟨rfl, rfl, (gk_wm 468 (by decide +kernel)), (gk_wm 469 (by decide +kernel)), gk_wm 1117 (by decide +kernel), by decide, rfl⟩)))⟩), (List.forall_mem_cons.mpr ⟨(fun _ => ⟨yX10_quotient, cX10_quotient, 4, (some .long), 0, _, M_X10_quotient hl, ⟨by decide, by decide⟩, ⟨by decide, by decide, by decide +kernel⟩, ⟨(gk_wm 490 (by decide +kernel)), (gk_wm 89 (by decide +kernel))⟩, Or.inr (Or.inl ⟨rfl, rfl, (gk_wm 489 (by decide +kernel)), ⟨_, gk_nsm 18 rfl⟩, nt_X10_quotient⟩)⟩), (fun _ h => absurd h List.not_mem_nil)⟩)⟩)
theorem sp_X0_reflectedPart : ∀ q ∈ L_X0_reflectedPart, gk_Sq RX0 gk_W1 2 q := (List.forall_mem_cons.mpr ⟨⟨fun h => absurd h (by decide), fun h => absurd h (by decide), fun h => absurd h (by decide), fun h => absurd h (by decide), fun h => absurd h (by decide), fun h => absurd h (by decide)⟩, (List.forall_mem_cons.mpr ⟨⟨fun h => absurd h (by decide), fun h => absurd h (by decide), fun h => absurd h (by decide), fun h => absurd h (by decide), fun h => absurd h (by decide), fun h => absurd h (by decide)⟩, (fun _ h => absurd h List.not_mem_nil)⟩)⟩)
theorem M_X0_reflectedPart {l : Launch} (hl : l.stackTraces = false) : gk_Mt l yX0_reflectedPart (.code yX0_reflectedPart cX0_reflectedPart 5 (some .int) :: gk_W1) 2 0 S_X0_reflectedPart := gk_meth hl gk_cw_ok (by decide +kernel) rfl m_X0_reflectedPart pX0_ok (gk_Sp_of sp_X0_reflectedPart) pX0_st (fun ci m S h => absurd h (by intro h; cases h)) (xf_X0 2) (fun idx kd ci mm cost S2 h h5 => lk_X0_reflectedPart hl _ (gk_lk_mem h) h5)

theorem gk_last_c (p : Nat → Bool) : ∀ n, gk_last p n = -1 ∨ ∃ k : Nat, k < n ∧ gk_last p n = (k : Int)
  | 0 => Or.inl rfl
  | n + 1 => by
    unfold gk_last
    split
    · exact Or.inr ⟨n, by omega, rfl⟩
    · rcases gk_last_c p n with h | ⟨k, h1, h2⟩
      · exact Or.inl h
      · exact Or.inr ⟨k, by omega, h2⟩
/-- what is taken away from a part at a time -/
def gk_cu (g : Nat → Int32) (A S B B2 : Int) (s tt : Nat) (pv : Nat → Int) : Int :=
  let e := gk_last (gk_lp2 A S B2 (gz g 0) s) (s + 1)
  if e = -1 ∨ (tt : Int) ≤ e then 0 else gk_rp (gSp g) (gz g 1) (pv e.toNat) (gk_dl A S B e) (gk_dl A S B2 e)
def S_X11_reflectedPart : gk_S := fun as n fl x y K => ∃ (t : Int32) (s0 : Int32) (g : Nat → Int32) (tt : Nat) (s : Nat) (A : Int) (S : Int) (B : Int) (B2 : Int) (pv : Nat → Int), as = [.ref 189, .int t, .int s0] ∧ (n = 202 ∧ fl = gk_fT) ∧ (∀ k, k < 186 → x 190 k = g k) ∧ (gWf g) ∧ (t = nI tt) ∧ (tt < 256) ∧ (s0 = nI s) ∧ (s < 256) ∧ (gk_PB A S B) ∧ (gk_PB A S B2) ∧ (∀ k : Nat, k < 256 → x 194 k = gI (gk_dl A S B k)) ∧ (∀ k : Nat, k < 256 → x 195 k = gI (gk_dl A S B2 k)) ∧ (∀ k : Nat, k < tt → x 197 k = gI (pv k) ∧ -1000000 ≤ pv k ∧ pv k ≤ 1000000) ∧ (K (.inl (some (.int (gI (gk_cu g A S B B2 s tt pv))))) n fl x y)
theorem r_X11_reflectedPart (w : gk_W c P cs (fun _ _ => none) rt uf sc K V) {idx : Nat} {t : Int32} {s0 : Int32} {g : Nat → Int32} {tt : Nat} {s : Nat} {A : Int} {S : Int} {B : Int} {B2 : Int} {pv : Nat → Int} (hd : decode c pc = .ok (.invokevirtual idx, 3)) (hp : pc + 3 = pc2) (hc : cs idx = some (1, 10, 3, 0, S_X11_reflectedPart)) (h8 : Nat.ble (r.map Value.category).sum 8 = true) (hp0 : ∀ k, k < 186 → x 190 k = g k) (hp1 : gWf g) (hp2 : t = nI tt) (hp3 : tt < 256) (hp4 : s0 = nI s) (hp5 : s < 256) (hp6 : gk_PB A S B) (hp7 : gk_PB A S B2) (hp8 : ∀ k : Nat, k < 256 → x 194 k = gI (gk_dl A S B k)) (hp9 : ∀ k : Nat, k < 256 → x 195 k = gI (gk_dl A S B2 k)) (hp10 : ∀ k : Nat, k < tt → x 197 k = gI (pv k) ∧ -1000000 ≤ pv k ∧ pv k ≤ 1000000) (kk0 : V pc2 L ((.int (gI (gk_cu g A S B B2 s tt pv))) :: r) 202 gk_fT x y u) : V pc L (.int s0 :: .int t :: .ref 189 :: r) 202 gk_fT x y u :=
  g_callv w hd hp hc (as := [.ref 189, .int t, .int s0]) rfl h8 rfl rfl rfl (Or.inr (Or.inl ⟨Or.inl rfl, _, _, rfl, (gk_kd_j rfl rfl), rfl⟩)) (Or.inl rfl) ⟨t, s0, g, tt, s, A, S, B, B2, pv, rfl, ⟨rfl, rfl⟩, hp0, hp1, hp2, hp3, hp4, hp5, hp6, hp7, hp8, hp9, hp10, kk0⟩
def L_X11_reflectedPart : List (Nat × gk_M0) := [(144, (1, 10, 3, 0, S_X11_latest))]
def cs_X11_reflectedPart : Nat → Option gk_M0 := gk_lk L_X11_reflectedPart
theorem m_X11_reflectedPart : ∀ (as : List Value) (n : Nat) (fl : gk_F) (x : gk_X) (y : gk_Y) (K : gk_K), S_X11_reflectedPart as n fl x y K → (gk_L0 as).length ≤ 6 ∧ ∀ V : gk_V, gk_W cX11_reflectedPart pX11 cs_X11_reflectedPart (fun _ _ => none) (some .int) 0 none K V → V 0 (gk_en as 6) [] n fl x y 0 := by
  intro as n fl x y K hS
  obtain ⟨t, s0, g, tt, s, A, S, B, B2, pv, rfl, ⟨rfl, rfl⟩, hp0, hp1, hp2, hp3, hp4, hp5, hp6, hp7, hp8, hp9, hp10, q0⟩ := hS
  refine ⟨Nat.le_of_ble_eq_true rfl, fun V w => ?_⟩
  show V 0 [some (.ref 189), some (.int t), some (.int s0), none, none, none] [] 202 gk_fT x y 0
  subst hp2 hp4
  obtain ⟨hcc, hg, h2, -⟩ := hp1.1
  have e0 : x 190 0 = gI (gz g 0) := (hp0 0 (by decide)).trans (gz_I g 0)
  unfold gk_cu at q0
  refine s_aload_n (pc2 := 1) w dX11_reflectedPart_0 rfl rfl ?_
  refine s_iload_n (pc2 := 2) w dX11_reflectedPart_1 rfl rfl ?_
  refine s_iconst (pc2 := 3) (v := gI 1) w dX11_reflectedPart_2 rfl rfl ?_
  refine r_X11_latest (pc2 := 6) (rf := true) w dX11_reflectedPart_3 rfl rfl rfl rfl hp5 e0 hcc hp7 hp9 rfl ?_
  have hc := gk_last_c (gk_lp2 A S B2 (gz g 0) s) (s + 1)
  generalize gk_last (gk_lp2 A S B2 (gz g 0) s) (s + 1) = e at hc q0 ⊢
  have he : -1 ≤ e ∧ e < 256 := by rcases hc with h | ⟨k, h, h3⟩ <;> omega
  by_cases hn : e = -1 ∨ (tt : Int) ≤ e
  · rw [if_pos hn] at q0
    have k17 : V 17 [some (.ref 189), some (.int (nI tt)), some (.int (nI s)), some (.int (gI e)), none, none] [] 202 gk_fT x y 0 := by
      refine s_iconst (pc2 := 18) (v := gI 0) w dX11_reflectedPart_17 rfl rfl ?_
      refine s_ireturn w dX11_reflectedPart_18 rfl rfl ?_
      exact q0
    by_cases h1 : e = -1
    · refine s_istore_n (pc2 := 7) (k2 := 3) w dX11_reflectedPart_6 rfl rfl rfl ?_
      dsimp only [gk_s1, gk_s2, gk_cl]
      refine s_iload_n (pc2 := 8) w dX11_reflectedPart_7 rfl rfl ?_
      refine s_iconst (pc2 := 9) (v := gI (-1)) w dX11_reflectedPart_8 rfl rfl ?_
      refine s_ic_eq (pc2 := 12) (tgt := 17) w dX11_reflectedPart_9 rfl (by decide) (fun _ => ?_) (fun h0 => absurd (by rw [h1]) h0)
      exact k17
    · refine s_istore_n (pc2 := 7) (k2 := 3) w dX11_reflectedPart_6 rfl rfl rfl ?_
      dsimp only [gk_s1, gk_s2, gk_cl]
      refine s_iload_n (pc2 := 8) w dX11_reflectedPart_7 rfl rfl ?_
      refine s_iconst (pc2 := 9) (v := gI (-1)) w dX11_reflectedPart_8 rfl rfl ?_
      refine s_ic_eq (pc2 := 12) (tgt := 17) w dX11_reflectedPart_9 rfl (by decide) (fun h0 => absurd h0 (by rw [gI_eq ⟨by omega, by omega⟩ ⟨by omega, by omega⟩]; exact h1)) (fun _ => ?_)
      refine s_iload_n (pc2 := 13) w dX11_reflectedPart_12 rfl rfl ?_
      refine s_iload_n (pc2 := 14) w dX11_reflectedPart_13 rfl rfl ?_
      refine s_ic_lt (pc2 := 17) (tgt := 19) w dX11_reflectedPart_14 rfl (by decide) (fun h0 => absurd h0 (by rw [gI_nI, gI_lt ⟨by omega, by omega⟩ ⟨by omega, by omega⟩]; omega)) (fun _ => ?_)
      exact k17
  · rw [if_neg hn] at q0
    obtain ⟨k, rfl⟩ := Int.eq_ofNat_of_zero_le (show 0 ≤ e by omega)
    have hk : k < tt := by omega
    obtain ⟨p1, p2⟩ := hp10 k hk
    have hd := gk_dlb hp6 (t := (k : Int)) (by omega) (by omega)
    have hd2 := gk_dlb hp7 (t := (k : Int)) (by omega) (by omega)
    have hb := rp_b p2 (show 0 ≤ gk_dl A S B k ∧ gk_dl A S B k ≤ 65536 by omega) hd2.1
    rw [Int.toNat_natCast] at q0
    unfold gk_rp at q0
    refine s_istore_n (pc2 := 7) (k2 := 3) w dX11_reflectedPart_6 rfl rfl rfl ?_
    dsimp only [gk_s1, gk_s2, gk_cl]
    refine s_iload_n (pc2 := 8) w dX11_reflectedPart_7 rfl rfl ?_
    refine s_iconst (pc2 := 9) (v := gI (-1)) w dX11_reflectedPart_8 rfl rfl ?_
    refine s_ic_eq (pc2 := 12) (tgt := 17) w dX11_reflectedPart_9 rfl (by decide) (fun h0 => absurd h0 (by rw [gI_eq ⟨by omega, by omega⟩ ⟨by omega, by omega⟩]; omega)) (fun _ => ?_)
    refine s_iload_n (pc2 := 13) w dX11_reflectedPart_12 rfl rfl ?_
    refine s_iload_n (pc2 := 14) w dX11_reflectedPart_13 rfl rfl ?_
    refine s_ic_lt (pc2 := 17) (tgt := 19) w dX11_reflectedPart_14 rfl (by decide) (fun _ => ?_) (fun h0 => absurd (by rw [gI_nI, gI_lt ⟨by omega, by omega⟩ ⟨by omega, by omega⟩]; omega) h0)
    refine s_aload_n (pc2 := 20) w dX11_reflectedPart_19 rfl rfl ?_
    refine m_getR (pc2 := 23) (ci := 10) (k := 8) (j2 := 197) w dX11_reflectedPart_20 rfl rfl rfl rfl rfl rfl ?_
    refine s_iload_n (pc2 := 24) w dX11_reflectedPart_23 rfl rfl ?_
    refine m_ialoadN (pc2 := 25) (t := k) (N := 256) w dX11_reflectedPart_24 rfl rfl rfl rfl (by omega) rfl ?_
    refine s_i2l (pc2 := 26) w dX11_reflectedPart_25 rfl ?_
    rw [p1, gIL ⟨by omega, by omega⟩]
    refine s_lstore (pc2 := 28) w dX11_reflectedPart_26 rfl rfl ?_
    dsimp only [gk_s1, gk_s2, gk_cl]
    refine s_aload_n (pc2 := 29) w dX11_reflectedPart_28 rfl rfl ?_
    refine m_getR (pc2 := 32) (ci := 10) (k := 0) (j2 := 190) w dX11_reflectedPart_29 rfl rfl rfl rfl rfl rfl ?_
    refine s_iconst (pc2 := 33) (v := gI 2) w dX11_reflectedPart_32 rfl rfl ?_
    refine m_ialoadN (pc2 := 34) (t := 2) (N := 2234) w dX11_reflectedPart_33 rfl rfl rfl rfl (by decide) rfl ?_
    refine s_iconst (pc2 := 35) (v := gI 1) w dX11_reflectedPart_34 rfl rfl ?_
    refine s_ic_ne (pc2 := 38) (tgt := 66) w dX11_reflectedPart_35 rfl (by decide) (fun c35 => ?_) (fun c35 => ?_)
    · have es : gSp g = false := decide_eq_false (fun h => c35 ((hp0 2 (by decide)).trans h))
      rw [es, if_neg (by decide)] at q0
      refine s_lload (pc2 := 68) w dX11_reflectedPart_66 rfl rfl ?_
      refine s_aload_n (pc2 := 69) w dX11_reflectedPart_68 rfl rfl ?_
      refine m_getR (pc2 := 72) (ci := 10) (k := 0) (j2 := 190) w dX11_reflectedPart_69 rfl rfl rfl rfl rfl rfl ?_
      refine s_iconst (pc2 := 73) (v := gI 1) w dX11_reflectedPart_72 rfl rfl ?_
      refine m_ialoadN (pc2 := 74) (t := 1) (N := 2234) w dX11_reflectedPart_73 rfl rfl rfl rfl (by decide) rfl ?_
      refine s_i2l (pc2 := 75) w dX11_reflectedPart_74 rfl ?_
      refine s_lmul (pc2 := 76) w dX11_reflectedPart_75 rfl ?_
      refine s_ldc2_w (pc2 := 79) (v := 100) w dX11_reflectedPart_76 rfl rfl ?_
      refine s_ldiv (pc2 := 80) w dX11_reflectedPart_79 rfl (by decide) ?_
      have h3 := gk_mulb (a := pv k) (b := gz g 1) (A := 67000000000) (B := 90) (by omega) (by omega) (by omega) hg.2
      rw [hp0 1 (by decide), gz_I g 1, gIL ⟨by omega, by omega⟩, gL_mul, show (100 : Int64) = gL 100 from rfl, gL_div ⟨by omega, by omega⟩ ⟨by omega, by omega⟩]
      refine s_l2i (pc2 := 81) w dX11_reflectedPart_80 rfl ?_
      rw [gLI]
      refine s_ireturn w dX11_reflectedPart_81 rfl rfl ?_
      exact q0
    · have es : gSp g = true := decide_eq_true ((hp0 2 (by decide)).symm.trans c35)
      rw [es, if_pos rfl] at q0
      refine s_lload (pc2 := 40) w dX11_reflectedPart_38 rfl rfl ?_
      refine s_ldc2_w (pc2 := 43) (v := 1000) w dX11_reflectedPart_40 rfl rfl ?_
      refine s_aload_n (pc2 := 44) w dX11_reflectedPart_43 rfl rfl ?_
      refine m_getR (pc2 := 47) (ci := 10) (k := 5) (j2 := 194) w dX11_reflectedPart_44 rfl rfl rfl rfl rfl rfl ?_
      refine s_iload_n (pc2 := 48) w dX11_reflectedPart_47 rfl rfl ?_
      refine m_ialoadN (pc2 := 49) (t := k) (N := 256) w dX11_reflectedPart_48 rfl rfl rfl rfl (by omega) rfl ?_
      refine s_i2l (pc2 := 50) w dX11_reflectedPart_49 rfl ?_
      rw [hp8 k (by omega), gIL ⟨by omega, by omega⟩, show (1000 : Int64) = gL 1000 from rfl]
      refine s_ladd (pc2 := 51) w dX11_reflectedPart_50 rfl ?_
      rw [gL_add]
      refine s_lmul (pc2 := 52) w dX11_reflectedPart_51 rfl ?_
      rw [gL_mul]
      refine s_ldc2_w (pc2 := 55) (v := 1000) w dX11_reflectedPart_52 rfl rfl ?_
      refine s_aload_n (pc2 := 56) w dX11_reflectedPart_55 rfl rfl ?_
      refine m_getR (pc2 := 59) (ci := 10) (k := 6) (j2 := 195) w dX11_reflectedPart_56 rfl rfl rfl rfl rfl rfl ?_
      refine s_iload_n (pc2 := 60) w dX11_reflectedPart_59 rfl rfl ?_
      refine m_ialoadN (pc2 := 61) (t := k) (N := 256) w dX11_reflectedPart_60 rfl rfl rfl rfl (by omega) rfl ?_
      refine s_i2l (pc2 := 62) w dX11_reflectedPart_61 rfl ?_
      rw [hp9 k (by omega), gIL ⟨by omega, by omega⟩, show (1000 : Int64) = gL 1000 from rfl]
      refine s_ladd (pc2 := 63) w dX11_reflectedPart_62 rfl ?_
      rw [gL_add]
      refine s_ldiv (pc2 := 64) w dX11_reflectedPart_63 rfl (by rw [show (0 : Int64) = gL 0 from rfl, gL_eq ⟨by omega, by omega⟩ ⟨by omega, by omega⟩]; omega) ?_
      rw [gL_div ⟨by omega, by omega⟩ ⟨by omega, by omega⟩]
      obtain ⟨z, hz⟩ : ∃ z, z = (pv k * (1000 + gk_dl A S B ↑k)).tdiv (1000 + gk_dl A S B2 ↑k) := ⟨_, rfl⟩
      rw [← hz] at hb q0 ⊢
      refine s_lstore (pc2 := 66) w dX11_reflectedPart_64 rfl rfl ?_
      dsimp only [gk_s1, gk_s2, gk_cl]
      refine s_lload (pc2 := 68) w dX11_reflectedPart_66 rfl rfl ?_
      refine s_aload_n (pc2 := 69) w dX11_reflectedPart_68 rfl rfl ?_
      refine m_getR (pc2 := 72) (ci := 10) (k := 0) (j2 := 190) w dX11_reflectedPart_69 rfl rfl rfl rfl rfl rfl ?_
      refine s_iconst (pc2 := 73) (v := gI 1) w dX11_reflectedPart_72 rfl rfl ?_
      refine m_ialoadN (pc2 := 74) (t := 1) (N := 2234) w dX11_reflectedPart_73 rfl rfl rfl rfl (by decide) rfl ?_
      refine s_i2l (pc2 := 75) w dX11_reflectedPart_74 rfl ?_
      refine s_lmul (pc2 := 76) w dX11_reflectedPart_75 rfl ?_
      refine s_ldc2_w (pc2 := 79) (v := 100) w dX11_reflectedPart_76 rfl rfl ?_
      refine s_ldiv (pc2 := 80) w dX11_reflectedPart_79 rfl (by decide) ?_
      have h3 := gk_mulb (a := z) (b := gz g 1) (A := 67000000000) (B := 90) (by omega) (by omega) (by omega) hg.2
      rw [hp0 1 (by decide), gz_I g 1, gIL ⟨by omega, by omega⟩, gL_mul, show (100 : Int64) = gL 100 from rfl, gL_div ⟨by omega, by omega⟩ ⟨by omega, by omega⟩]
      refine s_l2i (pc2 := 81) w dX11_reflectedPart_80 rfl ?_
      rw [gLI]
      refine s_ireturn w dX11_reflectedPart_81 rfl rfl ?_
      exact q0
theorem lk_X11_reflectedPart {l : Launch} (hl : l.stackTraces = false) : ∀ q ∈ L_X11_reflectedPart, (q.2.1 < 5 → gk_Lk l RX11 gk_W1 2 q.1 q.2.1 q.2.2.1 q.2.2.2.1 q.2.2.2.2.1 q.2.2.2.2.2) := (List.forall_mem_cons.mpr ⟨(fun _ => ⟨yX11_latest, cX11_latest, 5, (some .int), 1, _, M_X11_latest hl, ⟨by decide, by decide⟩, ⟨by decide, by decide, by decide +kernel⟩, ⟨(gk_wm 1477 (by decide +kernel)), (gk_wm 99 (by decide +kernel))⟩, Or.inr (Or.inr (Or.inr (Or.inl ⟨rfl, rfl, (gk_wm 1476 (by decide +kernel)), (gk_wm 48 (by decide +kernel)), gk_wm 1474 (by decide +kernel), by decide, rfl⟩)))⟩), (fun _ h => absurd h List.not_mem_nil)⟩)
theorem sp_X11_reflectedPart : ∀ q ∈ L_X11_reflectedPart, gk_Sq RX11 gk_W1 2 q := (List.forall_mem_cons.mpr ⟨⟨fun h => absurd h (by decide), fun h => absurd h (by decide), fun h => absurd h (by decide), fun h => absurd h (by decide), fun h => absurd h (by decide), fun h => absurd h (by decide)⟩, (fun _ h => absurd h List.not_mem_nil)⟩)
theorem M_X11_reflectedPart {l : Launch} (hl : l.stackTraces = false) : gk_Mt l yX11_reflectedPart (.code yX11_reflectedPart cX11_reflectedPart 6 (some .int) :: gk_W1) 2 0 S_X11_reflectedPart := gk_meth hl gk_cw_ok (by decide +kernel) rfl m_X11_reflectedPart pX11_ok (gk_Sp_of sp_X11_reflectedPart) pX11_st (fun ci m S h => absurd h (by intro h; cases h)) (xf_X11 2) (fun idx kd ci mm cost S2 h h5 => lk_X11_reflectedPart hl _ (gk_lk_mem h) h5)

end GKV

/-! THE METHODS, 20: what a cut takes away -/
section GKV
variable {c : ByteArray} {P : gk_C} {cs : Nat → Option gk_M0} {rt : Option FieldType} {uf : Nat} {sc : Option Nat} {K : gk_K} {V : gk_V}
variable {L : List (Option Value)} {r : List Value} {n : Nat} {fl : gk_F} {x : gk_X} {y : gk_Y} {u pc pc2 : Nat}
def gk_rp (sp : Bool) (gr v d e : Int) : Int := ((if sp then (v * (1000 + d)).tdiv (1000 + e) else v) * gr).tdiv 100
theorem rp_b {v d e : Int} (hv : -1000000 ≤ v ∧ v ≤ 1000000) (hd : 0 ≤ d ∧ d ≤ 65536) (he : 0 ≤ e) : (-67000000000 ≤ v * (1000 + d) ∧ v * (1000 + d) ≤ 67000000000) ∧ -67000000000 ≤ (v * (1000 + d)).tdiv (1000 + e) ∧ (v * (1000 + d)).tdiv (1000 + e) ≤ 67000000000 := by
  have h := gk_mulb (a := v) (b := 1000 + d) (A := 1000000) (B := 67000) (by omega) (by omega) (by omega) (by omega)
  have h2 := tdiv_b (a := v * (1000 + d)) (b := 1000 + e) (A := 67000000000) (by omega) (by omega) (by omega)
  exact ⟨by omega, h2⟩
def S_X0_reflectedPart : gk_S := fun as n fl x y K => ∃ (t : Int32) (g : Nat → Int32) (tt : Nat) (A : Int) (S : Int) (B : Int) (B2 : Int) (v : Int), as = [.ref 90, .ref 1, .int t] ∧ (n = 202 ∧ fl = gk_fT) ∧ (rs0 1 g x) ∧ (gWf g) ∧ (t = nI tt) ∧ (tt < 256) ∧ (gk_PL y 93 A S B) ∧ (gk_PB A S B) ∧ (gk_PL y 94 A S B2) ∧ (gk_PB A S B2) ∧ (x 92 tt = gI v) ∧ (-1000000 ≤ v ∧ v ≤ 1000000) ∧ (K (.inl (some (.int (gI (gk_rp (gSp g) (gz g 1) v (gk_dl A S B tt) (gk_dl A S B2 tt)))))) n fl x y)
theorem r_X0_reflectedPart (w : gk_W c P cs (fun _ _ => none) rt uf sc K V) {idx : Nat} {t : Int32} {g : Nat → Int32} {tt : Nat} {A : Int} {S : Int} {B : Int} {B2 : Int} {v : Int} (hd : decode c pc = .ok (.invokevirtual idx, 3)) (hp : pc + 3 = pc2) (hc : cs idx = some (1, 0, 3, 0, S_X0_reflectedPart)) (h8 : Nat.ble (r.map Value.category).sum 8 = true) (hp0 : rs0 1 g x) (hp1 : gWf g) (hp2 : t = nI tt) (hp3 : tt < 256) (hp4 : gk_PL y 93 A S B) (hp5 : gk_PB A S B) (hp6 : gk_PL y 94 A S B2) (hp7 : gk_PB A S B2) (hp8 : x 92 tt = gI v) (hp9 : -1000000 ≤ v ∧ v ≤ 1000000) (kk0 : V pc2 L ((.int (gI (gk_rp (gSp g) (gz g 1) v (gk_dl A S B tt) (gk_dl A S B2 tt)))) :: r) 202 gk_fT x y u) : V pc L (.int t :: .ref 1 :: .ref 90 :: r) 202 gk_fT x y u :=
  g_callv w hd hp hc (as := [.ref 90, .ref 1, .int t]) rfl h8 rfl rfl rfl (Or.inr (Or.inl ⟨Or.inl rfl, _, _, rfl, (gk_kd_j rfl rfl), rfl⟩)) (Or.inl rfl) ⟨t, g, tt, A, S, B, B2, v, rfl, ⟨rfl, rfl⟩, hp0, hp1, hp2, hp3, hp4, hp5, hp6, hp7, hp8, hp9, kk0⟩
def L_X0_reflectedPart : List (Nat × gk_M0) := [(122, (1, 2, 2, 0, S_X2_lengthAt)), (126, (0, 9, 2, 0, S_X10_quotient))]
def cs_X0_reflectedPart : Nat → Option gk_M0 := gk_lk L_X0_reflectedPart
theorem m_X0_reflectedPart : ∀ (as : List Value) (n : Nat) (fl : gk_F) (x : gk_X) (y : gk_Y) (K : gk_K), S_X0_reflectedPart as n fl x y K → (gk_L0 as).length ≤ 5 ∧ ∀ V : gk_V, gk_W cX0_reflectedPart pX0 cs_X0_reflectedPart (fun _ _ => none) (some .int) 0 none K V → V 0 (gk_en as 5) [] n fl x y 0 := by
  intro as n fl x y K hS
  obtain ⟨t, g, tt, A, S, B, B2, v, rfl, ⟨rfl, rfl⟩, hp0, hp1, hp2, hp3, hp4, hp5, hp6, hp7, hp8, hp9, q0⟩ := hS
  refine ⟨Nat.le_of_ble_eq_true rfl, fun V w => ?_⟩
  show V 0 [some (.ref 90), some (.ref 1), some (.int t), none, none] [] 202 gk_fT x y 0
  subst hp2
  obtain ⟨-, -, e8, -, e11, -⟩ := hp0
  obtain ⟨⟨-, hg, h2, -⟩, -⟩ := hp1
  have hd := gk_dlb hp5 (t := (tt : Int)) (by omega) (by omega)
  have he := gk_dlb hp7 (t := (tt : Int)) (by omega) (by omega)
  have hb := rp_b hp9 (show 0 ≤ gk_dl A S B tt ∧ gk_dl A S B tt ≤ 65536 by omega) he.1
  unfold gk_rp at q0
  refine s_aload_n (pc2 := 1) w dX0_reflectedPart_0 rfl rfl ?_
  refine m_getR (pc2 := 4) (ci := 0) (k := 1) (j2 := 92) w dX0_reflectedPart_1 rfl rfl rfl rfl rfl rfl ?_
  refine s_iload_n (pc2 := 5) w dX0_reflectedPart_4 rfl rfl ?_
  refine m_ialoadN (pc2 := 6) (t := tt) (N := 256) w dX0_reflectedPart_5 rfl rfl rfl rfl hp3 rfl ?_
  refine s_i2l (pc2 := 7) w dX0_reflectedPart_6 rfl ?_
  rw [hp8, gIL ⟨by omega, by omega⟩]
  refine s_lstore_n (pc2 := 8) (k2 := 3) w dX0_reflectedPart_7 rfl rfl rfl ?_
  dsimp only [gk_s1, gk_s2, gk_cl]
  refine s_aload_n (pc2 := 9) w dX0_reflectedPart_8 rfl rfl ?_
  refine m_getI (pc2 := 12) (ci := 4) (k := 11) w dX0_reflectedPart_9 rfl rfl rfl rfl rfl ?_
  refine s_if_eq (pc2 := 15) (tgt := 47) w dX0_reflectedPart_12 rfl (by decide) (fun c12 => ?_) (fun c12 => ?_)
  · have es : gSp g = false := decide_eq_false (by rw [← e11, c12]; decide)
    rw [es, if_neg (by decide)] at q0
    refine s_lload_n (pc2 := 48) w dX0_reflectedPart_47 rfl rfl ?_
    refine s_aload_n (pc2 := 49) w dX0_reflectedPart_48 rfl rfl ?_
    refine m_getI (pc2 := 52) (ci := 4) (k := 8) w dX0_reflectedPart_49 rfl rfl rfl rfl rfl ?_
    refine s_i2l (pc2 := 53) w dX0_reflectedPart_52 rfl ?_
    refine s_lmul (pc2 := 54) w dX0_reflectedPart_53 rfl ?_
    refine s_ldc2_w (pc2 := 57) (v := 100) w dX0_reflectedPart_54 rfl rfl ?_
    refine s_ldiv (pc2 := 58) w dX0_reflectedPart_57 rfl (by decide) ?_
    have h3 := gk_mulb (a := v) (b := gz g 1) (A := 67000000000) (B := 90) (by omega) (by omega) (by omega) hg.2
    rw [e8, gz_I g 1, gIL ⟨by omega, by omega⟩, gL_mul, show (100 : Int64) = gL 100 from rfl, gL_div ⟨by omega, by omega⟩ ⟨by omega, by omega⟩]
    refine s_l2i (pc2 := 59) w dX0_reflectedPart_58 rfl ?_
    rw [gLI]
    refine s_ireturn w dX0_reflectedPart_59 rfl rfl ?_
    exact q0
  · have es : gSp g = true := decide_eq_true (h2.resolve_left (fun h => c12 (e11.trans h)))
    rw [es, if_pos rfl] at q0
    refine s_lload_n (pc2 := 16) w dX0_reflectedPart_15 rfl rfl ?_
    refine s_sipush (pc2 := 19) (v := gI 1000) w dX0_reflectedPart_16 rfl rfl ?_
    refine s_aload_n (pc2 := 20) w dX0_reflectedPart_19 rfl rfl ?_
    refine m_getR (pc2 := 23) (ci := 0) (k := 2) (j2 := 93) w dX0_reflectedPart_20 rfl rfl rfl rfl rfl rfl ?_
    refine s_iload_n (pc2 := 24) w dX0_reflectedPart_23 rfl rfl ?_
    refine r_X2_lengthAt (pc2 := 27) (tt := (tt : Int)) w dX0_reflectedPart_24 rfl rfl rfl rfl hp4 hp5 rfl (by omega) ?_
    refine s_iadd (pc2 := 28) w dX0_reflectedPart_27 rfl ?_
    refine s_i2l (pc2 := 29) w dX0_reflectedPart_28 rfl ?_
    rw [gI_add, gIL ⟨by omega, by omega⟩]
    refine s_lmul (pc2 := 30) w dX0_reflectedPart_29 rfl ?_
    rw [gL_mul]
    refine s_sipush (pc2 := 33) (v := gI 1000) w dX0_reflectedPart_30 rfl rfl ?_
    refine s_aload_n (pc2 := 34) w dX0_reflectedPart_33 rfl rfl ?_
    refine m_getR (pc2 := 37) (ci := 0) (k := 3) (j2 := 94) w dX0_reflectedPart_34 rfl rfl rfl rfl rfl rfl ?_
    refine s_iload_n (pc2 := 38) w dX0_reflectedPart_37 rfl rfl ?_
    refine r_X2_lengthAt (pc2 := 41) (tt := (tt : Int)) w dX0_reflectedPart_38 rfl rfl rfl rfl hp6 hp7 rfl (by omega) ?_
    refine s_iadd (pc2 := 42) w dX0_reflectedPart_41 rfl ?_
    refine s_i2l (pc2 := 43) w dX0_reflectedPart_42 rfl ?_
    rw [gI_add, gIL ⟨by omega, by omega⟩]
    refine r_X10_quotient (pc2 := 46) w dX0_reflectedPart_43 rfl rfl rfl ?_
    rw [qt_L ⟨by omega, by omega⟩ ⟨by omega, by omega⟩ (by omega)]
    obtain ⟨z, hz⟩ : ∃ z, z = (v * (1000 + gk_dl A S B ↑tt)).tdiv (1000 + gk_dl A S B2 ↑tt) := ⟨_, rfl⟩
    rw [← hz] at hb q0 ⊢
    refine s_lstore_n (pc2 := 47) (k2 := 3) w dX0_reflectedPart_46 rfl rfl rfl ?_
    dsimp only [gk_s1, gk_s2, gk_cl]
    refine s_lload_n (pc2 := 48) w dX0_reflectedPart_47 rfl rfl ?_
    refine s_aload_n (pc2 := 49) w dX0_reflectedPart_48 rfl rfl ?_
    refine m_getI (pc2 := 52) (ci := 4) (k := 8) w dX0_reflectedPart_49 rfl rfl rfl rfl rfl ?_
    refine s_i2l (pc2 := 53) w dX0_reflectedPart_52 rfl ?_
    refine s_lmul (pc2 := 54) w dX0_reflectedPart_53 rfl ?_
    refine s_ldc2_w (pc2 := 57) (v := 100) w dX0_reflectedPart_54 rfl rfl ?_
    refine s_ldiv (pc2 := 58) w dX0_reflectedPart_57 rfl (by decide) ?_
    have h3 := gk_mulb (a := z) (b := gz g 1) (A := 67000000000) (B := 90) (by omega) (by omega) (by omega) hg.2
    rw [e8, gz_I g 1, gIL ⟨by omega, by omega⟩, gL_mul, show (100 : Int64) = gL 100 from rfl, gL_div ⟨by omega, by omega⟩ ⟨by omega, by omega⟩]
    refine s_l2i (pc2 := 59) w dX0_reflectedPart_58 rfl ?_
    rw [gLI]
    refine s_ireturn w dX0_reflectedPart_59 rfl rfl ?_
    exact q0
theorem lk_X0_reflectedPart {l : Launch} (hl : l.stackTraces = false) : ∀ q ∈ L_X0_reflectedPart, (q.2.1 < 5 → gk_Lk l RX0 gk_W1 2 q.1 q.2.1 q.2.2.1 q.2.2.2.1 q.2.2.2.2.1 q.2.2.2.2.2) := (List.forall_mem_cons.mpr ⟨(fun _ => ⟨yX2_lengthAt, cX2_lengthAt, 4, (some .int), 1, _, M_X2_lengthAt hl, ⟨by decide, by decide⟩, ⟨by decide, by decide, by decide +kernel⟩, ⟨(gk_wm 470 (by decide +kernel)), (gk_wm 94 (by decide +kernel))⟩, Or.inr (Or.inr (Or.inr (Or.inl ⟨rfl, rfl, (gk_wm 468 (by decide +kernel)), (gk_wm 469 (by decide +kernel)), gk_wm 1117 (by decide +kernel), by decide, rfl⟩)))⟩), (List.forall_mem_cons.mpr ⟨(fun _ => ⟨yX10_quotient, cX10_quotient, 4, (some .long), 0, _, M_X10_quotient hl, ⟨by decide, by decide⟩, ⟨by decide, by decide, by decide +kernel⟩, ⟨(gk_wm 490 (by decide +kernel)), (gk_wm 89 (by decide +kernel))⟩, Or.inr (Or.inl ⟨rfl, rfl, (gk_wm 489 (by decide +kernel)), ⟨_, gk_nsm 18 rfl⟩, nt_X10_quotient⟩)⟩), (fun _ h => absurd h List.not_mem_nil)⟩)⟩)
theorem sp_X0_reflectedPart : ∀ q ∈ L_X0_reflectedPart, gk_Sq RX0 gk_W1 2 q := (List.forall_mem_cons.mpr ⟨⟨fun h => absurd h (by decide), fun h => absurd h (by decide), fun h => absurd h (by decide), fun h => absurd h (by decide), fun h => absurd h (by decide), fun h => absurd h (by decide)⟩, (List.forall_mem_cons.mpr ⟨⟨fun h => absurd h (by decide), fun h => absurd h (by decide), fun h => absurd h (by decide), fun h => absurd h (by decide), fun h => absurd h (by decide), fun h => absurd h (by decide)⟩, (fun _ h => absurd h List.not_mem_nil)⟩)⟩)
theorem M_X0_reflectedPart {l : Launch} (hl : l.stackTraces = false) : gk_Mt l yX0_reflectedPart (.code yX0_reflectedPart cX0_reflectedPart 5 (some .int) :: gk_W1) 2 0 S_X0_reflectedPart := gk_meth hl gk_cw_ok (by decide +kernel) rfl m_X0_reflectedPart pX0_ok (gk_Sp_of sp_X0_reflectedPart) pX0_st (fun ci m S h => absurd h (by intro h; cases h)) (xf_X0 2) (fun idx kd ci mm cost S2 h h5 => lk_X0_reflectedPart hl _ (gk_lk_mem h) h5)

end GKV

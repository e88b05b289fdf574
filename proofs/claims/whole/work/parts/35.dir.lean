/-! THE METHODS, 16: correlations, beams in a direction (the reference) -/
section GKV
variable {c : ByteArray} {P : gk_C} {cs : Nat → Option gk_M0} {rt : Option FieldType} {uf : Nat} {sc : Option Nat} {K : gk_K} {V : gk_V}
variable {L : List (Option Value)} {r : List Value} {n : Nat} {fl : gk_F} {x : gk_X} {y : gk_Y} {u pc pc2 : Nat}
def S_X6_productSum : gk_S := fun as n fl x y K => ∃ (j : Nat) (o : Nat) (lag : Int32), as = [.ref j, .ref o, .int lag] ∧ (n = 202 ∧ fl = gk_fT) ∧ gk_kd j = 20 ∧ gk_kd o = 20 ∧ (gk_ln j = 256) ∧ (gk_ln o = 256) ∧ (K (.inl (some (.long (gL (gk_cv (x j) (x o) lag 256))))) n fl x y)
theorem r_X6_productSum (w : gk_W c P cs (fun _ _ => none) rt uf sc K V) {idx : Nat} {j : Nat} {o : Nat} {lag : Int32} (hd : decode c pc = .ok (.invokestatic idx, 3)) (hp : pc + 3 = pc2) (hc : cs idx = some (0, 0, 3, 0, S_X6_productSum)) (h8 : Nat.ble (r.map Value.category).sum 8 = true) (hk0 : gk_kd j = 20) (hk1 : gk_kd o = 20) (hp0 : gk_ln j = 256) (hp1 : gk_ln o = 256) (kk0 : V pc2 L ((.long (gL (gk_cv (x j) (x o) lag 256))) :: r) 202 gk_fT x y u) : V pc L (.int lag :: .ref o :: .ref j :: r) 202 gk_fT x y u :=
  g_calls w hd hp hc (as := [.ref j, .ref o, .int lag]) rfl h8 rfl rfl rfl (Or.inl rfl) (Or.inl rfl) ⟨j, o, lag, rfl, ⟨rfl, rfl⟩, hk0, hk1, hp0, hp1, kk0⟩
def L_X6_productSum : List (Nat × gk_M0) := [(54, (0, 9, 2, 0, S_X10_elementAt))]
def cs_X6_productSum : Nat → Option gk_M0 := gk_lk L_X6_productSum
theorem m_X6_productSum : ∀ (as : List Value) (n : Nat) (fl : gk_F) (x : gk_X) (y : gk_Y) (K : gk_K), S_X6_productSum as n fl x y K → (gk_L0 as).length ≤ 6 ∧ ∀ V : gk_V, gk_W cX6_productSum pX6 cs_X6_productSum (fun _ _ => none) (some .long) 0 none K V → V 0 (gk_en as 6) [] n fl x y 0 := by
  intro as n fl x y K hS
  obtain ⟨j, o, lag, rfl, ⟨rfl, rfl⟩, hk0, hk1, hp0, hp1, q0⟩ := hS
  refine ⟨Nat.le_of_ble_eq_true rfl, fun V w => ?_⟩
  show V 0 [some (.ref j), some (.ref o), some (.int lag), none, none, none] [] 202 gk_fT x y 0
  have key : ∀ (k t : Nat), t + k = 256 → V 5 [some (.ref j), some (.ref o), some (.int lag), some (.long (gL (gk_cv (x j) (x o) lag t))), none, some (.int (nI t))] [] 202 gk_fT x y 0 := by
    intro k
    induction k with
    | zero =>
      intro t ht
      obtain rfl : t = 256 := by omega
      refine s_iload (pc2 := 7) w dX6_productSum_5 rfl rfl ?_
      refine s_aload_n (pc2 := 8) w dX6_productSum_7 rfl rfl ?_
      refine m_alen (pc2 := 9) (kd := 20) (N := (gI 256)) w dX6_productSum_8 rfl (by first | exact hk0 | exact hk1) rfl rfl (congrArg nI hp0) ?_
      refine s_ic_ge (pc2 := 12) (tgt := 36) w dX6_productSum_9 rfl (by decide) (fun _ => ?_) (fun h0 => absurd ((Int32.le_refl _)) h0)
      refine s_lload_n (pc2 := 37) w dX6_productSum_36 rfl rfl ?_
      refine s_lreturn w dX6_productSum_37 rfl ?_
      exact q0
    | succ k ih =>
      intro t ht
      refine s_iload (pc2 := 7) w dX6_productSum_5 rfl rfl ?_
      refine s_aload_n (pc2 := 8) w dX6_productSum_7 rfl rfl ?_
      refine m_alen (pc2 := 9) (kd := 20) (N := (gI 256)) w dX6_productSum_8 rfl (by first | exact hk0 | exact hk1) rfl rfl (congrArg nI hp0) ?_
      refine s_ic_ge (pc2 := 12) (tgt := 36) w dX6_productSum_9 rfl (by decide) (fun h0 => absurd h0 (by rw [gI_nI, gI_le ⟨by omega, by omega⟩ ⟨by omega, by omega⟩]; omega)) (fun _ => ?_)
      refine s_lload_n (pc2 := 13) w dX6_productSum_12 rfl rfl ?_
      refine s_aload_n (pc2 := 14) w dX6_productSum_13 rfl rfl ?_
      refine s_iload (pc2 := 16) w dX6_productSum_14 rfl rfl ?_
      refine m_ialoadN (pc2 := 17) (t := t) w dX6_productSum_16 rfl (by first | exact hk0 | exact hk1) hp0 rfl (by omega) rfl ?_
      refine s_i2l (pc2 := 18) w dX6_productSum_17 rfl ?_
      refine s_aload_n (pc2 := 19) w dX6_productSum_18 rfl rfl ?_
      refine s_iload (pc2 := 21) w dX6_productSum_19 rfl rfl ?_
      refine s_iload_n (pc2 := 22) w dX6_productSum_21 rfl rfl ?_
      refine s_iadd (pc2 := 23) w dX6_productSum_22 rfl ?_
      refine r_X10_elementAt (pc2 := 26) w dX6_productSum_23 rfl rfl rfl hk1 hp1 rfl ?_
      rw [gk_at_e]
      refine s_i2l (pc2 := 27) w dX6_productSum_26 rfl ?_
      refine s_lmul (pc2 := 28) w dX6_productSum_27 rfl ?_
      refine s_ladd (pc2 := 29) w dX6_productSum_28 rfl ?_
      rw [gI64 (x j t), gI64 (gk_at _ _), gL_mul, gL_add]
      refine s_lstore_n (pc2 := 30) (k2 := 3) w dX6_productSum_29 rfl rfl rfl ?_
      dsimp only [gk_s1, gk_s2, gk_cl]
      refine s_iinc (pc2 := 33) w dX6_productSum_30 rfl rfl rfl rfl ?_
      dsimp only [gk_s1, gk_s2, gk_cl]
      rw [nI_s]
      refine s_goto (tgt := 5) w dX6_productSum_33 (by decide) ?_
      exact ih (t + 1) (by omega)
  refine s_lconst (pc2 := 1) (v := gL 0) w dX6_productSum_0 rfl rfl ?_
  refine s_lstore_n (pc2 := 2) (k2 := 3) w dX6_productSum_1 rfl rfl rfl ?_
  dsimp only [gk_s1, gk_s2, gk_cl]
  refine s_iconst (pc2 := 3) (v := 0) w dX6_productSum_2 rfl rfl ?_
  refine s_istore (pc2 := 5) w dX6_productSum_3 rfl rfl ?_
  dsimp only [gk_s1, gk_s2, gk_cl]
  exact key 256 0 rfl
theorem lk_X6_productSum {l : Launch} (hl : l.stackTraces = false) : ∀ q ∈ L_X6_productSum, (q.2.1 < 5 → gk_Lk l RX6 gk_W1 1 q.1 q.2.1 q.2.2.1 q.2.2.2.1 q.2.2.2.2.1 q.2.2.2.2.2) := (List.forall_mem_cons.mpr ⟨(fun _ => ⟨yX10_elementAt, cX10_elementAt, 2, (some .int), 0, _, M_X10_elementAt hl, ⟨by decide, by decide⟩, ⟨by decide, by decide, by decide +kernel⟩, ⟨(gk_wm 481 (by decide +kernel)), (gk_wm 89 (by decide +kernel))⟩, Or.inr (Or.inl ⟨rfl, rfl, (gk_wm 480 (by decide +kernel)), ⟨_, gk_nsm 15 rfl⟩, nt_X10_elementAt⟩)⟩), (fun _ h => absurd h List.not_mem_nil)⟩)
theorem sp_X6_productSum : ∀ q ∈ L_X6_productSum, gk_Sq RX6 gk_W1 1 q := (List.forall_mem_cons.mpr ⟨⟨fun h => absurd h (by decide), fun h => absurd h (by decide), fun h => absurd h (by decide), fun h => absurd h (by decide), fun h => absurd h (by decide), fun h => absurd h (by decide)⟩, (fun _ h => absurd h List.not_mem_nil)⟩)
theorem M_X6_productSum {l : Launch} (hl : l.stackTraces = false) : gk_Mt l yX6_productSum (.code yX6_productSum cX6_productSum 6 (some .long) :: gk_W1) 1 0 S_X6_productSum := gk_meth hl gk_cw_ok (by decide +kernel) rfl m_X6_productSum pX6_ok (gk_Sp_of sp_X6_productSum) pX6_st (fun ci m S h => absurd h (by intro h; cases h)) (xf_X6 1) (fun idx kd ci mm cost S2 h h5 => lk_X6_productSum hl _ (gk_lk_mem h) h5)

def S_X11_correlationOf : gk_S := fun as n fl x y K => ∃ (m : Int32) (o : Int32) (lag : Int32) (mm : Nat) (oo : Nat), as = [.ref 189, .int m, .int o, .int lag] ∧ (n = 202 ∧ fl = gk_fT) ∧ (m = nI mm) ∧ (mm < 8) ∧ (o = nI oo) ∧ (oo < 8) ∧ (K (.inl (some (.long (gL (gk_cv (fun k => x 190 (186 + 256 * mm + k)) (fun k => x 190 (186 + 256 * oo + k)) lag 256))))) n fl x y)
theorem r_X11_correlationOf (w : gk_W c P cs (fun _ _ => none) rt uf sc K V) {idx : Nat} {m : Int32} {o : Int32} {lag : Int32} {mm : Nat} {oo : Nat} (hd : decode c pc = .ok (.invokevirtual idx, 3)) (hp : pc + 3 = pc2) (hc : cs idx = some (1, 10, 4, 0, S_X11_correlationOf)) (h8 : Nat.ble (r.map Value.category).sum 8 = true) (hp0 : m = nI mm) (hp1 : mm < 8) (hp2 : o = nI oo) (hp3 : oo < 8) (kk0 : V pc2 L ((.long (gL (gk_cv (fun k => x 190 (186 + 256 * mm + k)) (fun k => x 190 (186 + 256 * oo + k)) lag 256))) :: r) 202 gk_fT x y u) : V pc L (.int lag :: .int o :: .int m :: .ref 189 :: r) 202 gk_fT x y u :=
  g_callv w hd hp hc (as := [.ref 189, .int m, .int o, .int lag]) rfl h8 rfl rfl rfl (Or.inr (Or.inl ⟨Or.inl rfl, _, _, rfl, (gk_kd_j rfl rfl), rfl⟩)) (Or.inl rfl) ⟨m, o, lag, mm, oo, rfl, ⟨rfl, rfl⟩, hp0, hp1, hp2, hp3, kk0⟩
def L_X11_correlationOf : List (Nat × gk_M0) := [(56, (0, 10, 1, 0, S_X11_isTime)), (175, (1, 10, 3, 0, S_X11_recorded))]
def cs_X11_correlationOf : Nat → Option gk_M0 := gk_lk L_X11_correlationOf
theorem m_X11_correlationOf : ∀ (as : List Value) (n : Nat) (fl : gk_F) (x : gk_X) (y : gk_Y) (K : gk_K), S_X11_correlationOf as n fl x y K → (gk_L0 as).length ≤ 7 ∧ ∀ V : gk_V, gk_W cX11_correlationOf pX11 cs_X11_correlationOf (fun _ _ => none) (some .long) 0 none K V → V 0 (gk_en as 7) [] n fl x y 0 := by
  intro as n fl x y K hS
  obtain ⟨m, o, lag, mm, oo, rfl, ⟨rfl, rfl⟩, hp0, hp1, hp2, hp3, q0⟩ := hS
  refine ⟨Nat.le_of_ble_eq_true rfl, fun V w => ?_⟩
  show V 0 [some (.ref 189), some (.int m), some (.int o), some (.int lag), none, none, none] [] 202 gk_fT x y 0
  subst hp0 hp2
  have key : ∀ (k t : Nat), t + k = 256 → V 6 [some (.ref 189), some (.int (nI mm)), some (.int (nI oo)), some (.int lag), some (.long (gL (gk_cv (fun k => x 190 (186 + 256 * mm + k)) (fun k => x 190 (186 + 256 * oo + k)) lag t))), none, some (.int (nI t))] [] 202 gk_fT x y 0 := by
    intro k
    induction k with
    | zero =>
      intro t ht
      obtain rfl : t = 256 := by omega
      refine s_iload (pc2 := 8) w dX11_correlationOf_6 rfl rfl ?_
      refine s_sipush (pc2 := 11) (v := gI 256) w dX11_correlationOf_8 rfl rfl ?_
      refine s_ic_ge (pc2 := 14) (tgt := 58) w dX11_correlationOf_11 rfl (by decide) (fun _ => ?_) (fun h0 => absurd ((Int32.le_refl _)) h0)
      refine s_lload (pc2 := 60) w dX11_correlationOf_58 rfl rfl ?_
      refine s_lreturn w dX11_correlationOf_60 rfl ?_
      exact q0
    | succ k ih =>
      intro t ht
      refine s_iload (pc2 := 8) w dX11_correlationOf_6 rfl rfl ?_
      refine s_sipush (pc2 := 11) (v := gI 256) w dX11_correlationOf_8 rfl rfl ?_
      refine s_ic_ge (pc2 := 14) (tgt := 58) w dX11_correlationOf_11 rfl (by decide) (fun h0 => absurd h0 (by rw [gI_nI, gI_le ⟨by omega, by omega⟩ ⟨by omega, by omega⟩]; omega)) (fun _ => ?_)
      refine s_lload (pc2 := 16) w dX11_correlationOf_14 rfl rfl ?_
      refine s_iload (pc2 := 18) w dX11_correlationOf_16 rfl rfl ?_
      refine s_iload_n (pc2 := 19) w dX11_correlationOf_18 rfl rfl ?_
      refine s_iadd (pc2 := 20) w dX11_correlationOf_19 rfl ?_
      refine r_X11_isTime (pc2 := 23) w dX11_correlationOf_20 rfl rfl rfl ?_
      refine s_if_eq (pc2 := 26) (tgt := 48) w dX11_correlationOf_23 rfl (by decide) (fun c23 => ?_) (fun c23 => ?_)
      · refine s_lconst (pc2 := 49) (v := gL 0) w dX11_correlationOf_48 rfl rfl ?_
        refine s_ladd (pc2 := 50) w dX11_correlationOf_49 rfl ?_
        rw [show (gL (gk_cv (fun k => x 190 (186 + 256 * mm + k)) (fun k => x 190 (186 + 256 * oo + k)) lag t)) + gL 0 = gL (gk_cv (fun k => x 190 (186 + 256 * mm + k)) (fun k => x 190 (186 + 256 * oo + k)) lag (t + 1)) by
          rw [gL_add]
          refine congrArg gL ?_
          show _ = _ + (x 190 (186 + 256 * mm + t)).toInt * (gk_at _ _).toInt
          rw [g_b0] at c23
          rw [show gk_at (fun k => x 190 (186 + 256 * oo + k)) (nI t + lag) = 0 from if_neg c23, show (0 : Int32).toInt = 0 from by decide, Int.mul_zero]]
        refine s_lstore (pc2 := 52) w dX11_correlationOf_50 rfl rfl ?_
        dsimp only [gk_s1, gk_s2, gk_cl]
        refine s_iinc (pc2 := 55) w dX11_correlationOf_52 rfl rfl rfl rfl ?_
        dsimp only [gk_s1, gk_s2, gk_cl]
        rw [nI_s]
        refine s_goto (tgt := 6) w dX11_correlationOf_55 (by decide) ?_
        exact ih (t + 1) (by omega)
      · refine s_aload_n (pc2 := 27) w dX11_correlationOf_26 rfl rfl ?_
        refine s_iload_n (pc2 := 28) w dX11_correlationOf_27 rfl rfl ?_
        refine s_iload (pc2 := 30) w dX11_correlationOf_28 rfl rfl ?_
        refine r_X11_recorded (pc2 := 33) w dX11_correlationOf_30 rfl rfl rfl rfl hp1 ?_
        rw [gk_at_n (by omega)]
        refine s_i2l (pc2 := 34) w dX11_correlationOf_33 rfl ?_
        refine s_aload_n (pc2 := 35) w dX11_correlationOf_34 rfl rfl ?_
        refine s_iload_n (pc2 := 36) w dX11_correlationOf_35 rfl rfl ?_
        refine s_iload (pc2 := 38) w dX11_correlationOf_36 rfl rfl ?_
        refine s_iload_n (pc2 := 39) w dX11_correlationOf_38 rfl rfl ?_
        refine s_iadd (pc2 := 40) w dX11_correlationOf_39 rfl ?_
        refine r_X11_recorded (pc2 := 43) w dX11_correlationOf_40 rfl rfl rfl rfl hp3 ?_
        refine s_i2l (pc2 := 44) w dX11_correlationOf_43 rfl ?_
        refine s_lmul (pc2 := 45) w dX11_correlationOf_44 rfl ?_
        refine s_goto (tgt := 49) w dX11_correlationOf_45 (by decide) ?_
        refine s_ladd (pc2 := 50) w dX11_correlationOf_49 rfl ?_
        rw [gI64 (x 190 _), gI64 (gk_at _ _), gL_mul, gL_add]
        refine s_lstore (pc2 := 52) w dX11_correlationOf_50 rfl rfl ?_
        dsimp only [gk_s1, gk_s2, gk_cl]
        refine s_iinc (pc2 := 55) w dX11_correlationOf_52 rfl rfl rfl rfl ?_
        dsimp only [gk_s1, gk_s2, gk_cl]
        rw [nI_s]
        refine s_goto (tgt := 6) w dX11_correlationOf_55 (by decide) ?_
        exact ih (t + 1) (by omega)
  refine s_lconst (pc2 := 1) (v := gL 0) w dX11_correlationOf_0 rfl rfl ?_
  refine s_lstore (pc2 := 3) w dX11_correlationOf_1 rfl rfl ?_
  dsimp only [gk_s1, gk_s2, gk_cl]
  refine s_iconst (pc2 := 4) (v := gI 0) w dX11_correlationOf_3 rfl rfl ?_
  refine s_istore (pc2 := 6) w dX11_correlationOf_4 rfl rfl ?_
  dsimp only [gk_s1, gk_s2, gk_cl]
  exact key 256 0 rfl
theorem lk_X11_correlationOf {l : Launch} (hl : l.stackTraces = false) : ∀ q ∈ L_X11_correlationOf, (q.2.1 < 5 → gk_Lk l RX11 gk_W1 3 q.1 q.2.1 q.2.2.1 q.2.2.2.1 q.2.2.2.2.1 q.2.2.2.2.2) := (List.forall_mem_cons.mpr ⟨(fun _ => ⟨yX11_isTime, cX11_isTime, 1, (some .boolean), 1, _, M_X11_isTime hl, ⟨by decide, by decide⟩, ⟨by decide, by decide, by decide +kernel⟩, ⟨(gk_wm 1432 (by decide +kernel)), (gk_wm 99 (by decide +kernel))⟩, Or.inl ⟨rfl, rfl, (gk_wm 1431 (by decide +kernel)), gk_wm 1430 (by decide +kernel)⟩⟩), (List.forall_mem_cons.mpr ⟨(fun _ => ⟨yX11_recorded, cX11_recorded, 3, (some .int), 2, _, M_X11_recorded hl, ⟨by decide, by decide⟩, ⟨by decide, by decide, by decide +kernel⟩, ⟨(gk_wm 1518 (by decide +kernel)), (gk_wm 99 (by decide +kernel))⟩, Or.inr (Or.inr (Or.inr (Or.inl ⟨rfl, rfl, (gk_wm 1517 (by decide +kernel)), (gk_wm 54 (by decide +kernel)), gk_wm 1515 (by decide +kernel), by decide, rfl⟩)))⟩), (fun _ h => absurd h List.not_mem_nil)⟩)⟩)
theorem sp_X11_correlationOf : ∀ q ∈ L_X11_correlationOf, gk_Sq RX11 gk_W1 3 q := (List.forall_mem_cons.mpr ⟨⟨fun h => absurd h (by decide), fun h => absurd h (by decide), fun h => absurd h (by decide), fun h => absurd h (by decide), fun h => absurd h (by decide), fun h => absurd h (by decide)⟩, (List.forall_mem_cons.mpr ⟨⟨fun h => absurd h (by decide), fun h => absurd h (by decide), fun h => absurd h (by decide), fun h => absurd h (by decide), fun h => absurd h (by decide), fun h => absurd h (by decide)⟩, (fun _ h => absurd h List.not_mem_nil)⟩)⟩)
theorem M_X11_correlationOf {l : Launch} (hl : l.stackTraces = false) : gk_Mt l yX11_correlationOf (.code yX11_correlationOf cX11_correlationOf 7 (some .long) :: gk_W1) 3 0 S_X11_correlationOf := gk_meth hl gk_cw_ok (by decide +kernel) rfl m_X11_correlationOf pX11_ok (gk_Sp_of sp_X11_correlationOf) pX11_st (fun ci m S h => absurd h (by intro h; cases h)) (xf_X11 3) (fun idx kd ci mm cost S2 h h5 => lk_X11_correlationOf hl _ (gk_lk_mem h) h5)

def S_X11_layDirectedParts : gk_S := fun as n fl x y K => ∃ (m : Int32) (d : Int32) (mm : Nat) (mx : Int) (D : Int) (cc : Int), as = [.ref 189, .int m, .int d] ∧ (n = 202 ∧ fl = gk_fT) ∧ (m = nI mm) ∧ (mm < 8) ∧ (x 190 (154 + 4 * mm + 0) = gI mx) ∧ (-5000 ≤ mx ∧ mx ≤ 5000) ∧ (d = gI D) ∧ (-3000 ≤ D ∧ D ≤ 3000) ∧ (x 190 0 = gI cc) ∧ (100 ≤ cc ∧ cc ≤ 1000) ∧ (K (.inl none) n fl (gk_ur x 197 (fun k => gk_at (fun i => x 190 (186 + 256 * mm + i)) (nI k + gI (mx * D / (100 * cc)))) 256) y)
theorem r_X11_layDirectedParts (w : gk_W c P cs (fun _ _ => none) rt uf sc K V) {idx : Nat} {m : Int32} {d : Int32} {mm : Nat} {mx : Int} {D : Int} {cc : Int} (hd : decode c pc = .ok (.invokevirtual idx, 3)) (hp : pc + 3 = pc2) (hc : cs idx = some (1, 10, 3, 0, S_X11_layDirectedParts)) (h8 : Nat.ble (r.map Value.category).sum 8 = true) (hp0 : m = nI mm) (hp1 : mm < 8) (hp2 : x 190 (154 + 4 * mm + 0) = gI mx) (hp3 : -5000 ≤ mx ∧ mx ≤ 5000) (hp4 : d = gI D) (hp5 : -3000 ≤ D ∧ D ≤ 3000) (hp6 : x 190 0 = gI cc) (hp7 : 100 ≤ cc ∧ cc ≤ 1000) (kk0 : V pc2 L r 202 gk_fT (gk_ur x 197 (fun k => gk_at (fun i => x 190 (186 + 256 * mm + i)) (nI k + gI (mx * D / (100 * cc)))) 256) y u) : V pc L (.int d :: .int m :: .ref 189 :: r) 202 gk_fT x y u :=
  g_callv w hd hp hc (as := [.ref 189, .int m, .int d]) rfl h8 rfl rfl rfl (Or.inr (Or.inl ⟨Or.inl rfl, _, _, rfl, (gk_kd_j rfl rfl), rfl⟩)) (Or.inl rfl) ⟨m, d, mm, mx, D, cc, rfl, ⟨rfl, rfl⟩, hp0, hp1, hp2, hp3, hp4, hp5, hp6, hp7, kk0⟩
def L_X11_layDirectedParts : List (Nat × gk_M0) := [(175, (1, 10, 3, 0, S_X11_recorded)), (238, (1, 10, 3, 0, S_X11_shiftOf))]
def cs_X11_layDirectedParts : Nat → Option gk_M0 := gk_lk L_X11_layDirectedParts
theorem m_X11_layDirectedParts : ∀ (as : List Value) (n : Nat) (fl : gk_F) (x : gk_X) (y : gk_Y) (K : gk_K), S_X11_layDirectedParts as n fl x y K → (gk_L0 as).length ≤ 5 ∧ ∀ V : gk_V, gk_W cX11_layDirectedParts pX11 cs_X11_layDirectedParts (fun _ _ => none) none 0 none K V → V 0 (gk_en as 5) [] n fl x y 0 := by
  intro as n fl x y K hS
  obtain ⟨m, d, mm, mx, D, cc, rfl, ⟨rfl, rfl⟩, hp0, hp1, hp2, hp3, hp4, hp5, hp6, hp7, q0⟩ := hS
  refine ⟨Nat.le_of_ble_eq_true rfl, fun V w => ?_⟩
  show V 0 [some (.ref 189), some (.int m), some (.int d), none, none] [] 202 gk_fT x y 0
  subst hp0
  have key : ∀ (k t : Nat), t + k = 256 → V 10 [some (.ref 189), some (.int (nI mm)), some (.int d), some (.int (gI (mx * D / (100 * cc)))), some (.int (nI t))] [] 202 gk_fT (gk_ur x 197 (fun k => gk_at (fun i => x 190 (186 + 256 * mm + i)) (nI k + gI (mx * D / (100 * cc)))) t) y 0 := by
    intro k
    induction k with
    | zero =>
      intro t ht
      obtain rfl : t = 256 := by omega
      refine s_iload (pc2 := 12) w dX11_layDirectedParts_10 rfl rfl ?_
      refine s_sipush (pc2 := 15) (v := gI 256) w dX11_layDirectedParts_12 rfl rfl ?_
      refine s_ic_ge (pc2 := 18) (tgt := 40) w dX11_layDirectedParts_15 rfl (by decide) (fun _ => ?_) (fun h0 => absurd ((Int32.le_refl _)) h0)
      refine s_return w dX11_layDirectedParts_40 rfl ?_
      exact q0
    | succ k ih =>
      intro t ht
      refine s_iload (pc2 := 12) w dX11_layDirectedParts_10 rfl rfl ?_
      refine s_sipush (pc2 := 15) (v := gI 256) w dX11_layDirectedParts_12 rfl rfl ?_
      refine s_ic_ge (pc2 := 18) (tgt := 40) w dX11_layDirectedParts_15 rfl (by decide) (fun h0 => absurd h0 (by rw [gI_nI, gI_le ⟨by omega, by omega⟩ ⟨by omega, by omega⟩]; omega)) (fun _ => ?_)
      refine s_aload_n (pc2 := 19) w dX11_layDirectedParts_18 rfl rfl ?_
      refine m_getR (pc2 := 22) (ci := 10) (k := 8) (j2 := 197) w dX11_layDirectedParts_19 rfl rfl rfl rfl rfl rfl ?_
      refine s_iload (pc2 := 24) w dX11_layDirectedParts_22 rfl rfl ?_
      refine s_aload_n (pc2 := 25) w dX11_layDirectedParts_24 rfl rfl ?_
      refine s_iload_n (pc2 := 26) w dX11_layDirectedParts_25 rfl rfl ?_
      refine s_iload (pc2 := 28) w dX11_layDirectedParts_26 rfl rfl ?_
      refine s_iload_n (pc2 := 29) w dX11_layDirectedParts_28 rfl rfl ?_
      refine s_iadd (pc2 := 30) w dX11_layDirectedParts_29 rfl ?_
      refine r_X11_recorded (pc2 := 33) w dX11_layDirectedParts_30 rfl rfl rfl rfl hp1 ?_
      refine m_iastoreN (pc2 := 34) (t := t) (N := 256) w dX11_layDirectedParts_33 rfl rfl rfl rfl (by omega) rfl ?_
      refine s_iinc (pc2 := 37) w dX11_layDirectedParts_34 rfl rfl rfl rfl ?_
      dsimp only [gk_s1, gk_s2, gk_cl]
      rw [nI_s]
      refine s_goto (tgt := 10) w dX11_layDirectedParts_37 (by decide) ?_
      have h := ih (t + 1) (by omega)
      rw [← gk_ur_s] at h
      exact h
  refine s_aload_n (pc2 := 1) w dX11_layDirectedParts_0 rfl rfl ?_
  refine s_iload_n (pc2 := 2) w dX11_layDirectedParts_1 rfl rfl ?_
  refine s_iload_n (pc2 := 3) w dX11_layDirectedParts_2 rfl rfl ?_
  refine r_X11_shiftOf (pc2 := 6) w dX11_layDirectedParts_3 rfl rfl rfl rfl hp1 hp2 hp3 hp4 hp5 hp6 hp7 ?_
  refine s_istore_n (pc2 := 7) (k2 := 3) w dX11_layDirectedParts_6 rfl rfl rfl ?_
  dsimp only [gk_s1, gk_s2, gk_cl]
  refine s_iconst (pc2 := 8) (v := gI 0) w dX11_layDirectedParts_7 rfl rfl ?_
  refine s_istore (pc2 := 10) w dX11_layDirectedParts_8 rfl rfl ?_
  dsimp only [gk_s1, gk_s2, gk_cl]
  have h := key 256 0 rfl
  rw [gk_ur_0] at h
  exact h
theorem lk_X11_layDirectedParts {l : Launch} (hl : l.stackTraces = false) : ∀ q ∈ L_X11_layDirectedParts, (q.2.1 < 5 → gk_Lk l RX11 gk_W1 3 q.1 q.2.1 q.2.2.1 q.2.2.2.1 q.2.2.2.2.1 q.2.2.2.2.2) := (List.forall_mem_cons.mpr ⟨(fun _ => ⟨yX11_recorded, cX11_recorded, 3, (some .int), 2, _, M_X11_recorded hl, ⟨by decide, by decide⟩, ⟨by decide, by decide, by decide +kernel⟩, ⟨(gk_wm 1518 (by decide +kernel)), (gk_wm 99 (by decide +kernel))⟩, Or.inr (Or.inr (Or.inr (Or.inl ⟨rfl, rfl, (gk_wm 1517 (by decide +kernel)), (gk_wm 54 (by decide +kernel)), gk_wm 1515 (by decide +kernel), by decide, rfl⟩)))⟩), (List.forall_mem_cons.mpr ⟨(fun _ => ⟨yX11_shiftOf, cX11_shiftOf, 3, (some .int), 1, _, M_X11_shiftOf hl, ⟨by decide, by decide⟩, ⟨by decide, by decide, by decide +kernel⟩, ⟨(gk_wm 1605 (by decide +kernel)), (gk_wm 99 (by decide +kernel))⟩, Or.inr (Or.inr (Or.inr (Or.inl ⟨rfl, rfl, (gk_wm 1604 (by decide +kernel)), (gk_wm 63 (by decide +kernel)), gk_wm 1602 (by decide +kernel), by decide, rfl⟩)))⟩), (fun _ h => absurd h List.not_mem_nil)⟩)⟩)
theorem sp_X11_layDirectedParts : ∀ q ∈ L_X11_layDirectedParts, gk_Sq RX11 gk_W1 3 q := (List.forall_mem_cons.mpr ⟨⟨fun h => absurd h (by decide), fun h => absurd h (by decide), fun h => absurd h (by decide), fun h => absurd h (by decide), fun h => absurd h (by decide), fun h => absurd h (by decide)⟩, (List.forall_mem_cons.mpr ⟨⟨fun h => absurd h (by decide), fun h => absurd h (by decide), fun h => absurd h (by decide), fun h => absurd h (by decide), fun h => absurd h (by decide), fun h => absurd h (by decide)⟩, (fun _ h => absurd h List.not_mem_nil)⟩)⟩)
theorem M_X11_layDirectedParts {l : Launch} (hl : l.stackTraces = false) : gk_Mt l yX11_layDirectedParts (.code yX11_layDirectedParts cX11_layDirectedParts 5 none :: gk_W1) 3 0 S_X11_layDirectedParts := gk_meth hl gk_cw_ok (by decide +kernel) rfl m_X11_layDirectedParts pX11_ok (gk_Sp_of sp_X11_layDirectedParts) pX11_st (fun ci m S h => absurd h (by intro h; cases h)) (xf_X11 3) (fun idx kd ci mm cost S2 h h5 => lk_X11_layDirectedParts hl _ (gk_lk_mem h) h5)

end GKV

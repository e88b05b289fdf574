/-! THE METHODS, 24: the reference, its simple setters -/
section GKV
variable {c : ByteArray} {P : gk_C} {cs : Nat → Option gk_M0} {rt : Option FieldType} {uf : Nat} {sc : Option Nat} {K : gk_K} {V : gk_V}
variable {L : List (Option Value)} {r : List Value} {n : Nat} {fl : gk_F} {x : gk_X} {y : gk_Y} {u pc pc2 : Nat}
def S_X11_setSound : gk_S := fun as n fl x y K => ∃ (v : Int32), as = [.ref 189, .int v] ∧ (n = 202 ∧ fl = gk_fT) ∧ ((100 ≤ v ∧ v ≤ 1000) → K (.inl (some (.int (x 190 0)))) n fl (gk_up (gk_up x 189 4 0) 190 0 v) y) ∧ (¬ (100 ≤ v ∧ v ≤ 1000) → K (.inl (some (.int 0))) n fl (gk_up (gk_up x 189 4 0) 189 4 1) y)
def L_X11_setSound : List (Nat × gk_M0) := [(52, (0, 10, 3, 0, S_X11_isBetween)), (60, (1, 10, 3, 0, S_X11_replace)), (64, (1, 10, 2, 0, S_X11_fail))]
def cs_X11_setSound : Nat → Option gk_M0 := gk_lk L_X11_setSound
theorem m_X11_setSound : ∀ (as : List Value) (n : Nat) (fl : gk_F) (x : gk_X) (y : gk_Y) (K : gk_K), S_X11_setSound as n fl x y K → (gk_L0 as).length ≤ 2 ∧ ∀ V : gk_V, gk_W cX11_setSound pX11 cs_X11_setSound (fun _ _ => none) (some .int) 0 none K V → V 0 (gk_en as 2) [] n fl x y 0 := by
  intro as n fl x y K hS
  obtain ⟨v, rfl, ⟨rfl, rfl⟩, q0, q1⟩ := hS
  refine ⟨Nat.le_of_ble_eq_true rfl, fun V w => ?_⟩
  show V 0 [some (.ref 189), some (.int v)] [] 202 gk_fT x y 0
  refine s_aload_n (pc2 := 1) w dX11_setSound_0 rfl rfl ?_
  refine s_iconst (pc2 := 2) (v := 0) w dX11_setSound_1 rfl rfl ?_
  refine m_putI (pc2 := 5) (ci := 10) (k := 4) w dX11_setSound_2 rfl rfl rfl rfl rfl (by intro h; cases h) ?_
  refine s_iload_n (pc2 := 6) w dX11_setSound_5 rfl rfl ?_
  refine s_bipush (pc2 := 8) (v := 100) w dX11_setSound_6 rfl rfl ?_
  refine s_sipush (pc2 := 11) (v := 1000) w dX11_setSound_8 rfl rfl ?_
  refine r_X11_isBetween (pc2 := 14) w dX11_setSound_11 rfl rfl rfl ?_
  refine s_if_eq (pc2 := 17) (tgt := 26) w dX11_setSound_14 rfl (by decide) (fun c14 => ?_) (fun c14 => ?_)
  · refine s_aload_n (pc2 := 27) w dX11_setSound_26 rfl rfl ?_
    refine s_iconst (pc2 := 28) (v := 1) w dX11_setSound_27 rfl rfl ?_
    refine r_X11_fail (pc2 := 31) w dX11_setSound_28 rfl rfl rfl ?_
    refine s_ireturn w dX11_setSound_31 rfl rfl ?_
    rw [g_b0] at c14
    exact q1 c14
  · refine s_aload_n (pc2 := 18) w dX11_setSound_17 rfl rfl ?_
    refine s_iconst (pc2 := 19) (v := 0) w dX11_setSound_18 rfl rfl ?_
    refine s_iload_n (pc2 := 20) w dX11_setSound_19 rfl rfl ?_
    refine r_X11_replace (pc2 := 23) (a := 0) w dX11_setSound_20 rfl rfl rfl rfl (by decide) ?_
    refine s_goto (tgt := 31) w dX11_setSound_23 (by decide) ?_
    refine s_ireturn w dX11_setSound_31 rfl rfl ?_
    rw [g_b0, Classical.not_not] at c14
    exact q0 c14
theorem lk_X11_setSound {l : Launch} (hl : l.stackTraces = false) : ∀ q ∈ L_X11_setSound, (q.2.1 < 5 → gk_Lk l RX11 gk_W1 1 q.1 q.2.1 q.2.2.1 q.2.2.2.1 q.2.2.2.2.1 q.2.2.2.2.2) := (List.forall_mem_cons.mpr ⟨(fun _ => ⟨yX11_isBetween, cX11_isBetween, 3, (some .boolean), 0, _, M_X11_isBetween hl, ⟨by decide, by decide⟩, ⟨by decide, by decide, by decide +kernel⟩, ⟨(gk_wm 1334 (by decide +kernel)), (gk_wm 99 (by decide +kernel))⟩, Or.inl ⟨rfl, rfl, (gk_wm 1333 (by decide +kernel)), gk_wm 1332 (by decide +kernel)⟩⟩), (List.forall_mem_cons.mpr ⟨(fun _ => ⟨yX11_replace, cX11_replace, 4, (some .int), 0, _, M_X11_replace hl, ⟨by decide, by decide⟩, ⟨by decide, by decide, by decide +kernel⟩, ⟨(gk_wm 1338 (by decide +kernel)), (gk_wm 99 (by decide +kernel))⟩, Or.inr (Or.inr (Or.inr (Or.inl ⟨rfl, rfl, (gk_wm 1337 (by decide +kernel)), (gk_wm 31 (by decide +kernel)), gk_wm 1335 (by decide +kernel), by decide, rfl⟩)))⟩), (List.forall_mem_cons.mpr ⟨(fun _ => ⟨yX11_fail, cX11_fail, 2, (some .int), 0, _, M_X11_fail hl, ⟨by decide, by decide⟩, ⟨by decide, by decide, by decide +kernel⟩, ⟨(gk_wm 1342 (by decide +kernel)), (gk_wm 99 (by decide +kernel))⟩, Or.inr (Or.inr (Or.inr (Or.inl ⟨rfl, rfl, (gk_wm 1341 (by decide +kernel)), (gk_wm 32 (by decide +kernel)), gk_wm 1339 (by decide +kernel), by decide, rfl⟩)))⟩), (fun _ h => absurd h List.not_mem_nil)⟩)⟩)⟩)
theorem sp_X11_setSound : ∀ q ∈ L_X11_setSound, gk_Sq RX11 gk_W1 1 q := (List.forall_mem_cons.mpr ⟨⟨fun h => absurd h (by decide), fun h => absurd h (by decide), fun h => absurd h (by decide), fun h => absurd h (by decide), fun h => absurd h (by decide), fun h => absurd h (by decide)⟩, (List.forall_mem_cons.mpr ⟨⟨fun h => absurd h (by decide), fun h => absurd h (by decide), fun h => absurd h (by decide), fun h => absurd h (by decide), fun h => absurd h (by decide), fun h => absurd h (by decide)⟩, (List.forall_mem_cons.mpr ⟨⟨fun h => absurd h (by decide), fun h => absurd h (by decide), fun h => absurd h (by decide), fun h => absurd h (by decide), fun h => absurd h (by decide), fun h => absurd h (by decide)⟩, (fun _ h => absurd h List.not_mem_nil)⟩)⟩)⟩)
theorem M_X11_setSound {l : Launch} (hl : l.stackTraces = false) : gk_Mt l yX11_setSound (.code yX11_setSound cX11_setSound 2 (some .int) :: gk_W1) 1 0 S_X11_setSound := gk_meth hl gk_cw_ok (by decide +kernel) rfl m_X11_setSound pX11_ok (gk_Sp_of sp_X11_setSound) pX11_st (fun ci m S h => absurd h (by intro h; cases h)) (xf_X11 1) (fun idx kd ci mm cost S2 h h5 => lk_X11_setSound hl _ (gk_lk_mem h) h5)

def S_X11_setGround : gk_S := fun as n fl x y K => ∃ (v : Int32), as = [.ref 189, .int v] ∧ (n = 202 ∧ fl = gk_fT) ∧ ((-90 ≤ v ∧ v ≤ 90) → K (.inl (some (.int (x 190 1)))) n fl (gk_up (gk_up x 189 4 0) 190 1 v) y) ∧ (¬ (-90 ≤ v ∧ v ≤ 90) → K (.inl (some (.int 0))) n fl (gk_up (gk_up x 189 4 0) 189 4 1) y)
def L_X11_setGround : List (Nat × gk_M0) := [(52, (0, 10, 3, 0, S_X11_isBetween)), (60, (1, 10, 3, 0, S_X11_replace)), (64, (1, 10, 2, 0, S_X11_fail))]
def cs_X11_setGround : Nat → Option gk_M0 := gk_lk L_X11_setGround
theorem m_X11_setGround : ∀ (as : List Value) (n : Nat) (fl : gk_F) (x : gk_X) (y : gk_Y) (K : gk_K), S_X11_setGround as n fl x y K → (gk_L0 as).length ≤ 2 ∧ ∀ V : gk_V, gk_W cX11_setGround pX11 cs_X11_setGround (fun _ _ => none) (some .int) 0 none K V → V 0 (gk_en as 2) [] n fl x y 0 := by
  intro as n fl x y K hS
  obtain ⟨v, rfl, ⟨rfl, rfl⟩, q0, q1⟩ := hS
  refine ⟨Nat.le_of_ble_eq_true rfl, fun V w => ?_⟩
  show V 0 [some (.ref 189), some (.int v)] [] 202 gk_fT x y 0
  refine s_aload_n (pc2 := 1) w dX11_setGround_0 rfl rfl ?_
  refine s_iconst (pc2 := 2) (v := 0) w dX11_setGround_1 rfl rfl ?_
  refine m_putI (pc2 := 5) (ci := 10) (k := 4) w dX11_setGround_2 rfl rfl rfl rfl rfl (by intro h; cases h) ?_
  refine s_iload_n (pc2 := 6) w dX11_setGround_5 rfl rfl ?_
  refine s_bipush (pc2 := 8) (v := (-90)) w dX11_setGround_6 rfl rfl ?_
  refine s_bipush (pc2 := 10) (v := 90) w dX11_setGround_8 rfl rfl ?_
  refine r_X11_isBetween (pc2 := 13) w dX11_setGround_10 rfl rfl rfl ?_
  refine s_if_eq (pc2 := 16) (tgt := 25) w dX11_setGround_13 rfl (by decide) (fun c13 => ?_) (fun c13 => ?_)
  · refine s_aload_n (pc2 := 26) w dX11_setGround_25 rfl rfl ?_
    refine s_iconst (pc2 := 27) (v := 1) w dX11_setGround_26 rfl rfl ?_
    refine r_X11_fail (pc2 := 30) w dX11_setGround_27 rfl rfl rfl ?_
    refine s_ireturn w dX11_setGround_30 rfl rfl ?_
    rw [g_b0] at c13
    exact q1 c13
  · refine s_aload_n (pc2 := 17) w dX11_setGround_16 rfl rfl ?_
    refine s_iconst (pc2 := 18) (v := 1) w dX11_setGround_17 rfl rfl ?_
    refine s_iload_n (pc2 := 19) w dX11_setGround_18 rfl rfl ?_
    refine r_X11_replace (pc2 := 22) (a := 1) w dX11_setGround_19 rfl rfl rfl rfl (by decide) ?_
    refine s_goto (tgt := 30) w dX11_setGround_22 (by decide) ?_
    refine s_ireturn w dX11_setGround_30 rfl rfl ?_
    rw [g_b0, Classical.not_not] at c13
    exact q0 c13
theorem lk_X11_setGround {l : Launch} (hl : l.stackTraces = false) : ∀ q ∈ L_X11_setGround, (q.2.1 < 5 → gk_Lk l RX11 gk_W1 1 q.1 q.2.1 q.2.2.1 q.2.2.2.1 q.2.2.2.2.1 q.2.2.2.2.2) := (List.forall_mem_cons.mpr ⟨(fun _ => ⟨yX11_isBetween, cX11_isBetween, 3, (some .boolean), 0, _, M_X11_isBetween hl, ⟨by decide, by decide⟩, ⟨by decide, by decide, by decide +kernel⟩, ⟨(gk_wm 1334 (by decide +kernel)), (gk_wm 99 (by decide +kernel))⟩, Or.inl ⟨rfl, rfl, (gk_wm 1333 (by decide +kernel)), gk_wm 1332 (by decide +kernel)⟩⟩), (List.forall_mem_cons.mpr ⟨(fun _ => ⟨yX11_replace, cX11_replace, 4, (some .int), 0, _, M_X11_replace hl, ⟨by decide, by decide⟩, ⟨by decide, by decide, by decide +kernel⟩, ⟨(gk_wm 1338 (by decide +kernel)), (gk_wm 99 (by decide +kernel))⟩, Or.inr (Or.inr (Or.inr (Or.inl ⟨rfl, rfl, (gk_wm 1337 (by decide +kernel)), (gk_wm 31 (by decide +kernel)), gk_wm 1335 (by decide +kernel), by decide, rfl⟩)))⟩), (List.forall_mem_cons.mpr ⟨(fun _ => ⟨yX11_fail, cX11_fail, 2, (some .int), 0, _, M_X11_fail hl, ⟨by decide, by decide⟩, ⟨by decide, by decide, by decide +kernel⟩, ⟨(gk_wm 1342 (by decide +kernel)), (gk_wm 99 (by decide +kernel))⟩, Or.inr (Or.inr (Or.inr (Or.inl ⟨rfl, rfl, (gk_wm 1341 (by decide +kernel)), (gk_wm 32 (by decide +kernel)), gk_wm 1339 (by decide +kernel), by decide, rfl⟩)))⟩), (fun _ h => absurd h List.not_mem_nil)⟩)⟩)⟩)
theorem sp_X11_setGround : ∀ q ∈ L_X11_setGround, gk_Sq RX11 gk_W1 1 q := (List.forall_mem_cons.mpr ⟨⟨fun h => absurd h (by decide), fun h => absurd h (by decide), fun h => absurd h (by decide), fun h => absurd h (by decide), fun h => absurd h (by decide), fun h => absurd h (by decide)⟩, (List.forall_mem_cons.mpr ⟨⟨fun h => absurd h (by decide), fun h => absurd h (by decide), fun h => absurd h (by decide), fun h => absurd h (by decide), fun h => absurd h (by decide), fun h => absurd h (by decide)⟩, (List.forall_mem_cons.mpr ⟨⟨fun h => absurd h (by decide), fun h => absurd h (by decide), fun h => absurd h (by decide), fun h => absurd h (by decide), fun h => absurd h (by decide), fun h => absurd h (by decide)⟩, (fun _ h => absurd h List.not_mem_nil)⟩)⟩)⟩)
theorem M_X11_setGround {l : Launch} (hl : l.stackTraces = false) : gk_Mt l yX11_setGround (.code yX11_setGround cX11_setGround 2 (some .int) :: gk_W1) 1 0 S_X11_setGround := gk_meth hl gk_cw_ok (by decide +kernel) rfl m_X11_setGround pX11_ok (gk_Sp_of sp_X11_setGround) pX11_st (fun ci m S h => absurd h (by intro h; cases h)) (xf_X11 1) (fun idx kd ci mm cost S2 h h5 => lk_X11_setGround hl _ (gk_lk_mem h) h5)

end GKV

/-! THE METHODS, 41: what is emptied; the reference made anew -/
section GKV
variable {c : ByteArray} {P : gk_C} {cs : Nat → Option gk_M0} {rt : Option FieldType} {uf : Nat} {sc : Option Nat} {K : gk_K} {V : gk_V}
variable {L : List (Option Value)} {r : List Value} {n : Nat} {fl : gk_F} {x : gk_X} {y : gk_Y} {u pc pc2 : Nat}
def S_X3_put2 : gk_S := fun as n fl x y K => ∃ (j : Nat) (a : Int32) (b : Int32) (e : Int32) (d : Int32), as = [.ref j, .int a, .int b, .int e, .int d] ∧ gk_kd j = 3 ∧ (j < n) ∧ (K (.inl none) n fl (gk_up (gk_up (gk_up (gk_up x j 0 a) j 1 b) j 2 e) j 3 d) y)
theorem r_X3_put2 (w : gk_W c P cs (fun _ _ => none) rt uf sc K V) {idx : Nat} {j : Nat} {a : Int32} {b : Int32} {e : Int32} {d : Int32} (hd : decode c pc = .ok (.invokevirtual idx, 3)) (hp : pc + 3 = pc2) (hc : cs idx = some (1, 3, 5, 0, S_X3_put2)) (h8 : Nat.ble (r.map Value.category).sum 8 = true) (hk0 : gk_kd j = 3) (hp0 : j < n) (kk0 : V pc2 L r n fl (gk_up (gk_up (gk_up (gk_up x j 0 a) j 1 b) j 2 e) j 3 d) y u) : V pc L (.int d :: .int e :: .int b :: .int a :: .ref j :: r) n fl x y u :=
  g_callv w hd hp hc (as := [.ref j, .int a, .int b, .int e, .int d]) rfl h8 rfl rfl rfl (Or.inr (Or.inl ⟨Or.inl rfl, _, _, rfl, hp0, hk0⟩)) (Or.inl rfl) ⟨j, a, b, e, d, rfl, hk0, hp0, kk0⟩
def L_X3_put2 : List (Nat × gk_M0) := []
def cs_X3_put2 : Nat → Option gk_M0 := gk_lk L_X3_put2
theorem m_X3_put2 : ∀ (as : List Value) (n : Nat) (fl : gk_F) (x : gk_X) (y : gk_Y) (K : gk_K), S_X3_put2 as n fl x y K → (gk_L0 as).length ≤ 5 ∧ ∀ V : gk_V, gk_W cX3_put pX3 cs_X3_put2 (fun _ _ => none) none 0 none K V → V 0 (gk_en as 5) [] n fl x y 0 := by
  intro as n fl x y K hS
  obtain ⟨j, a, b, e, d, rfl, hk0, hp0, q0⟩ := hS
  refine ⟨Nat.le_of_ble_eq_true rfl, fun V w => ?_⟩
  show V 0 [some (.ref j), some (.int a), some (.int b), some (.int e), some (.int d)] [] n fl x y 0
  refine s_aload_n (pc2 := 1) w dX3_put_0 rfl rfl ?_
  refine s_iload_n (pc2 := 2) w dX3_put_1 rfl rfl ?_
  refine g_putI (pc2 := 5) (ci := 3) (k := 0) w dX3_put_2 rfl rfl hp0 (by first | assumption | rfl) rfl rfl (by intro h; cases h) ?_
  refine s_aload_n (pc2 := 6) w dX3_put_5 rfl rfl ?_
  refine s_iload_n (pc2 := 7) w dX3_put_6 rfl rfl ?_
  refine g_putI (pc2 := 10) (ci := 3) (k := 1) w dX3_put_7 rfl rfl hp0 (by first | assumption | rfl) rfl rfl (by intro h; cases h) ?_
  refine s_aload_n (pc2 := 11) w dX3_put_10 rfl rfl ?_
  refine s_iload_n (pc2 := 12) w dX3_put_11 rfl rfl ?_
  refine g_putI (pc2 := 15) (ci := 3) (k := 2) w dX3_put_12 rfl rfl hp0 (by first | assumption | rfl) rfl rfl (by intro h; cases h) ?_
  refine s_aload_n (pc2 := 16) w dX3_put_15 rfl rfl ?_
  refine s_iload (pc2 := 18) w dX3_put_16 rfl rfl ?_
  refine g_putI (pc2 := 21) (ci := 3) (k := 3) w dX3_put_18 rfl rfl hp0 (by first | assumption | rfl) rfl rfl (by intro h; cases h) ?_
  refine s_return w dX3_put_21 rfl ?_
  exact q0
theorem lk_X3_put2 {l : Launch} (hl : l.stackTraces = false) : ∀ q ∈ L_X3_put2, (q.2.1 < 5 → gk_Lk l RX3 gk_W1 0 q.1 q.2.1 q.2.2.1 q.2.2.2.1 q.2.2.2.2.1 q.2.2.2.2.2) := (fun _ h => absurd h List.not_mem_nil)
theorem sp_X3_put2 : ∀ q ∈ L_X3_put2, gk_Sq RX3 gk_W1 0 q := (fun _ h => absurd h List.not_mem_nil)
theorem M_X3_put2 {l : Launch} (hl : l.stackTraces = false) : gk_Mt l yX3_put (.code yX3_put cX3_put 5 none :: gk_W1) 0 0 S_X3_put2 := gk_meth hl gk_cw_ok (by decide +kernel) rfl m_X3_put2 pX3_ok (gk_Sp_of sp_X3_put2) pX3_st (fun ci m S h => absurd h (by intro h; cases h)) (xf_X3 0) (fun idx kd ci mm cost S2 h h5 => lk_X3_put2 hl _ (gk_lk_mem h) h5)

/-- an emptied scene -/
def clX (x : gk_X) (j : Nat) : gk_X := (gk_up (gk_up (gk_up (gk_up (gk_up (gk_up (gk_up (gk_up (gk_up (gk_up (gk_up (gk_up (gk_up (gk_up (gk_up x j 4 0) j 5 0) j 6 0) j 7 340) j 8 0) j 9 0) j 11 0) j 12 0) (j + 4) 0 0) (j + 4) 1 0) (j + 4) 2 100) (j + 4) 3 0) j 13 0) j 14 0) j 15 0)
def clY (y : gk_Y) (j : Nat) : gk_Y := (gk_uy y j 10 1)
def S_X4_clear : gk_S := fun as n fl x y K => ∃ (j : Nat), as = [.ref j] ∧ gk_kd j = 4 ∧ (j < n) ∧ (j + 4 < n) ∧ (gk_kd (j + 4) = 3) ∧ (fl j 3 = true) ∧ (K (.inl none) n fl (clX x j) (clY y j))
theorem r_X4_clear (w : gk_W c P cs (fun _ _ => none) rt uf sc K V) {idx : Nat} {j : Nat} (hd : decode c pc = .ok (.invokevirtual idx, 3)) (hp : pc + 3 = pc2) (hc : cs idx = some (1, 4, 1, 0, S_X4_clear)) (h8 : Nat.ble (r.map Value.category).sum 8 = true) (hk0 : gk_kd j = 4) (hp0 : j < n) (hp1 : j + 4 < n) (hp2 : gk_kd (j + 4) = 3) (hp3 : fl j 3 = true) (kk0 : V pc2 L r n fl (clX x j) (clY y j) u) : V pc L (.ref j :: r) n fl x y u :=
  g_callv w hd hp hc (as := [.ref j]) rfl h8 rfl rfl rfl (Or.inr (Or.inl ⟨Or.inl rfl, _, _, rfl, hp0, hk0⟩)) (Or.inl rfl) ⟨j, rfl, hk0, hp0, hp1, hp2, hp3, kk0⟩
def L_X4_clear : List (Nat × gk_M0) := [(69, (1, 3, 5, 0, S_X3_put2))]
def cs_X4_clear : Nat → Option gk_M0 := gk_lk L_X4_clear
theorem m_X4_clear : ∀ (as : List Value) (n : Nat) (fl : gk_F) (x : gk_X) (y : gk_Y) (K : gk_K), S_X4_clear as n fl x y K → (gk_L0 as).length ≤ 1 ∧ ∀ V : gk_V, gk_W cX4_clear pX4 cs_X4_clear (fun _ _ => none) none 0 none K V → V 0 (gk_en as 1) [] n fl x y 0 := by
  intro as n fl x y K hS
  obtain ⟨j, rfl, hk0, hp0, hp1, hp2, hp3, q0⟩ := hS
  refine ⟨Nat.le_of_ble_eq_true rfl, fun V w => ?_⟩
  show V 0 [some (.ref j)] [] n fl x y 0
  refine s_aload_n (pc2 := 1) w dX4_clear_0 rfl rfl ?_
  refine s_iconst (pc2 := 2) (v := 0) w dX4_clear_1 rfl rfl ?_
  refine g_putI (pc2 := 5) (ci := 4) (k := 4) w dX4_clear_2 rfl rfl hp0 (by first | exact hk0 | exact hp2) rfl rfl (by intro h; cases h) ?_
  refine s_aload_n (pc2 := 6) w dX4_clear_5 rfl rfl ?_
  refine s_iconst (pc2 := 7) (v := 0) w dX4_clear_6 rfl rfl ?_
  refine g_putI (pc2 := 10) (ci := 4) (k := 5) w dX4_clear_7 rfl rfl hp0 (by first | exact hk0 | exact hp2) rfl rfl (by intro h; cases h) ?_
  refine s_aload_n (pc2 := 11) w dX4_clear_10 rfl rfl ?_
  refine s_iconst (pc2 := 12) (v := 0) w dX4_clear_11 rfl rfl ?_
  refine g_putI (pc2 := 15) (ci := 4) (k := 6) w dX4_clear_12 rfl rfl hp0 (by first | exact hk0 | exact hp2) rfl rfl (by intro h; cases h) ?_
  refine s_aload_n (pc2 := 16) w dX4_clear_15 rfl rfl ?_
  refine s_sipush (pc2 := 19) (v := 340) w dX4_clear_16 rfl rfl ?_
  refine g_putI (pc2 := 22) (ci := 4) (k := 7) w dX4_clear_19 rfl rfl hp0 (by first | exact hk0 | exact hp2) rfl rfl (by intro h; cases h) ?_
  refine s_aload_n (pc2 := 23) w dX4_clear_22 rfl rfl ?_
  refine s_iconst (pc2 := 24) (v := 0) w dX4_clear_23 rfl rfl ?_
  refine g_putI (pc2 := 27) (ci := 4) (k := 8) w dX4_clear_24 rfl rfl hp0 (by first | exact hk0 | exact hp2) rfl rfl (by intro h; cases h) ?_
  refine s_aload_n (pc2 := 28) w dX4_clear_27 rfl rfl ?_
  refine s_iconst (pc2 := 29) (v := 0) w dX4_clear_28 rfl rfl ?_
  refine g_putI (pc2 := 32) (ci := 4) (k := 9) w dX4_clear_29 rfl rfl hp0 (by first | exact hk0 | exact hp2) rfl rfl (by intro h; cases h) ?_
  refine s_aload_n (pc2 := 33) w dX4_clear_32 rfl rfl ?_
  refine s_lconst (pc2 := 34) (v := 1) w dX4_clear_33 rfl rfl ?_
  refine g_putL (pc2 := 37) (ci := 4) (k := 10) w dX4_clear_34 rfl rfl hp0 (by first | exact hk0 | exact hp2) rfl rfl ?_
  refine s_aload_n (pc2 := 38) w dX4_clear_37 rfl rfl ?_
  refine s_iconst (pc2 := 39) (v := 0) w dX4_clear_38 rfl rfl ?_
  refine g_putI (pc2 := 42) (ci := 4) (k := 11) w dX4_clear_39 rfl rfl hp0 (by first | exact hk0 | exact hp2) rfl rfl (fun _ => Or.inl rfl) ?_
  refine s_aload_n (pc2 := 43) w dX4_clear_42 rfl rfl ?_
  refine s_iconst (pc2 := 44) (v := 0) w dX4_clear_43 rfl rfl ?_
  refine g_putI (pc2 := 47) (ci := 4) (k := 12) w dX4_clear_44 rfl rfl hp0 (by first | exact hk0 | exact hp2) rfl rfl (by intro h; cases h) ?_
  refine s_aload_n (pc2 := 48) w dX4_clear_47 rfl rfl ?_
  refine g_getR (pc2 := 51) (ci := 4) (k := 3) (j2 := (j + 4)) w dX4_clear_48 rfl rfl hp0 (by first | exact hk0 | exact hp2) rfl rfl hp3 rfl ?_
  refine s_iconst (pc2 := 52) (v := 0) w dX4_clear_51 rfl rfl ?_
  refine s_iconst (pc2 := 53) (v := 0) w dX4_clear_52 rfl rfl ?_
  refine s_bipush (pc2 := 55) (v := 100) w dX4_clear_53 rfl rfl ?_
  refine s_iconst (pc2 := 56) (v := 0) w dX4_clear_55 rfl rfl ?_
  refine r_X3_put2 (pc2 := 59) w dX4_clear_56 rfl rfl rfl (by first | exact hk0 | exact hp2) hp1 ?_
  refine s_aload_n (pc2 := 60) w dX4_clear_59 rfl rfl ?_
  refine s_iconst (pc2 := 61) (v := 0) w dX4_clear_60 rfl rfl ?_
  refine g_putI (pc2 := 64) (ci := 4) (k := 13) w dX4_clear_61 rfl rfl hp0 (by first | exact hk0 | exact hp2) rfl rfl (fun _ => Or.inl rfl) ?_
  refine s_aload_n (pc2 := 65) w dX4_clear_64 rfl rfl ?_
  refine s_iconst (pc2 := 66) (v := 0) w dX4_clear_65 rfl rfl ?_
  refine g_putI (pc2 := 69) (ci := 4) (k := 14) w dX4_clear_66 rfl rfl hp0 (by first | exact hk0 | exact hp2) rfl rfl (by intro h; cases h) ?_
  refine s_aload_n (pc2 := 70) w dX4_clear_69 rfl rfl ?_
  refine s_iconst (pc2 := 71) (v := 0) w dX4_clear_70 rfl rfl ?_
  refine g_putI (pc2 := 74) (ci := 4) (k := 15) w dX4_clear_71 rfl rfl hp0 (by first | exact hk0 | exact hp2) rfl rfl (fun _ => Or.inl rfl) ?_
  refine s_return w dX4_clear_74 rfl ?_
  exact q0
theorem lk_X4_clear {l : Launch} (hl : l.stackTraces = false) : ∀ q ∈ L_X4_clear, (q.2.1 < 5 → gk_Lk l RX4 gk_W1 1 q.1 q.2.1 q.2.2.1 q.2.2.2.1 q.2.2.2.2.1 q.2.2.2.2.2) := (List.forall_mem_cons.mpr ⟨(fun _ => ⟨yX3_put, cX3_put, 5, none, 0, _, M_X3_put2 hl, ⟨by decide, by decide⟩, ⟨by decide, by decide, by decide +kernel⟩, ⟨(gk_wm 223 (by decide +kernel)), (gk_wm 91 (by decide +kernel))⟩, Or.inr (Or.inr (Or.inr (Or.inl ⟨rfl, rfl, (gk_wm 221 (by decide +kernel)), (gk_wm 222 (by decide +kernel)), gk_wm 220 (by decide +kernel), by decide, rfl⟩)))⟩), (fun _ h => absurd h List.not_mem_nil)⟩)
theorem sp_X4_clear : ∀ q ∈ L_X4_clear, gk_Sq RX4 gk_W1 1 q := (List.forall_mem_cons.mpr ⟨⟨fun h => absurd h (by decide), fun h => absurd h (by decide), fun h => absurd h (by decide), fun h => absurd h (by decide), fun h => absurd h (by decide), fun h => absurd h (by decide)⟩, (fun _ h => absurd h List.not_mem_nil)⟩)
theorem M_X4_clear {l : Launch} (hl : l.stackTraces = false) : gk_Mt l yX4_clear (.code yX4_clear cX4_clear 1 none :: gk_W1) 1 0 S_X4_clear := gk_meth hl gk_cw_ok (by decide +kernel) rfl m_X4_clear pX4_ok (gk_Sp_of sp_X4_clear) pX4_st (fun ci m S h => absurd h (by intro h; cases h)) (xf_X4 1) (fun idx kd ci mm cost S2 h h5 => lk_X4_clear hl _ (gk_lk_mem h) h5)

def S_X11_clear : gk_S := fun as n fl x y K => as = [.ref 189] ∧ (189 < n) ∧ (190 < n) ∧ (fl 189 0 = true) ∧ (K (.inl none) n fl (gk_up (gk_up (gk_up (gk_up (gk_rg x 190 0 2234 (fun _ => 0)) 190 0 340) 190 3 1) 190 10 1) 190 13 100) y)
theorem r_X11_clear (w : gk_W c P cs (fun _ _ => none) rt uf sc K V) {idx : Nat}  (hd : decode c pc = .ok (.invokevirtual idx, 3)) (hp : pc + 3 = pc2) (hc : cs idx = some (1, 10, 1, 0, S_X11_clear)) (h8 : Nat.ble (r.map Value.category).sum 8 = true) (hp0 : 189 < n) (hp1 : 190 < n) (hp2 : fl 189 0 = true) (kk0 : V pc2 L r n fl (gk_up (gk_up (gk_up (gk_up (gk_rg x 190 0 2234 (fun _ => 0)) 190 0 340) 190 3 1) 190 10 1) 190 13 100) y u) : V pc L (.ref 189 :: r) n fl x y u :=
  g_callv w hd hp hc (as := [.ref 189]) rfl h8 rfl rfl rfl (Or.inr (Or.inl ⟨Or.inl rfl, _, _, rfl, hp0, rfl⟩)) (Or.inl rfl) ⟨rfl, hp0, hp1, hp2, kk0⟩
def L_X11_clear : List (Nat × gk_M0) := []
def cs_X11_clear : Nat → Option gk_M0 := gk_lk L_X11_clear
theorem m_X11_clear : ∀ (as : List Value) (n : Nat) (fl : gk_F) (x : gk_X) (y : gk_Y) (K : gk_K), S_X11_clear as n fl x y K → (gk_L0 as).length ≤ 2 ∧ ∀ V : gk_V, gk_W cX11_clear pX11 cs_X11_clear (fun _ _ => none) none 0 none K V → V 0 (gk_en as 2) [] n fl x y 0 := by
  intro as n fl x y K hS
  obtain ⟨rfl, hp0, hp1, hp2, q0⟩ := hS
  refine ⟨Nat.le_of_ble_eq_true rfl, fun V w => ?_⟩
  show V 0 [some (.ref 189), none] [] n fl x y 0
  refine s_iconst (pc2 := 1) (v := 0) w dX11_clear_0 rfl rfl ?_
  refine s_istore_n (pc2 := 2) (k2 := 1) w dX11_clear_1 rfl rfl rfl ?_
  dsimp only [gk_s1, gk_s2, gk_cl]
  have key : ∀ (k t : Nat), t + k = 2234 → V 2 [some (.ref 189), some (.int (nI t))] [] n fl (gk_rg x 190 0 t (fun _ => 0)) y 0 := by
    intro k
    induction k with
    | zero =>
      intro t  ht
      have hn : t = 2234 := by omega
      subst hn
      refine s_iload_n (pc2 := 3) w dX11_clear_2 rfl rfl ?_
      refine s_sipush (pc2 := 6) (v := 2234) w dX11_clear_3 rfl rfl ?_
      refine s_ic_ge (pc2 := 9) (tgt := 22) w dX11_clear_6 rfl (by decide) (fun _ => ?_) (fun h0 => absurd (by rw [gI_nI, show (2234 : Int32) = gI 2234 from rfl, gI_le ⟨by omega, by omega⟩ ⟨by omega, by omega⟩]; omega) h0)
      refine s_aload_n (pc2 := 23) w dX11_clear_22 rfl rfl ?_
      refine g_getR (pc2 := 26) (ci := 10) (k := 0) (j2 := 190) w dX11_clear_23 rfl rfl hp0 rfl rfl rfl hp2 rfl ?_
      refine s_iconst (pc2 := 27) (v := 0) w dX11_clear_26 rfl rfl ?_
      refine s_sipush (pc2 := 30) (v := 340) w dX11_clear_27 rfl rfl ?_
      refine g_iastoreN (pc2 := 31) (t := 0) (N := 2234) w dX11_clear_30 rfl rfl rfl hp1 rfl (by decide) rfl ?_
      refine s_aload_n (pc2 := 32) w dX11_clear_31 rfl rfl ?_
      refine g_getR (pc2 := 35) (ci := 10) (k := 0) (j2 := 190) w dX11_clear_32 rfl rfl hp0 rfl rfl rfl hp2 rfl ?_
      refine s_iconst (pc2 := 36) (v := 3) w dX11_clear_35 rfl rfl ?_
      refine s_iconst (pc2 := 37) (v := 1) w dX11_clear_36 rfl rfl ?_
      refine g_iastoreN (pc2 := 38) (t := 3) (N := 2234) w dX11_clear_37 rfl rfl rfl hp1 rfl (by decide) rfl ?_
      refine s_aload_n (pc2 := 39) w dX11_clear_38 rfl rfl ?_
      refine g_getR (pc2 := 42) (ci := 10) (k := 0) (j2 := 190) w dX11_clear_39 rfl rfl hp0 rfl rfl rfl hp2 rfl ?_
      refine s_bipush (pc2 := 44) (v := 10) w dX11_clear_42 rfl rfl ?_
      refine s_iconst (pc2 := 45) (v := 1) w dX11_clear_44 rfl rfl ?_
      refine g_iastoreN (pc2 := 46) (t := 10) (N := 2234) w dX11_clear_45 rfl rfl rfl hp1 rfl (by decide) rfl ?_
      refine s_aload_n (pc2 := 47) w dX11_clear_46 rfl rfl ?_
      refine g_getR (pc2 := 50) (ci := 10) (k := 0) (j2 := 190) w dX11_clear_47 rfl rfl hp0 rfl rfl rfl hp2 rfl ?_
      refine s_bipush (pc2 := 52) (v := 13) w dX11_clear_50 rfl rfl ?_
      refine s_bipush (pc2 := 54) (v := 100) w dX11_clear_52 rfl rfl ?_
      refine g_iastoreN (pc2 := 55) (t := 13) (N := 2234) w dX11_clear_54 rfl rfl rfl hp1 rfl (by decide) rfl ?_
      refine s_return w dX11_clear_55 rfl ?_
      exact q0
    | succ k ih =>
      intro t  ht
      refine s_iload_n (pc2 := 3) w dX11_clear_2 rfl rfl ?_
      refine s_sipush (pc2 := 6) (v := 2234) w dX11_clear_3 rfl rfl ?_
      refine s_ic_ge (pc2 := 9) (tgt := 22) w dX11_clear_6 rfl (by decide) (fun h0 => absurd h0 (by rw [gI_nI, show (2234 : Int32) = gI 2234 from rfl, gI_le ⟨by omega, by omega⟩ ⟨by omega, by omega⟩]; omega)) (fun _ => ?_)
      refine s_aload_n (pc2 := 10) w dX11_clear_9 rfl rfl ?_
      refine g_getR (pc2 := 13) (ci := 10) (k := 0) (j2 := 190) w dX11_clear_10 rfl rfl hp0 rfl rfl rfl hp2 rfl ?_
      refine s_iload_n (pc2 := 14) w dX11_clear_13 rfl rfl ?_
      refine s_iconst (pc2 := 15) (v := 0) w dX11_clear_14 rfl rfl ?_
      refine g_iastoreN (pc2 := 16) (t := 0 + t) (N := 2234) w dX11_clear_15 rfl rfl rfl hp1 (by rw [Nat.zero_add]) (by omega) rfl ?_
      refine s_iinc (pc2 := 19) w dX11_clear_16 rfl rfl rfl rfl ?_
      dsimp only [gk_s1, gk_s2, gk_cl]
      rw [nI_s]
      refine s_goto (tgt := 2) w dX11_clear_19 (by decide) ?_
      have h := ih (t + 1) (by omega)
      rw [← gk_rg_s] at h
      exact h
  have h := key 2234 0 (by omega)
  rw [gk_rg_0] at h
  exact h
theorem lk_X11_clear {l : Launch} (hl : l.stackTraces = false) : ∀ q ∈ L_X11_clear, (q.2.1 < 5 → gk_Lk l RX11 gk_W1 0 q.1 q.2.1 q.2.2.1 q.2.2.2.1 q.2.2.2.2.1 q.2.2.2.2.2) := (fun _ h => absurd h List.not_mem_nil)
theorem sp_X11_clear : ∀ q ∈ L_X11_clear, gk_Sq RX11 gk_W1 0 q := (fun _ h => absurd h List.not_mem_nil)
theorem M_X11_clear {l : Launch} (hl : l.stackTraces = false) : gk_Mt l yX11_clear (.code yX11_clear cX11_clear 2 none :: gk_W1) 0 0 S_X11_clear := gk_meth hl gk_cw_ok (by decide +kernel) rfl m_X11_clear pX11_ok (gk_Sp_of sp_X11_clear) pX11_st (fun ci m S h => absurd h (by intro h; cases h)) (xf_X11 0) (fun idx kd ci mm cost S2 h h5 => lk_X11_clear hl _ (gk_lk_mem h) h5)

end GKV

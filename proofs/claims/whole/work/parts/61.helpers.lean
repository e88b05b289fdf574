/-! THE LAW'S HELPERS: a question asked of the class -/
section GKV
variable {c : ByteArray} {P : gk_C} {cs : Nat → Option gk_M0} {rt : Option FieldType} {uf : Nat} {sc : Option Nat} {K : gk_K} {V : gk_V}
variable {L : List (Option Value)} {r : List Value} {n : Nat} {fl : gk_F} {x : gk_X} {y : gk_Y} {u pc pc2 : Nat}
def S_L_setSound : gk_S := fun as n fl x y K => ∃ (v : Int32) (g : Nat → Int32), as = [.ref 0, .int v, .ref 200] ∧ (n = 202 ∧ fl = gk_fT) ∧ (RS 1 g x y) ∧ (gOK g) ∧ ((100 ≤ v ∧ v ≤ 1000) → ∀ (x2 : gk_X) (y2 : gk_Y), COk (gU g 0 v) x x2 y y2 → K (.inl (some (.int 0))) n fl x2 (gk_uy y2 200 0 ((g 0)).toInt64)) ∧ (¬ (100 ≤ v ∧ v ≤ 1000) → ∀ (x2 : gk_X) (y2 : gk_Y), COk g x x2 y y2 → K (.inl (some (.int 1))) n fl x2 y2)
theorem r_L_setSound (w : gk_W c P cs (fun _ _ => none) rt uf sc K V) {idx : Nat} {v : Int32} {g : Nat → Int32} (hd : decode c pc = .ok (.invokestatic idx, 3)) (hp : pc + 3 = pc2) (hc : cs idx = some (0, 0, 3, 1, S_L_setSound)) (h8 : Nat.ble (r.map Value.category).sum 8 = true) (hu : u + 1 ≤ uf) (hp0 : RS 1 g x y) (hp1 : gOK g) (kk0 : (100 ≤ v ∧ v ≤ 1000) → ∀ (x2 : gk_X) (y2 : gk_Y), COk (gU g 0 v) x x2 y y2 → V pc2 L ((.int 0) :: r) 202 gk_fT x2 (gk_uy y2 200 0 ((g 0)).toInt64) (u + 1)) (kk1 : ¬ (100 ≤ v ∧ v ≤ 1000) → ∀ (x2 : gk_X) (y2 : gk_Y), COk g x x2 y y2 → V pc2 L ((.int 1) :: r) 202 gk_fT x2 y2 (u + 1)) : V pc L (.ref 200 :: .int v :: .ref 0 :: r) 202 gk_fT x y u :=
  g_calls w hd hp hc (as := [.ref 0, .int v, .ref 200]) rfl h8 rfl rfl rfl (Or.inl rfl) (Or.inr hu) ⟨v, g, rfl, ⟨rfl, rfl⟩, hp0, hp1, kk0, kk1⟩
theorem nt_L_setSound : gk_nt S_L_setSound := fun _ _ _ _ _ _ ⟨v, g, e0, e1, e2, e3, e4, e5⟩ => ⟨v, g, e0, e1, e2, e3, e4, e5⟩
def H_L_setSound : List gk_H := [(0, 9, 12, 13, 0, 13, 3)]
def L_L_setSound : List (Nat × gk_M0) := [(7, (1, 9, 2, 1, S_X10_setSound))]
def cs_L_setSound : Nat → Option gk_M0 := gk_lk L_L_setSound
theorem m_L_setSound : ∀ (as : List Value) (n : Nat) (fl : gk_F) (x : gk_X) (y : gk_Y) (K : gk_K), S_L_setSound as n fl x y K → (gk_L0 as).length ≤ 4 ∧ ∀ V : gk_V, gk_W cL_setSound pL cs_L_setSound (gk_fh H_L_setSound) (some .int) 1 none K V → V 0 (gk_en as 4) [] n fl x y 0 := by
  intro as n fl x y K hS
  obtain ⟨v, g, rfl, ⟨rfl, rfl⟩, hp0, hp1, q0, q1⟩ := hS
  refine ⟨Nat.le_of_ble_eq_true rfl, fun V w => ?_⟩
  show V 0 [some (.ref 0), some (.int v), some (.ref 200), none] [] 202 gk_fT x y 0
  refine s_aload_n (pc2 := 1) w dL_setSound_0 rfl rfl ?_
  refine s_iconst (pc2 := 2) (v := 0) w dL_setSound_1 rfl rfl ?_
  refine s_aload_n (pc2 := 3) w dL_setSound_2 rfl rfl ?_
  refine s_iload_n (pc2 := 4) w dL_setSound_3 rfl rfl ?_
  refine g_callv (pc2 := 7) (r := [.int 0, .ref 200]) w dL_setSound_4 rfl rfl (as := [.ref 0, .int v]) rfl rfl rfl rfl rfl (Or.inr (Or.inl ⟨Or.inl rfl, _, _, rfl, (gk_kd_j rfl rfl), rfl⟩)) (Or.inr (Nat.le_of_ble_eq_true rfl)) ⟨v, g, rfl, ⟨rfl, rfl⟩, hp0, hp1, ?_, ?_⟩
  · intro b0 x2 y2 b1
    show V 7 [some (.ref 0), some (.int v), some (.ref 200), none] [(.int (g 0)), .int 0, .ref 200] 202 gk_fT x2 y2 (0 + 1)
    refine s_i2l (pc2 := 8) w dL_setSound_7 rfl ?_
    refine m_lastoreN (pc2 := 9) (t := 0) (N := 1) w dL_setSound_8 rfl rfl rfl rfl (by decide) rfl ?_
    refine s_goto (tgt := 15) w dL_setSound_9 (by decide) ?_
    refine s_iconst (pc2 := 16) (v := 0) w dL_setSound_15 rfl rfl ?_
    refine s_ireturn w dL_setSound_16 rfl rfl ?_
    exact q0 b0 x2 y2 b1
  · intro b0 x2 y2 b1
    show V 13 [some (.ref 0), some (.int v), some (.ref 200), none] [] 202 gk_fT x2 y2 (0 + 1)
    refine s_iconst (pc2 := 14) (v := 1) w dL_setSound_13 rfl rfl ?_
    refine s_ireturn w dL_setSound_14 rfl rfl ?_
    exact q1 b0 x2 y2 b1
theorem lk_L_setSound {l : Launch} (hl : l.stackTraces = false) : ∀ q ∈ L_L_setSound, (q.2.1 < 5 → gk_Lk l RL gk_W1 8 q.1 q.2.1 q.2.2.1 q.2.2.2.1 q.2.2.2.2.1 q.2.2.2.2.2) := (List.forall_mem_cons.mpr ⟨(fun _ => ⟨yX10_setSound, cX10_setSound, 3, (some .int), 7, _, M_X10_setSound hl, ⟨by decide, by decide⟩, ⟨by decide, by decide, by decide +kernel⟩, ⟨(gk_wm 730 (by decide +kernel)), (gk_wm 89 (by decide +kernel))⟩, Or.inr (Or.inr (Or.inr (Or.inl ⟨rfl, rfl, (gk_wm 728 (by decide +kernel)), (gk_wm 729 (by decide +kernel)), gk_wm 727 (by decide +kernel), by decide, rfl⟩)))⟩), (fun _ h => absurd h List.not_mem_nil)⟩)
theorem sp_L_setSound : ∀ q ∈ L_L_setSound, gk_Sq RL gk_W1 8 q := (List.forall_mem_cons.mpr ⟨⟨fun h => absurd h (by decide), fun h => absurd h (by decide), fun h => absurd h (by decide), fun h => absurd h (by decide), fun h => absurd h (by decide), fun h => absurd h (by decide)⟩, (fun _ h => absurd h List.not_mem_nil)⟩)
theorem ho_L_setSound : ∀ z ∈ H_L_setSound, gk_Hok RL cL_setSound 4 z := (List.forall_mem_cons.mpr ⟨⟨by decide, by decide, gk_wm 726 (by decide +kernel), by decide, Or.inr ⟨3, dL_setSound_12, rfl, rfl⟩⟩, (fun _ h => absurd h List.not_mem_nil)⟩)
theorem M_L_setSound {l : Launch} (hl : l.stackTraces = false) : gk_Mt l yL_setSound (.codeWith yL_setSound cL_setSound 4 (some .int) (H_L_setSound.map gk_hr) :: gk_W1) 8 1 S_L_setSound := gk_methH gk_cw_ok H_L_setSound (by decide +kernel) rfl nt_L_setSound m_L_setSound pL_ok (gk_Sp_of sp_L_setSound) pL_st (fun ci m S h => absurd h (by intro h; cases h)) hno_L ho_L_setSound (fun idx kd ci mm cost S2 h h5 => lk_L_setSound hl _ (gk_lk_mem h) h5)

def S_L_setGround : gk_S := fun as n fl x y K => ∃ (v : Int32) (g : Nat → Int32), as = [.ref 0, .int v, .ref 200] ∧ (n = 202 ∧ fl = gk_fT) ∧ (RS 1 g x y) ∧ (gOK g) ∧ ((-90 ≤ v ∧ v ≤ 90) → ∀ (x2 : gk_X) (y2 : gk_Y), COk (gU g 1 v) x x2 y y2 → K (.inl (some (.int 0))) n fl x2 (gk_uy y2 200 0 ((g 1)).toInt64)) ∧ (¬ (-90 ≤ v ∧ v ≤ 90) → ∀ (x2 : gk_X) (y2 : gk_Y), COk g x x2 y y2 → K (.inl (some (.int 1))) n fl x2 y2)
theorem r_L_setGround (w : gk_W c P cs (fun _ _ => none) rt uf sc K V) {idx : Nat} {v : Int32} {g : Nat → Int32} (hd : decode c pc = .ok (.invokestatic idx, 3)) (hp : pc + 3 = pc2) (hc : cs idx = some (0, 0, 3, 1, S_L_setGround)) (h8 : Nat.ble (r.map Value.category).sum 8 = true) (hu : u + 1 ≤ uf) (hp0 : RS 1 g x y) (hp1 : gOK g) (kk0 : (-90 ≤ v ∧ v ≤ 90) → ∀ (x2 : gk_X) (y2 : gk_Y), COk (gU g 1 v) x x2 y y2 → V pc2 L ((.int 0) :: r) 202 gk_fT x2 (gk_uy y2 200 0 ((g 1)).toInt64) (u + 1)) (kk1 : ¬ (-90 ≤ v ∧ v ≤ 90) → ∀ (x2 : gk_X) (y2 : gk_Y), COk g x x2 y y2 → V pc2 L ((.int 1) :: r) 202 gk_fT x2 y2 (u + 1)) : V pc L (.ref 200 :: .int v :: .ref 0 :: r) 202 gk_fT x y u :=
  g_calls w hd hp hc (as := [.ref 0, .int v, .ref 200]) rfl h8 rfl rfl rfl (Or.inl rfl) (Or.inr hu) ⟨v, g, rfl, ⟨rfl, rfl⟩, hp0, hp1, kk0, kk1⟩
theorem nt_L_setGround : gk_nt S_L_setGround := fun _ _ _ _ _ _ ⟨v, g, e0, e1, e2, e3, e4, e5⟩ => ⟨v, g, e0, e1, e2, e3, e4, e5⟩
def H_L_setGround : List gk_H := [(0, 9, 12, 13, 0, 13, 3)]
def L_L_setGround : List (Nat × gk_M0) := [(15, (1, 9, 2, 1, S_X10_setGround))]
def cs_L_setGround : Nat → Option gk_M0 := gk_lk L_L_setGround
theorem m_L_setGround : ∀ (as : List Value) (n : Nat) (fl : gk_F) (x : gk_X) (y : gk_Y) (K : gk_K), S_L_setGround as n fl x y K → (gk_L0 as).length ≤ 4 ∧ ∀ V : gk_V, gk_W cL_setGround pL cs_L_setGround (gk_fh H_L_setGround) (some .int) 1 none K V → V 0 (gk_en as 4) [] n fl x y 0 := by
  intro as n fl x y K hS
  obtain ⟨v, g, rfl, ⟨rfl, rfl⟩, hp0, hp1, q0, q1⟩ := hS
  refine ⟨Nat.le_of_ble_eq_true rfl, fun V w => ?_⟩
  show V 0 [some (.ref 0), some (.int v), some (.ref 200), none] [] 202 gk_fT x y 0
  refine s_aload_n (pc2 := 1) w dL_setGround_0 rfl rfl ?_
  refine s_iconst (pc2 := 2) (v := 0) w dL_setGround_1 rfl rfl ?_
  refine s_aload_n (pc2 := 3) w dL_setGround_2 rfl rfl ?_
  refine s_iload_n (pc2 := 4) w dL_setGround_3 rfl rfl ?_
  refine g_callv (pc2 := 7) (r := [.int 0, .ref 200]) w dL_setGround_4 rfl rfl (as := [.ref 0, .int v]) rfl rfl rfl rfl rfl (Or.inr (Or.inl ⟨Or.inl rfl, _, _, rfl, (gk_kd_j rfl rfl), rfl⟩)) (Or.inr (Nat.le_of_ble_eq_true rfl)) ⟨v, g, rfl, ⟨rfl, rfl⟩, hp0, hp1, ?_, ?_⟩
  · intro b0 x2 y2 b1
    show V 7 [some (.ref 0), some (.int v), some (.ref 200), none] [(.int (g 1)), .int 0, .ref 200] 202 gk_fT x2 y2 (0 + 1)
    refine s_i2l (pc2 := 8) w dL_setGround_7 rfl ?_
    refine m_lastoreN (pc2 := 9) (t := 0) (N := 1) w dL_setGround_8 rfl rfl rfl rfl (by decide) rfl ?_
    refine s_goto (tgt := 15) w dL_setGround_9 (by decide) ?_
    refine s_iconst (pc2 := 16) (v := 0) w dL_setGround_15 rfl rfl ?_
    refine s_ireturn w dL_setGround_16 rfl rfl ?_
    exact q0 b0 x2 y2 b1
  · intro b0 x2 y2 b1
    show V 13 [some (.ref 0), some (.int v), some (.ref 200), none] [] 202 gk_fT x2 y2 (0 + 1)
    refine s_iconst (pc2 := 14) (v := 1) w dL_setGround_13 rfl rfl ?_
    refine s_ireturn w dL_setGround_14 rfl rfl ?_
    exact q1 b0 x2 y2 b1
theorem lk_L_setGround {l : Launch} (hl : l.stackTraces = false) : ∀ q ∈ L_L_setGround, (q.2.1 < 5 → gk_Lk l RL gk_W1 8 q.1 q.2.1 q.2.2.1 q.2.2.2.1 q.2.2.2.2.1 q.2.2.2.2.2) := (List.forall_mem_cons.mpr ⟨(fun _ => ⟨yX10_setGround, cX10_setGround, 3, (some .int), 7, _, M_X10_setGround hl, ⟨by decide, by decide⟩, ⟨by decide, by decide, by decide +kernel⟩, ⟨(gk_wm 807 (by decide +kernel)), (gk_wm 89 (by decide +kernel))⟩, Or.inr (Or.inr (Or.inr (Or.inl ⟨rfl, rfl, (gk_wm 805 (by decide +kernel)), (gk_wm 806 (by decide +kernel)), gk_wm 804 (by decide +kernel), by decide, rfl⟩)))⟩), (fun _ h => absurd h List.not_mem_nil)⟩)
theorem sp_L_setGround : ∀ q ∈ L_L_setGround, gk_Sq RL gk_W1 8 q := (List.forall_mem_cons.mpr ⟨⟨fun h => absurd h (by decide), fun h => absurd h (by decide), fun h => absurd h (by decide), fun h => absurd h (by decide), fun h => absurd h (by decide), fun h => absurd h (by decide)⟩, (fun _ h => absurd h List.not_mem_nil)⟩)
theorem ho_L_setGround : ∀ z ∈ H_L_setGround, gk_Hok RL cL_setGround 4 z := (List.forall_mem_cons.mpr ⟨⟨by decide, by decide, gk_wm 726 (by decide +kernel), by decide, Or.inr ⟨3, dL_setGround_12, rfl, rfl⟩⟩, (fun _ h => absurd h List.not_mem_nil)⟩)
theorem M_L_setGround {l : Launch} (hl : l.stackTraces = false) : gk_Mt l yL_setGround (.codeWith yL_setGround cL_setGround 4 (some .int) (H_L_setGround.map gk_hr) :: gk_W1) 8 1 S_L_setGround := gk_methH gk_cw_ok H_L_setGround (by decide +kernel) rfl nt_L_setGround m_L_setGround pL_ok (gk_Sp_of sp_L_setGround) pL_st (fun ci m S h => absurd h (by intro h; cases h)) hno_L ho_L_setGround (fun idx kd ci mm cost S2 h h5 => lk_L_setGround hl _ (gk_lk_mem h) h5)

def S_L_setNoise : gk_S := fun as n fl x y K => ∃ (a : Int32) (b : Int32) (g : Nat → Int32), as = [.ref 0, .int a, .int b] ∧ (n = 202 ∧ fl = gk_fT) ∧ (RS 1 g x y) ∧ (gOK g) ∧ (((0 ≤ a) ∧ (0 ≤ b ∧ b ≤ 99)) → ∀ (x2 : gk_X) (y2 : gk_Y), COk (gU (gU g 3 a) 4 b) x x2 y y2 → K (.inl (some (.int 0))) n fl x2 y2) ∧ (¬ ((0 ≤ a) ∧ (0 ≤ b ∧ b ≤ 99)) → ∀ (x2 : gk_X) (y2 : gk_Y), COk g x x2 y y2 → K (.inl (some (.int 1))) n fl x2 y2)
theorem r_L_setNoise (w : gk_W c P cs (fun _ _ => none) rt uf sc K V) {idx : Nat} {a : Int32} {b : Int32} {g : Nat → Int32} (hd : decode c pc = .ok (.invokestatic idx, 3)) (hp : pc + 3 = pc2) (hc : cs idx = some (0, 0, 3, 2, S_L_setNoise)) (h8 : Nat.ble (r.map Value.category).sum 8 = true) (hu : u + 2 ≤ uf) (hp0 : RS 1 g x y) (hp1 : gOK g) (kk0 : ((0 ≤ a) ∧ (0 ≤ b ∧ b ≤ 99)) → ∀ (x2 : gk_X) (y2 : gk_Y), COk (gU (gU g 3 a) 4 b) x x2 y y2 → V pc2 L ((.int 0) :: r) 202 gk_fT x2 y2 (u + 2)) (kk1 : ¬ ((0 ≤ a) ∧ (0 ≤ b ∧ b ≤ 99)) → ∀ (x2 : gk_X) (y2 : gk_Y), COk g x x2 y y2 → V pc2 L ((.int 1) :: r) 202 gk_fT x2 y2 (u + 2)) : V pc L (.int b :: .int a :: .ref 0 :: r) 202 gk_fT x y u :=
  g_calls w hd hp hc (as := [.ref 0, .int a, .int b]) rfl h8 rfl rfl rfl (Or.inl rfl) (Or.inr hu) ⟨a, b, g, rfl, ⟨rfl, rfl⟩, hp0, hp1, kk0, kk1⟩
theorem nt_L_setNoise : gk_nt S_L_setNoise := fun _ _ _ _ _ _ ⟨a, b, g, e0, e1, e2, e3, e4, e5⟩ => ⟨a, b, g, e0, e1, e2, e3, e4, e5⟩
def H_L_setNoise : List gk_H := [(0, 6, 9, 13, 0, 10, 3)]
def L_L_setNoise : List (Nat × gk_M0) := [(18, (1, 9, 3, 2, S_X10_setNoise))]
def cs_L_setNoise : Nat → Option gk_M0 := gk_lk L_L_setNoise
theorem m_L_setNoise : ∀ (as : List Value) (n : Nat) (fl : gk_F) (x : gk_X) (y : gk_Y) (K : gk_K), S_L_setNoise as n fl x y K → (gk_L0 as).length ≤ 4 ∧ ∀ V : gk_V, gk_W cL_setNoise pL cs_L_setNoise (gk_fh H_L_setNoise) (some .int) 2 none K V → V 0 (gk_en as 4) [] n fl x y 0 := by
  intro as n fl x y K hS
  obtain ⟨a, b, g, rfl, ⟨rfl, rfl⟩, hp0, hp1, q0, q1⟩ := hS
  refine ⟨Nat.le_of_ble_eq_true rfl, fun V w => ?_⟩
  show V 0 [some (.ref 0), some (.int a), some (.int b), none] [] 202 gk_fT x y 0
  refine s_aload_n (pc2 := 1) w dL_setNoise_0 rfl rfl ?_
  refine s_iload_n (pc2 := 2) w dL_setNoise_1 rfl rfl ?_
  refine s_iload_n (pc2 := 3) w dL_setNoise_2 rfl rfl ?_
  refine g_callv (pc2 := 6) (r := []) w dL_setNoise_3 rfl rfl (as := [.ref 0, .int a, .int b]) rfl rfl rfl rfl rfl (Or.inr (Or.inl ⟨Or.inl rfl, _, _, rfl, (gk_kd_j rfl rfl), rfl⟩)) (Or.inr (Nat.le_of_ble_eq_true rfl)) ⟨a, b, g, rfl, ⟨rfl, rfl⟩, hp0, hp1, ?_, ?_⟩
  · intro b0 x2 y2 b1
    show V 6 [some (.ref 0), some (.int a), some (.int b), none] [] 202 gk_fT x2 y2 (0 + 2)
    refine s_goto (tgt := 12) w dL_setNoise_6 (by decide) ?_
    refine s_iconst (pc2 := 13) (v := 0) w dL_setNoise_12 rfl rfl ?_
    refine s_ireturn w dL_setNoise_13 rfl rfl ?_
    exact q0 b0 x2 y2 b1
  · intro b0 x2 y2 b1
    show V 10 [some (.ref 0), some (.int a), some (.int b), none] [] 202 gk_fT x2 y2 (0 + 2)
    refine s_iconst (pc2 := 11) (v := 1) w dL_setNoise_10 rfl rfl ?_
    refine s_ireturn w dL_setNoise_11 rfl rfl ?_
    exact q1 b0 x2 y2 b1
theorem lk_L_setNoise {l : Launch} (hl : l.stackTraces = false) : ∀ q ∈ L_L_setNoise, (q.2.1 < 5 → gk_Lk l RL gk_W1 8 q.1 q.2.1 q.2.2.1 q.2.2.2.1 q.2.2.2.2.1 q.2.2.2.2.2) := (List.forall_mem_cons.mpr ⟨(fun _ => ⟨yX10_setNoise, cX10_setNoise, 3, none, 7, _, M_X10_setNoise hl, ⟨by decide, by decide⟩, ⟨by decide, by decide, by decide +kernel⟩, ⟨(gk_wm 814 (by decide +kernel)), (gk_wm 89 (by decide +kernel))⟩, Or.inr (Or.inr (Or.inr (Or.inl ⟨rfl, rfl, (gk_wm 812 (by decide +kernel)), (gk_wm 813 (by decide +kernel)), gk_wm 811 (by decide +kernel), by decide, rfl⟩)))⟩), (fun _ h => absurd h List.not_mem_nil)⟩)
theorem sp_L_setNoise : ∀ q ∈ L_L_setNoise, gk_Sq RL gk_W1 8 q := (List.forall_mem_cons.mpr ⟨⟨fun h => absurd h (by decide), fun h => absurd h (by decide), fun h => absurd h (by decide), fun h => absurd h (by decide), fun h => absurd h (by decide), fun h => absurd h (by decide)⟩, (fun _ h => absurd h List.not_mem_nil)⟩)
theorem ho_L_setNoise : ∀ z ∈ H_L_setNoise, gk_Hok RL cL_setNoise 4 z := (List.forall_mem_cons.mpr ⟨⟨by decide, by decide, gk_wm 726 (by decide +kernel), by decide, Or.inr ⟨3, dL_setNoise_9, rfl, rfl⟩⟩, (fun _ h => absurd h List.not_mem_nil)⟩)
theorem M_L_setNoise {l : Launch} (hl : l.stackTraces = false) : gk_Mt l yL_setNoise (.codeWith yL_setNoise cL_setNoise 4 (some .int) (H_L_setNoise.map gk_hr) :: gk_W1) 8 2 S_L_setNoise := gk_methH gk_cw_ok H_L_setNoise (by decide +kernel) rfl nt_L_setNoise m_L_setNoise pL_ok (gk_Sp_of sp_L_setNoise) pL_st (fun ci m S h => absurd h (by intro h; cases h)) hno_L ho_L_setNoise (fun idx kd ci mm cost S2 h h5 => lk_L_setNoise hl _ (gk_lk_mem h) h5)

def S_L_addVehicle : gk_S := fun as n fl x y K => ∃ (a : Int32) (b : Int32) (e : Int32) (g : Nat → Int32), as = [.ref 0, .int a, .int b, .int e, .ref 200] ∧ (n = 202 ∧ fl = gk_fT) ∧ (RS 1 g x y) ∧ (gOK g) ∧ (((-20000 ≤ a ∧ a ≤ 20000) ∧ (-50 ≤ b ∧ b ≤ 50) ∧ (100 ≤ e ∧ e ≤ 5000)) → (¬ g 6 = 4) → ∀ (x2 : gk_X) (y2 : gk_Y), COk (gAV g (nV g) a b e) x x2 y y2 → K (.inl (some (.int 0))) n fl x2 (gk_uy y2 200 0 ((g 6)).toInt64)) ∧ (¬ ((-20000 ≤ a ∧ a ≤ 20000) ∧ (-50 ≤ b ∧ b ≤ 50) ∧ (100 ≤ e ∧ e ≤ 5000)) → ∀ (x2 : gk_X) (y2 : gk_Y), COk g x x2 y y2 → K (.inl (some (.int 1))) n fl x2 y2) ∧ (((-20000 ≤ a ∧ a ≤ 20000) ∧ (-50 ≤ b ∧ b ≤ 50) ∧ (100 ≤ e ∧ e ≤ 5000)) → ¬ (¬ g 6 = 4) → ∀ (x2 : gk_X) (y2 : gk_Y), COk g x x2 y y2 → K (.inl (some (.int 2))) n fl x2 y2)
theorem r_L_addVehicle (w : gk_W c P cs (fun _ _ => none) rt uf sc K V) {idx : Nat} {a : Int32} {b : Int32} {e : Int32} {g : Nat → Int32} (hd : decode c pc = .ok (.invokestatic idx, 3)) (hp : pc + 3 = pc2) (hc : cs idx = some (0, 0, 5, 4, S_L_addVehicle)) (h8 : Nat.ble (r.map Value.category).sum 8 = true) (hu : u + 4 ≤ uf) (hp0 : RS 1 g x y) (hp1 : gOK g) (kk0 : ((-20000 ≤ a ∧ a ≤ 20000) ∧ (-50 ≤ b ∧ b ≤ 50) ∧ (100 ≤ e ∧ e ≤ 5000)) → (¬ g 6 = 4) → ∀ (x2 : gk_X) (y2 : gk_Y), COk (gAV g (nV g) a b e) x x2 y y2 → V pc2 L ((.int 0) :: r) 202 gk_fT x2 (gk_uy y2 200 0 ((g 6)).toInt64) (u + 4)) (kk1 : ¬ ((-20000 ≤ a ∧ a ≤ 20000) ∧ (-50 ≤ b ∧ b ≤ 50) ∧ (100 ≤ e ∧ e ≤ 5000)) → ∀ (x2 : gk_X) (y2 : gk_Y), COk g x x2 y y2 → V pc2 L ((.int 1) :: r) 202 gk_fT x2 y2 (u + 4)) (kk2 : ((-20000 ≤ a ∧ a ≤ 20000) ∧ (-50 ≤ b ∧ b ≤ 50) ∧ (100 ≤ e ∧ e ≤ 5000)) → ¬ (¬ g 6 = 4) → ∀ (x2 : gk_X) (y2 : gk_Y), COk g x x2 y y2 → V pc2 L ((.int 2) :: r) 202 gk_fT x2 y2 (u + 4)) : V pc L (.ref 200 :: .int e :: .int b :: .int a :: .ref 0 :: r) 202 gk_fT x y u :=
  g_calls w hd hp hc (as := [.ref 0, .int a, .int b, .int e, .ref 200]) rfl h8 rfl rfl rfl (Or.inl rfl) (Or.inr hu) ⟨a, b, e, g, rfl, ⟨rfl, rfl⟩, hp0, hp1, kk0, kk1, kk2⟩
theorem nt_L_addVehicle : gk_nt S_L_addVehicle := fun _ _ _ _ _ _ ⟨a, b, e, g, e0, e1, e2, e3, e4, e5, e6⟩ => ⟨a, b, e, g, e0, e1, e2, e3, e4, e5, e6⟩
def H_L_addVehicle : List gk_H := [(0, 12, 15, 13, 0, 17, 5), (0, 12, 19, 26, 1, 21, 5)]
def L_L_addVehicle : List (Nat × gk_M0) := [(22, (1, 9, 4, 4, S_X10_addVehicle))]
def cs_L_addVehicle : Nat → Option gk_M0 := gk_lk L_L_addVehicle
theorem m_L_addVehicle : ∀ (as : List Value) (n : Nat) (fl : gk_F) (x : gk_X) (y : gk_Y) (K : gk_K), S_L_addVehicle as n fl x y K → (gk_L0 as).length ≤ 6 ∧ ∀ V : gk_V, gk_W cL_addVehicle pL cs_L_addVehicle (gk_fh H_L_addVehicle) (some .int) 4 none K V → V 0 (gk_en as 6) [] n fl x y 0 := by
  intro as n fl x y K hS
  obtain ⟨a, b, e, g, rfl, ⟨rfl, rfl⟩, hp0, hp1, q0, q1, q2⟩ := hS
  refine ⟨Nat.le_of_ble_eq_true rfl, fun V w => ?_⟩
  show V 0 [some (.ref 0), some (.int a), some (.int b), some (.int e), some (.ref 200), none] [] 202 gk_fT x y 0
  refine s_aload (pc2 := 2) w dL_addVehicle_0 rfl rfl ?_
  refine s_iconst (pc2 := 3) (v := 0) w dL_addVehicle_2 rfl rfl ?_
  refine s_aload_n (pc2 := 4) w dL_addVehicle_3 rfl rfl ?_
  refine s_iload_n (pc2 := 5) w dL_addVehicle_4 rfl rfl ?_
  refine s_iload_n (pc2 := 6) w dL_addVehicle_5 rfl rfl ?_
  refine s_iload_n (pc2 := 7) w dL_addVehicle_6 rfl rfl ?_
  refine g_callv (pc2 := 10) (r := [.int 0, .ref 200]) w dL_addVehicle_7 rfl rfl (as := [.ref 0, .int a, .int b, .int e]) rfl rfl rfl rfl rfl (Or.inr (Or.inl ⟨Or.inl rfl, _, _, rfl, (gk_kd_j rfl rfl), rfl⟩)) (Or.inr (Nat.le_of_ble_eq_true rfl)) ⟨a, b, e, g, rfl, ⟨rfl, rfl⟩, hp0, hp1, ?_, ?_, ?_⟩
  · intro b0 b1 x2 y2 b2
    show V 10 [some (.ref 0), some (.int a), some (.int b), some (.int e), some (.ref 200), none] [(.int (g 6)), .int 0, .ref 200] 202 gk_fT x2 y2 (0 + 4)
    refine s_i2l (pc2 := 11) w dL_addVehicle_10 rfl ?_
    refine m_lastoreN (pc2 := 12) (t := 0) (N := 1) w dL_addVehicle_11 rfl rfl rfl rfl (by decide) rfl ?_
    refine s_goto (tgt := 23) w dL_addVehicle_12 (by decide) ?_
    refine s_iconst (pc2 := 24) (v := 0) w dL_addVehicle_23 rfl rfl ?_
    refine s_ireturn w dL_addVehicle_24 rfl rfl ?_
    exact q0 b0 b1 x2 y2 b2
  · intro b0 x2 y2 b1
    show V 17 [some (.ref 0), some (.int a), some (.int b), some (.int e), some (.ref 200), none] [] 202 gk_fT x2 y2 (0 + 4)
    refine s_iconst (pc2 := 18) (v := 1) w dL_addVehicle_17 rfl rfl ?_
    refine s_ireturn w dL_addVehicle_18 rfl rfl ?_
    exact q1 b0 x2 y2 b1
  · intro b0 b1 x2 y2 b2
    show V 21 [some (.ref 0), some (.int a), some (.int b), some (.int e), some (.ref 200), none] [] 202 gk_fT x2 y2 (0 + 4)
    refine s_iconst (pc2 := 22) (v := 2) w dL_addVehicle_21 rfl rfl ?_
    refine s_ireturn w dL_addVehicle_22 rfl rfl ?_
    exact q2 b0 b1 x2 y2 b2
theorem lk_L_addVehicle {l : Launch} (hl : l.stackTraces = false) : ∀ q ∈ L_L_addVehicle, (q.2.1 < 5 → gk_Lk l RL gk_W1 8 q.1 q.2.1 q.2.2.1 q.2.2.2.1 q.2.2.2.2.1 q.2.2.2.2.2) := (List.forall_mem_cons.mpr ⟨(fun _ => ⟨yX10_addVehicle, cX10_addVehicle, 4, (some .int), 7, _, M_X10_addVehicle hl, ⟨by decide, by decide⟩, ⟨by decide, by decide, by decide +kernel⟩, ⟨(gk_wm 823 (by decide +kernel)), (gk_wm 89 (by decide +kernel))⟩, Or.inr (Or.inr (Or.inr (Or.inl ⟨rfl, rfl, (gk_wm 821 (by decide +kernel)), (gk_wm 822 (by decide +kernel)), gk_wm 820 (by decide +kernel), by decide, rfl⟩)))⟩), (fun _ h => absurd h List.not_mem_nil)⟩)
theorem sp_L_addVehicle : ∀ q ∈ L_L_addVehicle, gk_Sq RL gk_W1 8 q := (List.forall_mem_cons.mpr ⟨⟨fun h => absurd h (by decide), fun h => absurd h (by decide), fun h => absurd h (by decide), fun h => absurd h (by decide), fun h => absurd h (by decide), fun h => absurd h (by decide)⟩, (fun _ h => absurd h List.not_mem_nil)⟩)
theorem ho_L_addVehicle : ∀ z ∈ H_L_addVehicle, gk_Hok RL cL_addVehicle 6 z := (List.forall_mem_cons.mpr ⟨⟨by decide, by decide, gk_wm 726 (by decide +kernel), by decide, Or.inl ⟨dL_addVehicle_15, rfl⟩⟩, (List.forall_mem_cons.mpr ⟨⟨by decide, by decide, gk_wm 819 (by decide +kernel), by decide, Or.inl ⟨dL_addVehicle_19, rfl⟩⟩, (fun _ h => absurd h List.not_mem_nil)⟩)⟩)
theorem M_L_addVehicle {l : Launch} (hl : l.stackTraces = false) : gk_Mt l yL_addVehicle (.codeWith yL_addVehicle cL_addVehicle 6 (some .int) (H_L_addVehicle.map gk_hr) :: gk_W1) 8 4 S_L_addVehicle := gk_methH gk_cw_ok H_L_addVehicle (by decide +kernel) rfl nt_L_addVehicle m_L_addVehicle pL_ok (gk_Sp_of sp_L_addVehicle) pL_st (fun ci m S h => absurd h (by intro h; cases h)) hno_L ho_L_addVehicle (fun idx kd ci mm cost S2 h h5 => lk_L_addVehicle hl _ (gk_lk_mem h) h5)

def S_L_addSource : gk_S := fun as n fl x y K => ∃ (v : Int32) (b : Int32) (e : Int32) (d : Int32) (f : Int32) (g : Nat → Int32), as = [.ref 0, .int v, .int b, .int e, .int d, .int f, .ref 200] ∧ (n = 202 ∧ fl = gk_fT) ∧ (RS 1 g x y) ∧ (gOK g) ∧ ((0 ≤ v ∧ v < g 6) → ((-1000 ≤ b ∧ b ≤ 1000) ∧ (0 ≤ e ∧ e ≤ 500) ∧ (1 ≤ d ∧ d ≤ 10) ∧ (-99 ≤ f ∧ f ≤ 99)) → (¬ g 7 = 6) → ∀ (x2 : gk_X) (y2 : gk_Y), COk (gAS g (nS g) v b e d f) x x2 y y2 → K (.inl (some (.int 0))) n fl x2 (gk_uy y2 200 0 ((g 7)).toInt64)) ∧ (¬ (0 ≤ v ∧ v < g 6) → ∀ (x2 : gk_X) (y2 : gk_Y), COk g x x2 y y2 → K (.inl (some (.int 1))) n fl x2 y2) ∧ ((0 ≤ v ∧ v < g 6) → ¬ ((-1000 ≤ b ∧ b ≤ 1000) ∧ (0 ≤ e ∧ e ≤ 500) ∧ (1 ≤ d ∧ d ≤ 10) ∧ (-99 ≤ f ∧ f ≤ 99)) → ∀ (x2 : gk_X) (y2 : gk_Y), COk g x x2 y y2 → K (.inl (some (.int 2))) n fl x2 y2) ∧ ((0 ≤ v ∧ v < g 6) → ((-1000 ≤ b ∧ b ≤ 1000) ∧ (0 ≤ e ∧ e ≤ 500) ∧ (1 ≤ d ∧ d ≤ 10) ∧ (-99 ≤ f ∧ f ≤ 99)) → ¬ (¬ g 7 = 6) → ∀ (x2 : gk_X) (y2 : gk_Y), COk g x x2 y y2 → K (.inl (some (.int 3))) n fl x2 y2)
theorem r_L_addSource (w : gk_W c P cs (fun _ _ => none) rt uf sc K V) {idx : Nat} {v : Int32} {b : Int32} {e : Int32} {d : Int32} {f : Int32} {g : Nat → Int32} (hd : decode c pc = .ok (.invokestatic idx, 3)) (hp : pc + 3 = pc2) (hc : cs idx = some (0, 0, 7, 6, S_L_addSource)) (h8 : Nat.ble (r.map Value.category).sum 8 = true) (hu : u + 6 ≤ uf) (hp0 : RS 1 g x y) (hp1 : gOK g) (kk0 : (0 ≤ v ∧ v < g 6) → ((-1000 ≤ b ∧ b ≤ 1000) ∧ (0 ≤ e ∧ e ≤ 500) ∧ (1 ≤ d ∧ d ≤ 10) ∧ (-99 ≤ f ∧ f ≤ 99)) → (¬ g 7 = 6) → ∀ (x2 : gk_X) (y2 : gk_Y), COk (gAS g (nS g) v b e d f) x x2 y y2 → V pc2 L ((.int 0) :: r) 202 gk_fT x2 (gk_uy y2 200 0 ((g 7)).toInt64) (u + 6)) (kk1 : ¬ (0 ≤ v ∧ v < g 6) → ∀ (x2 : gk_X) (y2 : gk_Y), COk g x x2 y y2 → V pc2 L ((.int 1) :: r) 202 gk_fT x2 y2 (u + 6)) (kk2 : (0 ≤ v ∧ v < g 6) → ¬ ((-1000 ≤ b ∧ b ≤ 1000) ∧ (0 ≤ e ∧ e ≤ 500) ∧ (1 ≤ d ∧ d ≤ 10) ∧ (-99 ≤ f ∧ f ≤ 99)) → ∀ (x2 : gk_X) (y2 : gk_Y), COk g x x2 y y2 → V pc2 L ((.int 2) :: r) 202 gk_fT x2 y2 (u + 6)) (kk3 : (0 ≤ v ∧ v < g 6) → ((-1000 ≤ b ∧ b ≤ 1000) ∧ (0 ≤ e ∧ e ≤ 500) ∧ (1 ≤ d ∧ d ≤ 10) ∧ (-99 ≤ f ∧ f ≤ 99)) → ¬ (¬ g 7 = 6) → ∀ (x2 : gk_X) (y2 : gk_Y), COk g x x2 y y2 → V pc2 L ((.int 3) :: r) 202 gk_fT x2 y2 (u + 6)) : V pc L (.ref 200 :: .int f :: .int d :: .int e :: .int b :: .int v :: .ref 0 :: r) 202 gk_fT x y u :=
  g_calls w hd hp hc (as := [.ref 0, .int v, .int b, .int e, .int d, .int f, .ref 200]) rfl h8 rfl rfl rfl (Or.inl rfl) (Or.inr hu) ⟨v, b, e, d, f, g, rfl, ⟨rfl, rfl⟩, hp0, hp1, kk0, kk1, kk2, kk3⟩
theorem nt_L_addSource : gk_nt S_L_addSource := fun _ _ _ _ _ _ ⟨v, b, e, d, f, g, e0, e1, e2, e3, e4, e5, e6, e7⟩ => ⟨v, b, e, d, f, g, e0, e1, e2, e3, e4, e5, e6, e7⟩
def H_L_addSource : List gk_H := [(0, 16, 19, 32, 2, 21, 7), (0, 16, 23, 13, 0, 25, 7), (0, 16, 27, 26, 1, 29, 7)]
def L_L_addSource : List (Nat × gk_M0) := [(28, (1, 9, 6, 6, S_X10_addSource))]
def cs_L_addSource : Nat → Option gk_M0 := gk_lk L_L_addSource
theorem m_L_addSource : ∀ (as : List Value) (n : Nat) (fl : gk_F) (x : gk_X) (y : gk_Y) (K : gk_K), S_L_addSource as n fl x y K → (gk_L0 as).length ≤ 8 ∧ ∀ V : gk_V, gk_W cL_addSource pL cs_L_addSource (gk_fh H_L_addSource) (some .int) 6 none K V → V 0 (gk_en as 8) [] n fl x y 0 := by
  intro as n fl x y K hS
  obtain ⟨v, b, e, d, f, g, rfl, ⟨rfl, rfl⟩, hp0, hp1, q0, q1, q2, q3⟩ := hS
  refine ⟨Nat.le_of_ble_eq_true rfl, fun V w => ?_⟩
  show V 0 [some (.ref 0), some (.int v), some (.int b), some (.int e), some (.int d), some (.int f), some (.ref 200), none] [] 202 gk_fT x y 0
  refine s_aload (pc2 := 2) w dL_addSource_0 rfl rfl ?_
  refine s_iconst (pc2 := 3) (v := 0) w dL_addSource_2 rfl rfl ?_
  refine s_aload_n (pc2 := 4) w dL_addSource_3 rfl rfl ?_
  refine s_iload_n (pc2 := 5) w dL_addSource_4 rfl rfl ?_
  refine s_iload_n (pc2 := 6) w dL_addSource_5 rfl rfl ?_
  refine s_iload_n (pc2 := 7) w dL_addSource_6 rfl rfl ?_
  refine s_iload (pc2 := 9) w dL_addSource_7 rfl rfl ?_
  refine s_iload (pc2 := 11) w dL_addSource_9 rfl rfl ?_
  refine g_callv (pc2 := 14) (r := [.int 0, .ref 200]) w dL_addSource_11 rfl rfl (as := [.ref 0, .int v, .int b, .int e, .int d, .int f]) rfl rfl rfl rfl rfl (Or.inr (Or.inl ⟨Or.inl rfl, _, _, rfl, (gk_kd_j rfl rfl), rfl⟩)) (Or.inr (Nat.le_of_ble_eq_true rfl)) ⟨v, b, e, d, f, g, rfl, ⟨rfl, rfl⟩, hp0, hp1, ?_, ?_, ?_, ?_⟩
  · intro b0 b1 b2 x2 y2 b3
    show V 14 [some (.ref 0), some (.int v), some (.int b), some (.int e), some (.int d), some (.int f), some (.ref 200), none] [(.int (g 7)), .int 0, .ref 200] 202 gk_fT x2 y2 (0 + 6)
    refine s_i2l (pc2 := 15) w dL_addSource_14 rfl ?_
    refine m_lastoreN (pc2 := 16) (t := 0) (N := 1) w dL_addSource_15 rfl rfl rfl rfl (by decide) rfl ?_
    refine s_goto (tgt := 31) w dL_addSource_16 (by decide) ?_
    refine s_iconst (pc2 := 32) (v := 0) w dL_addSource_31 rfl rfl ?_
    refine s_ireturn w dL_addSource_32 rfl rfl ?_
    exact q0 b0 b1 b2 x2 y2 b3
  · intro b0 x2 y2 b1
    show V 21 [some (.ref 0), some (.int v), some (.int b), some (.int e), some (.int d), some (.int f), some (.ref 200), none] [] 202 gk_fT x2 y2 (0 + 6)
    refine s_iconst (pc2 := 22) (v := 1) w dL_addSource_21 rfl rfl ?_
    refine s_ireturn w dL_addSource_22 rfl rfl ?_
    exact q1 b0 x2 y2 b1
  · intro b0 b1 x2 y2 b2
    show V 25 [some (.ref 0), some (.int v), some (.int b), some (.int e), some (.int d), some (.int f), some (.ref 200), none] [] 202 gk_fT x2 y2 (0 + 6)
    refine s_iconst (pc2 := 26) (v := 2) w dL_addSource_25 rfl rfl ?_
    refine s_ireturn w dL_addSource_26 rfl rfl ?_
    exact q2 b0 b1 x2 y2 b2
  · intro b0 b1 b2 x2 y2 b3
    show V 29 [some (.ref 0), some (.int v), some (.int b), some (.int e), some (.int d), some (.int f), some (.ref 200), none] [] 202 gk_fT x2 y2 (0 + 6)
    refine s_iconst (pc2 := 30) (v := 3) w dL_addSource_29 rfl rfl ?_
    refine s_ireturn w dL_addSource_30 rfl rfl ?_
    exact q3 b0 b1 b2 x2 y2 b3
theorem lk_L_addSource {l : Launch} (hl : l.stackTraces = false) : ∀ q ∈ L_L_addSource, (q.2.1 < 5 → gk_Lk l RL gk_W1 8 q.1 q.2.1 q.2.2.1 q.2.2.2.1 q.2.2.2.2.1 q.2.2.2.2.2) := (List.forall_mem_cons.mpr ⟨(fun _ => ⟨yX10_addSource, cX10_addSource, 6, (some .int), 7, _, M_X10_addSource hl, ⟨by decide, by decide⟩, ⟨by decide, by decide, by decide +kernel⟩, ⟨(gk_wm 851 (by decide +kernel)), (gk_wm 89 (by decide +kernel))⟩, Or.inr (Or.inr (Or.inr (Or.inl ⟨rfl, rfl, (gk_wm 849 (by decide +kernel)), (gk_wm 850 (by decide +kernel)), gk_wm 848 (by decide +kernel), by decide, rfl⟩)))⟩), (fun _ h => absurd h List.not_mem_nil)⟩)
theorem sp_L_addSource : ∀ q ∈ L_L_addSource, gk_Sq RL gk_W1 8 q := (List.forall_mem_cons.mpr ⟨⟨fun h => absurd h (by decide), fun h => absurd h (by decide), fun h => absurd h (by decide), fun h => absurd h (by decide), fun h => absurd h (by decide), fun h => absurd h (by decide)⟩, (fun _ h => absurd h List.not_mem_nil)⟩)
theorem ho_L_addSource : ∀ z ∈ H_L_addSource, gk_Hok RL cL_addSource 8 z := (List.forall_mem_cons.mpr ⟨⟨by decide, by decide, gk_wm 847 (by decide +kernel), by decide, Or.inl ⟨dL_addSource_19, rfl⟩⟩, (List.forall_mem_cons.mpr ⟨⟨by decide, by decide, gk_wm 726 (by decide +kernel), by decide, Or.inl ⟨dL_addSource_23, rfl⟩⟩, (List.forall_mem_cons.mpr ⟨⟨by decide, by decide, gk_wm 819 (by decide +kernel), by decide, Or.inl ⟨dL_addSource_27, rfl⟩⟩, (fun _ h => absurd h List.not_mem_nil)⟩)⟩)⟩)
theorem M_L_addSource {l : Launch} (hl : l.stackTraces = false) : gk_Mt l yL_addSource (.codeWith yL_addSource cL_addSource 8 (some .int) (H_L_addSource.map gk_hr) :: gk_W1) 8 6 S_L_addSource := gk_methH gk_cw_ok H_L_addSource (by decide +kernel) rfl nt_L_addSource m_L_addSource pL_ok (gk_Sp_of sp_L_addSource) pL_st (fun ci m S h => absurd h (by intro h; cases h)) hno_L ho_L_addSource (fun idx kd ci mm cost S2 h h5 => lk_L_addSource hl _ (gk_lk_mem h) h5)

def S_L_addValue : gk_S := fun as n fl x y K => ∃ (v : Int32) (f : Int32) (g : Nat → Int32), as = [.ref 0, .int v, .int f, .ref 200] ∧ (n = 202 ∧ fl = gk_fT) ∧ (RS 1 g x y) ∧ (gOK g) ∧ ((0 ≤ v ∧ v < g 7) → (-99 ≤ f ∧ f ≤ 99) → (¬ g (28 + 21 * cN v + 4) = 16) → ∀ (x2 : gk_X) (y2 : gk_Y), COk (gVA g (cN v) f) x x2 y y2 → K (.inl (some (.int 0))) n fl x2 (gk_uy y2 200 0 ((g (28 + 21 * cN v + 4) + 1)).toInt64)) ∧ (¬ (0 ≤ v ∧ v < g 7) → ∀ (x2 : gk_X) (y2 : gk_Y), COk g x x2 y y2 → K (.inl (some (.int 1))) n fl x2 y2) ∧ ((0 ≤ v ∧ v < g 7) → ¬ (-99 ≤ f ∧ f ≤ 99) → ∀ (x2 : gk_X) (y2 : gk_Y), COk g x x2 y y2 → K (.inl (some (.int 2))) n fl x2 y2) ∧ ((0 ≤ v ∧ v < g 7) → (-99 ≤ f ∧ f ≤ 99) → ¬ (¬ g (28 + 21 * cN v + 4) = 16) → ∀ (x2 : gk_X) (y2 : gk_Y), COk g x x2 y y2 → K (.inl (some (.int 3))) n fl x2 y2)
theorem r_L_addValue (w : gk_W c P cs (fun _ _ => none) rt uf sc K V) {idx : Nat} {v : Int32} {f : Int32} {g : Nat → Int32} (hd : decode c pc = .ok (.invokestatic idx, 3)) (hp : pc + 3 = pc2) (hc : cs idx = some (0, 0, 4, 3, S_L_addValue)) (h8 : Nat.ble (r.map Value.category).sum 8 = true) (hu : u + 3 ≤ uf) (hp0 : RS 1 g x y) (hp1 : gOK g) (kk0 : (0 ≤ v ∧ v < g 7) → (-99 ≤ f ∧ f ≤ 99) → (¬ g (28 + 21 * cN v + 4) = 16) → ∀ (x2 : gk_X) (y2 : gk_Y), COk (gVA g (cN v) f) x x2 y y2 → V pc2 L ((.int 0) :: r) 202 gk_fT x2 (gk_uy y2 200 0 ((g (28 + 21 * cN v + 4) + 1)).toInt64) (u + 3)) (kk1 : ¬ (0 ≤ v ∧ v < g 7) → ∀ (x2 : gk_X) (y2 : gk_Y), COk g x x2 y y2 → V pc2 L ((.int 1) :: r) 202 gk_fT x2 y2 (u + 3)) (kk2 : (0 ≤ v ∧ v < g 7) → ¬ (-99 ≤ f ∧ f ≤ 99) → ∀ (x2 : gk_X) (y2 : gk_Y), COk g x x2 y y2 → V pc2 L ((.int 2) :: r) 202 gk_fT x2 y2 (u + 3)) (kk3 : (0 ≤ v ∧ v < g 7) → (-99 ≤ f ∧ f ≤ 99) → ¬ (¬ g (28 + 21 * cN v + 4) = 16) → ∀ (x2 : gk_X) (y2 : gk_Y), COk g x x2 y y2 → V pc2 L ((.int 3) :: r) 202 gk_fT x2 y2 (u + 3)) : V pc L (.ref 200 :: .int f :: .int v :: .ref 0 :: r) 202 gk_fT x y u :=
  g_calls w hd hp hc (as := [.ref 0, .int v, .int f, .ref 200]) rfl h8 rfl rfl rfl (Or.inl rfl) (Or.inr hu) ⟨v, f, g, rfl, ⟨rfl, rfl⟩, hp0, hp1, kk0, kk1, kk2, kk3⟩
theorem nt_L_addValue : gk_nt S_L_addValue := fun _ _ _ _ _ _ ⟨v, f, g, e0, e1, e2, e3, e4, e5, e6, e7⟩ => ⟨v, f, g, e0, e1, e2, e3, e4, e5, e6, e7⟩
def H_L_addValue : List gk_H := [(0, 10, 13, 32, 2, 15, 4), (0, 10, 17, 13, 0, 19, 4), (0, 10, 21, 26, 1, 23, 4)]
def L_L_addValue : List (Nat × gk_M0) := [(34, (1, 9, 3, 3, S_X10_addValue))]
def cs_L_addValue : Nat → Option gk_M0 := gk_lk L_L_addValue
theorem m_L_addValue : ∀ (as : List Value) (n : Nat) (fl : gk_F) (x : gk_X) (y : gk_Y) (K : gk_K), S_L_addValue as n fl x y K → (gk_L0 as).length ≤ 5 ∧ ∀ V : gk_V, gk_W cL_addValue pL cs_L_addValue (gk_fh H_L_addValue) (some .int) 3 none K V → V 0 (gk_en as 5) [] n fl x y 0 := by
  intro as n fl x y K hS
  obtain ⟨v, f, g, rfl, ⟨rfl, rfl⟩, hp0, hp1, q0, q1, q2, q3⟩ := hS
  refine ⟨Nat.le_of_ble_eq_true rfl, fun V w => ?_⟩
  show V 0 [some (.ref 0), some (.int v), some (.int f), some (.ref 200), none] [] 202 gk_fT x y 0
  refine s_aload_n (pc2 := 1) w dL_addValue_0 rfl rfl ?_
  refine s_iconst (pc2 := 2) (v := 0) w dL_addValue_1 rfl rfl ?_
  refine s_aload_n (pc2 := 3) w dL_addValue_2 rfl rfl ?_
  refine s_iload_n (pc2 := 4) w dL_addValue_3 rfl rfl ?_
  refine s_iload_n (pc2 := 5) w dL_addValue_4 rfl rfl ?_
  refine g_callv (pc2 := 8) (r := [.int 0, .ref 200]) w dL_addValue_5 rfl rfl (as := [.ref 0, .int v, .int f]) rfl rfl rfl rfl rfl (Or.inr (Or.inl ⟨Or.inl rfl, _, _, rfl, (gk_kd_j rfl rfl), rfl⟩)) (Or.inr (Nat.le_of_ble_eq_true rfl)) ⟨v, f, g, rfl, ⟨rfl, rfl⟩, hp0, hp1, ?_, ?_, ?_, ?_⟩
  · intro b0 b1 b2 x2 y2 b3
    show V 8 [some (.ref 0), some (.int v), some (.int f), some (.ref 200), none] [(.int (g (28 + 21 * cN v + 4) + 1)), .int 0, .ref 200] 202 gk_fT x2 y2 (0 + 3)
    refine s_i2l (pc2 := 9) w dL_addValue_8 rfl ?_
    refine m_lastoreN (pc2 := 10) (t := 0) (N := 1) w dL_addValue_9 rfl rfl rfl rfl (by decide) rfl ?_
    refine s_goto (tgt := 25) w dL_addValue_10 (by decide) ?_
    refine s_iconst (pc2 := 26) (v := 0) w dL_addValue_25 rfl rfl ?_
    refine s_ireturn w dL_addValue_26 rfl rfl ?_
    exact q0 b0 b1 b2 x2 y2 b3
  · intro b0 x2 y2 b1
    show V 15 [some (.ref 0), some (.int v), some (.int f), some (.ref 200), none] [] 202 gk_fT x2 y2 (0 + 3)
    refine s_iconst (pc2 := 16) (v := 1) w dL_addValue_15 rfl rfl ?_
    refine s_ireturn w dL_addValue_16 rfl rfl ?_
    exact q1 b0 x2 y2 b1
  · intro b0 b1 x2 y2 b2
    show V 19 [some (.ref 0), some (.int v), some (.int f), some (.ref 200), none] [] 202 gk_fT x2 y2 (0 + 3)
    refine s_iconst (pc2 := 20) (v := 2) w dL_addValue_19 rfl rfl ?_
    refine s_ireturn w dL_addValue_20 rfl rfl ?_
    exact q2 b0 b1 x2 y2 b2
  · intro b0 b1 b2 x2 y2 b3
    show V 23 [some (.ref 0), some (.int v), some (.int f), some (.ref 200), none] [] 202 gk_fT x2 y2 (0 + 3)
    refine s_iconst (pc2 := 24) (v := 3) w dL_addValue_23 rfl rfl ?_
    refine s_ireturn w dL_addValue_24 rfl rfl ?_
    exact q3 b0 b1 b2 x2 y2 b3
theorem lk_L_addValue {l : Launch} (hl : l.stackTraces = false) : ∀ q ∈ L_L_addValue, (q.2.1 < 5 → gk_Lk l RL gk_W1 9 q.1 q.2.1 q.2.2.1 q.2.2.2.1 q.2.2.2.2.1 q.2.2.2.2.2) := (List.forall_mem_cons.mpr ⟨(fun _ => ⟨yX10_addValue, cX10_addValue, 4, (some .int), 8, _, M_X10_addValue hl, ⟨by decide, by decide⟩, ⟨by decide, by decide, by decide +kernel⟩, ⟨(gk_wm 878 (by decide +kernel)), (gk_wm 89 (by decide +kernel))⟩, Or.inr (Or.inr (Or.inr (Or.inl ⟨rfl, rfl, (gk_wm 876 (by decide +kernel)), (gk_wm 877 (by decide +kernel)), gk_wm 875 (by decide +kernel), by decide, rfl⟩)))⟩), (fun _ h => absurd h List.not_mem_nil)⟩)
theorem sp_L_addValue : ∀ q ∈ L_L_addValue, gk_Sq RL gk_W1 9 q := (List.forall_mem_cons.mpr ⟨⟨fun h => absurd h (by decide), fun h => absurd h (by decide), fun h => absurd h (by decide), fun h => absurd h (by decide), fun h => absurd h (by decide), fun h => absurd h (by decide)⟩, (fun _ h => absurd h List.not_mem_nil)⟩)
theorem ho_L_addValue : ∀ z ∈ H_L_addValue, gk_Hok RL cL_addValue 5 z := (List.forall_mem_cons.mpr ⟨⟨by decide, by decide, gk_wm 847 (by decide +kernel), by decide, Or.inl ⟨dL_addValue_13, rfl⟩⟩, (List.forall_mem_cons.mpr ⟨⟨by decide, by decide, gk_wm 726 (by decide +kernel), by decide, Or.inl ⟨dL_addValue_17, rfl⟩⟩, (List.forall_mem_cons.mpr ⟨⟨by decide, by decide, gk_wm 819 (by decide +kernel), by decide, Or.inl ⟨dL_addValue_21, rfl⟩⟩, (fun _ h => absurd h List.not_mem_nil)⟩)⟩)⟩)
theorem M_L_addValue {l : Launch} (hl : l.stackTraces = false) : gk_Mt l yL_addValue (.codeWith yL_addValue cL_addValue 5 (some .int) (H_L_addValue.map gk_hr) :: gk_W1) 9 3 S_L_addValue := gk_methH gk_cw_ok H_L_addValue (by decide +kernel) rfl nt_L_addValue m_L_addValue pL_ok (gk_Sp_of sp_L_addValue) pL_st (fun ci m S h => absurd h (by intro h; cases h)) hno_L ho_L_addValue (fun idx kd ci mm cost S2 h h5 => lk_L_addValue hl _ (gk_lk_mem h) h5)

def S_L_addMicrophone : gk_S := fun as n fl x y K => ∃ (a : Int32) (b : Int32) (e : Int32) (d : Int32) (g : Nat → Int32), as = [.ref 0, .int a, .int b, .int e, .int d, .ref 200] ∧ (n = 202 ∧ fl = gk_fT) ∧ (RS 1 g x y) ∧ (gOK g) ∧ ((((-5000 ≤ a ∧ a ≤ 5000) ∧ (-100 ≤ b ∧ b ≤ 99) ∧ (0 ≤ e ∧ e ≤ 500)) ∧ (0 ≤ d ∧ d ≤ 9)) → (¬ g 8 = 8) → ∀ (x2 : gk_X) (y2 : gk_Y), COk (gAM g (nM g) a b e d) x x2 y y2 → K (.inl (some (.int 0))) n fl x2 (gk_uy y2 200 0 ((g 8)).toInt64)) ∧ (¬ (((-5000 ≤ a ∧ a ≤ 5000) ∧ (-100 ≤ b ∧ b ≤ 99) ∧ (0 ≤ e ∧ e ≤ 500)) ∧ (0 ≤ d ∧ d ≤ 9)) → ∀ (x2 : gk_X) (y2 : gk_Y), COk g x x2 y y2 → K (.inl (some (.int 1))) n fl x2 y2) ∧ ((((-5000 ≤ a ∧ a ≤ 5000) ∧ (-100 ≤ b ∧ b ≤ 99) ∧ (0 ≤ e ∧ e ≤ 500)) ∧ (0 ≤ d ∧ d ≤ 9)) → ¬ (¬ g 8 = 8) → ∀ (x2 : gk_X) (y2 : gk_Y), COk g x x2 y y2 → K (.inl (some (.int 2))) n fl x2 y2)
theorem r_L_addMicrophone (w : gk_W c P cs (fun _ _ => none) rt uf sc K V) {idx : Nat} {a : Int32} {b : Int32} {e : Int32} {d : Int32} {g : Nat → Int32} (hd : decode c pc = .ok (.invokestatic idx, 3)) (hp : pc + 3 = pc2) (hc : cs idx = some (0, 0, 6, 5, S_L_addMicrophone)) (h8 : Nat.ble (r.map Value.category).sum 8 = true) (hu : u + 5 ≤ uf) (hp0 : RS 1 g x y) (hp1 : gOK g) (kk0 : (((-5000 ≤ a ∧ a ≤ 5000) ∧ (-100 ≤ b ∧ b ≤ 99) ∧ (0 ≤ e ∧ e ≤ 500)) ∧ (0 ≤ d ∧ d ≤ 9)) → (¬ g 8 = 8) → ∀ (x2 : gk_X) (y2 : gk_Y), COk (gAM g (nM g) a b e d) x x2 y y2 → V pc2 L ((.int 0) :: r) 202 gk_fT x2 (gk_uy y2 200 0 ((g 8)).toInt64) (u + 5)) (kk1 : ¬ (((-5000 ≤ a ∧ a ≤ 5000) ∧ (-100 ≤ b ∧ b ≤ 99) ∧ (0 ≤ e ∧ e ≤ 500)) ∧ (0 ≤ d ∧ d ≤ 9)) → ∀ (x2 : gk_X) (y2 : gk_Y), COk g x x2 y y2 → V pc2 L ((.int 1) :: r) 202 gk_fT x2 y2 (u + 5)) (kk2 : (((-5000 ≤ a ∧ a ≤ 5000) ∧ (-100 ≤ b ∧ b ≤ 99) ∧ (0 ≤ e ∧ e ≤ 500)) ∧ (0 ≤ d ∧ d ≤ 9)) → ¬ (¬ g 8 = 8) → ∀ (x2 : gk_X) (y2 : gk_Y), COk g x x2 y y2 → V pc2 L ((.int 2) :: r) 202 gk_fT x2 y2 (u + 5)) : V pc L (.ref 200 :: .int d :: .int e :: .int b :: .int a :: .ref 0 :: r) 202 gk_fT x y u :=
  g_calls w hd hp hc (as := [.ref 0, .int a, .int b, .int e, .int d, .ref 200]) rfl h8 rfl rfl rfl (Or.inl rfl) (Or.inr hu) ⟨a, b, e, d, g, rfl, ⟨rfl, rfl⟩, hp0, hp1, kk0, kk1, kk2⟩
theorem nt_L_addMicrophone : gk_nt S_L_addMicrophone := fun _ _ _ _ _ _ ⟨a, b, e, d, g, e0, e1, e2, e3, e4, e5, e6⟩ => ⟨a, b, e, d, g, e0, e1, e2, e3, e4, e5, e6⟩
def H_L_addMicrophone : List gk_H := [(0, 14, 17, 13, 0, 19, 6), (0, 14, 21, 26, 1, 23, 6)]
def L_L_addMicrophone : List (Nat × gk_M0) := [(38, (1, 9, 5, 5, S_X10_addMicrophone))]
def cs_L_addMicrophone : Nat → Option gk_M0 := gk_lk L_L_addMicrophone
theorem m_L_addMicrophone : ∀ (as : List Value) (n : Nat) (fl : gk_F) (x : gk_X) (y : gk_Y) (K : gk_K), S_L_addMicrophone as n fl x y K → (gk_L0 as).length ≤ 7 ∧ ∀ V : gk_V, gk_W cL_addMicrophone pL cs_L_addMicrophone (gk_fh H_L_addMicrophone) (some .int) 5 none K V → V 0 (gk_en as 7) [] n fl x y 0 := by
  intro as n fl x y K hS
  obtain ⟨a, b, e, d, g, rfl, ⟨rfl, rfl⟩, hp0, hp1, q0, q1, q2⟩ := hS
  refine ⟨Nat.le_of_ble_eq_true rfl, fun V w => ?_⟩
  show V 0 [some (.ref 0), some (.int a), some (.int b), some (.int e), some (.int d), some (.ref 200), none] [] 202 gk_fT x y 0
  refine s_aload (pc2 := 2) w dL_addMicrophone_0 rfl rfl ?_
  refine s_iconst (pc2 := 3) (v := 0) w dL_addMicrophone_2 rfl rfl ?_
  refine s_aload_n (pc2 := 4) w dL_addMicrophone_3 rfl rfl ?_
  refine s_iload_n (pc2 := 5) w dL_addMicrophone_4 rfl rfl ?_
  refine s_iload_n (pc2 := 6) w dL_addMicrophone_5 rfl rfl ?_
  refine s_iload_n (pc2 := 7) w dL_addMicrophone_6 rfl rfl ?_
  refine s_iload (pc2 := 9) w dL_addMicrophone_7 rfl rfl ?_
  refine g_callv (pc2 := 12) (r := [.int 0, .ref 200]) w dL_addMicrophone_9 rfl rfl (as := [.ref 0, .int a, .int b, .int e, .int d]) rfl rfl rfl rfl rfl (Or.inr (Or.inl ⟨Or.inl rfl, _, _, rfl, (gk_kd_j rfl rfl), rfl⟩)) (Or.inr (Nat.le_of_ble_eq_true rfl)) ⟨a, b, e, d, g, rfl, ⟨rfl, rfl⟩, hp0, hp1, ?_, ?_, ?_⟩
  · intro b0 b1 x2 y2 b2
    show V 12 [some (.ref 0), some (.int a), some (.int b), some (.int e), some (.int d), some (.ref 200), none] [(.int (g 8)), .int 0, .ref 200] 202 gk_fT x2 y2 (0 + 5)
    refine s_i2l (pc2 := 13) w dL_addMicrophone_12 rfl ?_
    refine m_lastoreN (pc2 := 14) (t := 0) (N := 1) w dL_addMicrophone_13 rfl rfl rfl rfl (by decide) rfl ?_
    refine s_goto (tgt := 25) w dL_addMicrophone_14 (by decide) ?_
    refine s_iconst (pc2 := 26) (v := 0) w dL_addMicrophone_25 rfl rfl ?_
    refine s_ireturn w dL_addMicrophone_26 rfl rfl ?_
    exact q0 b0 b1 x2 y2 b2
  · intro b0 x2 y2 b1
    show V 19 [some (.ref 0), some (.int a), some (.int b), some (.int e), some (.int d), some (.ref 200), none] [] 202 gk_fT x2 y2 (0 + 5)
    refine s_iconst (pc2 := 20) (v := 1) w dL_addMicrophone_19 rfl rfl ?_
    refine s_ireturn w dL_addMicrophone_20 rfl rfl ?_
    exact q1 b0 x2 y2 b1
  · intro b0 b1 x2 y2 b2
    show V 23 [some (.ref 0), some (.int a), some (.int b), some (.int e), some (.int d), some (.ref 200), none] [] 202 gk_fT x2 y2 (0 + 5)
    refine s_iconst (pc2 := 24) (v := 2) w dL_addMicrophone_23 rfl rfl ?_
    refine s_ireturn w dL_addMicrophone_24 rfl rfl ?_
    exact q2 b0 b1 x2 y2 b2
theorem lk_L_addMicrophone {l : Launch} (hl : l.stackTraces = false) : ∀ q ∈ L_L_addMicrophone, (q.2.1 < 5 → gk_Lk l RL gk_W1 8 q.1 q.2.1 q.2.2.1 q.2.2.2.1 q.2.2.2.2.1 q.2.2.2.2.2) := (List.forall_mem_cons.mpr ⟨(fun _ => ⟨yX10_addMicrophone, cX10_addMicrophone, 5, (some .int), 7, _, M_X10_addMicrophone hl, ⟨by decide, by decide⟩, ⟨by decide, by decide, by decide +kernel⟩, ⟨(gk_wm 890 (by decide +kernel)), (gk_wm 89 (by decide +kernel))⟩, Or.inr (Or.inr (Or.inr (Or.inl ⟨rfl, rfl, (gk_wm 888 (by decide +kernel)), (gk_wm 889 (by decide +kernel)), gk_wm 887 (by decide +kernel), by decide, rfl⟩)))⟩), (fun _ h => absurd h List.not_mem_nil)⟩)
theorem sp_L_addMicrophone : ∀ q ∈ L_L_addMicrophone, gk_Sq RL gk_W1 8 q := (List.forall_mem_cons.mpr ⟨⟨fun h => absurd h (by decide), fun h => absurd h (by decide), fun h => absurd h (by decide), fun h => absurd h (by decide), fun h => absurd h (by decide), fun h => absurd h (by decide)⟩, (fun _ h => absurd h List.not_mem_nil)⟩)
theorem ho_L_addMicrophone : ∀ z ∈ H_L_addMicrophone, gk_Hok RL cL_addMicrophone 7 z := (List.forall_mem_cons.mpr ⟨⟨by decide, by decide, gk_wm 726 (by decide +kernel), by decide, Or.inl ⟨dL_addMicrophone_17, rfl⟩⟩, (List.forall_mem_cons.mpr ⟨⟨by decide, by decide, gk_wm 819 (by decide +kernel), by decide, Or.inl ⟨dL_addMicrophone_21, rfl⟩⟩, (fun _ h => absurd h List.not_mem_nil)⟩)⟩)
theorem M_L_addMicrophone {l : Launch} (hl : l.stackTraces = false) : gk_Mt l yL_addMicrophone (.codeWith yL_addMicrophone cL_addMicrophone 7 (some .int) (H_L_addMicrophone.map gk_hr) :: gk_W1) 8 5 S_L_addMicrophone := gk_methH gk_cw_ok H_L_addMicrophone (by decide +kernel) rfl nt_L_addMicrophone m_L_addMicrophone pL_ok (gk_Sp_of sp_L_addMicrophone) pL_st (fun ci m S h => absurd h (by intro h; cases h)) hno_L ho_L_addMicrophone (fun idx kd ci mm cost S2 h h5 => lk_L_addMicrophone hl _ (gk_lk_mem h) h5)

def S_L_setWeight : gk_S := fun as n fl x y K => ∃ (m : Int32) (v : Int32) (g : Nat → Int32), as = [.ref 0, .int m, .int v, .ref 200] ∧ (n = 202 ∧ fl = gk_fT) ∧ (RS 1 g x y) ∧ (gOK g) ∧ ((0 ≤ m ∧ m < g 8) → (0 ≤ v ∧ v ≤ 9) → ∀ (x2 : gk_X) (y2 : gk_Y), COk (gU g (154 + 4 * cN m + 3) v) x x2 y y2 → K (.inl (some (.int 0))) n fl x2 (gk_uy y2 200 0 ((g (154 + 4 * cN m + 3))).toInt64)) ∧ (¬ (0 ≤ m ∧ m < g 8) → ∀ (x2 : gk_X) (y2 : gk_Y), COk g x x2 y y2 → K (.inl (some (.int 1))) n fl x2 y2) ∧ ((0 ≤ m ∧ m < g 8) → ¬ (0 ≤ v ∧ v ≤ 9) → ∀ (x2 : gk_X) (y2 : gk_Y), COk g x x2 y y2 → K (.inl (some (.int 2))) n fl x2 y2)
theorem r_L_setWeight (w : gk_W c P cs (fun _ _ => none) rt uf sc K V) {idx : Nat} {m : Int32} {v : Int32} {g : Nat → Int32} (hd : decode c pc = .ok (.invokestatic idx, 3)) (hp : pc + 3 = pc2) (hc : cs idx = some (0, 0, 4, 2, S_L_setWeight)) (h8 : Nat.ble (r.map Value.category).sum 8 = true) (hu : u + 2 ≤ uf) (hp0 : RS 1 g x y) (hp1 : gOK g) (kk0 : (0 ≤ m ∧ m < g 8) → (0 ≤ v ∧ v ≤ 9) → ∀ (x2 : gk_X) (y2 : gk_Y), COk (gU g (154 + 4 * cN m + 3) v) x x2 y y2 → V pc2 L ((.int 0) :: r) 202 gk_fT x2 (gk_uy y2 200 0 ((g (154 + 4 * cN m + 3))).toInt64) (u + 2)) (kk1 : ¬ (0 ≤ m ∧ m < g 8) → ∀ (x2 : gk_X) (y2 : gk_Y), COk g x x2 y y2 → V pc2 L ((.int 1) :: r) 202 gk_fT x2 y2 (u + 2)) (kk2 : (0 ≤ m ∧ m < g 8) → ¬ (0 ≤ v ∧ v ≤ 9) → ∀ (x2 : gk_X) (y2 : gk_Y), COk g x x2 y y2 → V pc2 L ((.int 2) :: r) 202 gk_fT x2 y2 (u + 2)) : V pc L (.ref 200 :: .int v :: .int m :: .ref 0 :: r) 202 gk_fT x y u :=
  g_calls w hd hp hc (as := [.ref 0, .int m, .int v, .ref 200]) rfl h8 rfl rfl rfl (Or.inl rfl) (Or.inr hu) ⟨m, v, g, rfl, ⟨rfl, rfl⟩, hp0, hp1, kk0, kk1, kk2⟩
theorem nt_L_setWeight : gk_nt S_L_setWeight := fun _ _ _ _ _ _ ⟨m, v, g, e0, e1, e2, e3, e4, e5, e6⟩ => ⟨m, v, g, e0, e1, e2, e3, e4, e5, e6⟩
def H_L_setWeight : List gk_H := [(0, 10, 13, 32, 2, 15, 4), (0, 10, 17, 13, 0, 19, 4)]
def L_L_setWeight : List (Nat × gk_M0) := [(42, (1, 9, 3, 2, S_X10_setWeight))]
def cs_L_setWeight : Nat → Option gk_M0 := gk_lk L_L_setWeight
theorem m_L_setWeight : ∀ (as : List Value) (n : Nat) (fl : gk_F) (x : gk_X) (y : gk_Y) (K : gk_K), S_L_setWeight as n fl x y K → (gk_L0 as).length ≤ 5 ∧ ∀ V : gk_V, gk_W cL_setWeight pL cs_L_setWeight (gk_fh H_L_setWeight) (some .int) 2 none K V → V 0 (gk_en as 5) [] n fl x y 0 := by
  intro as n fl x y K hS
  obtain ⟨m, v, g, rfl, ⟨rfl, rfl⟩, hp0, hp1, q0, q1, q2⟩ := hS
  refine ⟨Nat.le_of_ble_eq_true rfl, fun V w => ?_⟩
  show V 0 [some (.ref 0), some (.int m), some (.int v), some (.ref 200), none] [] 202 gk_fT x y 0
  refine s_aload_n (pc2 := 1) w dL_setWeight_0 rfl rfl ?_
  refine s_iconst (pc2 := 2) (v := 0) w dL_setWeight_1 rfl rfl ?_
  refine s_aload_n (pc2 := 3) w dL_setWeight_2 rfl rfl ?_
  refine s_iload_n (pc2 := 4) w dL_setWeight_3 rfl rfl ?_
  refine s_iload_n (pc2 := 5) w dL_setWeight_4 rfl rfl ?_
  refine g_callv (pc2 := 8) (r := [.int 0, .ref 200]) w dL_setWeight_5 rfl rfl (as := [.ref 0, .int m, .int v]) rfl rfl rfl rfl rfl (Or.inr (Or.inl ⟨Or.inl rfl, _, _, rfl, (gk_kd_j rfl rfl), rfl⟩)) (Or.inr (Nat.le_of_ble_eq_true rfl)) ⟨m, v, g, rfl, ⟨rfl, rfl⟩, hp0, hp1, ?_, ?_, ?_⟩
  · intro b0 b1 x2 y2 b2
    show V 8 [some (.ref 0), some (.int m), some (.int v), some (.ref 200), none] [(.int (g (154 + 4 * cN m + 3))), .int 0, .ref 200] 202 gk_fT x2 y2 (0 + 2)
    refine s_i2l (pc2 := 9) w dL_setWeight_8 rfl ?_
    refine m_lastoreN (pc2 := 10) (t := 0) (N := 1) w dL_setWeight_9 rfl rfl rfl rfl (by decide) rfl ?_
    refine s_goto (tgt := 21) w dL_setWeight_10 (by decide) ?_
    refine s_iconst (pc2 := 22) (v := 0) w dL_setWeight_21 rfl rfl ?_
    refine s_ireturn w dL_setWeight_22 rfl rfl ?_
    exact q0 b0 b1 x2 y2 b2
  · intro b0 x2 y2 b1
    show V 15 [some (.ref 0), some (.int m), some (.int v), some (.ref 200), none] [] 202 gk_fT x2 y2 (0 + 2)
    refine s_iconst (pc2 := 16) (v := 1) w dL_setWeight_15 rfl rfl ?_
    refine s_ireturn w dL_setWeight_16 rfl rfl ?_
    exact q1 b0 x2 y2 b1
  · intro b0 b1 x2 y2 b2
    show V 19 [some (.ref 0), some (.int m), some (.int v), some (.ref 200), none] [] 202 gk_fT x2 y2 (0 + 2)
    refine s_iconst (pc2 := 20) (v := 2) w dL_setWeight_19 rfl rfl ?_
    refine s_ireturn w dL_setWeight_20 rfl rfl ?_
    exact q2 b0 b1 x2 y2 b2
theorem lk_L_setWeight {l : Launch} (hl : l.stackTraces = false) : ∀ q ∈ L_L_setWeight, (q.2.1 < 5 → gk_Lk l RL gk_W1 9 q.1 q.2.1 q.2.2.1 q.2.2.2.1 q.2.2.2.2.1 q.2.2.2.2.2) := (List.forall_mem_cons.mpr ⟨(fun _ => ⟨yX10_setWeight, cX10_setWeight, 5, (some .int), 8, _, M_X10_setWeight hl, ⟨by decide, by decide⟩, ⟨by decide, by decide, by decide +kernel⟩, ⟨(gk_wm 898 (by decide +kernel)), (gk_wm 89 (by decide +kernel))⟩, Or.inr (Or.inr (Or.inr (Or.inl ⟨rfl, rfl, (gk_wm 896 (by decide +kernel)), (gk_wm 897 (by decide +kernel)), gk_wm 895 (by decide +kernel), by decide, rfl⟩)))⟩), (fun _ h => absurd h List.not_mem_nil)⟩)
theorem sp_L_setWeight : ∀ q ∈ L_L_setWeight, gk_Sq RL gk_W1 9 q := (List.forall_mem_cons.mpr ⟨⟨fun h => absurd h (by decide), fun h => absurd h (by decide), fun h => absurd h (by decide), fun h => absurd h (by decide), fun h => absurd h (by decide), fun h => absurd h (by decide)⟩, (fun _ h => absurd h List.not_mem_nil)⟩)
theorem ho_L_setWeight : ∀ z ∈ H_L_setWeight, gk_Hok RL cL_setWeight 5 z := (List.forall_mem_cons.mpr ⟨⟨by decide, by decide, gk_wm 847 (by decide +kernel), by decide, Or.inl ⟨dL_setWeight_13, rfl⟩⟩, (List.forall_mem_cons.mpr ⟨⟨by decide, by decide, gk_wm 726 (by decide +kernel), by decide, Or.inl ⟨dL_setWeight_17, rfl⟩⟩, (fun _ h => absurd h List.not_mem_nil)⟩)⟩)
theorem M_L_setWeight {l : Launch} (hl : l.stackTraces = false) : gk_Mt l yL_setWeight (.codeWith yL_setWeight cL_setWeight 5 (some .int) (H_L_setWeight.map gk_hr) :: gk_W1) 9 2 S_L_setWeight := gk_methH gk_cw_ok H_L_setWeight (by decide +kernel) rfl nt_L_setWeight m_L_setWeight pL_ok (gk_Sp_of sp_L_setWeight) pL_st (fun ci m S h => absurd h (by intro h; cases h)) hno_L ho_L_setWeight (fun idx kd ci mm cost S2 h h5 => lk_L_setWeight hl _ (gk_lk_mem h) h5)

def S_L_count : gk_S := fun as n fl x y K => ∃ (v : Int32) (g : Nat → Int32), as = [.ref 0, .int v, .ref 200] ∧ (n = 202 ∧ fl = gk_fT) ∧ (RS 1 g x y) ∧ (gOK g) ∧ ((0 ≤ v ∧ v ≤ 3) → ∀ (x2 : gk_X) (y2 : gk_Y), COk g x x2 y y2 → K (.inl (some (.int 0))) n fl x2 (gk_uy y2 200 0 ((g (6 + cN v))).toInt64)) ∧ (¬ (0 ≤ v ∧ v ≤ 3) → ∀ (x2 : gk_X) (y2 : gk_Y), COk g x x2 y y2 → K (.inl (some (.int 1))) n fl x2 y2)
theorem r_L_count (w : gk_W c P cs (fun _ _ => none) rt uf sc K V) {idx : Nat} {v : Int32} {g : Nat → Int32} (hd : decode c pc = .ok (.invokestatic idx, 3)) (hp : pc + 3 = pc2) (hc : cs idx = some (0, 0, 3, 1, S_L_count)) (h8 : Nat.ble (r.map Value.category).sum 8 = true) (hu : u + 1 ≤ uf) (hp0 : RS 1 g x y) (hp1 : gOK g) (kk0 : (0 ≤ v ∧ v ≤ 3) → ∀ (x2 : gk_X) (y2 : gk_Y), COk g x x2 y y2 → V pc2 L ((.int 0) :: r) 202 gk_fT x2 (gk_uy y2 200 0 ((g (6 + cN v))).toInt64) (u + 1)) (kk1 : ¬ (0 ≤ v ∧ v ≤ 3) → ∀ (x2 : gk_X) (y2 : gk_Y), COk g x x2 y y2 → V pc2 L ((.int 1) :: r) 202 gk_fT x2 y2 (u + 1)) : V pc L (.ref 200 :: .int v :: .ref 0 :: r) 202 gk_fT x y u :=
  g_calls w hd hp hc (as := [.ref 0, .int v, .ref 200]) rfl h8 rfl rfl rfl (Or.inl rfl) (Or.inr hu) ⟨v, g, rfl, ⟨rfl, rfl⟩, hp0, hp1, kk0, kk1⟩
theorem nt_L_count : gk_nt S_L_count := fun _ _ _ _ _ _ ⟨v, g, e0, e1, e2, e3, e4, e5⟩ => ⟨v, g, e0, e1, e2, e3, e4, e5⟩
def H_L_count : List gk_H := [(0, 9, 12, 13, 0, 13, 3)]
def L_L_count : List (Nat × gk_M0) := [(45, (1, 9, 2, 1, S_X10_count))]
def cs_L_count : Nat → Option gk_M0 := gk_lk L_L_count
theorem m_L_count : ∀ (as : List Value) (n : Nat) (fl : gk_F) (x : gk_X) (y : gk_Y) (K : gk_K), S_L_count as n fl x y K → (gk_L0 as).length ≤ 4 ∧ ∀ V : gk_V, gk_W cL_count pL cs_L_count (gk_fh H_L_count) (some .int) 1 none K V → V 0 (gk_en as 4) [] n fl x y 0 := by
  intro as n fl x y K hS
  obtain ⟨v, g, rfl, ⟨rfl, rfl⟩, hp0, hp1, q0, q1⟩ := hS
  refine ⟨Nat.le_of_ble_eq_true rfl, fun V w => ?_⟩
  show V 0 [some (.ref 0), some (.int v), some (.ref 200), none] [] 202 gk_fT x y 0
  refine s_aload_n (pc2 := 1) w dL_count_0 rfl rfl ?_
  refine s_iconst (pc2 := 2) (v := 0) w dL_count_1 rfl rfl ?_
  refine s_aload_n (pc2 := 3) w dL_count_2 rfl rfl ?_
  refine s_iload_n (pc2 := 4) w dL_count_3 rfl rfl ?_
  refine g_callv (pc2 := 7) (r := [.int 0, .ref 200]) w dL_count_4 rfl rfl (as := [.ref 0, .int v]) rfl rfl rfl rfl rfl (Or.inr (Or.inl ⟨Or.inl rfl, _, _, rfl, (gk_kd_j rfl rfl), rfl⟩)) (Or.inr (Nat.le_of_ble_eq_true rfl)) ⟨v, g, rfl, ⟨rfl, rfl⟩, hp0, hp1, ?_, ?_⟩
  · intro b0 x2 y2 b1
    show V 7 [some (.ref 0), some (.int v), some (.ref 200), none] [(.int (g (6 + cN v))), .int 0, .ref 200] 202 gk_fT x2 y2 (0 + 1)
    refine s_i2l (pc2 := 8) w dL_count_7 rfl ?_
    refine m_lastoreN (pc2 := 9) (t := 0) (N := 1) w dL_count_8 rfl rfl rfl rfl (by decide) rfl ?_
    refine s_goto (tgt := 15) w dL_count_9 (by decide) ?_
    refine s_iconst (pc2 := 16) (v := 0) w dL_count_15 rfl rfl ?_
    refine s_ireturn w dL_count_16 rfl rfl ?_
    exact q0 b0 x2 y2 b1
  · intro b0 x2 y2 b1
    show V 13 [some (.ref 0), some (.int v), some (.ref 200), none] [] 202 gk_fT x2 y2 (0 + 1)
    refine s_iconst (pc2 := 14) (v := 1) w dL_count_13 rfl rfl ?_
    refine s_ireturn w dL_count_14 rfl rfl ?_
    exact q1 b0 x2 y2 b1
theorem lk_L_count {l : Launch} (hl : l.stackTraces = false) : ∀ q ∈ L_L_count, (q.2.1 < 5 → gk_Lk l RL gk_W1 7 q.1 q.2.1 q.2.2.1 q.2.2.2.1 q.2.2.2.2.1 q.2.2.2.2.2) := (List.forall_mem_cons.mpr ⟨(fun _ => ⟨yX10_count, cX10_count, 2, (some .int), 6, _, M_X10_count hl, ⟨by decide, by decide⟩, ⟨by decide, by decide, by decide +kernel⟩, ⟨(gk_wm 909 (by decide +kernel)), (gk_wm 89 (by decide +kernel))⟩, Or.inr (Or.inr (Or.inr (Or.inl ⟨rfl, rfl, (gk_wm 907 (by decide +kernel)), (gk_wm 908 (by decide +kernel)), gk_wm 906 (by decide +kernel), by decide, rfl⟩)))⟩), (fun _ h => absurd h List.not_mem_nil)⟩)
theorem sp_L_count : ∀ q ∈ L_L_count, gk_Sq RL gk_W1 7 q := (List.forall_mem_cons.mpr ⟨⟨fun h => absurd h (by decide), fun h => absurd h (by decide), fun h => absurd h (by decide), fun h => absurd h (by decide), fun h => absurd h (by decide), fun h => absurd h (by decide)⟩, (fun _ h => absurd h List.not_mem_nil)⟩)
theorem ho_L_count : ∀ z ∈ H_L_count, gk_Hok RL cL_count 4 z := (List.forall_mem_cons.mpr ⟨⟨by decide, by decide, gk_wm 726 (by decide +kernel), by decide, Or.inr ⟨3, dL_count_12, rfl, rfl⟩⟩, (fun _ h => absurd h List.not_mem_nil)⟩)
theorem M_L_count {l : Launch} (hl : l.stackTraces = false) : gk_Mt l yL_count (.codeWith yL_count cL_count 4 (some .int) (H_L_count.map gk_hr) :: gk_W1) 7 1 S_L_count := gk_methH gk_cw_ok H_L_count (by decide +kernel) rfl nt_L_count m_L_count pL_ok (gk_Sp_of sp_L_count) pL_st (fun ci m S h => absurd h (by intro h; cases h)) hno_L ho_L_count (fun idx kd ci mm cost S2 h h5 => lk_L_count hl _ (gk_lk_mem h) h5)

def S_L_emitted : gk_S := fun as n fl x y K => ∃ (s : Int32) (t : Int32) (g : Nat → Int32), as = [.ref 0, .int s, .int t, .ref 200] ∧ (n = 202 ∧ fl = gk_fT) ∧ (RS 1 g x y) ∧ (gOK g) ∧ ((0 ≤ s ∧ s < g 7) → (0 ≤ t ∧ t ≤ 255) → ∀ (x2 : gk_X) (y2 : gk_Y), COk g x x2 y y2 → K (.inl (some (.int 0))) n fl x2 (gk_uy y2 200 0 ((gI (vE g (cN s) (cN t)))).toInt64)) ∧ (¬ (0 ≤ s ∧ s < g 7) → ∀ (x2 : gk_X) (y2 : gk_Y), COk g x x2 y y2 → K (.inl (some (.int 1))) n fl x2 y2) ∧ ((0 ≤ s ∧ s < g 7) → ¬ (0 ≤ t ∧ t ≤ 255) → ∀ (x2 : gk_X) (y2 : gk_Y), COk g x x2 y y2 → K (.inl (some (.int 2))) n fl x2 y2)
theorem r_L_emitted (w : gk_W c P cs (fun _ _ => none) rt uf sc K V) {idx : Nat} {s : Int32} {t : Int32} {g : Nat → Int32} (hd : decode c pc = .ok (.invokestatic idx, 3)) (hp : pc + 3 = pc2) (hc : cs idx = some (0, 0, 4, 2, S_L_emitted)) (h8 : Nat.ble (r.map Value.category).sum 8 = true) (hu : u + 2 ≤ uf) (hp0 : RS 1 g x y) (hp1 : gOK g) (kk0 : (0 ≤ s ∧ s < g 7) → (0 ≤ t ∧ t ≤ 255) → ∀ (x2 : gk_X) (y2 : gk_Y), COk g x x2 y y2 → V pc2 L ((.int 0) :: r) 202 gk_fT x2 (gk_uy y2 200 0 ((gI (vE g (cN s) (cN t)))).toInt64) (u + 2)) (kk1 : ¬ (0 ≤ s ∧ s < g 7) → ∀ (x2 : gk_X) (y2 : gk_Y), COk g x x2 y y2 → V pc2 L ((.int 1) :: r) 202 gk_fT x2 y2 (u + 2)) (kk2 : (0 ≤ s ∧ s < g 7) → ¬ (0 ≤ t ∧ t ≤ 255) → ∀ (x2 : gk_X) (y2 : gk_Y), COk g x x2 y y2 → V pc2 L ((.int 2) :: r) 202 gk_fT x2 y2 (u + 2)) : V pc L (.ref 200 :: .int t :: .int s :: .ref 0 :: r) 202 gk_fT x y u :=
  g_calls w hd hp hc (as := [.ref 0, .int s, .int t, .ref 200]) rfl h8 rfl rfl rfl (Or.inl rfl) (Or.inr hu) ⟨s, t, g, rfl, ⟨rfl, rfl⟩, hp0, hp1, kk0, kk1, kk2⟩
theorem nt_L_emitted : gk_nt S_L_emitted := fun _ _ _ _ _ _ ⟨s, t, g, e0, e1, e2, e3, e4, e5, e6⟩ => ⟨s, t, g, e0, e1, e2, e3, e4, e5, e6⟩
def H_L_emitted : List gk_H := [(0, 10, 13, 32, 2, 15, 4), (0, 10, 17, 13, 0, 19, 4)]
def L_L_emitted : List (Nat × gk_M0) := [(48, (1, 9, 3, 2, S_X10_emitted))]
def cs_L_emitted : Nat → Option gk_M0 := gk_lk L_L_emitted
theorem m_L_emitted : ∀ (as : List Value) (n : Nat) (fl : gk_F) (x : gk_X) (y : gk_Y) (K : gk_K), S_L_emitted as n fl x y K → (gk_L0 as).length ≤ 5 ∧ ∀ V : gk_V, gk_W cL_emitted pL cs_L_emitted (gk_fh H_L_emitted) (some .int) 2 none K V → V 0 (gk_en as 5) [] n fl x y 0 := by
  intro as n fl x y K hS
  obtain ⟨s, t, g, rfl, ⟨rfl, rfl⟩, hp0, hp1, q0, q1, q2⟩ := hS
  refine ⟨Nat.le_of_ble_eq_true rfl, fun V w => ?_⟩
  show V 0 [some (.ref 0), some (.int s), some (.int t), some (.ref 200), none] [] 202 gk_fT x y 0
  refine s_aload_n (pc2 := 1) w dL_emitted_0 rfl rfl ?_
  refine s_iconst (pc2 := 2) (v := 0) w dL_emitted_1 rfl rfl ?_
  refine s_aload_n (pc2 := 3) w dL_emitted_2 rfl rfl ?_
  refine s_iload_n (pc2 := 4) w dL_emitted_3 rfl rfl ?_
  refine s_iload_n (pc2 := 5) w dL_emitted_4 rfl rfl ?_
  refine g_callv (pc2 := 8) (r := [.int 0, .ref 200]) w dL_emitted_5 rfl rfl (as := [.ref 0, .int s, .int t]) rfl rfl rfl rfl rfl (Or.inr (Or.inl ⟨Or.inl rfl, _, _, rfl, (gk_kd_j rfl rfl), rfl⟩)) (Or.inr (Nat.le_of_ble_eq_true rfl)) ⟨s, t, g, rfl, ⟨rfl, rfl⟩, hp0, hp1, ?_, ?_, ?_⟩
  · intro b0 b1 x2 y2 b2
    show V 8 [some (.ref 0), some (.int s), some (.int t), some (.ref 200), none] [(.int (gI (vE g (cN s) (cN t)))), .int 0, .ref 200] 202 gk_fT x2 y2 (0 + 2)
    refine s_i2l (pc2 := 9) w dL_emitted_8 rfl ?_
    refine m_lastoreN (pc2 := 10) (t := 0) (N := 1) w dL_emitted_9 rfl rfl rfl rfl (by decide) rfl ?_
    refine s_goto (tgt := 21) w dL_emitted_10 (by decide) ?_
    refine s_iconst (pc2 := 22) (v := 0) w dL_emitted_21 rfl rfl ?_
    refine s_ireturn w dL_emitted_22 rfl rfl ?_
    exact q0 b0 b1 x2 y2 b2
  · intro b0 x2 y2 b1
    show V 15 [some (.ref 0), some (.int s), some (.int t), some (.ref 200), none] [] 202 gk_fT x2 y2 (0 + 2)
    refine s_iconst (pc2 := 16) (v := 1) w dL_emitted_15 rfl rfl ?_
    refine s_ireturn w dL_emitted_16 rfl rfl ?_
    exact q1 b0 x2 y2 b1
  · intro b0 b1 x2 y2 b2
    show V 19 [some (.ref 0), some (.int s), some (.int t), some (.ref 200), none] [] 202 gk_fT x2 y2 (0 + 2)
    refine s_iconst (pc2 := 20) (v := 2) w dL_emitted_19 rfl rfl ?_
    refine s_ireturn w dL_emitted_20 rfl rfl ?_
    exact q2 b0 b1 x2 y2 b2
theorem lk_L_emitted {l : Launch} (hl : l.stackTraces = false) : ∀ q ∈ L_L_emitted, (q.2.1 < 5 → gk_Lk l RL gk_W1 9 q.1 q.2.1 q.2.2.1 q.2.2.2.1 q.2.2.2.2.1 q.2.2.2.2.2) := (List.forall_mem_cons.mpr ⟨(fun _ => ⟨yX10_emitted, cX10_emitted, 4, (some .int), 8, _, M_X10_emitted hl, ⟨by decide, by decide⟩, ⟨by decide, by decide, by decide +kernel⟩, ⟨(gk_wm 917 (by decide +kernel)), (gk_wm 89 (by decide +kernel))⟩, Or.inr (Or.inr (Or.inr (Or.inl ⟨rfl, rfl, (gk_wm 915 (by decide +kernel)), (gk_wm 916 (by decide +kernel)), gk_wm 914 (by decide +kernel), by decide, rfl⟩)))⟩), (fun _ h => absurd h List.not_mem_nil)⟩)
theorem sp_L_emitted : ∀ q ∈ L_L_emitted, gk_Sq RL gk_W1 9 q := (List.forall_mem_cons.mpr ⟨⟨fun h => absurd h (by decide), fun h => absurd h (by decide), fun h => absurd h (by decide), fun h => absurd h (by decide), fun h => absurd h (by decide), fun h => absurd h (by decide)⟩, (fun _ h => absurd h List.not_mem_nil)⟩)
theorem ho_L_emitted : ∀ z ∈ H_L_emitted, gk_Hok RL cL_emitted 5 z := (List.forall_mem_cons.mpr ⟨⟨by decide, by decide, gk_wm 847 (by decide +kernel), by decide, Or.inl ⟨dL_emitted_13, rfl⟩⟩, (List.forall_mem_cons.mpr ⟨⟨by decide, by decide, gk_wm 726 (by decide +kernel), by decide, Or.inl ⟨dL_emitted_17, rfl⟩⟩, (fun _ h => absurd h List.not_mem_nil)⟩)⟩)
theorem M_L_emitted {l : Launch} (hl : l.stackTraces = false) : gk_Mt l yL_emitted (.codeWith yL_emitted cL_emitted 5 (some .int) (H_L_emitted.map gk_hr) :: gk_W1) 9 2 S_L_emitted := gk_methH gk_cw_ok H_L_emitted (by decide +kernel) rfl nt_L_emitted m_L_emitted pL_ok (gk_Sp_of sp_L_emitted) pL_st (fun ci m S h => absurd h (by intro h; cases h)) hno_L ho_L_emitted (fun idx kd ci mm cost S2 h h5 => lk_L_emitted hl _ (gk_lk_mem h) h5)

def S_L_distance : gk_S := fun as n fl x y K => ∃ (m : Int32) (s : Int32) (t : Int32) (f : Int32) (g : Nat → Int32) (rf : Bool), as = [.ref 0, .int m, .int s, .int t, .int f, .ref 200] ∧ (n = 202 ∧ fl = gk_fT) ∧ (RS 1 g x y) ∧ (gOK g) ∧ (f = if rf then 1 else 0) ∧ (((0 ≤ m ∧ m < g 8) ∧ (0 ≤ s ∧ s < g 7)) → (0 ≤ t ∧ t ≤ 255) → ∀ (x2 : gk_X) (y2 : gk_Y), COk g x x2 y y2 → K (.inl (some (.int 0))) n fl x2 (gk_uy y2 200 0 ((gI (gk_dl (pA g (cN m) (cN s)) (pS g (cN s)) (pBe g (cN m) (cN s) rf) ((cN t : Nat) : Int)))).toInt64)) ∧ (¬ ((0 ≤ m ∧ m < g 8) ∧ (0 ≤ s ∧ s < g 7)) → ∀ (x2 : gk_X) (y2 : gk_Y), COk g x x2 y y2 → K (.inl (some (.int 1))) n fl x2 y2) ∧ (((0 ≤ m ∧ m < g 8) ∧ (0 ≤ s ∧ s < g 7)) → ¬ (0 ≤ t ∧ t ≤ 255) → ∀ (x2 : gk_X) (y2 : gk_Y), COk g x x2 y y2 → K (.inl (some (.int 2))) n fl x2 y2)
theorem r_L_distance (w : gk_W c P cs (fun _ _ => none) rt uf sc K V) {idx : Nat} {m : Int32} {s : Int32} {t : Int32} {f : Int32} {g : Nat → Int32} {rf : Bool} (hd : decode c pc = .ok (.invokestatic idx, 3)) (hp : pc + 3 = pc2) (hc : cs idx = some (0, 0, 6, 3, S_L_distance)) (h8 : Nat.ble (r.map Value.category).sum 8 = true) (hu : u + 3 ≤ uf) (hp0 : RS 1 g x y) (hp1 : gOK g) (hp2 : f = if rf then 1 else 0) (kk0 : ((0 ≤ m ∧ m < g 8) ∧ (0 ≤ s ∧ s < g 7)) → (0 ≤ t ∧ t ≤ 255) → ∀ (x2 : gk_X) (y2 : gk_Y), COk g x x2 y y2 → V pc2 L ((.int 0) :: r) 202 gk_fT x2 (gk_uy y2 200 0 ((gI (gk_dl (pA g (cN m) (cN s)) (pS g (cN s)) (pBe g (cN m) (cN s) rf) ((cN t : Nat) : Int)))).toInt64) (u + 3)) (kk1 : ¬ ((0 ≤ m ∧ m < g 8) ∧ (0 ≤ s ∧ s < g 7)) → ∀ (x2 : gk_X) (y2 : gk_Y), COk g x x2 y y2 → V pc2 L ((.int 1) :: r) 202 gk_fT x2 y2 (u + 3)) (kk2 : ((0 ≤ m ∧ m < g 8) ∧ (0 ≤ s ∧ s < g 7)) → ¬ (0 ≤ t ∧ t ≤ 255) → ∀ (x2 : gk_X) (y2 : gk_Y), COk g x x2 y y2 → V pc2 L ((.int 2) :: r) 202 gk_fT x2 y2 (u + 3)) : V pc L (.ref 200 :: .int f :: .int t :: .int s :: .int m :: .ref 0 :: r) 202 gk_fT x y u :=
  g_calls w hd hp hc (as := [.ref 0, .int m, .int s, .int t, .int f, .ref 200]) rfl h8 rfl rfl rfl (Or.inl rfl) (Or.inr hu) ⟨m, s, t, f, g, rf, rfl, ⟨rfl, rfl⟩, hp0, hp1, hp2, kk0, kk1, kk2⟩
theorem nt_L_distance : gk_nt S_L_distance := fun _ _ _ _ _ _ ⟨m, s, t, f, g, rf, e0, e1, e2, e3, e4, e5, e6, e7⟩ => ⟨m, s, t, f, g, rf, e0, e1, e2, e3, e4, e5, e6, e7⟩
def H_L_distance : List gk_H := [(0, 14, 17, 32, 2, 19, 6), (0, 14, 21, 13, 0, 23, 6)]
def L_L_distance : List (Nat × gk_M0) := [(51, (1, 9, 5, 3, S_X10_distance))]
def cs_L_distance : Nat → Option gk_M0 := gk_lk L_L_distance
theorem m_L_distance : ∀ (as : List Value) (n : Nat) (fl : gk_F) (x : gk_X) (y : gk_Y) (K : gk_K), S_L_distance as n fl x y K → (gk_L0 as).length ≤ 7 ∧ ∀ V : gk_V, gk_W cL_distance pL cs_L_distance (gk_fh H_L_distance) (some .int) 3 none K V → V 0 (gk_en as 7) [] n fl x y 0 := by
  intro as n fl x y K hS
  obtain ⟨m, s, t, f, g, rf, rfl, ⟨rfl, rfl⟩, hp0, hp1, hp2, q0, q1, q2⟩ := hS
  refine ⟨Nat.le_of_ble_eq_true rfl, fun V w => ?_⟩
  show V 0 [some (.ref 0), some (.int m), some (.int s), some (.int t), some (.int f), some (.ref 200), none] [] 202 gk_fT x y 0
  refine s_aload (pc2 := 2) w dL_distance_0 rfl rfl ?_
  refine s_iconst (pc2 := 3) (v := 0) w dL_distance_2 rfl rfl ?_
  refine s_aload_n (pc2 := 4) w dL_distance_3 rfl rfl ?_
  refine s_iload_n (pc2 := 5) w dL_distance_4 rfl rfl ?_
  refine s_iload_n (pc2 := 6) w dL_distance_5 rfl rfl ?_
  refine s_iload_n (pc2 := 7) w dL_distance_6 rfl rfl ?_
  refine s_iload (pc2 := 9) w dL_distance_7 rfl rfl ?_
  refine g_callv (pc2 := 12) (r := [.int 0, .ref 200]) w dL_distance_9 rfl rfl (as := [.ref 0, .int m, .int s, .int t, .int f]) rfl rfl rfl rfl rfl (Or.inr (Or.inl ⟨Or.inl rfl, _, _, rfl, (gk_kd_j rfl rfl), rfl⟩)) (Or.inr (Nat.le_of_ble_eq_true rfl)) ⟨m, s, t, f, g, rf, rfl, ⟨rfl, rfl⟩, hp0, hp1, hp2, ?_, ?_, ?_⟩
  · intro b0 b1 x2 y2 b2
    show V 12 [some (.ref 0), some (.int m), some (.int s), some (.int t), some (.int f), some (.ref 200), none] [(.int (gI (gk_dl (pA g (cN m) (cN s)) (pS g (cN s)) (pBe g (cN m) (cN s) rf) ((cN t : Nat) : Int)))), .int 0, .ref 200] 202 gk_fT x2 y2 (0 + 3)
    refine s_i2l (pc2 := 13) w dL_distance_12 rfl ?_
    refine m_lastoreN (pc2 := 14) (t := 0) (N := 1) w dL_distance_13 rfl rfl rfl rfl (by decide) rfl ?_
    refine s_goto (tgt := 25) w dL_distance_14 (by decide) ?_
    refine s_iconst (pc2 := 26) (v := 0) w dL_distance_25 rfl rfl ?_
    refine s_ireturn w dL_distance_26 rfl rfl ?_
    exact q0 b0 b1 x2 y2 b2
  · intro b0 x2 y2 b1
    show V 19 [some (.ref 0), some (.int m), some (.int s), some (.int t), some (.int f), some (.ref 200), none] [] 202 gk_fT x2 y2 (0 + 3)
    refine s_iconst (pc2 := 20) (v := 1) w dL_distance_19 rfl rfl ?_
    refine s_ireturn w dL_distance_20 rfl rfl ?_
    exact q1 b0 x2 y2 b1
  · intro b0 b1 x2 y2 b2
    show V 23 [some (.ref 0), some (.int m), some (.int s), some (.int t), some (.int f), some (.ref 200), none] [] 202 gk_fT x2 y2 (0 + 3)
    refine s_iconst (pc2 := 24) (v := 2) w dL_distance_23 rfl rfl ?_
    refine s_ireturn w dL_distance_24 rfl rfl ?_
    exact q2 b0 b1 x2 y2 b2
theorem lk_L_distance {l : Launch} (hl : l.stackTraces = false) : ∀ q ∈ L_L_distance, (q.2.1 < 5 → gk_Lk l RL gk_W1 10 q.1 q.2.1 q.2.2.1 q.2.2.2.1 q.2.2.2.2.1 q.2.2.2.2.2) := (List.forall_mem_cons.mpr ⟨(fun _ => ⟨yX10_distance, cX10_distance, 5, (some .int), 9, _, M_X10_distance hl, ⟨by decide, by decide⟩, ⟨by decide, by decide, by decide +kernel⟩, ⟨(gk_wm 928 (by decide +kernel)), (gk_wm 89 (by decide +kernel))⟩, Or.inr (Or.inr (Or.inr (Or.inl ⟨rfl, rfl, (gk_wm 926 (by decide +kernel)), (gk_wm 927 (by decide +kernel)), gk_wm 925 (by decide +kernel), by decide, rfl⟩)))⟩), (fun _ h => absurd h List.not_mem_nil)⟩)
theorem sp_L_distance : ∀ q ∈ L_L_distance, gk_Sq RL gk_W1 10 q := (List.forall_mem_cons.mpr ⟨⟨fun h => absurd h (by decide), fun h => absurd h (by decide), fun h => absurd h (by decide), fun h => absurd h (by decide), fun h => absurd h (by decide), fun h => absurd h (by decide)⟩, (fun _ h => absurd h List.not_mem_nil)⟩)
theorem ho_L_distance : ∀ z ∈ H_L_distance, gk_Hok RL cL_distance 7 z := (List.forall_mem_cons.mpr ⟨⟨by decide, by decide, gk_wm 847 (by decide +kernel), by decide, Or.inl ⟨dL_distance_17, rfl⟩⟩, (List.forall_mem_cons.mpr ⟨⟨by decide, by decide, gk_wm 726 (by decide +kernel), by decide, Or.inl ⟨dL_distance_21, rfl⟩⟩, (fun _ h => absurd h List.not_mem_nil)⟩)⟩)
theorem M_L_distance {l : Launch} (hl : l.stackTraces = false) : gk_Mt l yL_distance (.codeWith yL_distance cL_distance 7 (some .int) (H_L_distance.map gk_hr) :: gk_W1) 10 3 S_L_distance := gk_methH gk_cw_ok H_L_distance (by decide +kernel) rfl nt_L_distance m_L_distance pL_ok (gk_Sp_of sp_L_distance) pL_st (fun ci m S h => absurd h (by intro h; cases h)) hno_L ho_L_distance (fun idx kd ci mm cost S2 h h5 => lk_L_distance hl _ (gk_lk_mem h) h5)

def S_L_emissionTime : gk_S := fun as n fl x y K => ∃ (m : Int32) (s : Int32) (t : Int32) (f : Int32) (g : Nat → Int32) (rf : Bool), as = [.ref 0, .int m, .int s, .int t, .int f, .ref 200] ∧ (n = 202 ∧ fl = gk_fT) ∧ (RS 1 g x y) ∧ (gOK g) ∧ (f = if rf then 1 else 0) ∧ (((0 ≤ m ∧ m < g 8) ∧ (0 ≤ s ∧ s < g 7)) → (0 ≤ t ∧ t ≤ 255) → ∀ (x2 : gk_X) (y2 : gk_Y), COk g x x2 y y2 → K (.inl (some (.int 0))) n fl x2 (gk_uy y2 200 0 ((gI (gk_last (gk_lp2 (pA g (cN m) (cN s)) (pS g (cN s)) (pBe g (cN m) (cN s) rf) (gz g 0) ((cN t : Nat) : Int)) (cN t + 1)))).toInt64)) ∧ (¬ ((0 ≤ m ∧ m < g 8) ∧ (0 ≤ s ∧ s < g 7)) → ∀ (x2 : gk_X) (y2 : gk_Y), COk g x x2 y y2 → K (.inl (some (.int 1))) n fl x2 y2) ∧ (((0 ≤ m ∧ m < g 8) ∧ (0 ≤ s ∧ s < g 7)) → ¬ (0 ≤ t ∧ t ≤ 255) → ∀ (x2 : gk_X) (y2 : gk_Y), COk g x x2 y y2 → K (.inl (some (.int 2))) n fl x2 y2)
theorem r_L_emissionTime (w : gk_W c P cs (fun _ _ => none) rt uf sc K V) {idx : Nat} {m : Int32} {s : Int32} {t : Int32} {f : Int32} {g : Nat → Int32} {rf : Bool} (hd : decode c pc = .ok (.invokestatic idx, 3)) (hp : pc + 3 = pc2) (hc : cs idx = some (0, 0, 6, 3, S_L_emissionTime)) (h8 : Nat.ble (r.map Value.category).sum 8 = true) (hu : u + 3 ≤ uf) (hp0 : RS 1 g x y) (hp1 : gOK g) (hp2 : f = if rf then 1 else 0) (kk0 : ((0 ≤ m ∧ m < g 8) ∧ (0 ≤ s ∧ s < g 7)) → (0 ≤ t ∧ t ≤ 255) → ∀ (x2 : gk_X) (y2 : gk_Y), COk g x x2 y y2 → V pc2 L ((.int 0) :: r) 202 gk_fT x2 (gk_uy y2 200 0 ((gI (gk_last (gk_lp2 (pA g (cN m) (cN s)) (pS g (cN s)) (pBe g (cN m) (cN s) rf) (gz g 0) ((cN t : Nat) : Int)) (cN t + 1)))).toInt64) (u + 3)) (kk1 : ¬ ((0 ≤ m ∧ m < g 8) ∧ (0 ≤ s ∧ s < g 7)) → ∀ (x2 : gk_X) (y2 : gk_Y), COk g x x2 y y2 → V pc2 L ((.int 1) :: r) 202 gk_fT x2 y2 (u + 3)) (kk2 : ((0 ≤ m ∧ m < g 8) ∧ (0 ≤ s ∧ s < g 7)) → ¬ (0 ≤ t ∧ t ≤ 255) → ∀ (x2 : gk_X) (y2 : gk_Y), COk g x x2 y y2 → V pc2 L ((.int 2) :: r) 202 gk_fT x2 y2 (u + 3)) : V pc L (.ref 200 :: .int f :: .int t :: .int s :: .int m :: .ref 0 :: r) 202 gk_fT x y u :=
  g_calls w hd hp hc (as := [.ref 0, .int m, .int s, .int t, .int f, .ref 200]) rfl h8 rfl rfl rfl (Or.inl rfl) (Or.inr hu) ⟨m, s, t, f, g, rf, rfl, ⟨rfl, rfl⟩, hp0, hp1, hp2, kk0, kk1, kk2⟩
theorem nt_L_emissionTime : gk_nt S_L_emissionTime := fun _ _ _ _ _ _ ⟨m, s, t, f, g, rf, e0, e1, e2, e3, e4, e5, e6, e7⟩ => ⟨m, s, t, f, g, rf, e0, e1, e2, e3, e4, e5, e6, e7⟩
def H_L_emissionTime : List gk_H := [(0, 14, 17, 32, 2, 19, 6), (0, 14, 21, 13, 0, 23, 6)]
def L_L_emissionTime : List (Nat × gk_M0) := [(55, (1, 9, 5, 3, S_X10_emissionTime))]
def cs_L_emissionTime : Nat → Option gk_M0 := gk_lk L_L_emissionTime
theorem m_L_emissionTime : ∀ (as : List Value) (n : Nat) (fl : gk_F) (x : gk_X) (y : gk_Y) (K : gk_K), S_L_emissionTime as n fl x y K → (gk_L0 as).length ≤ 7 ∧ ∀ V : gk_V, gk_W cL_emissionTime pL cs_L_emissionTime (gk_fh H_L_emissionTime) (some .int) 3 none K V → V 0 (gk_en as 7) [] n fl x y 0 := by
  intro as n fl x y K hS
  obtain ⟨m, s, t, f, g, rf, rfl, ⟨rfl, rfl⟩, hp0, hp1, hp2, q0, q1, q2⟩ := hS
  refine ⟨Nat.le_of_ble_eq_true rfl, fun V w => ?_⟩
  show V 0 [some (.ref 0), some (.int m), some (.int s), some (.int t), some (.int f), some (.ref 200), none] [] 202 gk_fT x y 0
  refine s_aload (pc2 := 2) w dL_emissionTime_0 rfl rfl ?_
  refine s_iconst (pc2 := 3) (v := 0) w dL_emissionTime_2 rfl rfl ?_
  refine s_aload_n (pc2 := 4) w dL_emissionTime_3 rfl rfl ?_
  refine s_iload_n (pc2 := 5) w dL_emissionTime_4 rfl rfl ?_
  refine s_iload_n (pc2 := 6) w dL_emissionTime_5 rfl rfl ?_
  refine s_iload_n (pc2 := 7) w dL_emissionTime_6 rfl rfl ?_
  refine s_iload (pc2 := 9) w dL_emissionTime_7 rfl rfl ?_
  refine g_callv (pc2 := 12) (r := [.int 0, .ref 200]) w dL_emissionTime_9 rfl rfl (as := [.ref 0, .int m, .int s, .int t, .int f]) rfl rfl rfl rfl rfl (Or.inr (Or.inl ⟨Or.inl rfl, _, _, rfl, (gk_kd_j rfl rfl), rfl⟩)) (Or.inr (Nat.le_of_ble_eq_true rfl)) ⟨m, s, t, f, g, rf, rfl, ⟨rfl, rfl⟩, hp0, hp1, hp2, ?_, ?_, ?_⟩
  · intro b0 b1 x2 y2 b2
    show V 12 [some (.ref 0), some (.int m), some (.int s), some (.int t), some (.int f), some (.ref 200), none] [(.int (gI (gk_last (gk_lp2 (pA g (cN m) (cN s)) (pS g (cN s)) (pBe g (cN m) (cN s) rf) (gz g 0) ((cN t : Nat) : Int)) (cN t + 1)))), .int 0, .ref 200] 202 gk_fT x2 y2 (0 + 3)
    refine s_i2l (pc2 := 13) w dL_emissionTime_12 rfl ?_
    refine m_lastoreN (pc2 := 14) (t := 0) (N := 1) w dL_emissionTime_13 rfl rfl rfl rfl (by decide) rfl ?_
    refine s_goto (tgt := 25) w dL_emissionTime_14 (by decide) ?_
    refine s_iconst (pc2 := 26) (v := 0) w dL_emissionTime_25 rfl rfl ?_
    refine s_ireturn w dL_emissionTime_26 rfl rfl ?_
    exact q0 b0 b1 x2 y2 b2
  · intro b0 x2 y2 b1
    show V 19 [some (.ref 0), some (.int m), some (.int s), some (.int t), some (.int f), some (.ref 200), none] [] 202 gk_fT x2 y2 (0 + 3)
    refine s_iconst (pc2 := 20) (v := 1) w dL_emissionTime_19 rfl rfl ?_
    refine s_ireturn w dL_emissionTime_20 rfl rfl ?_
    exact q1 b0 x2 y2 b1
  · intro b0 b1 x2 y2 b2
    show V 23 [some (.ref 0), some (.int m), some (.int s), some (.int t), some (.int f), some (.ref 200), none] [] 202 gk_fT x2 y2 (0 + 3)
    refine s_iconst (pc2 := 24) (v := 2) w dL_emissionTime_23 rfl rfl ?_
    refine s_ireturn w dL_emissionTime_24 rfl rfl ?_
    exact q2 b0 b1 x2 y2 b2
theorem lk_L_emissionTime {l : Launch} (hl : l.stackTraces = false) : ∀ q ∈ L_L_emissionTime, (q.2.1 < 5 → gk_Lk l RL gk_W1 10 q.1 q.2.1 q.2.2.1 q.2.2.2.1 q.2.2.2.2.1 q.2.2.2.2.2) := (List.forall_mem_cons.mpr ⟨(fun _ => ⟨yX10_emissionTime, cX10_emissionTime, 5, (some .int), 9, _, M_X10_emissionTime hl, ⟨by decide, by decide⟩, ⟨by decide, by decide, by decide +kernel⟩, ⟨(gk_wm 941 (by decide +kernel)), (gk_wm 89 (by decide +kernel))⟩, Or.inr (Or.inr (Or.inr (Or.inl ⟨rfl, rfl, (gk_wm 939 (by decide +kernel)), (gk_wm 940 (by decide +kernel)), gk_wm 938 (by decide +kernel), by decide, rfl⟩)))⟩), (fun _ h => absurd h List.not_mem_nil)⟩)
theorem sp_L_emissionTime : ∀ q ∈ L_L_emissionTime, gk_Sq RL gk_W1 10 q := (List.forall_mem_cons.mpr ⟨⟨fun h => absurd h (by decide), fun h => absurd h (by decide), fun h => absurd h (by decide), fun h => absurd h (by decide), fun h => absurd h (by decide), fun h => absurd h (by decide)⟩, (fun _ h => absurd h List.not_mem_nil)⟩)
theorem ho_L_emissionTime : ∀ z ∈ H_L_emissionTime, gk_Hok RL cL_emissionTime 7 z := (List.forall_mem_cons.mpr ⟨⟨by decide, by decide, gk_wm 847 (by decide +kernel), by decide, Or.inl ⟨dL_emissionTime_17, rfl⟩⟩, (List.forall_mem_cons.mpr ⟨⟨by decide, by decide, gk_wm 726 (by decide +kernel), by decide, Or.inl ⟨dL_emissionTime_21, rfl⟩⟩, (fun _ h => absurd h List.not_mem_nil)⟩)⟩)
theorem M_L_emissionTime {l : Launch} (hl : l.stackTraces = false) : gk_Mt l yL_emissionTime (.codeWith yL_emissionTime cL_emissionTime 7 (some .int) (H_L_emissionTime.map gk_hr) :: gk_W1) 10 3 S_L_emissionTime := gk_methH gk_cw_ok H_L_emissionTime (by decide +kernel) rfl nt_L_emissionTime m_L_emissionTime pL_ok (gk_Sp_of sp_L_emissionTime) pL_st (fun ci m S h => absurd h (by intro h; cases h)) hno_L ho_L_emissionTime (fun idx kd ci mm cost S2 h h5 => lk_L_emissionTime hl _ (gk_lk_mem h) h5)

def S_L_passTime : gk_S := fun as n fl x y K => ∃ (v : Int32) (m : Int32) (g : Nat → Int32), as = [.ref 0, .int v, .int m, .ref 200] ∧ (n = 202 ∧ fl = gk_fT) ∧ (RS 1 g x y) ∧ (gOK g) ∧ (((0 ≤ v ∧ v < g 6) ∧ (0 ≤ m ∧ m < g 8)) → ∀ (x2 : gk_X) (y2 : gk_Y), COk g x x2 y y2 → K (.inl (some (.int 0))) n fl x2 (gk_uy y2 200 0 (((gk_mn (dP g (cN v) (cN m)) (0, 2147483647) 256).1)).toInt64)) ∧ (¬ ((0 ≤ v ∧ v < g 6) ∧ (0 ≤ m ∧ m < g 8)) → ∀ (x2 : gk_X) (y2 : gk_Y), COk g x x2 y y2 → K (.inl (some (.int 1))) n fl x2 y2)
theorem r_L_passTime (w : gk_W c P cs (fun _ _ => none) rt uf sc K V) {idx : Nat} {v : Int32} {m : Int32} {g : Nat → Int32} (hd : decode c pc = .ok (.invokestatic idx, 3)) (hp : pc + 3 = pc2) (hc : cs idx = some (0, 0, 4, 2, S_L_passTime)) (h8 : Nat.ble (r.map Value.category).sum 8 = true) (hu : u + 2 ≤ uf) (hp0 : RS 1 g x y) (hp1 : gOK g) (kk0 : ((0 ≤ v ∧ v < g 6) ∧ (0 ≤ m ∧ m < g 8)) → ∀ (x2 : gk_X) (y2 : gk_Y), COk g x x2 y y2 → V pc2 L ((.int 0) :: r) 202 gk_fT x2 (gk_uy y2 200 0 (((gk_mn (dP g (cN v) (cN m)) (0, 2147483647) 256).1)).toInt64) (u + 2)) (kk1 : ¬ ((0 ≤ v ∧ v < g 6) ∧ (0 ≤ m ∧ m < g 8)) → ∀ (x2 : gk_X) (y2 : gk_Y), COk g x x2 y y2 → V pc2 L ((.int 1) :: r) 202 gk_fT x2 y2 (u + 2)) : V pc L (.ref 200 :: .int m :: .int v :: .ref 0 :: r) 202 gk_fT x y u :=
  g_calls w hd hp hc (as := [.ref 0, .int v, .int m, .ref 200]) rfl h8 rfl rfl rfl (Or.inl rfl) (Or.inr hu) ⟨v, m, g, rfl, ⟨rfl, rfl⟩, hp0, hp1, kk0, kk1⟩
theorem nt_L_passTime : gk_nt S_L_passTime := fun _ _ _ _ _ _ ⟨v, m, g, e0, e1, e2, e3, e4, e5⟩ => ⟨v, m, g, e0, e1, e2, e3, e4, e5⟩
def H_L_passTime : List gk_H := [(0, 10, 13, 32, 2, 15, 4)]
def L_L_passTime : List (Nat × gk_M0) := [(58, (1, 9, 3, 2, S_X10_passTime))]
def cs_L_passTime : Nat → Option gk_M0 := gk_lk L_L_passTime
theorem m_L_passTime : ∀ (as : List Value) (n : Nat) (fl : gk_F) (x : gk_X) (y : gk_Y) (K : gk_K), S_L_passTime as n fl x y K → (gk_L0 as).length ≤ 5 ∧ ∀ V : gk_V, gk_W cL_passTime pL cs_L_passTime (gk_fh H_L_passTime) (some .int) 2 none K V → V 0 (gk_en as 5) [] n fl x y 0 := by
  intro as n fl x y K hS
  obtain ⟨v, m, g, rfl, ⟨rfl, rfl⟩, hp0, hp1, q0, q1⟩ := hS
  refine ⟨Nat.le_of_ble_eq_true rfl, fun V w => ?_⟩
  show V 0 [some (.ref 0), some (.int v), some (.int m), some (.ref 200), none] [] 202 gk_fT x y 0
  refine s_aload_n (pc2 := 1) w dL_passTime_0 rfl rfl ?_
  refine s_iconst (pc2 := 2) (v := 0) w dL_passTime_1 rfl rfl ?_
  refine s_aload_n (pc2 := 3) w dL_passTime_2 rfl rfl ?_
  refine s_iload_n (pc2 := 4) w dL_passTime_3 rfl rfl ?_
  refine s_iload_n (pc2 := 5) w dL_passTime_4 rfl rfl ?_
  refine g_callv (pc2 := 8) (r := [.int 0, .ref 200]) w dL_passTime_5 rfl rfl (as := [.ref 0, .int v, .int m]) rfl rfl rfl rfl rfl (Or.inr (Or.inl ⟨Or.inl rfl, _, _, rfl, (gk_kd_j rfl rfl), rfl⟩)) (Or.inr (Nat.le_of_ble_eq_true rfl)) ⟨v, m, g, rfl, ⟨rfl, rfl⟩, hp0, hp1, ?_, ?_⟩
  · intro b0 x2 y2 b1
    show V 8 [some (.ref 0), some (.int v), some (.int m), some (.ref 200), none] [(.int ((gk_mn (dP g (cN v) (cN m)) (0, 2147483647) 256).1)), .int 0, .ref 200] 202 gk_fT x2 y2 (0 + 2)
    refine s_i2l (pc2 := 9) w dL_passTime_8 rfl ?_
    refine m_lastoreN (pc2 := 10) (t := 0) (N := 1) w dL_passTime_9 rfl rfl rfl rfl (by decide) rfl ?_
    refine s_goto (tgt := 17) w dL_passTime_10 (by decide) ?_
    refine s_iconst (pc2 := 18) (v := 0) w dL_passTime_17 rfl rfl ?_
    refine s_ireturn w dL_passTime_18 rfl rfl ?_
    exact q0 b0 x2 y2 b1
  · intro b0 x2 y2 b1
    show V 15 [some (.ref 0), some (.int v), some (.int m), some (.ref 200), none] [] 202 gk_fT x2 y2 (0 + 2)
    refine s_iconst (pc2 := 16) (v := 1) w dL_passTime_15 rfl rfl ?_
    refine s_ireturn w dL_passTime_16 rfl rfl ?_
    exact q1 b0 x2 y2 b1
theorem lk_L_passTime {l : Launch} (hl : l.stackTraces = false) : ∀ q ∈ L_L_passTime, (q.2.1 < 5 → gk_Lk l RL gk_W1 9 q.1 q.2.1 q.2.2.1 q.2.2.2.1 q.2.2.2.2.1 q.2.2.2.2.2) := (List.forall_mem_cons.mpr ⟨(fun _ => ⟨yX10_passTime, cX10_passTime, 4, (some .int), 8, _, M_X10_passTime hl, ⟨by decide, by decide⟩, ⟨by decide, by decide, by decide +kernel⟩, ⟨(gk_wm 953 (by decide +kernel)), (gk_wm 89 (by decide +kernel))⟩, Or.inr (Or.inr (Or.inr (Or.inl ⟨rfl, rfl, (gk_wm 951 (by decide +kernel)), (gk_wm 952 (by decide +kernel)), gk_wm 950 (by decide +kernel), by decide, rfl⟩)))⟩), (fun _ h => absurd h List.not_mem_nil)⟩)
theorem sp_L_passTime : ∀ q ∈ L_L_passTime, gk_Sq RL gk_W1 9 q := (List.forall_mem_cons.mpr ⟨⟨fun h => absurd h (by decide), fun h => absurd h (by decide), fun h => absurd h (by decide), fun h => absurd h (by decide), fun h => absurd h (by decide), fun h => absurd h (by decide)⟩, (fun _ h => absurd h List.not_mem_nil)⟩)
theorem ho_L_passTime : ∀ z ∈ H_L_passTime, gk_Hok RL cL_passTime 5 z := (List.forall_mem_cons.mpr ⟨⟨by decide, by decide, gk_wm 847 (by decide +kernel), by decide, Or.inl ⟨dL_passTime_13, rfl⟩⟩, (fun _ h => absurd h List.not_mem_nil)⟩)
theorem M_L_passTime {l : Launch} (hl : l.stackTraces = false) : gk_Mt l yL_passTime (.codeWith yL_passTime cL_passTime 5 (some .int) (H_L_passTime.map gk_hr) :: gk_W1) 9 2 S_L_passTime := gk_methH gk_cw_ok H_L_passTime (by decide +kernel) rfl nt_L_passTime m_L_passTime pL_ok (gk_Sp_of sp_L_passTime) pL_st (fun ci m S h => absurd h (by intro h; cases h)) hno_L ho_L_passTime (fun idx kd ci mm cost S2 h h5 => lk_L_passTime hl _ (gk_lk_mem h) h5)

def S_L_sample : gk_S := fun as n fl x y K => ∃ (m : Int32) (t : Int32) (g : Nat → Int32), as = [.ref 0, .int m, .int t, .ref 200] ∧ (n = 202 ∧ fl = gk_fT) ∧ (RS 1 g x y) ∧ (gOK g) ∧ ((0 ≤ m ∧ m < g 8) → (0 ≤ t ∧ t ≤ 255) → ∀ (x2 : gk_X) (y2 : gk_Y), COk g x x2 y y2 → K (.inl (some (.int 0))) n fl x2 (gk_uy y2 200 0 ((g (186 + 256 * cN m + cN t))).toInt64)) ∧ (¬ (0 ≤ m ∧ m < g 8) → ∀ (x2 : gk_X) (y2 : gk_Y), COk g x x2 y y2 → K (.inl (some (.int 1))) n fl x2 y2) ∧ ((0 ≤ m ∧ m < g 8) → ¬ (0 ≤ t ∧ t ≤ 255) → ∀ (x2 : gk_X) (y2 : gk_Y), COk g x x2 y y2 → K (.inl (some (.int 2))) n fl x2 y2)
theorem r_L_sample (w : gk_W c P cs (fun _ _ => none) rt uf sc K V) {idx : Nat} {m : Int32} {t : Int32} {g : Nat → Int32} (hd : decode c pc = .ok (.invokestatic idx, 3)) (hp : pc + 3 = pc2) (hc : cs idx = some (0, 0, 4, 2, S_L_sample)) (h8 : Nat.ble (r.map Value.category).sum 8 = true) (hu : u + 2 ≤ uf) (hp0 : RS 1 g x y) (hp1 : gOK g) (kk0 : (0 ≤ m ∧ m < g 8) → (0 ≤ t ∧ t ≤ 255) → ∀ (x2 : gk_X) (y2 : gk_Y), COk g x x2 y y2 → V pc2 L ((.int 0) :: r) 202 gk_fT x2 (gk_uy y2 200 0 ((g (186 + 256 * cN m + cN t))).toInt64) (u + 2)) (kk1 : ¬ (0 ≤ m ∧ m < g 8) → ∀ (x2 : gk_X) (y2 : gk_Y), COk g x x2 y y2 → V pc2 L ((.int 1) :: r) 202 gk_fT x2 y2 (u + 2)) (kk2 : (0 ≤ m ∧ m < g 8) → ¬ (0 ≤ t ∧ t ≤ 255) → ∀ (x2 : gk_X) (y2 : gk_Y), COk g x x2 y y2 → V pc2 L ((.int 2) :: r) 202 gk_fT x2 y2 (u + 2)) : V pc L (.ref 200 :: .int t :: .int m :: .ref 0 :: r) 202 gk_fT x y u :=
  g_calls w hd hp hc (as := [.ref 0, .int m, .int t, .ref 200]) rfl h8 rfl rfl rfl (Or.inl rfl) (Or.inr hu) ⟨m, t, g, rfl, ⟨rfl, rfl⟩, hp0, hp1, kk0, kk1, kk2⟩
theorem nt_L_sample : gk_nt S_L_sample := fun _ _ _ _ _ _ ⟨m, t, g, e0, e1, e2, e3, e4, e5, e6⟩ => ⟨m, t, g, e0, e1, e2, e3, e4, e5, e6⟩
def H_L_sample : List gk_H := [(0, 10, 13, 32, 2, 15, 4), (0, 10, 17, 13, 0, 19, 4)]
def L_L_sample : List (Nat × gk_M0) := [(61, (1, 9, 3, 2, S_X10_sample))]
def cs_L_sample : Nat → Option gk_M0 := gk_lk L_L_sample
theorem m_L_sample : ∀ (as : List Value) (n : Nat) (fl : gk_F) (x : gk_X) (y : gk_Y) (K : gk_K), S_L_sample as n fl x y K → (gk_L0 as).length ≤ 5 ∧ ∀ V : gk_V, gk_W cL_sample pL cs_L_sample (gk_fh H_L_sample) (some .int) 2 none K V → V 0 (gk_en as 5) [] n fl x y 0 := by
  intro as n fl x y K hS
  obtain ⟨m, t, g, rfl, ⟨rfl, rfl⟩, hp0, hp1, q0, q1, q2⟩ := hS
  refine ⟨Nat.le_of_ble_eq_true rfl, fun V w => ?_⟩
  show V 0 [some (.ref 0), some (.int m), some (.int t), some (.ref 200), none] [] 202 gk_fT x y 0
  refine s_aload_n (pc2 := 1) w dL_sample_0 rfl rfl ?_
  refine s_iconst (pc2 := 2) (v := 0) w dL_sample_1 rfl rfl ?_
  refine s_aload_n (pc2 := 3) w dL_sample_2 rfl rfl ?_
  refine s_iload_n (pc2 := 4) w dL_sample_3 rfl rfl ?_
  refine s_iload_n (pc2 := 5) w dL_sample_4 rfl rfl ?_
  refine g_callv (pc2 := 8) (r := [.int 0, .ref 200]) w dL_sample_5 rfl rfl (as := [.ref 0, .int m, .int t]) rfl rfl rfl rfl rfl (Or.inr (Or.inl ⟨Or.inl rfl, _, _, rfl, (gk_kd_j rfl rfl), rfl⟩)) (Or.inr (Nat.le_of_ble_eq_true rfl)) ⟨m, t, g, rfl, ⟨rfl, rfl⟩, hp0, hp1, ?_, ?_, ?_⟩
  · intro b0 b1 x2 y2 b2
    show V 8 [some (.ref 0), some (.int m), some (.int t), some (.ref 200), none] [(.int (g (186 + 256 * cN m + cN t))), .int 0, .ref 200] 202 gk_fT x2 y2 (0 + 2)
    refine s_i2l (pc2 := 9) w dL_sample_8 rfl ?_
    refine m_lastoreN (pc2 := 10) (t := 0) (N := 1) w dL_sample_9 rfl rfl rfl rfl (by decide) rfl ?_
    refine s_goto (tgt := 21) w dL_sample_10 (by decide) ?_
    refine s_iconst (pc2 := 22) (v := 0) w dL_sample_21 rfl rfl ?_
    refine s_ireturn w dL_sample_22 rfl rfl ?_
    exact q0 b0 b1 x2 y2 b2
  · intro b0 x2 y2 b1
    show V 15 [some (.ref 0), some (.int m), some (.int t), some (.ref 200), none] [] 202 gk_fT x2 y2 (0 + 2)
    refine s_iconst (pc2 := 16) (v := 1) w dL_sample_15 rfl rfl ?_
    refine s_ireturn w dL_sample_16 rfl rfl ?_
    exact q1 b0 x2 y2 b1
  · intro b0 b1 x2 y2 b2
    show V 19 [some (.ref 0), some (.int m), some (.int t), some (.ref 200), none] [] 202 gk_fT x2 y2 (0 + 2)
    refine s_iconst (pc2 := 20) (v := 2) w dL_sample_19 rfl rfl ?_
    refine s_ireturn w dL_sample_20 rfl rfl ?_
    exact q2 b0 b1 x2 y2 b2
theorem lk_L_sample {l : Launch} (hl : l.stackTraces = false) : ∀ q ∈ L_L_sample, (q.2.1 < 5 → gk_Lk l RL gk_W1 9 q.1 q.2.1 q.2.2.1 q.2.2.2.1 q.2.2.2.2.1 q.2.2.2.2.2) := (List.forall_mem_cons.mpr ⟨(fun _ => ⟨yX10_sample, cX10_sample, 4, (some .int), 8, _, M_X10_sample hl, ⟨by decide, by decide⟩, ⟨by decide, by decide, by decide +kernel⟩, ⟨(gk_wm 968 (by decide +kernel)), (gk_wm 89 (by decide +kernel))⟩, Or.inr (Or.inr (Or.inr (Or.inl ⟨rfl, rfl, (gk_wm 966 (by decide +kernel)), (gk_wm 967 (by decide +kernel)), gk_wm 965 (by decide +kernel), by decide, rfl⟩)))⟩), (fun _ h => absurd h List.not_mem_nil)⟩)
theorem sp_L_sample : ∀ q ∈ L_L_sample, gk_Sq RL gk_W1 9 q := (List.forall_mem_cons.mpr ⟨⟨fun h => absurd h (by decide), fun h => absurd h (by decide), fun h => absurd h (by decide), fun h => absurd h (by decide), fun h => absurd h (by decide), fun h => absurd h (by decide)⟩, (fun _ h => absurd h List.not_mem_nil)⟩)
theorem ho_L_sample : ∀ z ∈ H_L_sample, gk_Hok RL cL_sample 5 z := (List.forall_mem_cons.mpr ⟨⟨by decide, by decide, gk_wm 847 (by decide +kernel), by decide, Or.inl ⟨dL_sample_13, rfl⟩⟩, (List.forall_mem_cons.mpr ⟨⟨by decide, by decide, gk_wm 726 (by decide +kernel), by decide, Or.inl ⟨dL_sample_17, rfl⟩⟩, (fun _ h => absurd h List.not_mem_nil)⟩)⟩)
theorem M_L_sample {l : Launch} (hl : l.stackTraces = false) : gk_Mt l yL_sample (.codeWith yL_sample cL_sample 5 (some .int) (H_L_sample.map gk_hr) :: gk_W1) 9 2 S_L_sample := gk_methH gk_cw_ok H_L_sample (by decide +kernel) rfl nt_L_sample m_L_sample pL_ok (gk_Sp_of sp_L_sample) pL_st (fun ci m S h => absurd h (by intro h; cases h)) hno_L ho_L_sample (fun idx kd ci mm cost S2 h h5 => lk_L_sample hl _ (gk_lk_mem h) h5)

def S_L_measureRecord : gk_S := fun as n fl x y K => ∃ (m : Int32) (z : Int32) (f : Int32) (l : Int32) (g : Nat → Int32), as = [.ref 0, .int m, .int z, .int f, .int l, .ref 200] ∧ (n = 202 ∧ fl = gk_fT) ∧ (RS 1 g x y) ∧ (gOK g) ∧ ((0 ≤ m ∧ m < g 8) → ((0 ≤ z ∧ z ≤ 4) ∧ (0 ≤ f ∧ f ≤ l ∧ l ≤ 255)) → ∀ (x2 : gk_X) (y2 : gk_Y), COk g x x2 y y2 → K (.inl (some (.int 0))) n fl x2 (gk_uy y2 200 0 ((gk_ms (gC g (cN m)) (cN z) (cN f) (cN l))))) ∧ (¬ (0 ≤ m ∧ m < g 8) → ∀ (x2 : gk_X) (y2 : gk_Y), COk g x x2 y y2 → K (.inl (some (.int 1))) n fl x2 y2) ∧ ((0 ≤ m ∧ m < g 8) → ¬ ((0 ≤ z ∧ z ≤ 4) ∧ (0 ≤ f ∧ f ≤ l ∧ l ≤ 255)) → ∀ (x2 : gk_X) (y2 : gk_Y), COk g x x2 y y2 → K (.inl (some (.int 2))) n fl x2 y2)
theorem r_L_measureRecord (w : gk_W c P cs (fun _ _ => none) rt uf sc K V) {idx : Nat} {m : Int32} {z : Int32} {f : Int32} {l : Int32} {g : Nat → Int32} (hd : decode c pc = .ok (.invokestatic idx, 3)) (hp : pc + 3 = pc2) (hc : cs idx = some (0, 0, 6, 4, S_L_measureRecord)) (h8 : Nat.ble (r.map Value.category).sum 8 = true) (hu : u + 4 ≤ uf) (hp0 : RS 1 g x y) (hp1 : gOK g) (kk0 : (0 ≤ m ∧ m < g 8) → ((0 ≤ z ∧ z ≤ 4) ∧ (0 ≤ f ∧ f ≤ l ∧ l ≤ 255)) → ∀ (x2 : gk_X) (y2 : gk_Y), COk g x x2 y y2 → V pc2 L ((.int 0) :: r) 202 gk_fT x2 (gk_uy y2 200 0 ((gk_ms (gC g (cN m)) (cN z) (cN f) (cN l)))) (u + 4)) (kk1 : ¬ (0 ≤ m ∧ m < g 8) → ∀ (x2 : gk_X) (y2 : gk_Y), COk g x x2 y y2 → V pc2 L ((.int 1) :: r) 202 gk_fT x2 y2 (u + 4)) (kk2 : (0 ≤ m ∧ m < g 8) → ¬ ((0 ≤ z ∧ z ≤ 4) ∧ (0 ≤ f ∧ f ≤ l ∧ l ≤ 255)) → ∀ (x2 : gk_X) (y2 : gk_Y), COk g x x2 y y2 → V pc2 L ((.int 2) :: r) 202 gk_fT x2 y2 (u + 4)) : V pc L (.ref 200 :: .int l :: .int f :: .int z :: .int m :: .ref 0 :: r) 202 gk_fT x y u :=
  g_calls w hd hp hc (as := [.ref 0, .int m, .int z, .int f, .int l, .ref 200]) rfl h8 rfl rfl rfl (Or.inl rfl) (Or.inr hu) ⟨m, z, f, l, g, rfl, ⟨rfl, rfl⟩, hp0, hp1, kk0, kk1, kk2⟩
theorem nt_L_measureRecord : gk_nt S_L_measureRecord := fun _ _ _ _ _ _ ⟨m, z, f, l, g, e0, e1, e2, e3, e4, e5, e6⟩ => ⟨m, z, f, l, g, e0, e1, e2, e3, e4, e5, e6⟩
def H_L_measureRecord : List gk_H := [(0, 13, 16, 32, 2, 18, 6), (0, 13, 20, 13, 0, 22, 6)]
def L_L_measureRecord : List (Nat × gk_M0) := [(64, (1, 9, 5, 4, S_X10_measureRecord))]
def cs_L_measureRecord : Nat → Option gk_M0 := gk_lk L_L_measureRecord
theorem m_L_measureRecord : ∀ (as : List Value) (n : Nat) (fl : gk_F) (x : gk_X) (y : gk_Y) (K : gk_K), S_L_measureRecord as n fl x y K → (gk_L0 as).length ≤ 7 ∧ ∀ V : gk_V, gk_W cL_measureRecord pL cs_L_measureRecord (gk_fh H_L_measureRecord) (some .int) 4 none K V → V 0 (gk_en as 7) [] n fl x y 0 := by
  intro as n fl x y K hS
  obtain ⟨m, z, f, l, g, rfl, ⟨rfl, rfl⟩, hp0, hp1, q0, q1, q2⟩ := hS
  refine ⟨Nat.le_of_ble_eq_true rfl, fun V w => ?_⟩
  show V 0 [some (.ref 0), some (.int m), some (.int z), some (.int f), some (.int l), some (.ref 200), none] [] 202 gk_fT x y 0
  refine s_aload (pc2 := 2) w dL_measureRecord_0 rfl rfl ?_
  refine s_iconst (pc2 := 3) (v := 0) w dL_measureRecord_2 rfl rfl ?_
  refine s_aload_n (pc2 := 4) w dL_measureRecord_3 rfl rfl ?_
  refine s_iload_n (pc2 := 5) w dL_measureRecord_4 rfl rfl ?_
  refine s_iload_n (pc2 := 6) w dL_measureRecord_5 rfl rfl ?_
  refine s_iload_n (pc2 := 7) w dL_measureRecord_6 rfl rfl ?_
  refine s_iload (pc2 := 9) w dL_measureRecord_7 rfl rfl ?_
  refine g_callv (pc2 := 12) (r := [.int 0, .ref 200]) w dL_measureRecord_9 rfl rfl (as := [.ref 0, .int m, .int z, .int f, .int l]) rfl rfl rfl rfl rfl (Or.inr (Or.inl ⟨Or.inl rfl, _, _, rfl, (gk_kd_j rfl rfl), rfl⟩)) (Or.inr (Nat.le_of_ble_eq_true rfl)) ⟨m, z, f, l, g, rfl, ⟨rfl, rfl⟩, hp0, hp1, ?_, ?_, ?_⟩
  · intro b0 b1 x2 y2 b2
    show V 12 [some (.ref 0), some (.int m), some (.int z), some (.int f), some (.int l), some (.ref 200), none] [(.long (gk_ms (gC g (cN m)) (cN z) (cN f) (cN l))), .int 0, .ref 200] 202 gk_fT x2 y2 (0 + 4)
    refine m_lastoreN (pc2 := 13) (t := 0) (N := 1) w dL_measureRecord_12 rfl rfl rfl rfl (by decide) rfl ?_
    refine s_goto (tgt := 24) w dL_measureRecord_13 (by decide) ?_
    refine s_iconst (pc2 := 25) (v := 0) w dL_measureRecord_24 rfl rfl ?_
    refine s_ireturn w dL_measureRecord_25 rfl rfl ?_
    exact q0 b0 b1 x2 y2 b2
  · intro b0 x2 y2 b1
    show V 18 [some (.ref 0), some (.int m), some (.int z), some (.int f), some (.int l), some (.ref 200), none] [] 202 gk_fT x2 y2 (0 + 4)
    refine s_iconst (pc2 := 19) (v := 1) w dL_measureRecord_18 rfl rfl ?_
    refine s_ireturn w dL_measureRecord_19 rfl rfl ?_
    exact q1 b0 x2 y2 b1
  · intro b0 b1 x2 y2 b2
    show V 22 [some (.ref 0), some (.int m), some (.int z), some (.int f), some (.int l), some (.ref 200), none] [] 202 gk_fT x2 y2 (0 + 4)
    refine s_iconst (pc2 := 23) (v := 2) w dL_measureRecord_22 rfl rfl ?_
    refine s_ireturn w dL_measureRecord_23 rfl rfl ?_
    exact q2 b0 b1 x2 y2 b2
theorem lk_L_measureRecord {l : Launch} (hl : l.stackTraces = false) : ∀ q ∈ L_L_measureRecord, (q.2.1 < 5 → gk_Lk l RL gk_W1 10 q.1 q.2.1 q.2.2.1 q.2.2.2.1 q.2.2.2.2.1 q.2.2.2.2.2) := (List.forall_mem_cons.mpr ⟨(fun _ => ⟨yX10_measureRecord, cX10_measureRecord, 6, (some .long), 9, _, M_X10_measureRecord hl, ⟨by decide, by decide⟩, ⟨by decide, by decide, by decide +kernel⟩, ⟨(gk_wm 975 (by decide +kernel)), (gk_wm 89 (by decide +kernel))⟩, Or.inr (Or.inr (Or.inr (Or.inl ⟨rfl, rfl, (gk_wm 973 (by decide +kernel)), (gk_wm 974 (by decide +kernel)), gk_wm 972 (by decide +kernel), by decide, rfl⟩)))⟩), (fun _ h => absurd h List.not_mem_nil)⟩)
theorem sp_L_measureRecord : ∀ q ∈ L_L_measureRecord, gk_Sq RL gk_W1 10 q := (List.forall_mem_cons.mpr ⟨⟨fun h => absurd h (by decide), fun h => absurd h (by decide), fun h => absurd h (by decide), fun h => absurd h (by decide), fun h => absurd h (by decide), fun h => absurd h (by decide)⟩, (fun _ h => absurd h List.not_mem_nil)⟩)
theorem ho_L_measureRecord : ∀ z ∈ H_L_measureRecord, gk_Hok RL cL_measureRecord 7 z := (List.forall_mem_cons.mpr ⟨⟨by decide, by decide, gk_wm 847 (by decide +kernel), by decide, Or.inl ⟨dL_measureRecord_16, rfl⟩⟩, (List.forall_mem_cons.mpr ⟨⟨by decide, by decide, gk_wm 726 (by decide +kernel), by decide, Or.inl ⟨dL_measureRecord_20, rfl⟩⟩, (fun _ h => absurd h List.not_mem_nil)⟩)⟩)
theorem M_L_measureRecord {l : Launch} (hl : l.stackTraces = false) : gk_Mt l yL_measureRecord (.codeWith yL_measureRecord cL_measureRecord 7 (some .int) (H_L_measureRecord.map gk_hr) :: gk_W1) 10 4 S_L_measureRecord := gk_methH gk_cw_ok H_L_measureRecord (by decide +kernel) rfl nt_L_measureRecord m_L_measureRecord pL_ok (gk_Sp_of sp_L_measureRecord) pL_st (fun ci m S h => absurd h (by intro h; cases h)) hno_L ho_L_measureRecord (fun idx kd ci mm cost S2 h h5 => lk_L_measureRecord hl _ (gk_lk_mem h) h5)

def S_L_loudestMicrophone : gk_S := fun as n fl x y K => ∃ (f : Int32) (l : Int32) (g : Nat → Int32), as = [.ref 0, .int f, .int l, .ref 200] ∧ (n = 202 ∧ fl = gk_fT) ∧ (RS 1 g x y) ∧ (gOK g) ∧ ((0 ≤ f ∧ f ≤ l ∧ l ≤ 255) → ∀ (x2 : gk_X) (y2 : gk_Y), COk g x x2 y y2 → K (.inl (some (.int 0))) n fl x2 (gk_uy y2 200 0 (((gk_mx (fun n => gL (gE (gC g n) (cN f) (cN l))) nI (-1, -1) (nM g)).1)).toInt64)) ∧ (¬ (0 ≤ f ∧ f ≤ l ∧ l ≤ 255) → ∀ (x2 : gk_X) (y2 : gk_Y), COk g x x2 y y2 → K (.inl (some (.int 1))) n fl x2 y2)
theorem r_L_loudestMicrophone (w : gk_W c P cs (fun _ _ => none) rt uf sc K V) {idx : Nat} {f : Int32} {l : Int32} {g : Nat → Int32} (hd : decode c pc = .ok (.invokestatic idx, 3)) (hp : pc + 3 = pc2) (hc : cs idx = some (0, 0, 4, 2, S_L_loudestMicrophone)) (h8 : Nat.ble (r.map Value.category).sum 8 = true) (hu : u + 2 ≤ uf) (hp0 : RS 1 g x y) (hp1 : gOK g) (kk0 : (0 ≤ f ∧ f ≤ l ∧ l ≤ 255) → ∀ (x2 : gk_X) (y2 : gk_Y), COk g x x2 y y2 → V pc2 L ((.int 0) :: r) 202 gk_fT x2 (gk_uy y2 200 0 (((gk_mx (fun n => gL (gE (gC g n) (cN f) (cN l))) nI (-1, -1) (nM g)).1)).toInt64) (u + 2)) (kk1 : ¬ (0 ≤ f ∧ f ≤ l ∧ l ≤ 255) → ∀ (x2 : gk_X) (y2 : gk_Y), COk g x x2 y y2 → V pc2 L ((.int 1) :: r) 202 gk_fT x2 y2 (u + 2)) : V pc L (.ref 200 :: .int l :: .int f :: .ref 0 :: r) 202 gk_fT x y u :=
  g_calls w hd hp hc (as := [.ref 0, .int f, .int l, .ref 200]) rfl h8 rfl rfl rfl (Or.inl rfl) (Or.inr hu) ⟨f, l, g, rfl, ⟨rfl, rfl⟩, hp0, hp1, kk0, kk1⟩
theorem nt_L_loudestMicrophone : gk_nt S_L_loudestMicrophone := fun _ _ _ _ _ _ ⟨f, l, g, e0, e1, e2, e3, e4, e5⟩ => ⟨f, l, g, e0, e1, e2, e3, e4, e5⟩
def H_L_loudestMicrophone : List gk_H := [(0, 10, 13, 13, 0, 15, 4)]
def L_L_loudestMicrophone : List (Nat × gk_M0) := [(68, (1, 9, 3, 2, S_X10_loudestMicrophone))]
def cs_L_loudestMicrophone : Nat → Option gk_M0 := gk_lk L_L_loudestMicrophone
theorem m_L_loudestMicrophone : ∀ (as : List Value) (n : Nat) (fl : gk_F) (x : gk_X) (y : gk_Y) (K : gk_K), S_L_loudestMicrophone as n fl x y K → (gk_L0 as).length ≤ 5 ∧ ∀ V : gk_V, gk_W cL_loudestMicrophone pL cs_L_loudestMicrophone (gk_fh H_L_loudestMicrophone) (some .int) 2 none K V → V 0 (gk_en as 5) [] n fl x y 0 := by
  intro as n fl x y K hS
  obtain ⟨f, l, g, rfl, ⟨rfl, rfl⟩, hp0, hp1, q0, q1⟩ := hS
  refine ⟨Nat.le_of_ble_eq_true rfl, fun V w => ?_⟩
  show V 0 [some (.ref 0), some (.int f), some (.int l), some (.ref 200), none] [] 202 gk_fT x y 0
  refine s_aload_n (pc2 := 1) w dL_loudestMicrophone_0 rfl rfl ?_
  refine s_iconst (pc2 := 2) (v := 0) w dL_loudestMicrophone_1 rfl rfl ?_
  refine s_aload_n (pc2 := 3) w dL_loudestMicrophone_2 rfl rfl ?_
  refine s_iload_n (pc2 := 4) w dL_loudestMicrophone_3 rfl rfl ?_
  refine s_iload_n (pc2 := 5) w dL_loudestMicrophone_4 rfl rfl ?_
  refine g_callv (pc2 := 8) (r := [.int 0, .ref 200]) w dL_loudestMicrophone_5 rfl rfl (as := [.ref 0, .int f, .int l]) rfl rfl rfl rfl rfl (Or.inr (Or.inl ⟨Or.inl rfl, _, _, rfl, (gk_kd_j rfl rfl), rfl⟩)) (Or.inr (Nat.le_of_ble_eq_true rfl)) ⟨f, l, g, rfl, ⟨rfl, rfl⟩, hp0, hp1, ?_, ?_⟩
  · intro b0 x2 y2 b1
    show V 8 [some (.ref 0), some (.int f), some (.int l), some (.ref 200), none] [(.int ((gk_mx (fun n => gL (gE (gC g n) (cN f) (cN l))) nI (-1, -1) (nM g)).1)), .int 0, .ref 200] 202 gk_fT x2 y2 (0 + 2)
    refine s_i2l (pc2 := 9) w dL_loudestMicrophone_8 rfl ?_
    refine m_lastoreN (pc2 := 10) (t := 0) (N := 1) w dL_loudestMicrophone_9 rfl rfl rfl rfl (by decide) rfl ?_
    refine s_goto (tgt := 17) w dL_loudestMicrophone_10 (by decide) ?_
    refine s_iconst (pc2 := 18) (v := 0) w dL_loudestMicrophone_17 rfl rfl ?_
    refine s_ireturn w dL_loudestMicrophone_18 rfl rfl ?_
    exact q0 b0 x2 y2 b1
  · intro b0 x2 y2 b1
    show V 15 [some (.ref 0), some (.int f), some (.int l), some (.ref 200), none] [] 202 gk_fT x2 y2 (0 + 2)
    refine s_iconst (pc2 := 16) (v := 1) w dL_loudestMicrophone_15 rfl rfl ?_
    refine s_ireturn w dL_loudestMicrophone_16 rfl rfl ?_
    exact q1 b0 x2 y2 b1
theorem lk_L_loudestMicrophone {l : Launch} (hl : l.stackTraces = false) : ∀ q ∈ L_L_loudestMicrophone, (q.2.1 < 5 → gk_Lk l RL gk_W1 10 q.1 q.2.1 q.2.2.1 q.2.2.2.1 q.2.2.2.2.1 q.2.2.2.2.2) := (List.forall_mem_cons.mpr ⟨(fun _ => ⟨yX10_loudestMicrophone, cX10_loudestMicrophone, 9, (some .int), 9, _, M_X10_loudestMicrophone hl, ⟨by decide, by decide⟩, ⟨by decide, by decide, by decide +kernel⟩, ⟨(gk_wm 1010 (by decide +kernel)), (gk_wm 89 (by decide +kernel))⟩, Or.inr (Or.inr (Or.inr (Or.inl ⟨rfl, rfl, (gk_wm 1008 (by decide +kernel)), (gk_wm 1009 (by decide +kernel)), gk_wm 1007 (by decide +kernel), by decide, rfl⟩)))⟩), (fun _ h => absurd h List.not_mem_nil)⟩)
theorem sp_L_loudestMicrophone : ∀ q ∈ L_L_loudestMicrophone, gk_Sq RL gk_W1 10 q := (List.forall_mem_cons.mpr ⟨⟨fun h => absurd h (by decide), fun h => absurd h (by decide), fun h => absurd h (by decide), fun h => absurd h (by decide), fun h => absurd h (by decide), fun h => absurd h (by decide)⟩, (fun _ h => absurd h List.not_mem_nil)⟩)
theorem ho_L_loudestMicrophone : ∀ z ∈ H_L_loudestMicrophone, gk_Hok RL cL_loudestMicrophone 5 z := (List.forall_mem_cons.mpr ⟨⟨by decide, by decide, gk_wm 726 (by decide +kernel), by decide, Or.inl ⟨dL_loudestMicrophone_13, rfl⟩⟩, (fun _ h => absurd h List.not_mem_nil)⟩)
theorem M_L_loudestMicrophone {l : Launch} (hl : l.stackTraces = false) : gk_Mt l yL_loudestMicrophone (.codeWith yL_loudestMicrophone cL_loudestMicrophone 5 (some .int) (H_L_loudestMicrophone.map gk_hr) :: gk_W1) 10 2 S_L_loudestMicrophone := gk_methH gk_cw_ok H_L_loudestMicrophone (by decide +kernel) rfl nt_L_loudestMicrophone m_L_loudestMicrophone pL_ok (gk_Sp_of sp_L_loudestMicrophone) pL_st (fun ci m S h => absurd h (by intro h; cases h)) hno_L ho_L_loudestMicrophone (fun idx kd ci mm cost S2 h h5 => lk_L_loudestMicrophone hl _ (gk_lk_mem h) h5)

def S_L_loudestWindow : gk_S := fun as n fl x y K => ∃ (m : Int32) (v : Int32) (g : Nat → Int32), as = [.ref 0, .int m, .int v, .ref 200] ∧ (n = 202 ∧ fl = gk_fT) ∧ (RS 1 g x y) ∧ (gOK g) ∧ ((0 ≤ m ∧ m < g 8) → (1 ≤ v ∧ v ≤ 256) → ∀ (x2 : gk_X) (y2 : gk_Y), COk g x x2 y y2 → K (.inl (some (.int 0))) n fl x2 (gk_uy y2 200 0 (((gk_mx (fun n => gL (gE (gC g (cN m)) n (n + cN v - 1))) nI (0, -1) (257 - cN v)).1)).toInt64)) ∧ (¬ (0 ≤ m ∧ m < g 8) → ∀ (x2 : gk_X) (y2 : gk_Y), COk g x x2 y y2 → K (.inl (some (.int 1))) n fl x2 y2) ∧ ((0 ≤ m ∧ m < g 8) → ¬ (1 ≤ v ∧ v ≤ 256) → ∀ (x2 : gk_X) (y2 : gk_Y), COk g x x2 y y2 → K (.inl (some (.int 2))) n fl x2 y2)
theorem r_L_loudestWindow (w : gk_W c P cs (fun _ _ => none) rt uf sc K V) {idx : Nat} {m : Int32} {v : Int32} {g : Nat → Int32} (hd : decode c pc = .ok (.invokestatic idx, 3)) (hp : pc + 3 = pc2) (hc : cs idx = some (0, 0, 4, 2, S_L_loudestWindow)) (h8 : Nat.ble (r.map Value.category).sum 8 = true) (hu : u + 2 ≤ uf) (hp0 : RS 1 g x y) (hp1 : gOK g) (kk0 : (0 ≤ m ∧ m < g 8) → (1 ≤ v ∧ v ≤ 256) → ∀ (x2 : gk_X) (y2 : gk_Y), COk g x x2 y y2 → V pc2 L ((.int 0) :: r) 202 gk_fT x2 (gk_uy y2 200 0 (((gk_mx (fun n => gL (gE (gC g (cN m)) n (n + cN v - 1))) nI (0, -1) (257 - cN v)).1)).toInt64) (u + 2)) (kk1 : ¬ (0 ≤ m ∧ m < g 8) → ∀ (x2 : gk_X) (y2 : gk_Y), COk g x x2 y y2 → V pc2 L ((.int 1) :: r) 202 gk_fT x2 y2 (u + 2)) (kk2 : (0 ≤ m ∧ m < g 8) → ¬ (1 ≤ v ∧ v ≤ 256) → ∀ (x2 : gk_X) (y2 : gk_Y), COk g x x2 y y2 → V pc2 L ((.int 2) :: r) 202 gk_fT x2 y2 (u + 2)) : V pc L (.ref 200 :: .int v :: .int m :: .ref 0 :: r) 202 gk_fT x y u :=
  g_calls w hd hp hc (as := [.ref 0, .int m, .int v, .ref 200]) rfl h8 rfl rfl rfl (Or.inl rfl) (Or.inr hu) ⟨m, v, g, rfl, ⟨rfl, rfl⟩, hp0, hp1, kk0, kk1, kk2⟩
theorem nt_L_loudestWindow : gk_nt S_L_loudestWindow := fun _ _ _ _ _ _ ⟨m, v, g, e0, e1, e2, e3, e4, e5, e6⟩ => ⟨m, v, g, e0, e1, e2, e3, e4, e5, e6⟩
def H_L_loudestWindow : List gk_H := [(0, 10, 13, 32, 2, 15, 4), (0, 10, 17, 13, 0, 19, 4)]
def L_L_loudestWindow : List (Nat × gk_M0) := [(71, (1, 9, 3, 2, S_X10_loudestWindow))]
def cs_L_loudestWindow : Nat → Option gk_M0 := gk_lk L_L_loudestWindow
theorem m_L_loudestWindow : ∀ (as : List Value) (n : Nat) (fl : gk_F) (x : gk_X) (y : gk_Y) (K : gk_K), S_L_loudestWindow as n fl x y K → (gk_L0 as).length ≤ 5 ∧ ∀ V : gk_V, gk_W cL_loudestWindow pL cs_L_loudestWindow (gk_fh H_L_loudestWindow) (some .int) 2 none K V → V 0 (gk_en as 5) [] n fl x y 0 := by
  intro as n fl x y K hS
  obtain ⟨m, v, g, rfl, ⟨rfl, rfl⟩, hp0, hp1, q0, q1, q2⟩ := hS
  refine ⟨Nat.le_of_ble_eq_true rfl, fun V w => ?_⟩
  show V 0 [some (.ref 0), some (.int m), some (.int v), some (.ref 200), none] [] 202 gk_fT x y 0
  refine s_aload_n (pc2 := 1) w dL_loudestWindow_0 rfl rfl ?_
  refine s_iconst (pc2 := 2) (v := 0) w dL_loudestWindow_1 rfl rfl ?_
  refine s_aload_n (pc2 := 3) w dL_loudestWindow_2 rfl rfl ?_
  refine s_iload_n (pc2 := 4) w dL_loudestWindow_3 rfl rfl ?_
  refine s_iload_n (pc2 := 5) w dL_loudestWindow_4 rfl rfl ?_
  refine g_callv (pc2 := 8) (r := [.int 0, .ref 200]) w dL_loudestWindow_5 rfl rfl (as := [.ref 0, .int m, .int v]) rfl rfl rfl rfl rfl (Or.inr (Or.inl ⟨Or.inl rfl, _, _, rfl, (gk_kd_j rfl rfl), rfl⟩)) (Or.inr (Nat.le_of_ble_eq_true rfl)) ⟨m, v, g, rfl, ⟨rfl, rfl⟩, hp0, hp1, ?_, ?_, ?_⟩
  · intro b0 b1 x2 y2 b2
    show V 8 [some (.ref 0), some (.int m), some (.int v), some (.ref 200), none] [(.int ((gk_mx (fun n => gL (gE (gC g (cN m)) n (n + cN v - 1))) nI (0, -1) (257 - cN v)).1)), .int 0, .ref 200] 202 gk_fT x2 y2 (0 + 2)
    refine s_i2l (pc2 := 9) w dL_loudestWindow_8 rfl ?_
    refine m_lastoreN (pc2 := 10) (t := 0) (N := 1) w dL_loudestWindow_9 rfl rfl rfl rfl (by decide) rfl ?_
    refine s_goto (tgt := 21) w dL_loudestWindow_10 (by decide) ?_
    refine s_iconst (pc2 := 22) (v := 0) w dL_loudestWindow_21 rfl rfl ?_
    refine s_ireturn w dL_loudestWindow_22 rfl rfl ?_
    exact q0 b0 b1 x2 y2 b2
  · intro b0 x2 y2 b1
    show V 15 [some (.ref 0), some (.int m), some (.int v), some (.ref 200), none] [] 202 gk_fT x2 y2 (0 + 2)
    refine s_iconst (pc2 := 16) (v := 1) w dL_loudestWindow_15 rfl rfl ?_
    refine s_ireturn w dL_loudestWindow_16 rfl rfl ?_
    exact q1 b0 x2 y2 b1
  · intro b0 b1 x2 y2 b2
    show V 19 [some (.ref 0), some (.int m), some (.int v), some (.ref 200), none] [] 202 gk_fT x2 y2 (0 + 2)
    refine s_iconst (pc2 := 20) (v := 2) w dL_loudestWindow_19 rfl rfl ?_
    refine s_ireturn w dL_loudestWindow_20 rfl rfl ?_
    exact q2 b0 b1 x2 y2 b2
theorem lk_L_loudestWindow {l : Launch} (hl : l.stackTraces = false) : ∀ q ∈ L_L_loudestWindow, (q.2.1 < 5 → gk_Lk l RL gk_W1 9 q.1 q.2.1 q.2.2.1 q.2.2.2.1 q.2.2.2.2.1 q.2.2.2.2.2) := (List.forall_mem_cons.mpr ⟨(fun _ => ⟨yX10_loudestWindow, cX10_loudestWindow, 10, (some .int), 8, _, M_X10_loudestWindow hl, ⟨by decide, by decide⟩, ⟨by decide, by decide, by decide +kernel⟩, ⟨(gk_wm 1019 (by decide +kernel)), (gk_wm 89 (by decide +kernel))⟩, Or.inr (Or.inr (Or.inr (Or.inl ⟨rfl, rfl, (gk_wm 1017 (by decide +kernel)), (gk_wm 1018 (by decide +kernel)), gk_wm 1016 (by decide +kernel), by decide, rfl⟩)))⟩), (fun _ h => absurd h List.not_mem_nil)⟩)
theorem sp_L_loudestWindow : ∀ q ∈ L_L_loudestWindow, gk_Sq RL gk_W1 9 q := (List.forall_mem_cons.mpr ⟨⟨fun h => absurd h (by decide), fun h => absurd h (by decide), fun h => absurd h (by decide), fun h => absurd h (by decide), fun h => absurd h (by decide), fun h => absurd h (by decide)⟩, (fun _ h => absurd h List.not_mem_nil)⟩)
theorem ho_L_loudestWindow : ∀ z ∈ H_L_loudestWindow, gk_Hok RL cL_loudestWindow 5 z := (List.forall_mem_cons.mpr ⟨⟨by decide, by decide, gk_wm 847 (by decide +kernel), by decide, Or.inl ⟨dL_loudestWindow_13, rfl⟩⟩, (List.forall_mem_cons.mpr ⟨⟨by decide, by decide, gk_wm 726 (by decide +kernel), by decide, Or.inl ⟨dL_loudestWindow_17, rfl⟩⟩, (fun _ h => absurd h List.not_mem_nil)⟩)⟩)
theorem M_L_loudestWindow {l : Launch} (hl : l.stackTraces = false) : gk_Mt l yL_loudestWindow (.codeWith yL_loudestWindow cL_loudestWindow 5 (some .int) (H_L_loudestWindow.map gk_hr) :: gk_W1) 9 2 S_L_loudestWindow := gk_methH gk_cw_ok H_L_loudestWindow (by decide +kernel) rfl nt_L_loudestWindow m_L_loudestWindow pL_ok (gk_Sp_of sp_L_loudestWindow) pL_st (fun ci m S h => absurd h (by intro h; cases h)) hno_L ho_L_loudestWindow (fun idx kd ci mm cost S2 h h5 => lk_L_loudestWindow hl _ (gk_lk_mem h) h5)

def S_L_correlation : gk_S := fun as n fl x y K => ∃ (m : Int32) (o : Int32) (v : Int32) (g : Nat → Int32), as = [.ref 0, .int m, .int o, .int v, .ref 200] ∧ (n = 202 ∧ fl = gk_fT) ∧ (RS 1 g x y) ∧ (gOK g) ∧ (((0 ≤ m ∧ m < g 8) ∧ (0 ≤ o ∧ o < g 8)) → (-255 ≤ v ∧ v ≤ 255) → ∀ (x2 : gk_X) (y2 : gk_Y), COk g x x2 y y2 → K (.inl (some (.int 0))) n fl x2 (gk_uy y2 200 0 ((gL (gk_cv (gC g (cN m)) (gC g (cN o)) v 256))))) ∧ (¬ ((0 ≤ m ∧ m < g 8) ∧ (0 ≤ o ∧ o < g 8)) → ∀ (x2 : gk_X) (y2 : gk_Y), COk g x x2 y y2 → K (.inl (some (.int 1))) n fl x2 y2) ∧ (((0 ≤ m ∧ m < g 8) ∧ (0 ≤ o ∧ o < g 8)) → ¬ (-255 ≤ v ∧ v ≤ 255) → ∀ (x2 : gk_X) (y2 : gk_Y), COk g x x2 y y2 → K (.inl (some (.int 2))) n fl x2 y2)
theorem r_L_correlation (w : gk_W c P cs (fun _ _ => none) rt uf sc K V) {idx : Nat} {m : Int32} {o : Int32} {v : Int32} {g : Nat → Int32} (hd : decode c pc = .ok (.invokestatic idx, 3)) (hp : pc + 3 = pc2) (hc : cs idx = some (0, 0, 5, 3, S_L_correlation)) (h8 : Nat.ble (r.map Value.category).sum 8 = true) (hu : u + 3 ≤ uf) (hp0 : RS 1 g x y) (hp1 : gOK g) (kk0 : ((0 ≤ m ∧ m < g 8) ∧ (0 ≤ o ∧ o < g 8)) → (-255 ≤ v ∧ v ≤ 255) → ∀ (x2 : gk_X) (y2 : gk_Y), COk g x x2 y y2 → V pc2 L ((.int 0) :: r) 202 gk_fT x2 (gk_uy y2 200 0 ((gL (gk_cv (gC g (cN m)) (gC g (cN o)) v 256)))) (u + 3)) (kk1 : ¬ ((0 ≤ m ∧ m < g 8) ∧ (0 ≤ o ∧ o < g 8)) → ∀ (x2 : gk_X) (y2 : gk_Y), COk g x x2 y y2 → V pc2 L ((.int 1) :: r) 202 gk_fT x2 y2 (u + 3)) (kk2 : ((0 ≤ m ∧ m < g 8) ∧ (0 ≤ o ∧ o < g 8)) → ¬ (-255 ≤ v ∧ v ≤ 255) → ∀ (x2 : gk_X) (y2 : gk_Y), COk g x x2 y y2 → V pc2 L ((.int 2) :: r) 202 gk_fT x2 y2 (u + 3)) : V pc L (.ref 200 :: .int v :: .int o :: .int m :: .ref 0 :: r) 202 gk_fT x y u :=
  g_calls w hd hp hc (as := [.ref 0, .int m, .int o, .int v, .ref 200]) rfl h8 rfl rfl rfl (Or.inl rfl) (Or.inr hu) ⟨m, o, v, g, rfl, ⟨rfl, rfl⟩, hp0, hp1, kk0, kk1, kk2⟩
theorem nt_L_correlation : gk_nt S_L_correlation := fun _ _ _ _ _ _ ⟨m, o, v, g, e0, e1, e2, e3, e4, e5, e6⟩ => ⟨m, o, v, g, e0, e1, e2, e3, e4, e5, e6⟩
def H_L_correlation : List gk_H := [(0, 11, 14, 32, 2, 16, 5), (0, 11, 18, 13, 0, 20, 5)]
def L_L_correlation : List (Nat × gk_M0) := [(74, (1, 9, 4, 3, S_X10_correlation))]
def cs_L_correlation : Nat → Option gk_M0 := gk_lk L_L_correlation
theorem m_L_correlation : ∀ (as : List Value) (n : Nat) (fl : gk_F) (x : gk_X) (y : gk_Y) (K : gk_K), S_L_correlation as n fl x y K → (gk_L0 as).length ≤ 6 ∧ ∀ V : gk_V, gk_W cL_correlation pL cs_L_correlation (gk_fh H_L_correlation) (some .int) 3 none K V → V 0 (gk_en as 6) [] n fl x y 0 := by
  intro as n fl x y K hS
  obtain ⟨m, o, v, g, rfl, ⟨rfl, rfl⟩, hp0, hp1, q0, q1, q2⟩ := hS
  refine ⟨Nat.le_of_ble_eq_true rfl, fun V w => ?_⟩
  show V 0 [some (.ref 0), some (.int m), some (.int o), some (.int v), some (.ref 200), none] [] 202 gk_fT x y 0
  refine s_aload (pc2 := 2) w dL_correlation_0 rfl rfl ?_
  refine s_iconst (pc2 := 3) (v := 0) w dL_correlation_2 rfl rfl ?_
  refine s_aload_n (pc2 := 4) w dL_correlation_3 rfl rfl ?_
  refine s_iload_n (pc2 := 5) w dL_correlation_4 rfl rfl ?_
  refine s_iload_n (pc2 := 6) w dL_correlation_5 rfl rfl ?_
  refine s_iload_n (pc2 := 7) w dL_correlation_6 rfl rfl ?_
  refine g_callv (pc2 := 10) (r := [.int 0, .ref 200]) w dL_correlation_7 rfl rfl (as := [.ref 0, .int m, .int o, .int v]) rfl rfl rfl rfl rfl (Or.inr (Or.inl ⟨Or.inl rfl, _, _, rfl, (gk_kd_j rfl rfl), rfl⟩)) (Or.inr (Nat.le_of_ble_eq_true rfl)) ⟨m, o, v, g, rfl, ⟨rfl, rfl⟩, hp0, hp1, ?_, ?_, ?_⟩
  · intro b0 b1 x2 y2 b2
    show V 10 [some (.ref 0), some (.int m), some (.int o), some (.int v), some (.ref 200), none] [(.long (gL (gk_cv (gC g (cN m)) (gC g (cN o)) v 256))), .int 0, .ref 200] 202 gk_fT x2 y2 (0 + 3)
    refine m_lastoreN (pc2 := 11) (t := 0) (N := 1) w dL_correlation_10 rfl rfl rfl rfl (by decide) rfl ?_
    refine s_goto (tgt := 22) w dL_correlation_11 (by decide) ?_
    refine s_iconst (pc2 := 23) (v := 0) w dL_correlation_22 rfl rfl ?_
    refine s_ireturn w dL_correlation_23 rfl rfl ?_
    exact q0 b0 b1 x2 y2 b2
  · intro b0 x2 y2 b1
    show V 16 [some (.ref 0), some (.int m), some (.int o), some (.int v), some (.ref 200), none] [] 202 gk_fT x2 y2 (0 + 3)
    refine s_iconst (pc2 := 17) (v := 1) w dL_correlation_16 rfl rfl ?_
    refine s_ireturn w dL_correlation_17 rfl rfl ?_
    exact q1 b0 x2 y2 b1
  · intro b0 b1 x2 y2 b2
    show V 20 [some (.ref 0), some (.int m), some (.int o), some (.int v), some (.ref 200), none] [] 202 gk_fT x2 y2 (0 + 3)
    refine s_iconst (pc2 := 21) (v := 2) w dL_correlation_20 rfl rfl ?_
    refine s_ireturn w dL_correlation_21 rfl rfl ?_
    exact q2 b0 b1 x2 y2 b2
theorem lk_L_correlation {l : Launch} (hl : l.stackTraces = false) : ∀ q ∈ L_L_correlation, (q.2.1 < 5 → gk_Lk l RL gk_W1 9 q.1 q.2.1 q.2.2.1 q.2.2.2.1 q.2.2.2.2.1 q.2.2.2.2.2) := (List.forall_mem_cons.mpr ⟨(fun _ => ⟨yX10_correlation, cX10_correlation, 6, (some .long), 8, _, M_X10_correlation hl, ⟨by decide, by decide⟩, ⟨by decide, by decide, by decide +kernel⟩, ⟨(gk_wm 1026 (by decide +kernel)), (gk_wm 89 (by decide +kernel))⟩, Or.inr (Or.inr (Or.inr (Or.inl ⟨rfl, rfl, (gk_wm 1024 (by decide +kernel)), (gk_wm 1025 (by decide +kernel)), gk_wm 1023 (by decide +kernel), by decide, rfl⟩)))⟩), (fun _ h => absurd h List.not_mem_nil)⟩)
theorem sp_L_correlation : ∀ q ∈ L_L_correlation, gk_Sq RL gk_W1 9 q := (List.forall_mem_cons.mpr ⟨⟨fun h => absurd h (by decide), fun h => absurd h (by decide), fun h => absurd h (by decide), fun h => absurd h (by decide), fun h => absurd h (by decide), fun h => absurd h (by decide)⟩, (fun _ h => absurd h List.not_mem_nil)⟩)
theorem ho_L_correlation : ∀ z ∈ H_L_correlation, gk_Hok RL cL_correlation 6 z := (List.forall_mem_cons.mpr ⟨⟨by decide, by decide, gk_wm 847 (by decide +kernel), by decide, Or.inl ⟨dL_correlation_14, rfl⟩⟩, (List.forall_mem_cons.mpr ⟨⟨by decide, by decide, gk_wm 726 (by decide +kernel), by decide, Or.inl ⟨dL_correlation_18, rfl⟩⟩, (fun _ h => absurd h List.not_mem_nil)⟩)⟩)
theorem M_L_correlation {l : Launch} (hl : l.stackTraces = false) : gk_Mt l yL_correlation (.codeWith yL_correlation cL_correlation 6 (some .int) (H_L_correlation.map gk_hr) :: gk_W1) 9 3 S_L_correlation := gk_methH gk_cw_ok H_L_correlation (by decide +kernel) rfl nt_L_correlation m_L_correlation pL_ok (gk_Sp_of sp_L_correlation) pL_st (fun ci m S h => absurd h (by intro h; cases h)) hno_L ho_L_correlation (fun idx kd ci mm cost S2 h h5 => lk_L_correlation hl _ (gk_lk_mem h) h5)

def S_L_bestLag : gk_S := fun as n fl x y K => ∃ (m : Int32) (o : Int32) (v : Int32) (g : Nat → Int32), as = [.ref 0, .int m, .int o, .int v, .ref 200] ∧ (n = 202 ∧ fl = gk_fT) ∧ (RS 1 g x y) ∧ (gOK g) ∧ (((0 ≤ m ∧ m < g 8) ∧ (0 ≤ o ∧ o < g 8)) → (0 ≤ v ∧ v ≤ 255) → ∀ (x2 : gk_X) (y2 : gk_Y), COk g x x2 y y2 → K (.inl (some (.int 0))) n fl x2 (gk_uy y2 200 0 (((gk_mx (fun n => gL (gk_cv (gC g (cN m)) (gC g (cN o)) (gI (ow (n + 1))) 256)) (fun n => gI (ow (n + 1))) (0, LMIN) (2 * cN v + 1)).1)).toInt64)) ∧ (¬ ((0 ≤ m ∧ m < g 8) ∧ (0 ≤ o ∧ o < g 8)) → ∀ (x2 : gk_X) (y2 : gk_Y), COk g x x2 y y2 → K (.inl (some (.int 1))) n fl x2 y2) ∧ (((0 ≤ m ∧ m < g 8) ∧ (0 ≤ o ∧ o < g 8)) → ¬ (0 ≤ v ∧ v ≤ 255) → ∀ (x2 : gk_X) (y2 : gk_Y), COk g x x2 y y2 → K (.inl (some (.int 2))) n fl x2 y2)
theorem r_L_bestLag (w : gk_W c P cs (fun _ _ => none) rt uf sc K V) {idx : Nat} {m : Int32} {o : Int32} {v : Int32} {g : Nat → Int32} (hd : decode c pc = .ok (.invokestatic idx, 3)) (hp : pc + 3 = pc2) (hc : cs idx = some (0, 0, 5, 3, S_L_bestLag)) (h8 : Nat.ble (r.map Value.category).sum 8 = true) (hu : u + 3 ≤ uf) (hp0 : RS 1 g x y) (hp1 : gOK g) (kk0 : ((0 ≤ m ∧ m < g 8) ∧ (0 ≤ o ∧ o < g 8)) → (0 ≤ v ∧ v ≤ 255) → ∀ (x2 : gk_X) (y2 : gk_Y), COk g x x2 y y2 → V pc2 L ((.int 0) :: r) 202 gk_fT x2 (gk_uy y2 200 0 (((gk_mx (fun n => gL (gk_cv (gC g (cN m)) (gC g (cN o)) (gI (ow (n + 1))) 256)) (fun n => gI (ow (n + 1))) (0, LMIN) (2 * cN v + 1)).1)).toInt64) (u + 3)) (kk1 : ¬ ((0 ≤ m ∧ m < g 8) ∧ (0 ≤ o ∧ o < g 8)) → ∀ (x2 : gk_X) (y2 : gk_Y), COk g x x2 y y2 → V pc2 L ((.int 1) :: r) 202 gk_fT x2 y2 (u + 3)) (kk2 : ((0 ≤ m ∧ m < g 8) ∧ (0 ≤ o ∧ o < g 8)) → ¬ (0 ≤ v ∧ v ≤ 255) → ∀ (x2 : gk_X) (y2 : gk_Y), COk g x x2 y y2 → V pc2 L ((.int 2) :: r) 202 gk_fT x2 y2 (u + 3)) : V pc L (.ref 200 :: .int v :: .int o :: .int m :: .ref 0 :: r) 202 gk_fT x y u :=
  g_calls w hd hp hc (as := [.ref 0, .int m, .int o, .int v, .ref 200]) rfl h8 rfl rfl rfl (Or.inl rfl) (Or.inr hu) ⟨m, o, v, g, rfl, ⟨rfl, rfl⟩, hp0, hp1, kk0, kk1, kk2⟩
theorem nt_L_bestLag : gk_nt S_L_bestLag := fun _ _ _ _ _ _ ⟨m, o, v, g, e0, e1, e2, e3, e4, e5, e6⟩ => ⟨m, o, v, g, e0, e1, e2, e3, e4, e5, e6⟩
def H_L_bestLag : List gk_H := [(0, 12, 15, 32, 2, 17, 5), (0, 12, 19, 13, 0, 21, 5)]
def L_L_bestLag : List (Nat × gk_M0) := [(78, (1, 9, 4, 3, S_X10_bestLag))]
def cs_L_bestLag : Nat → Option gk_M0 := gk_lk L_L_bestLag
theorem m_L_bestLag : ∀ (as : List Value) (n : Nat) (fl : gk_F) (x : gk_X) (y : gk_Y) (K : gk_K), S_L_bestLag as n fl x y K → (gk_L0 as).length ≤ 6 ∧ ∀ V : gk_V, gk_W cL_bestLag pL cs_L_bestLag (gk_fh H_L_bestLag) (some .int) 3 none K V → V 0 (gk_en as 6) [] n fl x y 0 := by
  intro as n fl x y K hS
  obtain ⟨m, o, v, g, rfl, ⟨rfl, rfl⟩, hp0, hp1, q0, q1, q2⟩ := hS
  refine ⟨Nat.le_of_ble_eq_true rfl, fun V w => ?_⟩
  show V 0 [some (.ref 0), some (.int m), some (.int o), some (.int v), some (.ref 200), none] [] 202 gk_fT x y 0
  refine s_aload (pc2 := 2) w dL_bestLag_0 rfl rfl ?_
  refine s_iconst (pc2 := 3) (v := 0) w dL_bestLag_2 rfl rfl ?_
  refine s_aload_n (pc2 := 4) w dL_bestLag_3 rfl rfl ?_
  refine s_iload_n (pc2 := 5) w dL_bestLag_4 rfl rfl ?_
  refine s_iload_n (pc2 := 6) w dL_bestLag_5 rfl rfl ?_
  refine s_iload_n (pc2 := 7) w dL_bestLag_6 rfl rfl ?_
  refine g_callv (pc2 := 10) (r := [.int 0, .ref 200]) w dL_bestLag_7 rfl rfl (as := [.ref 0, .int m, .int o, .int v]) rfl rfl rfl rfl rfl (Or.inr (Or.inl ⟨Or.inl rfl, _, _, rfl, (gk_kd_j rfl rfl), rfl⟩)) (Or.inr (Nat.le_of_ble_eq_true rfl)) ⟨m, o, v, g, rfl, ⟨rfl, rfl⟩, hp0, hp1, ?_, ?_, ?_⟩
  · intro b0 b1 x2 y2 b2
    show V 10 [some (.ref 0), some (.int m), some (.int o), some (.int v), some (.ref 200), none] [(.int ((gk_mx (fun n => gL (gk_cv (gC g (cN m)) (gC g (cN o)) (gI (ow (n + 1))) 256)) (fun n => gI (ow (n + 1))) (0, LMIN) (2 * cN v + 1)).1)), .int 0, .ref 200] 202 gk_fT x2 y2 (0 + 3)
    refine s_i2l (pc2 := 11) w dL_bestLag_10 rfl ?_
    refine m_lastoreN (pc2 := 12) (t := 0) (N := 1) w dL_bestLag_11 rfl rfl rfl rfl (by decide) rfl ?_
    refine s_goto (tgt := 23) w dL_bestLag_12 (by decide) ?_
    refine s_iconst (pc2 := 24) (v := 0) w dL_bestLag_23 rfl rfl ?_
    refine s_ireturn w dL_bestLag_24 rfl rfl ?_
    exact q0 b0 b1 x2 y2 b2
  · intro b0 x2 y2 b1
    show V 17 [some (.ref 0), some (.int m), some (.int o), some (.int v), some (.ref 200), none] [] 202 gk_fT x2 y2 (0 + 3)
    refine s_iconst (pc2 := 18) (v := 1) w dL_bestLag_17 rfl rfl ?_
    refine s_ireturn w dL_bestLag_18 rfl rfl ?_
    exact q1 b0 x2 y2 b1
  · intro b0 b1 x2 y2 b2
    show V 21 [some (.ref 0), some (.int m), some (.int o), some (.int v), some (.ref 200), none] [] 202 gk_fT x2 y2 (0 + 3)
    refine s_iconst (pc2 := 22) (v := 2) w dL_bestLag_21 rfl rfl ?_
    refine s_ireturn w dL_bestLag_22 rfl rfl ?_
    exact q2 b0 b1 x2 y2 b2
theorem lk_L_bestLag {l : Launch} (hl : l.stackTraces = false) : ∀ q ∈ L_L_bestLag, (q.2.1 < 5 → gk_Lk l RL gk_W1 9 q.1 q.2.1 q.2.2.1 q.2.2.2.1 q.2.2.2.2.1 q.2.2.2.2.2) := (List.forall_mem_cons.mpr ⟨(fun _ => ⟨yX10_bestLag, cX10_bestLag, 13, (some .int), 8, _, M_X10_bestLag hl, ⟨by decide, by decide⟩, ⟨by decide, by decide, by decide +kernel⟩, ⟨(gk_wm 1037 (by decide +kernel)), (gk_wm 89 (by decide +kernel))⟩, Or.inr (Or.inr (Or.inr (Or.inl ⟨rfl, rfl, (gk_wm 1035 (by decide +kernel)), (gk_wm 1036 (by decide +kernel)), gk_wm 1034 (by decide +kernel), by decide, rfl⟩)))⟩), (fun _ h => absurd h List.not_mem_nil)⟩)
theorem sp_L_bestLag : ∀ q ∈ L_L_bestLag, gk_Sq RL gk_W1 9 q := (List.forall_mem_cons.mpr ⟨⟨fun h => absurd h (by decide), fun h => absurd h (by decide), fun h => absurd h (by decide), fun h => absurd h (by decide), fun h => absurd h (by decide), fun h => absurd h (by decide)⟩, (fun _ h => absurd h List.not_mem_nil)⟩)
theorem ho_L_bestLag : ∀ z ∈ H_L_bestLag, gk_Hok RL cL_bestLag 6 z := (List.forall_mem_cons.mpr ⟨⟨by decide, by decide, gk_wm 847 (by decide +kernel), by decide, Or.inl ⟨dL_bestLag_15, rfl⟩⟩, (List.forall_mem_cons.mpr ⟨⟨by decide, by decide, gk_wm 726 (by decide +kernel), by decide, Or.inl ⟨dL_bestLag_19, rfl⟩⟩, (fun _ h => absurd h List.not_mem_nil)⟩)⟩)
theorem M_L_bestLag {l : Launch} (hl : l.stackTraces = false) : gk_Mt l yL_bestLag (.codeWith yL_bestLag cL_bestLag 6 (some .int) (H_L_bestLag.map gk_hr) :: gk_W1) 9 3 S_L_bestLag := gk_methH gk_cw_ok H_L_bestLag (by decide +kernel) rfl nt_L_bestLag m_L_bestLag pL_ok (gk_Sp_of sp_L_bestLag) pL_st (fun ci m S h => absurd h (by intro h; cases h)) hno_L ho_L_bestLag (fun idx kd ci mm cost S2 h h5 => lk_L_bestLag hl _ (gk_lk_mem h) h5)

def S_L_focusOnVehicle : gk_S := fun as n fl x y K => ∃ (v : Int32) (b : Int32) (e : Int32) (g : Nat → Int32), as = [.ref 0, .int v, .int b, .int e] ∧ (n = 202 ∧ fl = gk_fT) ∧ (RS 1 g x y) ∧ (gOK g) ∧ ((0 ≤ v ∧ v < g 6) → ((-1000 ≤ b ∧ b ≤ 1000) ∧ (0 ≤ e ∧ e ≤ 500)) → ∀ (x2 : gk_X) (y2 : gk_Y), COk (gFO g 0 v b 0 e) x x2 y y2 → K (.inl (some (.int 0))) n fl x2 y2) ∧ (¬ (0 ≤ v ∧ v < g 6) → ∀ (x2 : gk_X) (y2 : gk_Y), COk g x x2 y y2 → K (.inl (some (.int 1))) n fl x2 y2) ∧ ((0 ≤ v ∧ v < g 6) → ¬ ((-1000 ≤ b ∧ b ≤ 1000) ∧ (0 ≤ e ∧ e ≤ 500)) → ∀ (x2 : gk_X) (y2 : gk_Y), COk g x x2 y y2 → K (.inl (some (.int 2))) n fl x2 y2)
theorem r_L_focusOnVehicle (w : gk_W c P cs (fun _ _ => none) rt uf sc K V) {idx : Nat} {v : Int32} {b : Int32} {e : Int32} {g : Nat → Int32} (hd : decode c pc = .ok (.invokestatic idx, 3)) (hp : pc + 3 = pc2) (hc : cs idx = some (0, 0, 4, 3, S_L_focusOnVehicle)) (h8 : Nat.ble (r.map Value.category).sum 8 = true) (hu : u + 3 ≤ uf) (hp0 : RS 1 g x y) (hp1 : gOK g) (kk0 : (0 ≤ v ∧ v < g 6) → ((-1000 ≤ b ∧ b ≤ 1000) ∧ (0 ≤ e ∧ e ≤ 500)) → ∀ (x2 : gk_X) (y2 : gk_Y), COk (gFO g 0 v b 0 e) x x2 y y2 → V pc2 L ((.int 0) :: r) 202 gk_fT x2 y2 (u + 3)) (kk1 : ¬ (0 ≤ v ∧ v < g 6) → ∀ (x2 : gk_X) (y2 : gk_Y), COk g x x2 y y2 → V pc2 L ((.int 1) :: r) 202 gk_fT x2 y2 (u + 3)) (kk2 : (0 ≤ v ∧ v < g 6) → ¬ ((-1000 ≤ b ∧ b ≤ 1000) ∧ (0 ≤ e ∧ e ≤ 500)) → ∀ (x2 : gk_X) (y2 : gk_Y), COk g x x2 y y2 → V pc2 L ((.int 2) :: r) 202 gk_fT x2 y2 (u + 3)) : V pc L (.int e :: .int b :: .int v :: .ref 0 :: r) 202 gk_fT x y u :=
  g_calls w hd hp hc (as := [.ref 0, .int v, .int b, .int e]) rfl h8 rfl rfl rfl (Or.inl rfl) (Or.inr hu) ⟨v, b, e, g, rfl, ⟨rfl, rfl⟩, hp0, hp1, kk0, kk1, kk2⟩
theorem nt_L_focusOnVehicle : gk_nt S_L_focusOnVehicle := fun _ _ _ _ _ _ ⟨v, b, e, g, e0, e1, e2, e3, e4, e5, e6⟩ => ⟨v, b, e, g, e0, e1, e2, e3, e4, e5, e6⟩
def H_L_focusOnVehicle : List gk_H := [(0, 7, 10, 32, 2, 12, 4), (0, 7, 14, 13, 0, 16, 4)]
def L_L_focusOnVehicle : List (Nat × gk_M0) := [(81, (1, 9, 4, 3, S_X10_focusOnVehicle))]
def cs_L_focusOnVehicle : Nat → Option gk_M0 := gk_lk L_L_focusOnVehicle
theorem m_L_focusOnVehicle : ∀ (as : List Value) (n : Nat) (fl : gk_F) (x : gk_X) (y : gk_Y) (K : gk_K), S_L_focusOnVehicle as n fl x y K → (gk_L0 as).length ≤ 5 ∧ ∀ V : gk_V, gk_W cL_focusOnVehicle pL cs_L_focusOnVehicle (gk_fh H_L_focusOnVehicle) (some .int) 3 none K V → V 0 (gk_en as 5) [] n fl x y 0 := by
  intro as n fl x y K hS
  obtain ⟨v, b, e, g, rfl, ⟨rfl, rfl⟩, hp0, hp1, q0, q1, q2⟩ := hS
  refine ⟨Nat.le_of_ble_eq_true rfl, fun V w => ?_⟩
  show V 0 [some (.ref 0), some (.int v), some (.int b), some (.int e), none] [] 202 gk_fT x y 0
  refine s_aload_n (pc2 := 1) w dL_focusOnVehicle_0 rfl rfl ?_
  refine s_iload_n (pc2 := 2) w dL_focusOnVehicle_1 rfl rfl ?_
  refine s_iload_n (pc2 := 3) w dL_focusOnVehicle_2 rfl rfl ?_
  refine s_iload_n (pc2 := 4) w dL_focusOnVehicle_3 rfl rfl ?_
  refine g_callv (pc2 := 7) (r := []) w dL_focusOnVehicle_4 rfl rfl (as := [.ref 0, .int v, .int b, .int e]) rfl rfl rfl rfl rfl (Or.inr (Or.inl ⟨Or.inl rfl, _, _, rfl, (gk_kd_j rfl rfl), rfl⟩)) (Or.inr (Nat.le_of_ble_eq_true rfl)) ⟨v, b, e, g, rfl, ⟨rfl, rfl⟩, hp0, hp1, ?_, ?_, ?_⟩
  · intro b0 b1 x2 y2 b2
    show V 7 [some (.ref 0), some (.int v), some (.int b), some (.int e), none] [] 202 gk_fT x2 y2 (0 + 3)
    refine s_goto (tgt := 18) w dL_focusOnVehicle_7 (by decide) ?_
    refine s_iconst (pc2 := 19) (v := 0) w dL_focusOnVehicle_18 rfl rfl ?_
    refine s_ireturn w dL_focusOnVehicle_19 rfl rfl ?_
    exact q0 b0 b1 x2 y2 b2
  · intro b0 x2 y2 b1
    show V 12 [some (.ref 0), some (.int v), some (.int b), some (.int e), none] [] 202 gk_fT x2 y2 (0 + 3)
    refine s_iconst (pc2 := 13) (v := 1) w dL_focusOnVehicle_12 rfl rfl ?_
    refine s_ireturn w dL_focusOnVehicle_13 rfl rfl ?_
    exact q1 b0 x2 y2 b1
  · intro b0 b1 x2 y2 b2
    show V 16 [some (.ref 0), some (.int v), some (.int b), some (.int e), none] [] 202 gk_fT x2 y2 (0 + 3)
    refine s_iconst (pc2 := 17) (v := 2) w dL_focusOnVehicle_16 rfl rfl ?_
    refine s_ireturn w dL_focusOnVehicle_17 rfl rfl ?_
    exact q2 b0 b1 x2 y2 b2
theorem lk_L_focusOnVehicle {l : Launch} (hl : l.stackTraces = false) : ∀ q ∈ L_L_focusOnVehicle, (q.2.1 < 5 → gk_Lk l RL gk_W1 8 q.1 q.2.1 q.2.2.1 q.2.2.2.1 q.2.2.2.2.1 q.2.2.2.2.2) := (List.forall_mem_cons.mpr ⟨(fun _ => ⟨yX10_focusOnVehicle, cX10_focusOnVehicle, 4, none, 7, _, M_X10_focusOnVehicle hl, ⟨by decide, by decide⟩, ⟨by decide, by decide, by decide +kernel⟩, ⟨(gk_wm 1048 (by decide +kernel)), (gk_wm 89 (by decide +kernel))⟩, Or.inr (Or.inr (Or.inr (Or.inl ⟨rfl, rfl, (gk_wm 1046 (by decide +kernel)), (gk_wm 1047 (by decide +kernel)), gk_wm 1045 (by decide +kernel), by decide, rfl⟩)))⟩), (fun _ h => absurd h List.not_mem_nil)⟩)
theorem sp_L_focusOnVehicle : ∀ q ∈ L_L_focusOnVehicle, gk_Sq RL gk_W1 8 q := (List.forall_mem_cons.mpr ⟨⟨fun h => absurd h (by decide), fun h => absurd h (by decide), fun h => absurd h (by decide), fun h => absurd h (by decide), fun h => absurd h (by decide), fun h => absurd h (by decide)⟩, (fun _ h => absurd h List.not_mem_nil)⟩)
theorem ho_L_focusOnVehicle : ∀ z ∈ H_L_focusOnVehicle, gk_Hok RL cL_focusOnVehicle 5 z := (List.forall_mem_cons.mpr ⟨⟨by decide, by decide, gk_wm 847 (by decide +kernel), by decide, Or.inl ⟨dL_focusOnVehicle_10, rfl⟩⟩, (List.forall_mem_cons.mpr ⟨⟨by decide, by decide, gk_wm 726 (by decide +kernel), by decide, Or.inl ⟨dL_focusOnVehicle_14, rfl⟩⟩, (fun _ h => absurd h List.not_mem_nil)⟩)⟩)
theorem M_L_focusOnVehicle {l : Launch} (hl : l.stackTraces = false) : gk_Mt l yL_focusOnVehicle (.codeWith yL_focusOnVehicle cL_focusOnVehicle 5 (some .int) (H_L_focusOnVehicle.map gk_hr) :: gk_W1) 8 3 S_L_focusOnVehicle := gk_methH gk_cw_ok H_L_focusOnVehicle (by decide +kernel) rfl nt_L_focusOnVehicle m_L_focusOnVehicle pL_ok (gk_Sp_of sp_L_focusOnVehicle) pL_st (fun ci m S h => absurd h (by intro h; cases h)) hno_L ho_L_focusOnVehicle (fun idx kd ci mm cost S2 h h5 => lk_L_focusOnVehicle hl _ (gk_lk_mem h) h5)

def S_L_focusOnPlace : gk_S := fun as n fl x y K => ∃ (a : Int32) (b : Int32) (e : Int32) (g : Nat → Int32), as = [.ref 0, .int a, .int b, .int e] ∧ (n = 202 ∧ fl = gk_fT) ∧ (RS 1 g x y) ∧ (gOK g) ∧ ((((-20000 ≤ a ∧ a ≤ 20000) ∧ (-50 ≤ (0 : Int32) ∧ (0 : Int32) ≤ 50) ∧ (100 ≤ b ∧ b ≤ 5000)) ∧ (0 ≤ e ∧ e ≤ 500)) → ∀ (x2 : gk_X) (y2 : gk_Y), COk (gFO g 1 0 a b e) x x2 y y2 → K (.inl (some (.int 0))) n fl x2 y2) ∧ (¬ (((-20000 ≤ a ∧ a ≤ 20000) ∧ (-50 ≤ (0 : Int32) ∧ (0 : Int32) ≤ 50) ∧ (100 ≤ b ∧ b ≤ 5000)) ∧ (0 ≤ e ∧ e ≤ 500)) → ∀ (x2 : gk_X) (y2 : gk_Y), COk g x x2 y y2 → K (.inl (some (.int 1))) n fl x2 y2)
theorem r_L_focusOnPlace (w : gk_W c P cs (fun _ _ => none) rt uf sc K V) {idx : Nat} {a : Int32} {b : Int32} {e : Int32} {g : Nat → Int32} (hd : decode c pc = .ok (.invokestatic idx, 3)) (hp : pc + 3 = pc2) (hc : cs idx = some (0, 0, 4, 3, S_L_focusOnPlace)) (h8 : Nat.ble (r.map Value.category).sum 8 = true) (hu : u + 3 ≤ uf) (hp0 : RS 1 g x y) (hp1 : gOK g) (kk0 : (((-20000 ≤ a ∧ a ≤ 20000) ∧ (-50 ≤ (0 : Int32) ∧ (0 : Int32) ≤ 50) ∧ (100 ≤ b ∧ b ≤ 5000)) ∧ (0 ≤ e ∧ e ≤ 500)) → ∀ (x2 : gk_X) (y2 : gk_Y), COk (gFO g 1 0 a b e) x x2 y y2 → V pc2 L ((.int 0) :: r) 202 gk_fT x2 y2 (u + 3)) (kk1 : ¬ (((-20000 ≤ a ∧ a ≤ 20000) ∧ (-50 ≤ (0 : Int32) ∧ (0 : Int32) ≤ 50) ∧ (100 ≤ b ∧ b ≤ 5000)) ∧ (0 ≤ e ∧ e ≤ 500)) → ∀ (x2 : gk_X) (y2 : gk_Y), COk g x x2 y y2 → V pc2 L ((.int 1) :: r) 202 gk_fT x2 y2 (u + 3)) : V pc L (.int e :: .int b :: .int a :: .ref 0 :: r) 202 gk_fT x y u :=
  g_calls w hd hp hc (as := [.ref 0, .int a, .int b, .int e]) rfl h8 rfl rfl rfl (Or.inl rfl) (Or.inr hu) ⟨a, b, e, g, rfl, ⟨rfl, rfl⟩, hp0, hp1, kk0, kk1⟩
theorem nt_L_focusOnPlace : gk_nt S_L_focusOnPlace := fun _ _ _ _ _ _ ⟨a, b, e, g, e0, e1, e2, e3, e4, e5⟩ => ⟨a, b, e, g, e0, e1, e2, e3, e4, e5⟩
def H_L_focusOnPlace : List gk_H := [(0, 7, 10, 13, 0, 12, 4)]
def L_L_focusOnPlace : List (Nat × gk_M0) := [(85, (1, 9, 4, 3, S_X10_focusOnPlace))]
def cs_L_focusOnPlace : Nat → Option gk_M0 := gk_lk L_L_focusOnPlace
theorem m_L_focusOnPlace : ∀ (as : List Value) (n : Nat) (fl : gk_F) (x : gk_X) (y : gk_Y) (K : gk_K), S_L_focusOnPlace as n fl x y K → (gk_L0 as).length ≤ 5 ∧ ∀ V : gk_V, gk_W cL_focusOnPlace pL cs_L_focusOnPlace (gk_fh H_L_focusOnPlace) (some .int) 3 none K V → V 0 (gk_en as 5) [] n fl x y 0 := by
  intro as n fl x y K hS
  obtain ⟨a, b, e, g, rfl, ⟨rfl, rfl⟩, hp0, hp1, q0, q1⟩ := hS
  refine ⟨Nat.le_of_ble_eq_true rfl, fun V w => ?_⟩
  show V 0 [some (.ref 0), some (.int a), some (.int b), some (.int e), none] [] 202 gk_fT x y 0
  refine s_aload_n (pc2 := 1) w dL_focusOnPlace_0 rfl rfl ?_
  refine s_iload_n (pc2 := 2) w dL_focusOnPlace_1 rfl rfl ?_
  refine s_iload_n (pc2 := 3) w dL_focusOnPlace_2 rfl rfl ?_
  refine s_iload_n (pc2 := 4) w dL_focusOnPlace_3 rfl rfl ?_
  refine g_callv (pc2 := 7) (r := []) w dL_focusOnPlace_4 rfl rfl (as := [.ref 0, .int a, .int b, .int e]) rfl rfl rfl rfl rfl (Or.inr (Or.inl ⟨Or.inl rfl, _, _, rfl, (gk_kd_j rfl rfl), rfl⟩)) (Or.inr (Nat.le_of_ble_eq_true rfl)) ⟨a, b, e, g, rfl, ⟨rfl, rfl⟩, hp0, hp1, ?_, ?_⟩
  · intro b0 x2 y2 b1
    show V 7 [some (.ref 0), some (.int a), some (.int b), some (.int e), none] [] 202 gk_fT x2 y2 (0 + 3)
    refine s_goto (tgt := 14) w dL_focusOnPlace_7 (by decide) ?_
    refine s_iconst (pc2 := 15) (v := 0) w dL_focusOnPlace_14 rfl rfl ?_
    refine s_ireturn w dL_focusOnPlace_15 rfl rfl ?_
    exact q0 b0 x2 y2 b1
  · intro b0 x2 y2 b1
    show V 12 [some (.ref 0), some (.int a), some (.int b), some (.int e), none] [] 202 gk_fT x2 y2 (0 + 3)
    refine s_iconst (pc2 := 13) (v := 1) w dL_focusOnPlace_12 rfl rfl ?_
    refine s_ireturn w dL_focusOnPlace_13 rfl rfl ?_
    exact q1 b0 x2 y2 b1
theorem lk_L_focusOnPlace {l : Launch} (hl : l.stackTraces = false) : ∀ q ∈ L_L_focusOnPlace, (q.2.1 < 5 → gk_Lk l RL gk_W1 8 q.1 q.2.1 q.2.2.1 q.2.2.2.1 q.2.2.2.2.1 q.2.2.2.2.2) := (List.forall_mem_cons.mpr ⟨(fun _ => ⟨yX10_focusOnPlace, cX10_focusOnPlace, 4, none, 7, _, M_X10_focusOnPlace hl, ⟨by decide, by decide⟩, ⟨by decide, by decide, by decide +kernel⟩, ⟨(gk_wm 1056 (by decide +kernel)), (gk_wm 89 (by decide +kernel))⟩, Or.inr (Or.inr (Or.inr (Or.inl ⟨rfl, rfl, (gk_wm 1054 (by decide +kernel)), (gk_wm 1055 (by decide +kernel)), gk_wm 1053 (by decide +kernel), by decide, rfl⟩)))⟩), (fun _ h => absurd h List.not_mem_nil)⟩)
theorem sp_L_focusOnPlace : ∀ q ∈ L_L_focusOnPlace, gk_Sq RL gk_W1 8 q := (List.forall_mem_cons.mpr ⟨⟨fun h => absurd h (by decide), fun h => absurd h (by decide), fun h => absurd h (by decide), fun h => absurd h (by decide), fun h => absurd h (by decide), fun h => absurd h (by decide)⟩, (fun _ h => absurd h List.not_mem_nil)⟩)
theorem ho_L_focusOnPlace : ∀ z ∈ H_L_focusOnPlace, gk_Hok RL cL_focusOnPlace 5 z := (List.forall_mem_cons.mpr ⟨⟨by decide, by decide, gk_wm 726 (by decide +kernel), by decide, Or.inl ⟨dL_focusOnPlace_10, rfl⟩⟩, (fun _ h => absurd h List.not_mem_nil)⟩)
theorem M_L_focusOnPlace {l : Launch} (hl : l.stackTraces = false) : gk_Mt l yL_focusOnPlace (.codeWith yL_focusOnPlace cL_focusOnPlace 5 (some .int) (H_L_focusOnPlace.map gk_hr) :: gk_W1) 8 3 S_L_focusOnPlace := gk_methH gk_cw_ok H_L_focusOnPlace (by decide +kernel) rfl nt_L_focusOnPlace m_L_focusOnPlace pL_ok (gk_Sp_of sp_L_focusOnPlace) pL_st (fun ci m S h => absurd h (by intro h; cases h)) hno_L ho_L_focusOnPlace (fun idx kd ci mm cost S2 h h5 => lk_L_focusOnPlace hl _ (gk_lk_mem h) h5)

def S_L_focusOnDirection : gk_S := fun as n fl x y K => ∃ (a : Int32) (g : Nat → Int32), as = [.ref 0, .int a] ∧ (n = 202 ∧ fl = gk_fT) ∧ (RS 1 g x y) ∧ (gOK g) ∧ ((-100 ≤ a ∧ a ≤ 100) → ∀ (x2 : gk_X) (y2 : gk_Y), COk (gFO g 2 0 a 0 0) x x2 y y2 → K (.inl (some (.int 0))) n fl x2 y2) ∧ (¬ (-100 ≤ a ∧ a ≤ 100) → ∀ (x2 : gk_X) (y2 : gk_Y), COk g x x2 y y2 → K (.inl (some (.int 1))) n fl x2 y2)
theorem r_L_focusOnDirection (w : gk_W c P cs (fun _ _ => none) rt uf sc K V) {idx : Nat} {a : Int32} {g : Nat → Int32} (hd : decode c pc = .ok (.invokestatic idx, 3)) (hp : pc + 3 = pc2) (hc : cs idx = some (0, 0, 2, 1, S_L_focusOnDirection)) (h8 : Nat.ble (r.map Value.category).sum 8 = true) (hu : u + 1 ≤ uf) (hp0 : RS 1 g x y) (hp1 : gOK g) (kk0 : (-100 ≤ a ∧ a ≤ 100) → ∀ (x2 : gk_X) (y2 : gk_Y), COk (gFO g 2 0 a 0 0) x x2 y y2 → V pc2 L ((.int 0) :: r) 202 gk_fT x2 y2 (u + 1)) (kk1 : ¬ (-100 ≤ a ∧ a ≤ 100) → ∀ (x2 : gk_X) (y2 : gk_Y), COk g x x2 y y2 → V pc2 L ((.int 1) :: r) 202 gk_fT x2 y2 (u + 1)) : V pc L (.int a :: .ref 0 :: r) 202 gk_fT x y u :=
  g_calls w hd hp hc (as := [.ref 0, .int a]) rfl h8 rfl rfl rfl (Or.inl rfl) (Or.inr hu) ⟨a, g, rfl, ⟨rfl, rfl⟩, hp0, hp1, kk0, kk1⟩
theorem nt_L_focusOnDirection : gk_nt S_L_focusOnDirection := fun _ _ _ _ _ _ ⟨a, g, e0, e1, e2, e3, e4, e5⟩ => ⟨a, g, e0, e1, e2, e3, e4, e5⟩
def H_L_focusOnDirection : List gk_H := [(0, 5, 8, 13, 0, 9, 2)]
def L_L_focusOnDirection : List (Nat × gk_M0) := [(88, (1, 9, 2, 1, S_X10_focusOnDirection))]
def cs_L_focusOnDirection : Nat → Option gk_M0 := gk_lk L_L_focusOnDirection
theorem m_L_focusOnDirection : ∀ (as : List Value) (n : Nat) (fl : gk_F) (x : gk_X) (y : gk_Y) (K : gk_K), S_L_focusOnDirection as n fl x y K → (gk_L0 as).length ≤ 3 ∧ ∀ V : gk_V, gk_W cL_focusOnDirection pL cs_L_focusOnDirection (gk_fh H_L_focusOnDirection) (some .int) 1 none K V → V 0 (gk_en as 3) [] n fl x y 0 := by
  intro as n fl x y K hS
  obtain ⟨a, g, rfl, ⟨rfl, rfl⟩, hp0, hp1, q0, q1⟩ := hS
  refine ⟨Nat.le_of_ble_eq_true rfl, fun V w => ?_⟩
  show V 0 [some (.ref 0), some (.int a), none] [] 202 gk_fT x y 0
  refine s_aload_n (pc2 := 1) w dL_focusOnDirection_0 rfl rfl ?_
  refine s_iload_n (pc2 := 2) w dL_focusOnDirection_1 rfl rfl ?_
  refine g_callv (pc2 := 5) (r := []) w dL_focusOnDirection_2 rfl rfl (as := [.ref 0, .int a]) rfl rfl rfl rfl rfl (Or.inr (Or.inl ⟨Or.inl rfl, _, _, rfl, (gk_kd_j rfl rfl), rfl⟩)) (Or.inr (Nat.le_of_ble_eq_true rfl)) ⟨a, g, rfl, ⟨rfl, rfl⟩, hp0, hp1, ?_, ?_⟩
  · intro b0 x2 y2 b1
    show V 5 [some (.ref 0), some (.int a), none] [] 202 gk_fT x2 y2 (0 + 1)
    refine s_goto (tgt := 11) w dL_focusOnDirection_5 (by decide) ?_
    refine s_iconst (pc2 := 12) (v := 0) w dL_focusOnDirection_11 rfl rfl ?_
    refine s_ireturn w dL_focusOnDirection_12 rfl rfl ?_
    exact q0 b0 x2 y2 b1
  · intro b0 x2 y2 b1
    show V 9 [some (.ref 0), some (.int a), none] [] 202 gk_fT x2 y2 (0 + 1)
    refine s_iconst (pc2 := 10) (v := 1) w dL_focusOnDirection_9 rfl rfl ?_
    refine s_ireturn w dL_focusOnDirection_10 rfl rfl ?_
    exact q1 b0 x2 y2 b1
theorem lk_L_focusOnDirection {l : Launch} (hl : l.stackTraces = false) : ∀ q ∈ L_L_focusOnDirection, (q.2.1 < 5 → gk_Lk l RL gk_W1 8 q.1 q.2.1 q.2.2.1 q.2.2.2.1 q.2.2.2.2.1 q.2.2.2.2.2) := (List.forall_mem_cons.mpr ⟨(fun _ => ⟨yX10_focusOnDirection, cX10_focusOnDirection, 2, none, 7, _, M_X10_focusOnDirection hl, ⟨by decide, by decide⟩, ⟨by decide, by decide, by decide +kernel⟩, ⟨(gk_wm 1064 (by decide +kernel)), (gk_wm 89 (by decide +kernel))⟩, Or.inr (Or.inr (Or.inr (Or.inl ⟨rfl, rfl, (gk_wm 1062 (by decide +kernel)), (gk_wm 1063 (by decide +kernel)), gk_wm 1061 (by decide +kernel), by decide, rfl⟩)))⟩), (fun _ h => absurd h List.not_mem_nil)⟩)
theorem sp_L_focusOnDirection : ∀ q ∈ L_L_focusOnDirection, gk_Sq RL gk_W1 8 q := (List.forall_mem_cons.mpr ⟨⟨fun h => absurd h (by decide), fun h => absurd h (by decide), fun h => absurd h (by decide), fun h => absurd h (by decide), fun h => absurd h (by decide), fun h => absurd h (by decide)⟩, (fun _ h => absurd h List.not_mem_nil)⟩)
theorem ho_L_focusOnDirection : ∀ z ∈ H_L_focusOnDirection, gk_Hok RL cL_focusOnDirection 3 z := (List.forall_mem_cons.mpr ⟨⟨by decide, by decide, gk_wm 726 (by decide +kernel), by decide, Or.inr ⟨2, dL_focusOnDirection_8, rfl, rfl⟩⟩, (fun _ h => absurd h List.not_mem_nil)⟩)
theorem M_L_focusOnDirection {l : Launch} (hl : l.stackTraces = false) : gk_Mt l yL_focusOnDirection (.codeWith yL_focusOnDirection cL_focusOnDirection 3 (some .int) (H_L_focusOnDirection.map gk_hr) :: gk_W1) 8 1 S_L_focusOnDirection := gk_methH gk_cw_ok H_L_focusOnDirection (by decide +kernel) rfl nt_L_focusOnDirection m_L_focusOnDirection pL_ok (gk_Sp_of sp_L_focusOnDirection) pL_st (fun ci m S h => absurd h (by intro h; cases h)) hno_L ho_L_focusOnDirection (fun idx kd ci mm cost S2 h h5 => lk_L_focusOnDirection hl _ (gk_lk_mem h) h5)

def S_L_sampleNumber : gk_S := fun as n fl x y K => ∃ (m : Int32) (t : Int32) (g : Nat → Int32), as = [.ref 0, .int m, .int t, .ref 200] ∧ (n = 202 ∧ fl = gk_fT) ∧ (RS 1 g x y) ∧ (gOK g) ∧ ((0 ≤ m ∧ m < g 8) → (0 ≤ t ∧ t ≤ 255) → ∀ (x2 : gk_X) (y2 : gk_Y), COk g x x2 y y2 → K (.inl (some (.int 0))) n fl x2 (gk_uy y2 200 0 ((gk_sn g (cN m) (cN t))).toInt64)) ∧ (¬ (0 ≤ m ∧ m < g 8) → ∀ (x2 : gk_X) (y2 : gk_Y), COk g x x2 y y2 → K (.inl (some (.int 1))) n fl x2 y2) ∧ ((0 ≤ m ∧ m < g 8) → ¬ (0 ≤ t ∧ t ≤ 255) → ∀ (x2 : gk_X) (y2 : gk_Y), COk g x x2 y y2 → K (.inl (some (.int 2))) n fl x2 y2)
theorem r_L_sampleNumber (w : gk_W c P cs (fun _ _ => none) rt uf sc K V) {idx : Nat} {m : Int32} {t : Int32} {g : Nat → Int32} (hd : decode c pc = .ok (.invokestatic idx, 3)) (hp : pc + 3 = pc2) (hc : cs idx = some (0, 0, 4, 2, S_L_sampleNumber)) (h8 : Nat.ble (r.map Value.category).sum 8 = true) (hu : u + 2 ≤ uf) (hp0 : RS 1 g x y) (hp1 : gOK g) (kk0 : (0 ≤ m ∧ m < g 8) → (0 ≤ t ∧ t ≤ 255) → ∀ (x2 : gk_X) (y2 : gk_Y), COk g x x2 y y2 → V pc2 L ((.int 0) :: r) 202 gk_fT x2 (gk_uy y2 200 0 ((gk_sn g (cN m) (cN t))).toInt64) (u + 2)) (kk1 : ¬ (0 ≤ m ∧ m < g 8) → ∀ (x2 : gk_X) (y2 : gk_Y), COk g x x2 y y2 → V pc2 L ((.int 1) :: r) 202 gk_fT x2 y2 (u + 2)) (kk2 : (0 ≤ m ∧ m < g 8) → ¬ (0 ≤ t ∧ t ≤ 255) → ∀ (x2 : gk_X) (y2 : gk_Y), COk g x x2 y y2 → V pc2 L ((.int 2) :: r) 202 gk_fT x2 y2 (u + 2)) : V pc L (.ref 200 :: .int t :: .int m :: .ref 0 :: r) 202 gk_fT x y u :=
  g_calls w hd hp hc (as := [.ref 0, .int m, .int t, .ref 200]) rfl h8 rfl rfl rfl (Or.inl rfl) (Or.inr hu) ⟨m, t, g, rfl, ⟨rfl, rfl⟩, hp0, hp1, kk0, kk1, kk2⟩
theorem nt_L_sampleNumber : gk_nt S_L_sampleNumber := fun _ _ _ _ _ _ ⟨m, t, g, e0, e1, e2, e3, e4, e5, e6⟩ => ⟨m, t, g, e0, e1, e2, e3, e4, e5, e6⟩
def H_L_sampleNumber : List gk_H := [(0, 10, 13, 32, 2, 15, 4), (0, 10, 17, 13, 0, 19, 4)]
def L_L_sampleNumber : List (Nat × gk_M0) := [(92, (1, 9, 3, 2, S_X10_sampleNumber))]
def cs_L_sampleNumber : Nat → Option gk_M0 := gk_lk L_L_sampleNumber
theorem m_L_sampleNumber : ∀ (as : List Value) (n : Nat) (fl : gk_F) (x : gk_X) (y : gk_Y) (K : gk_K), S_L_sampleNumber as n fl x y K → (gk_L0 as).length ≤ 5 ∧ ∀ V : gk_V, gk_W cL_sampleNumber pL cs_L_sampleNumber (gk_fh H_L_sampleNumber) (some .int) 2 none K V → V 0 (gk_en as 5) [] n fl x y 0 := by
  intro as n fl x y K hS
  obtain ⟨m, t, g, rfl, ⟨rfl, rfl⟩, hp0, hp1, q0, q1, q2⟩ := hS
  refine ⟨Nat.le_of_ble_eq_true rfl, fun V w => ?_⟩
  show V 0 [some (.ref 0), some (.int m), some (.int t), some (.ref 200), none] [] 202 gk_fT x y 0
  refine s_aload_n (pc2 := 1) w dL_sampleNumber_0 rfl rfl ?_
  refine s_iconst (pc2 := 2) (v := 0) w dL_sampleNumber_1 rfl rfl ?_
  refine s_aload_n (pc2 := 3) w dL_sampleNumber_2 rfl rfl ?_
  refine s_iload_n (pc2 := 4) w dL_sampleNumber_3 rfl rfl ?_
  refine s_iload_n (pc2 := 5) w dL_sampleNumber_4 rfl rfl ?_
  refine g_callv (pc2 := 8) (r := [.int 0, .ref 200]) w dL_sampleNumber_5 rfl rfl (as := [.ref 0, .int m, .int t]) rfl rfl rfl rfl rfl (Or.inr (Or.inl ⟨Or.inl rfl, _, _, rfl, (gk_kd_j rfl rfl), rfl⟩)) (Or.inr (Nat.le_of_ble_eq_true rfl)) ⟨m, t, g, rfl, ⟨rfl, rfl⟩, hp0, hp1, ?_, ?_, ?_⟩
  · intro b0 b1 x2 y2 b2
    show V 8 [some (.ref 0), some (.int m), some (.int t), some (.ref 200), none] [(.int (gk_sn g (cN m) (cN t))), .int 0, .ref 200] 202 gk_fT x2 y2 (0 + 2)
    refine s_i2l (pc2 := 9) w dL_sampleNumber_8 rfl ?_
    refine m_lastoreN (pc2 := 10) (t := 0) (N := 1) w dL_sampleNumber_9 rfl rfl rfl rfl (by decide) rfl ?_
    refine s_goto (tgt := 21) w dL_sampleNumber_10 (by decide) ?_
    refine s_iconst (pc2 := 22) (v := 0) w dL_sampleNumber_21 rfl rfl ?_
    refine s_ireturn w dL_sampleNumber_22 rfl rfl ?_
    exact q0 b0 b1 x2 y2 b2
  · intro b0 x2 y2 b1
    show V 15 [some (.ref 0), some (.int m), some (.int t), some (.ref 200), none] [] 202 gk_fT x2 y2 (0 + 2)
    refine s_iconst (pc2 := 16) (v := 1) w dL_sampleNumber_15 rfl rfl ?_
    refine s_ireturn w dL_sampleNumber_16 rfl rfl ?_
    exact q1 b0 x2 y2 b1
  · intro b0 b1 x2 y2 b2
    show V 19 [some (.ref 0), some (.int m), some (.int t), some (.ref 200), none] [] 202 gk_fT x2 y2 (0 + 2)
    refine s_iconst (pc2 := 20) (v := 2) w dL_sampleNumber_19 rfl rfl ?_
    refine s_ireturn w dL_sampleNumber_20 rfl rfl ?_
    exact q2 b0 b1 x2 y2 b2
theorem lk_L_sampleNumber {l : Launch} (hl : l.stackTraces = false) : ∀ q ∈ L_L_sampleNumber, (q.2.1 < 5 → gk_Lk l RL gk_W1 9 q.1 q.2.1 q.2.2.1 q.2.2.2.1 q.2.2.2.2.1 q.2.2.2.2.2) := (List.forall_mem_cons.mpr ⟨(fun _ => ⟨yX10_sampleNumber, cX10_sampleNumber, 4, (some .int), 8, _, M_X10_sampleNumber hl, ⟨by decide, by decide⟩, ⟨by decide, by decide, by decide +kernel⟩, ⟨(gk_wm 1071 (by decide +kernel)), (gk_wm 89 (by decide +kernel))⟩, Or.inr (Or.inr (Or.inr (Or.inl ⟨rfl, rfl, (gk_wm 1069 (by decide +kernel)), (gk_wm 1070 (by decide +kernel)), gk_wm 1068 (by decide +kernel), by decide, rfl⟩)))⟩), (fun _ h => absurd h List.not_mem_nil)⟩)
theorem sp_L_sampleNumber : ∀ q ∈ L_L_sampleNumber, gk_Sq RL gk_W1 9 q := (List.forall_mem_cons.mpr ⟨⟨fun h => absurd h (by decide), fun h => absurd h (by decide), fun h => absurd h (by decide), fun h => absurd h (by decide), fun h => absurd h (by decide), fun h => absurd h (by decide)⟩, (fun _ h => absurd h List.not_mem_nil)⟩)
theorem ho_L_sampleNumber : ∀ z ∈ H_L_sampleNumber, gk_Hok RL cL_sampleNumber 5 z := (List.forall_mem_cons.mpr ⟨⟨by decide, by decide, gk_wm 847 (by decide +kernel), by decide, Or.inl ⟨dL_sampleNumber_13, rfl⟩⟩, (List.forall_mem_cons.mpr ⟨⟨by decide, by decide, gk_wm 726 (by decide +kernel), by decide, Or.inl ⟨dL_sampleNumber_17, rfl⟩⟩, (fun _ h => absurd h List.not_mem_nil)⟩)⟩)
theorem M_L_sampleNumber {l : Launch} (hl : l.stackTraces = false) : gk_Mt l yL_sampleNumber (.codeWith yL_sampleNumber cL_sampleNumber 5 (some .int) (H_L_sampleNumber.map gk_hr) :: gk_W1) 9 2 S_L_sampleNumber := gk_methH gk_cw_ok H_L_sampleNumber (by decide +kernel) rfl nt_L_sampleNumber m_L_sampleNumber pL_ok (gk_Sp_of sp_L_sampleNumber) pL_st (fun ci m S h => absurd h (by intro h; cases h)) hno_L ho_L_sampleNumber (fun idx kd ci mm cost S2 h h5 => lk_L_sampleNumber hl _ (gk_lk_mem h) h5)

def S_L_part : gk_S := fun as n fl x y K => ∃ (m : Int32) (t : Int32) (g : Nat → Int32), as = [.ref 0, .int m, .int t, .ref 200] ∧ (n = 202 ∧ fl = gk_fT) ∧ (RS 1 g x y) ∧ (gOK g) ∧ ((0 ≤ m ∧ m < g 8) → (0 ≤ t ∧ t ≤ 255) → ∀ (x2 : gk_X) (y2 : gk_Y), COk g x x2 y y2 → K (.inl (some (.int 0))) n fl x2 (gk_uy y2 200 0 ((gk_pp g (cN m) 0 (cN t))).toInt64)) ∧ (¬ (0 ≤ m ∧ m < g 8) → ∀ (x2 : gk_X) (y2 : gk_Y), COk g x x2 y y2 → K (.inl (some (.int 1))) n fl x2 y2) ∧ ((0 ≤ m ∧ m < g 8) → ¬ (0 ≤ t ∧ t ≤ 255) → ∀ (x2 : gk_X) (y2 : gk_Y), COk g x x2 y y2 → K (.inl (some (.int 2))) n fl x2 y2)
theorem r_L_part (w : gk_W c P cs (fun _ _ => none) rt uf sc K V) {idx : Nat} {m : Int32} {t : Int32} {g : Nat → Int32} (hd : decode c pc = .ok (.invokestatic idx, 3)) (hp : pc + 3 = pc2) (hc : cs idx = some (0, 0, 4, 2, S_L_part)) (h8 : Nat.ble (r.map Value.category).sum 8 = true) (hu : u + 2 ≤ uf) (hp0 : RS 1 g x y) (hp1 : gOK g) (kk0 : (0 ≤ m ∧ m < g 8) → (0 ≤ t ∧ t ≤ 255) → ∀ (x2 : gk_X) (y2 : gk_Y), COk g x x2 y y2 → V pc2 L ((.int 0) :: r) 202 gk_fT x2 (gk_uy y2 200 0 ((gk_pp g (cN m) 0 (cN t))).toInt64) (u + 2)) (kk1 : ¬ (0 ≤ m ∧ m < g 8) → ∀ (x2 : gk_X) (y2 : gk_Y), COk g x x2 y y2 → V pc2 L ((.int 1) :: r) 202 gk_fT x2 y2 (u + 2)) (kk2 : (0 ≤ m ∧ m < g 8) → ¬ (0 ≤ t ∧ t ≤ 255) → ∀ (x2 : gk_X) (y2 : gk_Y), COk g x x2 y y2 → V pc2 L ((.int 2) :: r) 202 gk_fT x2 y2 (u + 2)) : V pc L (.ref 200 :: .int t :: .int m :: .ref 0 :: r) 202 gk_fT x y u :=
  g_calls w hd hp hc (as := [.ref 0, .int m, .int t, .ref 200]) rfl h8 rfl rfl rfl (Or.inl rfl) (Or.inr hu) ⟨m, t, g, rfl, ⟨rfl, rfl⟩, hp0, hp1, kk0, kk1, kk2⟩
theorem nt_L_part : gk_nt S_L_part := fun _ _ _ _ _ _ ⟨m, t, g, e0, e1, e2, e3, e4, e5, e6⟩ => ⟨m, t, g, e0, e1, e2, e3, e4, e5, e6⟩
def H_L_part : List gk_H := [(0, 10, 13, 32, 2, 15, 4), (0, 10, 17, 13, 0, 19, 4)]
def L_L_part : List (Nat × gk_M0) := [(95, (1, 9, 3, 2, S_X10_part))]
def cs_L_part : Nat → Option gk_M0 := gk_lk L_L_part
theorem m_L_part : ∀ (as : List Value) (n : Nat) (fl : gk_F) (x : gk_X) (y : gk_Y) (K : gk_K), S_L_part as n fl x y K → (gk_L0 as).length ≤ 5 ∧ ∀ V : gk_V, gk_W cL_part pL cs_L_part (gk_fh H_L_part) (some .int) 2 none K V → V 0 (gk_en as 5) [] n fl x y 0 := by
  intro as n fl x y K hS
  obtain ⟨m, t, g, rfl, ⟨rfl, rfl⟩, hp0, hp1, q0, q1, q2⟩ := hS
  refine ⟨Nat.le_of_ble_eq_true rfl, fun V w => ?_⟩
  show V 0 [some (.ref 0), some (.int m), some (.int t), some (.ref 200), none] [] 202 gk_fT x y 0
  refine s_aload_n (pc2 := 1) w dL_part_0 rfl rfl ?_
  refine s_iconst (pc2 := 2) (v := 0) w dL_part_1 rfl rfl ?_
  refine s_aload_n (pc2 := 3) w dL_part_2 rfl rfl ?_
  refine s_iload_n (pc2 := 4) w dL_part_3 rfl rfl ?_
  refine s_iload_n (pc2 := 5) w dL_part_4 rfl rfl ?_
  refine g_callv (pc2 := 8) (r := [.int 0, .ref 200]) w dL_part_5 rfl rfl (as := [.ref 0, .int m, .int t]) rfl rfl rfl rfl rfl (Or.inr (Or.inl ⟨Or.inl rfl, _, _, rfl, (gk_kd_j rfl rfl), rfl⟩)) (Or.inr (Nat.le_of_ble_eq_true rfl)) ⟨m, t, g, rfl, ⟨rfl, rfl⟩, hp0, hp1, ?_, ?_, ?_⟩
  · intro b0 b1 x2 y2 b2
    show V 8 [some (.ref 0), some (.int m), some (.int t), some (.ref 200), none] [(.int (gk_pp g (cN m) 0 (cN t))), .int 0, .ref 200] 202 gk_fT x2 y2 (0 + 2)
    refine s_i2l (pc2 := 9) w dL_part_8 rfl ?_
    refine m_lastoreN (pc2 := 10) (t := 0) (N := 1) w dL_part_9 rfl rfl rfl rfl (by decide) rfl ?_
    refine s_goto (tgt := 21) w dL_part_10 (by decide) ?_
    refine s_iconst (pc2 := 22) (v := 0) w dL_part_21 rfl rfl ?_
    refine s_ireturn w dL_part_22 rfl rfl ?_
    exact q0 b0 b1 x2 y2 b2
  · intro b0 x2 y2 b1
    show V 15 [some (.ref 0), some (.int m), some (.int t), some (.ref 200), none] [] 202 gk_fT x2 y2 (0 + 2)
    refine s_iconst (pc2 := 16) (v := 1) w dL_part_15 rfl rfl ?_
    refine s_ireturn w dL_part_16 rfl rfl ?_
    exact q1 b0 x2 y2 b1
  · intro b0 b1 x2 y2 b2
    show V 19 [some (.ref 0), some (.int m), some (.int t), some (.ref 200), none] [] 202 gk_fT x2 y2 (0 + 2)
    refine s_iconst (pc2 := 20) (v := 2) w dL_part_19 rfl rfl ?_
    refine s_ireturn w dL_part_20 rfl rfl ?_
    exact q2 b0 b1 x2 y2 b2
theorem lk_L_part {l : Launch} (hl : l.stackTraces = false) : ∀ q ∈ L_L_part, (q.2.1 < 5 → gk_Lk l RL gk_W1 9 q.1 q.2.1 q.2.2.1 q.2.2.2.1 q.2.2.2.2.1 q.2.2.2.2.2) := (List.forall_mem_cons.mpr ⟨(fun _ => ⟨yX10_part, cX10_part, 4, (some .int), 8, _, M_X10_part hl, ⟨by decide, by decide⟩, ⟨by decide, by decide, by decide +kernel⟩, ⟨(gk_wm 1094 (by decide +kernel)), (gk_wm 89 (by decide +kernel))⟩, Or.inr (Or.inr (Or.inr (Or.inl ⟨rfl, rfl, (gk_wm 1092 (by decide +kernel)), (gk_wm 1093 (by decide +kernel)), gk_wm 1091 (by decide +kernel), by decide, rfl⟩)))⟩), (fun _ h => absurd h List.not_mem_nil)⟩)
theorem sp_L_part : ∀ q ∈ L_L_part, gk_Sq RL gk_W1 9 q := (List.forall_mem_cons.mpr ⟨⟨fun h => absurd h (by decide), fun h => absurd h (by decide), fun h => absurd h (by decide), fun h => absurd h (by decide), fun h => absurd h (by decide), fun h => absurd h (by decide)⟩, (fun _ h => absurd h List.not_mem_nil)⟩)
theorem ho_L_part : ∀ z ∈ H_L_part, gk_Hok RL cL_part 5 z := (List.forall_mem_cons.mpr ⟨⟨by decide, by decide, gk_wm 847 (by decide +kernel), by decide, Or.inl ⟨dL_part_13, rfl⟩⟩, (List.forall_mem_cons.mpr ⟨⟨by decide, by decide, gk_wm 726 (by decide +kernel), by decide, Or.inl ⟨dL_part_17, rfl⟩⟩, (fun _ h => absurd h List.not_mem_nil)⟩)⟩)
theorem M_L_part {l : Launch} (hl : l.stackTraces = false) : gk_Mt l yL_part (.codeWith yL_part cL_part 5 (some .int) (H_L_part.map gk_hr) :: gk_W1) 9 2 S_L_part := gk_methH gk_cw_ok H_L_part (by decide +kernel) rfl nt_L_part m_L_part pL_ok (gk_Sp_of sp_L_part) pL_st (fun ci m S h => absurd h (by intro h; cases h)) hno_L ho_L_part (fun idx kd ci mm cost S2 h h5 => lk_L_part hl _ (gk_lk_mem h) h5)

def S_L_beam : gk_S := fun as n fl x y K => ∃ (t : Int32) (g : Nat → Int32), as = [.ref 0, .int t, .ref 200] ∧ (n = 202 ∧ fl = gk_fT) ∧ (RS 1 g x y) ∧ (gOK g) ∧ ((0 ≤ t ∧ t ≤ 255) → ∀ (x2 : gk_X) (y2 : gk_Y), COk g x x2 y y2 → K (.inl (some (.int 0))) n fl x2 (gk_uy y2 200 0 ((gB g 0 (cN t))).toInt64)) ∧ (¬ (0 ≤ t ∧ t ≤ 255) → ∀ (x2 : gk_X) (y2 : gk_Y), COk g x x2 y y2 → K (.inl (some (.int 1))) n fl x2 y2)
theorem r_L_beam (w : gk_W c P cs (fun _ _ => none) rt uf sc K V) {idx : Nat} {t : Int32} {g : Nat → Int32} (hd : decode c pc = .ok (.invokestatic idx, 3)) (hp : pc + 3 = pc2) (hc : cs idx = some (0, 0, 3, 1, S_L_beam)) (h8 : Nat.ble (r.map Value.category).sum 8 = true) (hu : u + 1 ≤ uf) (hp0 : RS 1 g x y) (hp1 : gOK g) (kk0 : (0 ≤ t ∧ t ≤ 255) → ∀ (x2 : gk_X) (y2 : gk_Y), COk g x x2 y y2 → V pc2 L ((.int 0) :: r) 202 gk_fT x2 (gk_uy y2 200 0 ((gB g 0 (cN t))).toInt64) (u + 1)) (kk1 : ¬ (0 ≤ t ∧ t ≤ 255) → ∀ (x2 : gk_X) (y2 : gk_Y), COk g x x2 y y2 → V pc2 L ((.int 1) :: r) 202 gk_fT x2 y2 (u + 1)) : V pc L (.ref 200 :: .int t :: .ref 0 :: r) 202 gk_fT x y u :=
  g_calls w hd hp hc (as := [.ref 0, .int t, .ref 200]) rfl h8 rfl rfl rfl (Or.inl rfl) (Or.inr hu) ⟨t, g, rfl, ⟨rfl, rfl⟩, hp0, hp1, kk0, kk1⟩
theorem nt_L_beam : gk_nt S_L_beam := fun _ _ _ _ _ _ ⟨t, g, e0, e1, e2, e3, e4, e5⟩ => ⟨t, g, e0, e1, e2, e3, e4, e5⟩
def H_L_beam : List gk_H := [(0, 9, 12, 13, 0, 13, 3)]
def L_L_beam : List (Nat × gk_M0) := [(98, (1, 9, 2, 1, S_X10_beam))]
def cs_L_beam : Nat → Option gk_M0 := gk_lk L_L_beam
theorem m_L_beam : ∀ (as : List Value) (n : Nat) (fl : gk_F) (x : gk_X) (y : gk_Y) (K : gk_K), S_L_beam as n fl x y K → (gk_L0 as).length ≤ 4 ∧ ∀ V : gk_V, gk_W cL_beam pL cs_L_beam (gk_fh H_L_beam) (some .int) 1 none K V → V 0 (gk_en as 4) [] n fl x y 0 := by
  intro as n fl x y K hS
  obtain ⟨t, g, rfl, ⟨rfl, rfl⟩, hp0, hp1, q0, q1⟩ := hS
  refine ⟨Nat.le_of_ble_eq_true rfl, fun V w => ?_⟩
  show V 0 [some (.ref 0), some (.int t), some (.ref 200), none] [] 202 gk_fT x y 0
  refine s_aload_n (pc2 := 1) w dL_beam_0 rfl rfl ?_
  refine s_iconst (pc2 := 2) (v := 0) w dL_beam_1 rfl rfl ?_
  refine s_aload_n (pc2 := 3) w dL_beam_2 rfl rfl ?_
  refine s_iload_n (pc2 := 4) w dL_beam_3 rfl rfl ?_
  refine g_callv (pc2 := 7) (r := [.int 0, .ref 200]) w dL_beam_4 rfl rfl (as := [.ref 0, .int t]) rfl rfl rfl rfl rfl (Or.inr (Or.inl ⟨Or.inl rfl, _, _, rfl, (gk_kd_j rfl rfl), rfl⟩)) (Or.inr (Nat.le_of_ble_eq_true rfl)) ⟨t, g, rfl, ⟨rfl, rfl⟩, hp0, hp1, ?_, ?_⟩
  · intro b0 x2 y2 b1
    show V 7 [some (.ref 0), some (.int t), some (.ref 200), none] [(.int (gB g 0 (cN t))), .int 0, .ref 200] 202 gk_fT x2 y2 (0 + 1)
    refine s_i2l (pc2 := 8) w dL_beam_7 rfl ?_
    refine m_lastoreN (pc2 := 9) (t := 0) (N := 1) w dL_beam_8 rfl rfl rfl rfl (by decide) rfl ?_
    refine s_goto (tgt := 15) w dL_beam_9 (by decide) ?_
    refine s_iconst (pc2 := 16) (v := 0) w dL_beam_15 rfl rfl ?_
    refine s_ireturn w dL_beam_16 rfl rfl ?_
    exact q0 b0 x2 y2 b1
  · intro b0 x2 y2 b1
    show V 13 [some (.ref 0), some (.int t), some (.ref 200), none] [] 202 gk_fT x2 y2 (0 + 1)
    refine s_iconst (pc2 := 14) (v := 1) w dL_beam_13 rfl rfl ?_
    refine s_ireturn w dL_beam_14 rfl rfl ?_
    exact q1 b0 x2 y2 b1
theorem lk_L_beam {l : Launch} (hl : l.stackTraces = false) : ∀ q ∈ L_L_beam, (q.2.1 < 5 → gk_Lk l RL gk_W1 9 q.1 q.2.1 q.2.2.1 q.2.2.2.1 q.2.2.2.2.1 q.2.2.2.2.2) := (List.forall_mem_cons.mpr ⟨(fun _ => ⟨yX10_beam, cX10_beam, 2, (some .int), 8, _, M_X10_beam hl, ⟨by decide, by decide⟩, ⟨by decide, by decide, by decide +kernel⟩, ⟨(gk_wm 1126 (by decide +kernel)), (gk_wm 89 (by decide +kernel))⟩, Or.inr (Or.inr (Or.inr (Or.inl ⟨rfl, rfl, (gk_wm 1124 (by decide +kernel)), (gk_wm 1125 (by decide +kernel)), gk_wm 1123 (by decide +kernel), by decide, rfl⟩)))⟩), (fun _ h => absurd h List.not_mem_nil)⟩)
theorem sp_L_beam : ∀ q ∈ L_L_beam, gk_Sq RL gk_W1 9 q := (List.forall_mem_cons.mpr ⟨⟨fun h => absurd h (by decide), fun h => absurd h (by decide), fun h => absurd h (by decide), fun h => absurd h (by decide), fun h => absurd h (by decide), fun h => absurd h (by decide)⟩, (fun _ h => absurd h List.not_mem_nil)⟩)
theorem ho_L_beam : ∀ z ∈ H_L_beam, gk_Hok RL cL_beam 4 z := (List.forall_mem_cons.mpr ⟨⟨by decide, by decide, gk_wm 726 (by decide +kernel), by decide, Or.inr ⟨3, dL_beam_12, rfl, rfl⟩⟩, (fun _ h => absurd h List.not_mem_nil)⟩)
theorem M_L_beam {l : Launch} (hl : l.stackTraces = false) : gk_Mt l yL_beam (.codeWith yL_beam cL_beam 4 (some .int) (H_L_beam.map gk_hr) :: gk_W1) 9 1 S_L_beam := gk_methH gk_cw_ok H_L_beam (by decide +kernel) rfl nt_L_beam m_L_beam pL_ok (gk_Sp_of sp_L_beam) pL_st (fun ci m S h => absurd h (by intro h; cases h)) hno_L ho_L_beam (fun idx kd ci mm cost S2 h h5 => lk_L_beam hl _ (gk_lk_mem h) h5)

def S_L_measureBeam : gk_S := fun as n fl x y K => ∃ (z : Int32) (f : Int32) (l : Int32) (g : Nat → Int32), as = [.ref 0, .int z, .int f, .int l, .ref 200] ∧ (n = 202 ∧ fl = gk_fT) ∧ (RS 1 g x y) ∧ (gOK g) ∧ (((0 ≤ z ∧ z ≤ 4) ∧ (0 ≤ f ∧ f ≤ l ∧ l ≤ 255)) → ∀ (x2 : gk_X) (y2 : gk_Y), COk g x x2 y y2 → K (.inl (some (.int 0))) n fl x2 (gk_uy y2 200 0 ((gk_ms (gB g 0) (cN z) (cN f) (cN l))))) ∧ (¬ ((0 ≤ z ∧ z ≤ 4) ∧ (0 ≤ f ∧ f ≤ l ∧ l ≤ 255)) → ∀ (x2 : gk_X) (y2 : gk_Y), COk g x x2 y y2 → K (.inl (some (.int 1))) n fl x2 y2)
theorem r_L_measureBeam (w : gk_W c P cs (fun _ _ => none) rt uf sc K V) {idx : Nat} {z : Int32} {f : Int32} {l : Int32} {g : Nat → Int32} (hd : decode c pc = .ok (.invokestatic idx, 3)) (hp : pc + 3 = pc2) (hc : cs idx = some (0, 0, 5, 3, S_L_measureBeam)) (h8 : Nat.ble (r.map Value.category).sum 8 = true) (hu : u + 3 ≤ uf) (hp0 : RS 1 g x y) (hp1 : gOK g) (kk0 : ((0 ≤ z ∧ z ≤ 4) ∧ (0 ≤ f ∧ f ≤ l ∧ l ≤ 255)) → ∀ (x2 : gk_X) (y2 : gk_Y), COk g x x2 y y2 → V pc2 L ((.int 0) :: r) 202 gk_fT x2 (gk_uy y2 200 0 ((gk_ms (gB g 0) (cN z) (cN f) (cN l)))) (u + 3)) (kk1 : ¬ ((0 ≤ z ∧ z ≤ 4) ∧ (0 ≤ f ∧ f ≤ l ∧ l ≤ 255)) → ∀ (x2 : gk_X) (y2 : gk_Y), COk g x x2 y y2 → V pc2 L ((.int 1) :: r) 202 gk_fT x2 y2 (u + 3)) : V pc L (.ref 200 :: .int l :: .int f :: .int z :: .ref 0 :: r) 202 gk_fT x y u :=
  g_calls w hd hp hc (as := [.ref 0, .int z, .int f, .int l, .ref 200]) rfl h8 rfl rfl rfl (Or.inl rfl) (Or.inr hu) ⟨z, f, l, g, rfl, ⟨rfl, rfl⟩, hp0, hp1, kk0, kk1⟩
theorem nt_L_measureBeam : gk_nt S_L_measureBeam := fun _ _ _ _ _ _ ⟨z, f, l, g, e0, e1, e2, e3, e4, e5⟩ => ⟨z, f, l, g, e0, e1, e2, e3, e4, e5⟩
def H_L_measureBeam : List gk_H := [(0, 11, 14, 13, 0, 16, 5)]
def L_L_measureBeam : List (Nat × gk_M0) := [(101, (1, 9, 4, 3, S_X10_measureBeam))]
def cs_L_measureBeam : Nat → Option gk_M0 := gk_lk L_L_measureBeam
theorem m_L_measureBeam : ∀ (as : List Value) (n : Nat) (fl : gk_F) (x : gk_X) (y : gk_Y) (K : gk_K), S_L_measureBeam as n fl x y K → (gk_L0 as).length ≤ 6 ∧ ∀ V : gk_V, gk_W cL_measureBeam pL cs_L_measureBeam (gk_fh H_L_measureBeam) (some .int) 3 none K V → V 0 (gk_en as 6) [] n fl x y 0 := by
  intro as n fl x y K hS
  obtain ⟨z, f, l, g, rfl, ⟨rfl, rfl⟩, hp0, hp1, q0, q1⟩ := hS
  refine ⟨Nat.le_of_ble_eq_true rfl, fun V w => ?_⟩
  show V 0 [some (.ref 0), some (.int z), some (.int f), some (.int l), some (.ref 200), none] [] 202 gk_fT x y 0
  refine s_aload (pc2 := 2) w dL_measureBeam_0 rfl rfl ?_
  refine s_iconst (pc2 := 3) (v := 0) w dL_measureBeam_2 rfl rfl ?_
  refine s_aload_n (pc2 := 4) w dL_measureBeam_3 rfl rfl ?_
  refine s_iload_n (pc2 := 5) w dL_measureBeam_4 rfl rfl ?_
  refine s_iload_n (pc2 := 6) w dL_measureBeam_5 rfl rfl ?_
  refine s_iload_n (pc2 := 7) w dL_measureBeam_6 rfl rfl ?_
  refine g_callv (pc2 := 10) (r := [.int 0, .ref 200]) w dL_measureBeam_7 rfl rfl (as := [.ref 0, .int z, .int f, .int l]) rfl rfl rfl rfl rfl (Or.inr (Or.inl ⟨Or.inl rfl, _, _, rfl, (gk_kd_j rfl rfl), rfl⟩)) (Or.inr (Nat.le_of_ble_eq_true rfl)) ⟨z, f, l, g, rfl, ⟨rfl, rfl⟩, hp0, hp1, ?_, ?_⟩
  · intro b0 x2 y2 b1
    show V 10 [some (.ref 0), some (.int z), some (.int f), some (.int l), some (.ref 200), none] [(.long (gk_ms (gB g 0) (cN z) (cN f) (cN l))), .int 0, .ref 200] 202 gk_fT x2 y2 (0 + 3)
    refine m_lastoreN (pc2 := 11) (t := 0) (N := 1) w dL_measureBeam_10 rfl rfl rfl rfl (by decide) rfl ?_
    refine s_goto (tgt := 18) w dL_measureBeam_11 (by decide) ?_
    refine s_iconst (pc2 := 19) (v := 0) w dL_measureBeam_18 rfl rfl ?_
    refine s_ireturn w dL_measureBeam_19 rfl rfl ?_
    exact q0 b0 x2 y2 b1
  · intro b0 x2 y2 b1
    show V 16 [some (.ref 0), some (.int z), some (.int f), some (.int l), some (.ref 200), none] [] 202 gk_fT x2 y2 (0 + 3)
    refine s_iconst (pc2 := 17) (v := 1) w dL_measureBeam_16 rfl rfl ?_
    refine s_ireturn w dL_measureBeam_17 rfl rfl ?_
    exact q1 b0 x2 y2 b1
theorem lk_L_measureBeam {l : Launch} (hl : l.stackTraces = false) : ∀ q ∈ L_L_measureBeam, (q.2.1 < 5 → gk_Lk l RL gk_W1 10 q.1 q.2.1 q.2.2.1 q.2.2.2.1 q.2.2.2.2.1 q.2.2.2.2.2) := (List.forall_mem_cons.mpr ⟨(fun _ => ⟨yX10_measureBeam, cX10_measureBeam, 4, (some .long), 9, _, M_X10_measureBeam hl, ⟨by decide, by decide⟩, ⟨by decide, by decide, by decide +kernel⟩, ⟨(gk_wm 1146 (by decide +kernel)), (gk_wm 89 (by decide +kernel))⟩, Or.inr (Or.inr (Or.inr (Or.inl ⟨rfl, rfl, (gk_wm 1144 (by decide +kernel)), (gk_wm 1145 (by decide +kernel)), gk_wm 1143 (by decide +kernel), by decide, rfl⟩)))⟩), (fun _ h => absurd h List.not_mem_nil)⟩)
theorem sp_L_measureBeam : ∀ q ∈ L_L_measureBeam, gk_Sq RL gk_W1 10 q := (List.forall_mem_cons.mpr ⟨⟨fun h => absurd h (by decide), fun h => absurd h (by decide), fun h => absurd h (by decide), fun h => absurd h (by decide), fun h => absurd h (by decide), fun h => absurd h (by decide)⟩, (fun _ h => absurd h List.not_mem_nil)⟩)
theorem ho_L_measureBeam : ∀ z ∈ H_L_measureBeam, gk_Hok RL cL_measureBeam 6 z := (List.forall_mem_cons.mpr ⟨⟨by decide, by decide, gk_wm 726 (by decide +kernel), by decide, Or.inl ⟨dL_measureBeam_14, rfl⟩⟩, (fun _ h => absurd h List.not_mem_nil)⟩)
theorem M_L_measureBeam {l : Launch} (hl : l.stackTraces = false) : gk_Mt l yL_measureBeam (.codeWith yL_measureBeam cL_measureBeam 6 (some .int) (H_L_measureBeam.map gk_hr) :: gk_W1) 10 3 S_L_measureBeam := gk_methH gk_cw_ok H_L_measureBeam (by decide +kernel) rfl nt_L_measureBeam m_L_measureBeam pL_ok (gk_Sp_of sp_L_measureBeam) pL_st (fun ci m S h => absurd h (by intro h; cases h)) hno_L ho_L_measureBeam (fun idx kd ci mm cost S2 h h5 => lk_L_measureBeam hl _ (gk_lk_mem h) h5)

def S_L_periodPower : gk_S := fun as n fl x y K => ∃ (p : Int32) (f : Int32) (l : Int32) (g : Nat → Int32), as = [.ref 0, .int p, .int f, .int l, .ref 200] ∧ (n = 202 ∧ fl = gk_fT) ∧ (RS 1 g x y) ∧ (gOK g) ∧ (((1 ≤ p ∧ p ≤ 64) ∧ (0 ≤ f ∧ f ≤ l ∧ l ≤ 255)) → ∀ (x2 : gk_X) (y2 : gk_Y), COk g x x2 y y2 → K (.inl (some (.int 0))) n fl x2 (gk_uy y2 200 0 ((gL (gk_pw (gJ (gB g 0)) (cN f) (cN p) (cN l + 1 - cN f) (cN p)))))) ∧ (¬ ((1 ≤ p ∧ p ≤ 64) ∧ (0 ≤ f ∧ f ≤ l ∧ l ≤ 255)) → ∀ (x2 : gk_X) (y2 : gk_Y), COk g x x2 y y2 → K (.inl (some (.int 1))) n fl x2 y2)
theorem r_L_periodPower (w : gk_W c P cs (fun _ _ => none) rt uf sc K V) {idx : Nat} {p : Int32} {f : Int32} {l : Int32} {g : Nat → Int32} (hd : decode c pc = .ok (.invokestatic idx, 3)) (hp : pc + 3 = pc2) (hc : cs idx = some (0, 0, 5, 3, S_L_periodPower)) (h8 : Nat.ble (r.map Value.category).sum 8 = true) (hu : u + 3 ≤ uf) (hp0 : RS 1 g x y) (hp1 : gOK g) (kk0 : ((1 ≤ p ∧ p ≤ 64) ∧ (0 ≤ f ∧ f ≤ l ∧ l ≤ 255)) → ∀ (x2 : gk_X) (y2 : gk_Y), COk g x x2 y y2 → V pc2 L ((.int 0) :: r) 202 gk_fT x2 (gk_uy y2 200 0 ((gL (gk_pw (gJ (gB g 0)) (cN f) (cN p) (cN l + 1 - cN f) (cN p))))) (u + 3)) (kk1 : ¬ ((1 ≤ p ∧ p ≤ 64) ∧ (0 ≤ f ∧ f ≤ l ∧ l ≤ 255)) → ∀ (x2 : gk_X) (y2 : gk_Y), COk g x x2 y y2 → V pc2 L ((.int 1) :: r) 202 gk_fT x2 y2 (u + 3)) : V pc L (.ref 200 :: .int l :: .int f :: .int p :: .ref 0 :: r) 202 gk_fT x y u :=
  g_calls w hd hp hc (as := [.ref 0, .int p, .int f, .int l, .ref 200]) rfl h8 rfl rfl rfl (Or.inl rfl) (Or.inr hu) ⟨p, f, l, g, rfl, ⟨rfl, rfl⟩, hp0, hp1, kk0, kk1⟩
theorem nt_L_periodPower : gk_nt S_L_periodPower := fun _ _ _ _ _ _ ⟨p, f, l, g, e0, e1, e2, e3, e4, e5⟩ => ⟨p, f, l, g, e0, e1, e2, e3, e4, e5⟩
def H_L_periodPower : List gk_H := [(0, 11, 14, 13, 0, 16, 5)]
def L_L_periodPower : List (Nat × gk_M0) := [(104, (1, 9, 4, 3, S_X10_periodPower))]
def cs_L_periodPower : Nat → Option gk_M0 := gk_lk L_L_periodPower
theorem m_L_periodPower : ∀ (as : List Value) (n : Nat) (fl : gk_F) (x : gk_X) (y : gk_Y) (K : gk_K), S_L_periodPower as n fl x y K → (gk_L0 as).length ≤ 6 ∧ ∀ V : gk_V, gk_W cL_periodPower pL cs_L_periodPower (gk_fh H_L_periodPower) (some .int) 3 none K V → V 0 (gk_en as 6) [] n fl x y 0 := by
  intro as n fl x y K hS
  obtain ⟨p, f, l, g, rfl, ⟨rfl, rfl⟩, hp0, hp1, q0, q1⟩ := hS
  refine ⟨Nat.le_of_ble_eq_true rfl, fun V w => ?_⟩
  show V 0 [some (.ref 0), some (.int p), some (.int f), some (.int l), some (.ref 200), none] [] 202 gk_fT x y 0
  refine s_aload (pc2 := 2) w dL_periodPower_0 rfl rfl ?_
  refine s_iconst (pc2 := 3) (v := 0) w dL_periodPower_2 rfl rfl ?_
  refine s_aload_n (pc2 := 4) w dL_periodPower_3 rfl rfl ?_
  refine s_iload_n (pc2 := 5) w dL_periodPower_4 rfl rfl ?_
  refine s_iload_n (pc2 := 6) w dL_periodPower_5 rfl rfl ?_
  refine s_iload_n (pc2 := 7) w dL_periodPower_6 rfl rfl ?_
  refine g_callv (pc2 := 10) (r := [.int 0, .ref 200]) w dL_periodPower_7 rfl rfl (as := [.ref 0, .int p, .int f, .int l]) rfl rfl rfl rfl rfl (Or.inr (Or.inl ⟨Or.inl rfl, _, _, rfl, (gk_kd_j rfl rfl), rfl⟩)) (Or.inr (Nat.le_of_ble_eq_true rfl)) ⟨p, f, l, g, rfl, ⟨rfl, rfl⟩, hp0, hp1, ?_, ?_⟩
  · intro b0 x2 y2 b1
    show V 10 [some (.ref 0), some (.int p), some (.int f), some (.int l), some (.ref 200), none] [(.long (gL (gk_pw (gJ (gB g 0)) (cN f) (cN p) (cN l + 1 - cN f) (cN p)))), .int 0, .ref 200] 202 gk_fT x2 y2 (0 + 3)
    refine m_lastoreN (pc2 := 11) (t := 0) (N := 1) w dL_periodPower_10 rfl rfl rfl rfl (by decide) rfl ?_
    refine s_goto (tgt := 18) w dL_periodPower_11 (by decide) ?_
    refine s_iconst (pc2 := 19) (v := 0) w dL_periodPower_18 rfl rfl ?_
    refine s_ireturn w dL_periodPower_19 rfl rfl ?_
    exact q0 b0 x2 y2 b1
  · intro b0 x2 y2 b1
    show V 16 [some (.ref 0), some (.int p), some (.int f), some (.int l), some (.ref 200), none] [] 202 gk_fT x2 y2 (0 + 3)
    refine s_iconst (pc2 := 17) (v := 1) w dL_periodPower_16 rfl rfl ?_
    refine s_ireturn w dL_periodPower_17 rfl rfl ?_
    exact q1 b0 x2 y2 b1
theorem lk_L_periodPower {l : Launch} (hl : l.stackTraces = false) : ∀ q ∈ L_L_periodPower, (q.2.1 < 5 → gk_Lk l RL gk_W1 10 q.1 q.2.1 q.2.2.1 q.2.2.2.1 q.2.2.2.2.1 q.2.2.2.2.2) := (List.forall_mem_cons.mpr ⟨(fun _ => ⟨yX10_periodPower, cX10_periodPower, 4, (some .long), 9, _, M_X10_periodPower hl, ⟨by decide, by decide⟩, ⟨by decide, by decide, by decide +kernel⟩, ⟨(gk_wm 1153 (by decide +kernel)), (gk_wm 89 (by decide +kernel))⟩, Or.inr (Or.inr (Or.inr (Or.inl ⟨rfl, rfl, (gk_wm 1151 (by decide +kernel)), (gk_wm 1152 (by decide +kernel)), gk_wm 1150 (by decide +kernel), by decide, rfl⟩)))⟩), (fun _ h => absurd h List.not_mem_nil)⟩)
theorem sp_L_periodPower : ∀ q ∈ L_L_periodPower, gk_Sq RL gk_W1 10 q := (List.forall_mem_cons.mpr ⟨⟨fun h => absurd h (by decide), fun h => absurd h (by decide), fun h => absurd h (by decide), fun h => absurd h (by decide), fun h => absurd h (by decide), fun h => absurd h (by decide)⟩, (fun _ h => absurd h List.not_mem_nil)⟩)
theorem ho_L_periodPower : ∀ z ∈ H_L_periodPower, gk_Hok RL cL_periodPower 6 z := (List.forall_mem_cons.mpr ⟨⟨by decide, by decide, gk_wm 726 (by decide +kernel), by decide, Or.inl ⟨dL_periodPower_14, rfl⟩⟩, (fun _ h => absurd h List.not_mem_nil)⟩)
theorem M_L_periodPower {l : Launch} (hl : l.stackTraces = false) : gk_Mt l yL_periodPower (.codeWith yL_periodPower cL_periodPower 6 (some .int) (H_L_periodPower.map gk_hr) :: gk_W1) 10 3 S_L_periodPower := gk_methH gk_cw_ok H_L_periodPower (by decide +kernel) rfl nt_L_periodPower m_L_periodPower pL_ok (gk_Sp_of sp_L_periodPower) pL_st (fun ci m S h => absurd h (by intro h; cases h)) hno_L ho_L_periodPower (fun idx kd ci mm cost S2 h h5 => lk_L_periodPower hl _ (gk_lk_mem h) h5)

def S_L_bestPeriod : gk_S := fun as n fl x y K => ∃ (v : Int32) (f : Int32) (l : Int32) (g : Nat → Int32), as = [.ref 0, .int v, .int f, .int l, .ref 200] ∧ (n = 202 ∧ fl = gk_fT) ∧ (RS 1 g x y) ∧ (gOK g) ∧ (((1 ≤ v ∧ v ≤ 64) ∧ (0 ≤ f ∧ f ≤ l ∧ l ≤ 255)) → ∀ (x2 : gk_X) (y2 : gk_Y), COk g x x2 y y2 → K (.inl (some (.int 0))) n fl x2 (gk_uy y2 200 0 (((gk_mx (fun n => gS (gB g 0) (cN f) (cN l) (n + 1)) (fun n => nI (n + 1)) (1, -1) (cN v)).1)).toInt64)) ∧ (¬ ((1 ≤ v ∧ v ≤ 64) ∧ (0 ≤ f ∧ f ≤ l ∧ l ≤ 255)) → ∀ (x2 : gk_X) (y2 : gk_Y), COk g x x2 y y2 → K (.inl (some (.int 1))) n fl x2 y2)
theorem r_L_bestPeriod (w : gk_W c P cs (fun _ _ => none) rt uf sc K V) {idx : Nat} {v : Int32} {f : Int32} {l : Int32} {g : Nat → Int32} (hd : decode c pc = .ok (.invokestatic idx, 3)) (hp : pc + 3 = pc2) (hc : cs idx = some (0, 0, 5, 3, S_L_bestPeriod)) (h8 : Nat.ble (r.map Value.category).sum 8 = true) (hu : u + 3 ≤ uf) (hp0 : RS 1 g x y) (hp1 : gOK g) (kk0 : ((1 ≤ v ∧ v ≤ 64) ∧ (0 ≤ f ∧ f ≤ l ∧ l ≤ 255)) → ∀ (x2 : gk_X) (y2 : gk_Y), COk g x x2 y y2 → V pc2 L ((.int 0) :: r) 202 gk_fT x2 (gk_uy y2 200 0 (((gk_mx (fun n => gS (gB g 0) (cN f) (cN l) (n + 1)) (fun n => nI (n + 1)) (1, -1) (cN v)).1)).toInt64) (u + 3)) (kk1 : ¬ ((1 ≤ v ∧ v ≤ 64) ∧ (0 ≤ f ∧ f ≤ l ∧ l ≤ 255)) → ∀ (x2 : gk_X) (y2 : gk_Y), COk g x x2 y y2 → V pc2 L ((.int 1) :: r) 202 gk_fT x2 y2 (u + 3)) : V pc L (.ref 200 :: .int l :: .int f :: .int v :: .ref 0 :: r) 202 gk_fT x y u :=
  g_calls w hd hp hc (as := [.ref 0, .int v, .int f, .int l, .ref 200]) rfl h8 rfl rfl rfl (Or.inl rfl) (Or.inr hu) ⟨v, f, l, g, rfl, ⟨rfl, rfl⟩, hp0, hp1, kk0, kk1⟩
theorem nt_L_bestPeriod : gk_nt S_L_bestPeriod := fun _ _ _ _ _ _ ⟨v, f, l, g, e0, e1, e2, e3, e4, e5⟩ => ⟨v, f, l, g, e0, e1, e2, e3, e4, e5⟩
def H_L_bestPeriod : List gk_H := [(0, 12, 15, 13, 0, 17, 5)]
def L_L_bestPeriod : List (Nat × gk_M0) := [(107, (1, 9, 4, 3, S_X10_bestPeriod))]
def cs_L_bestPeriod : Nat → Option gk_M0 := gk_lk L_L_bestPeriod
theorem m_L_bestPeriod : ∀ (as : List Value) (n : Nat) (fl : gk_F) (x : gk_X) (y : gk_Y) (K : gk_K), S_L_bestPeriod as n fl x y K → (gk_L0 as).length ≤ 6 ∧ ∀ V : gk_V, gk_W cL_bestPeriod pL cs_L_bestPeriod (gk_fh H_L_bestPeriod) (some .int) 3 none K V → V 0 (gk_en as 6) [] n fl x y 0 := by
  intro as n fl x y K hS
  obtain ⟨v, f, l, g, rfl, ⟨rfl, rfl⟩, hp0, hp1, q0, q1⟩ := hS
  refine ⟨Nat.le_of_ble_eq_true rfl, fun V w => ?_⟩
  show V 0 [some (.ref 0), some (.int v), some (.int f), some (.int l), some (.ref 200), none] [] 202 gk_fT x y 0
  refine s_aload (pc2 := 2) w dL_bestPeriod_0 rfl rfl ?_
  refine s_iconst (pc2 := 3) (v := 0) w dL_bestPeriod_2 rfl rfl ?_
  refine s_aload_n (pc2 := 4) w dL_bestPeriod_3 rfl rfl ?_
  refine s_iload_n (pc2 := 5) w dL_bestPeriod_4 rfl rfl ?_
  refine s_iload_n (pc2 := 6) w dL_bestPeriod_5 rfl rfl ?_
  refine s_iload_n (pc2 := 7) w dL_bestPeriod_6 rfl rfl ?_
  refine g_callv (pc2 := 10) (r := [.int 0, .ref 200]) w dL_bestPeriod_7 rfl rfl (as := [.ref 0, .int v, .int f, .int l]) rfl rfl rfl rfl rfl (Or.inr (Or.inl ⟨Or.inl rfl, _, _, rfl, (gk_kd_j rfl rfl), rfl⟩)) (Or.inr (Nat.le_of_ble_eq_true rfl)) ⟨v, f, l, g, rfl, ⟨rfl, rfl⟩, hp0, hp1, ?_, ?_⟩
  · intro b0 x2 y2 b1
    show V 10 [some (.ref 0), some (.int v), some (.int f), some (.int l), some (.ref 200), none] [(.int ((gk_mx (fun n => gS (gB g 0) (cN f) (cN l) (n + 1)) (fun n => nI (n + 1)) (1, -1) (cN v)).1)), .int 0, .ref 200] 202 gk_fT x2 y2 (0 + 3)
    refine s_i2l (pc2 := 11) w dL_bestPeriod_10 rfl ?_
    refine m_lastoreN (pc2 := 12) (t := 0) (N := 1) w dL_bestPeriod_11 rfl rfl rfl rfl (by decide) rfl ?_
    refine s_goto (tgt := 19) w dL_bestPeriod_12 (by decide) ?_
    refine s_iconst (pc2 := 20) (v := 0) w dL_bestPeriod_19 rfl rfl ?_
    refine s_ireturn w dL_bestPeriod_20 rfl rfl ?_
    exact q0 b0 x2 y2 b1
  · intro b0 x2 y2 b1
    show V 17 [some (.ref 0), some (.int v), some (.int f), some (.int l), some (.ref 200), none] [] 202 gk_fT x2 y2 (0 + 3)
    refine s_iconst (pc2 := 18) (v := 1) w dL_bestPeriod_17 rfl rfl ?_
    refine s_ireturn w dL_bestPeriod_18 rfl rfl ?_
    exact q1 b0 x2 y2 b1
theorem lk_L_bestPeriod {l : Launch} (hl : l.stackTraces = false) : ∀ q ∈ L_L_bestPeriod, (q.2.1 < 5 → gk_Lk l RL gk_W1 10 q.1 q.2.1 q.2.2.1 q.2.2.2.1 q.2.2.2.2.1 q.2.2.2.2.2) := (List.forall_mem_cons.mpr ⟨(fun _ => ⟨yX10_bestPeriod, cX10_bestPeriod, 11, (some .int), 9, _, M_X10_bestPeriod hl, ⟨by decide, by decide⟩, ⟨by decide, by decide, by decide +kernel⟩, ⟨(gk_wm 1163 (by decide +kernel)), (gk_wm 89 (by decide +kernel))⟩, Or.inr (Or.inr (Or.inr (Or.inl ⟨rfl, rfl, (gk_wm 1161 (by decide +kernel)), (gk_wm 1162 (by decide +kernel)), gk_wm 1160 (by decide +kernel), by decide, rfl⟩)))⟩), (fun _ h => absurd h List.not_mem_nil)⟩)
theorem sp_L_bestPeriod : ∀ q ∈ L_L_bestPeriod, gk_Sq RL gk_W1 10 q := (List.forall_mem_cons.mpr ⟨⟨fun h => absurd h (by decide), fun h => absurd h (by decide), fun h => absurd h (by decide), fun h => absurd h (by decide), fun h => absurd h (by decide), fun h => absurd h (by decide)⟩, (fun _ h => absurd h List.not_mem_nil)⟩)
theorem ho_L_bestPeriod : ∀ z ∈ H_L_bestPeriod, gk_Hok RL cL_bestPeriod 6 z := (List.forall_mem_cons.mpr ⟨⟨by decide, by decide, gk_wm 726 (by decide +kernel), by decide, Or.inl ⟨dL_bestPeriod_15, rfl⟩⟩, (fun _ h => absurd h List.not_mem_nil)⟩)
theorem M_L_bestPeriod {l : Launch} (hl : l.stackTraces = false) : gk_Mt l yL_bestPeriod (.codeWith yL_bestPeriod cL_bestPeriod 6 (some .int) (H_L_bestPeriod.map gk_hr) :: gk_W1) 10 3 S_L_bestPeriod := gk_methH gk_cw_ok H_L_bestPeriod (by decide +kernel) rfl nt_L_bestPeriod m_L_bestPeriod pL_ok (gk_Sp_of sp_L_bestPeriod) pL_st (fun ci m S h => absurd h (by intro h; cases h)) hno_L ho_L_bestPeriod (fun idx kd ci mm cost S2 h h5 => lk_L_bestPeriod hl _ (gk_lk_mem h) h5)

def S_L_energyBeside : gk_S := fun as n fl x y K => ∃ (b : Int32) (f : Int32) (l : Int32) (g : Nat → Int32), as = [.ref 0, .int b, .int f, .int l, .ref 200] ∧ (n = 202 ∧ fl = gk_fT) ∧ (RS 1 g x y) ∧ (gOK g) ∧ (((-2000 ≤ b ∧ b ≤ 2000) ∧ (0 ≤ f ∧ f ≤ l ∧ l ≤ 255)) → ∀ (x2 : gk_X) (y2 : gk_Y), COk g x x2 y y2 → K (.inl (some (.int 0))) n fl x2 (gk_uy y2 200 0 ((gL (gE (gB g b.toInt) (cN f) (cN l)))))) ∧ (¬ ((-2000 ≤ b ∧ b ≤ 2000) ∧ (0 ≤ f ∧ f ≤ l ∧ l ≤ 255)) → ∀ (x2 : gk_X) (y2 : gk_Y), COk g x x2 y y2 → K (.inl (some (.int 1))) n fl x2 y2)
theorem r_L_energyBeside (w : gk_W c P cs (fun _ _ => none) rt uf sc K V) {idx : Nat} {b : Int32} {f : Int32} {l : Int32} {g : Nat → Int32} (hd : decode c pc = .ok (.invokestatic idx, 3)) (hp : pc + 3 = pc2) (hc : cs idx = some (0, 0, 5, 3, S_L_energyBeside)) (h8 : Nat.ble (r.map Value.category).sum 8 = true) (hu : u + 3 ≤ uf) (hp0 : RS 1 g x y) (hp1 : gOK g) (kk0 : ((-2000 ≤ b ∧ b ≤ 2000) ∧ (0 ≤ f ∧ f ≤ l ∧ l ≤ 255)) → ∀ (x2 : gk_X) (y2 : gk_Y), COk g x x2 y y2 → V pc2 L ((.int 0) :: r) 202 gk_fT x2 (gk_uy y2 200 0 ((gL (gE (gB g b.toInt) (cN f) (cN l))))) (u + 3)) (kk1 : ¬ ((-2000 ≤ b ∧ b ≤ 2000) ∧ (0 ≤ f ∧ f ≤ l ∧ l ≤ 255)) → ∀ (x2 : gk_X) (y2 : gk_Y), COk g x x2 y y2 → V pc2 L ((.int 1) :: r) 202 gk_fT x2 y2 (u + 3)) : V pc L (.ref 200 :: .int l :: .int f :: .int b :: .ref 0 :: r) 202 gk_fT x y u :=
  g_calls w hd hp hc (as := [.ref 0, .int b, .int f, .int l, .ref 200]) rfl h8 rfl rfl rfl (Or.inl rfl) (Or.inr hu) ⟨b, f, l, g, rfl, ⟨rfl, rfl⟩, hp0, hp1, kk0, kk1⟩
theorem nt_L_energyBeside : gk_nt S_L_energyBeside := fun _ _ _ _ _ _ ⟨b, f, l, g, e0, e1, e2, e3, e4, e5⟩ => ⟨b, f, l, g, e0, e1, e2, e3, e4, e5⟩
def H_L_energyBeside : List gk_H := [(0, 11, 14, 13, 0, 16, 5)]
def L_L_energyBeside : List (Nat × gk_M0) := [(110, (1, 9, 4, 3, S_X10_energyBeside))]
def cs_L_energyBeside : Nat → Option gk_M0 := gk_lk L_L_energyBeside
theorem m_L_energyBeside : ∀ (as : List Value) (n : Nat) (fl : gk_F) (x : gk_X) (y : gk_Y) (K : gk_K), S_L_energyBeside as n fl x y K → (gk_L0 as).length ≤ 6 ∧ ∀ V : gk_V, gk_W cL_energyBeside pL cs_L_energyBeside (gk_fh H_L_energyBeside) (some .int) 3 none K V → V 0 (gk_en as 6) [] n fl x y 0 := by
  intro as n fl x y K hS
  obtain ⟨b, f, l, g, rfl, ⟨rfl, rfl⟩, hp0, hp1, q0, q1⟩ := hS
  refine ⟨Nat.le_of_ble_eq_true rfl, fun V w => ?_⟩
  show V 0 [some (.ref 0), some (.int b), some (.int f), some (.int l), some (.ref 200), none] [] 202 gk_fT x y 0
  refine s_aload (pc2 := 2) w dL_energyBeside_0 rfl rfl ?_
  refine s_iconst (pc2 := 3) (v := 0) w dL_energyBeside_2 rfl rfl ?_
  refine s_aload_n (pc2 := 4) w dL_energyBeside_3 rfl rfl ?_
  refine s_iload_n (pc2 := 5) w dL_energyBeside_4 rfl rfl ?_
  refine s_iload_n (pc2 := 6) w dL_energyBeside_5 rfl rfl ?_
  refine s_iload_n (pc2 := 7) w dL_energyBeside_6 rfl rfl ?_
  refine g_callv (pc2 := 10) (r := [.int 0, .ref 200]) w dL_energyBeside_7 rfl rfl (as := [.ref 0, .int b, .int f, .int l]) rfl rfl rfl rfl rfl (Or.inr (Or.inl ⟨Or.inl rfl, _, _, rfl, (gk_kd_j rfl rfl), rfl⟩)) (Or.inr (Nat.le_of_ble_eq_true rfl)) ⟨b, f, l, g, rfl, ⟨rfl, rfl⟩, hp0, hp1, ?_, ?_⟩
  · intro b0 x2 y2 b1
    show V 10 [some (.ref 0), some (.int b), some (.int f), some (.int l), some (.ref 200), none] [(.long (gL (gE (gB g b.toInt) (cN f) (cN l)))), .int 0, .ref 200] 202 gk_fT x2 y2 (0 + 3)
    refine m_lastoreN (pc2 := 11) (t := 0) (N := 1) w dL_energyBeside_10 rfl rfl rfl rfl (by decide) rfl ?_
    refine s_goto (tgt := 18) w dL_energyBeside_11 (by decide) ?_
    refine s_iconst (pc2 := 19) (v := 0) w dL_energyBeside_18 rfl rfl ?_
    refine s_ireturn w dL_energyBeside_19 rfl rfl ?_
    exact q0 b0 x2 y2 b1
  · intro b0 x2 y2 b1
    show V 16 [some (.ref 0), some (.int b), some (.int f), some (.int l), some (.ref 200), none] [] 202 gk_fT x2 y2 (0 + 3)
    refine s_iconst (pc2 := 17) (v := 1) w dL_energyBeside_16 rfl rfl ?_
    refine s_ireturn w dL_energyBeside_17 rfl rfl ?_
    exact q1 b0 x2 y2 b1
theorem lk_L_energyBeside {l : Launch} (hl : l.stackTraces = false) : ∀ q ∈ L_L_energyBeside, (q.2.1 < 5 → gk_Lk l RL gk_W1 10 q.1 q.2.1 q.2.2.1 q.2.2.2.1 q.2.2.2.2.1 q.2.2.2.2.2) := (List.forall_mem_cons.mpr ⟨(fun _ => ⟨yX10_energyBeside, cX10_energyBeside, 4, (some .long), 9, _, M_X10_energyBeside hl, ⟨by decide, by decide⟩, ⟨by decide, by decide, by decide +kernel⟩, ⟨(gk_wm 1175 (by decide +kernel)), (gk_wm 89 (by decide +kernel))⟩, Or.inr (Or.inr (Or.inr (Or.inl ⟨rfl, rfl, (gk_wm 1173 (by decide +kernel)), (gk_wm 1174 (by decide +kernel)), gk_wm 1172 (by decide +kernel), by decide, rfl⟩)))⟩), (fun _ h => absurd h List.not_mem_nil)⟩)
theorem sp_L_energyBeside : ∀ q ∈ L_L_energyBeside, gk_Sq RL gk_W1 10 q := (List.forall_mem_cons.mpr ⟨⟨fun h => absurd h (by decide), fun h => absurd h (by decide), fun h => absurd h (by decide), fun h => absurd h (by decide), fun h => absurd h (by decide), fun h => absurd h (by decide)⟩, (fun _ h => absurd h List.not_mem_nil)⟩)
theorem ho_L_energyBeside : ∀ z ∈ H_L_energyBeside, gk_Hok RL cL_energyBeside 6 z := (List.forall_mem_cons.mpr ⟨⟨by decide, by decide, gk_wm 726 (by decide +kernel), by decide, Or.inl ⟨dL_energyBeside_14, rfl⟩⟩, (fun _ h => absurd h List.not_mem_nil)⟩)
theorem M_L_energyBeside {l : Launch} (hl : l.stackTraces = false) : gk_Mt l yL_energyBeside (.codeWith yL_energyBeside cL_energyBeside 6 (some .int) (H_L_energyBeside.map gk_hr) :: gk_W1) 10 3 S_L_energyBeside := gk_methH gk_cw_ok H_L_energyBeside (by decide +kernel) rfl nt_L_energyBeside m_L_energyBeside pL_ok (gk_Sp_of sp_L_energyBeside) pL_st (fun ci m S h => absurd h (by intro h; cases h)) hno_L ho_L_energyBeside (fun idx kd ci mm cost S2 h h5 => lk_L_energyBeside hl _ (gk_lk_mem h) h5)

def S_L_scan : gk_S := fun as n fl x y K => ∃ (v : Int32) (o : Int32) (f : Int32) (l : Int32) (g : Nat → Int32), as = [.ref 0, .int v, .int o, .int f, .int l, .ref 200] ∧ (n = 202 ∧ fl = gk_fT) ∧ (RS 1 g x y) ∧ (gOK g) ∧ (((1 ≤ v ∧ v ≤ 100) ∧ (0 ≤ o ∧ o ≤ 20) ∧ (0 ≤ f ∧ f ≤ l ∧ l ≤ 255)) → ∀ (x2 : gk_X) (y2 : gk_Y), COk g x x2 y y2 → K (.inl (some (.int 0))) n fl x2 (gk_uy y2 200 0 (((gk_mx (fun n => gL (gE (gB g (ow (n + 1) * ((cN v : Nat) : Int))) (cN f) (cN l))) (fun n => gI (ow (n + 1))) (0, -1) (2 * cN o + 1)).1)).toInt64)) ∧ (¬ ((1 ≤ v ∧ v ≤ 100) ∧ (0 ≤ o ∧ o ≤ 20) ∧ (0 ≤ f ∧ f ≤ l ∧ l ≤ 255)) → ∀ (x2 : gk_X) (y2 : gk_Y), COk g x x2 y y2 → K (.inl (some (.int 1))) n fl x2 y2)
theorem r_L_scan (w : gk_W c P cs (fun _ _ => none) rt uf sc K V) {idx : Nat} {v : Int32} {o : Int32} {f : Int32} {l : Int32} {g : Nat → Int32} (hd : decode c pc = .ok (.invokestatic idx, 3)) (hp : pc + 3 = pc2) (hc : cs idx = some (0, 0, 6, 4, S_L_scan)) (h8 : Nat.ble (r.map Value.category).sum 8 = true) (hu : u + 4 ≤ uf) (hp0 : RS 1 g x y) (hp1 : gOK g) (kk0 : ((1 ≤ v ∧ v ≤ 100) ∧ (0 ≤ o ∧ o ≤ 20) ∧ (0 ≤ f ∧ f ≤ l ∧ l ≤ 255)) → ∀ (x2 : gk_X) (y2 : gk_Y), COk g x x2 y y2 → V pc2 L ((.int 0) :: r) 202 gk_fT x2 (gk_uy y2 200 0 (((gk_mx (fun n => gL (gE (gB g (ow (n + 1) * ((cN v : Nat) : Int))) (cN f) (cN l))) (fun n => gI (ow (n + 1))) (0, -1) (2 * cN o + 1)).1)).toInt64) (u + 4)) (kk1 : ¬ ((1 ≤ v ∧ v ≤ 100) ∧ (0 ≤ o ∧ o ≤ 20) ∧ (0 ≤ f ∧ f ≤ l ∧ l ≤ 255)) → ∀ (x2 : gk_X) (y2 : gk_Y), COk g x x2 y y2 → V pc2 L ((.int 1) :: r) 202 gk_fT x2 y2 (u + 4)) : V pc L (.ref 200 :: .int l :: .int f :: .int o :: .int v :: .ref 0 :: r) 202 gk_fT x y u :=
  g_calls w hd hp hc (as := [.ref 0, .int v, .int o, .int f, .int l, .ref 200]) rfl h8 rfl rfl rfl (Or.inl rfl) (Or.inr hu) ⟨v, o, f, l, g, rfl, ⟨rfl, rfl⟩, hp0, hp1, kk0, kk1⟩
theorem nt_L_scan : gk_nt S_L_scan := fun _ _ _ _ _ _ ⟨v, o, f, l, g, e0, e1, e2, e3, e4, e5⟩ => ⟨v, o, f, l, g, e0, e1, e2, e3, e4, e5⟩
def H_L_scan : List gk_H := [(0, 14, 17, 13, 0, 19, 6)]
def L_L_scan : List (Nat × gk_M0) := [(113, (1, 9, 5, 4, S_X10_scan))]
def cs_L_scan : Nat → Option gk_M0 := gk_lk L_L_scan
theorem m_L_scan : ∀ (as : List Value) (n : Nat) (fl : gk_F) (x : gk_X) (y : gk_Y) (K : gk_K), S_L_scan as n fl x y K → (gk_L0 as).length ≤ 7 ∧ ∀ V : gk_V, gk_W cL_scan pL cs_L_scan (gk_fh H_L_scan) (some .int) 4 none K V → V 0 (gk_en as 7) [] n fl x y 0 := by
  intro as n fl x y K hS
  obtain ⟨v, o, f, l, g, rfl, ⟨rfl, rfl⟩, hp0, hp1, q0, q1⟩ := hS
  refine ⟨Nat.le_of_ble_eq_true rfl, fun V w => ?_⟩
  show V 0 [some (.ref 0), some (.int v), some (.int o), some (.int f), some (.int l), some (.ref 200), none] [] 202 gk_fT x y 0
  refine s_aload (pc2 := 2) w dL_scan_0 rfl rfl ?_
  refine s_iconst (pc2 := 3) (v := 0) w dL_scan_2 rfl rfl ?_
  refine s_aload_n (pc2 := 4) w dL_scan_3 rfl rfl ?_
  refine s_iload_n (pc2 := 5) w dL_scan_4 rfl rfl ?_
  refine s_iload_n (pc2 := 6) w dL_scan_5 rfl rfl ?_
  refine s_iload_n (pc2 := 7) w dL_scan_6 rfl rfl ?_
  refine s_iload (pc2 := 9) w dL_scan_7 rfl rfl ?_
  refine g_callv (pc2 := 12) (r := [.int 0, .ref 200]) w dL_scan_9 rfl rfl (as := [.ref 0, .int v, .int o, .int f, .int l]) rfl rfl rfl rfl rfl (Or.inr (Or.inl ⟨Or.inl rfl, _, _, rfl, (gk_kd_j rfl rfl), rfl⟩)) (Or.inr (Nat.le_of_ble_eq_true rfl)) ⟨v, o, f, l, g, rfl, ⟨rfl, rfl⟩, hp0, hp1, ?_, ?_⟩
  · intro b0 x2 y2 b1
    show V 12 [some (.ref 0), some (.int v), some (.int o), some (.int f), some (.int l), some (.ref 200), none] [(.int ((gk_mx (fun n => gL (gE (gB g (ow (n + 1) * ((cN v : Nat) : Int))) (cN f) (cN l))) (fun n => gI (ow (n + 1))) (0, -1) (2 * cN o + 1)).1)), .int 0, .ref 200] 202 gk_fT x2 y2 (0 + 4)
    refine s_i2l (pc2 := 13) w dL_scan_12 rfl ?_
    refine m_lastoreN (pc2 := 14) (t := 0) (N := 1) w dL_scan_13 rfl rfl rfl rfl (by decide) rfl ?_
    refine s_goto (tgt := 21) w dL_scan_14 (by decide) ?_
    refine s_iconst (pc2 := 22) (v := 0) w dL_scan_21 rfl rfl ?_
    refine s_ireturn w dL_scan_22 rfl rfl ?_
    exact q0 b0 x2 y2 b1
  · intro b0 x2 y2 b1
    show V 19 [some (.ref 0), some (.int v), some (.int o), some (.int f), some (.int l), some (.ref 200), none] [] 202 gk_fT x2 y2 (0 + 4)
    refine s_iconst (pc2 := 20) (v := 1) w dL_scan_19 rfl rfl ?_
    refine s_ireturn w dL_scan_20 rfl rfl ?_
    exact q1 b0 x2 y2 b1
theorem lk_L_scan {l : Launch} (hl : l.stackTraces = false) : ∀ q ∈ L_L_scan, (q.2.1 < 5 → gk_Lk l RL gk_W1 10 q.1 q.2.1 q.2.2.1 q.2.2.2.1 q.2.2.2.2.1 q.2.2.2.2.2) := (List.forall_mem_cons.mpr ⟨(fun _ => ⟨yX10_scan, cX10_scan, 13, (some .int), 9, _, M_X10_scan hl, ⟨by decide, by decide⟩, ⟨by decide, by decide, by decide +kernel⟩, ⟨(gk_wm 1182 (by decide +kernel)), (gk_wm 89 (by decide +kernel))⟩, Or.inr (Or.inr (Or.inr (Or.inl ⟨rfl, rfl, (gk_wm 1180 (by decide +kernel)), (gk_wm 1181 (by decide +kernel)), gk_wm 1179 (by decide +kernel), by decide, rfl⟩)))⟩), (fun _ h => absurd h List.not_mem_nil)⟩)
theorem sp_L_scan : ∀ q ∈ L_L_scan, gk_Sq RL gk_W1 10 q := (List.forall_mem_cons.mpr ⟨⟨fun h => absurd h (by decide), fun h => absurd h (by decide), fun h => absurd h (by decide), fun h => absurd h (by decide), fun h => absurd h (by decide), fun h => absurd h (by decide)⟩, (fun _ h => absurd h List.not_mem_nil)⟩)
theorem ho_L_scan : ∀ z ∈ H_L_scan, gk_Hok RL cL_scan 7 z := (List.forall_mem_cons.mpr ⟨⟨by decide, by decide, gk_wm 726 (by decide +kernel), by decide, Or.inl ⟨dL_scan_17, rfl⟩⟩, (fun _ h => absurd h List.not_mem_nil)⟩)
theorem M_L_scan {l : Launch} (hl : l.stackTraces = false) : gk_Mt l yL_scan (.codeWith yL_scan cL_scan 7 (some .int) (H_L_scan.map gk_hr) :: gk_W1) 10 4 S_L_scan := gk_methH gk_cw_ok H_L_scan (by decide +kernel) rfl nt_L_scan m_L_scan pL_ok (gk_Sp_of sp_L_scan) pL_st (fun ci m S h => absurd h (by intro h; cases h)) hno_L ho_L_scan (fun idx kd ci mm cost S2 h h5 => lk_L_scan hl _ (gk_lk_mem h) h5)

def S_L_bestDirection : gk_S := fun as n fl x y K => ∃ (v : Int32) (f : Int32) (l : Int32) (g : Nat → Int32), as = [.ref 0, .int v, .int f, .int l, .ref 200] ∧ (n = 202 ∧ fl = gk_fT) ∧ (RS 1 g x y) ∧ (gOK g) ∧ (((1 ≤ v ∧ v ≤ 100) ∧ (0 ≤ f ∧ f ≤ l ∧ l ≤ 255)) → ∀ (x2 : gk_X) (y2 : gk_Y), COk g x x2 y y2 → K (.inl (some (.int 0))) n fl x2 (gk_uy y2 200 0 (((gk_mx (fun n => gL (gE (gD g (-100 + (n : Int) * ((cN v : Nat) : Int))) (cN f) (cN l))) (fun n => gI (-100 + (n : Int) * ((cN v : Nat) : Int))) (-100, -1) (200 / cN v + 1)).1)).toInt64)) ∧ (¬ ((1 ≤ v ∧ v ≤ 100) ∧ (0 ≤ f ∧ f ≤ l ∧ l ≤ 255)) → ∀ (x2 : gk_X) (y2 : gk_Y), COk g x x2 y y2 → K (.inl (some (.int 1))) n fl x2 y2)
theorem r_L_bestDirection (w : gk_W c P cs (fun _ _ => none) rt uf sc K V) {idx : Nat} {v : Int32} {f : Int32} {l : Int32} {g : Nat → Int32} (hd : decode c pc = .ok (.invokestatic idx, 3)) (hp : pc + 3 = pc2) (hc : cs idx = some (0, 0, 5, 3, S_L_bestDirection)) (h8 : Nat.ble (r.map Value.category).sum 8 = true) (hu : u + 3 ≤ uf) (hp0 : RS 1 g x y) (hp1 : gOK g) (kk0 : ((1 ≤ v ∧ v ≤ 100) ∧ (0 ≤ f ∧ f ≤ l ∧ l ≤ 255)) → ∀ (x2 : gk_X) (y2 : gk_Y), COk g x x2 y y2 → V pc2 L ((.int 0) :: r) 202 gk_fT x2 (gk_uy y2 200 0 (((gk_mx (fun n => gL (gE (gD g (-100 + (n : Int) * ((cN v : Nat) : Int))) (cN f) (cN l))) (fun n => gI (-100 + (n : Int) * ((cN v : Nat) : Int))) (-100, -1) (200 / cN v + 1)).1)).toInt64) (u + 3)) (kk1 : ¬ ((1 ≤ v ∧ v ≤ 100) ∧ (0 ≤ f ∧ f ≤ l ∧ l ≤ 255)) → ∀ (x2 : gk_X) (y2 : gk_Y), COk g x x2 y y2 → V pc2 L ((.int 1) :: r) 202 gk_fT x2 y2 (u + 3)) : V pc L (.ref 200 :: .int l :: .int f :: .int v :: .ref 0 :: r) 202 gk_fT x y u :=
  g_calls w hd hp hc (as := [.ref 0, .int v, .int f, .int l, .ref 200]) rfl h8 rfl rfl rfl (Or.inl rfl) (Or.inr hu) ⟨v, f, l, g, rfl, ⟨rfl, rfl⟩, hp0, hp1, kk0, kk1⟩
theorem nt_L_bestDirection : gk_nt S_L_bestDirection := fun _ _ _ _ _ _ ⟨v, f, l, g, e0, e1, e2, e3, e4, e5⟩ => ⟨v, f, l, g, e0, e1, e2, e3, e4, e5⟩
def H_L_bestDirection : List gk_H := [(0, 12, 15, 13, 0, 17, 5)]
def L_L_bestDirection : List (Nat × gk_M0) := [(116, (1, 9, 4, 3, S_X10_bestDirection))]
def cs_L_bestDirection : Nat → Option gk_M0 := gk_lk L_L_bestDirection
theorem m_L_bestDirection : ∀ (as : List Value) (n : Nat) (fl : gk_F) (x : gk_X) (y : gk_Y) (K : gk_K), S_L_bestDirection as n fl x y K → (gk_L0 as).length ≤ 6 ∧ ∀ V : gk_V, gk_W cL_bestDirection pL cs_L_bestDirection (gk_fh H_L_bestDirection) (some .int) 3 none K V → V 0 (gk_en as 6) [] n fl x y 0 := by
  intro as n fl x y K hS
  obtain ⟨v, f, l, g, rfl, ⟨rfl, rfl⟩, hp0, hp1, q0, q1⟩ := hS
  refine ⟨Nat.le_of_ble_eq_true rfl, fun V w => ?_⟩
  show V 0 [some (.ref 0), some (.int v), some (.int f), some (.int l), some (.ref 200), none] [] 202 gk_fT x y 0
  refine s_aload (pc2 := 2) w dL_bestDirection_0 rfl rfl ?_
  refine s_iconst (pc2 := 3) (v := 0) w dL_bestDirection_2 rfl rfl ?_
  refine s_aload_n (pc2 := 4) w dL_bestDirection_3 rfl rfl ?_
  refine s_iload_n (pc2 := 5) w dL_bestDirection_4 rfl rfl ?_
  refine s_iload_n (pc2 := 6) w dL_bestDirection_5 rfl rfl ?_
  refine s_iload_n (pc2 := 7) w dL_bestDirection_6 rfl rfl ?_
  refine g_callv (pc2 := 10) (r := [.int 0, .ref 200]) w dL_bestDirection_7 rfl rfl (as := [.ref 0, .int v, .int f, .int l]) rfl rfl rfl rfl rfl (Or.inr (Or.inl ⟨Or.inl rfl, _, _, rfl, (gk_kd_j rfl rfl), rfl⟩)) (Or.inr (Nat.le_of_ble_eq_true rfl)) ⟨v, f, l, g, rfl, ⟨rfl, rfl⟩, hp0, hp1, ?_, ?_⟩
  · intro b0 x2 y2 b1
    show V 10 [some (.ref 0), some (.int v), some (.int f), some (.int l), some (.ref 200), none] [(.int ((gk_mx (fun n => gL (gE (gD g (-100 + (n : Int) * ((cN v : Nat) : Int))) (cN f) (cN l))) (fun n => gI (-100 + (n : Int) * ((cN v : Nat) : Int))) (-100, -1) (200 / cN v + 1)).1)), .int 0, .ref 200] 202 gk_fT x2 y2 (0 + 3)
    refine s_i2l (pc2 := 11) w dL_bestDirection_10 rfl ?_
    refine m_lastoreN (pc2 := 12) (t := 0) (N := 1) w dL_bestDirection_11 rfl rfl rfl rfl (by decide) rfl ?_
    refine s_goto (tgt := 19) w dL_bestDirection_12 (by decide) ?_
    refine s_iconst (pc2 := 20) (v := 0) w dL_bestDirection_19 rfl rfl ?_
    refine s_ireturn w dL_bestDirection_20 rfl rfl ?_
    exact q0 b0 x2 y2 b1
  · intro b0 x2 y2 b1
    show V 17 [some (.ref 0), some (.int v), some (.int f), some (.int l), some (.ref 200), none] [] 202 gk_fT x2 y2 (0 + 3)
    refine s_iconst (pc2 := 18) (v := 1) w dL_bestDirection_17 rfl rfl ?_
    refine s_ireturn w dL_bestDirection_18 rfl rfl ?_
    exact q1 b0 x2 y2 b1
theorem lk_L_bestDirection {l : Launch} (hl : l.stackTraces = false) : ∀ q ∈ L_L_bestDirection, (q.2.1 < 5 → gk_Lk l RL gk_W1 10 q.1 q.2.1 q.2.2.1 q.2.2.2.1 q.2.2.2.2.1 q.2.2.2.2.2) := (List.forall_mem_cons.mpr ⟨(fun _ => ⟨yX10_bestDirection, cX10_bestDirection, 11, (some .int), 9, _, M_X10_bestDirection hl, ⟨by decide, by decide⟩, ⟨by decide, by decide, by decide +kernel⟩, ⟨(gk_wm 1189 (by decide +kernel)), (gk_wm 89 (by decide +kernel))⟩, Or.inr (Or.inr (Or.inr (Or.inl ⟨rfl, rfl, (gk_wm 1187 (by decide +kernel)), (gk_wm 1188 (by decide +kernel)), gk_wm 1186 (by decide +kernel), by decide, rfl⟩)))⟩), (fun _ h => absurd h List.not_mem_nil)⟩)
theorem sp_L_bestDirection : ∀ q ∈ L_L_bestDirection, gk_Sq RL gk_W1 10 q := (List.forall_mem_cons.mpr ⟨⟨fun h => absurd h (by decide), fun h => absurd h (by decide), fun h => absurd h (by decide), fun h => absurd h (by decide), fun h => absurd h (by decide), fun h => absurd h (by decide)⟩, (fun _ h => absurd h List.not_mem_nil)⟩)
theorem ho_L_bestDirection : ∀ z ∈ H_L_bestDirection, gk_Hok RL cL_bestDirection 6 z := (List.forall_mem_cons.mpr ⟨⟨by decide, by decide, gk_wm 726 (by decide +kernel), by decide, Or.inl ⟨dL_bestDirection_15, rfl⟩⟩, (fun _ h => absurd h List.not_mem_nil)⟩)
theorem M_L_bestDirection {l : Launch} (hl : l.stackTraces = false) : gk_Mt l yL_bestDirection (.codeWith yL_bestDirection cL_bestDirection 6 (some .int) (H_L_bestDirection.map gk_hr) :: gk_W1) 10 3 S_L_bestDirection := gk_methH gk_cw_ok H_L_bestDirection (by decide +kernel) rfl nt_L_bestDirection m_L_bestDirection pL_ok (gk_Sp_of sp_L_bestDirection) pL_st (fun ci m S h => absurd h (by intro h; cases h)) hno_L ho_L_bestDirection (fun idx kd ci mm cost S2 h h5 => lk_L_bestDirection hl _ (gk_lk_mem h) h5)

def S_L_spectrum : gk_S := fun as n fl x y K => ∃ (d : Int32) (p : Int32) (f : Int32) (l : Int32) (g : Nat → Int32), as = [.ref 0, .int d, .int p, .int f, .int l, .ref 200] ∧ (n = 202 ∧ fl = gk_fT) ∧ (RS 1 g x y) ∧ (gOK g) ∧ (((-100 ≤ d ∧ d ≤ 100) ∧ (1 ≤ p ∧ p ≤ 64) ∧ (0 ≤ f ∧ f ≤ l ∧ l ≤ 255)) → ∀ (x2 : gk_X) (y2 : gk_Y), COk g x x2 y y2 → K (.inl (some (.int 0))) n fl x2 (gk_uy y2 200 0 ((gL (gk_pw (gJ (gD g d.toInt)) (cN f) (cN p) (cN l + 1 - cN f) (cN p) * (cN p : Int)) / gL ((cN l : Int) - (cN f : Int) + 1))))) ∧ (¬ ((-100 ≤ d ∧ d ≤ 100) ∧ (1 ≤ p ∧ p ≤ 64) ∧ (0 ≤ f ∧ f ≤ l ∧ l ≤ 255)) → ∀ (x2 : gk_X) (y2 : gk_Y), COk g x x2 y y2 → K (.inl (some (.int 1))) n fl x2 y2)
theorem r_L_spectrum (w : gk_W c P cs (fun _ _ => none) rt uf sc K V) {idx : Nat} {d : Int32} {p : Int32} {f : Int32} {l : Int32} {g : Nat → Int32} (hd : decode c pc = .ok (.invokestatic idx, 3)) (hp : pc + 3 = pc2) (hc : cs idx = some (0, 0, 6, 4, S_L_spectrum)) (h8 : Nat.ble (r.map Value.category).sum 8 = true) (hu : u + 4 ≤ uf) (hp0 : RS 1 g x y) (hp1 : gOK g) (kk0 : ((-100 ≤ d ∧ d ≤ 100) ∧ (1 ≤ p ∧ p ≤ 64) ∧ (0 ≤ f ∧ f ≤ l ∧ l ≤ 255)) → ∀ (x2 : gk_X) (y2 : gk_Y), COk g x x2 y y2 → V pc2 L ((.int 0) :: r) 202 gk_fT x2 (gk_uy y2 200 0 ((gL (gk_pw (gJ (gD g d.toInt)) (cN f) (cN p) (cN l + 1 - cN f) (cN p) * (cN p : Int)) / gL ((cN l : Int) - (cN f : Int) + 1)))) (u + 4)) (kk1 : ¬ ((-100 ≤ d ∧ d ≤ 100) ∧ (1 ≤ p ∧ p ≤ 64) ∧ (0 ≤ f ∧ f ≤ l ∧ l ≤ 255)) → ∀ (x2 : gk_X) (y2 : gk_Y), COk g x x2 y y2 → V pc2 L ((.int 1) :: r) 202 gk_fT x2 y2 (u + 4)) : V pc L (.ref 200 :: .int l :: .int f :: .int p :: .int d :: .ref 0 :: r) 202 gk_fT x y u :=
  g_calls w hd hp hc (as := [.ref 0, .int d, .int p, .int f, .int l, .ref 200]) rfl h8 rfl rfl rfl (Or.inl rfl) (Or.inr hu) ⟨d, p, f, l, g, rfl, ⟨rfl, rfl⟩, hp0, hp1, kk0, kk1⟩
theorem nt_L_spectrum : gk_nt S_L_spectrum := fun _ _ _ _ _ _ ⟨d, p, f, l, g, e0, e1, e2, e3, e4, e5⟩ => ⟨d, p, f, l, g, e0, e1, e2, e3, e4, e5⟩
def H_L_spectrum : List gk_H := [(0, 13, 16, 13, 0, 18, 6)]
def L_L_spectrum : List (Nat × gk_M0) := [(119, (1, 9, 5, 4, S_X10_spectrum))]
def cs_L_spectrum : Nat → Option gk_M0 := gk_lk L_L_spectrum
theorem m_L_spectrum : ∀ (as : List Value) (n : Nat) (fl : gk_F) (x : gk_X) (y : gk_Y) (K : gk_K), S_L_spectrum as n fl x y K → (gk_L0 as).length ≤ 7 ∧ ∀ V : gk_V, gk_W cL_spectrum pL cs_L_spectrum (gk_fh H_L_spectrum) (some .int) 4 none K V → V 0 (gk_en as 7) [] n fl x y 0 := by
  intro as n fl x y K hS
  obtain ⟨d, p, f, l, g, rfl, ⟨rfl, rfl⟩, hp0, hp1, q0, q1⟩ := hS
  refine ⟨Nat.le_of_ble_eq_true rfl, fun V w => ?_⟩
  show V 0 [some (.ref 0), some (.int d), some (.int p), some (.int f), some (.int l), some (.ref 200), none] [] 202 gk_fT x y 0
  refine s_aload (pc2 := 2) w dL_spectrum_0 rfl rfl ?_
  refine s_iconst (pc2 := 3) (v := 0) w dL_spectrum_2 rfl rfl ?_
  refine s_aload_n (pc2 := 4) w dL_spectrum_3 rfl rfl ?_
  refine s_iload_n (pc2 := 5) w dL_spectrum_4 rfl rfl ?_
  refine s_iload_n (pc2 := 6) w dL_spectrum_5 rfl rfl ?_
  refine s_iload_n (pc2 := 7) w dL_spectrum_6 rfl rfl ?_
  refine s_iload (pc2 := 9) w dL_spectrum_7 rfl rfl ?_
  refine g_callv (pc2 := 12) (r := [.int 0, .ref 200]) w dL_spectrum_9 rfl rfl (as := [.ref 0, .int d, .int p, .int f, .int l]) rfl rfl rfl rfl rfl (Or.inr (Or.inl ⟨Or.inl rfl, _, _, rfl, (gk_kd_j rfl rfl), rfl⟩)) (Or.inr (Nat.le_of_ble_eq_true rfl)) ⟨d, p, f, l, g, rfl, ⟨rfl, rfl⟩, hp0, hp1, ?_, ?_⟩
  · intro b0 x2 y2 b1
    show V 12 [some (.ref 0), some (.int d), some (.int p), some (.int f), some (.int l), some (.ref 200), none] [(.long (gL (gk_pw (gJ (gD g d.toInt)) (cN f) (cN p) (cN l + 1 - cN f) (cN p) * (cN p : Int)) / gL ((cN l : Int) - (cN f : Int) + 1))), .int 0, .ref 200] 202 gk_fT x2 y2 (0 + 4)
    refine m_lastoreN (pc2 := 13) (t := 0) (N := 1) w dL_spectrum_12 rfl rfl rfl rfl (by decide) rfl ?_
    refine s_goto (tgt := 20) w dL_spectrum_13 (by decide) ?_
    refine s_iconst (pc2 := 21) (v := 0) w dL_spectrum_20 rfl rfl ?_
    refine s_ireturn w dL_spectrum_21 rfl rfl ?_
    exact q0 b0 x2 y2 b1
  · intro b0 x2 y2 b1
    show V 18 [some (.ref 0), some (.int d), some (.int p), some (.int f), some (.int l), some (.ref 200), none] [] 202 gk_fT x2 y2 (0 + 4)
    refine s_iconst (pc2 := 19) (v := 1) w dL_spectrum_18 rfl rfl ?_
    refine s_ireturn w dL_spectrum_19 rfl rfl ?_
    exact q1 b0 x2 y2 b1
theorem lk_L_spectrum {l : Launch} (hl : l.stackTraces = false) : ∀ q ∈ L_L_spectrum, (q.2.1 < 5 → gk_Lk l RL gk_W1 10 q.1 q.2.1 q.2.2.1 q.2.2.2.1 q.2.2.2.2.1 q.2.2.2.2.2) := (List.forall_mem_cons.mpr ⟨(fun _ => ⟨yX10_spectrum, cX10_spectrum, 6, (some .long), 9, _, M_X10_spectrum hl, ⟨by decide, by decide⟩, ⟨by decide, by decide, by decide +kernel⟩, ⟨(gk_wm 1197 (by decide +kernel)), (gk_wm 89 (by decide +kernel))⟩, Or.inr (Or.inr (Or.inr (Or.inl ⟨rfl, rfl, (gk_wm 1195 (by decide +kernel)), (gk_wm 1196 (by decide +kernel)), gk_wm 1194 (by decide +kernel), by decide, rfl⟩)))⟩), (fun _ h => absurd h List.not_mem_nil)⟩)
theorem sp_L_spectrum : ∀ q ∈ L_L_spectrum, gk_Sq RL gk_W1 10 q := (List.forall_mem_cons.mpr ⟨⟨fun h => absurd h (by decide), fun h => absurd h (by decide), fun h => absurd h (by decide), fun h => absurd h (by decide), fun h => absurd h (by decide), fun h => absurd h (by decide)⟩, (fun _ h => absurd h List.not_mem_nil)⟩)
theorem ho_L_spectrum : ∀ z ∈ H_L_spectrum, gk_Hok RL cL_spectrum 7 z := (List.forall_mem_cons.mpr ⟨⟨by decide, by decide, gk_wm 726 (by decide +kernel), by decide, Or.inl ⟨dL_spectrum_16, rfl⟩⟩, (fun _ h => absurd h List.not_mem_nil)⟩)
theorem M_L_spectrum {l : Launch} (hl : l.stackTraces = false) : gk_Mt l yL_spectrum (.codeWith yL_spectrum cL_spectrum 7 (some .int) (H_L_spectrum.map gk_hr) :: gk_W1) 10 4 S_L_spectrum := gk_methH gk_cw_ok H_L_spectrum (by decide +kernel) rfl nt_L_spectrum m_L_spectrum pL_ok (gk_Sp_of sp_L_spectrum) pL_st (fun ci m S h => absurd h (by intro h; cases h)) hno_L ho_L_spectrum (fun idx kd ci mm cost S2 h h5 => lk_L_spectrum hl _ (gk_lk_mem h) h5)

def S_L_save : gk_S := fun as n fl x y K => ∃ (s : Int32) (g : Nat → Int32), as = [.ref 0, .int s] ∧ (n = 202 ∧ fl = gk_fT) ∧ (RS 1 g x y) ∧ (gOK g) ∧ ((0 ≤ s ∧ s ≤ 1) → ∀ (x2 : gk_X) (y2 : gk_Y), RS (103 + 43 * cN s) g x2 y2 → x2 88 (cN s) = 1 → (∀ i k, ¬ (103 + 43 * cN s ≤ i ∧ i < 146 + 43 * cN s) → ¬ (i = 88 ∧ k = cN s) → x2 i k = x i k) → (∀ i k, i ≠ 103 + 43 * cN s → y2 i k = y i k) → K (.inl (some (.int 0))) n fl x2 y2) ∧ (¬ (0 ≤ s ∧ s ≤ 1) → ∀ (x2 : gk_X) (y2 : gk_Y), COk g x x2 y y2 → K (.inl (some (.int 1))) n fl x2 y2)
theorem r_L_save (w : gk_W c P cs (fun _ _ => none) rt uf sc K V) {idx : Nat} {s : Int32} {g : Nat → Int32} (hd : decode c pc = .ok (.invokestatic idx, 3)) (hp : pc + 3 = pc2) (hc : cs idx = some (0, 0, 2, 1, S_L_save)) (h8 : Nat.ble (r.map Value.category).sum 8 = true) (hu : u + 1 ≤ uf) (hp0 : RS 1 g x y) (hp1 : gOK g) (kk0 : (0 ≤ s ∧ s ≤ 1) → ∀ (x2 : gk_X) (y2 : gk_Y), RS (103 + 43 * cN s) g x2 y2 → x2 88 (cN s) = 1 → (∀ i k, ¬ (103 + 43 * cN s ≤ i ∧ i < 146 + 43 * cN s) → ¬ (i = 88 ∧ k = cN s) → x2 i k = x i k) → (∀ i k, i ≠ 103 + 43 * cN s → y2 i k = y i k) → V pc2 L ((.int 0) :: r) 202 gk_fT x2 y2 (u + 1)) (kk1 : ¬ (0 ≤ s ∧ s ≤ 1) → ∀ (x2 : gk_X) (y2 : gk_Y), COk g x x2 y y2 → V pc2 L ((.int 1) :: r) 202 gk_fT x2 y2 (u + 1)) : V pc L (.int s :: .ref 0 :: r) 202 gk_fT x y u :=
  g_calls w hd hp hc (as := [.ref 0, .int s]) rfl h8 rfl rfl rfl (Or.inl rfl) (Or.inr hu) ⟨s, g, rfl, ⟨rfl, rfl⟩, hp0, hp1, kk0, kk1⟩
theorem nt_L_save : gk_nt S_L_save := fun _ _ _ _ _ _ ⟨s, g, e0, e1, e2, e3, e4, e5⟩ => ⟨s, g, e0, e1, e2, e3, e4, e5⟩
def H_L_save : List gk_H := [(0, 5, 8, 13, 0, 9, 2)]
def L_L_save : List (Nat × gk_M0) := [(136, (1, 9, 2, 1, S_X10_save))]
def cs_L_save : Nat → Option gk_M0 := gk_lk L_L_save
theorem m_L_save : ∀ (as : List Value) (n : Nat) (fl : gk_F) (x : gk_X) (y : gk_Y) (K : gk_K), S_L_save as n fl x y K → (gk_L0 as).length ≤ 3 ∧ ∀ V : gk_V, gk_W cL_save pL cs_L_save (gk_fh H_L_save) (some .int) 1 none K V → V 0 (gk_en as 3) [] n fl x y 0 := by
  intro as n fl x y K hS
  obtain ⟨s, g, rfl, ⟨rfl, rfl⟩, hp0, hp1, q0, q1⟩ := hS
  refine ⟨Nat.le_of_ble_eq_true rfl, fun V w => ?_⟩
  show V 0 [some (.ref 0), some (.int s), none] [] 202 gk_fT x y 0
  refine s_aload_n (pc2 := 1) w dL_save_0 rfl rfl ?_
  refine s_iload_n (pc2 := 2) w dL_save_1 rfl rfl ?_
  refine g_callv (pc2 := 5) (r := []) w dL_save_2 rfl rfl (as := [.ref 0, .int s]) rfl rfl rfl rfl rfl (Or.inr (Or.inl ⟨Or.inl rfl, _, _, rfl, (gk_kd_j rfl rfl), rfl⟩)) (Or.inr (Nat.le_of_ble_eq_true rfl)) ⟨s, g, rfl, ⟨rfl, rfl⟩, hp0, hp1, ?_, ?_⟩
  · intro b0 x2 y2 b1 b2 b3 b4
    show V 5 [some (.ref 0), some (.int s), none] [] 202 gk_fT x2 y2 (0 + 1)
    refine s_goto (tgt := 11) w dL_save_5 (by decide) ?_
    refine s_iconst (pc2 := 12) (v := 0) w dL_save_11 rfl rfl ?_
    refine s_ireturn w dL_save_12 rfl rfl ?_
    exact q0 b0 x2 y2 b1 b2 b3 b4
  · intro b0 x2 y2 b1
    show V 9 [some (.ref 0), some (.int s), none] [] 202 gk_fT x2 y2 (0 + 1)
    refine s_iconst (pc2 := 10) (v := 1) w dL_save_9 rfl rfl ?_
    refine s_ireturn w dL_save_10 rfl rfl ?_
    exact q1 b0 x2 y2 b1
theorem lk_L_save {l : Launch} (hl : l.stackTraces = false) : ∀ q ∈ L_L_save, (q.2.1 < 5 → gk_Lk l RL gk_W1 8 q.1 q.2.1 q.2.2.1 q.2.2.2.1 q.2.2.2.2.1 q.2.2.2.2.2) := (List.forall_mem_cons.mpr ⟨(fun _ => ⟨yX10_save, cX10_save, 2, none, 7, _, M_X10_save hl, ⟨by decide, by decide⟩, ⟨by decide, by decide, by decide +kernel⟩, ⟨(gk_wm 1243 (by decide +kernel)), (gk_wm 89 (by decide +kernel))⟩, Or.inr (Or.inr (Or.inr (Or.inl ⟨rfl, rfl, (gk_wm 1241 (by decide +kernel)), (gk_wm 1242 (by decide +kernel)), gk_wm 1240 (by decide +kernel), by decide, rfl⟩)))⟩), (fun _ h => absurd h List.not_mem_nil)⟩)
theorem sp_L_save : ∀ q ∈ L_L_save, gk_Sq RL gk_W1 8 q := (List.forall_mem_cons.mpr ⟨⟨fun h => absurd h (by decide), fun h => absurd h (by decide), fun h => absurd h (by decide), fun h => absurd h (by decide), fun h => absurd h (by decide), fun h => absurd h (by decide)⟩, (fun _ h => absurd h List.not_mem_nil)⟩)
theorem ho_L_save : ∀ z ∈ H_L_save, gk_Hok RL cL_save 3 z := (List.forall_mem_cons.mpr ⟨⟨by decide, by decide, gk_wm 726 (by decide +kernel), by decide, Or.inr ⟨2, dL_save_8, rfl, rfl⟩⟩, (fun _ h => absurd h List.not_mem_nil)⟩)
theorem M_L_save {l : Launch} (hl : l.stackTraces = false) : gk_Mt l yL_save (.codeWith yL_save cL_save 3 (some .int) (H_L_save.map gk_hr) :: gk_W1) 8 1 S_L_save := gk_methH gk_cw_ok H_L_save (by decide +kernel) rfl nt_L_save m_L_save pL_ok (gk_Sp_of sp_L_save) pL_st (fun ci m S h => absurd h (by intro h; cases h)) hno_L ho_L_save (fun idx kd ci mm cost S2 h h5 => lk_L_save hl _ (gk_lk_mem h) h5)

def S_L_restore : gk_S := fun as n fl x y K => ∃ (s : Int32) (g : Nat → Int32) (h : Nat → Int32), as = [.ref 0, .int s] ∧ (n = 202 ∧ fl = gk_fT) ∧ (RS 1 g x y) ∧ (gOK g) ∧ ((0 ≤ s ∧ s ≤ 1) → ¬ x 88 (cN s) = 0 → RS (103 + 43 * cN s) h x y ∧ gWf h) ∧ ((0 ≤ s ∧ s ≤ 1) → (¬ x 88 (cN s) = 0) → ∀ (x2 : gk_X) (y2 : gk_Y), COk h x x2 y y2 → K (.inl (some (.int 0))) n fl x2 y2) ∧ (¬ (0 ≤ s ∧ s ≤ 1) → ∀ (x2 : gk_X) (y2 : gk_Y), COk g x x2 y y2 → K (.inl (some (.int 1))) n fl x2 y2) ∧ ((0 ≤ s ∧ s ≤ 1) → ¬ (¬ x 88 (cN s) = 0) → ∀ (x2 : gk_X) (y2 : gk_Y), COk g x x2 y y2 → K (.inl (some (.int 2))) n fl x2 y2)
theorem r_L_restore (w : gk_W c P cs (fun _ _ => none) rt uf sc K V) {idx : Nat} {s : Int32} {g : Nat → Int32} {h : Nat → Int32} (hd : decode c pc = .ok (.invokestatic idx, 3)) (hp : pc + 3 = pc2) (hc : cs idx = some (0, 0, 2, 2, S_L_restore)) (h8 : Nat.ble (r.map Value.category).sum 8 = true) (hu : u + 2 ≤ uf) (hp0 : RS 1 g x y) (hp1 : gOK g) (hp2 : (0 ≤ s ∧ s ≤ 1) → ¬ x 88 (cN s) = 0 → RS (103 + 43 * cN s) h x y ∧ gWf h) (kk0 : (0 ≤ s ∧ s ≤ 1) → (¬ x 88 (cN s) = 0) → ∀ (x2 : gk_X) (y2 : gk_Y), COk h x x2 y y2 → V pc2 L ((.int 0) :: r) 202 gk_fT x2 y2 (u + 2)) (kk1 : ¬ (0 ≤ s ∧ s ≤ 1) → ∀ (x2 : gk_X) (y2 : gk_Y), COk g x x2 y y2 → V pc2 L ((.int 1) :: r) 202 gk_fT x2 y2 (u + 2)) (kk2 : (0 ≤ s ∧ s ≤ 1) → ¬ (¬ x 88 (cN s) = 0) → ∀ (x2 : gk_X) (y2 : gk_Y), COk g x x2 y y2 → V pc2 L ((.int 2) :: r) 202 gk_fT x2 y2 (u + 2)) : V pc L (.int s :: .ref 0 :: r) 202 gk_fT x y u :=
  g_calls w hd hp hc (as := [.ref 0, .int s]) rfl h8 rfl rfl rfl (Or.inl rfl) (Or.inr hu) ⟨s, g, h, rfl, ⟨rfl, rfl⟩, hp0, hp1, hp2, kk0, kk1, kk2⟩
theorem nt_L_restore : gk_nt S_L_restore := fun _ _ _ _ _ _ ⟨s, g, h, e0, e1, e2, e3, e4, e5, e6, e7⟩ => ⟨s, g, h, e0, e1, e2, e3, e4, e5, e6, e7⟩
def H_L_restore : List gk_H := [(0, 5, 8, 13, 0, 9, 2), (0, 5, 11, 26, 1, 12, 2)]
def L_L_restore : List (Nat × gk_M0) := [(139, (1, 9, 2, 2, S_X10_restore))]
def cs_L_restore : Nat → Option gk_M0 := gk_lk L_L_restore
theorem m_L_restore : ∀ (as : List Value) (n : Nat) (fl : gk_F) (x : gk_X) (y : gk_Y) (K : gk_K), S_L_restore as n fl x y K → (gk_L0 as).length ≤ 3 ∧ ∀ V : gk_V, gk_W cL_restore pL cs_L_restore (gk_fh H_L_restore) (some .int) 2 none K V → V 0 (gk_en as 3) [] n fl x y 0 := by
  intro as n fl x y K hS
  obtain ⟨s, g, h, rfl, ⟨rfl, rfl⟩, hp0, hp1, hp2, q0, q1, q2⟩ := hS
  refine ⟨Nat.le_of_ble_eq_true rfl, fun V w => ?_⟩
  show V 0 [some (.ref 0), some (.int s), none] [] 202 gk_fT x y 0
  refine s_aload_n (pc2 := 1) w dL_restore_0 rfl rfl ?_
  refine s_iload_n (pc2 := 2) w dL_restore_1 rfl rfl ?_
  refine g_callv (pc2 := 5) (r := []) w dL_restore_2 rfl rfl (as := [.ref 0, .int s]) rfl rfl rfl rfl rfl (Or.inr (Or.inl ⟨Or.inl rfl, _, _, rfl, (gk_kd_j rfl rfl), rfl⟩)) (Or.inr (Nat.le_of_ble_eq_true rfl)) ⟨s, g, h, rfl, ⟨rfl, rfl⟩, hp0, hp1, hp2, ?_, ?_, ?_⟩
  · intro b0 b1 x2 y2 b2
    show V 5 [some (.ref 0), some (.int s), none] [] 202 gk_fT x2 y2 (0 + 2)
    refine s_goto (tgt := 14) w dL_restore_5 (by decide) ?_
    refine s_iconst (pc2 := 15) (v := 0) w dL_restore_14 rfl rfl ?_
    refine s_ireturn w dL_restore_15 rfl rfl ?_
    exact q0 b0 b1 x2 y2 b2
  · intro b0 x2 y2 b1
    show V 9 [some (.ref 0), some (.int s), none] [] 202 gk_fT x2 y2 (0 + 2)
    refine s_iconst (pc2 := 10) (v := 1) w dL_restore_9 rfl rfl ?_
    refine s_ireturn w dL_restore_10 rfl rfl ?_
    exact q1 b0 x2 y2 b1
  · intro b0 b1 x2 y2 b2
    show V 12 [some (.ref 0), some (.int s), none] [] 202 gk_fT x2 y2 (0 + 2)
    refine s_iconst (pc2 := 13) (v := 2) w dL_restore_12 rfl rfl ?_
    refine s_ireturn w dL_restore_13 rfl rfl ?_
    exact q2 b0 b1 x2 y2 b2
theorem lk_L_restore {l : Launch} (hl : l.stackTraces = false) : ∀ q ∈ L_L_restore, (q.2.1 < 5 → gk_Lk l RL gk_W1 8 q.1 q.2.1 q.2.2.1 q.2.2.2.1 q.2.2.2.2.1 q.2.2.2.2.2) := (List.forall_mem_cons.mpr ⟨(fun _ => ⟨yX10_restore, cX10_restore, 2, none, 7, _, M_X10_restore hl, ⟨by decide, by decide⟩, ⟨by decide, by decide, by decide +kernel⟩, ⟨(gk_wm 1250 (by decide +kernel)), (gk_wm 89 (by decide +kernel))⟩, Or.inr (Or.inr (Or.inr (Or.inl ⟨rfl, rfl, (gk_wm 1248 (by decide +kernel)), (gk_wm 1249 (by decide +kernel)), gk_wm 1247 (by decide +kernel), by decide, rfl⟩)))⟩), (fun _ h => absurd h List.not_mem_nil)⟩)
theorem sp_L_restore : ∀ q ∈ L_L_restore, gk_Sq RL gk_W1 8 q := (List.forall_mem_cons.mpr ⟨⟨fun h => absurd h (by decide), fun h => absurd h (by decide), fun h => absurd h (by decide), fun h => absurd h (by decide), fun h => absurd h (by decide), fun h => absurd h (by decide)⟩, (fun _ h => absurd h List.not_mem_nil)⟩)
theorem ho_L_restore : ∀ z ∈ H_L_restore, gk_Hok RL cL_restore 3 z := (List.forall_mem_cons.mpr ⟨⟨by decide, by decide, gk_wm 726 (by decide +kernel), by decide, Or.inr ⟨2, dL_restore_8, rfl, rfl⟩⟩, (List.forall_mem_cons.mpr ⟨⟨by decide, by decide, gk_wm 819 (by decide +kernel), by decide, Or.inr ⟨2, dL_restore_11, rfl, rfl⟩⟩, (fun _ h => absurd h List.not_mem_nil)⟩)⟩)
theorem M_L_restore {l : Launch} (hl : l.stackTraces = false) : gk_Mt l yL_restore (.codeWith yL_restore cL_restore 3 (some .int) (H_L_restore.map gk_hr) :: gk_W1) 8 2 S_L_restore := gk_methH gk_cw_ok H_L_restore (by decide +kernel) rfl nt_L_restore m_L_restore pL_ok (gk_Sp_of sp_L_restore) pL_st (fun ci m S h => absurd h (by intro h; cases h)) hno_L ho_L_restore (fun idx kd ci mm cost S2 h h5 => lk_L_restore hl _ (gk_lk_mem h) h5)

end GKV

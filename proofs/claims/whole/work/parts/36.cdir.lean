/-! THE METHODS, 17: the class, parts in a direction -/
section GKV
variable {c : ByteArray} {P : gk_C} {cs : Nat → Option gk_M0} {rt : Option FieldType} {uf : Nat} {sc : Option Nat} {K : gk_K} {V : gk_V}
variable {L : List (Option Value)} {r : List Value} {n : Nat} {fl : gk_F} {x : gk_X} {y : gk_Y} {u pc pc2 : Nat}
def S_J7_fill_53178 : gk_S := fun as n fl x y K => ∃ (j : Nat) (v : Int32), as = [.ref j, .int v] ∧ (n = 202 ∧ fl = gk_fT) ∧ gk_kd j = 20 ∧ (gk_ln j = 256) ∧ (K (.inl none) n fl (gk_ur x j (fun _ => v) 256) y)
theorem r_J7_fill_53178 (w : gk_W c P cs (fun _ _ => none) rt uf sc K V) {idx : Nat} {j : Nat} {v : Int32} (hd : decode c pc = .ok (.invokestatic idx, 3)) (hp : pc + 3 = pc2) (hc : cs idx = some (0, 0, 2, 0, S_J7_fill_53178)) (h8 : Nat.ble (r.map Value.category).sum 8 = true) (hk0 : gk_kd j = 20) (hp0 : gk_ln j = 256) (kk0 : V pc2 L r 202 gk_fT (gk_ur x j (fun _ => v) 256) y u) : V pc L (.int v :: .ref j :: r) 202 gk_fT x y u :=
  g_calls w hd hp hc (as := [.ref j, .int v]) rfl h8 rfl rfl rfl (Or.inl rfl) (Or.inl rfl) ⟨j, v, rfl, ⟨rfl, rfl⟩, hk0, hp0, kk0⟩
def L_J7_fill_53178 : List (Nat × gk_M0) := []
def cs_J7_fill_53178 : Nat → Option gk_M0 := gk_lk L_J7_fill_53178
theorem m_J7_fill_53178 : ∀ (as : List Value) (n : Nat) (fl : gk_F) (x : gk_X) (y : gk_Y) (K : gk_K), S_J7_fill_53178 as n fl x y K → (gk_L0 as).length ≤ 4 ∧ ∀ V : gk_V, gk_W cJ7_fill_53178 pJ7 cs_J7_fill_53178 (fun _ _ => none) none 0 none K V → V 0 (gk_en as 4) [] n fl x y 0 := by
  intro as n fl x y K hS
  obtain ⟨j, v, rfl, ⟨rfl, rfl⟩, hk0, hp0, q0⟩ := hS
  refine ⟨Nat.le_of_ble_eq_true rfl, fun V w => ?_⟩
  show V 0 [some (.ref j), some (.int v), none, none] [] 202 gk_fT x y 0
  have key : ∀ (k t : Nat), t + k = 256 → V 5 [some (.ref j), some (.int v), some (.int (nI t)), some (.int (gI 256))] [] 202 gk_fT (gk_ur x j (fun _ => v) t) y 0 := by
    intro k
    induction k with
    | zero =>
      intro t ht
      obtain rfl : t = 256 := by omega
      refine s_iload_n (pc2 := 6) w dJ7_fill_53178_5 rfl rfl ?_
      refine s_iload_n (pc2 := 7) w dJ7_fill_53178_6 rfl rfl ?_
      refine s_ic_ge (pc2 := 10) (tgt := 20) w dJ7_fill_53178_7 rfl (by decide) (fun _ => ?_) (fun h0 => absurd ((Int32.le_refl _)) h0)
      refine s_return w dJ7_fill_53178_20 rfl ?_
      exact q0
    | succ k ih =>
      intro t ht
      refine s_iload_n (pc2 := 6) w dJ7_fill_53178_5 rfl rfl ?_
      refine s_iload_n (pc2 := 7) w dJ7_fill_53178_6 rfl rfl ?_
      refine s_ic_ge (pc2 := 10) (tgt := 20) w dJ7_fill_53178_7 rfl (by decide) (fun h0 => absurd h0 (by rw [gI_nI, gI_le ⟨by omega, by omega⟩ ⟨by omega, by omega⟩]; omega)) (fun _ => ?_)
      refine s_aload_n (pc2 := 11) w dJ7_fill_53178_10 rfl rfl ?_
      refine s_iload_n (pc2 := 12) w dJ7_fill_53178_11 rfl rfl ?_
      refine s_iload_n (pc2 := 13) w dJ7_fill_53178_12 rfl rfl ?_
      refine m_iastoreN (pc2 := 14) (t := t) w dJ7_fill_53178_13 rfl hk0 hp0 rfl (by omega) rfl ?_
      refine s_iinc (pc2 := 17) w dJ7_fill_53178_14 rfl rfl rfl rfl ?_
      dsimp only [gk_s1, gk_s2, gk_cl]
      rw [nI_s]
      refine s_goto (tgt := 5) w dJ7_fill_53178_17 (by decide) ?_
      have h := ih (t + 1) (by omega)
      rw [← gk_ur_s] at h
      exact h
  refine s_iconst (pc2 := 1) (v := 0) w dJ7_fill_53178_0 rfl rfl ?_
  refine s_istore_n (pc2 := 2) (k2 := 2) w dJ7_fill_53178_1 rfl rfl rfl ?_
  dsimp only [gk_s1, gk_s2, gk_cl]
  refine s_aload_n (pc2 := 3) w dJ7_fill_53178_2 rfl rfl ?_
  refine m_alen (pc2 := 4) (kd := 20) (N := (gI 256)) w dJ7_fill_53178_3 rfl hk0 rfl rfl (congrArg nI hp0) ?_
  refine s_istore_n (pc2 := 5) (k2 := 3) w dJ7_fill_53178_4 rfl rfl rfl ?_
  dsimp only [gk_s1, gk_s2, gk_cl]
  have h := key 256 0 rfl
  rw [gk_ur_0] at h
  exact h
theorem lk_J7_fill_53178 {l : Launch} (hl : l.stackTraces = false) : ∀ q ∈ L_J7_fill_53178, (q.2.1 < 5 → gk_Lk l RJ7 gk_W1 0 q.1 q.2.1 q.2.2.1 q.2.2.2.1 q.2.2.2.2.1 q.2.2.2.2.2) := (fun _ h => absurd h List.not_mem_nil)
theorem sp_J7_fill_53178 : ∀ q ∈ L_J7_fill_53178, gk_Sq RJ7 gk_W1 0 q := (fun _ h => absurd h List.not_mem_nil)
theorem M_J7_fill_53178 {l : Launch} (hl : l.stackTraces = false) : gk_Mt l yJ7_fill_53178 (.code yJ7_fill_53178 cJ7_fill_53178 4 none :: gk_W1) 0 0 S_J7_fill_53178 := gk_meth hl gk_cw_ok (by decide +kernel) rfl m_J7_fill_53178 pJ7_ok (gk_Sp_of sp_J7_fill_53178) pJ7_st (fun ci m S h => absurd h (by intro h; cases h)) (xf_J7 0) (fun idx kd ci mm cost S2 h h5 => lk_J7_fill_53178 hl _ (gk_lk_mem h) h5)

def S_X0_directionShift : gk_S := fun as n fl x y K => ∃ (mc : Nat) (d : Int32) (mx : Int) (D : Int) (cc : Int), as = [.ref 1, .ref mc, .int d] ∧ (n = 202 ∧ fl = gk_fT) ∧ gk_kd mc = 1 ∧ (x 1 7 = gI cc) ∧ (100 ≤ cc ∧ cc ≤ 1000) ∧ (x mc 1 = gI mx) ∧ (-5000 ≤ mx ∧ mx ≤ 5000) ∧ (d = gI D) ∧ (-3000 ≤ D ∧ D ≤ 3000) ∧ (K (.inl (some (.int (gI (mx * D / (100 * cc)))))) n fl x y)
theorem r_X0_directionShift (w : gk_W c P cs (fun _ _ => none) rt uf sc K V) {idx : Nat} {mc : Nat} {d : Int32} {mx : Int} {D : Int} {cc : Int} (hd : decode c pc = .ok (.invokestatic idx, 3)) (hp : pc + 3 = pc2) (hc : cs idx = some (0, 0, 3, 0, S_X0_directionShift)) (h8 : Nat.ble (r.map Value.category).sum 8 = true) (hk0 : gk_kd mc = 1) (hp0 : x 1 7 = gI cc) (hp1 : 100 ≤ cc ∧ cc ≤ 1000) (hp2 : x mc 1 = gI mx) (hp3 : -5000 ≤ mx ∧ mx ≤ 5000) (hp4 : d = gI D) (hp5 : -3000 ≤ D ∧ D ≤ 3000) (kk0 : V pc2 L ((.int (gI (mx * D / (100 * cc)))) :: r) 202 gk_fT x y u) : V pc L (.int d :: .ref mc :: .ref 1 :: r) 202 gk_fT x y u :=
  g_calls w hd hp hc (as := [.ref 1, .ref mc, .int d]) rfl h8 rfl rfl rfl (Or.inl rfl) (Or.inl rfl) ⟨mc, d, mx, D, cc, rfl, ⟨rfl, rfl⟩, hk0, hp0, hp1, hp2, hp3, hp4, hp5, kk0⟩
def L_X0_directionShift : List (Nat × gk_M0) := [(100, (0, 0, 2, 0, S_J9_floorDiv_7cf53))]
def cs_X0_directionShift : Nat → Option gk_M0 := gk_lk L_X0_directionShift
theorem m_X0_directionShift : ∀ (as : List Value) (n : Nat) (fl : gk_F) (x : gk_X) (y : gk_Y) (K : gk_K), S_X0_directionShift as n fl x y K → (gk_L0 as).length ≤ 4 ∧ ∀ V : gk_V, gk_W cX0_directionShift pX0 cs_X0_directionShift (fun _ _ => none) (some .int) 0 none K V → V 0 (gk_en as 4) [] n fl x y 0 := by
  intro as n fl x y K hS
  obtain ⟨mc, d, mx, D, cc, rfl, ⟨rfl, rfl⟩, hk0, hp0, hp1, hp2, hp3, hp4, hp5, q0⟩ := hS
  refine ⟨Nat.le_of_ble_eq_true rfl, fun V w => ?_⟩
  show V 0 [some (.ref 1), some (.ref mc), some (.int d), none] [] 202 gk_fT x y 0
  subst hp4
  have hb := gk_mulb (a := mx) (b := D) (A := 5000) (B := 3000) (by omega) (by omega) (by omega) (by omega)
  refine s_bipush (pc2 := 2) (v := gI 100) w dX0_directionShift_0 rfl rfl ?_
  refine s_aload_n (pc2 := 3) w dX0_directionShift_2 rfl rfl ?_
  refine m_getI (pc2 := 6) (ci := 4) (k := 7) w dX0_directionShift_3 rfl rfl rfl rfl rfl ?_
  rw [hp0]
  refine s_imul (pc2 := 7) w dX0_directionShift_6 rfl ?_
  rw [gI_mul]
  refine s_istore_n (pc2 := 8) (k2 := 3) w dX0_directionShift_7 rfl rfl rfl ?_
  dsimp only [gk_s1, gk_s2, gk_cl]
  refine s_iload_n (pc2 := 9) w dX0_directionShift_8 rfl rfl ?_
  refine s_if_ne (pc2 := 12) (tgt := 16) w dX0_directionShift_9 rfl (by decide) (fun _ => ?_) (fun h0 => absurd h0 (by rw [show (0 : Int32) = gI 0 from rfl, gI_eq ⟨by omega, by omega⟩ ⟨by omega, by omega⟩]; omega))
  refine s_aload_n (pc2 := 17) w dX0_directionShift_16 rfl rfl ?_
  refine m_getI (pc2 := 20) (ci := 1) (k := 1) w dX0_directionShift_17 rfl rfl hk0 rfl rfl ?_
  rw [hp2]
  refine s_iload_n (pc2 := 21) w dX0_directionShift_20 rfl rfl ?_
  refine s_imul (pc2 := 22) w dX0_directionShift_21 rfl ?_
  rw [gI_mul]
  refine s_iload_n (pc2 := 23) w dX0_directionShift_22 rfl rfl ?_
  refine r_J9_floorDiv_7cf53 (pc2 := 26) w dX0_directionShift_23 rfl rfl rfl rfl rfl (by unfold gR; omega) (by omega) ?_
  refine s_ireturn w dX0_directionShift_26 rfl rfl ?_
  exact q0
theorem lk_X0_directionShift {l : Launch} (hl : l.stackTraces = false) : ∀ q ∈ L_X0_directionShift, (q.2.1 < 5 → gk_Lk l RX0 gk_W1 1 q.1 q.2.1 q.2.2.1 q.2.2.2.1 q.2.2.2.2.1 q.2.2.2.2.2) := (List.forall_mem_cons.mpr ⟨(fun _ => ⟨yJ9_floorDiv_7cf53, cJ9_floorDiv_7cf53, 3, (some .int), 0, _, M_J9_floorDiv_7cf53 hl, ⟨by decide, by decide⟩, ⟨by decide, by decide, by decide +kernel⟩, ⟨(gk_wm 1081 (by decide +kernel)), (gk_wm 107 (by decide +kernel))⟩, Or.inl ⟨rfl, rfl, (gk_wm 1080 (by decide +kernel)), gk_wm 1079 (by decide +kernel)⟩⟩), (fun _ h => absurd h List.not_mem_nil)⟩)
theorem sp_X0_directionShift : ∀ q ∈ L_X0_directionShift, gk_Sq RX0 gk_W1 1 q := (List.forall_mem_cons.mpr ⟨⟨fun h => absurd h (by decide), fun h => absurd h (by decide), fun h => absurd h (by decide), fun h => absurd h (by decide), fun h => absurd h (by decide), fun h => absurd h (by decide)⟩, (fun _ h => absurd h List.not_mem_nil)⟩)
theorem M_X0_directionShift {l : Launch} (hl : l.stackTraces = false) : gk_Mt l yX0_directionShift (.code yX0_directionShift cX0_directionShift 4 (some .int) :: gk_W1) 1 0 S_X0_directionShift := gk_meth hl gk_cw_ok (by decide +kernel) rfl m_X0_directionShift pX0_ok (gk_Sp_of sp_X0_directionShift) pX0_st (fun ci m S h => absurd h (by intro h; cases h)) (xf_X0 1) (fun idx kd ci mm cost S2 h h5 => lk_X0_directionShift hl _ (gk_lk_mem h) h5)

def S_X0_addParts : gk_S := fun as n fl x y K => ∃ (wt : Int32) (f : Int32) (l : Int32) (a : Nat) (b : Nat), as = [.ref 90, .int wt, .int f, .int l] ∧ (n = 202 ∧ fl = gk_fT) ∧ (f = nI a) ∧ (l = nI b) ∧ (a ≤ b) ∧ (b < 256) ∧ (K (.inl none) n fl (gk_rg x 91 a (b + 1 - a) (fun k => x 91 (a + k) + wt * x 92 (a + k))) y)
theorem r_X0_addParts (w : gk_W c P cs (fun _ _ => none) rt uf sc K V) {idx : Nat} {wt : Int32} {f : Int32} {l : Int32} {a : Nat} {b : Nat} (hd : decode c pc = .ok (.invokevirtual idx, 3)) (hp : pc + 3 = pc2) (hc : cs idx = some (1, 0, 4, 0, S_X0_addParts)) (h8 : Nat.ble (r.map Value.category).sum 8 = true) (hp0 : f = nI a) (hp1 : l = nI b) (hp2 : a ≤ b) (hp3 : b < 256) (kk0 : V pc2 L r 202 gk_fT (gk_rg x 91 a (b + 1 - a) (fun k => x 91 (a + k) + wt * x 92 (a + k))) y u) : V pc L (.int l :: .int f :: .int wt :: .ref 90 :: r) 202 gk_fT x y u :=
  g_callv w hd hp hc (as := [.ref 90, .int wt, .int f, .int l]) rfl h8 rfl rfl rfl (Or.inr (Or.inl ⟨Or.inl rfl, _, _, rfl, (gk_kd_j rfl rfl), rfl⟩)) (Or.inl rfl) ⟨wt, f, l, a, b, rfl, ⟨rfl, rfl⟩, hp0, hp1, hp2, hp3, kk0⟩
def L_X0_addParts : List (Nat × gk_M0) := []
def cs_X0_addParts : Nat → Option gk_M0 := gk_lk L_X0_addParts
theorem m_X0_addParts : ∀ (as : List Value) (n : Nat) (fl : gk_F) (x : gk_X) (y : gk_Y) (K : gk_K), S_X0_addParts as n fl x y K → (gk_L0 as).length ≤ 5 ∧ ∀ V : gk_V, gk_W cX0_addParts pX0 cs_X0_addParts (fun _ _ => none) none 0 none K V → V 0 (gk_en as 5) [] n fl x y 0 := by
  intro as n fl x y K hS
  obtain ⟨wt, f, l, a, b, rfl, ⟨rfl, rfl⟩, hp0, hp1, hp2, hp3, q0⟩ := hS
  refine ⟨Nat.le_of_ble_eq_true rfl, fun V w => ?_⟩
  show V 0 [some (.ref 90), some (.int wt), some (.int f), some (.int l), none] [] 202 gk_fT x y 0
  subst hp0 hp1
  have key : ∀ (k n : Nat), a + n + k = b + 1 → V 3 [some (.ref 90), some (.int wt), some (.int (nI a)), some (.int (nI b)), some (.int (nI (a + n)))] [] 202 gk_fT (gk_rg x 91 a n (fun k => x 91 (a + k) + wt * x 92 (a + k))) y 0 := by
    intro k
    induction k with
    | zero =>
      intro n ht
      obtain rfl : n = b + 1 - a := by omega
      refine s_iload (pc2 := 5) w dX0_addParts_3 rfl rfl ?_
      refine s_iload_n (pc2 := 6) w dX0_addParts_5 rfl rfl ?_
      refine s_ic_gt (pc2 := 9) (tgt := 34) w dX0_addParts_6 rfl (by decide) (fun _ => ?_) (fun h0 => absurd (by rw [gI_nI, gI_nI, gI_lt ⟨by omega, by omega⟩ ⟨by omega, by omega⟩]; omega) h0)
      refine s_return w dX0_addParts_34 rfl ?_
      exact q0
    | succ k ih =>
      intro n ht
      refine s_iload (pc2 := 5) w dX0_addParts_3 rfl rfl ?_
      refine s_iload_n (pc2 := 6) w dX0_addParts_5 rfl rfl ?_
      refine s_ic_gt (pc2 := 9) (tgt := 34) w dX0_addParts_6 rfl (by decide) (fun h0 => absurd h0 (by rw [gI_nI, gI_nI, gI_lt ⟨by omega, by omega⟩ ⟨by omega, by omega⟩]; omega)) (fun _ => ?_)
      refine s_aload_n (pc2 := 10) w dX0_addParts_9 rfl rfl ?_
      refine m_getR (pc2 := 13) (ci := 0) (k := 0) (j2 := 91) w dX0_addParts_10 rfl rfl rfl rfl rfl rfl ?_
      refine s_iload (pc2 := 15) w dX0_addParts_13 rfl rfl ?_
      refine s_dup2 (pc2 := 16) w dX0_addParts_15 rfl rfl rfl ?_
      refine m_ialoadN (pc2 := 17) (t := a + n) (N := 256) w dX0_addParts_16 rfl rfl rfl rfl (by omega) rfl ?_
      refine s_iload_n (pc2 := 18) w dX0_addParts_17 rfl rfl ?_
      refine s_aload_n (pc2 := 19) w dX0_addParts_18 rfl rfl ?_
      refine m_getR (pc2 := 22) (ci := 0) (k := 1) (j2 := 92) w dX0_addParts_19 rfl rfl rfl rfl rfl rfl ?_
      refine s_iload (pc2 := 24) w dX0_addParts_22 rfl rfl ?_
      refine m_ialoadN (pc2 := 25) (t := a + n) (N := 256) w dX0_addParts_24 rfl rfl rfl rfl (by omega) rfl ?_
      refine s_imul (pc2 := 26) w dX0_addParts_25 rfl ?_
      refine s_iadd (pc2 := 27) w dX0_addParts_26 rfl ?_
      rw [gk_rg_ne (show ¬ (91 = 91 ∧ a ≤ a + n ∧ a + n < a + n) by omega), gk_rg_ne (show ¬ (92 = 91 ∧ a ≤ a + n ∧ a + n < a + n) by omega)]
      refine m_iastoreN (pc2 := 28) (t := a + n) (N := 256) w dX0_addParts_27 rfl rfl rfl rfl (by omega) rfl ?_
      refine s_iinc (pc2 := 31) w dX0_addParts_28 rfl rfl rfl rfl ?_
      dsimp only [gk_s1, gk_s2, gk_cl]
      rw [nI_s]
      refine s_goto (tgt := 3) w dX0_addParts_31 (by decide) ?_
      have h := ih (n + 1) (by omega)
      rw [← gk_rg_s] at h
      exact h
  refine s_iload_n (pc2 := 1) w dX0_addParts_0 rfl rfl ?_
  refine s_istore (pc2 := 3) w dX0_addParts_1 rfl rfl ?_
  dsimp only [gk_s1, gk_s2, gk_cl]
  have h := key (b + 1 - a) 0 (by omega)
  rw [gk_rg_0] at h
  exact h
theorem lk_X0_addParts {l : Launch} (hl : l.stackTraces = false) : ∀ q ∈ L_X0_addParts, (q.2.1 < 5 → gk_Lk l RX0 gk_W1 0 q.1 q.2.1 q.2.2.1 q.2.2.2.1 q.2.2.2.2.1 q.2.2.2.2.2) := (fun _ h => absurd h List.not_mem_nil)
theorem sp_X0_addParts : ∀ q ∈ L_X0_addParts, gk_Sq RX0 gk_W1 0 q := (fun _ h => absurd h List.not_mem_nil)
theorem M_X0_addParts {l : Launch} (hl : l.stackTraces = false) : gk_Mt l yX0_addParts (.code yX0_addParts cX0_addParts 5 none :: gk_W1) 0 0 S_X0_addParts := gk_meth hl gk_cw_ok (by decide +kernel) rfl m_X0_addParts pX0_ok (gk_Sp_of sp_X0_addParts) pX0_st (fun ci m S h => absurd h (by intro h; cases h)) (xf_X0 0) (fun idx kd ci mm cost S2 h h5 => lk_X0_addParts hl _ (gk_lk_mem h) h5)

def S_X0_takeDirectionParts : gk_S := fun as n fl x y K => ∃ (mc : Nat) (d : Int32) (f : Int32) (l : Int32) (mx : Int) (D : Int) (cc : Int) (a : Nat) (b : Nat), as = [.ref 90, .ref 1, .ref mc, .int d, .int f, .int l] ∧ (n = 202 ∧ fl = gk_fT) ∧ gk_kd mc = 1 ∧ (x 1 7 = gI cc) ∧ (100 ≤ cc ∧ cc ≤ 1000) ∧ (x mc 1 = gI mx) ∧ (-5000 ≤ mx ∧ mx ≤ 5000) ∧ (d = gI D) ∧ (-3000 ≤ D ∧ D ≤ 3000) ∧ (gk_kd (mc + 1) = 20) ∧ (gk_ln (mc + 1) = 256) ∧ (mc + 1 ≠ 92) ∧ (f = nI a) ∧ (l = nI b) ∧ (a ≤ b) ∧ (b < 256) ∧ (K (.inl none) n fl (gk_rg x 92 a (b + 1 - a) (fun k => gk_at (x (mc + 1)) (nI (a + k) + gI (mx * D / (100 * cc))))) y)
theorem r_X0_takeDirectionParts (w : gk_W c P cs (fun _ _ => none) rt uf sc K V) {idx : Nat} {mc : Nat} {d : Int32} {f : Int32} {l : Int32} {mx : Int} {D : Int} {cc : Int} {a : Nat} {b : Nat} (hd : decode c pc = .ok (.invokevirtual idx, 3)) (hp : pc + 3 = pc2) (hc : cs idx = some (1, 0, 6, 0, S_X0_takeDirectionParts)) (h8 : Nat.ble (r.map Value.category).sum 8 = true) (hk0 : gk_kd mc = 1) (hp0 : x 1 7 = gI cc) (hp1 : 100 ≤ cc ∧ cc ≤ 1000) (hp2 : x mc 1 = gI mx) (hp3 : -5000 ≤ mx ∧ mx ≤ 5000) (hp4 : d = gI D) (hp5 : -3000 ≤ D ∧ D ≤ 3000) (hp6 : gk_kd (mc + 1) = 20) (hp7 : gk_ln (mc + 1) = 256) (hp8 : mc + 1 ≠ 92) (hp9 : f = nI a) (hp10 : l = nI b) (hp11 : a ≤ b) (hp12 : b < 256) (kk0 : V pc2 L r 202 gk_fT (gk_rg x 92 a (b + 1 - a) (fun k => gk_at (x (mc + 1)) (nI (a + k) + gI (mx * D / (100 * cc))))) y u) : V pc L (.int l :: .int f :: .int d :: .ref mc :: .ref 1 :: .ref 90 :: r) 202 gk_fT x y u :=
  g_callv w hd hp hc (as := [.ref 90, .ref 1, .ref mc, .int d, .int f, .int l]) rfl h8 rfl rfl rfl (Or.inr (Or.inl ⟨Or.inl rfl, _, _, rfl, (gk_kd_j rfl rfl), rfl⟩)) (Or.inl rfl) ⟨mc, d, f, l, mx, D, cc, a, b, rfl, ⟨rfl, rfl⟩, hk0, hp0, hp1, hp2, hp3, hp4, hp5, hp6, hp7, hp8, hp9, hp10, hp11, hp12, kk0⟩
def L_X0_takeDirectionParts : List (Nat × gk_M0) := [(71, (0, 0, 3, 0, S_X0_directionShift)), (93, (0, 9, 2, 0, S_X10_elementAt))]
def cs_X0_takeDirectionParts : Nat → Option gk_M0 := gk_lk L_X0_takeDirectionParts
theorem m_X0_takeDirectionParts : ∀ (as : List Value) (n : Nat) (fl : gk_F) (x : gk_X) (y : gk_Y) (K : gk_K), S_X0_takeDirectionParts as n fl x y K → (gk_L0 as).length ≤ 8 ∧ ∀ V : gk_V, gk_W cX0_takeDirectionParts pX0 cs_X0_takeDirectionParts (fun _ _ => none) none 0 none K V → V 0 (gk_en as 8) [] n fl x y 0 := by
  intro as n fl x y K hS
  obtain ⟨mc, d, f, l, mx, D, cc, a, b, rfl, ⟨rfl, rfl⟩, hk0, hp0, hp1, hp2, hp3, hp4, hp5, hp6, hp7, hp8, hp9, hp10, hp11, hp12, q0⟩ := hS
  refine ⟨Nat.le_of_ble_eq_true rfl, fun V w => ?_⟩
  show V 0 [some (.ref 90), some (.ref 1), some (.ref mc), some (.int d), some (.int f), some (.int l), none, none] [] 202 gk_fT x y 0
  subst hp9 hp10
  have key : ∀ (k n : Nat), a + n + k = b + 1 → V 12 [some (.ref 90), some (.ref 1), some (.ref mc), some (.int d), some (.int (nI a)), some (.int (nI b)), some (.int (gI (mx * D / (100 * cc)))), some (.int (nI (a + n)))] [] 202 gk_fT (gk_rg x 92 a n (fun k => gk_at (x (mc + 1)) (nI (a + k) + gI (mx * D / (100 * cc))))) y 0 := by
    intro k
    induction k with
    | zero =>
      intro n ht
      obtain rfl : n = b + 1 - a := by omega
      refine s_iload (pc2 := 14) w dX0_takeDirectionParts_12 rfl rfl ?_
      refine s_iload (pc2 := 16) w dX0_takeDirectionParts_14 rfl rfl ?_
      refine s_ic_gt (pc2 := 19) (tgt := 44) w dX0_takeDirectionParts_16 rfl (by decide) (fun _ => ?_) (fun h0 => absurd (by rw [gI_nI, gI_nI, gI_lt ⟨by omega, by omega⟩ ⟨by omega, by omega⟩]; omega) h0)
      refine s_return w dX0_takeDirectionParts_44 rfl ?_
      exact q0
    | succ k ih =>
      intro n ht
      refine s_iload (pc2 := 14) w dX0_takeDirectionParts_12 rfl rfl ?_
      refine s_iload (pc2 := 16) w dX0_takeDirectionParts_14 rfl rfl ?_
      refine s_ic_gt (pc2 := 19) (tgt := 44) w dX0_takeDirectionParts_16 rfl (by decide) (fun h0 => absurd h0 (by rw [gI_nI, gI_nI, gI_lt ⟨by omega, by omega⟩ ⟨by omega, by omega⟩]; omega)) (fun _ => ?_)
      refine s_aload_n (pc2 := 20) w dX0_takeDirectionParts_19 rfl rfl ?_
      refine m_getR (pc2 := 23) (ci := 0) (k := 1) (j2 := 92) w dX0_takeDirectionParts_20 rfl rfl rfl rfl rfl rfl ?_
      refine s_iload (pc2 := 25) w dX0_takeDirectionParts_23 rfl rfl ?_
      refine s_aload_n (pc2 := 26) w dX0_takeDirectionParts_25 rfl rfl ?_
      refine m_getR (pc2 := 29) (ci := 1) (k := 0) (j2 := (mc + 1)) w dX0_takeDirectionParts_26 rfl rfl hk0 rfl rfl rfl ?_
      refine s_iload (pc2 := 31) w dX0_takeDirectionParts_29 rfl rfl ?_
      refine s_iload (pc2 := 33) w dX0_takeDirectionParts_31 rfl rfl ?_
      refine s_iadd (pc2 := 34) w dX0_takeDirectionParts_33 rfl ?_
      refine r_X10_elementAt (pc2 := 37) w dX0_takeDirectionParts_34 rfl rfl rfl hp6 hp7 rfl ?_
      rw [gk_at_e, show gk_rg x 92 a n (fun k => gk_at (x (mc + 1)) (nI (a + k) + gI (mx * D / (100 * cc)))) (mc + 1) = x (mc + 1) from funext (fun k => gk_rg_ne (fun h => hp8 h.1))]
      refine m_iastoreN (pc2 := 38) (t := a + n) (N := 256) w dX0_takeDirectionParts_37 rfl rfl rfl rfl (by omega) rfl ?_
      refine s_iinc (pc2 := 41) w dX0_takeDirectionParts_38 rfl rfl rfl rfl ?_
      dsimp only [gk_s1, gk_s2, gk_cl]
      rw [nI_s]
      refine s_goto (tgt := 12) w dX0_takeDirectionParts_41 (by decide) ?_
      have h := ih (n + 1) (by omega)
      rw [← gk_rg_s] at h
      exact h
  refine s_aload_n (pc2 := 1) w dX0_takeDirectionParts_0 rfl rfl ?_
  refine s_aload_n (pc2 := 2) w dX0_takeDirectionParts_1 rfl rfl ?_
  refine s_iload_n (pc2 := 3) w dX0_takeDirectionParts_2 rfl rfl ?_
  refine r_X0_directionShift (pc2 := 6) w dX0_takeDirectionParts_3 rfl rfl rfl hk0 hp0 hp1 hp2 hp3 hp4 hp5 ?_
  refine s_istore (pc2 := 8) w dX0_takeDirectionParts_6 rfl rfl ?_
  dsimp only [gk_s1, gk_s2, gk_cl]
  refine s_iload (pc2 := 10) w dX0_takeDirectionParts_8 rfl rfl ?_
  refine s_istore (pc2 := 12) w dX0_takeDirectionParts_10 rfl rfl ?_
  dsimp only [gk_s1, gk_s2, gk_cl]
  have h := key (b + 1 - a) 0 (by omega)
  rw [gk_rg_0] at h
  exact h
theorem lk_X0_takeDirectionParts {l : Launch} (hl : l.stackTraces = false) : ∀ q ∈ L_X0_takeDirectionParts, (q.2.1 < 5 → gk_Lk l RX0 gk_W1 2 q.1 q.2.1 q.2.2.1 q.2.2.2.1 q.2.2.2.2.1 q.2.2.2.2.2) := (List.forall_mem_cons.mpr ⟨(fun _ => ⟨yX0_directionShift, cX0_directionShift, 4, (some .int), 1, _, M_X0_directionShift hl, ⟨by decide, by decide⟩, ⟨by decide, by decide, by decide +kernel⟩, ⟨(gk_wm 1078 (by decide +kernel)), (gk_wm 95 (by decide +kernel))⟩, Or.inl ⟨rfl, rfl, (gk_wm 1077 (by decide +kernel)), gk_wm 1076 (by decide +kernel)⟩⟩), (List.forall_mem_cons.mpr ⟨(fun _ => ⟨yX10_elementAt, cX10_elementAt, 2, (some .int), 0, _, M_X10_elementAt hl, ⟨by decide, by decide⟩, ⟨by decide, by decide, by decide +kernel⟩, ⟨(gk_wm 481 (by decide +kernel)), (gk_wm 89 (by decide +kernel))⟩, Or.inr (Or.inl ⟨rfl, rfl, (gk_wm 480 (by decide +kernel)), ⟨_, gk_nsm 17 rfl⟩, nt_X10_elementAt⟩)⟩), (fun _ h => absurd h List.not_mem_nil)⟩)⟩)
theorem sp_X0_takeDirectionParts : ∀ q ∈ L_X0_takeDirectionParts, gk_Sq RX0 gk_W1 2 q := (List.forall_mem_cons.mpr ⟨⟨fun h => absurd h (by decide), fun h => absurd h (by decide), fun h => absurd h (by decide), fun h => absurd h (by decide), fun h => absurd h (by decide), fun h => absurd h (by decide)⟩, (List.forall_mem_cons.mpr ⟨⟨fun h => absurd h (by decide), fun h => absurd h (by decide), fun h => absurd h (by decide), fun h => absurd h (by decide), fun h => absurd h (by decide), fun h => absurd h (by decide)⟩, (fun _ h => absurd h List.not_mem_nil)⟩)⟩)
theorem M_X0_takeDirectionParts {l : Launch} (hl : l.stackTraces = false) : gk_Mt l yX0_takeDirectionParts (.code yX0_takeDirectionParts cX0_takeDirectionParts 8 none :: gk_W1) 2 0 S_X0_takeDirectionParts := gk_meth hl gk_cw_ok (by decide +kernel) rfl m_X0_takeDirectionParts pX0_ok (gk_Sp_of sp_X0_takeDirectionParts) pX0_st (fun ci m S h => absurd h (by intro h; cases h)) (xf_X0 2) (fun idx kd ci mm cost S2 h h5 => lk_X0_takeDirectionParts hl _ (gk_lk_mem h) h5)

end GKV

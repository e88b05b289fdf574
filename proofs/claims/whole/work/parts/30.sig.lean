/-! THE METHODS, 11: measures of a row -/
section GKV
variable {c : ByteArray} {P : gk_C} {cs : Nat → Option gk_M0} {rt : Option FieldType} {uf : Nat} {sc : Option Nat} {K : gk_K} {V : gk_V}
variable {L : List (Option Value)} {r : List Value} {n : Nat} {fl : gk_F} {x : gk_X} {y : gk_Y} {u pc pc2 : Nat}
/-- a row's sums: of squares; of those that a step meets -/
def gk_eI (r : Nat → Int) (a : Nat) : Nat → Int
  | 0 => 0
  | n + 1 => gk_eI r a n + r (a + n) * r (a + n)
def gk_fd (r : Nat → Int) (a p i : Nat) : Nat → Int
  | 0 => 0
  | n + 1 => if n % p = i then gk_fd r a p i n + r (a + n) else gk_fd r a p i n
def gk_pk (r : Nat → Int32) (a : Nat) : Nat → Int32
  | 0 => 0
  | n + 1 => if gk_pk r a n < (if 0 ≤ r (a + n) then r (a + n) else 0 - r (a + n)) then (if 0 ≤ r (a + n) then r (a + n) else 0 - r (a + n)) else gk_pk r a n
def gk_sg (v : Int32) : Int32 := if v = 0 then 0 else if v < 0 then -1 else 1
def gk_cx (r : Nat → Int32) (a : Nat) : Nat → Nat
  | 0 => 0
  | n + 1 => if gk_sg (r (a + 1 + n)) = gk_sg (r (a + n)) then gk_cx r a n else gk_cx r a n + 1
def gr (x : gk_X) (j : Nat) : Nat → Int := fun k => (x j k).toInt
theorem gk_fd_1 (r : Nat → Int) (a n : Nat) : gk_fd r a 1 0 (n + 1) = gk_fd r a 1 0 n + r (a + n) := if_pos (Nat.mod_one n)
theorem gk_fd_sk (r : Nat → Int) (a p i d0 : Nat) : ∀ d1, d0 ≤ d1 → (∀ d, d0 ≤ d → d < d1 → d % p ≠ i) → gk_fd r a p i d1 = gk_fd r a p i d0
  | 0, h, _ => by rw [Nat.le_zero.mp h]
  | d1 + 1, h, h2 => by
    by_cases h3 : d0 = d1 + 1
    · rw [h3]
    · exact (if_neg (h2 d1 (by omega) (by omega))).trans (gk_fd_sk r a p i d0 d1 (by omega) (fun d a b => h2 d a (by omega)))
def S_X6_energyOf : gk_S := fun as n fl x y K => ∃ (j : Nat) (f : Int32) (l : Int32) (a : Nat) (b : Nat), as = [.ref j, .int f, .int l] ∧ (n = 202 ∧ fl = gk_fT) ∧ gk_kd j = 20 ∧ (gk_ln j = 256) ∧ (f = nI a) ∧ (l = nI b) ∧ (a ≤ b + 1) ∧ (b < 256) ∧ (K (.inl (some (.long (gL (gk_eI (gr x j) a (b + 1 - a)))))) n fl x y)
theorem r_X6_energyOf (w : gk_W c P cs (fun _ _ => none) rt uf sc K V) {idx : Nat} {j : Nat} {f : Int32} {l : Int32} {a : Nat} {b : Nat} (hd : decode c pc = .ok (.invokestatic idx, 3)) (hp : pc + 3 = pc2) (hc : cs idx = some (0, 0, 3, 0, S_X6_energyOf)) (h8 : Nat.ble (r.map Value.category).sum 8 = true) (hk0 : gk_kd j = 20) (hp0 : gk_ln j = 256) (hp1 : f = nI a) (hp2 : l = nI b) (hp3 : a ≤ b + 1) (hp4 : b < 256) (kk0 : V pc2 L ((.long (gL (gk_eI (gr x j) a (b + 1 - a)))) :: r) 202 gk_fT x y u) : V pc L (.int l :: .int f :: .ref j :: r) 202 gk_fT x y u :=
  g_calls w hd hp hc (as := [.ref j, .int f, .int l]) rfl h8 rfl rfl rfl (Or.inl rfl) (Or.inl rfl) ⟨j, f, l, a, b, rfl, ⟨rfl, rfl⟩, hk0, hp0, hp1, hp2, hp3, hp4, kk0⟩
def L_X6_energyOf : List (Nat × gk_M0) := []
def cs_X6_energyOf : Nat → Option gk_M0 := gk_lk L_X6_energyOf
theorem m_X6_energyOf : ∀ (as : List Value) (n : Nat) (fl : gk_F) (x : gk_X) (y : gk_Y) (K : gk_K), S_X6_energyOf as n fl x y K → (gk_L0 as).length ≤ 6 ∧ ∀ V : gk_V, gk_W cX6_energyOf pX6 cs_X6_energyOf (fun _ _ => none) (some .long) 0 none K V → V 0 (gk_en as 6) [] n fl x y 0 := by
  intro as n fl x y K hS
  obtain ⟨j, f, l, a, b, rfl, ⟨rfl, rfl⟩, hk0, hp0, hp1, hp2, hp3, hp4, q0⟩ := hS
  refine ⟨Nat.le_of_ble_eq_true rfl, fun V w => ?_⟩
  show V 0 [some (.ref j), some (.int f), some (.int l), none, none, none] [] 202 gk_fT x y 0
  subst hp1 hp2
  have key : ∀ (k n : Nat), a + n + k = b + 1 → V 5 [some (.ref j), some (.int (nI a)), some (.int (nI b)), some (.long (gL (gk_eI (gr x j) a n))), none, some (.int (nI (a + n)))] [] 202 gk_fT x y 0 := by
    intro k
    induction k with
    | zero =>
      intro n ht
      obtain rfl : n = b + 1 - a := by omega
      refine s_iload (pc2 := 7) w dX6_energyOf_5 rfl rfl ?_
      refine s_iload_n (pc2 := 8) w dX6_energyOf_7 rfl rfl ?_
      refine s_ic_gt (pc2 := 11) (tgt := 31) w dX6_energyOf_8 rfl (by decide) (fun _ => ?_) (fun h0 => absurd (by rw [gI_nI, gI_nI, gI_lt ⟨by omega, by omega⟩ ⟨by omega, by omega⟩]; omega) h0)
      refine s_lload_n (pc2 := 32) w dX6_energyOf_31 rfl rfl ?_
      refine s_lreturn w dX6_energyOf_32 rfl ?_
      exact q0
    | succ k ih =>
      intro n ht
      refine s_iload (pc2 := 7) w dX6_energyOf_5 rfl rfl ?_
      refine s_iload_n (pc2 := 8) w dX6_energyOf_7 rfl rfl ?_
      refine s_ic_gt (pc2 := 11) (tgt := 31) w dX6_energyOf_8 rfl (by decide) (fun h0 => absurd h0 (by rw [gI_nI, gI_nI, gI_lt ⟨by omega, by omega⟩ ⟨by omega, by omega⟩]; omega)) (fun _ => ?_)
      refine s_lload_n (pc2 := 12) w dX6_energyOf_11 rfl rfl ?_
      refine s_aload_n (pc2 := 13) w dX6_energyOf_12 rfl rfl ?_
      refine s_iload (pc2 := 15) w dX6_energyOf_13 rfl rfl ?_
      refine m_ialoadN (pc2 := 16) (t := a + n) w dX6_energyOf_15 rfl hk0 hp0 rfl (by omega) rfl ?_
      refine s_i2l (pc2 := 17) w dX6_energyOf_16 rfl ?_
      refine s_aload_n (pc2 := 18) w dX6_energyOf_17 rfl rfl ?_
      refine s_iload (pc2 := 20) w dX6_energyOf_18 rfl rfl ?_
      refine m_ialoadN (pc2 := 21) (t := a + n) w dX6_energyOf_20 rfl hk0 hp0 rfl (by omega) rfl ?_
      refine s_i2l (pc2 := 22) w dX6_energyOf_21 rfl ?_
      refine s_lmul (pc2 := 23) w dX6_energyOf_22 rfl ?_
      refine s_ladd (pc2 := 24) w dX6_energyOf_23 rfl ?_
      rw [gI64, gL_mul, gL_add]
      refine s_lstore_n (pc2 := 25) (k2 := 3) w dX6_energyOf_24 rfl rfl rfl ?_
      dsimp only [gk_s1, gk_s2, gk_cl]
      refine s_iinc (pc2 := 28) w dX6_energyOf_25 rfl rfl rfl rfl ?_
      dsimp only [gk_s1, gk_s2, gk_cl]
      rw [nI_s]
      refine s_goto (tgt := 5) w dX6_energyOf_28 (by decide) ?_
      exact ih (n + 1) (by omega)
  refine s_lconst (pc2 := 1) (v := gL 0) w dX6_energyOf_0 rfl rfl ?_
  refine s_lstore_n (pc2 := 2) (k2 := 3) w dX6_energyOf_1 rfl rfl rfl ?_
  dsimp only [gk_s1, gk_s2, gk_cl]
  refine s_iload_n (pc2 := 3) w dX6_energyOf_2 rfl rfl ?_
  refine s_istore (pc2 := 5) w dX6_energyOf_3 rfl rfl ?_
  dsimp only [gk_s1, gk_s2, gk_cl]
  exact key (b + 1 - a) 0 (by omega)
theorem lk_X6_energyOf {l : Launch} (hl : l.stackTraces = false) : ∀ q ∈ L_X6_energyOf, (q.2.1 < 5 → gk_Lk l RX6 gk_W1 0 q.1 q.2.1 q.2.2.1 q.2.2.2.1 q.2.2.2.2.1 q.2.2.2.2.2) := (fun _ h => absurd h List.not_mem_nil)
theorem sp_X6_energyOf : ∀ q ∈ L_X6_energyOf, gk_Sq RX6 gk_W1 0 q := (fun _ h => absurd h List.not_mem_nil)
theorem M_X6_energyOf {l : Launch} (hl : l.stackTraces = false) : gk_Mt l yX6_energyOf (.code yX6_energyOf cX6_energyOf 6 (some .long) :: gk_W1) 0 0 S_X6_energyOf := gk_meth hl gk_cw_ok (by decide +kernel) rfl m_X6_energyOf pX6_ok (gk_Sp_of sp_X6_energyOf) pX6_st (fun ci m S h => absurd h (by intro h; cases h)) (xf_X6 0) (fun idx kd ci mm cost S2 h h5 => lk_X6_energyOf hl _ (gk_lk_mem h) h5)

def S_X6_peakOf : gk_S := fun as n fl x y K => ∃ (j : Nat) (f : Int32) (l : Int32) (a : Nat) (b : Nat), as = [.ref j, .int f, .int l] ∧ (n = 202 ∧ fl = gk_fT) ∧ gk_kd j = 20 ∧ (gk_ln j = 256) ∧ (f = nI a) ∧ (l = nI b) ∧ (a ≤ b + 1) ∧ (b < 256) ∧ (K (.inl (some (.int (gk_pk (x j) a (b + 1 - a))))) n fl x y)
theorem r_X6_peakOf (w : gk_W c P cs (fun _ _ => none) rt uf sc K V) {idx : Nat} {j : Nat} {f : Int32} {l : Int32} {a : Nat} {b : Nat} (hd : decode c pc = .ok (.invokestatic idx, 3)) (hp : pc + 3 = pc2) (hc : cs idx = some (0, 0, 3, 0, S_X6_peakOf)) (h8 : Nat.ble (r.map Value.category).sum 8 = true) (hk0 : gk_kd j = 20) (hp0 : gk_ln j = 256) (hp1 : f = nI a) (hp2 : l = nI b) (hp3 : a ≤ b + 1) (hp4 : b < 256) (kk0 : V pc2 L ((.int (gk_pk (x j) a (b + 1 - a))) :: r) 202 gk_fT x y u) : V pc L (.int l :: .int f :: .ref j :: r) 202 gk_fT x y u :=
  g_calls w hd hp hc (as := [.ref j, .int f, .int l]) rfl h8 rfl rfl rfl (Or.inl rfl) (Or.inl rfl) ⟨j, f, l, a, b, rfl, ⟨rfl, rfl⟩, hk0, hp0, hp1, hp2, hp3, hp4, kk0⟩
def L_X6_peakOf : List (Nat × gk_M0) := [(30, (7, 0, 0, 0, fun _ _ _ _ _ _ => False)), (36, (5, 0, 0, 0, fun _ _ _ _ _ _ => False))]
def cs_X6_peakOf : Nat → Option gk_M0 := gk_lk L_X6_peakOf
theorem m_X6_peakOf : ∀ (as : List Value) (n : Nat) (fl : gk_F) (x : gk_X) (y : gk_Y) (K : gk_K), S_X6_peakOf as n fl x y K → (gk_L0 as).length ≤ 5 ∧ ∀ V : gk_V, gk_W cX6_peakOf pX6 cs_X6_peakOf (fun _ _ => none) (some .int) 0 none K V → V 0 (gk_en as 5) [] n fl x y 0 := by
  intro as n fl x y K hS
  obtain ⟨j, f, l, a, b, rfl, ⟨rfl, rfl⟩, hk0, hp0, hp1, hp2, hp3, hp4, q0⟩ := hS
  refine ⟨Nat.le_of_ble_eq_true rfl, fun V w => ?_⟩
  show V 0 [some (.ref j), some (.int f), some (.int l), none, none] [] 202 gk_fT x y 0
  subst hp1 hp2
  have key : ∀ (k n : Nat), a + n + k = b + 1 → V 5 [some (.ref j), some (.int (nI a)), some (.int (nI b)), some (.int (gk_pk (x j) a n)), some (.int (nI (a + n)))] [] 202 gk_fT x y 0 := by
    intro k
    induction k with
    | zero =>
      intro n ht
      obtain rfl : n = b + 1 - a := by omega
      refine s_iload (pc2 := 7) w dX6_peakOf_5 rfl rfl ?_
      refine s_iload_n (pc2 := 8) w dX6_peakOf_7 rfl rfl ?_
      refine s_ic_gt (pc2 := 11) (tgt := 29) w dX6_peakOf_8 rfl (by decide) (fun _ => ?_) (fun h0 => absurd (by rw [gI_nI, gI_nI, gI_lt ⟨by omega, by omega⟩ ⟨by omega, by omega⟩]; omega) h0)
      refine s_iload_n (pc2 := 30) w dX6_peakOf_29 rfl rfl ?_
      refine s_ireturn w dX6_peakOf_30 rfl rfl ?_
      exact q0
    | succ k ih =>
      intro n ht
      refine s_iload (pc2 := 7) w dX6_peakOf_5 rfl rfl ?_
      refine s_iload_n (pc2 := 8) w dX6_peakOf_7 rfl rfl ?_
      refine s_ic_gt (pc2 := 11) (tgt := 29) w dX6_peakOf_8 rfl (by decide) (fun h0 => absurd h0 (by rw [gI_nI, gI_nI, gI_lt ⟨by omega, by omega⟩ ⟨by omega, by omega⟩]; omega)) (fun _ => ?_)
      refine s_iload_n (pc2 := 12) w dX6_peakOf_11 rfl rfl ?_
      refine s_aload_n (pc2 := 13) w dX6_peakOf_12 rfl rfl ?_
      refine s_iload (pc2 := 15) w dX6_peakOf_13 rfl rfl ?_
      refine m_ialoadN (pc2 := 16) (t := a + n) w dX6_peakOf_15 rfl hk0 hp0 rfl (by omega) rfl ?_
      refine s_abs (pc2 := 19) w dX6_peakOf_16 rfl rfl rfl ?_
      refine s_max (pc2 := 22) w dX6_peakOf_19 rfl rfl rfl ?_
      refine s_istore_n (pc2 := 23) (k2 := 3) w dX6_peakOf_22 rfl rfl rfl ?_
      dsimp only [gk_s1, gk_s2, gk_cl]
      refine s_iinc (pc2 := 26) w dX6_peakOf_23 rfl rfl rfl rfl ?_
      dsimp only [gk_s1, gk_s2, gk_cl]
      rw [nI_s]
      refine s_goto (tgt := 5) w dX6_peakOf_26 (by decide) ?_
      exact ih (n + 1) (by omega)
  refine s_iconst (pc2 := 1) (v := 0) w dX6_peakOf_0 rfl rfl ?_
  refine s_istore_n (pc2 := 2) (k2 := 3) w dX6_peakOf_1 rfl rfl rfl ?_
  dsimp only [gk_s1, gk_s2, gk_cl]
  refine s_iload_n (pc2 := 3) w dX6_peakOf_2 rfl rfl ?_
  refine s_istore (pc2 := 5) w dX6_peakOf_3 rfl rfl ?_
  dsimp only [gk_s1, gk_s2, gk_cl]
  exact key (b + 1 - a) 0 (by omega)
theorem lk_X6_peakOf {l : Launch} (hl : l.stackTraces = false) : ∀ q ∈ L_X6_peakOf, (q.2.1 < 5 → gk_Lk l RX6 gk_W1 1 q.1 q.2.1 q.2.2.1 q.2.2.2.1 q.2.2.2.2.1 q.2.2.2.2.2) := (List.forall_mem_cons.mpr ⟨(fun h => absurd h (by decide)), (List.forall_mem_cons.mpr ⟨(fun h => absurd h (by decide)), (fun _ h => absurd h List.not_mem_nil)⟩)⟩)
theorem sp_X6_peakOf : ∀ q ∈ L_X6_peakOf, gk_Sq RX6 gk_W1 1 q := (List.forall_mem_cons.mpr ⟨⟨fun h => absurd h (by decide), fun h => absurd h (by decide), fun _ => ⟨by decide, gk_wm 988 (by decide +kernel), (gk_wm 960 (by decide +kernel)), (gk_wm 107 (by decide +kernel)), gk_wm 961 (by decide +kernel)⟩, fun h => absurd h (by decide), fun h => absurd h (by decide), fun h => absurd h (by decide)⟩, (List.forall_mem_cons.mpr ⟨⟨fun _ => ⟨by decide, gk_wm 989 (by decide +kernel), (gk_wm 990 (by decide +kernel)), (gk_wm 107 (by decide +kernel)), gk_wm 991 (by decide +kernel)⟩, fun h => absurd h (by decide), fun h => absurd h (by decide), fun h => absurd h (by decide), fun h => absurd h (by decide), fun h => absurd h (by decide)⟩, (fun _ h => absurd h List.not_mem_nil)⟩)⟩)
theorem M_X6_peakOf {l : Launch} (hl : l.stackTraces = false) : gk_Mt l yX6_peakOf (.code yX6_peakOf cX6_peakOf 5 (some .int) :: gk_W1) 1 0 S_X6_peakOf := gk_meth hl gk_cw_ok (by decide +kernel) rfl m_X6_peakOf pX6_ok (gk_Sp_of sp_X6_peakOf) pX6_st (fun ci m S h => absurd h (by intro h; cases h)) (xf_X6 1) (fun idx kd ci mm cost S2 h h5 => lk_X6_peakOf hl _ (gk_lk_mem h) h5)

def S_X6_signOf : gk_S := fun as n fl x y K => ∃ (v : Int32), as = [.int v] ∧ (n = 202 ∧ fl = gk_fT) ∧ (K (.inl (some (.int (gk_sg v)))) n fl x y)
theorem r_X6_signOf (w : gk_W c P cs (fun _ _ => none) rt uf sc K V) {idx : Nat} {v : Int32} (hd : decode c pc = .ok (.invokestatic idx, 3)) (hp : pc + 3 = pc2) (hc : cs idx = some (0, 0, 1, 0, S_X6_signOf)) (h8 : Nat.ble (r.map Value.category).sum 8 = true) (kk0 : V pc2 L ((.int (gk_sg v)) :: r) 202 gk_fT x y u) : V pc L (.int v :: r) 202 gk_fT x y u :=
  g_calls w hd hp hc (as := [.int v]) rfl h8 rfl rfl rfl (Or.inl rfl) (Or.inl rfl) ⟨v, rfl, ⟨rfl, rfl⟩, kk0⟩
def L_X6_signOf : List (Nat × gk_M0) := []
def cs_X6_signOf : Nat → Option gk_M0 := gk_lk L_X6_signOf
theorem m_X6_signOf : ∀ (as : List Value) (n : Nat) (fl : gk_F) (x : gk_X) (y : gk_Y) (K : gk_K), S_X6_signOf as n fl x y K → (gk_L0 as).length ≤ 1 ∧ ∀ V : gk_V, gk_W cX6_signOf pX6 cs_X6_signOf (fun _ _ => none) (some .int) 0 none K V → V 0 (gk_en as 1) [] n fl x y 0 := by
  intro as n fl x y K hS
  obtain ⟨v, rfl, ⟨rfl, rfl⟩, q0⟩ := hS
  refine ⟨Nat.le_of_ble_eq_true rfl, fun V w => ?_⟩
  show V 0 [some (.int v)] [] 202 gk_fT x y 0
  refine s_iload_n (pc2 := 1) w dX6_signOf_0 rfl rfl ?_
  refine s_if_ne (pc2 := 4) (tgt := 6) w dX6_signOf_1 rfl (by decide) (fun c1 => ?_) (fun c1 => ?_)
  · refine s_iload_n (pc2 := 7) w dX6_signOf_6 rfl rfl ?_
    refine s_if_ge (pc2 := 10) (tgt := 14) w dX6_signOf_7 rfl (by decide) (fun c7 => ?_) (fun c7 => ?_)
    · refine s_iconst (pc2 := 15) (v := 1) w dX6_signOf_14 rfl rfl ?_
      refine s_ireturn w dX6_signOf_15 rfl rfl ?_
      rw [show gk_sg v = 1 by unfold gk_sg; rw [if_neg c1, if_neg (g_nlt.mpr c7)]] at q0
      exact q0
    · refine s_iconst (pc2 := 11) (v := (-1)) w dX6_signOf_10 rfl rfl ?_
      refine s_goto (tgt := 15) w dX6_signOf_11 (by decide) ?_
      refine s_ireturn w dX6_signOf_15 rfl rfl ?_
      rw [show gk_sg v = -1 by unfold gk_sg; rw [if_neg c1, if_pos (g_nle.mp c7)]] at q0
      exact q0
  · refine s_iconst (pc2 := 5) (v := 0) w dX6_signOf_4 rfl rfl ?_
    refine s_ireturn w dX6_signOf_5 rfl rfl ?_
    rw [show gk_sg v = 0 by unfold gk_sg; rw [if_pos c1]] at q0
    exact q0
theorem lk_X6_signOf {l : Launch} (hl : l.stackTraces = false) : ∀ q ∈ L_X6_signOf, (q.2.1 < 5 → gk_Lk l RX6 gk_W1 0 q.1 q.2.1 q.2.2.1 q.2.2.2.1 q.2.2.2.2.1 q.2.2.2.2.2) := (fun _ h => absurd h List.not_mem_nil)
theorem sp_X6_signOf : ∀ q ∈ L_X6_signOf, gk_Sq RX6 gk_W1 0 q := (fun _ h => absurd h List.not_mem_nil)
theorem M_X6_signOf {l : Launch} (hl : l.stackTraces = false) : gk_Mt l yX6_signOf (.code yX6_signOf cX6_signOf 1 (some .int) :: gk_W1) 0 0 S_X6_signOf := gk_meth hl gk_cw_ok (by decide +kernel) rfl m_X6_signOf pX6_ok (gk_Sp_of sp_X6_signOf) pX6_st (fun ci m S h => absurd h (by intro h; cases h)) (xf_X6 0) (fun idx kd ci mm cost S2 h h5 => lk_X6_signOf hl _ (gk_lk_mem h) h5)

def S_X6_crossingsOf : gk_S := fun as n fl x y K => ∃ (j : Nat) (f : Int32) (l : Int32) (a : Nat) (b : Nat), as = [.ref j, .int f, .int l] ∧ (n = 202 ∧ fl = gk_fT) ∧ gk_kd j = 20 ∧ (gk_ln j = 256) ∧ (f = nI a) ∧ (l = nI b) ∧ (a ≤ b) ∧ (b < 256) ∧ (K (.inl (some (.int (nI (gk_cx (x j) a (b - a)))))) n fl x y)
theorem r_X6_crossingsOf (w : gk_W c P cs (fun _ _ => none) rt uf sc K V) {idx : Nat} {j : Nat} {f : Int32} {l : Int32} {a : Nat} {b : Nat} (hd : decode c pc = .ok (.invokestatic idx, 3)) (hp : pc + 3 = pc2) (hc : cs idx = some (0, 0, 3, 0, S_X6_crossingsOf)) (h8 : Nat.ble (r.map Value.category).sum 8 = true) (hk0 : gk_kd j = 20) (hp0 : gk_ln j = 256) (hp1 : f = nI a) (hp2 : l = nI b) (hp3 : a ≤ b) (hp4 : b < 256) (kk0 : V pc2 L ((.int (nI (gk_cx (x j) a (b - a)))) :: r) 202 gk_fT x y u) : V pc L (.int l :: .int f :: .ref j :: r) 202 gk_fT x y u :=
  g_calls w hd hp hc (as := [.ref j, .int f, .int l]) rfl h8 rfl rfl rfl (Or.inl rfl) (Or.inl rfl) ⟨j, f, l, a, b, rfl, ⟨rfl, rfl⟩, hk0, hp0, hp1, hp2, hp3, hp4, kk0⟩
def L_X6_crossingsOf : List (Nat × gk_M0) := [(40, (0, 0, 1, 0, S_X6_signOf))]
def cs_X6_crossingsOf : Nat → Option gk_M0 := gk_lk L_X6_crossingsOf
theorem m_X6_crossingsOf : ∀ (as : List Value) (n : Nat) (fl : gk_F) (x : gk_X) (y : gk_Y) (K : gk_K), S_X6_crossingsOf as n fl x y K → (gk_L0 as).length ≤ 5 ∧ ∀ V : gk_V, gk_W cX6_crossingsOf pX6 cs_X6_crossingsOf (fun _ _ => none) (some .int) 0 none K V → V 0 (gk_en as 5) [] n fl x y 0 := by
  intro as n fl x y K hS
  obtain ⟨j, f, l, a, b, rfl, ⟨rfl, rfl⟩, hk0, hp0, hp1, hp2, hp3, hp4, q0⟩ := hS
  refine ⟨Nat.le_of_ble_eq_true rfl, fun V w => ?_⟩
  show V 0 [some (.ref j), some (.int f), some (.int l), none, none] [] 202 gk_fT x y 0
  subst hp1 hp2
  have key : ∀ (k n : Nat), a + 1 + n + k = b + 1 → V 7 [some (.ref j), some (.int (nI a)), some (.int (nI b)), some (.int (nI (gk_cx (x j) a n))), some (.int (nI (a + 1 + n)))] [] 202 gk_fT x y 0 := by
    intro k
    induction k with
    | zero =>
      intro n ht
      obtain rfl : n = b - a := by omega
      refine s_iload (pc2 := 9) w dX6_crossingsOf_7 rfl rfl ?_
      refine s_iload_n (pc2 := 10) w dX6_crossingsOf_9 rfl rfl ?_
      refine s_ic_gt (pc2 := 13) (tgt := 41) w dX6_crossingsOf_10 rfl (by decide) (fun _ => ?_) (fun h0 => absurd (by rw [gI_nI, gI_nI, gI_lt ⟨by omega, by omega⟩ ⟨by omega, by omega⟩]; omega) h0)
      refine s_iload_n (pc2 := 42) w dX6_crossingsOf_41 rfl rfl ?_
      refine s_ireturn w dX6_crossingsOf_42 rfl rfl ?_
      exact q0
    | succ k ih =>
      intro n ht
      refine s_iload (pc2 := 9) w dX6_crossingsOf_7 rfl rfl ?_
      refine s_iload_n (pc2 := 10) w dX6_crossingsOf_9 rfl rfl ?_
      refine s_ic_gt (pc2 := 13) (tgt := 41) w dX6_crossingsOf_10 rfl (by decide) (fun h0 => absurd h0 (by rw [gI_nI, gI_nI, gI_lt ⟨by omega, by omega⟩ ⟨by omega, by omega⟩]; omega)) (fun _ => ?_)
      refine s_aload_n (pc2 := 14) w dX6_crossingsOf_13 rfl rfl ?_
      refine s_iload (pc2 := 16) w dX6_crossingsOf_14 rfl rfl ?_
      refine m_ialoadN (pc2 := 17) (t := a + 1 + n) w dX6_crossingsOf_16 rfl hk0 hp0 rfl (by omega) rfl ?_
      refine r_X6_signOf (pc2 := 20) w dX6_crossingsOf_17 rfl rfl rfl ?_
      refine s_aload_n (pc2 := 21) w dX6_crossingsOf_20 rfl rfl ?_
      refine s_iload (pc2 := 23) w dX6_crossingsOf_21 rfl rfl ?_
      refine s_iconst (pc2 := 24) (v := gI 1) w dX6_crossingsOf_23 rfl rfl ?_
      refine s_isub (pc2 := 25) w dX6_crossingsOf_24 rfl ?_
      refine m_ialoadN (pc2 := 26) (t := a + n) w dX6_crossingsOf_25 rfl hk0 hp0 (by simp only [gI_nI, gI_add, gI_mul, gI_sub, gI_inc]; exact congrArg gI (by omega)) (by omega) rfl ?_
      refine r_X6_signOf (pc2 := 29) w dX6_crossingsOf_26 rfl rfl rfl ?_
      refine s_ic_eq (pc2 := 32) (tgt := 35) w dX6_crossingsOf_29 rfl (by decide) (fun c29 => ?_) (fun c29 => ?_)
      · refine s_iinc (pc2 := 38) w dX6_crossingsOf_35 rfl rfl rfl rfl ?_
        dsimp only [gk_s1, gk_s2, gk_cl]
        rw [nI_s]
        refine s_goto (tgt := 7) w dX6_crossingsOf_38 (by decide) ?_
        have h := ih (n + 1) (by omega)
        rw [show gk_cx (x j) a (n + 1) = gk_cx (x j) a n from if_pos c29] at h
        exact h
      · refine s_iinc (pc2 := 35) w dX6_crossingsOf_32 rfl rfl rfl rfl ?_
        dsimp only [gk_s1, gk_s2, gk_cl]
        rw [nI_s]
        refine s_iinc (pc2 := 38) w dX6_crossingsOf_35 rfl rfl rfl rfl ?_
        dsimp only [gk_s1, gk_s2, gk_cl]
        rw [nI_s]
        refine s_goto (tgt := 7) w dX6_crossingsOf_38 (by decide) ?_
        have h := ih (n + 1) (by omega)
        rw [show gk_cx (x j) a (n + 1) = gk_cx (x j) a n + 1 from if_neg c29] at h
        exact h
  refine s_iconst (pc2 := 1) (v := gI 0) w dX6_crossingsOf_0 rfl rfl ?_
  refine s_istore_n (pc2 := 2) (k2 := 3) w dX6_crossingsOf_1 rfl rfl rfl ?_
  dsimp only [gk_s1, gk_s2, gk_cl]
  refine s_iload_n (pc2 := 3) w dX6_crossingsOf_2 rfl rfl ?_
  refine s_iconst (pc2 := 4) (v := gI 1) w dX6_crossingsOf_3 rfl rfl ?_
  refine s_iadd (pc2 := 5) w dX6_crossingsOf_4 rfl ?_
  refine s_istore (pc2 := 7) w dX6_crossingsOf_5 rfl rfl ?_
  dsimp only [gk_s1, gk_s2, gk_cl]
  rw [show nI a + gI 1 = nI (a + 1) from gI_add a 1]
  exact key (b - a) 0 (by omega)
theorem lk_X6_crossingsOf {l : Launch} (hl : l.stackTraces = false) : ∀ q ∈ L_X6_crossingsOf, (q.2.1 < 5 → gk_Lk l RX6 gk_W1 1 q.1 q.2.1 q.2.2.1 q.2.2.2.1 q.2.2.2.2.1 q.2.2.2.2.2) := (List.forall_mem_cons.mpr ⟨(fun _ => ⟨yX6_signOf, cX6_signOf, 1, (some .int), 0, _, M_X6_signOf hl, ⟨by decide, by decide⟩, ⟨by decide, by decide, by decide +kernel⟩, ⟨(gk_wm 1003 (by decide +kernel)), (gk_wm 108 (by decide +kernel))⟩, Or.inl ⟨rfl, rfl, (gk_wm 1002 (by decide +kernel)), gk_wm 1001 (by decide +kernel)⟩⟩), (fun _ h => absurd h List.not_mem_nil)⟩)
theorem sp_X6_crossingsOf : ∀ q ∈ L_X6_crossingsOf, gk_Sq RX6 gk_W1 1 q := (List.forall_mem_cons.mpr ⟨⟨fun h => absurd h (by decide), fun h => absurd h (by decide), fun h => absurd h (by decide), fun h => absurd h (by decide), fun h => absurd h (by decide), fun h => absurd h (by decide)⟩, (fun _ h => absurd h List.not_mem_nil)⟩)
theorem M_X6_crossingsOf {l : Launch} (hl : l.stackTraces = false) : gk_Mt l yX6_crossingsOf (.code yX6_crossingsOf cX6_crossingsOf 5 (some .int) :: gk_W1) 1 0 S_X6_crossingsOf := gk_meth hl gk_cw_ok (by decide +kernel) rfl m_X6_crossingsOf pX6_ok (gk_Sp_of sp_X6_crossingsOf) pX6_st (fun ci m S h => absurd h (by intro h; cases h)) (xf_X6 1) (fun idx kd ci mm cost S2 h h5 => lk_X6_crossingsOf hl _ (gk_lk_mem h) h5)

def S_X11_energyOf : gk_S := fun as n fl x y K => ∃ (f : Int32) (l : Int32) (a : Nat) (b : Nat), as = [.ref 189, .int f, .int l] ∧ (n = 202 ∧ fl = gk_fT) ∧ (f = nI a) ∧ (l = nI b) ∧ (a ≤ b + 1) ∧ (b < 256) ∧ (K (.inl (some (.long (gL (gk_eI (gr x 196) a (b + 1 - a)))))) n fl x y)
theorem r_X11_energyOf (w : gk_W c P cs (fun _ _ => none) rt uf sc K V) {idx : Nat} {f : Int32} {l : Int32} {a : Nat} {b : Nat} (hd : decode c pc = .ok (.invokevirtual idx, 3)) (hp : pc + 3 = pc2) (hc : cs idx = some (1, 10, 3, 0, S_X11_energyOf)) (h8 : Nat.ble (r.map Value.category).sum 8 = true) (hp0 : f = nI a) (hp1 : l = nI b) (hp2 : a ≤ b + 1) (hp3 : b < 256) (kk0 : V pc2 L ((.long (gL (gk_eI (gr x 196) a (b + 1 - a)))) :: r) 202 gk_fT x y u) : V pc L (.int l :: .int f :: .ref 189 :: r) 202 gk_fT x y u :=
  g_callv w hd hp hc (as := [.ref 189, .int f, .int l]) rfl h8 rfl rfl rfl (Or.inr (Or.inl ⟨Or.inl rfl, _, _, rfl, (gk_kd_j rfl rfl), rfl⟩)) (Or.inl rfl) ⟨f, l, a, b, rfl, ⟨rfl, rfl⟩, hp0, hp1, hp2, hp3, kk0⟩
def L_X11_energyOf : List (Nat × gk_M0) := []
def cs_X11_energyOf : Nat → Option gk_M0 := gk_lk L_X11_energyOf
theorem m_X11_energyOf : ∀ (as : List Value) (n : Nat) (fl : gk_F) (x : gk_X) (y : gk_Y) (K : gk_K), S_X11_energyOf as n fl x y K → (gk_L0 as).length ≤ 6 ∧ ∀ V : gk_V, gk_W cX11_energyOf pX11 cs_X11_energyOf (fun _ _ => none) (some .long) 0 none K V → V 0 (gk_en as 6) [] n fl x y 0 := by
  intro as n fl x y K hS
  obtain ⟨f, l, a, b, rfl, ⟨rfl, rfl⟩, hp0, hp1, hp2, hp3, q0⟩ := hS
  refine ⟨Nat.le_of_ble_eq_true rfl, fun V w => ?_⟩
  show V 0 [some (.ref 189), some (.int f), some (.int l), none, none, none] [] 202 gk_fT x y 0
  subst hp0 hp1
  have key : ∀ (k n : Nat), a + n + k = b + 1 → V 5 [some (.ref 189), some (.int (nI a)), some (.int (nI b)), some (.long (gL (gk_eI (gr x 196) a n))), none, some (.int (nI (a + n)))] [] 202 gk_fT x y 0 := by
    intro k
    induction k with
    | zero =>
      intro n ht
      obtain rfl : n = b + 1 - a := by omega
      refine s_iload (pc2 := 7) w dX11_energyOf_5 rfl rfl ?_
      refine s_iload_n (pc2 := 8) w dX11_energyOf_7 rfl rfl ?_
      refine s_ic_gt (pc2 := 11) (tgt := 37) w dX11_energyOf_8 rfl (by decide) (fun _ => ?_) (fun h0 => absurd (by rw [gI_nI, gI_nI, gI_lt ⟨by omega, by omega⟩ ⟨by omega, by omega⟩]; omega) h0)
      refine s_lload_n (pc2 := 38) w dX11_energyOf_37 rfl rfl ?_
      refine s_lreturn w dX11_energyOf_38 rfl ?_
      exact q0
    | succ k ih =>
      intro n ht
      refine s_iload (pc2 := 7) w dX11_energyOf_5 rfl rfl ?_
      refine s_iload_n (pc2 := 8) w dX11_energyOf_7 rfl rfl ?_
      refine s_ic_gt (pc2 := 11) (tgt := 37) w dX11_energyOf_8 rfl (by decide) (fun h0 => absurd h0 (by rw [gI_nI, gI_nI, gI_lt ⟨by omega, by omega⟩ ⟨by omega, by omega⟩]; omega)) (fun _ => ?_)
      refine s_lload_n (pc2 := 12) w dX11_energyOf_11 rfl rfl ?_
      refine s_aload_n (pc2 := 13) w dX11_energyOf_12 rfl rfl ?_
      refine m_getR (pc2 := 16) (ci := 10) (k := 7) (j2 := 196) w dX11_energyOf_13 rfl rfl rfl rfl rfl rfl ?_
      refine s_iload (pc2 := 18) w dX11_energyOf_16 rfl rfl ?_
      refine m_ialoadN (pc2 := 19) (t := a + n) (N := 256) w dX11_energyOf_18 rfl rfl rfl rfl (by omega) rfl ?_
      refine s_i2l (pc2 := 20) w dX11_energyOf_19 rfl ?_
      refine s_aload_n (pc2 := 21) w dX11_energyOf_20 rfl rfl ?_
      refine m_getR (pc2 := 24) (ci := 10) (k := 7) (j2 := 196) w dX11_energyOf_21 rfl rfl rfl rfl rfl rfl ?_
      refine s_iload (pc2 := 26) w dX11_energyOf_24 rfl rfl ?_
      refine m_ialoadN (pc2 := 27) (t := a + n) (N := 256) w dX11_energyOf_26 rfl rfl rfl rfl (by omega) rfl ?_
      refine s_i2l (pc2 := 28) w dX11_energyOf_27 rfl ?_
      refine s_lmul (pc2 := 29) w dX11_energyOf_28 rfl ?_
      refine s_ladd (pc2 := 30) w dX11_energyOf_29 rfl ?_
      rw [gI64, gL_mul, gL_add]
      refine s_lstore_n (pc2 := 31) (k2 := 3) w dX11_energyOf_30 rfl rfl rfl ?_
      dsimp only [gk_s1, gk_s2, gk_cl]
      refine s_iinc (pc2 := 34) w dX11_energyOf_31 rfl rfl rfl rfl ?_
      dsimp only [gk_s1, gk_s2, gk_cl]
      rw [nI_s]
      refine s_goto (tgt := 5) w dX11_energyOf_34 (by decide) ?_
      exact ih (n + 1) (by omega)
  refine s_lconst (pc2 := 1) (v := gL 0) w dX11_energyOf_0 rfl rfl ?_
  refine s_lstore_n (pc2 := 2) (k2 := 3) w dX11_energyOf_1 rfl rfl rfl ?_
  dsimp only [gk_s1, gk_s2, gk_cl]
  refine s_iload_n (pc2 := 3) w dX11_energyOf_2 rfl rfl ?_
  refine s_istore (pc2 := 5) w dX11_energyOf_3 rfl rfl ?_
  dsimp only [gk_s1, gk_s2, gk_cl]
  exact key (b + 1 - a) 0 (by omega)
theorem lk_X11_energyOf {l : Launch} (hl : l.stackTraces = false) : ∀ q ∈ L_X11_energyOf, (q.2.1 < 5 → gk_Lk l RX11 gk_W1 0 q.1 q.2.1 q.2.2.1 q.2.2.2.1 q.2.2.2.2.1 q.2.2.2.2.2) := (fun _ h => absurd h List.not_mem_nil)
theorem sp_X11_energyOf : ∀ q ∈ L_X11_energyOf, gk_Sq RX11 gk_W1 0 q := (fun _ h => absurd h List.not_mem_nil)
theorem M_X11_energyOf {l : Launch} (hl : l.stackTraces = false) : gk_Mt l yX11_energyOf (.code yX11_energyOf cX11_energyOf 6 (some .long) :: gk_W1) 0 0 S_X11_energyOf := gk_meth hl gk_cw_ok (by decide +kernel) rfl m_X11_energyOf pX11_ok (gk_Sp_of sp_X11_energyOf) pX11_st (fun ci m S h => absurd h (by intro h; cases h)) (xf_X11 0) (fun idx kd ci mm cost S2 h h5 => lk_X11_energyOf hl _ (gk_lk_mem h) h5)

def S_X11_peakOf : gk_S := fun as n fl x y K => ∃ (f : Int32) (l : Int32) (a : Nat) (b : Nat), as = [.ref 189, .int f, .int l] ∧ (n = 202 ∧ fl = gk_fT) ∧ (f = nI a) ∧ (l = nI b) ∧ (a ≤ b + 1) ∧ (b < 256) ∧ (K (.inl (some (.int (gk_pk (x 196) a (b + 1 - a))))) n fl x y)
theorem r_X11_peakOf (w : gk_W c P cs (fun _ _ => none) rt uf sc K V) {idx : Nat} {f : Int32} {l : Int32} {a : Nat} {b : Nat} (hd : decode c pc = .ok (.invokevirtual idx, 3)) (hp : pc + 3 = pc2) (hc : cs idx = some (1, 10, 3, 0, S_X11_peakOf)) (h8 : Nat.ble (r.map Value.category).sum 8 = true) (hp0 : f = nI a) (hp1 : l = nI b) (hp2 : a ≤ b + 1) (hp3 : b < 256) (kk0 : V pc2 L ((.int (gk_pk (x 196) a (b + 1 - a))) :: r) 202 gk_fT x y u) : V pc L (.int l :: .int f :: .ref 189 :: r) 202 gk_fT x y u :=
  g_callv w hd hp hc (as := [.ref 189, .int f, .int l]) rfl h8 rfl rfl rfl (Or.inr (Or.inl ⟨Or.inl rfl, _, _, rfl, (gk_kd_j rfl rfl), rfl⟩)) (Or.inl rfl) ⟨f, l, a, b, rfl, ⟨rfl, rfl⟩, hp0, hp1, hp2, hp3, kk0⟩
def L_X11_peakOf : List (Nat × gk_M0) := [(147, (7, 0, 0, 0, fun _ _ _ _ _ _ => False)), (178, (5, 0, 0, 0, fun _ _ _ _ _ _ => False))]
def cs_X11_peakOf : Nat → Option gk_M0 := gk_lk L_X11_peakOf
theorem m_X11_peakOf : ∀ (as : List Value) (n : Nat) (fl : gk_F) (x : gk_X) (y : gk_Y) (K : gk_K), S_X11_peakOf as n fl x y K → (gk_L0 as).length ≤ 5 ∧ ∀ V : gk_V, gk_W cX11_peakOf pX11 cs_X11_peakOf (fun _ _ => none) (some .int) 0 none K V → V 0 (gk_en as 5) [] n fl x y 0 := by
  intro as n fl x y K hS
  obtain ⟨f, l, a, b, rfl, ⟨rfl, rfl⟩, hp0, hp1, hp2, hp3, q0⟩ := hS
  refine ⟨Nat.le_of_ble_eq_true rfl, fun V w => ?_⟩
  show V 0 [some (.ref 189), some (.int f), some (.int l), none, none] [] 202 gk_fT x y 0
  subst hp0 hp1
  have key : ∀ (k n : Nat), a + n + k = b + 1 → V 5 [some (.ref 189), some (.int (nI a)), some (.int (nI b)), some (.int (gk_pk (x 196) a n)), some (.int (nI (a + n)))] [] 202 gk_fT x y 0 := by
    intro k
    induction k with
    | zero =>
      intro n ht
      obtain rfl : n = b + 1 - a := by omega
      refine s_iload (pc2 := 7) w dX11_peakOf_5 rfl rfl ?_
      refine s_iload_n (pc2 := 8) w dX11_peakOf_7 rfl rfl ?_
      refine s_ic_gt (pc2 := 11) (tgt := 32) w dX11_peakOf_8 rfl (by decide) (fun _ => ?_) (fun h0 => absurd (by rw [gI_nI, gI_nI, gI_lt ⟨by omega, by omega⟩ ⟨by omega, by omega⟩]; omega) h0)
      refine s_iload_n (pc2 := 33) w dX11_peakOf_32 rfl rfl ?_
      refine s_ireturn w dX11_peakOf_33 rfl rfl ?_
      exact q0
    | succ k ih =>
      intro n ht
      refine s_iload (pc2 := 7) w dX11_peakOf_5 rfl rfl ?_
      refine s_iload_n (pc2 := 8) w dX11_peakOf_7 rfl rfl ?_
      refine s_ic_gt (pc2 := 11) (tgt := 32) w dX11_peakOf_8 rfl (by decide) (fun h0 => absurd h0 (by rw [gI_nI, gI_nI, gI_lt ⟨by omega, by omega⟩ ⟨by omega, by omega⟩]; omega)) (fun _ => ?_)
      refine s_iload_n (pc2 := 12) w dX11_peakOf_11 rfl rfl ?_
      refine s_aload_n (pc2 := 13) w dX11_peakOf_12 rfl rfl ?_
      refine m_getR (pc2 := 16) (ci := 10) (k := 7) (j2 := 196) w dX11_peakOf_13 rfl rfl rfl rfl rfl rfl ?_
      refine s_iload (pc2 := 18) w dX11_peakOf_16 rfl rfl ?_
      refine m_ialoadN (pc2 := 19) (t := a + n) (N := 256) w dX11_peakOf_18 rfl rfl rfl rfl (by omega) rfl ?_
      refine s_abs (pc2 := 22) w dX11_peakOf_19 rfl rfl rfl ?_
      refine s_max (pc2 := 25) w dX11_peakOf_22 rfl rfl rfl ?_
      refine s_istore_n (pc2 := 26) (k2 := 3) w dX11_peakOf_25 rfl rfl rfl ?_
      dsimp only [gk_s1, gk_s2, gk_cl]
      refine s_iinc (pc2 := 29) w dX11_peakOf_26 rfl rfl rfl rfl ?_
      dsimp only [gk_s1, gk_s2, gk_cl]
      rw [nI_s]
      refine s_goto (tgt := 5) w dX11_peakOf_29 (by decide) ?_
      exact ih (n + 1) (by omega)
  refine s_iconst (pc2 := 1) (v := 0) w dX11_peakOf_0 rfl rfl ?_
  refine s_istore_n (pc2 := 2) (k2 := 3) w dX11_peakOf_1 rfl rfl rfl ?_
  dsimp only [gk_s1, gk_s2, gk_cl]
  refine s_iload_n (pc2 := 3) w dX11_peakOf_2 rfl rfl ?_
  refine s_istore (pc2 := 5) w dX11_peakOf_3 rfl rfl ?_
  dsimp only [gk_s1, gk_s2, gk_cl]
  exact key (b + 1 - a) 0 (by omega)
theorem lk_X11_peakOf {l : Launch} (hl : l.stackTraces = false) : ∀ q ∈ L_X11_peakOf, (q.2.1 < 5 → gk_Lk l RX11 gk_W1 1 q.1 q.2.1 q.2.2.1 q.2.2.2.1 q.2.2.2.2.1 q.2.2.2.2.2) := (List.forall_mem_cons.mpr ⟨(fun h => absurd h (by decide)), (List.forall_mem_cons.mpr ⟨(fun h => absurd h (by decide)), (fun _ h => absurd h List.not_mem_nil)⟩)⟩)
theorem sp_X11_peakOf : ∀ q ∈ L_X11_peakOf, gk_Sq RX11 gk_W1 1 q := (List.forall_mem_cons.mpr ⟨⟨fun h => absurd h (by decide), fun h => absurd h (by decide), fun _ => ⟨by decide, gk_wm 1486 (by decide +kernel), (gk_wm 960 (by decide +kernel)), (gk_wm 107 (by decide +kernel)), gk_wm 961 (by decide +kernel)⟩, fun h => absurd h (by decide), fun h => absurd h (by decide), fun h => absurd h (by decide)⟩, (List.forall_mem_cons.mpr ⟨⟨fun _ => ⟨by decide, gk_wm 1542 (by decide +kernel), (gk_wm 990 (by decide +kernel)), (gk_wm 107 (by decide +kernel)), gk_wm 991 (by decide +kernel)⟩, fun h => absurd h (by decide), fun h => absurd h (by decide), fun h => absurd h (by decide), fun h => absurd h (by decide), fun h => absurd h (by decide)⟩, (fun _ h => absurd h List.not_mem_nil)⟩)⟩)
theorem M_X11_peakOf {l : Launch} (hl : l.stackTraces = false) : gk_Mt l yX11_peakOf (.code yX11_peakOf cX11_peakOf 5 (some .int) :: gk_W1) 1 0 S_X11_peakOf := gk_meth hl gk_cw_ok (by decide +kernel) rfl m_X11_peakOf pX11_ok (gk_Sp_of sp_X11_peakOf) pX11_st (fun ci m S h => absurd h (by intro h; cases h)) (xf_X11 1) (fun idx kd ci mm cost S2 h h5 => lk_X11_peakOf hl _ (gk_lk_mem h) h5)

def S_X11_signOf : gk_S := fun as n fl x y K => ∃ (v : Int32), as = [.int v] ∧ (n = 202 ∧ fl = gk_fT) ∧ (K (.inl (some (.int (gk_sg v)))) n fl x y)
theorem r_X11_signOf (w : gk_W c P cs (fun _ _ => none) rt uf sc K V) {idx : Nat} {v : Int32} (hd : decode c pc = .ok (.invokestatic idx, 3)) (hp : pc + 3 = pc2) (hc : cs idx = some (0, 10, 1, 0, S_X11_signOf)) (h8 : Nat.ble (r.map Value.category).sum 8 = true) (kk0 : V pc2 L ((.int (gk_sg v)) :: r) 202 gk_fT x y u) : V pc L (.int v :: r) 202 gk_fT x y u :=
  g_calls w hd hp hc (as := [.int v]) rfl h8 rfl rfl rfl (Or.inl rfl) (Or.inl rfl) ⟨v, rfl, ⟨rfl, rfl⟩, kk0⟩
def L_X11_signOf : List (Nat × gk_M0) := []
def cs_X11_signOf : Nat → Option gk_M0 := gk_lk L_X11_signOf
theorem m_X11_signOf : ∀ (as : List Value) (n : Nat) (fl : gk_F) (x : gk_X) (y : gk_Y) (K : gk_K), S_X11_signOf as n fl x y K → (gk_L0 as).length ≤ 1 ∧ ∀ V : gk_V, gk_W cX11_signOf pX11 cs_X11_signOf (fun _ _ => none) (some .int) 0 none K V → V 0 (gk_en as 1) [] n fl x y 0 := by
  intro as n fl x y K hS
  obtain ⟨v, rfl, ⟨rfl, rfl⟩, q0⟩ := hS
  refine ⟨Nat.le_of_ble_eq_true rfl, fun V w => ?_⟩
  show V 0 [some (.int v)] [] 202 gk_fT x y 0
  refine s_iload_n (pc2 := 1) w dX11_signOf_0 rfl rfl ?_
  refine s_if_le (pc2 := 4) (tgt := 8) w dX11_signOf_1 rfl (by decide) (fun c1 => ?_) (fun c1 => ?_)
  · refine s_iload_n (pc2 := 9) w dX11_signOf_8 rfl rfl ?_
    refine s_if_ge (pc2 := 12) (tgt := 16) w dX11_signOf_9 rfl (by decide) (fun c9 => ?_) (fun c9 => ?_)
    · refine s_iconst (pc2 := 17) (v := 0) w dX11_signOf_16 rfl rfl ?_
      refine s_ireturn w dX11_signOf_17 rfl rfl ?_
      rw [show gk_sg v = 0 by unfold gk_sg; rw [if_pos (Int32.le_antisymm c1 c9)]] at q0
      exact q0
    · refine s_iconst (pc2 := 13) (v := (-1)) w dX11_signOf_12 rfl rfl ?_
      refine s_goto (tgt := 17) w dX11_signOf_13 (by decide) ?_
      refine s_ireturn w dX11_signOf_17 rfl rfl ?_
      have hv : v < 0 := g_nle.mp c9
      rw [show gk_sg v = -1 by unfold gk_sg; rw [if_neg (fun h => by rw [h] at hv; exact absurd hv (by decide)), if_pos hv]] at q0
      exact q0
  · refine s_iconst (pc2 := 5) (v := 1) w dX11_signOf_4 rfl rfl ?_
    refine s_goto (tgt := 17) w dX11_signOf_5 (by decide) ?_
    refine s_ireturn w dX11_signOf_17 rfl rfl ?_
    have hv : 0 < v := g_nle.mp c1
    rw [show gk_sg v = 1 by unfold gk_sg; rw [if_neg (fun h => by rw [h] at hv; exact absurd hv (by decide)), if_neg (fun h => Int32.lt_irrefl (Int32.lt_trans hv h))]] at q0
    exact q0
theorem lk_X11_signOf {l : Launch} (hl : l.stackTraces = false) : ∀ q ∈ L_X11_signOf, (q.2.1 < 5 → gk_Lk l RX11 gk_W1 0 q.1 q.2.1 q.2.2.1 q.2.2.2.1 q.2.2.2.2.1 q.2.2.2.2.2) := (fun _ h => absurd h List.not_mem_nil)
theorem sp_X11_signOf : ∀ q ∈ L_X11_signOf, gk_Sq RX11 gk_W1 0 q := (fun _ h => absurd h List.not_mem_nil)
theorem M_X11_signOf {l : Launch} (hl : l.stackTraces = false) : gk_Mt l yX11_signOf (.code yX11_signOf cX11_signOf 1 (some .int) :: gk_W1) 0 0 S_X11_signOf := gk_meth hl gk_cw_ok (by decide +kernel) rfl m_X11_signOf pX11_ok (gk_Sp_of sp_X11_signOf) pX11_st (fun ci m S h => absurd h (by intro h; cases h)) (xf_X11 0) (fun idx kd ci mm cost S2 h h5 => lk_X11_signOf hl _ (gk_lk_mem h) h5)

def S_X11_sumOf : gk_S := fun as n fl x y K => ∃ (f : Int32) (l : Int32) (a : Nat) (b : Nat), as = [.ref 189, .int f, .int l] ∧ (n = 202 ∧ fl = gk_fT) ∧ (f = nI a) ∧ (l = nI b) ∧ (a ≤ b + 1) ∧ (b < 256) ∧ (K (.inl (some (.long (gL (gk_fd (gr x 196) a 1 0 (b + 1 - a)))))) n fl x y)
theorem r_X11_sumOf (w : gk_W c P cs (fun _ _ => none) rt uf sc K V) {idx : Nat} {f : Int32} {l : Int32} {a : Nat} {b : Nat} (hd : decode c pc = .ok (.invokevirtual idx, 3)) (hp : pc + 3 = pc2) (hc : cs idx = some (1, 10, 3, 0, S_X11_sumOf)) (h8 : Nat.ble (r.map Value.category).sum 8 = true) (hp0 : f = nI a) (hp1 : l = nI b) (hp2 : a ≤ b + 1) (hp3 : b < 256) (kk0 : V pc2 L ((.long (gL (gk_fd (gr x 196) a 1 0 (b + 1 - a)))) :: r) 202 gk_fT x y u) : V pc L (.int l :: .int f :: .ref 189 :: r) 202 gk_fT x y u :=
  g_callv w hd hp hc (as := [.ref 189, .int f, .int l]) rfl h8 rfl rfl rfl (Or.inr (Or.inl ⟨Or.inl rfl, _, _, rfl, (gk_kd_j rfl rfl), rfl⟩)) (Or.inl rfl) ⟨f, l, a, b, rfl, ⟨rfl, rfl⟩, hp0, hp1, hp2, hp3, kk0⟩
def L_X11_sumOf : List (Nat × gk_M0) := []
def cs_X11_sumOf : Nat → Option gk_M0 := gk_lk L_X11_sumOf
theorem m_X11_sumOf : ∀ (as : List Value) (n : Nat) (fl : gk_F) (x : gk_X) (y : gk_Y) (K : gk_K), S_X11_sumOf as n fl x y K → (gk_L0 as).length ≤ 6 ∧ ∀ V : gk_V, gk_W cX11_sumOf pX11 cs_X11_sumOf (fun _ _ => none) (some .long) 0 none K V → V 0 (gk_en as 6) [] n fl x y 0 := by
  intro as n fl x y K hS
  obtain ⟨f, l, a, b, rfl, ⟨rfl, rfl⟩, hp0, hp1, hp2, hp3, q0⟩ := hS
  refine ⟨Nat.le_of_ble_eq_true rfl, fun V w => ?_⟩
  show V 0 [some (.ref 189), some (.int f), some (.int l), none, none, none] [] 202 gk_fT x y 0
  subst hp0 hp1
  have key : ∀ (k n : Nat), a + n + k = b + 1 → V 5 [some (.ref 189), some (.int (nI a)), some (.int (nI b)), some (.long (gL (gk_fd (gr x 196) a 1 0 n))), none, some (.int (nI (a + n)))] [] 202 gk_fT x y 0 := by
    intro k
    induction k with
    | zero =>
      intro n ht
      obtain rfl : n = b + 1 - a := by omega
      refine s_iload (pc2 := 7) w dX11_sumOf_5 rfl rfl ?_
      refine s_iload_n (pc2 := 8) w dX11_sumOf_7 rfl rfl ?_
      refine s_ic_gt (pc2 := 11) (tgt := 28) w dX11_sumOf_8 rfl (by decide) (fun _ => ?_) (fun h0 => absurd (by rw [gI_nI, gI_nI, gI_lt ⟨by omega, by omega⟩ ⟨by omega, by omega⟩]; omega) h0)
      refine s_lload_n (pc2 := 29) w dX11_sumOf_28 rfl rfl ?_
      refine s_lreturn w dX11_sumOf_29 rfl ?_
      exact q0
    | succ k ih =>
      intro n ht
      refine s_iload (pc2 := 7) w dX11_sumOf_5 rfl rfl ?_
      refine s_iload_n (pc2 := 8) w dX11_sumOf_7 rfl rfl ?_
      refine s_ic_gt (pc2 := 11) (tgt := 28) w dX11_sumOf_8 rfl (by decide) (fun h0 => absurd h0 (by rw [gI_nI, gI_nI, gI_lt ⟨by omega, by omega⟩ ⟨by omega, by omega⟩]; omega)) (fun _ => ?_)
      refine s_lload_n (pc2 := 12) w dX11_sumOf_11 rfl rfl ?_
      refine s_aload_n (pc2 := 13) w dX11_sumOf_12 rfl rfl ?_
      refine m_getR (pc2 := 16) (ci := 10) (k := 7) (j2 := 196) w dX11_sumOf_13 rfl rfl rfl rfl rfl rfl ?_
      refine s_iload (pc2 := 18) w dX11_sumOf_16 rfl rfl ?_
      refine m_ialoadN (pc2 := 19) (t := a + n) (N := 256) w dX11_sumOf_18 rfl rfl rfl rfl (by omega) rfl ?_
      refine s_i2l (pc2 := 20) w dX11_sumOf_19 rfl ?_
      refine s_ladd (pc2 := 21) w dX11_sumOf_20 rfl ?_
      rw [gI64, gL_add]
      refine s_lstore_n (pc2 := 22) (k2 := 3) w dX11_sumOf_21 rfl rfl rfl ?_
      dsimp only [gk_s1, gk_s2, gk_cl]
      refine s_iinc (pc2 := 25) w dX11_sumOf_22 rfl rfl rfl rfl ?_
      dsimp only [gk_s1, gk_s2, gk_cl]
      rw [nI_s]
      refine s_goto (tgt := 5) w dX11_sumOf_25 (by decide) ?_
      have h := ih (n + 1) (by omega)
      rw [gk_fd_1] at h
      exact h
  refine s_lconst (pc2 := 1) (v := gL 0) w dX11_sumOf_0 rfl rfl ?_
  refine s_lstore_n (pc2 := 2) (k2 := 3) w dX11_sumOf_1 rfl rfl rfl ?_
  dsimp only [gk_s1, gk_s2, gk_cl]
  refine s_iload_n (pc2 := 3) w dX11_sumOf_2 rfl rfl ?_
  refine s_istore (pc2 := 5) w dX11_sumOf_3 rfl rfl ?_
  dsimp only [gk_s1, gk_s2, gk_cl]
  exact key (b + 1 - a) 0 (by omega)
theorem lk_X11_sumOf {l : Launch} (hl : l.stackTraces = false) : ∀ q ∈ L_X11_sumOf, (q.2.1 < 5 → gk_Lk l RX11 gk_W1 0 q.1 q.2.1 q.2.2.1 q.2.2.2.1 q.2.2.2.2.1 q.2.2.2.2.2) := (fun _ h => absurd h List.not_mem_nil)
theorem sp_X11_sumOf : ∀ q ∈ L_X11_sumOf, gk_Sq RX11 gk_W1 0 q := (fun _ h => absurd h List.not_mem_nil)
theorem M_X11_sumOf {l : Launch} (hl : l.stackTraces = false) : gk_Mt l yX11_sumOf (.code yX11_sumOf cX11_sumOf 6 (some .long) :: gk_W1) 0 0 S_X11_sumOf := gk_meth hl gk_cw_ok (by decide +kernel) rfl m_X11_sumOf pX11_ok (gk_Sp_of sp_X11_sumOf) pX11_st (fun ci m S h => absurd h (by intro h; cases h)) (xf_X11 0) (fun idx kd ci mm cost S2 h h5 => lk_X11_sumOf hl _ (gk_lk_mem h) h5)

def S_X11_crossingsOf : gk_S := fun as n fl x y K => ∃ (f : Int32) (l : Int32) (a : Nat) (b : Nat), as = [.ref 189, .int f, .int l] ∧ (n = 202 ∧ fl = gk_fT) ∧ (f = nI a) ∧ (l = nI b) ∧ (a ≤ b) ∧ (b < 256) ∧ (K (.inl (some (.int (nI (gk_cx (x 196) a (b - a)))))) n fl x y)
theorem r_X11_crossingsOf (w : gk_W c P cs (fun _ _ => none) rt uf sc K V) {idx : Nat} {f : Int32} {l : Int32} {a : Nat} {b : Nat} (hd : decode c pc = .ok (.invokevirtual idx, 3)) (hp : pc + 3 = pc2) (hc : cs idx = some (1, 10, 3, 0, S_X11_crossingsOf)) (h8 : Nat.ble (r.map Value.category).sum 8 = true) (hp0 : f = nI a) (hp1 : l = nI b) (hp2 : a ≤ b) (hp3 : b < 256) (kk0 : V pc2 L ((.int (nI (gk_cx (x 196) a (b - a)))) :: r) 202 gk_fT x y u) : V pc L (.int l :: .int f :: .ref 189 :: r) 202 gk_fT x y u :=
  g_callv w hd hp hc (as := [.ref 189, .int f, .int l]) rfl h8 rfl rfl rfl (Or.inr (Or.inl ⟨Or.inl rfl, _, _, rfl, (gk_kd_j rfl rfl), rfl⟩)) (Or.inl rfl) ⟨f, l, a, b, rfl, ⟨rfl, rfl⟩, hp0, hp1, hp2, hp3, kk0⟩
def L_X11_crossingsOf : List (Nat × gk_M0) := [(181, (0, 10, 1, 0, S_X11_signOf))]
def cs_X11_crossingsOf : Nat → Option gk_M0 := gk_lk L_X11_crossingsOf
theorem m_X11_crossingsOf : ∀ (as : List Value) (n : Nat) (fl : gk_F) (x : gk_X) (y : gk_Y) (K : gk_K), S_X11_crossingsOf as n fl x y K → (gk_L0 as).length ≤ 5 ∧ ∀ V : gk_V, gk_W cX11_crossingsOf pX11 cs_X11_crossingsOf (fun _ _ => none) (some .int) 0 none K V → V 0 (gk_en as 5) [] n fl x y 0 := by
  intro as n fl x y K hS
  obtain ⟨f, l, a, b, rfl, ⟨rfl, rfl⟩, hp0, hp1, hp2, hp3, q0⟩ := hS
  refine ⟨Nat.le_of_ble_eq_true rfl, fun V w => ?_⟩
  show V 0 [some (.ref 189), some (.int f), some (.int l), none, none] [] 202 gk_fT x y 0
  subst hp0 hp1
  have key : ∀ (k n : Nat), a + 1 + n + k = b + 1 → V 7 [some (.ref 189), some (.int (nI a)), some (.int (nI b)), some (.int (nI (gk_cx (x 196) a n))), some (.int (nI (a + 1 + n)))] [] 202 gk_fT x y 0 := by
    intro k
    induction k with
    | zero =>
      intro n ht
      obtain rfl : n = b - a := by omega
      refine s_iload (pc2 := 9) w dX11_crossingsOf_7 rfl rfl ?_
      refine s_iload_n (pc2 := 10) w dX11_crossingsOf_9 rfl rfl ?_
      refine s_ic_gt (pc2 := 13) (tgt := 52) w dX11_crossingsOf_10 rfl (by decide) (fun _ => ?_) (fun h0 => absurd (by rw [gI_nI, gI_nI, gI_lt ⟨by omega, by omega⟩ ⟨by omega, by omega⟩]; omega) h0)
      refine s_iload_n (pc2 := 53) w dX11_crossingsOf_52 rfl rfl ?_
      refine s_ireturn w dX11_crossingsOf_53 rfl rfl ?_
      exact q0
    | succ k ih =>
      intro n ht
      refine s_iload (pc2 := 9) w dX11_crossingsOf_7 rfl rfl ?_
      refine s_iload_n (pc2 := 10) w dX11_crossingsOf_9 rfl rfl ?_
      refine s_ic_gt (pc2 := 13) (tgt := 52) w dX11_crossingsOf_10 rfl (by decide) (fun h0 => absurd h0 (by rw [gI_nI, gI_nI, gI_lt ⟨by omega, by omega⟩ ⟨by omega, by omega⟩]; omega)) (fun _ => ?_)
      refine s_iload_n (pc2 := 14) w dX11_crossingsOf_13 rfl rfl ?_
      refine s_aload_n (pc2 := 15) w dX11_crossingsOf_14 rfl rfl ?_
      refine m_getR (pc2 := 18) (ci := 10) (k := 7) (j2 := 196) w dX11_crossingsOf_15 rfl rfl rfl rfl rfl rfl ?_
      refine s_iload (pc2 := 20) w dX11_crossingsOf_18 rfl rfl ?_
      refine m_ialoadN (pc2 := 21) (t := a + 1 + n) (N := 256) w dX11_crossingsOf_20 rfl rfl rfl rfl (by omega) rfl ?_
      refine r_X11_signOf (pc2 := 24) w dX11_crossingsOf_21 rfl rfl rfl ?_
      refine s_aload_n (pc2 := 25) w dX11_crossingsOf_24 rfl rfl ?_
      refine m_getR (pc2 := 28) (ci := 10) (k := 7) (j2 := 196) w dX11_crossingsOf_25 rfl rfl rfl rfl rfl rfl ?_
      refine s_iload (pc2 := 30) w dX11_crossingsOf_28 rfl rfl ?_
      refine s_iconst (pc2 := 31) (v := gI 1) w dX11_crossingsOf_30 rfl rfl ?_
      refine s_isub (pc2 := 32) w dX11_crossingsOf_31 rfl ?_
      refine m_ialoadN (pc2 := 33) (t := a + n) (N := 256) w dX11_crossingsOf_32 rfl rfl rfl (by simp only [gI_nI, gI_add, gI_mul, gI_sub, gI_inc]; exact congrArg gI (by omega)) (by omega) rfl ?_
      refine r_X11_signOf (pc2 := 36) w dX11_crossingsOf_33 rfl rfl rfl ?_
      refine s_ic_ne (pc2 := 39) (tgt := 43) w dX11_crossingsOf_36 rfl (by decide) (fun c36 => ?_) (fun c36 => ?_)
      · refine s_iconst (pc2 := 44) (v := gI 1) w dX11_crossingsOf_43 rfl rfl ?_
        refine s_iadd (pc2 := 45) w dX11_crossingsOf_44 rfl ?_
        refine s_istore_n (pc2 := 46) (k2 := 3) w dX11_crossingsOf_45 rfl rfl rfl ?_
        dsimp only [gk_s1, gk_s2, gk_cl]
        refine s_iinc (pc2 := 49) w dX11_crossingsOf_46 rfl rfl rfl rfl ?_
        dsimp only [gk_s1, gk_s2, gk_cl]
        rw [nI_s]
        refine s_goto (tgt := 7) w dX11_crossingsOf_49 (by decide) ?_
        have h := ih (n + 1) (by omega)
        rw [show gk_cx (x 196) a (n + 1) = gk_cx (x 196) a n + 1 from if_neg c36] at h
        rw [show nI (gk_cx (x 196) a n) + gI 1 = nI (gk_cx (x 196) a n + 1) from nI_s _]
        exact h
      · refine s_iconst (pc2 := 40) (v := gI 0) w dX11_crossingsOf_39 rfl rfl ?_
        refine s_goto (tgt := 44) w dX11_crossingsOf_40 (by decide) ?_
        refine s_iadd (pc2 := 45) w dX11_crossingsOf_44 rfl ?_
        refine s_istore_n (pc2 := 46) (k2 := 3) w dX11_crossingsOf_45 rfl rfl rfl ?_
        dsimp only [gk_s1, gk_s2, gk_cl]
        refine s_iinc (pc2 := 49) w dX11_crossingsOf_46 rfl rfl rfl rfl ?_
        dsimp only [gk_s1, gk_s2, gk_cl]
        rw [nI_s]
        refine s_goto (tgt := 7) w dX11_crossingsOf_49 (by decide) ?_
        have h := ih (n + 1) (by omega)
        rw [show gk_cx (x 196) a (n + 1) = gk_cx (x 196) a n from if_pos c36] at h
        rw [gI_nI (gk_cx _ _ _), gI_add, Int.add_zero]
        exact h
  refine s_iconst (pc2 := 1) (v := gI 0) w dX11_crossingsOf_0 rfl rfl ?_
  refine s_istore_n (pc2 := 2) (k2 := 3) w dX11_crossingsOf_1 rfl rfl rfl ?_
  dsimp only [gk_s1, gk_s2, gk_cl]
  refine s_iload_n (pc2 := 3) w dX11_crossingsOf_2 rfl rfl ?_
  refine s_iconst (pc2 := 4) (v := gI 1) w dX11_crossingsOf_3 rfl rfl ?_
  refine s_iadd (pc2 := 5) w dX11_crossingsOf_4 rfl ?_
  refine s_istore (pc2 := 7) w dX11_crossingsOf_5 rfl rfl ?_
  dsimp only [gk_s1, gk_s2, gk_cl]
  rw [show nI a + gI 1 = nI (a + 1) from gI_add a 1]
  exact key (b - a) 0 (by omega)
theorem lk_X11_crossingsOf {l : Launch} (hl : l.stackTraces = false) : ∀ q ∈ L_X11_crossingsOf, (q.2.1 < 5 → gk_Lk l RX11 gk_W1 1 q.1 q.2.1 q.2.2.1 q.2.2.2.1 q.2.2.2.2.1 q.2.2.2.2.2) := (List.forall_mem_cons.mpr ⟨(fun _ => ⟨yX11_signOf, cX11_signOf, 1, (some .int), 0, _, M_X11_signOf hl, ⟨by decide, by decide⟩, ⟨by decide, by decide, by decide +kernel⟩, ⟨(gk_wm 1556 (by decide +kernel)), (gk_wm 99 (by decide +kernel))⟩, Or.inl ⟨rfl, rfl, (gk_wm 1555 (by decide +kernel)), gk_wm 1554 (by decide +kernel)⟩⟩), (fun _ h => absurd h List.not_mem_nil)⟩)
theorem sp_X11_crossingsOf : ∀ q ∈ L_X11_crossingsOf, gk_Sq RX11 gk_W1 1 q := (List.forall_mem_cons.mpr ⟨⟨fun h => absurd h (by decide), fun h => absurd h (by decide), fun h => absurd h (by decide), fun h => absurd h (by decide), fun h => absurd h (by decide), fun h => absurd h (by decide)⟩, (fun _ h => absurd h List.not_mem_nil)⟩)
theorem M_X11_crossingsOf {l : Launch} (hl : l.stackTraces = false) : gk_Mt l yX11_crossingsOf (.code yX11_crossingsOf cX11_crossingsOf 5 (some .int) :: gk_W1) 1 0 S_X11_crossingsOf := gk_meth hl gk_cw_ok (by decide +kernel) rfl m_X11_crossingsOf pX11_ok (gk_Sp_of sp_X11_crossingsOf) pX11_st (fun ci m S h => absurd h (by intro h; cases h)) (xf_X11 1) (fun idx kd ci mm cost S2 h h5 => lk_X11_crossingsOf hl _ (gk_lk_mem h) h5)

end GKV

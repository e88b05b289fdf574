/-! THE METHODS, 12: measures of a row, 2 -/
section GKV
variable {c : ByteArray} {P : gk_C} {cs : Nat → Option gk_M0} {rt : Option FieldType} {uf : Nat} {sc : Option Nat} {K : gk_K} {V : gk_V}
variable {L : List (Option Value)} {r : List Value} {n : Nat} {fl : gk_F} {x : gk_X} {y : gk_Y} {u pc pc2 : Nat}
theorem gk_md {i p e q : Nat} (hi : i < p) (h0 : 0 < e) (he : e < p) : (i + e + q * p) % p ≠ i := by
  rw [Nat.add_mul_mod_self_right]
  rcases Nat.lt_or_ge (i + e) p with h | h
  · rw [Nat.mod_eq_of_lt h]; omega
  · rw [Nat.mod_eq_sub_mod h, Nat.mod_eq_of_lt (by omega)]; omega
theorem gk_fd_nx (r : Nat → Int) (a : Nat) {p i q : Nat} (hi : i < p) : gk_fd r a p i (i + (q + 1) * p) = gk_fd r a p i (i + q * p) + r (a + (i + q * p)) := by
  have e1 : gk_fd r a p i (i + (q + 1) * p) = gk_fd r a p i (i + q * p + 1) := gk_fd_sk r a p i _ _ (by rw [Nat.add_mul]; omega) (fun d h1 h2 => by
    obtain ⟨e, rfl⟩ : ∃ e, d = i + e + q * p := ⟨d - i - q * p, by omega⟩
    rw [Nat.add_mul] at h2
    exact gk_md hi (by omega) (by omega))
  rw [e1]
  refine if_pos ?_
  rw [Nat.add_mul_mod_self_right, Nat.mod_eq_of_lt hi]
theorem gk_fd_end (r : Nat → Int) (a : Nat) {p i q N : Nat} (hi : i < p) (h : N ≤ i + q * p) (h2 : q = 0 ∨ i + (q - 1) * p < N) : gk_fd r a p i (i + q * p) = gk_fd r a p i N := by
  refine gk_fd_sk r a p i _ _ h (fun d h3 h4 => ?_)
  rcases Nat.eq_zero_or_pos q with rfl | hq
  · rw [Nat.zero_mul, Nat.add_zero] at h4
    rw [Nat.mod_eq_of_lt (by omega)]; omega
  · obtain ⟨t, rfl⟩ : ∃ t, q = t + 1 := ⟨q - 1, by omega⟩
    rw [Nat.add_sub_cancel] at h2
    have h5 : i + t * p < N := by rcases h2 with h2 | h2 <;> omega
    rw [Nat.add_mul] at h4
    obtain ⟨e, rfl⟩ : ∃ e, d = i + e + t * p := ⟨d - i - t * p, by omega⟩
    exact gk_md hi (by omega) (by omega)
/-- a number's binary digits -/
def gk_bd : Nat → Int → Nat
  | 0, _ => 0
  | f + 1, e => if e ≤ 0 then 0 else gk_bd f (e / 2) + 1
theorem gk_bd_0 {e : Int} (h : e ≤ 0) : ∀ f, gk_bd f e = 0
  | 0 => rfl
  | _ + 1 => if_pos h
def S_X6_sumOf : gk_S := fun as n fl x y K => ∃ (j : Nat) (f : Int32) (l : Int32) (s : Int32) (a : Nat) (b : Nat) (p : Nat) (i : Nat), as = [.ref j, .int f, .int l, .int s] ∧ (n = 202 ∧ fl = gk_fT) ∧ gk_kd j = 20 ∧ (gk_ln j = 256) ∧ (f = nI (a + i)) ∧ (l = nI b) ∧ (s = nI p) ∧ (i < p) ∧ (p ≤ 256) ∧ (a ≤ 256) ∧ (b < 256) ∧ (K (.inl (some (.long (gL (gk_fd (gr x j) a p i (b + 1 - a)))))) n fl x y)
theorem r_X6_sumOf (w : gk_W c P cs (fun _ _ => none) rt uf sc K V) {idx : Nat} {j : Nat} {f : Int32} {l : Int32} {s : Int32} {a : Nat} {b : Nat} {p : Nat} {i : Nat} (hd : decode c pc = .ok (.invokestatic idx, 3)) (hp : pc + 3 = pc2) (hc : cs idx = some (0, 0, 4, 0, S_X6_sumOf)) (h8 : Nat.ble (r.map Value.category).sum 8 = true) (hk0 : gk_kd j = 20) (hp0 : gk_ln j = 256) (hp1 : f = nI (a + i)) (hp2 : l = nI b) (hp3 : s = nI p) (hp4 : i < p) (hp5 : p ≤ 256) (hp6 : a ≤ 256) (hp7 : b < 256) (kk0 : V pc2 L ((.long (gL (gk_fd (gr x j) a p i (b + 1 - a)))) :: r) 202 gk_fT x y u) : V pc L (.int s :: .int l :: .int f :: .ref j :: r) 202 gk_fT x y u :=
  g_calls w hd hp hc (as := [.ref j, .int f, .int l, .int s]) rfl h8 rfl rfl rfl (Or.inl rfl) (Or.inl rfl) ⟨j, f, l, s, a, b, p, i, rfl, ⟨rfl, rfl⟩, hk0, hp0, hp1, hp2, hp3, hp4, hp5, hp6, hp7, kk0⟩
def L_X6_sumOf : List (Nat × gk_M0) := []
def cs_X6_sumOf : Nat → Option gk_M0 := gk_lk L_X6_sumOf
theorem m_X6_sumOf : ∀ (as : List Value) (n : Nat) (fl : gk_F) (x : gk_X) (y : gk_Y) (K : gk_K), S_X6_sumOf as n fl x y K → (gk_L0 as).length ≤ 7 ∧ ∀ V : gk_V, gk_W cX6_sumOf pX6 cs_X6_sumOf (fun _ _ => none) (some .long) 0 none K V → V 0 (gk_en as 7) [] n fl x y 0 := by
  intro as n fl x y K hS
  obtain ⟨j, f, l, s, a, b, p, i, rfl, ⟨rfl, rfl⟩, hk0, hp0, hp1, hp2, hp3, hp4, hp5, hp6, hp7, q0⟩ := hS
  refine ⟨Nat.le_of_ble_eq_true rfl, fun V w => ?_⟩
  show V 0 [some (.ref j), some (.int f), some (.int l), some (.int s), none, none, none] [] 202 gk_fT x y 0
  subst hp1 hp2 hp3
  have key : ∀ (k q : Nat), b + 1 ≤ a + (i + q * p) + k → (q = 0 ∨ i + (q - 1) * p < b + 1 - a) → a + (i + q * p) ≤ 1000 → V 6 [some (.ref j), some (.int (nI (a + i))), some (.int (nI b)), some (.int (nI p)), some (.long (gL (gk_fd (gr x j) a p i (i + q * p)))), none, some (.int (nI (a + (i + q * p))))] [] 202 gk_fT x y 0 := by
    intro k
    induction k with
    | zero =>
      intro q h1 h2 h3
      refine s_iload (pc2 := 8) w dX6_sumOf_6 rfl rfl ?_
      refine s_iload_n (pc2 := 9) w dX6_sumOf_8 rfl rfl ?_
      refine s_ic_gt (pc2 := 12) (tgt := 31) w dX6_sumOf_9 rfl (by decide) (fun _ => ?_) (fun h0 => absurd (by rw [gI_nI, gI_nI, gI_lt ⟨by omega, by omega⟩ ⟨by omega, by omega⟩]; omega) h0)
      refine s_lload (pc2 := 33) w dX6_sumOf_31 rfl rfl ?_
      refine s_lreturn w dX6_sumOf_33 rfl ?_
      rw [gk_fd_end (gr x j) a hp4 (N := b + 1 - a) (by omega) h2]
      exact q0
    | succ k ih =>
      intro q h1 h2 h3
      by_cases hb : b < a + (i + q * p)
      · refine s_iload (pc2 := 8) w dX6_sumOf_6 rfl rfl ?_
        refine s_iload_n (pc2 := 9) w dX6_sumOf_8 rfl rfl ?_
        refine s_ic_gt (pc2 := 12) (tgt := 31) w dX6_sumOf_9 rfl (by decide) (fun _ => ?_) (fun h0 => absurd (by rw [gI_nI, gI_nI, gI_lt ⟨by omega, by omega⟩ ⟨by omega, by omega⟩]; omega) h0)
        refine s_lload (pc2 := 33) w dX6_sumOf_31 rfl rfl ?_
        refine s_lreturn w dX6_sumOf_33 rfl ?_
        rw [gk_fd_end (gr x j) a hp4 (N := b + 1 - a) (by omega) h2]
        exact q0
      · refine s_iload (pc2 := 8) w dX6_sumOf_6 rfl rfl ?_
        refine s_iload_n (pc2 := 9) w dX6_sumOf_8 rfl rfl ?_
        refine s_ic_gt (pc2 := 12) (tgt := 31) w dX6_sumOf_9 rfl (by decide) (fun h0 => absurd h0 (by rw [gI_nI, gI_nI, gI_lt ⟨by omega, by omega⟩ ⟨by omega, by omega⟩]; omega)) (fun _ => ?_)
        refine s_lload (pc2 := 14) w dX6_sumOf_12 rfl rfl ?_
        refine s_aload_n (pc2 := 15) w dX6_sumOf_14 rfl rfl ?_
        refine s_iload (pc2 := 17) w dX6_sumOf_15 rfl rfl ?_
        refine m_ialoadN (pc2 := 18) (t := a + (i + q * p)) w dX6_sumOf_17 rfl hk0 hp0 rfl (by omega) rfl ?_
        refine s_i2l (pc2 := 19) w dX6_sumOf_18 rfl ?_
        refine s_ladd (pc2 := 20) w dX6_sumOf_19 rfl ?_
        rw [gI64, gL_add]
        refine s_lstore (pc2 := 22) w dX6_sumOf_20 rfl rfl ?_
        dsimp only [gk_s1, gk_s2, gk_cl]
        refine s_iload (pc2 := 24) w dX6_sumOf_22 rfl rfl ?_
        refine s_iload_n (pc2 := 25) w dX6_sumOf_24 rfl rfl ?_
        refine s_iadd (pc2 := 26) w dX6_sumOf_25 rfl ?_
        rw [show nI (a + (i + q * p)) + nI p = nI (a + (i + (q + 1) * p)) by rw [Nat.succ_mul q p, gI_nI, gI_nI, gI_nI, gI_add]; exact congrArg gI (by omega)]
        refine s_istore (pc2 := 28) w dX6_sumOf_26 rfl rfl ?_
        dsimp only [gk_s1, gk_s2, gk_cl]
        refine s_goto (tgt := 6) w dX6_sumOf_28 (by decide) ?_
        have h := ih (q + 1) (by rw [Nat.add_mul]; omega) (Or.inr (by rw [Nat.add_sub_cancel]; omega)) (by rw [Nat.add_mul]; omega)
        rw [gk_fd_nx (gr x j) a hp4] at h
        exact h
  refine s_lconst (pc2 := 1) (v := gL 0) w dX6_sumOf_0 rfl rfl ?_
  refine s_lstore (pc2 := 3) w dX6_sumOf_1 rfl rfl ?_
  dsimp only [gk_s1, gk_s2, gk_cl]
  refine s_iload_n (pc2 := 4) w dX6_sumOf_3 rfl rfl ?_
  refine s_istore (pc2 := 6) w dX6_sumOf_4 rfl rfl ?_
  dsimp only [gk_s1, gk_s2, gk_cl]
  have h := key (b + 1) 0 (by omega) (Or.inl rfl) (by omega)
  rw [Nat.zero_mul, Nat.add_zero, gk_fd_sk (gr x j) a p i 0 i (Nat.zero_le _) (fun d _ h9 => by rw [Nat.mod_eq_of_lt (by omega)]; omega)] at h
  exact h
theorem lk_X6_sumOf {l : Launch} (hl : l.stackTraces = false) : ∀ q ∈ L_X6_sumOf, (q.2.1 < 5 → gk_Lk l RX6 gk_W1 0 q.1 q.2.1 q.2.2.1 q.2.2.2.1 q.2.2.2.2.1 q.2.2.2.2.2) := (fun _ h => absurd h List.not_mem_nil)
theorem sp_X6_sumOf : ∀ q ∈ L_X6_sumOf, gk_Sq RX6 gk_W1 0 q := (fun _ h => absurd h List.not_mem_nil)
theorem M_X6_sumOf {l : Launch} (hl : l.stackTraces = false) : gk_Mt l yX6_sumOf (.code yX6_sumOf cX6_sumOf 7 (some .long) :: gk_W1) 0 0 S_X6_sumOf := gk_meth hl gk_cw_ok (by decide +kernel) rfl m_X6_sumOf pX6_ok (gk_Sp_of sp_X6_sumOf) pX6_st (fun ci m S h => absurd h (by intro h; cases h)) (xf_X6 0) (fun idx kd ci mm cost S2 h h5 => lk_X6_sumOf hl _ (gk_lk_mem h) h5)

def S_X6_binaryDigits : gk_S := fun as n fl x y K => ∃ (v : Int64) (e : Int), as = [.long v] ∧ (n = 202 ∧ fl = gk_fT) ∧ (v = gL e) ∧ (0 ≤ e ∧ e ≤ 9223372036854775807) ∧ (K (.inl (some (.int (nI (gk_bd 63 e))))) n fl x y)
theorem r_X6_binaryDigits (w : gk_W c P cs (fun _ _ => none) rt uf sc K V) {idx : Nat} {v : Int64} {e : Int} (hd : decode c pc = .ok (.invokestatic idx, 3)) (hp : pc + 3 = pc2) (hc : cs idx = some (0, 0, 1, 0, S_X6_binaryDigits)) (h8 : Nat.ble (r.map Value.category).sum 8 = true) (hp0 : v = gL e) (hp1 : 0 ≤ e ∧ e ≤ 9223372036854775807) (kk0 : V pc2 L ((.int (nI (gk_bd 63 e))) :: r) 202 gk_fT x y u) : V pc L (.long v :: r) 202 gk_fT x y u :=
  g_calls w hd hp hc (as := [.long v]) rfl h8 rfl rfl rfl (Or.inl rfl) (Or.inl rfl) ⟨v, e, rfl, ⟨rfl, rfl⟩, hp0, hp1, kk0⟩
def L_X6_binaryDigits : List (Nat × gk_M0) := []
def cs_X6_binaryDigits : Nat → Option gk_M0 := gk_lk L_X6_binaryDigits
theorem m_X6_binaryDigits : ∀ (as : List Value) (n : Nat) (fl : gk_F) (x : gk_X) (y : gk_Y) (K : gk_K), S_X6_binaryDigits as n fl x y K → (gk_L0 as).length ≤ 3 ∧ ∀ V : gk_V, gk_W cX6_binaryDigits pX6 cs_X6_binaryDigits (fun _ _ => none) (some .int) 0 none K V → V 0 (gk_en as 3) [] n fl x y 0 := by
  intro as n fl x y K hS
  obtain ⟨v, e, rfl, ⟨rfl, rfl⟩, hp0, hp1, q0⟩ := hS
  refine ⟨Nat.le_of_ble_eq_true rfl, fun V w => ?_⟩
  show V 0 [some (.long v), none, none] [] 202 gk_fT x y 0
  subst hp0
  have key : ∀ (k d : Nat), d + k = 63 → gk_bd 63 e = gk_bd k (e / ((2 ^ d : Nat) : Int)) + d → V 2 [some (.long (gL e)), none, some (.int (nI d))] [] 202 gk_fT x y 0 := by
    intro k
    induction k with
    | zero =>
      intro d h1 h2
      obtain rfl : d = 63 := by omega
      refine s_iload_n (pc2 := 3) w dX6_binaryDigits_2 rfl rfl ?_
      refine s_bipush (pc2 := 5) (v := gI 63) w dX6_binaryDigits_3 rfl rfl ?_
      refine s_ic_ge (pc2 := 8) (tgt := 22) w dX6_binaryDigits_5 rfl (by decide) (fun _ => ?_) (fun h0 => absurd ((Int32.le_refl _)) h0)
      refine s_iload_n (pc2 := 23) w dX6_binaryDigits_22 rfl rfl ?_
      refine s_ireturn w dX6_binaryDigits_23 rfl rfl ?_
      rw [h2, show gk_bd 0 (e / ((2 ^ 63 : Nat) : Int)) + 63 = 63 from rfl] at q0
      exact q0
    | succ k ih =>
      intro d h1 h2
      have hq0 : 0 ≤ e / ((2 ^ d : Nat) : Int) := Int.ediv_nonneg hp1.1 (Int.natCast_nonneg _)
      have hq1 : e / ((2 ^ d : Nat) : Int) ≤ e := Int.ediv_le_self _ hp1.1
      have hq2 : e / ((2 ^ (d + 1) : Nat) : Int) = e / ((2 ^ d : Nat) : Int) / 2 := by rw [Nat.pow_succ, Int.natCast_mul, ← Int.ediv_ediv_of_nonneg (Int.natCast_nonneg _)]; rfl
      refine s_iload_n (pc2 := 3) w dX6_binaryDigits_2 rfl rfl ?_
      refine s_bipush (pc2 := 5) (v := gI 63) w dX6_binaryDigits_3 rfl rfl ?_
      refine s_ic_ge (pc2 := 8) (tgt := 22) w dX6_binaryDigits_5 rfl (by decide) (fun h0 => absurd h0 (by rw [gI_nI, gI_le ⟨by omega, by omega⟩ ⟨by omega, by omega⟩]; omega)) (fun _ => ?_)
      refine s_lload_n (pc2 := 9) w dX6_binaryDigits_8 rfl rfl ?_
      refine s_iload_n (pc2 := 10) w dX6_binaryDigits_9 rfl rfl ?_
      refine s_lshr (pc2 := 11) w dX6_binaryDigits_10 rfl ?_
      rw [gL_sr e hp1.1 hp1.2 d (by omega)]
      refine s_lconst (pc2 := 12) (v := 0) w dX6_binaryDigits_11 rfl rfl ?_
      refine s_lcmp (pc2 := 13) w dX6_binaryDigits_12 rfl ?_
      refine s_if_eq (pc2 := 16) (tgt := 22) w dX6_binaryDigits_13 rfl (by decide) (fun c13 => ?_) (fun c13 => ?_)
      · refine s_iload_n (pc2 := 23) w dX6_binaryDigits_22 rfl rfl ?_
        refine s_ireturn w dX6_binaryDigits_23 rfl rfl ?_
        rw [lc_eq, show (0 : Int64) = gL 0 from rfl, gL_eq ⟨by omega, by omega⟩ ⟨by decide, by decide⟩] at c13
        rw [h2, gk_bd_0 (by omega), Nat.zero_add] at q0
        exact q0
      · refine s_iinc (pc2 := 19) w dX6_binaryDigits_16 rfl rfl rfl rfl ?_
        dsimp only [gk_s1, gk_s2, gk_cl]
        rw [nI_s]
        refine s_goto (tgt := 2) w dX6_binaryDigits_19 (by decide) ?_
        rw [lc_eq, show (0 : Int64) = gL 0 from rfl, gL_eq ⟨by omega, by omega⟩ ⟨by decide, by decide⟩] at c13
        refine ih (d + 1) (by omega) ?_
        rw [h2, hq2, show gk_bd (k + 1) (e / ((2 ^ d : Nat) : Int)) = gk_bd k (e / ((2 ^ d : Nat) : Int) / 2) + 1 from if_neg (by omega)]
        omega
  refine s_iconst (pc2 := 1) (v := gI 0) w dX6_binaryDigits_0 rfl rfl ?_
  refine s_istore_n (pc2 := 2) (k2 := 2) w dX6_binaryDigits_1 rfl rfl rfl ?_
  dsimp only [gk_s1, gk_s2, gk_cl]
  exact key 63 0 rfl (by rw [show ((2 ^ 0 : Nat) : Int) = 1 from rfl, Int.ediv_one]; rfl)
theorem lk_X6_binaryDigits {l : Launch} (hl : l.stackTraces = false) : ∀ q ∈ L_X6_binaryDigits, (q.2.1 < 5 → gk_Lk l RX6 gk_W1 0 q.1 q.2.1 q.2.2.1 q.2.2.2.1 q.2.2.2.2.1 q.2.2.2.2.2) := (fun _ h => absurd h List.not_mem_nil)
theorem sp_X6_binaryDigits : ∀ q ∈ L_X6_binaryDigits, gk_Sq RX6 gk_W1 0 q := (fun _ h => absurd h List.not_mem_nil)
theorem M_X6_binaryDigits {l : Launch} (hl : l.stackTraces = false) : gk_Mt l yX6_binaryDigits (.code yX6_binaryDigits cX6_binaryDigits 3 (some .int) :: gk_W1) 0 0 S_X6_binaryDigits := gk_meth hl gk_cw_ok (by decide +kernel) rfl m_X6_binaryDigits pX6_ok (gk_Sp_of sp_X6_binaryDigits) pX6_st (fun ci m S h => absurd h (by intro h; cases h)) (xf_X6 0) (fun idx kd ci mm cost S2 h h5 => lk_X6_binaryDigits hl _ (gk_lk_mem h) h5)

def S_X11_digitsOf : gk_S := fun as n fl x y K => ∃ (v : Int64) (e : Int), as = [.long v] ∧ (n = 202 ∧ fl = gk_fT) ∧ (v = gL e) ∧ (0 ≤ e ∧ e ≤ 9223372036854775807) ∧ (K (.inl (some (.int (nI (gk_bd 63 e))))) n fl x y)
theorem r_X11_digitsOf (w : gk_W c P cs (fun _ _ => none) rt uf sc K V) {idx : Nat} {v : Int64} {e : Int} (hd : decode c pc = .ok (.invokestatic idx, 3)) (hp : pc + 3 = pc2) (hc : cs idx = some (0, 10, 1, 0, S_X11_digitsOf)) (h8 : Nat.ble (r.map Value.category).sum 8 = true) (hp0 : v = gL e) (hp1 : 0 ≤ e ∧ e ≤ 9223372036854775807) (kk0 : V pc2 L ((.int (nI (gk_bd 63 e))) :: r) 202 gk_fT x y u) : V pc L (.long v :: r) 202 gk_fT x y u :=
  g_calls w hd hp hc (as := [.long v]) rfl h8 rfl rfl rfl (Or.inl rfl) (Or.inl rfl) ⟨v, e, rfl, ⟨rfl, rfl⟩, hp0, hp1, kk0⟩
def L_X11_digitsOf : List (Nat × gk_M0) := []
def cs_X11_digitsOf : Nat → Option gk_M0 := gk_lk L_X11_digitsOf
theorem m_X11_digitsOf : ∀ (as : List Value) (n : Nat) (fl : gk_F) (x : gk_X) (y : gk_Y) (K : gk_K), S_X11_digitsOf as n fl x y K → (gk_L0 as).length ≤ 5 ∧ ∀ V : gk_V, gk_W cX11_digitsOf pX11 cs_X11_digitsOf (fun _ _ => none) (some .int) 0 none K V → V 0 (gk_en as 5) [] n fl x y 0 := by
  intro as n fl x y K hS
  obtain ⟨v, e, rfl, ⟨rfl, rfl⟩, hp0, hp1, q0⟩ := hS
  refine ⟨Nat.le_of_ble_eq_true rfl, fun V w => ?_⟩
  show V 0 [some (.long v), none, none, none, none] [] 202 gk_fT x y 0
  subst hp0
  have key : ∀ (k c : Nat) (z : Int), 0 ≤ z → z < ((2 ^ k : Nat) : Int) → k ≤ 63 → gk_bd 63 e = gk_bd k z + c → V 4 [some (.long (gL e)), none, some (.int (nI c)), some (.long (gL z)), none] [] 202 gk_fT x y 0 := by
    intro k
    induction k with
    | zero =>
      intro c z h0 h1 h2 h3
      obtain rfl : z = 0 := by have : ((2 ^ 0 : Nat) : Int) = 1 := rfl; omega
      refine s_lload_n (pc2 := 5) w dX11_digitsOf_4 rfl rfl ?_
      refine s_lconst (pc2 := 6) (v := gL 0) w dX11_digitsOf_5 rfl rfl ?_
      refine s_lcmp (pc2 := 7) w dX11_digitsOf_6 rfl ?_
      refine s_if_le (pc2 := 10) (tgt := 22) w dX11_digitsOf_7 rfl (by decide) (fun _ => ?_) (fun h0 => absurd ((lc_le _ _).mpr (Int64.le_refl _)) h0)
      refine s_iload_n (pc2 := 23) w dX11_digitsOf_22 rfl rfl ?_
      refine s_ireturn w dX11_digitsOf_23 rfl rfl ?_
      rw [h3, show gk_bd 0 (0 : Int) = 0 from rfl, Nat.zero_add] at q0
      exact q0
    | succ k ih =>
      intro c z h0 h1 h2 h3
      have hz : z ≤ 9223372036854775807 := by
        have h9 : (2 : Nat) ^ (k + 1) ≤ 2 ^ 63 := Nat.pow_le_pow_right (by decide) h2
        have h8 : ((2 ^ (k + 1) : Nat) : Int) ≤ ((2 ^ 63 : Nat) : Int) := Int.ofNat_le.mpr h9
        have h7 : ((2 ^ 63 : Nat) : Int) = 9223372036854775808 := rfl
        omega
      refine s_lload_n (pc2 := 5) w dX11_digitsOf_4 rfl rfl ?_
      refine s_lconst (pc2 := 6) (v := gL 0) w dX11_digitsOf_5 rfl rfl ?_
      refine s_lcmp (pc2 := 7) w dX11_digitsOf_6 rfl ?_
      refine s_if_le (pc2 := 10) (tgt := 22) w dX11_digitsOf_7 rfl (by decide) (fun c7 => ?_) (fun c7 => ?_)
      · refine s_iload_n (pc2 := 23) w dX11_digitsOf_22 rfl rfl ?_
        refine s_ireturn w dX11_digitsOf_23 rfl rfl ?_
        rw [lc_le, gL_le ⟨by omega, by omega⟩ ⟨by omega, by omega⟩] at c7
        rw [h3, gk_bd_0 (by omega), Nat.zero_add] at q0
        exact q0
      · refine s_iinc (pc2 := 13) w dX11_digitsOf_10 rfl rfl rfl rfl ?_
        dsimp only [gk_s1, gk_s2, gk_cl]
        rw [nI_s]
        refine s_lload_n (pc2 := 14) w dX11_digitsOf_13 rfl rfl ?_
        refine s_ldc2_w (pc2 := 17) (v := 2) w dX11_digitsOf_14 rfl rfl ?_
        refine s_ldiv (pc2 := 18) w dX11_digitsOf_17 rfl (by decide) ?_
        rw [show (2 : Int64) = gL 2 from rfl, gL_div ⟨by omega, by omega⟩ ⟨by omega, by omega⟩, Int.tdiv_eq_ediv_of_nonneg h0]
        refine s_lstore_n (pc2 := 19) (k2 := 3) w dX11_digitsOf_18 rfl rfl rfl ?_
        dsimp only [gk_s1, gk_s2, gk_cl]
        refine s_goto (tgt := 4) w dX11_digitsOf_19 (by decide) ?_
        rw [lc_le, gL_le ⟨by omega, by omega⟩ ⟨by omega, by omega⟩] at c7
        refine ih (c + 1) (z / 2) (by omega) (by rw [Nat.pow_succ, Int.natCast_mul] at h1; omega) (by omega) ?_
        rw [h3, show gk_bd (k + 1) z = gk_bd k (z / 2) + 1 from if_neg (by omega)]
        omega
  refine s_iconst (pc2 := 1) (v := gI 0) w dX11_digitsOf_0 rfl rfl ?_
  refine s_istore_n (pc2 := 2) (k2 := 2) w dX11_digitsOf_1 rfl rfl rfl ?_
  dsimp only [gk_s1, gk_s2, gk_cl]
  refine s_lload_n (pc2 := 3) w dX11_digitsOf_2 rfl rfl ?_
  refine s_lstore_n (pc2 := 4) (k2 := 3) w dX11_digitsOf_3 rfl rfl rfl ?_
  dsimp only [gk_s1, gk_s2, gk_cl]
  exact key 63 0 e hp1.1 (by have : ((2 ^ 63 : Nat) : Int) = 9223372036854775808 := rfl; omega) (by omega) rfl
theorem lk_X11_digitsOf {l : Launch} (hl : l.stackTraces = false) : ∀ q ∈ L_X11_digitsOf, (q.2.1 < 5 → gk_Lk l RX11 gk_W1 0 q.1 q.2.1 q.2.2.1 q.2.2.2.1 q.2.2.2.2.1 q.2.2.2.2.2) := (fun _ h => absurd h List.not_mem_nil)
theorem sp_X11_digitsOf : ∀ q ∈ L_X11_digitsOf, gk_Sq RX11 gk_W1 0 q := (fun _ h => absurd h List.not_mem_nil)
theorem M_X11_digitsOf {l : Launch} (hl : l.stackTraces = false) : gk_Mt l yX11_digitsOf (.code yX11_digitsOf cX11_digitsOf 5 (some .int) :: gk_W1) 0 0 S_X11_digitsOf := gk_meth hl gk_cw_ok (by decide +kernel) rfl m_X11_digitsOf pX11_ok (gk_Sp_of sp_X11_digitsOf) pX11_st (fun ci m S h => absurd h (by intro h; cases h)) (xf_X11 0) (fun idx kd ci mm cost S2 h h5 => lk_X11_digitsOf hl _ (gk_lk_mem h) h5)

end GKV

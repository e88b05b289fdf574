/-! THE METHODS, 5: the reference, what is recorded -/
section GKV
variable {c : ByteArray} {P : gk_C} {cs : Nat → Option gk_M0} {rt : Option FieldType} {uf : Nat} {sc : Option Nat} {K : gk_K} {V : gk_V}
variable {L : List (Option Value)} {r : List Value} {n : Nat} {fl : gk_F} {x : gk_X} {y : gk_Y} {u pc pc2 : Nat}
theorem rf_0 {rf : Bool} (h : (if rf then (1 : Int32) else 0) = 0) : rf = false := by
  cases rf
  · rfl
  · exact absurd h (by decide)
theorem rf_1 {rf : Bool} (h : ¬ (if rf then (1 : Int32) else 0) = 0) : rf = true := by
  cases rf
  · exact absurd rfl h
  · rfl
def gk_dr (rf : Bool) : Nat := if rf then 195 else 194
/-! what a state of the reference says -/
def gz (g : Nat → Int32) (k : Nat) : Int := (g k).toInt
theorem gz_I (g : Nat → Int32) (k : Nat) : g k = gI (gz g k) := (gI_self _).symm
theorem gz_R (g : Nat → Int32) (k : Nat) : gR (gz g k) := gR_toInt _
def nV (g : Nat → Int32) : Nat := (gz g 6).toNat
def nS (g : Nat → Int32) : Nat := (gz g 7).toNat
def nM (g : Nat → Int32) : Nat := (gz g 8).toNat
def sV (g : Nat → Int32) (a : Nat) : Nat := (gz g (28 + 21 * a + 0)).toNat
def sW (g : Nat → Int32) (a : Nat) : Nat := (gz g (28 + 21 * a + 4)).toNat
/-- numbers of the whole -/
def wf0 (g : Nat → Int32) : Prop := (100 ≤ gz g 0 ∧ gz g 0 ≤ 1000) ∧ (-90 ≤ gz g 1 ∧ gz g 1 ≤ 90) ∧ (g 2 = 0 ∨ g 2 = 1) ∧ 0 ≤ gz g 3 ∧ (0 ≤ gz g 4 ∧ gz g 4 ≤ 99) ∧ (g 5 = 0 ∨ g 5 = 1) ∧ (0 ≤ gz g 6 ∧ gz g 6 ≤ 4) ∧ (0 ≤ gz g 7 ∧ gz g 7 ≤ 6) ∧ 0 ≤ gz g 8 ∧ gz g 8 ≤ 8
def wfv (g : Nat → Int32) : Prop := ∀ v, v < nV g → (-20000 ≤ gz g (16 + 3 * v + 0) ∧ gz g (16 + 3 * v + 0) ≤ 20000) ∧ (-50 ≤ gz g (16 + 3 * v + 1) ∧ gz g (16 + 3 * v + 1) ≤ 50) ∧ 100 ≤ gz g (16 + 3 * v + 2) ∧ gz g (16 + 3 * v + 2) ≤ 5000
def wfs (g : Nat → Int32) : Prop := ∀ a, a < nS g → (0 ≤ gz g (28 + 21 * a + 0) ∧ gz g (28 + 21 * a + 0) < gz g 6) ∧ (-1000 ≤ gz g (28 + 21 * a + 1) ∧ gz g (28 + 21 * a + 1) ≤ 1000) ∧ (0 ≤ gz g (28 + 21 * a + 2) ∧ gz g (28 + 21 * a + 2) ≤ 500) ∧ (1 ≤ gz g (28 + 21 * a + 3) ∧ gz g (28 + 21 * a + 3) ≤ 10) ∧ (1 ≤ gz g (28 + 21 * a + 4) ∧ gz g (28 + 21 * a + 4) ≤ 16) ∧ ∀ k, k < sW g a → -99 ≤ gz g (28 + 21 * a + 5 + k) ∧ gz g (28 + 21 * a + 5 + k) ≤ 99
def wfm (g : Nat → Int32) : Prop := ∀ m, m < nM g → (-5000 ≤ gz g (154 + 4 * m + 0) ∧ gz g (154 + 4 * m + 0) ≤ 5000) ∧ (-100 ≤ gz g (154 + 4 * m + 1) ∧ gz g (154 + 4 * m + 1) ≤ 99) ∧ (0 ≤ gz g (154 + 4 * m + 2) ∧ gz g (154 + 4 * m + 2) ≤ 500) ∧ 0 ≤ gz g (154 + 4 * m + 3) ∧ gz g (154 + 4 * m + 3) ≤ 9
def wff (g : Nat → Int32) : Prop := (g 10 = 0 ∧ (0 ≤ gz g 11 ∧ gz g 11 < gz g 6) ∧ (-1000 ≤ gz g 12 ∧ gz g 12 ≤ 1000) ∧ 0 ≤ gz g 14 ∧ gz g 14 ≤ 500) ∨ (g 10 = 1 ∧ (-20000 ≤ gz g 12 ∧ gz g 12 ≤ 20000) ∧ (100 ≤ gz g 13 ∧ gz g 13 ≤ 5000) ∧ 0 ≤ gz g 14 ∧ gz g 14 ≤ 500) ∨ (g 10 = 2 ∧ -100 ≤ gz g 12 ∧ gz g 12 ≤ 100)
def gWf (g : Nat → Int32) : Prop := wf0 g ∧ wfv g ∧ wfs g ∧ wfm g ∧ wff g
/-- a source's path to a microphone -/
def pA (g : Nat → Int32) (m a : Nat) : Int := gz g (16 + 3 * sV g a + 0) + gz g (28 + 21 * a + 1) - gz g (154 + 4 * m + 0)
def pS (g : Nat → Int32) (a : Nat) : Int := gz g (16 + 3 * sV g a + 1)
def pBe (g : Nat → Int32) (m a : Nat) (rf : Bool) : Int := gk_be (gz g (16 + 3 * sV g a + 2)) (gz g (28 + 21 * a + 2)) (gz g (154 + 4 * m + 1)) (gz g (154 + 4 * m + 2)) rf
/-- what a source emits at a time -/
def vE (g : Nat → Int32) (a t : Nat) : Int := gz g (28 + 21 * a + 5 + t % sW g a) * gz g (28 + 21 * a + 3)
/-- what is heard of it -/
def gk_am (sp : Bool) (gr v d : Int) (rf : Bool) : Int := if rf then (((if sp then (v * 1000).tdiv (1000 + d) else v) * gr).tdiv 100) else (if sp then (v * 1000).tdiv (1000 + d) else v)
def gSp (g : Nat → Int32) : Bool := decide (g 2 = 1)
def gk_nx (r : Int) : Int := (r * 1103515245 + 12345) % 2147483648
theorem gk_nx_b (r : Int) : 0 ≤ gk_nx r ∧ gk_nx r < 2147483648 := ⟨Int.emod_nonneg _ (by decide), Int.emod_lt_of_pos _ (by decide)⟩
def gk_rn (r : Int) : Nat → Int
  | 0 => r
  | n + 1 => gk_nx (gk_rn r n)
theorem gk_rn_b {r : Int} (h : 0 ≤ r ∧ r < 2147483648) : ∀ n, 0 ≤ gk_rn r n ∧ gk_rn r n < 2147483648
  | 0 => h
  | n + 1 => gk_nx_b _
/-- the noise of a sample -/
def gk_no (L r : Int) (k : Nat) : Int := gk_rn r (k + 1) / 65536 % (2 * L + 1) - L
theorem tdiv_b {a b A : Int} (hb : 1 ≤ b) (h1 : -A ≤ a) (h2 : a ≤ A) : -A ≤ a.tdiv b ∧ a.tdiv b ≤ A := by
  have h : (a.tdiv b).natAbs ≤ a.natAbs := by rw [Int.natAbs_tdiv]; exact Nat.div_le_self _ _
  omega
theorem am_b {sp rf : Bool} {gr v d : Int} (hg : -90 ≤ gr ∧ gr ≤ 90) (hv : -990 ≤ v ∧ v ≤ 990) (hd : 0 ≤ d) : -990 ≤ gk_am sp gr v d rf ∧ gk_am sp gr v d rf ≤ 990 := by
  have h1 : -990 ≤ (if sp then (v * 1000).tdiv (1000 + d) else v) ∧ (if sp then (v * 1000).tdiv (1000 + d) else v) ≤ 990 := by
    cases sp
    · exact hv
    · rw [if_pos rfl]
      have e : (v * 1000).tdiv (1000 + d) ≤ 990 ∧ -990 ≤ (v * 1000).tdiv (1000 + d) := by
        have h2 : ((v * 1000).tdiv (1000 + d)).natAbs ≤ 990 := by
          rw [Int.natAbs_tdiv]
          refine Nat.le_of_lt_succ (Nat.div_lt_of_lt_mul ?_)
          have : (v * 1000).natAbs ≤ 990000 := by omega
          have : 1000 ≤ (1000 + d).natAbs := by omega
          omega
        omega
      exact ⟨e.2, e.1⟩
  unfold gk_am
  generalize (if sp then (v * 1000).tdiv (1000 + d) else v) = w at h1
  cases rf
  · exact h1
  · rw [if_pos rfl]
    have h3 := gk_mulb (a := w) (b := gr) (A := 990) (B := 90) (by omega) h1.2 (by omega) hg.2
    have h2 : ((w * gr).tdiv 100).natAbs ≤ 990 := by
      rw [Int.natAbs_tdiv]
      have : (w * gr).natAbs ≤ 89100 := by omega
      show (w * gr).natAbs / 100 ≤ 990
      omega
    omega
def S_X11_markOf : gk_S := fun as n fl x y K => ∃ (t : Int32) (f : Int32) (tt : Nat) (cc : Int) (dd : Int) (rf : Bool), as = [.ref 189, .int t, .int f] ∧ (n = 202 ∧ fl = gk_fT) ∧ (t = nI tt) ∧ (tt < 256) ∧ (x 190 0 = gI cc) ∧ (x (gk_dr rf) tt = gI dd) ∧ (f = if rf then 1 else 0) ∧ (K (.inl (some (.int (gI (tt * cc + dd))))) n fl x y)
theorem r_X11_markOf (w : gk_W c P cs (fun _ _ => none) rt uf sc K V) {idx : Nat} {t : Int32} {f : Int32} {tt : Nat} {cc : Int} {dd : Int} {rf : Bool} (hd : decode c pc = .ok (.invokevirtual idx, 3)) (hp : pc + 3 = pc2) (hc : cs idx = some (1, 10, 3, 0, S_X11_markOf)) (h8 : Nat.ble (r.map Value.category).sum 8 = true) (hp0 : t = nI tt) (hp1 : tt < 256) (hp2 : x 190 0 = gI cc) (hp3 : x (gk_dr rf) tt = gI dd) (hp4 : f = if rf then 1 else 0) (kk0 : V pc2 L ((.int (gI (tt * cc + dd))) :: r) 202 gk_fT x y u) : V pc L (.int f :: .int t :: .ref 189 :: r) 202 gk_fT x y u :=
  g_callv w hd hp hc (as := [.ref 189, .int t, .int f]) rfl h8 rfl rfl rfl (Or.inr (Or.inl ⟨Or.inl rfl, _, _, rfl, (gk_kd_j rfl rfl), rfl⟩)) (Or.inl rfl) ⟨t, f, tt, cc, dd, rf, rfl, ⟨rfl, rfl⟩, hp0, hp1, hp2, hp3, hp4, kk0⟩
def L_X11_markOf : List (Nat × gk_M0) := []
def cs_X11_markOf : Nat → Option gk_M0 := gk_lk L_X11_markOf
theorem m_X11_markOf : ∀ (as : List Value) (n : Nat) (fl : gk_F) (x : gk_X) (y : gk_Y) (K : gk_K), S_X11_markOf as n fl x y K → (gk_L0 as).length ≤ 3 ∧ ∀ V : gk_V, gk_W cX11_markOf pX11 cs_X11_markOf (fun _ _ => none) (some .int) 0 none K V → V 0 (gk_en as 3) [] n fl x y 0 := by
  intro as n fl x y K hS
  obtain ⟨t, f, tt, cc, dd, rf, rfl, ⟨rfl, rfl⟩, hp0, hp1, hp2, hp3, hp4, q0⟩ := hS
  refine ⟨Nat.le_of_ble_eq_true rfl, fun V w => ?_⟩
  show V 0 [some (.ref 189), some (.int t), some (.int f)] [] 202 gk_fT x y 0
  subst hp0 hp4
  refine s_iload_n (pc2 := 1) w dX11_markOf_0 rfl rfl ?_
  refine s_aload_n (pc2 := 2) w dX11_markOf_1 rfl rfl ?_
  refine m_getR (pc2 := 5) (ci := 10) (k := 0) (j2 := 190) w dX11_markOf_2 rfl rfl (by first | assumption | rfl) rfl rfl rfl ?_
  refine s_iconst (pc2 := 6) (v := 0) w dX11_markOf_5 rfl rfl ?_
  refine m_ialoadN (pc2 := 7) (t := 0) (N := 2234) w dX11_markOf_6 rfl (by first | assumption | rfl) rfl rfl (by decide) rfl ?_
  refine s_imul (pc2 := 8) w dX11_markOf_7 rfl ?_
  rw [hp2, gI_nI, gI_mul]
  refine s_iload_n (pc2 := 9) w dX11_markOf_8 rfl rfl ?_
  refine s_if_eq (pc2 := 12) (tgt := 21) w dX11_markOf_9 rfl (by decide) (fun c9 => ?_) (fun c9 => ?_)
  · have e := rf_0 c9
    subst e
    replace hp3 : x 194 tt = gI dd := hp3
    refine s_aload_n (pc2 := 22) w dX11_markOf_21 rfl rfl ?_
    refine m_getR (pc2 := 25) (ci := 10) (k := 5) (j2 := 194) w dX11_markOf_22 rfl rfl (by first | assumption | rfl) rfl rfl rfl ?_
    refine s_iload_n (pc2 := 26) w dX11_markOf_25 rfl rfl ?_
    refine m_ialoadN (pc2 := 27) (t := tt) (N := 256) w dX11_markOf_26 rfl (by first | assumption | rfl) rfl rfl hp1 rfl ?_
    rw [hp3]
    refine s_iadd (pc2 := 28) w dX11_markOf_27 rfl ?_
    rw [gI_add]
    refine s_ireturn w dX11_markOf_28 rfl rfl ?_
    exact q0
  · have e := rf_1 c9
    subst e
    replace hp3 : x 195 tt = gI dd := hp3
    refine s_aload_n (pc2 := 13) w dX11_markOf_12 rfl rfl ?_
    refine m_getR (pc2 := 16) (ci := 10) (k := 6) (j2 := 195) w dX11_markOf_13 rfl rfl (by first | assumption | rfl) rfl rfl rfl ?_
    refine s_iload_n (pc2 := 17) w dX11_markOf_16 rfl rfl ?_
    refine m_ialoadN (pc2 := 18) (t := tt) (N := 256) w dX11_markOf_17 rfl (by first | assumption | rfl) rfl rfl hp1 rfl ?_
    refine s_goto (tgt := 27) w dX11_markOf_18 (by decide) ?_
    rw [hp3]
    refine s_iadd (pc2 := 28) w dX11_markOf_27 rfl ?_
    rw [gI_add]
    refine s_ireturn w dX11_markOf_28 rfl rfl ?_
    exact q0
theorem lk_X11_markOf {l : Launch} (hl : l.stackTraces = false) : ∀ q ∈ L_X11_markOf, (q.2.1 < 5 → gk_Lk l RX11 gk_W1 0 q.1 q.2.1 q.2.2.1 q.2.2.2.1 q.2.2.2.2.1 q.2.2.2.2.2) := (fun _ h => absurd h List.not_mem_nil)
theorem sp_X11_markOf : ∀ q ∈ L_X11_markOf, gk_Sq RX11 gk_W1 0 q := (fun _ h => absurd h List.not_mem_nil)
theorem M_X11_markOf {l : Launch} (hl : l.stackTraces = false) : gk_Mt l yX11_markOf (.code yX11_markOf cX11_markOf 3 (some .int) :: gk_W1) 0 0 S_X11_markOf := gk_meth hl gk_cw_ok (by decide +kernel) rfl m_X11_markOf pX11_ok (gk_Sp_of sp_X11_markOf) pX11_st (fun ci m S h => absurd h (by intro h; cases h)) (xf_X11 0) (fun idx kd ci mm cost S2 h h5 => lk_X11_markOf hl _ (gk_lk_mem h) h5)

def S_X11_latest : gk_S := fun as n fl x y K => ∃ (s0 : Int32) (f : Int32) (s : Nat) (A : Int) (S : Int) (B : Int) (cc : Int) (rf : Bool), as = [.ref 189, .int s0, .int f] ∧ (n = 202 ∧ fl = gk_fT) ∧ (s0 = nI s) ∧ (s < 256) ∧ (x 190 0 = gI cc) ∧ (100 ≤ cc ∧ cc ≤ 1000) ∧ (gk_PB A S B) ∧ (∀ t : Nat, t < 256 → x (gk_dr rf) t = gI (gk_dl A S B t)) ∧ (f = if rf then 1 else 0) ∧ (K (.inl (some (.int (gI (gk_last (gk_lp2 A S B cc s) (s + 1)))))) n fl x y)
theorem r_X11_latest (w : gk_W c P cs (fun _ _ => none) rt uf sc K V) {idx : Nat} {s0 : Int32} {f : Int32} {s : Nat} {A : Int} {S : Int} {B : Int} {cc : Int} {rf : Bool} (hd : decode c pc = .ok (.invokevirtual idx, 3)) (hp : pc + 3 = pc2) (hc : cs idx = some (1, 10, 3, 0, S_X11_latest)) (h8 : Nat.ble (r.map Value.category).sum 8 = true) (hp0 : s0 = nI s) (hp1 : s < 256) (hp2 : x 190 0 = gI cc) (hp3 : 100 ≤ cc ∧ cc ≤ 1000) (hp4 : gk_PB A S B) (hp5 : ∀ t : Nat, t < 256 → x (gk_dr rf) t = gI (gk_dl A S B t)) (hp6 : f = if rf then 1 else 0) (kk0 : V pc2 L ((.int (gI (gk_last (gk_lp2 A S B cc s) (s + 1)))) :: r) 202 gk_fT x y u) : V pc L (.int f :: .int s0 :: .ref 189 :: r) 202 gk_fT x y u :=
  g_callv w hd hp hc (as := [.ref 189, .int s0, .int f]) rfl h8 rfl rfl rfl (Or.inr (Or.inl ⟨Or.inl rfl, _, _, rfl, (gk_kd_j rfl rfl), rfl⟩)) (Or.inl rfl) ⟨s0, f, s, A, S, B, cc, rf, rfl, ⟨rfl, rfl⟩, hp0, hp1, hp2, hp3, hp4, hp5, hp6, kk0⟩
def L_X11_latest : List (Nat × gk_M0) := [(133, (1, 10, 3, 0, S_X11_markOf))]
def cs_X11_latest : Nat → Option gk_M0 := gk_lk L_X11_latest
theorem m_X11_latest : ∀ (as : List Value) (n : Nat) (fl : gk_F) (x : gk_X) (y : gk_Y) (K : gk_K), S_X11_latest as n fl x y K → (gk_L0 as).length ≤ 5 ∧ ∀ V : gk_V, gk_W cX11_latest pX11 cs_X11_latest (fun _ _ => none) (some .int) 0 none K V → V 0 (gk_en as 5) [] n fl x y 0 := by
  intro as n fl x y K hS
  obtain ⟨s0, f, s, A, S, B, cc, rf, rfl, ⟨rfl, rfl⟩, hp0, hp1, hp2, hp3, hp4, hp5, hp6, q0⟩ := hS
  refine ⟨Nat.le_of_ble_eq_true rfl, fun V w => ?_⟩
  show V 0 [some (.ref 189), some (.int s0), some (.int f), none, none] [] 202 gk_fT x y 0
  subst hp0
  have hlast : gk_last (gk_lp2 A S B cc s) 256 = gk_last (gk_lp2 A S B cc s) (s + 1) := by
    refine gk_last_none 256 (by omega) (fun k h1 h2 => decide_eq_false (fun h3 => ?_))
    have hb := gk_dlb hp4 (t := (k : Int)) (by omega) (by omega)
    have h4 : (s : Int) * cc + cc ≤ (k : Int) * cc := by
      have := Int.mul_le_mul_of_nonneg_right (show (s : Int) + 1 ≤ k by omega) (show 0 ≤ cc by omega)
      rw [Int.add_mul, Int.one_mul] at this
      exact this
    omega
  rw [← hlast] at q0
  have key : ∀ (k t : Nat), t + k = 256 → V 5 [some (.ref 189), some (.int (nI s)), some (.int f), some (.int (gI (gk_last (gk_lp2 A S B cc s) t))), some (.int (nI t))] [] 202 gk_fT x y 0 := by
    intro k
    induction k with
    | zero =>
      intro t ht
      have ht2 : t = 256 := by omega
      subst ht2
      refine s_iload (pc2 := 7) w dX11_latest_5 rfl rfl ?_
      refine s_sipush (pc2 := 10) (v := gI 256) w dX11_latest_7 rfl rfl ?_
      refine s_ic_ge (pc2 := 13) (tgt := 44) w dX11_latest_10 rfl (by decide) (fun _ => ?_) (fun h0 => absurd ((Int32.le_refl _)) h0)
      refine s_iload_n (pc2 := 45) w dX11_latest_44 rfl rfl ?_
      refine s_ireturn w dX11_latest_45 rfl rfl ?_
      exact q0
    | succ k ih =>
      intro t ht
      have hb := gk_dlb hp4 (t := (t : Int)) (by omega) (by omega)
      have hq1 := gk_mulb (a := (t : Int)) (b := cc) (A := 256) (B := 1000) (by omega) (by omega) (by omega) (by omega)
      have hq2 := gk_mulb (a := (s : Int)) (b := cc) (A := 256) (B := 1000) (by omega) (by omega) (by omega) (by omega)
      refine s_iload (pc2 := 7) w dX11_latest_5 rfl rfl ?_
      refine s_sipush (pc2 := 10) (v := gI 256) w dX11_latest_7 rfl rfl ?_
      refine s_ic_ge (pc2 := 13) (tgt := 44) w dX11_latest_10 rfl (by decide) (fun h0 => absurd h0 (by rw [gI_nI, gI_le ⟨by omega, by omega⟩ ⟨by omega, by omega⟩]; omega)) (fun _ => ?_)
      refine s_aload_n (pc2 := 14) w dX11_latest_13 rfl rfl ?_
      refine s_iload (pc2 := 16) w dX11_latest_14 rfl rfl ?_
      refine s_iload_n (pc2 := 17) w dX11_latest_16 rfl rfl ?_
      refine r_X11_markOf (pc2 := 20) w dX11_latest_17 rfl rfl rfl rfl (by omega) hp2 (hp5 t (by omega)) hp6 ?_
      refine s_iload_n (pc2 := 21) w dX11_latest_20 rfl rfl ?_
      refine s_aload_n (pc2 := 22) w dX11_latest_21 rfl rfl ?_
      refine m_getR (pc2 := 25) (ci := 10) (k := 0) (j2 := 190) w dX11_latest_22 rfl rfl (by first | assumption | rfl) rfl rfl rfl ?_
      refine s_iconst (pc2 := 26) (v := gI 0) w dX11_latest_25 rfl rfl ?_
      refine m_ialoadN (pc2 := 27) (t := 0) (N := 2234) w dX11_latest_26 rfl (by first | assumption | rfl) rfl rfl (by decide) rfl ?_
      refine s_imul (pc2 := 28) w dX11_latest_27 rfl ?_
      rw [hp2, gI_nI, gI_mul]
      refine s_ic_gt (pc2 := 31) (tgt := 36) w dX11_latest_28 rfl (by decide) (fun c28 => ?_) (fun c28 => ?_)
      · refine s_iload_n (pc2 := 37) w dX11_latest_36 rfl rfl ?_
        refine s_istore_n (pc2 := 38) (k2 := 3) w dX11_latest_37 rfl rfl rfl ?_
        dsimp only [gk_s1, gk_s2, gk_cl]
        refine s_iinc (pc2 := 41) w dX11_latest_38 rfl rfl rfl rfl ?_
        dsimp only [gk_s1, gk_s2, gk_cl]
        rw [nI_s]
        refine s_goto (tgt := 5) w dX11_latest_41 (by decide) ?_
        have hl : (s : Int) * cc < (t : Int) * cc + gk_dl A S B t := (gI_lt ⟨by omega, by omega⟩ ⟨by omega, by omega⟩).mp c28
        have he : gk_last (gk_lp2 A S B cc s) (t + 1) = gk_last (gk_lp2 A S B cc s) t := if_neg (fun h => by have := of_decide_eq_true h; omega)
        have h := ih (t + 1) (by omega)
        rw [he] at h
        exact h
      · refine s_iload (pc2 := 33) w dX11_latest_31 rfl rfl ?_
        refine s_goto (tgt := 37) w dX11_latest_33 (by decide) ?_
        refine s_istore_n (pc2 := 38) (k2 := 3) w dX11_latest_37 rfl rfl rfl ?_
        dsimp only [gk_s1, gk_s2, gk_cl]
        refine s_iinc (pc2 := 41) w dX11_latest_38 rfl rfl rfl rfl ?_
        dsimp only [gk_s1, gk_s2, gk_cl]
        rw [nI_s]
        refine s_goto (tgt := 5) w dX11_latest_41 (by decide) ?_
        have hl : ¬ ((s : Int) * cc < (t : Int) * cc + gk_dl A S B t) := fun h => c28 ((gI_lt ⟨by omega, by omega⟩ ⟨by omega, by omega⟩).mpr h)
        have he : gk_last (gk_lp2 A S B cc s) (t + 1) = (t : Int) := if_pos (decide_eq_true (by omega))
        have h := ih (t + 1) (by omega)
        rw [he] at h
        exact h
  refine s_iconst (pc2 := 1) (v := gI (-1)) w dX11_latest_0 rfl rfl ?_
  refine s_istore_n (pc2 := 2) (k2 := 3) w dX11_latest_1 rfl rfl rfl ?_
  dsimp only [gk_s1, gk_s2, gk_cl]
  refine s_iconst (pc2 := 3) (v := gI 0) w dX11_latest_2 rfl rfl ?_
  refine s_istore (pc2 := 5) w dX11_latest_3 rfl rfl ?_
  dsimp only [gk_s1, gk_s2, gk_cl]
  exact key 256 0 rfl
theorem lk_X11_latest {l : Launch} (hl : l.stackTraces = false) : ∀ q ∈ L_X11_latest, (q.2.1 < 5 → gk_Lk l RX11 gk_W1 1 q.1 q.2.1 q.2.2.1 q.2.2.2.1 q.2.2.2.2.1 q.2.2.2.2.2) := (List.forall_mem_cons.mpr ⟨(fun _ => ⟨yX11_markOf, cX11_markOf, 3, (some .int), 0, _, M_X11_markOf hl, ⟨by decide, by decide⟩, ⟨by decide, by decide, by decide +kernel⟩, ⟨(gk_wm 1481 (by decide +kernel)), (gk_wm 99 (by decide +kernel))⟩, Or.inr (Or.inr (Or.inr (Or.inl ⟨rfl, rfl, (gk_wm 1480 (by decide +kernel)), (gk_wm 49 (by decide +kernel)), gk_wm 1478 (by decide +kernel), by decide, rfl⟩)))⟩), (fun _ h => absurd h List.not_mem_nil)⟩)
theorem sp_X11_latest : ∀ q ∈ L_X11_latest, gk_Sq RX11 gk_W1 1 q := (List.forall_mem_cons.mpr ⟨⟨fun h => absurd h (by decide), fun h => absurd h (by decide), fun h => absurd h (by decide), fun h => absurd h (by decide), fun h => absurd h (by decide), fun h => absurd h (by decide)⟩, (fun _ h => absurd h List.not_mem_nil)⟩)
theorem M_X11_latest {l : Launch} (hl : l.stackTraces = false) : gk_Mt l yX11_latest (.code yX11_latest cX11_latest 5 (some .int) :: gk_W1) 1 0 S_X11_latest := gk_meth hl gk_cw_ok (by decide +kernel) rfl m_X11_latest pX11_ok (gk_Sp_of sp_X11_latest) pX11_st (fun ci m S h => absurd h (by intro h; cases h)) (xf_X11 1) (fun idx kd ci mm cost S2 h h5 => lk_X11_latest hl _ (gk_lk_mem h) h5)


def S_X11_emittedBy : gk_S := fun as n fl x y K => ∃ (s0 : Int32) (t : Int32) (a : Nat) (tt : Nat) (g : Nat → Int32), as = [.ref 189, .int s0, .int t] ∧ (n = 202 ∧ fl = gk_fT) ∧ (∀ k, k < 186 → k ≠ 3 → x 190 k = g k) ∧ (gWf g) ∧ (s0 = nI a) ∧ (a < nS g) ∧ (t = nI tt) ∧ (tt < 256) ∧ (K (.inl (some (.int (gI (vE g a tt))))) n fl x y)
theorem r_X11_emittedBy (w : gk_W c P cs (fun _ _ => none) rt uf sc K V) {idx : Nat} {s0 : Int32} {t : Int32} {a : Nat} {tt : Nat} {g : Nat → Int32} (hd : decode c pc = .ok (.invokevirtual idx, 3)) (hp : pc + 3 = pc2) (hc : cs idx = some (1, 10, 3, 0, S_X11_emittedBy)) (h8 : Nat.ble (r.map Value.category).sum 8 = true) (hp0 : ∀ k, k < 186 → k ≠ 3 → x 190 k = g k) (hp1 : gWf g) (hp2 : s0 = nI a) (hp3 : a < nS g) (hp4 : t = nI tt) (hp5 : tt < 256) (kk0 : V pc2 L ((.int (gI (vE g a tt))) :: r) 202 gk_fT x y u) : V pc L (.int t :: .int s0 :: .ref 189 :: r) 202 gk_fT x y u :=
  g_callv w hd hp hc (as := [.ref 189, .int s0, .int t]) rfl h8 rfl rfl rfl (Or.inr (Or.inl ⟨Or.inl rfl, _, _, rfl, (gk_kd_j rfl rfl), rfl⟩)) (Or.inl rfl) ⟨s0, t, a, tt, g, rfl, ⟨rfl, rfl⟩, hp0, hp1, hp2, hp3, hp4, hp5, kk0⟩
def L_X11_emittedBy : List (Nat × gk_M0) := [(97, (1, 10, 3, 0, S_X11_source))]
def cs_X11_emittedBy : Nat → Option gk_M0 := gk_lk L_X11_emittedBy
theorem m_X11_emittedBy : ∀ (as : List Value) (n : Nat) (fl : gk_F) (x : gk_X) (y : gk_Y) (K : gk_K), S_X11_emittedBy as n fl x y K → (gk_L0 as).length ≤ 3 ∧ ∀ V : gk_V, gk_W cX11_emittedBy pX11 cs_X11_emittedBy (fun _ _ => none) (some .int) 0 none K V → V 0 (gk_en as 3) [] n fl x y 0 := by
  intro as n fl x y K hS
  obtain ⟨s0, t, a, tt, g, rfl, ⟨rfl, rfl⟩, hp0, hp1, hp2, hp3, hp4, hp5, q0⟩ := hS
  refine ⟨Nat.le_of_ble_eq_true rfl, fun V w => ?_⟩
  show V 0 [some (.ref 189), some (.int s0), some (.int t)] [] 202 gk_fT x y 0
  subst hp2 hp4
  obtain ⟨⟨-, -, -, -, -, -, -, ⟨c1, c2⟩, -⟩, -, hs, -⟩ := hp1
  obtain ⟨-, -, -, -, hL, -⟩ := hs a hp3
  have ha : a < 6 := by unfold nS at hp3; omega
  have eL : gz g (28 + 21 * a + 4) = (sW g a : Int) := by unfold sW; omega
  have hL2 : 1 ≤ sW g a ∧ sW g a ≤ 16 := by omega
  have hm : tt % sW g a < sW g a := Nat.mod_lt _ (by omega)
  refine s_aload_n (pc2 := 1) w dX11_emittedBy_0 rfl rfl ?_
  refine s_iload_n (pc2 := 2) w dX11_emittedBy_1 rfl rfl ?_
  refine s_iconst (pc2 := 3) (v := gI 5) w dX11_emittedBy_2 rfl rfl ?_
  refine s_iload_n (pc2 := 4) w dX11_emittedBy_3 rfl rfl ?_
  refine s_aload_n (pc2 := 5) w dX11_emittedBy_4 rfl rfl ?_
  refine s_iload_n (pc2 := 6) w dX11_emittedBy_5 rfl rfl ?_
  refine s_iconst (pc2 := 7) (v := gI 4) w dX11_emittedBy_6 rfl rfl ?_
  refine r_X11_source (pc2 := 10) (b := 4) w dX11_emittedBy_7 rfl rfl rfl rfl rfl (by omega) ?_
  refine s_irem (pc2 := 11) w dX11_emittedBy_10 rfl (by rw [hp0 _ (by omega) (by omega), gz_I g, eL, show (0 : Int32) = gI 0 from rfl, gI_eq ⟨by omega, by omega⟩ ⟨by omega, by omega⟩]; omega) ?_
  rw [hp0 _ (by omega) (by omega), gz_I g (28 + 21 * a + 4), eL, gI_nI tt, gI_rem ⟨by omega, by omega⟩ ⟨by omega, by omega⟩, Int.tmod_eq_emod_of_nonneg (by omega)]
  refine s_iadd (pc2 := 12) w dX11_emittedBy_11 rfl ?_
  rw [gI_add, show (5 : Int) + (tt : Int) % (sW g a : Int) = ((5 + tt % sW g a : Nat) : Int) by omega]
  refine r_X11_source (pc2 := 15) (b := 5 + tt % sW g a) w dX11_emittedBy_12 rfl rfl rfl rfl rfl (by omega) ?_
  refine s_aload_n (pc2 := 16) w dX11_emittedBy_15 rfl rfl ?_
  refine s_iload_n (pc2 := 17) w dX11_emittedBy_16 rfl rfl ?_
  refine s_iconst (pc2 := 18) (v := gI 3) w dX11_emittedBy_17 rfl rfl ?_
  refine r_X11_source (pc2 := 21) (b := 3) w dX11_emittedBy_18 rfl rfl rfl rfl rfl (by omega) ?_
  rw [hp0 _ (by omega) (by omega), hp0 _ (by omega) (by omega), gz_I g (28 + 21 * a + 3), show 28 + 21 * a + (5 + tt % sW g a) = 28 + 21 * a + 5 + tt % sW g a by omega, gz_I g (28 + 21 * a + 5 + tt % sW g a)]
  refine s_imul (pc2 := 22) w dX11_emittedBy_21 rfl ?_
  rw [gI_mul]
  refine s_ireturn w dX11_emittedBy_22 rfl rfl ?_
  exact q0
theorem lk_X11_emittedBy {l : Launch} (hl : l.stackTraces = false) : ∀ q ∈ L_X11_emittedBy, (q.2.1 < 5 → gk_Lk l RX11 gk_W1 1 q.1 q.2.1 q.2.2.1 q.2.2.2.1 q.2.2.2.2.1 q.2.2.2.2.2) := (List.forall_mem_cons.mpr ⟨(fun _ => ⟨yX11_source, cX11_source, 3, (some .int), 0, _, M_X11_source hl, ⟨by decide, by decide⟩, ⟨by decide, by decide, by decide +kernel⟩, ⟨(gk_wm 1402 (by decide +kernel)), (gk_wm 99 (by decide +kernel))⟩, Or.inr (Or.inr (Or.inr (Or.inl ⟨rfl, rfl, (gk_wm 1401 (by decide +kernel)), (gk_wm 38 (by decide +kernel)), gk_wm 1399 (by decide +kernel), by decide, rfl⟩)))⟩), (fun _ h => absurd h List.not_mem_nil)⟩)
theorem sp_X11_emittedBy : ∀ q ∈ L_X11_emittedBy, gk_Sq RX11 gk_W1 1 q := (List.forall_mem_cons.mpr ⟨⟨fun h => absurd h (by decide), fun h => absurd h (by decide), fun h => absurd h (by decide), fun h => absurd h (by decide), fun h => absurd h (by decide), fun h => absurd h (by decide)⟩, (fun _ h => absurd h List.not_mem_nil)⟩)
theorem M_X11_emittedBy {l : Launch} (hl : l.stackTraces = false) : gk_Mt l yX11_emittedBy (.code yX11_emittedBy cX11_emittedBy 3 (some .int) :: gk_W1) 1 0 S_X11_emittedBy := gk_meth hl gk_cw_ok (by decide +kernel) rfl m_X11_emittedBy pX11_ok (gk_Sp_of sp_X11_emittedBy) pX11_st (fun ci m S h => absurd h (by intro h; cases h)) (xf_X11 1) (fun idx kd ci mm cost S2 h h5 => lk_X11_emittedBy hl _ (gk_lk_mem h) h5)

def S_X11_amountOf : gk_S := fun as n fl x y K => ∃ (e : Int32) (d : Int32) (f : Int32) (g : Nat → Int32) (ve : Int) (dd : Int) (rf : Bool), as = [.ref 189, .int e, .int d, .int f] ∧ (n = 202 ∧ fl = gk_fT) ∧ (∀ k, k < 186 → k ≠ 3 → x 190 k = g k) ∧ (gWf g) ∧ (e = gI ve) ∧ (-990 ≤ ve ∧ ve ≤ 990) ∧ (d = gI dd) ∧ (0 ≤ dd ∧ dd ≤ 65536) ∧ (f = if rf then 1 else 0) ∧ (K (.inl (some (.int (gI (gk_am (gSp g) (gz g 1) ve dd rf))))) n fl x y)
theorem r_X11_amountOf (w : gk_W c P cs (fun _ _ => none) rt uf sc K V) {idx : Nat} {e : Int32} {d : Int32} {f : Int32} {g : Nat → Int32} {ve : Int} {dd : Int} {rf : Bool} (hd : decode c pc = .ok (.invokevirtual idx, 3)) (hp : pc + 3 = pc2) (hc : cs idx = some (1, 10, 4, 0, S_X11_amountOf)) (h8 : Nat.ble (r.map Value.category).sum 8 = true) (hp0 : ∀ k, k < 186 → k ≠ 3 → x 190 k = g k) (hp1 : gWf g) (hp2 : e = gI ve) (hp3 : -990 ≤ ve ∧ ve ≤ 990) (hp4 : d = gI dd) (hp5 : 0 ≤ dd ∧ dd ≤ 65536) (hp6 : f = if rf then 1 else 0) (kk0 : V pc2 L ((.int (gI (gk_am (gSp g) (gz g 1) ve dd rf))) :: r) 202 gk_fT x y u) : V pc L (.int f :: .int d :: .int e :: .ref 189 :: r) 202 gk_fT x y u :=
  g_callv w hd hp hc (as := [.ref 189, .int e, .int d, .int f]) rfl h8 rfl rfl rfl (Or.inr (Or.inl ⟨Or.inl rfl, _, _, rfl, (gk_kd_j rfl rfl), rfl⟩)) (Or.inl rfl) ⟨e, d, f, g, ve, dd, rf, rfl, ⟨rfl, rfl⟩, hp0, hp1, hp2, hp3, hp4, hp5, hp6, kk0⟩
def L_X11_amountOf : List (Nat × gk_M0) := []
def cs_X11_amountOf : Nat → Option gk_M0 := gk_lk L_X11_amountOf
theorem m_X11_amountOf : ∀ (as : List Value) (n : Nat) (fl : gk_F) (x : gk_X) (y : gk_Y) (K : gk_K), S_X11_amountOf as n fl x y K → (gk_L0 as).length ≤ 5 ∧ ∀ V : gk_V, gk_W cX11_amountOf pX11 cs_X11_amountOf (fun _ _ => none) (some .int) 0 none K V → V 0 (gk_en as 5) [] n fl x y 0 := by
  intro as n fl x y K hS
  obtain ⟨e, d, f, g, ve, dd, rf, rfl, ⟨rfl, rfl⟩, hp0, hp1, hp2, hp3, hp4, hp5, hp6, q0⟩ := hS
  refine ⟨Nat.le_of_ble_eq_true rfl, fun V w => ?_⟩
  show V 0 [some (.ref 189), some (.int e), some (.int d), some (.int f), none] [] 202 gk_fT x y 0
  subst hp2 hp4 hp6
  obtain ⟨⟨-, hg, h2, -⟩, -⟩ := hp1
  have hb := am_b (sp := gSp g) (rf := false) hg hp3 hp5.1
  refine s_aload_n (pc2 := 1) w dX11_amountOf_0 rfl rfl ?_
  refine m_getR (pc2 := 4) (ci := 10) (k := 0) (j2 := 190) w dX11_amountOf_1 rfl rfl (by first | assumption | rfl) rfl rfl rfl ?_
  refine s_iconst (pc2 := 5) (v := gI 2) w dX11_amountOf_4 rfl rfl ?_
  refine m_ialoadN (pc2 := 6) (t := 2) (N := 2234) w dX11_amountOf_5 rfl (by first | assumption | rfl) rfl rfl (by decide) rfl ?_
  refine s_iconst (pc2 := 7) (v := gI 1) w dX11_amountOf_6 rfl rfl ?_
  refine s_ic_ne (pc2 := 10) (tgt := 24) w dX11_amountOf_7 rfl (by decide) (fun c7 => ?_) (fun c7 => ?_)
  · have es : gSp g = false := by unfold gSp; rw [← hp0 2 (by decide) (by decide)]; exact decide_eq_false c7
    rw [es] at q0 hb
    obtain ⟨z, hz⟩ : ∃ z, z = ve := ⟨_, rfl⟩
    replace hb : -990 ≤ z ∧ z ≤ 990 := by rw [hz]; exact hb
    rw [← hz]
    refine s_iload_n (pc2 := 25) w dX11_amountOf_24 rfl rfl ?_
    refine s_istore (pc2 := 27) w dX11_amountOf_25 rfl rfl ?_
    dsimp only [gk_s1, gk_s2, gk_cl]
    refine s_iload_n (pc2 := 28) w dX11_amountOf_27 rfl rfl ?_
    refine s_if_eq (pc2 := 31) (tgt := 46) w dX11_amountOf_28 rfl (by decide) (fun c28 => ?_) (fun c28 => ?_)
    · refine s_iload (pc2 := 48) w dX11_amountOf_46 rfl rfl ?_
      refine s_ireturn w dX11_amountOf_48 rfl rfl ?_
      have e := rf_0 c28
      subst e
      rw [hz]
      exact q0
    · refine s_iload (pc2 := 33) w dX11_amountOf_31 rfl rfl ?_
      refine s_aload_n (pc2 := 34) w dX11_amountOf_33 rfl rfl ?_
      refine m_getR (pc2 := 37) (ci := 10) (k := 0) (j2 := 190) w dX11_amountOf_34 rfl rfl (by first | assumption | rfl) rfl rfl rfl ?_
      refine s_iconst (pc2 := 38) (v := gI 1) w dX11_amountOf_37 rfl rfl ?_
      refine m_ialoadN (pc2 := 39) (t := 1) (N := 2234) w dX11_amountOf_38 rfl (by first | assumption | rfl) rfl rfl (by decide) rfl ?_
      refine s_imul (pc2 := 40) w dX11_amountOf_39 rfl ?_
      refine s_bipush (pc2 := 42) (v := gI 100) w dX11_amountOf_40 rfl rfl ?_
      refine s_idiv (pc2 := 43) w dX11_amountOf_42 rfl (by decide) ?_
      have h3 := gk_mulb (a := z) (b := gz g 1) (A := 990) (B := 90) (by omega) hb.2 (by omega) hg.2
      rw [hp0 1 (by decide) (by decide), gz_I g 1, gI_mul, gI_div ⟨by omega, by omega⟩ ⟨by omega, by omega⟩]
      refine s_goto (tgt := 48) w dX11_amountOf_43 (by decide) ?_
      refine s_ireturn w dX11_amountOf_48 rfl rfl ?_
      have e := rf_1 c28
      subst e
      rw [hz]
      exact q0
  · refine s_iload_n (pc2 := 11) w dX11_amountOf_10 rfl rfl ?_
    refine s_sipush (pc2 := 14) (v := gI 1000) w dX11_amountOf_11 rfl rfl ?_
    refine s_imul (pc2 := 15) w dX11_amountOf_14 rfl ?_
    refine s_sipush (pc2 := 18) (v := gI 1000) w dX11_amountOf_15 rfl rfl ?_
    refine s_iload_n (pc2 := 19) w dX11_amountOf_18 rfl rfl ?_
    refine s_iadd (pc2 := 20) w dX11_amountOf_19 rfl ?_
    refine s_idiv (pc2 := 21) w dX11_amountOf_20 rfl (by rw [gI_add, show (0 : Int32) = gI 0 from rfl, gI_eq ⟨by omega, by omega⟩ ⟨by omega, by omega⟩]; omega) ?_
    have es : gSp g = true := by unfold gSp; rw [← hp0 2 (by decide) (by decide)]; exact decide_eq_true c7
    rw [es] at q0 hb
    rw [gI_mul, gI_add, gI_div ⟨by omega, by omega⟩ ⟨by omega, by omega⟩]
    obtain ⟨z, hz⟩ : ∃ z, z = (ve * 1000).tdiv (1000 + dd) := ⟨_, rfl⟩
    replace hb : -990 ≤ z ∧ z ≤ 990 := by rw [hz]; exact hb
    rw [← hz]
    refine s_goto (tgt := 25) w dX11_amountOf_21 (by decide) ?_
    refine s_istore (pc2 := 27) w dX11_amountOf_25 rfl rfl ?_
    dsimp only [gk_s1, gk_s2, gk_cl]
    refine s_iload_n (pc2 := 28) w dX11_amountOf_27 rfl rfl ?_
    refine s_if_eq (pc2 := 31) (tgt := 46) w dX11_amountOf_28 rfl (by decide) (fun c28 => ?_) (fun c28 => ?_)
    · refine s_iload (pc2 := 48) w dX11_amountOf_46 rfl rfl ?_
      refine s_ireturn w dX11_amountOf_48 rfl rfl ?_
      have e := rf_0 c28
      subst e
      rw [hz]
      exact q0
    · refine s_iload (pc2 := 33) w dX11_amountOf_31 rfl rfl ?_
      refine s_aload_n (pc2 := 34) w dX11_amountOf_33 rfl rfl ?_
      refine m_getR (pc2 := 37) (ci := 10) (k := 0) (j2 := 190) w dX11_amountOf_34 rfl rfl (by first | assumption | rfl) rfl rfl rfl ?_
      refine s_iconst (pc2 := 38) (v := gI 1) w dX11_amountOf_37 rfl rfl ?_
      refine m_ialoadN (pc2 := 39) (t := 1) (N := 2234) w dX11_amountOf_38 rfl (by first | assumption | rfl) rfl rfl (by decide) rfl ?_
      refine s_imul (pc2 := 40) w dX11_amountOf_39 rfl ?_
      refine s_bipush (pc2 := 42) (v := gI 100) w dX11_amountOf_40 rfl rfl ?_
      refine s_idiv (pc2 := 43) w dX11_amountOf_42 rfl (by decide) ?_
      have h3 := gk_mulb (a := z) (b := gz g 1) (A := 990) (B := 90) (by omega) hb.2 (by omega) hg.2
      rw [hp0 1 (by decide) (by decide), gz_I g 1, gI_mul, gI_div ⟨by omega, by omega⟩ ⟨by omega, by omega⟩]
      refine s_goto (tgt := 48) w dX11_amountOf_43 (by decide) ?_
      refine s_ireturn w dX11_amountOf_48 rfl rfl ?_
      have e := rf_1 c28
      subst e
      rw [hz]
      exact q0
theorem lk_X11_amountOf {l : Launch} (hl : l.stackTraces = false) : ∀ q ∈ L_X11_amountOf, (q.2.1 < 5 → gk_Lk l RX11 gk_W1 0 q.1 q.2.1 q.2.2.1 q.2.2.2.1 q.2.2.2.2.1 q.2.2.2.2.2) := (fun _ h => absurd h List.not_mem_nil)
theorem sp_X11_amountOf : ∀ q ∈ L_X11_amountOf, gk_Sq RX11 gk_W1 0 q := (fun _ h => absurd h List.not_mem_nil)
theorem M_X11_amountOf {l : Launch} (hl : l.stackTraces = false) : gk_Mt l yX11_amountOf (.code yX11_amountOf cX11_amountOf 5 (some .int) :: gk_W1) 0 0 S_X11_amountOf := gk_meth hl gk_cw_ok (by decide +kernel) rfl m_X11_amountOf pX11_ok (gk_Sp_of sp_X11_amountOf) pX11_st (fun ci m S h => absurd h (by intro h; cases h)) (xf_X11 0) (fun idx kd ci mm cost S2 h h5 => lk_X11_amountOf hl _ (gk_lk_mem h) h5)

def S_X11_draw : gk_S := fun as n fl x y K => ∃ (b : Int32) (q : Int) (bb : Int), as = [.ref 189, .int b] ∧ (n = 202 ∧ fl = gk_fT) ∧ (x 190 3 = gI q) ∧ (0 ≤ q ∧ q < 2147483648) ∧ (b = gI bb) ∧ (1 ≤ bb ∧ bb ≤ 1000) ∧ (K (.inl (some (.int (gI (gk_nx q / 65536 % bb))))) n fl (gk_up x 190 3 (gI (gk_nx q))) y)
theorem r_X11_draw (w : gk_W c P cs (fun _ _ => none) rt uf sc K V) {idx : Nat} {b : Int32} {q : Int} {bb : Int} (hd : decode c pc = .ok (.invokevirtual idx, 3)) (hp : pc + 3 = pc2) (hc : cs idx = some (1, 10, 2, 0, S_X11_draw)) (h8 : Nat.ble (r.map Value.category).sum 8 = true) (hp0 : x 190 3 = gI q) (hp1 : 0 ≤ q ∧ q < 2147483648) (hp2 : b = gI bb) (hp3 : 1 ≤ bb ∧ bb ≤ 1000) (kk0 : V pc2 L ((.int (gI (gk_nx q / 65536 % bb))) :: r) 202 gk_fT (gk_up x 190 3 (gI (gk_nx q))) y u) : V pc L (.int b :: .ref 189 :: r) 202 gk_fT x y u :=
  g_callv w hd hp hc (as := [.ref 189, .int b]) rfl h8 rfl rfl rfl (Or.inr (Or.inl ⟨Or.inl rfl, _, _, rfl, (gk_kd_j rfl rfl), rfl⟩)) (Or.inl rfl) ⟨b, q, bb, rfl, ⟨rfl, rfl⟩, hp0, hp1, hp2, hp3, kk0⟩
def L_X11_draw : List (Nat × gk_M0) := []
def cs_X11_draw : Nat → Option gk_M0 := gk_lk L_X11_draw
theorem m_X11_draw : ∀ (as : List Value) (n : Nat) (fl : gk_F) (x : gk_X) (y : gk_Y) (K : gk_K), S_X11_draw as n fl x y K → (gk_L0 as).length ≤ 4 ∧ ∀ V : gk_V, gk_W cX11_draw pX11 cs_X11_draw (fun _ _ => none) (some .int) 0 none K V → V 0 (gk_en as 4) [] n fl x y 0 := by
  intro as n fl x y K hS
  obtain ⟨b, q, bb, rfl, ⟨rfl, rfl⟩, hp0, hp1, hp2, hp3, q0⟩ := hS
  refine ⟨Nat.le_of_ble_eq_true rfl, fun V w => ?_⟩
  show V 0 [some (.ref 189), some (.int b), none, none] [] 202 gk_fT x y 0
  subst hp2
  have hn := gk_nx_b q
  refine s_aload_n (pc2 := 1) w dX11_draw_0 rfl rfl ?_
  refine m_getR (pc2 := 4) (ci := 10) (k := 0) (j2 := 190) w dX11_draw_1 rfl rfl (by first | assumption | rfl) rfl rfl rfl ?_
  refine s_iconst (pc2 := 5) (v := gI 3) w dX11_draw_4 rfl rfl ?_
  refine m_ialoadN (pc2 := 6) (t := 3) (N := 2234) w dX11_draw_5 rfl (by first | assumption | rfl) rfl rfl (by decide) rfl ?_
  rw [hp0]
  refine s_i2l (pc2 := 7) w dX11_draw_6 rfl ?_
  rw [gIL ⟨by omega, by omega⟩]
  refine s_ldc2_w (pc2 := 10) (v := 1103515245) w dX11_draw_7 rfl rfl ?_
  refine s_lmul (pc2 := 11) w dX11_draw_10 rfl ?_
  refine s_ldc2_w (pc2 := 14) (v := 12345) w dX11_draw_11 rfl rfl ?_
  refine s_ladd (pc2 := 15) w dX11_draw_14 rfl ?_
  refine s_ldc2_w (pc2 := 18) (v := 2147483648) w dX11_draw_15 rfl rfl ?_
  refine s_lrem (pc2 := 19) w dX11_draw_18 rfl (by decide) ?_
  rw [show (1103515245 : Int64) = gL 1103515245 from rfl, show (12345 : Int64) = gL 12345 from rfl, show (2147483648 : Int64) = gL 2147483648 from rfl, gL_mul, gL_add, gL_rem ⟨by omega, by omega⟩ ⟨by omega, by omega⟩, Int.tmod_eq_emod_of_nonneg (by omega), show (q * 1103515245 + 12345) % 2147483648 = gk_nx q from rfl]
  refine s_lstore_n (pc2 := 20) (k2 := 2) w dX11_draw_19 rfl rfl rfl ?_
  dsimp only [gk_s1, gk_s2, gk_cl]
  refine s_aload_n (pc2 := 21) w dX11_draw_20 rfl rfl ?_
  refine m_getR (pc2 := 24) (ci := 10) (k := 0) (j2 := 190) w dX11_draw_21 rfl rfl (by first | assumption | rfl) rfl rfl rfl ?_
  refine s_iconst (pc2 := 25) (v := gI 3) w dX11_draw_24 rfl rfl ?_
  refine s_lload_n (pc2 := 26) w dX11_draw_25 rfl rfl ?_
  refine s_l2i (pc2 := 27) w dX11_draw_26 rfl ?_
  rw [gLI]
  refine m_iastoreN (pc2 := 28) (t := 3) (N := 2234) w dX11_draw_27 rfl (by first | assumption | rfl) rfl rfl (by decide) rfl ?_
  refine s_lload_n (pc2 := 29) w dX11_draw_28 rfl rfl ?_
  refine s_ldc2_w (pc2 := 32) (v := 65536) w dX11_draw_29 rfl rfl ?_
  refine s_ldiv (pc2 := 33) w dX11_draw_32 rfl (by decide) ?_
  refine s_iload_n (pc2 := 34) w dX11_draw_33 rfl rfl ?_
  refine s_i2l (pc2 := 35) w dX11_draw_34 rfl ?_
  rw [gIL ⟨by omega, by omega⟩, show (65536 : Int64) = gL 65536 from rfl, gL_div ⟨by omega, by omega⟩ ⟨by omega, by omega⟩, Int.tdiv_eq_ediv_of_nonneg (by omega)]
  refine s_lrem (pc2 := 36) w dX11_draw_35 rfl (by rw [show (0 : Int64) = gL 0 from rfl, gL_eq ⟨by omega, by omega⟩ ⟨by omega, by omega⟩]; omega) ?_
  rw [gL_rem ⟨by omega, by omega⟩ ⟨by omega, by omega⟩, Int.tmod_eq_emod_of_nonneg (by omega)]
  refine s_l2i (pc2 := 37) w dX11_draw_36 rfl ?_
  rw [gLI]
  refine s_ireturn w dX11_draw_37 rfl rfl ?_
  exact q0
theorem lk_X11_draw {l : Launch} (hl : l.stackTraces = false) : ∀ q ∈ L_X11_draw, (q.2.1 < 5 → gk_Lk l RX11 gk_W1 0 q.1 q.2.1 q.2.2.1 q.2.2.2.1 q.2.2.2.2.1 q.2.2.2.2.2) := (fun _ h => absurd h List.not_mem_nil)
theorem sp_X11_draw : ∀ q ∈ L_X11_draw, gk_Sq RX11 gk_W1 0 q := (fun _ h => absurd h List.not_mem_nil)
theorem M_X11_draw {l : Launch} (hl : l.stackTraces = false) : gk_Mt l yX11_draw (.code yX11_draw cX11_draw 4 (some .int) :: gk_W1) 0 0 S_X11_draw := gk_meth hl gk_cw_ok (by decide +kernel) rfl m_X11_draw pX11_ok (gk_Sp_of sp_X11_draw) pX11_st (fun ci m S h => absurd h (by intro h; cases h)) (xf_X11 0) (fun idx kd ci mm cost S2 h h5 => lk_X11_draw hl _ (gk_lk_mem h) h5)

end GKV

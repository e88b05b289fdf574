/-! THE METHODS, 28: the reference, its searches -/
section GKV
variable {c : ByteArray} {P : gk_C} {cs : Nat → Option gk_M0} {rt : Option FieldType} {uf : Nat} {sc : Option Nat} {K : gk_K} {V : gk_V}
variable {L : List (Option Value)} {r : List Value} {n : Nat} {fl : gk_F} {x : gk_X} {y : gk_Y} {u pc pc2 : Nat}
/-- the greatest of a row, the earliest of several: its label, its value -/
def gk_mx (E : Nat → Int64) (lb : Nat → Int32) (s : Int32 × Int64) : Nat → Int32 × Int64
  | 0 => s
  | n + 1 => if (gk_mx E lb s n).2 < E n then (lb n, E n) else gk_mx E lb s n
theorem mx_t {E : Nat → Int64} {lb : Nat → Int32} {s : Int32 × Int64} {n : Nat} (h : ¬ lg_cmp (E n) (gk_mx E lb s n).2 ≤ 0) : gk_mx E lb s (n + 1) = (lb n, E n) := by
  rw [lc_le, Int64.le_iff_toInt_le] at h
  exact if_pos (Int64.lt_iff_toInt_lt.mpr (by omega))
theorem mx_f {E : Nat → Int64} {lb : Nat → Int32} {s : Int32 × Int64} {n : Nat} (h : lg_cmp (E n) (gk_mx E lb s n).2 ≤ 0) : gk_mx E lb s (n + 1) = gk_mx E lb s n := by
  rw [lc_le, Int64.le_iff_toInt_le] at h
  exact if_neg (fun h2 => by rw [Int64.lt_iff_toInt_lt] at h2; omega)
theorem mx_1 {E : Nat → Int64} {lb : Nat → Int32} {s : Int32 × Int64} (h : s.2 < E 0) : gk_mx E lb s 1 = (lb 0, E 0) := if_pos h
theorem mx_s {E : Nat → Int64} {lb : Nat → Int32} {s s2 : Int32 × Int64} (h : s.2 < E 0) (h2 : s2.2 < E 0) : ∀ n, gk_mx E lb s (n + 1) = gk_mx E lb s2 (n + 1)
  | 0 => (mx_1 h).trans (mx_1 h2).symm
  | n + 1 => by
    show (if (gk_mx E lb s (n + 1)).2 < E (n + 1) then (lb (n + 1), E (n + 1)) else gk_mx E lb s (n + 1)) = if (gk_mx E lb s2 (n + 1)).2 < E (n + 1) then (lb (n + 1), E (n + 1)) else gk_mx E lb s2 (n + 1)
    rw [mx_s h h2 n]
theorem mx_min {E : Nat → Int64} {lb : Nat → Int32} {a : Int32} (h : lb 0 = a) : gk_mx E lb (a, -9223372036854775808) 1 = (a, E 0) := by
  unfold gk_mx
  split
  · rw [h]
  · rename_i h2
    have h3 : ¬ (-9223372036854775808 : Int64) < E 0 := h2
    rw [Int64.lt_iff_toInt_lt] at h3
    have h4 := Int64.le_toInt (E 0)
    have h5 : (-9223372036854775808 : Int64).toInt = -9223372036854775808 := by decide
    show (a, (-9223372036854775808 : Int64)) = (a, E 0)
    rw [show E 0 = -9223372036854775808 from Int64.toInt_inj.mp (by omega)]
theorem E_pos {z : Int} (h : 0 ≤ z) (h2 : z ≤ 20000000000000000) : (-1 : Int64) < gL z := by
  rw [show (-1 : Int64) = gL (-1) from rfl, gL_lt ⟨by omega, by omega⟩ ⟨by omega, by omega⟩]
  omega
theorem gC_p {g : Nat → Int32} (hr : gWr g) {m : Nat} (hm : m < nM g) {a b : Nat} (hb : b < 256) : (-1 : Int64) < gL (gE (gC g m) a b) := by
  have := gE_b (fun k hk => gC_b hr hm hk) (a := a) hb
  exact E_pos this.1 this.2
theorem gB_p {g : Nat → Int32} (hw : gWf g) (hr : gWr g) {B : Int} (hB : -2000 ≤ B ∧ B ≤ 2000) {a b : Nat} (hb : b < 256) : (-1 : Int64) < gL (gE (gB g B) a b) := by
  have := gE_b (fun k hk => gB_b hw hr hB hk) (a := a) hb
  exact E_pos this.1 this.2
theorem gD_p {g : Nat → Int32} (hw : gWf g) (hr : gWr g) (D : Int) {a b : Nat} (hb : b < 256) : (-1 : Int64) < gL (gE (gD g D) a b) := by
  have := gE_b (fun k hk => gD_b hw hr D k) (a := a) hb
  exact E_pos this.1 this.2
/-- the strength of a period -/
def gS (r : Nat → Int32) (a b p : Nat) : Int64 := gL (gk_pw (gJ r) a p (b + 1 - a) p * (p : Int)) / gL ((b : Int) - (a : Int) + 1)
theorem gS_p {r : Nat → Int32} (h : ∀ k, k < 256 → -8640000 ≤ (r k).toInt ∧ (r k).toInt ≤ 8640000) {a b : Nat} (hab : a ≤ b) (hb : b < 256) : (-1 : Int64) < gS r a b 1 := by
  have h1 := fd1_b (r := gJ r) (a := a) (V := 8640000) (b + 1 - a) (fun k h1 h2 => h k (by omega))
  have h3 := gk_sqb (a := gk_fd (gJ r) a 1 0 (b + 1 - a)) (A := 2211840000) (by omega) (by omega)
  have h4 : gk_pw (gJ r) a 1 (b + 1 - a) 1 * ((1 : Nat) : Int) = gk_fd (gJ r) a 1 0 (b + 1 - a) * gk_fd (gJ r) a 1 0 (b + 1 - a) := by
    show (0 + _) * (1 : Int) = _
    rw [Int.mul_one, Int.zero_add]
  unfold gS
  rw [h4]
  generalize gk_fd (gJ r) a 1 0 (b + 1 - a) * gk_fd (gJ r) a 1 0 (b + 1 - a) = z at h3
  rw [gL_div ⟨by omega, by omega⟩ ⟨by omega, by omega⟩, show (-1 : Int64) = gL (-1) from rfl]
  have h5 : 0 ≤ z.tdiv ((b : Int) - (a : Int) + 1) := Int.tdiv_nonneg h3.1 (by omega)
  have h6 : z.tdiv ((b : Int) - (a : Int) + 1) ≤ z := Int.tdiv_le_self _ h3.1
  rw [gL_lt ⟨by omega, by omega⟩ ⟨by omega, by omega⟩]
  omega
/-- outward: 0, -1, 1, -2, 2 .. -/
def ow (t : Nat) : Int := if (t : Int) % 2 = 0 then -((t : Int) / 2) else (t : Int) / 2
theorem ow_e (s : Nat) : ow (2 * s) = -(s : Int) := by
  unfold ow
  rw [if_pos (by omega)]
  omega
theorem ow_o (s : Nat) : ow (2 * s + 1) = (s : Int) := by
  unfold ow
  rw [if_neg (by omega)]
  omega
/-- the nearest of a row of distances -/
def gk_mn (D : Nat → Int32) (s : Int32 × Int32) : Nat → Int32 × Int32
  | 0 => s
  | n + 1 => if D n < (gk_mn D s n).2 then (nI n, D n) else gk_mn D s n
theorem mn_t {D : Nat → Int32} {s : Int32 × Int32} {n : Nat} (h : ¬ (gk_mn D s n).2 ≤ D n) : gk_mn D s (n + 1) = (nI n, D n) := if_pos (g_nle.mp h)
theorem mn_f {D : Nat → Int32} {s : Int32 × Int32} {n : Nat} (h : (gk_mn D s n).2 ≤ D n) : gk_mn D s (n + 1) = gk_mn D s n := if_neg (g_nlt.mpr h)
/-- how far a vehicle is from a microphone -/
def dP (g : Nat → Int32) (v m t : Nat) : Int32 := if (0 : Int32) ≤ gI (gz g (16 + 3 * v + 0) + gz g (16 + 3 * v + 1) * (t : Int) - gz g (154 + 4 * m + 0)) then gI (gz g (16 + 3 * v + 0) + gz g (16 + 3 * v + 1) * (t : Int) - gz g (154 + 4 * m + 0)) else 0 - gI (gz g (16 + 3 * v + 0) + gz g (16 + 3 * v + 1) * (t : Int) - gz g (154 + 4 * m + 0))
theorem dP_0 {g : Nat → Int32} (hw : gWf g) {v m : Nat} (hv : v < nV g) (hm : m < nM g) : dP g v m 0 < 2147483647 := by
  obtain ⟨v1, v2, v3⟩ := hw.2.1 v hv
  obtain ⟨m1, -⟩ := hw.2.2.2.1 m hm
  unfold dP
  rw [show (2147483647 : Int32) = gI 2147483647 from rfl, show (0 : Int32) = gI 0 from rfl]
  split
  · rw [gI_lt ⟨by omega, by omega⟩ ⟨by omega, by omega⟩]; omega
  · rw [gI_sub, gI_lt ⟨by omega, by omega⟩ ⟨by omega, by omega⟩]; omega
theorem ix_q {v : Int32} (h : 1 ≤ v ∧ v ≤ 256) : ∃ n : Nat, v = nI n ∧ 1 ≤ n ∧ n ≤ 256 := by
  obtain ⟨z, rfl, hz⟩ := gI_ex v
  have h1 := (gI_le (b := 256) hz ⟨by decide, by decide⟩).mp h.2
  have h2 := (gI_le (a := 1) ⟨by decide, by decide⟩ hz).mp h.1
  exact ⟨z.toNat, by rw [gI_nI]; exact congrArg gI (by omega), by omega, by omega⟩
theorem ix_h {v : Int32} (h : 1 ≤ v ∧ v ≤ 100) : ∃ n : Nat, v = nI n ∧ 1 ≤ n ∧ n ≤ 100 := by
  obtain ⟨n, h1, h2, h3⟩ := ix_q ⟨h.1, Int32.le_trans h.2 (by decide)⟩
  subst h1
  have h4 := (gI_le (a := (n : Int)) (b := 100) ⟨by omega, by omega⟩ ⟨by decide, by decide⟩).mp h.2
  exact ⟨n, rfl, h2, by omega⟩
def S_X11_loudestWindow : gk_S := fun as n fl x y K => ∃ (m : Int32) (v : Int32) (g : Nat → Int32), as = [.ref 189, .int m, .int v] ∧ (n = 202 ∧ fl = gk_fT) ∧ (MG g x) ∧ (gOK g) ∧ ((0 ≤ m ∧ m < g 8) → (1 ≤ v ∧ v ≤ 256) → ∀ (x2 : gk_X) (y2 : gk_Y), MOk g 0 x x2 y y2 → K (.inl (some (.int ((gk_mx (fun n => gL (gE (gC g (cN m)) n (n + cN v - 1))) nI (0, -1) (257 - cN v)).1)))) n fl x2 y2) ∧ (¬ (0 ≤ m ∧ m < g 8) → ∀ (x2 : gk_X) (y2 : gk_Y), MOk g 1 x x2 y y2 → K (.inl (some (.int 0))) n fl x2 y2) ∧ ((0 ≤ m ∧ m < g 8) → ¬ (1 ≤ v ∧ v ≤ 256) → ∀ (x2 : gk_X) (y2 : gk_Y), MOk g 2 x x2 y y2 → K (.inl (some (.int 0))) n fl x2 y2)
theorem r_X11_loudestWindow (w : gk_W c P cs (fun _ _ => none) rt uf sc K V) {idx : Nat} {m : Int32} {v : Int32} {g : Nat → Int32} (hd : decode c pc = .ok (.invokevirtual idx, 3)) (hp : pc + 3 = pc2) (hc : cs idx = some (1, 10, 3, 0, S_X11_loudestWindow)) (h8 : Nat.ble (r.map Value.category).sum 8 = true) (hp0 : MG g x) (hp1 : gOK g) (kk0 : (0 ≤ m ∧ m < g 8) → (1 ≤ v ∧ v ≤ 256) → ∀ (x2 : gk_X) (y2 : gk_Y), MOk g 0 x x2 y y2 → V pc2 L ((.int ((gk_mx (fun n => gL (gE (gC g (cN m)) n (n + cN v - 1))) nI (0, -1) (257 - cN v)).1)) :: r) 202 gk_fT x2 y2 u) (kk1 : ¬ (0 ≤ m ∧ m < g 8) → ∀ (x2 : gk_X) (y2 : gk_Y), MOk g 1 x x2 y y2 → V pc2 L ((.int 0) :: r) 202 gk_fT x2 y2 u) (kk2 : (0 ≤ m ∧ m < g 8) → ¬ (1 ≤ v ∧ v ≤ 256) → ∀ (x2 : gk_X) (y2 : gk_Y), MOk g 2 x x2 y y2 → V pc2 L ((.int 0) :: r) 202 gk_fT x2 y2 u) : V pc L (.int v :: .int m :: .ref 189 :: r) 202 gk_fT x y u :=
  g_callv w hd hp hc (as := [.ref 189, .int m, .int v]) rfl h8 rfl rfl rfl (Or.inr (Or.inl ⟨Or.inl rfl, _, _, rfl, (gk_kd_j rfl rfl), rfl⟩)) (Or.inl rfl) ⟨m, v, g, rfl, ⟨rfl, rfl⟩, hp0, hp1, kk0, kk1, kk2⟩
def L_X11_loudestWindow : List (Nat × gk_M0) := [(52, (0, 10, 3, 0, S_X11_isBetween)), (64, (1, 10, 2, 0, S_X11_fail)), (106, (1, 10, 2, 0, S_X11_isMicrophone)), (184, (1, 10, 3, 0, S_X11_energyOf)), (204, (1, 10, 2, 0, S_X11_layRecord))]
def cs_X11_loudestWindow : Nat → Option gk_M0 := gk_lk L_X11_loudestWindow
theorem m_X11_loudestWindow : ∀ (as : List Value) (n : Nat) (fl : gk_F) (x : gk_X) (y : gk_Y) (K : gk_K), S_X11_loudestWindow as n fl x y K → (gk_L0 as).length ≤ 9 ∧ ∀ V : gk_V, gk_W cX11_loudestWindow pX11 cs_X11_loudestWindow (fun _ _ => none) (some .int) 0 none K V → V 0 (gk_en as 9) [] n fl x y 0 := by
  intro as n fl x y K hS
  obtain ⟨m, v, g, rfl, ⟨rfl, rfl⟩, hp0, hp1, q0, q1, q2⟩ := hS
  refine ⟨Nat.le_of_ble_eq_true rfl, fun V w => ?_⟩
  show V 0 [some (.ref 189), some (.int m), some (.int v), none, none, none, none, none, none] [] 202 gk_fT x y 0
  obtain ⟨nv4, ns6, nm8, z6, z7, z8⟩ := wf_n hp1.1
  have w6 : 0 ≤ (g 6).toInt := by show 0 ≤ gz g 6; omega
  have w7 : 0 ≤ (g 7).toInt := by show 0 ≤ gz g 7; omega
  have w8 : 0 ≤ (g 8).toInt := by show 0 ≤ gz g 8; omega
  refine s_aload_n (pc2 := 1) w dX11_loudestWindow_0 rfl rfl ?_
  refine s_iconst (pc2 := 2) (v := 0) w dX11_loudestWindow_1 rfl rfl ?_
  refine m_putI (pc2 := 5) (ci := 10) (k := 4) w dX11_loudestWindow_2 rfl rfl rfl rfl rfl (by intro h; cases h) ?_
  have f0 := MOk.ini (y := y) hp0
  generalize gk_up x 189 4 0 = x0 at f0 ⊢
  refine s_aload_n (pc2 := 6) w dX11_loudestWindow_5 rfl rfl ?_
  refine s_iload_n (pc2 := 7) w dX11_loudestWindow_6 rfl rfl ?_
  refine r_X11_isMicrophone (pc2 := 10) w dX11_loudestWindow_7 rfl rfl rfl ?_
  rw [f0.1 8 (by decide), isn_e w8]
  refine s_if_ne (pc2 := 13) (tgt := 19) w dX11_loudestWindow_10 rfl (by decide) (fun c10 => ?_) (fun c10 => ?_)
  · rw [g_b0, Classical.not_not] at c10
    refine s_iload_n (pc2 := 20) w dX11_loudestWindow_19 rfl rfl ?_
    refine s_iconst (pc2 := 21) (v := 1) w dX11_loudestWindow_20 rfl rfl ?_
    refine s_sipush (pc2 := 24) (v := 256) w dX11_loudestWindow_21 rfl rfl ?_
    refine r_X11_isBetween (pc2 := 27) w dX11_loudestWindow_24 rfl rfl rfl ?_
    refine s_if_ne (pc2 := 30) (tgt := 36) w dX11_loudestWindow_27 rfl (by decide) (fun c27 => ?_) (fun c27 => ?_)
    · rw [g_b0, Classical.not_not] at c27
      obtain ⟨a, rfl, ah⟩ := ix_n c10
      have ah : a < nM g := ah
      obtain ⟨wn, rfl, wh1, wh2⟩ := ix_q c27
      rw [cN_n a (by omega), cN_n wn (by omega)] at q0
      refine s_aload_n (pc2 := 37) w dX11_loudestWindow_36 rfl rfl ?_
      refine s_iload_n (pc2 := 38) w dX11_loudestWindow_37 rfl rfl ?_
      refine r_X11_layRecord (pc2 := 41) w dX11_loudestWindow_38 rfl rfl rfl rfl (by omega) ?_
      have f1 : MOk g 0 x (gk_ur x0 196 (fun k => x0 190 (186 + 256 * a + k)) 256) y y := f0.ur (by decide)
      have hr : ∀ k, k < 256 → gk_ur x0 196 (fun k => x0 190 (186 + 256 * a + k)) 256 196 k = gC g a k := fun k hk => (gk_ur_in hk).trans (f0.1 _ (by omega))
      generalize gk_ur x0 196 (fun k => x0 190 (186 + 256 * a + k)) 256 = x1 at f1 hr ⊢
      refine s_iconst (pc2 := 42) (v := 0) w dX11_loudestWindow_41 rfl rfl ?_
      refine s_istore_n (pc2 := 43) (k2 := 3) w dX11_loudestWindow_42 rfl rfl rfl ?_
      dsimp only [gk_s1, gk_s2, gk_cl]
      refine s_ldc2_w (pc2 := 46) (v := (-1)) w dX11_loudestWindow_43 rfl rfl ?_
      refine s_lstore (pc2 := 48) w dX11_loudestWindow_46 rfl rfl ?_
      dsimp only [gk_s1, gk_s2, gk_cl]
      refine s_iconst (pc2 := 49) (v := 0) w dX11_loudestWindow_48 rfl rfl ?_
      refine s_istore (pc2 := 51) w dX11_loudestWindow_49 rfl rfl ?_
      dsimp only [gk_s1, gk_s2, gk_cl]
      have key : ∀ (k n : Nat) (l7 l8 : Option Value), n + k = 257 - wn → V 51 [some (.ref 189), some (.int (nI a)), some (.int (nI wn)), some (.int (gk_mx (fun n => gL (gE (gC g a) n (n + wn - 1))) nI (0, -1) n).1), some (.long (gk_mx (fun n => gL (gE (gC g a) n (n + wn - 1))) nI (0, -1) n).2), none, some (.int (nI n)), l7, l8] [] 202 gk_fT x1 y 0 := by
        intro k
        induction k with
        | zero =>
          intro n l7 l8 ht
          obtain rfl : n = 257 - wn := by omega
          have ew : nI (257 - wn) + nI wn = gI (((257 - wn : Nat) : Int) + (wn : Int)) := gI_add ((257 - wn : Nat) : Int) (wn : Int)
          refine s_iload (pc2 := 53) w dX11_loudestWindow_51 rfl rfl ?_
          refine s_iload_n (pc2 := 54) w dX11_loudestWindow_53 rfl rfl ?_
          refine s_iadd (pc2 := 55) w dX11_loudestWindow_54 rfl ?_
          rw [ew]
          refine s_sipush (pc2 := 58) (v := gI 256) w dX11_loudestWindow_55 rfl rfl ?_
          refine s_ic_gt (pc2 := 61) (tgt := 96) w dX11_loudestWindow_58 rfl (by decide) (fun _ => ?_) (fun h0 => absurd (by rw [gI_lt ⟨by omega, by omega⟩ ⟨by omega, by omega⟩]; omega) h0)
          refine s_iload_n (pc2 := 97) w dX11_loudestWindow_96 rfl rfl ?_
          refine s_ireturn w dX11_loudestWindow_97 rfl rfl ?_
          exact q0 c10 c27 _ _ f1
        | succ k ih =>
          intro n l7 l8 ht
          have ew : nI n + nI wn = gI ((n : Int) + (wn : Int)) := gI_add (n : Int) (wn : Int)
          have ew2 : gI ((n : Int) + (wn : Int)) - gI 1 = nI (n + wn - 1) := (gI_sub _ _).trans (congrArg gI (show (n : Int) + (wn : Int) - 1 = ((n + wn - 1 : Nat) : Int) by omega))
          have ih9 := ih (n + 1) (some (.long (gL (gE (gC g a) n (n + wn - 1))))) none (by omega)
          refine s_iload (pc2 := 53) w dX11_loudestWindow_51 rfl rfl ?_
          refine s_iload_n (pc2 := 54) w dX11_loudestWindow_53 rfl rfl ?_
          refine s_iadd (pc2 := 55) w dX11_loudestWindow_54 rfl ?_
          rw [ew]
          refine s_sipush (pc2 := 58) (v := gI 256) w dX11_loudestWindow_55 rfl rfl ?_
          refine s_ic_gt (pc2 := 61) (tgt := 96) w dX11_loudestWindow_58 rfl (by decide) (fun h0 => absurd h0 (by rw [gI_lt ⟨by omega, by omega⟩ ⟨by omega, by omega⟩]; omega)) (fun _ => ?_)
          refine s_aload_n (pc2 := 62) w dX11_loudestWindow_61 rfl rfl ?_
          refine s_iload (pc2 := 64) w dX11_loudestWindow_62 rfl rfl ?_
          refine s_iload (pc2 := 66) w dX11_loudestWindow_64 rfl rfl ?_
          refine s_iload_n (pc2 := 67) w dX11_loudestWindow_66 rfl rfl ?_
          refine s_iadd (pc2 := 68) w dX11_loudestWindow_67 rfl ?_
          rw [ew]
          refine s_iconst (pc2 := 69) (v := gI 1) w dX11_loudestWindow_68 rfl rfl ?_
          refine s_isub (pc2 := 70) w dX11_loudestWindow_69 rfl ?_
          rw [ew2]
          refine r_X11_energyOf (pc2 := 73) w dX11_loudestWindow_70 rfl rfl rfl rfl rfl (by omega) (by omega) ?_
          rw [row_eI hr (a := n) (b := n + wn - 1) (by omega)]
          refine s_lstore (pc2 := 75) w dX11_loudestWindow_73 rfl rfl ?_
          dsimp only [gk_s1, gk_s2, gk_cl]
          refine s_lload (pc2 := 77) w dX11_loudestWindow_75 rfl rfl ?_
          refine s_lload (pc2 := 79) w dX11_loudestWindow_77 rfl rfl ?_
          refine s_lcmp (pc2 := 80) w dX11_loudestWindow_79 rfl ?_
          refine s_if_le (pc2 := 83) (tgt := 90) w dX11_loudestWindow_80 rfl (by decide) (fun c80 => ?_) (fun c80 => ?_)
          · refine s_iinc (pc2 := 93) w dX11_loudestWindow_90 rfl rfl rfl rfl ?_
            dsimp only [gk_s1, gk_s2, gk_cl]
            rw [nI_s]
            refine s_goto (tgt := 51) w dX11_loudestWindow_93 (by decide) ?_
            rw [mx_f c80] at ih9
            exact ih9
          · refine s_iload (pc2 := 85) w dX11_loudestWindow_83 rfl rfl ?_
            refine s_istore_n (pc2 := 86) (k2 := 3) w dX11_loudestWindow_85 rfl rfl rfl ?_
            dsimp only [gk_s1, gk_s2, gk_cl]
            refine s_lload (pc2 := 88) w dX11_loudestWindow_86 rfl rfl ?_
            refine s_lstore (pc2 := 90) w dX11_loudestWindow_88 rfl rfl ?_
            dsimp only [gk_s1, gk_s2, gk_cl]
            refine s_iinc (pc2 := 93) w dX11_loudestWindow_90 rfl rfl rfl rfl ?_
            dsimp only [gk_s1, gk_s2, gk_cl]
            rw [nI_s]
            refine s_goto (tgt := 51) w dX11_loudestWindow_93 (by decide) ?_
            rw [mx_t c80] at ih9
            exact ih9
      exact key (257 - wn) 0 none none (by omega)
    · refine s_aload_n (pc2 := 31) w dX11_loudestWindow_30 rfl rfl ?_
      refine s_iconst (pc2 := 32) (v := gI 2) w dX11_loudestWindow_31 rfl rfl ?_
      refine r_X11_fail (pc2 := 35) w dX11_loudestWindow_32 rfl rfl rfl ?_
      refine s_ireturn w dX11_loudestWindow_35 rfl rfl ?_
      rw [g_b0] at c27
      exact q2 c10 (fun hc => c27 hc) _ _ (f0.fail 2)
  · refine s_aload_n (pc2 := 14) w dX11_loudestWindow_13 rfl rfl ?_
    refine s_iconst (pc2 := 15) (v := gI 1) w dX11_loudestWindow_14 rfl rfl ?_
    refine r_X11_fail (pc2 := 18) w dX11_loudestWindow_15 rfl rfl rfl ?_
    refine s_ireturn w dX11_loudestWindow_18 rfl rfl ?_
    rw [g_b0] at c10
    exact q1  (fun hc => c10 hc) _ _ (f0.fail 1)
theorem lk_X11_loudestWindow {l : Launch} (hl : l.stackTraces = false) : ∀ q ∈ L_X11_loudestWindow, (q.2.1 < 5 → gk_Lk l RX11 gk_W1 4 q.1 q.2.1 q.2.2.1 q.2.2.2.1 q.2.2.2.2.1 q.2.2.2.2.2) := (List.forall_mem_cons.mpr ⟨(fun _ => ⟨yX11_isBetween, cX11_isBetween, 3, (some .boolean), 0, _, M_X11_isBetween hl, ⟨by decide, by decide⟩, ⟨by decide, by decide, by decide +kernel⟩, ⟨(gk_wm 1334 (by decide +kernel)), (gk_wm 99 (by decide +kernel))⟩, Or.inl ⟨rfl, rfl, (gk_wm 1333 (by decide +kernel)), gk_wm 1332 (by decide +kernel)⟩⟩), (List.forall_mem_cons.mpr ⟨(fun _ => ⟨yX11_fail, cX11_fail, 2, (some .int), 0, _, M_X11_fail hl, ⟨by decide, by decide⟩, ⟨by decide, by decide, by decide +kernel⟩, ⟨(gk_wm 1342 (by decide +kernel)), (gk_wm 99 (by decide +kernel))⟩, Or.inr (Or.inr (Or.inr (Or.inl ⟨rfl, rfl, (gk_wm 1341 (by decide +kernel)), (gk_wm 32 (by decide +kernel)), gk_wm 1339 (by decide +kernel), by decide, rfl⟩)))⟩), (List.forall_mem_cons.mpr ⟨(fun _ => ⟨yX11_isMicrophone, cX11_isMicrophone, 2, (some .boolean), 1, _, M_X11_isMicrophone hl, ⟨by decide, by decide⟩, ⟨by decide, by decide, by decide +kernel⟩, ⟨(gk_wm 1421 (by decide +kernel)), (gk_wm 99 (by decide +kernel))⟩, Or.inr (Or.inr (Or.inr (Or.inl ⟨rfl, rfl, (gk_wm 1420 (by decide +kernel)), (gk_wm 40 (by decide +kernel)), gk_wm 1418 (by decide +kernel), by decide, rfl⟩)))⟩), (List.forall_mem_cons.mpr ⟨(fun _ => ⟨yX11_energyOf, cX11_energyOf, 6, (some .long), 0, _, M_X11_energyOf hl, ⟨by decide, by decide⟩, ⟨by decide, by decide, by decide +kernel⟩, ⟨(gk_wm 1537 (by decide +kernel)), (gk_wm 99 (by decide +kernel))⟩, Or.inr (Or.inr (Or.inr (Or.inl ⟨rfl, rfl, (gk_wm 1536 (by decide +kernel)), (gk_wm 57 (by decide +kernel)), gk_wm 1534 (by decide +kernel), by decide, rfl⟩)))⟩), (List.forall_mem_cons.mpr ⟨(fun _ => ⟨yX11_layRecord, cX11_layRecord, 3, none, 3, _, M_X11_layRecord hl, ⟨by decide, by decide⟩, ⟨by decide, by decide, by decide +kernel⟩, ⟨(gk_wm 1529 (by decide +kernel)), (gk_wm 99 (by decide +kernel))⟩, Or.inr (Or.inr (Or.inr (Or.inl ⟨rfl, rfl, (gk_wm 1528 (by decide +kernel)), (gk_wm 55 (by decide +kernel)), gk_wm 1526 (by decide +kernel), by decide, rfl⟩)))⟩), (fun _ h => absurd h List.not_mem_nil)⟩)⟩)⟩)⟩)⟩)
theorem sp_X11_loudestWindow : ∀ q ∈ L_X11_loudestWindow, gk_Sq RX11 gk_W1 4 q := (List.forall_mem_cons.mpr ⟨⟨fun h => absurd h (by decide), fun h => absurd h (by decide), fun h => absurd h (by decide), fun h => absurd h (by decide), fun h => absurd h (by decide), fun h => absurd h (by decide)⟩, (List.forall_mem_cons.mpr ⟨⟨fun h => absurd h (by decide), fun h => absurd h (by decide), fun h => absurd h (by decide), fun h => absurd h (by decide), fun h => absurd h (by decide), fun h => absurd h (by decide)⟩, (List.forall_mem_cons.mpr ⟨⟨fun h => absurd h (by decide), fun h => absurd h (by decide), fun h => absurd h (by decide), fun h => absurd h (by decide), fun h => absurd h (by decide), fun h => absurd h (by decide)⟩, (List.forall_mem_cons.mpr ⟨⟨fun h => absurd h (by decide), fun h => absurd h (by decide), fun h => absurd h (by decide), fun h => absurd h (by decide), fun h => absurd h (by decide), fun h => absurd h (by decide)⟩, (List.forall_mem_cons.mpr ⟨⟨fun h => absurd h (by decide), fun h => absurd h (by decide), fun h => absurd h (by decide), fun h => absurd h (by decide), fun h => absurd h (by decide), fun h => absurd h (by decide)⟩, (fun _ h => absurd h List.not_mem_nil)⟩)⟩)⟩)⟩)⟩)
theorem M_X11_loudestWindow {l : Launch} (hl : l.stackTraces = false) : gk_Mt l yX11_loudestWindow (.code yX11_loudestWindow cX11_loudestWindow 9 (some .int) :: gk_W1) 4 0 S_X11_loudestWindow := gk_meth hl gk_cw_ok (by decide +kernel) rfl m_X11_loudestWindow pX11_ok (gk_Sp_of sp_X11_loudestWindow) pX11_st (fun ci m S h => absurd h (by intro h; cases h)) (xf_X11 4) (fun idx kd ci mm cost S2 h h5 => lk_X11_loudestWindow hl _ (gk_lk_mem h) h5)

def S_X11_loudestMicrophone : gk_S := fun as n fl x y K => ∃ (f : Int32) (l : Int32) (g : Nat → Int32), as = [.ref 189, .int f, .int l] ∧ (n = 202 ∧ fl = gk_fT) ∧ (MG g x) ∧ (gOK g) ∧ ((0 ≤ f ∧ f ≤ l ∧ l ≤ 255) → ∀ (x2 : gk_X) (y2 : gk_Y), MOk g 0 x x2 y y2 → K (.inl (some (.int ((gk_mx (fun n => gL (gE (gC g n) (cN f) (cN l))) nI (-1, -1) (nM g)).1)))) n fl x2 y2) ∧ (¬ (0 ≤ f ∧ f ≤ l ∧ l ≤ 255) → ∀ (x2 : gk_X) (y2 : gk_Y), MOk g 1 x x2 y y2 → K (.inl (some (.int 0))) n fl x2 y2)
theorem r_X11_loudestMicrophone (w : gk_W c P cs (fun _ _ => none) rt uf sc K V) {idx : Nat} {f : Int32} {l : Int32} {g : Nat → Int32} (hd : decode c pc = .ok (.invokevirtual idx, 3)) (hp : pc + 3 = pc2) (hc : cs idx = some (1, 10, 3, 0, S_X11_loudestMicrophone)) (h8 : Nat.ble (r.map Value.category).sum 8 = true) (hp0 : MG g x) (hp1 : gOK g) (kk0 : (0 ≤ f ∧ f ≤ l ∧ l ≤ 255) → ∀ (x2 : gk_X) (y2 : gk_Y), MOk g 0 x x2 y y2 → V pc2 L ((.int ((gk_mx (fun n => gL (gE (gC g n) (cN f) (cN l))) nI (-1, -1) (nM g)).1)) :: r) 202 gk_fT x2 y2 u) (kk1 : ¬ (0 ≤ f ∧ f ≤ l ∧ l ≤ 255) → ∀ (x2 : gk_X) (y2 : gk_Y), MOk g 1 x x2 y y2 → V pc2 L ((.int 0) :: r) 202 gk_fT x2 y2 u) : V pc L (.int l :: .int f :: .ref 189 :: r) 202 gk_fT x y u :=
  g_callv w hd hp hc (as := [.ref 189, .int f, .int l]) rfl h8 rfl rfl rfl (Or.inr (Or.inl ⟨Or.inl rfl, _, _, rfl, (gk_kd_j rfl rfl), rfl⟩)) (Or.inl rfl) ⟨f, l, g, rfl, ⟨rfl, rfl⟩, hp0, hp1, kk0, kk1⟩
def L_X11_loudestMicrophone : List (Nat × gk_M0) := [(64, (1, 10, 2, 0, S_X11_fail)), (184, (1, 10, 3, 0, S_X11_energyOf)), (200, (0, 10, 2, 0, S_X11_isWindow)), (204, (1, 10, 2, 0, S_X11_layRecord))]
def cs_X11_loudestMicrophone : Nat → Option gk_M0 := gk_lk L_X11_loudestMicrophone
theorem m_X11_loudestMicrophone : ∀ (as : List Value) (n : Nat) (fl : gk_F) (x : gk_X) (y : gk_Y) (K : gk_K), S_X11_loudestMicrophone as n fl x y K → (gk_L0 as).length ≤ 9 ∧ ∀ V : gk_V, gk_W cX11_loudestMicrophone pX11 cs_X11_loudestMicrophone (fun _ _ => none) (some .int) 0 none K V → V 0 (gk_en as 9) [] n fl x y 0 := by
  intro as n fl x y K hS
  obtain ⟨f, l, g, rfl, ⟨rfl, rfl⟩, hp0, hp1, q0, q1⟩ := hS
  refine ⟨Nat.le_of_ble_eq_true rfl, fun V w => ?_⟩
  show V 0 [some (.ref 189), some (.int f), some (.int l), none, none, none, none, none, none] [] 202 gk_fT x y 0
  obtain ⟨nv4, ns6, nm8, z6, z7, z8⟩ := wf_n hp1.1
  have w6 : 0 ≤ (g 6).toInt := by show 0 ≤ gz g 6; omega
  have w7 : 0 ≤ (g 7).toInt := by show 0 ≤ gz g 7; omega
  have w8 : 0 ≤ (g 8).toInt := by show 0 ≤ gz g 8; omega
  refine s_aload_n (pc2 := 1) w dX11_loudestMicrophone_0 rfl rfl ?_
  refine s_iconst (pc2 := 2) (v := 0) w dX11_loudestMicrophone_1 rfl rfl ?_
  refine m_putI (pc2 := 5) (ci := 10) (k := 4) w dX11_loudestMicrophone_2 rfl rfl rfl rfl rfl (by intro h; cases h) ?_
  have f0 := MOk.ini (y := y) hp0
  generalize gk_up x 189 4 0 = x0 at f0 ⊢
  refine s_iload_n (pc2 := 6) w dX11_loudestMicrophone_5 rfl rfl ?_
  refine s_iload_n (pc2 := 7) w dX11_loudestMicrophone_6 rfl rfl ?_
  refine r_X11_isWindow (pc2 := 10) w dX11_loudestMicrophone_7 rfl rfl rfl ?_
  refine s_if_ne (pc2 := 13) (tgt := 19) w dX11_loudestMicrophone_10 rfl (by decide) (fun c10 => ?_) (fun c10 => ?_)
  · rw [g_b0, Classical.not_not] at c10
    obtain ⟨b, e, rfl, rfl, be, eh⟩ := ix_w c10
    rw [cN_n b (by omega), cN_n e (by omega)] at q0
    refine s_iconst (pc2 := 20) (v := (-1)) w dX11_loudestMicrophone_19 rfl rfl ?_
    refine s_istore_n (pc2 := 21) (k2 := 3) w dX11_loudestMicrophone_20 rfl rfl rfl ?_
    dsimp only [gk_s1, gk_s2, gk_cl]
    refine s_lconst (pc2 := 22) (v := 0) w dX11_loudestMicrophone_21 rfl rfl ?_
    refine s_lstore (pc2 := 24) w dX11_loudestMicrophone_22 rfl rfl ?_
    dsimp only [gk_s1, gk_s2, gk_cl]
    refine s_iconst (pc2 := 25) (v := 0) w dX11_loudestMicrophone_24 rfl rfl ?_
    refine s_istore (pc2 := 27) w dX11_loudestMicrophone_25 rfl rfl ?_
    dsimp only [gk_s1, gk_s2, gk_cl]
    have key : ∀ (k n : Nat) (lo : Int32) (mo : Int64) (l7 l8 : Option Value) (xh : gk_X) (fh : MOk g 0 x xh y y), n + k = nM g → ((n = 0 ∧ lo = -1) ∨ (0 < n ∧ lo = (gk_mx (fun n => gL (gE (gC g n) b e)) nI (-1, -1) (n)).1 ∧ mo = (gk_mx (fun n => gL (gE (gC g n) b e)) nI (-1, -1) (n)).2 ∧ ¬ lo = -1)) → V 27 [some (.ref 189), some (.int (nI b)), some (.int (nI e)), some (.int lo), some (.long mo), none, some (.int (nI n)), l7, l8] [] 202 gk_fT xh y 0 := by
      intro k
      induction k with
      | zero =>
        intro n lo mo l7 l8 xh fh ht hi -- ht
        obtain rfl : n = nM g := by omega
        refine s_iload (pc2 := 29) w dX11_loudestMicrophone_27 rfl rfl ?_
        refine s_aload_n (pc2 := 30) w dX11_loudestMicrophone_29 rfl rfl ?_
        refine m_getR (pc2 := 33) (ci := 10) (k := 0) (j2 := 190) w dX11_loudestMicrophone_30 rfl rfl rfl rfl rfl rfl ?_
        refine s_bipush (pc2 := 35) (v := gI 8) w dX11_loudestMicrophone_33 rfl rfl ?_
        refine m_ialoadN (pc2 := 36) (t := 8) (N := 2234) w dX11_loudestMicrophone_35 rfl rfl rfl rfl (by decide) rfl ?_
        rw [fh.1 8 (by decide), gz_I g 8, z8]
        refine s_ic_ge (pc2 := 39) (tgt := 79) w dX11_loudestMicrophone_36 rfl (by decide) (fun _ => ?_) (fun h0 => absurd ((Int32.le_refl _)) h0)
        refine s_iload_n (pc2 := 80) w dX11_loudestMicrophone_79 rfl rfl ?_
        refine s_ireturn w dX11_loudestMicrophone_80 rfl rfl ?_
        have er : lo = (gk_mx (fun n => gL (gE (gC g n) b e)) nI (-1, -1) (nM g)).1 := by
          rcases hi with ⟨h1, h2⟩ | ⟨h1, h2, -⟩
          · rw [h2, h1]; rfl
          · exact h2
        subst er
        exact q0 c10 _ _ fh
      | succ k ih =>
        intro n lo mo l7 l8 xh fh ht hi -- ht
        have hn2 : n < nM g := by omega
        refine s_iload (pc2 := 29) w dX11_loudestMicrophone_27 rfl rfl ?_
        refine s_aload_n (pc2 := 30) w dX11_loudestMicrophone_29 rfl rfl ?_
        refine m_getR (pc2 := 33) (ci := 10) (k := 0) (j2 := 190) w dX11_loudestMicrophone_30 rfl rfl rfl rfl rfl rfl ?_
        refine s_bipush (pc2 := 35) (v := gI 8) w dX11_loudestMicrophone_33 rfl rfl ?_
        refine m_ialoadN (pc2 := 36) (t := 8) (N := 2234) w dX11_loudestMicrophone_35 rfl rfl rfl rfl (by decide) rfl ?_
        rw [fh.1 8 (by decide), gz_I g 8, z8]
        refine s_ic_ge (pc2 := 39) (tgt := 79) w dX11_loudestMicrophone_36 rfl (by decide) (fun h0 => absurd h0 (by rw [gI_nI, gI_le ⟨by omega, by omega⟩ ⟨by omega, by omega⟩]; omega)) (fun _ => ?_)
        refine s_aload_n (pc2 := 40) w dX11_loudestMicrophone_39 rfl rfl ?_
        refine s_iload (pc2 := 42) w dX11_loudestMicrophone_40 rfl rfl ?_
        refine r_X11_layRecord (pc2 := 45) w dX11_loudestMicrophone_42 rfl rfl rfl rfl (by omega) ?_
        have f1 : MOk g 0 x (gk_ur xh 196 (fun k => xh 190 (186 + 256 * n + k)) 256) y y := fh.ur (by decide)
        have hr : ∀ k, k < 256 → gk_ur xh 196 (fun k => xh 190 (186 + 256 * n + k)) 256 196 k = gC g n k := fun k hk => (gk_ur_in hk).trans (fh.1 _ (by omega))
        generalize gk_ur xh 196 (fun k => xh 190 (186 + 256 * n + k)) 256 = x1 at f1 hr ⊢
        refine s_aload_n (pc2 := 46) w dX11_loudestMicrophone_45 rfl rfl ?_
        refine s_iload_n (pc2 := 47) w dX11_loudestMicrophone_46 rfl rfl ?_
        refine s_iload_n (pc2 := 48) w dX11_loudestMicrophone_47 rfl rfl ?_
        refine r_X11_energyOf (pc2 := 51) w dX11_loudestMicrophone_48 rfl rfl rfl rfl rfl (by omega) eh ?_
        rw [row_eI hr (a := b) (b := e) eh]
        refine s_lstore (pc2 := 53) w dX11_loudestMicrophone_51 rfl rfl ?_
        dsimp only [gk_s1, gk_s2, gk_cl]
        refine s_iload_n (pc2 := 54) w dX11_loudestMicrophone_53 rfl rfl ?_
        refine s_iconst (pc2 := 55) (v := gI (-1)) w dX11_loudestMicrophone_54 rfl rfl ?_
        refine s_ic_eq (pc2 := 58) (tgt := 66) w dX11_loudestMicrophone_55 rfl (by decide) (fun c55 => ?_) (fun c55 => ?_)
        · refine s_iload (pc2 := 68) w dX11_loudestMicrophone_66 rfl rfl ?_
          refine s_istore_n (pc2 := 69) (k2 := 3) w dX11_loudestMicrophone_68 rfl rfl rfl ?_
          dsimp only [gk_s1, gk_s2, gk_cl]
          refine s_lload (pc2 := 71) w dX11_loudestMicrophone_69 rfl rfl ?_
          refine s_lstore (pc2 := 73) w dX11_loudestMicrophone_71 rfl rfl ?_
          dsimp only [gk_s1, gk_s2, gk_cl]
          refine s_iinc (pc2 := 76) w dX11_loudestMicrophone_73 rfl rfl rfl rfl ?_
          dsimp only [gk_s1, gk_s2, gk_cl]
          rw [nI_s]
          refine s_goto (tgt := 27) w dX11_loudestMicrophone_76 (by decide) ?_
          have hn : n = 0 := by
            rcases hi with ⟨h1, -⟩ | ⟨-, -, -, h1⟩
            · exact h1
            · exact absurd c55 h1
          subst hn
          have ep := mx_1 (E := fun n => gL (gE (gC g n) b e)) (lb := nI) (s := (-1, -1)) (gC_p hp1.2.1 hn2 eh)
          refine ih 1 _ _ _ _ _ f1 (by omega) (Or.inr ⟨by decide, by rw [ep], by rw [ep], (fun h => by rw [show (nI 0 : Int32) = gI 0 from rfl, show (-1 : Int32) = gI (-1) from rfl, gI_eq ⟨by omega, by omega⟩ ⟨by omega, by omega⟩] at h; omega)⟩)
        · refine s_lload (pc2 := 60) w dX11_loudestMicrophone_58 rfl rfl ?_
          refine s_lload (pc2 := 62) w dX11_loudestMicrophone_60 rfl rfl ?_
          refine s_lcmp (pc2 := 63) w dX11_loudestMicrophone_62 rfl ?_
          refine s_if_le (pc2 := 66) (tgt := 73) w dX11_loudestMicrophone_63 rfl (by decide) (fun c63 => ?_) (fun c63 => ?_)
          · refine s_iinc (pc2 := 76) w dX11_loudestMicrophone_73 rfl rfl rfl rfl ?_
            dsimp only [gk_s1, gk_s2, gk_cl]
            rw [nI_s]
            refine s_goto (tgt := 27) w dX11_loudestMicrophone_76 (by decide) ?_
            obtain ⟨-, h1, h2, h3⟩ : 0 < n ∧ _ := by
              rcases hi with ⟨-, h1⟩ | h1
              · exact absurd h1 c55
              · exact h1
            rw [h2] at c63
            have ep := mx_f (lb := nI) (E := fun n => gL (gE (gC g n) b e)) c63
            refine ih (n + 1) _ _ _ _ _ f1 (by omega) (Or.inr ⟨Nat.succ_pos n, by rw [ep]; exact h1, by rw [ep]; exact h2, h3⟩)
          · refine s_iload (pc2 := 68) w dX11_loudestMicrophone_66 rfl rfl ?_
            refine s_istore_n (pc2 := 69) (k2 := 3) w dX11_loudestMicrophone_68 rfl rfl rfl ?_
            dsimp only [gk_s1, gk_s2, gk_cl]
            refine s_lload (pc2 := 71) w dX11_loudestMicrophone_69 rfl rfl ?_
            refine s_lstore (pc2 := 73) w dX11_loudestMicrophone_71 rfl rfl ?_
            dsimp only [gk_s1, gk_s2, gk_cl]
            refine s_iinc (pc2 := 76) w dX11_loudestMicrophone_73 rfl rfl rfl rfl ?_
            dsimp only [gk_s1, gk_s2, gk_cl]
            rw [nI_s]
            refine s_goto (tgt := 27) w dX11_loudestMicrophone_76 (by decide) ?_
            obtain ⟨-, h1, h2, h3⟩ : 0 < n ∧ _ := by
              rcases hi with ⟨-, h1⟩ | h1
              · exact absurd h1 c55
              · exact h1
            rw [h2] at c63
            have ep := mx_t (lb := nI) (E := fun n => gL (gE (gC g n) b e)) c63
            refine ih (n + 1) _ _ _ _ _ f1 (by omega) (Or.inr ⟨Nat.succ_pos n, by rw [ep], by rw [ep], (fun h => by rw [gI_nI, show (-1 : Int32) = gI (-1) from rfl, gI_eq ⟨by omega, by omega⟩ ⟨by omega, by omega⟩] at h; omega)⟩)
    exact key (nM g) 0 (-1) _ none none x0 f0 (by omega) (Or.inl ⟨rfl, rfl⟩)
  · refine s_aload_n (pc2 := 14) w dX11_loudestMicrophone_13 rfl rfl ?_
    refine s_iconst (pc2 := 15) (v := gI 1) w dX11_loudestMicrophone_14 rfl rfl ?_
    refine r_X11_fail (pc2 := 18) w dX11_loudestMicrophone_15 rfl rfl rfl ?_
    refine s_ireturn w dX11_loudestMicrophone_18 rfl rfl ?_
    rw [g_b0] at c10
    exact q1  (fun hc => c10 hc) _ _ (f0.fail 1)
theorem lk_X11_loudestMicrophone {l : Launch} (hl : l.stackTraces = false) : ∀ q ∈ L_X11_loudestMicrophone, (q.2.1 < 5 → gk_Lk l RX11 gk_W1 4 q.1 q.2.1 q.2.2.1 q.2.2.2.1 q.2.2.2.2.1 q.2.2.2.2.2) := (List.forall_mem_cons.mpr ⟨(fun _ => ⟨yX11_fail, cX11_fail, 2, (some .int), 0, _, M_X11_fail hl, ⟨by decide, by decide⟩, ⟨by decide, by decide, by decide +kernel⟩, ⟨(gk_wm 1342 (by decide +kernel)), (gk_wm 99 (by decide +kernel))⟩, Or.inr (Or.inr (Or.inr (Or.inl ⟨rfl, rfl, (gk_wm 1341 (by decide +kernel)), (gk_wm 32 (by decide +kernel)), gk_wm 1339 (by decide +kernel), by decide, rfl⟩)))⟩), (List.forall_mem_cons.mpr ⟨(fun _ => ⟨yX11_energyOf, cX11_energyOf, 6, (some .long), 0, _, M_X11_energyOf hl, ⟨by decide, by decide⟩, ⟨by decide, by decide, by decide +kernel⟩, ⟨(gk_wm 1537 (by decide +kernel)), (gk_wm 99 (by decide +kernel))⟩, Or.inr (Or.inr (Or.inr (Or.inl ⟨rfl, rfl, (gk_wm 1536 (by decide +kernel)), (gk_wm 57 (by decide +kernel)), gk_wm 1534 (by decide +kernel), by decide, rfl⟩)))⟩), (List.forall_mem_cons.mpr ⟨(fun _ => ⟨yX11_isWindow, cX11_isWindow, 2, (some .boolean), 2, _, M_X11_isWindow hl, ⟨by decide, by decide⟩, ⟨by decide, by decide, by decide +kernel⟩, ⟨(gk_wm 1525 (by decide +kernel)), (gk_wm 99 (by decide +kernel))⟩, Or.inl ⟨rfl, rfl, (gk_wm 1524 (by decide +kernel)), gk_wm 1523 (by decide +kernel)⟩⟩), (List.forall_mem_cons.mpr ⟨(fun _ => ⟨yX11_layRecord, cX11_layRecord, 3, none, 3, _, M_X11_layRecord hl, ⟨by decide, by decide⟩, ⟨by decide, by decide, by decide +kernel⟩, ⟨(gk_wm 1529 (by decide +kernel)), (gk_wm 99 (by decide +kernel))⟩, Or.inr (Or.inr (Or.inr (Or.inl ⟨rfl, rfl, (gk_wm 1528 (by decide +kernel)), (gk_wm 55 (by decide +kernel)), gk_wm 1526 (by decide +kernel), by decide, rfl⟩)))⟩), (fun _ h => absurd h List.not_mem_nil)⟩)⟩)⟩)⟩)
theorem sp_X11_loudestMicrophone : ∀ q ∈ L_X11_loudestMicrophone, gk_Sq RX11 gk_W1 4 q := (List.forall_mem_cons.mpr ⟨⟨fun h => absurd h (by decide), fun h => absurd h (by decide), fun h => absurd h (by decide), fun h => absurd h (by decide), fun h => absurd h (by decide), fun h => absurd h (by decide)⟩, (List.forall_mem_cons.mpr ⟨⟨fun h => absurd h (by decide), fun h => absurd h (by decide), fun h => absurd h (by decide), fun h => absurd h (by decide), fun h => absurd h (by decide), fun h => absurd h (by decide)⟩, (List.forall_mem_cons.mpr ⟨⟨fun h => absurd h (by decide), fun h => absurd h (by decide), fun h => absurd h (by decide), fun h => absurd h (by decide), fun h => absurd h (by decide), fun h => absurd h (by decide)⟩, (List.forall_mem_cons.mpr ⟨⟨fun h => absurd h (by decide), fun h => absurd h (by decide), fun h => absurd h (by decide), fun h => absurd h (by decide), fun h => absurd h (by decide), fun h => absurd h (by decide)⟩, (fun _ h => absurd h List.not_mem_nil)⟩)⟩)⟩)⟩)
theorem M_X11_loudestMicrophone {l : Launch} (hl : l.stackTraces = false) : gk_Mt l yX11_loudestMicrophone (.code yX11_loudestMicrophone cX11_loudestMicrophone 9 (some .int) :: gk_W1) 4 0 S_X11_loudestMicrophone := gk_meth hl gk_cw_ok (by decide +kernel) rfl m_X11_loudestMicrophone pX11_ok (gk_Sp_of sp_X11_loudestMicrophone) pX11_st (fun ci m S h => absurd h (by intro h; cases h)) (xf_X11 4) (fun idx kd ci mm cost S2 h h5 => lk_X11_loudestMicrophone hl _ (gk_lk_mem h) h5)

end GKV

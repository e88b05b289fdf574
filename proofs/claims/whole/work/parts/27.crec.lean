/-! THE METHODS, 8: the class, what is recorded -/
section GKV
variable {c : ByteArray} {P : gk_C} {cs : Nat → Option gk_M0} {rt : Option FieldType} {uf : Nat} {sc : Option Nat} {K : gk_K} {V : gk_V}
variable {L : List (Option Value)} {r : List Value} {n : Nat} {fl : gk_F} {x : gk_X} {y : gk_Y} {u pc pc2 : Nat}
/-! a scene says what a state of the reference says -/
def rs0 (b : Nat) (g : Nat → Int32) (x : gk_X) : Prop := (x b 4 = g 6 ∧ x b 5 = g 7 ∧ x b 6 = g 8) ∧ x b 7 = g 0 ∧ x b 8 = g 1 ∧ x b 9 = g 4 ∧ x b 11 = g 2 ∧ x b 12 = g 9 ∧ x b 15 = g 5 ∧ x b 13 = (if g 10 = 2 then 1 else 0) ∧ (g 10 = 2 → x b 14 = g 12)
def rsr (b : Nat) (g : Nat → Int32) (y : gk_Y) : Prop := y b 10 = gL (gz g 3)
def rsv (b : Nat) (g : Nat → Int32) (x : gk_X) : Prop := ∀ v, v < nV g → x (v + (b + 5)) 0 = g (16 + 3 * v + 0) ∧ x (v + (b + 5)) 1 = g (16 + 3 * v + 1) ∧ x (v + (b + 5)) 2 = g (16 + 3 * v + 2)
def rss (b : Nat) (g : Nat → Int32) (x : gk_X) : Prop := ∀ a, a < nS g → (x (3 * a + (b + 9)) 2 = g (28 + 21 * a + 4) ∧ x (3 * a + (b + 9)) 3 = g (28 + 21 * a + 3)) ∧ (x (3 * a + (b + 10)) 0 = gI (gz g (16 + 3 * sV g a + 0) + gz g (28 + 21 * a + 1)) ∧ x (3 * a + (b + 10)) 1 = g (16 + 3 * sV g a + 1) ∧ x (3 * a + (b + 10)) 2 = g (16 + 3 * sV g a + 2) ∧ x (3 * a + (b + 10)) 3 = g (28 + 21 * a + 2)) ∧ ∀ k, k < sW g a → x (3 * a + (b + 11)) k = g (28 + 21 * a + 5 + k)
def rsm (b : Nat) (g : Nat → Int32) (x : gk_X) : Prop := ∀ m, m < nM g → x (2 * m + (b + 27)) 1 = g (154 + 4 * m + 0) ∧ x (2 * m + (b + 27)) 2 = g (154 + 4 * m + 1) ∧ x (2 * m + (b + 27)) 3 = g (154 + 4 * m + 2) ∧ x (2 * m + (b + 27)) 4 = g (154 + 4 * m + 3)
def rsq (b : Nat) (g : Nat → Int32) (x : gk_X) : Prop := ∀ m, m < nM g → ∀ k, k < 256 → x (2 * m + (b + 28)) k = g (186 + 256 * m + k)
def rsf (b : Nat) (g : Nat → Int32) (x : gk_X) : Prop := (g 10 = 0 → x (b + 4) 0 = gI (gz g (16 + 3 * (gz g 11).toNat + 0) + gz g 12) ∧ x (b + 4) 1 = g (16 + 3 * (gz g 11).toNat + 1) ∧ x (b + 4) 2 = g (16 + 3 * (gz g 11).toNat + 2) ∧ x (b + 4) 3 = g 14) ∧ (g 10 = 1 → x (b + 4) 0 = g 12 ∧ x (b + 4) 1 = 0 ∧ x (b + 4) 2 = g 13 ∧ x (b + 4) 3 = g 14)
theorem kd_s {a : Nat} (h : a < 6) : gk_kd (3 * a + 10) = 6 ∧ gk_kd (3 * a + 11) = 3 ∧ gk_kd (3 * a + 12) = 20 ∧ gk_ln (3 * a + 12) = 16 := (by decide : ∀ a, a < 6 → gk_kd (3 * a + 10) = 6 ∧ gk_kd (3 * a + 11) = 3 ∧ gk_kd (3 * a + 12) = 20 ∧ gk_ln (3 * a + 12) = 16) a h
theorem kd_m {m : Nat} (h : m < 8) : gk_kd (2 * m + 28) = 1 ∧ gk_kd (2 * m + 29) = 20 ∧ gk_ln (2 * m + 29) = 256 := (by decide : ∀ m, m < 8 → gk_kd (2 * m + 28) = 1 ∧ gk_kd (2 * m + 29) = 20 ∧ gk_ln (2 * m + 29) = 256) m h
theorem rs_PP {g : Nat → Int32} {x : gk_X} (hw : gWf g) (hs : rss 1 g x) {a : Nat} (ha : a < nS g) : gk_PP x (3 * a + 11) (gz g (16 + 3 * sV g a + 0) + gz g (28 + 21 * a + 1)) (gz g (16 + 3 * sV g a + 1)) (gz g (16 + 3 * sV g a + 2)) (gz g (28 + 21 * a + 2)) := by
  obtain ⟨-, ⟨e0, e1, e2, e3⟩, -⟩ := hs a ha
  obtain ⟨⟨-, -, -, -, -, -, c6, c7, c8⟩, hv, hs2, -, -⟩ := hw
  obtain ⟨s1, s2, s3, -, -, -⟩ := hs2 a ha
  obtain ⟨v1, v2, v3⟩ := hv (sV g a) (by unfold nV sV; omega)
  exact ⟨⟨e0, e1.trans (gz_I g _), e2.trans (gz_I g _), e3.trans (gz_I g _)⟩, by omega, by omega, by omega, by omega⟩
theorem rs_MP {g : Nat → Int32} {x : gk_X} (hw : gWf g) (hs : rsm 1 g x) {m : Nat} (hm : m < nM g) : gk_MP x (2 * m + 28) (gz g (154 + 4 * m + 0)) (gz g (154 + 4 * m + 1)) (gz g (154 + 4 * m + 2)) := by
  obtain ⟨e0, e1, e2, -⟩ := hs m hm
  obtain ⟨-, -, -, hmm, -⟩ := hw
  obtain ⟨m1, m2, m3, -⟩ := hmm m hm
  exact ⟨⟨e0.trans (gz_I g _), e1.trans (gz_I g _), e2.trans (gz_I g _)⟩, by omega, by omega, by omega⟩
def gk_hv (g : Nat → Int32) (m a : Nat) (rf : Bool) (j : Nat) : Int := if j = 0 then 0 else gk_am (gSp g) (gz g 1) (vE g a (j - 1)) (gk_dl (pA g m a) (pS g a) (pBe g m a rf) ((j - 1 : Nat) : Int)) rf
theorem qt_L {a b : Int} (ha : gQ a) (hb : gQ b) (hz : b ≠ 0) : (if gL b = 0 then (0 : Int64) else gL a / gL b) = gL (a.tdiv b) := by
  rw [if_neg (show ¬ gL b = (0 : Int64) from fun h => hz ((gL_eq hb ⟨by decide, by decide⟩).mp h)), gL_div ha hb]
def S_X7_valueAt : gk_S := fun as n fl x y K => ∃ (j : Nat) (t : Int32) (a : Nat) (tt : Nat) (g : Nat → Int32), as = [.ref j, .int t] ∧ (n = 202 ∧ fl = gk_fT) ∧ gk_kd j = 6 ∧ (j = 3 * a + 10) ∧ (gWf g) ∧ (rss 1 g x) ∧ (a < nS g) ∧ (t = nI tt) ∧ (tt < 256) ∧ (K (.inl (some (.int (gI (vE g a tt))))) n fl x y)
theorem r_X7_valueAt (w : gk_W c P cs (fun _ _ => none) rt uf sc K V) {idx : Nat} {j : Nat} {t : Int32} {a : Nat} {tt : Nat} {g : Nat → Int32} (hd : decode c pc = .ok (.invokevirtual idx, 3)) (hp : pc + 3 = pc2) (hc : cs idx = some (1, 6, 2, 0, S_X7_valueAt)) (h8 : Nat.ble (r.map Value.category).sum 8 = true) (hk0 : gk_kd j = 6) (hp0 : j = 3 * a + 10) (hp1 : gWf g) (hp2 : rss 1 g x) (hp3 : a < nS g) (hp4 : t = nI tt) (hp5 : tt < 256) (kk0 : V pc2 L ((.int (gI (vE g a tt))) :: r) 202 gk_fT x y u) : V pc L (.int t :: .ref j :: r) 202 gk_fT x y u :=
  g_callv w hd hp hc (as := [.ref j, .int t]) rfl h8 rfl rfl rfl (Or.inr (Or.inl ⟨Or.inl rfl, _, _, rfl, (gk_kd_j hk0 rfl), hk0⟩)) (Or.inl rfl) ⟨j, t, a, tt, g, rfl, ⟨rfl, rfl⟩, hk0, hp0, hp1, hp2, hp3, hp4, hp5, kk0⟩
def L_X7_valueAt : List (Nat × gk_M0) := [(26, (0, 9, 2, 0, S_X10_elementAt))]
def cs_X7_valueAt : Nat → Option gk_M0 := gk_lk L_X7_valueAt
theorem m_X7_valueAt : ∀ (as : List Value) (n : Nat) (fl : gk_F) (x : gk_X) (y : gk_Y) (K : gk_K), S_X7_valueAt as n fl x y K → (gk_L0 as).length ≤ 2 ∧ ∀ V : gk_V, gk_W cX7_valueAt pX7 cs_X7_valueAt (fun _ _ => none) (some .int) 0 none K V → V 0 (gk_en as 2) [] n fl x y 0 := by
  intro as n fl x y K hS
  obtain ⟨j, t, a, tt, g, rfl, ⟨rfl, rfl⟩, hk0, hp0, hp1, hp2, hp3, hp4, hp5, q0⟩ := hS
  refine ⟨Nat.le_of_ble_eq_true rfl, fun V w => ?_⟩
  show V 0 [some (.ref j), some (.int t)] [] 202 gk_fT x y 0
  subst hp0 hp4
  obtain ⟨⟨e2, e3⟩, -, ep⟩ := hp2 a hp3
  obtain ⟨⟨-, -, -, -, -, -, -, ⟨c1, c2⟩, -⟩, -, hs, -⟩ := hp1
  obtain ⟨-, -, -, -, hL, -⟩ := hs a hp3
  have ha : a < 6 := by unfold nS at hp3; omega
  obtain ⟨k1, k2, k3, k4⟩ := kd_s ha
  have eL : gz g (28 + 21 * a + 4) = (sW g a : Int) := by unfold sW; omega
  have hL2 : 1 ≤ sW g a ∧ sW g a ≤ 16 := by omega
  have hm : tt % sW g a < sW g a := Nat.mod_lt _ (by omega)
  have eW : x (3 * a + 10) 2 = gI (sW g a : Int) := by rw [← eL]; exact e2.trans (gz_I g _)
  refine s_aload_n (pc2 := 1) w dX7_valueAt_0 rfl rfl ?_
  refine m_getI (pc2 := 4) (ci := 6) (k := 2) w dX7_valueAt_1 rfl rfl (by first | assumption | rfl) rfl rfl ?_
  refine s_if_ne (pc2 := 7) (tgt := 9) w dX7_valueAt_4 rfl (by decide) (fun _ => ?_) (fun h0 => absurd h0 (by rw [eW, show (0 : Int32) = gI 0 from rfl, gI_eq ⟨by omega, by omega⟩ ⟨by omega, by omega⟩]; omega))
  refine s_aload_n (pc2 := 10) w dX7_valueAt_9 rfl rfl ?_
  refine m_getR (pc2 := 13) (ci := 6) (k := 1) (j2 := (3 * a + 12)) w dX7_valueAt_10 rfl rfl (by first | assumption | rfl) rfl rfl rfl ?_
  refine s_iload_n (pc2 := 14) w dX7_valueAt_13 rfl rfl ?_
  refine s_aload_n (pc2 := 15) w dX7_valueAt_14 rfl rfl ?_
  refine m_getI (pc2 := 18) (ci := 6) (k := 2) w dX7_valueAt_15 rfl rfl (by first | assumption | rfl) rfl rfl ?_
  refine s_irem (pc2 := 19) w dX7_valueAt_18 rfl (by rw [eW, show (0 : Int32) = gI 0 from rfl, gI_eq ⟨by omega, by omega⟩ ⟨by omega, by omega⟩]; omega) ?_
  rw [eW, gI_nI tt, gI_rem ⟨by omega, by omega⟩ ⟨by omega, by omega⟩, Int.tmod_eq_emod_of_nonneg (by omega), show (tt : Int) % (sW g a : Int) = ((tt % sW g a : Nat) : Int) by omega]
  refine r_X10_elementAt (pc2 := 22) w dX7_valueAt_19 rfl rfl rfl k3 k4 rfl ?_
  rw [if_neg (by rw [show (0 : Int32) = gI 0 from rfl, gI_lt ⟨by omega, by omega⟩ ⟨by omega, by omega⟩, gI_nI, gI_le ⟨by omega, by omega⟩ ⟨by omega, by omega⟩]; omega), show (gI ((tt % sW g a : Nat) : Int)).toNatClampNeg = tt % sW g a from (by show (gI _).toInt.toNat = _; rw [gI_of ⟨by omega, by omega⟩]; omega), ep _ hm, gz_I g (28 + 21 * a + 5 + tt % sW g a)]
  refine s_aload_n (pc2 := 23) w dX7_valueAt_22 rfl rfl ?_
  refine m_getI (pc2 := 26) (ci := 6) (k := 3) w dX7_valueAt_23 rfl rfl (by first | assumption | rfl) rfl rfl ?_
  rw [show x (3 * a + 10) 3 = gI (gz g (28 + 21 * a + 3)) from e3.trans (gz_I g _)]
  refine s_imul (pc2 := 27) w dX7_valueAt_26 rfl ?_
  rw [gI_mul]
  refine s_ireturn w dX7_valueAt_27 rfl rfl ?_
  exact q0
theorem lk_X7_valueAt {l : Launch} (hl : l.stackTraces = false) : ∀ q ∈ L_X7_valueAt, (q.2.1 < 5 → gk_Lk l RX7 gk_W1 1 q.1 q.2.1 q.2.2.1 q.2.2.2.1 q.2.2.2.2.1 q.2.2.2.2.2) := (List.forall_mem_cons.mpr ⟨(fun _ => ⟨yX10_elementAt, cX10_elementAt, 2, (some .int), 0, _, M_X10_elementAt hl, ⟨by decide, by decide⟩, ⟨by decide, by decide, by decide +kernel⟩, ⟨(gk_wm 481 (by decide +kernel)), (gk_wm 89 (by decide +kernel))⟩, Or.inr (Or.inl ⟨rfl, rfl, (gk_wm 480 (by decide +kernel)), ⟨_, gk_nsm 11 rfl⟩, nt_X10_elementAt⟩)⟩), (fun _ h => absurd h List.not_mem_nil)⟩)
theorem sp_X7_valueAt : ∀ q ∈ L_X7_valueAt, gk_Sq RX7 gk_W1 1 q := (List.forall_mem_cons.mpr ⟨⟨fun h => absurd h (by decide), fun h => absurd h (by decide), fun h => absurd h (by decide), fun h => absurd h (by decide), fun h => absurd h (by decide), fun h => absurd h (by decide)⟩, (fun _ h => absurd h List.not_mem_nil)⟩)
theorem M_X7_valueAt {l : Launch} (hl : l.stackTraces = false) : gk_Mt l yX7_valueAt (.code yX7_valueAt cX7_valueAt 2 (some .int) :: gk_W1) 1 0 S_X7_valueAt := gk_meth hl gk_cw_ok (by decide +kernel) rfl m_X7_valueAt pX7_ok (gk_Sp_of sp_X7_valueAt) pX7_st (fun ci m S h => absurd h (by intro h; cases h)) (xf_X7 1) (fun idx kd ci mm cost S2 h h5 => lk_X7_valueAt hl _ (gk_lk_mem h) h5)

def S_X4_amountOf : gk_S := fun as n fl x y K => ∃ (e : Int32) (d : Int32) (f : Int32) (g : Nat → Int32) (ve : Int) (dd : Int) (rf : Bool), as = [.ref 1, .int e, .int d, .int f] ∧ (n = 202 ∧ fl = gk_fT) ∧ (rs0 1 g x) ∧ (gWf g) ∧ (e = gI ve) ∧ (-990 ≤ ve ∧ ve ≤ 990) ∧ (d = gI dd) ∧ (0 ≤ dd ∧ dd ≤ 65536) ∧ (f = if rf then 1 else 0) ∧ (K (.inl (some (.int (gI (gk_am (gSp g) (gz g 1) ve dd rf))))) n fl x y)
theorem r_X4_amountOf (w : gk_W c P cs (fun _ _ => none) rt uf sc K V) {idx : Nat} {e : Int32} {d : Int32} {f : Int32} {g : Nat → Int32} {ve : Int} {dd : Int} {rf : Bool} (hd : decode c pc = .ok (.invokevirtual idx, 3)) (hp : pc + 3 = pc2) (hc : cs idx = some (1, 4, 4, 0, S_X4_amountOf)) (h8 : Nat.ble (r.map Value.category).sum 8 = true) (hp0 : rs0 1 g x) (hp1 : gWf g) (hp2 : e = gI ve) (hp3 : -990 ≤ ve ∧ ve ≤ 990) (hp4 : d = gI dd) (hp5 : 0 ≤ dd ∧ dd ≤ 65536) (hp6 : f = if rf then 1 else 0) (kk0 : V pc2 L ((.int (gI (gk_am (gSp g) (gz g 1) ve dd rf))) :: r) 202 gk_fT x y u) : V pc L (.int f :: .int d :: .int e :: .ref 1 :: r) 202 gk_fT x y u :=
  g_callv w hd hp hc (as := [.ref 1, .int e, .int d, .int f]) rfl h8 rfl rfl rfl (Or.inr (Or.inl ⟨Or.inl rfl, _, _, rfl, (gk_kd_j rfl rfl), rfl⟩)) (Or.inl rfl) ⟨e, d, f, g, ve, dd, rf, rfl, ⟨rfl, rfl⟩, hp0, hp1, hp2, hp3, hp4, hp5, hp6, kk0⟩
def L_X4_amountOf : List (Nat × gk_M0) := [(172, (0, 9, 2, 0, S_X10_quotient))]
def cs_X4_amountOf : Nat → Option gk_M0 := gk_lk L_X4_amountOf
theorem m_X4_amountOf : ∀ (as : List Value) (n : Nat) (fl : gk_F) (x : gk_X) (y : gk_Y) (K : gk_K), S_X4_amountOf as n fl x y K → (gk_L0 as).length ≤ 6 ∧ ∀ V : gk_V, gk_W cX4_amountOf pX4 cs_X4_amountOf (fun _ _ => none) (some .int) 0 none K V → V 0 (gk_en as 6) [] n fl x y 0 := by
  intro as n fl x y K hS
  obtain ⟨e, d, f, g, ve, dd, rf, rfl, ⟨rfl, rfl⟩, hp0, hp1, hp2, hp3, hp4, hp5, hp6, q0⟩ := hS
  refine ⟨Nat.le_of_ble_eq_true rfl, fun V w => ?_⟩
  show V 0 [some (.ref 1), some (.int e), some (.int d), some (.int f), none, none] [] 202 gk_fT x y 0
  subst hp2 hp4 hp6
  obtain ⟨-, -, e8, -, e11, -⟩ := hp0
  obtain ⟨⟨-, hg, h2, -⟩, -⟩ := hp1
  have hb := am_b (sp := gSp g) (rf := false) hg hp3 hp5.1
  refine s_aload_n (pc2 := 1) w dX4_amountOf_0 rfl rfl ?_
  refine m_getI (pc2 := 4) (ci := 4) (k := 11) w dX4_amountOf_1 rfl rfl rfl rfl rfl ?_
  refine s_if_eq (pc2 := 7) (tgt := 25) w dX4_amountOf_4 rfl (by decide) (fun c4 => ?_) (fun c4 => ?_)
  · have es : gSp g = false := decide_eq_false (by rw [← e11, c4]; decide)
    rw [es] at q0 hb
    refine s_iload_n (pc2 := 26) w dX4_amountOf_25 rfl rfl ?_
    refine s_i2l (pc2 := 27) w dX4_amountOf_26 rfl ?_
    rw [gIL ⟨by omega, by omega⟩]
    obtain ⟨z, hz⟩ : ∃ z, z = ve := ⟨_, rfl⟩
    replace hb : -990 ≤ z ∧ z ≤ 990 := by rw [hz]; exact hb
    rw [← hz]
    refine s_lstore (pc2 := 29) w dX4_amountOf_27 rfl rfl ?_
    dsimp only [gk_s1, gk_s2, gk_cl]
    refine s_iload_n (pc2 := 30) w dX4_amountOf_29 rfl rfl ?_
    refine s_if_eq (pc2 := 33) (tgt := 48) w dX4_amountOf_30 rfl (by decide) (fun c30 => ?_) (fun c30 => ?_)
    · refine s_lload (pc2 := 50) w dX4_amountOf_48 rfl rfl ?_
      refine s_l2i (pc2 := 51) w dX4_amountOf_50 rfl ?_
      refine s_ireturn w dX4_amountOf_51 rfl rfl ?_
      rw [gLI]
      have e := rf_0 c30
      subst e
      rw [hz]
      exact q0
    · refine s_lload (pc2 := 35) w dX4_amountOf_33 rfl rfl ?_
      refine s_aload_n (pc2 := 36) w dX4_amountOf_35 rfl rfl ?_
      refine m_getI (pc2 := 39) (ci := 4) (k := 8) w dX4_amountOf_36 rfl rfl rfl rfl rfl ?_
      refine s_i2l (pc2 := 40) w dX4_amountOf_39 rfl ?_
      refine s_lmul (pc2 := 41) w dX4_amountOf_40 rfl ?_
      refine s_ldc2_w (pc2 := 44) (v := 100) w dX4_amountOf_41 rfl rfl ?_
      refine s_ldiv (pc2 := 45) w dX4_amountOf_44 rfl (by decide) ?_
      have h3 := gk_mulb (a := z) (b := gz g 1) (A := 990) (B := 90) (by omega) hb.2 (by omega) hg.2
      rw [e8, gz_I g 1, gIL ⟨by omega, by omega⟩, gL_mul, show (100 : Int64) = gL 100 from rfl, gL_div ⟨by omega, by omega⟩ ⟨by omega, by omega⟩]
      refine s_goto (tgt := 50) w dX4_amountOf_45 (by decide) ?_
      refine s_l2i (pc2 := 51) w dX4_amountOf_50 rfl ?_
      refine s_ireturn w dX4_amountOf_51 rfl rfl ?_
      rw [gLI]
      have e := rf_1 c30
      subst e
      rw [hz]
      exact q0
  · have es : gSp g = true := decide_eq_true (h2.resolve_left (fun h => c4 (e11.trans h)))
    rw [es] at q0 hb
    refine s_iload_n (pc2 := 8) w dX4_amountOf_7 rfl rfl ?_
    refine s_i2l (pc2 := 9) w dX4_amountOf_8 rfl ?_
    refine s_ldc2_w (pc2 := 12) (v := 1000) w dX4_amountOf_9 rfl rfl ?_
    refine s_lmul (pc2 := 13) w dX4_amountOf_12 rfl ?_
    rw [gIL ⟨by omega, by omega⟩, show (1000 : Int64) = gL 1000 from rfl, gL_mul]
    refine s_sipush (pc2 := 16) (v := gI 1000) w dX4_amountOf_13 rfl rfl ?_
    refine s_iload_n (pc2 := 17) w dX4_amountOf_16 rfl rfl ?_
    refine s_iadd (pc2 := 18) w dX4_amountOf_17 rfl ?_
    refine s_i2l (pc2 := 19) w dX4_amountOf_18 rfl ?_
    rw [gI_add, gIL ⟨by omega, by omega⟩]
    refine r_X10_quotient (pc2 := 22) w dX4_amountOf_19 rfl rfl rfl ?_
    rw [qt_L ⟨by omega, by omega⟩ ⟨by omega, by omega⟩ (by omega)]
    obtain ⟨z, hz⟩ : ∃ z, z = (ve * 1000).tdiv (1000 + dd) := ⟨_, rfl⟩
    replace hb : -990 ≤ z ∧ z ≤ 990 := by rw [hz]; exact hb
    rw [← hz]
    refine s_goto (tgt := 27) w dX4_amountOf_22 (by decide) ?_
    refine s_lstore (pc2 := 29) w dX4_amountOf_27 rfl rfl ?_
    dsimp only [gk_s1, gk_s2, gk_cl]
    refine s_iload_n (pc2 := 30) w dX4_amountOf_29 rfl rfl ?_
    refine s_if_eq (pc2 := 33) (tgt := 48) w dX4_amountOf_30 rfl (by decide) (fun c30 => ?_) (fun c30 => ?_)
    · refine s_lload (pc2 := 50) w dX4_amountOf_48 rfl rfl ?_
      refine s_l2i (pc2 := 51) w dX4_amountOf_50 rfl ?_
      refine s_ireturn w dX4_amountOf_51 rfl rfl ?_
      rw [gLI]
      have e := rf_0 c30
      subst e
      rw [hz]
      exact q0
    · refine s_lload (pc2 := 35) w dX4_amountOf_33 rfl rfl ?_
      refine s_aload_n (pc2 := 36) w dX4_amountOf_35 rfl rfl ?_
      refine m_getI (pc2 := 39) (ci := 4) (k := 8) w dX4_amountOf_36 rfl rfl rfl rfl rfl ?_
      refine s_i2l (pc2 := 40) w dX4_amountOf_39 rfl ?_
      refine s_lmul (pc2 := 41) w dX4_amountOf_40 rfl ?_
      refine s_ldc2_w (pc2 := 44) (v := 100) w dX4_amountOf_41 rfl rfl ?_
      refine s_ldiv (pc2 := 45) w dX4_amountOf_44 rfl (by decide) ?_
      have h3 := gk_mulb (a := z) (b := gz g 1) (A := 990) (B := 90) (by omega) hb.2 (by omega) hg.2
      rw [e8, gz_I g 1, gIL ⟨by omega, by omega⟩, gL_mul, show (100 : Int64) = gL 100 from rfl, gL_div ⟨by omega, by omega⟩ ⟨by omega, by omega⟩]
      refine s_goto (tgt := 50) w dX4_amountOf_45 (by decide) ?_
      refine s_l2i (pc2 := 51) w dX4_amountOf_50 rfl ?_
      refine s_ireturn w dX4_amountOf_51 rfl rfl ?_
      rw [gLI]
      have e := rf_1 c30
      subst e
      rw [hz]
      exact q0
theorem lk_X4_amountOf {l : Launch} (hl : l.stackTraces = false) : ∀ q ∈ L_X4_amountOf, (q.2.1 < 5 → gk_Lk l RX4 gk_W1 1 q.1 q.2.1 q.2.2.1 q.2.2.2.1 q.2.2.2.2.1 q.2.2.2.2.2) := (List.forall_mem_cons.mpr ⟨(fun _ => ⟨yX10_quotient, cX10_quotient, 4, (some .long), 0, _, M_X10_quotient hl, ⟨by decide, by decide⟩, ⟨by decide, by decide, by decide +kernel⟩, ⟨(gk_wm 490 (by decide +kernel)), (gk_wm 89 (by decide +kernel))⟩, Or.inr (Or.inl ⟨rfl, rfl, (gk_wm 489 (by decide +kernel)), ⟨_, gk_nsm 12 rfl⟩, nt_X10_quotient⟩)⟩), (fun _ h => absurd h List.not_mem_nil)⟩)
theorem sp_X4_amountOf : ∀ q ∈ L_X4_amountOf, gk_Sq RX4 gk_W1 1 q := (List.forall_mem_cons.mpr ⟨⟨fun h => absurd h (by decide), fun h => absurd h (by decide), fun h => absurd h (by decide), fun h => absurd h (by decide), fun h => absurd h (by decide), fun h => absurd h (by decide)⟩, (fun _ h => absurd h List.not_mem_nil)⟩)
theorem M_X4_amountOf {l : Launch} (hl : l.stackTraces = false) : gk_Mt l yX4_amountOf (.code yX4_amountOf cX4_amountOf 6 (some .int) :: gk_W1) 1 0 S_X4_amountOf := gk_meth hl gk_cw_ok (by decide +kernel) rfl m_X4_amountOf pX4_ok (gk_Sp_of sp_X4_amountOf) pX4_st (fun ci m S h => absurd h (by intro h; cases h)) (xf_X4 1) (fun idx kd ci mm cost S2 h h5 => lk_X4_amountOf hl _ (gk_lk_mem h) h5)

def S_X4_draw : gk_S := fun as n fl x y K => ∃ (b : Int32) (q : Int) (bb : Int), as = [.ref 1, .int b] ∧ (n = 202 ∧ fl = gk_fT) ∧ (y 1 10 = gL q) ∧ (0 ≤ q ∧ q < 2147483648) ∧ (b = gI bb) ∧ (1 ≤ bb ∧ bb ≤ 1000) ∧ (K (.inl (some (.int (gI (gk_nx q / 65536 % bb))))) n fl x (gk_uy y 1 10 (gL (gk_nx q))))
theorem r_X4_draw (w : gk_W c P cs (fun _ _ => none) rt uf sc K V) {idx : Nat} {b : Int32} {q : Int} {bb : Int} (hd : decode c pc = .ok (.invokevirtual idx, 3)) (hp : pc + 3 = pc2) (hc : cs idx = some (1, 4, 2, 0, S_X4_draw)) (h8 : Nat.ble (r.map Value.category).sum 8 = true) (hp0 : y 1 10 = gL q) (hp1 : 0 ≤ q ∧ q < 2147483648) (hp2 : b = gI bb) (hp3 : 1 ≤ bb ∧ bb ≤ 1000) (kk0 : V pc2 L ((.int (gI (gk_nx q / 65536 % bb))) :: r) 202 gk_fT x (gk_uy y 1 10 (gL (gk_nx q))) u) : V pc L (.int b :: .ref 1 :: r) 202 gk_fT x y u :=
  g_callv w hd hp hc (as := [.ref 1, .int b]) rfl h8 rfl rfl rfl (Or.inr (Or.inl ⟨Or.inl rfl, _, _, rfl, (gk_kd_j rfl rfl), rfl⟩)) (Or.inl rfl) ⟨b, q, bb, rfl, ⟨rfl, rfl⟩, hp0, hp1, hp2, hp3, kk0⟩
theorem gk_uy_in (y : gk_Y) (i k : Nat) (a : Int64) : gk_uy y i k a i k = a := if_pos ⟨rfl, rfl⟩
def L_X4_draw : List (Nat × gk_M0) := []
def cs_X4_draw : Nat → Option gk_M0 := gk_lk L_X4_draw
theorem m_X4_draw : ∀ (as : List Value) (n : Nat) (fl : gk_F) (x : gk_X) (y : gk_Y) (K : gk_K), S_X4_draw as n fl x y K → (gk_L0 as).length ≤ 2 ∧ ∀ V : gk_V, gk_W cX4_draw pX4 cs_X4_draw (fun _ _ => none) (some .int) 0 none K V → V 0 (gk_en as 2) [] n fl x y 0 := by
  intro as n fl x y K hS
  obtain ⟨b, q, bb, rfl, ⟨rfl, rfl⟩, hp0, hp1, hp2, hp3, q0⟩ := hS
  refine ⟨Nat.le_of_ble_eq_true rfl, fun V w => ?_⟩
  show V 0 [some (.ref 1), some (.int b)] [] 202 gk_fT x y 0
  subst hp2
  have hn := gk_nx_b q
  refine s_aload_n (pc2 := 1) w dX4_draw_0 rfl rfl ?_
  refine s_aload_n (pc2 := 2) w dX4_draw_1 rfl rfl ?_
  refine m_getL (pc2 := 5) (ci := 4) (k := 10) w dX4_draw_2 rfl rfl rfl rfl rfl ?_
  rw [hp0]
  refine s_ldc2_w (pc2 := 8) (v := 1103515245) w dX4_draw_5 rfl rfl ?_
  refine s_lmul (pc2 := 9) w dX4_draw_8 rfl ?_
  refine s_ldc2_w (pc2 := 12) (v := 12345) w dX4_draw_9 rfl rfl ?_
  refine s_ladd (pc2 := 13) w dX4_draw_12 rfl ?_
  refine s_ldc2_w (pc2 := 16) (v := 2147483648) w dX4_draw_13 rfl rfl ?_
  refine s_lrem (pc2 := 17) w dX4_draw_16 rfl (by decide) ?_
  rw [show (1103515245 : Int64) = gL 1103515245 from rfl, show (12345 : Int64) = gL 12345 from rfl, show (2147483648 : Int64) = gL 2147483648 from rfl, gL_mul, gL_add, gL_rem ⟨by omega, by omega⟩ ⟨by omega, by omega⟩, Int.tmod_eq_emod_of_nonneg (by omega), show (q * 1103515245 + 12345) % 2147483648 = gk_nx q from rfl]
  refine m_putL (pc2 := 20) (ci := 4) (k := 10) w dX4_draw_17 rfl rfl rfl rfl rfl ?_
  refine s_iload_n (pc2 := 21) w dX4_draw_20 rfl rfl ?_
  refine s_if_ne (pc2 := 24) (tgt := 28) w dX4_draw_21 rfl (by decide) (fun _ => ?_) (fun h0 => absurd h0 (by rw [show (0 : Int32) = gI 0 from rfl, gI_eq ⟨by omega, by omega⟩ ⟨by omega, by omega⟩]; omega))
  refine s_aload_n (pc2 := 29) w dX4_draw_28 rfl rfl ?_
  refine m_getL (pc2 := 32) (ci := 4) (k := 10) w dX4_draw_29 rfl rfl rfl rfl rfl ?_
  rw [gk_uy_in]
  refine s_ldc2_w (pc2 := 35) (v := 65536) w dX4_draw_32 rfl rfl ?_
  refine s_ldiv (pc2 := 36) w dX4_draw_35 rfl (by decide) ?_
  refine s_iload_n (pc2 := 37) w dX4_draw_36 rfl rfl ?_
  refine s_i2l (pc2 := 38) w dX4_draw_37 rfl ?_
  rw [gIL ⟨by omega, by omega⟩, show (65536 : Int64) = gL 65536 from rfl, gL_div ⟨by omega, by omega⟩ ⟨by omega, by omega⟩, Int.tdiv_eq_ediv_of_nonneg (by omega)]
  refine s_lrem (pc2 := 39) w dX4_draw_38 rfl (by rw [show (0 : Int64) = gL 0 from rfl, gL_eq ⟨by omega, by omega⟩ ⟨by omega, by omega⟩]; omega) ?_
  rw [gL_rem ⟨by omega, by omega⟩ ⟨by omega, by omega⟩, Int.tmod_eq_emod_of_nonneg (by omega)]
  refine s_l2i (pc2 := 40) w dX4_draw_39 rfl ?_
  rw [gLI]
  refine s_ireturn w dX4_draw_40 rfl rfl ?_
  exact q0
theorem lk_X4_draw {l : Launch} (hl : l.stackTraces = false) : ∀ q ∈ L_X4_draw, (q.2.1 < 5 → gk_Lk l RX4 gk_W1 0 q.1 q.2.1 q.2.2.1 q.2.2.2.1 q.2.2.2.2.1 q.2.2.2.2.2) := (fun _ h => absurd h List.not_mem_nil)
theorem sp_X4_draw : ∀ q ∈ L_X4_draw, gk_Sq RX4 gk_W1 0 q := (fun _ h => absurd h List.not_mem_nil)
theorem M_X4_draw {l : Launch} (hl : l.stackTraces = false) : gk_Mt l yX4_draw (.code yX4_draw cX4_draw 2 (some .int) :: gk_W1) 0 0 S_X4_draw := gk_meth hl gk_cw_ok (by decide +kernel) rfl m_X4_draw pX4_ok (gk_Sp_of sp_X4_draw) pX4_st (fun ci m S h => absurd h (by intro h; cases h)) (xf_X4 0) (fun idx kd ci mm cost S2 h h5 => lk_X4_draw hl _ (gk_lk_mem h) h5)

theorem gk_ur_all {x : gk_X} {j N t : Nat} {f : Nat → Int32} : gk_up (gk_ur x j f t) j t (f t) = gk_ur x j f (t + 1) := gk_ur_s x j f t
theorem gk_uy_uy (y : gk_Y) (i k : Nat) (a b : Int64) : gk_uy (gk_uy y i k a) i k b = gk_uy y i k b := by
  funext i' k'
  simp only [gk_uy]
  split
  · rfl
  · rfl
theorem gk_uy_self {y : gk_Y} {i k : Nat} {a : Int64} (h : y i k = a) : gk_uy y i k a = y := by
  funext i' k'
  unfold gk_uy
  split
  · rename_i h9; rw [h9.1, h9.2]; exact h.symm
  · rfl
def S_X4_recordNoise : gk_S := fun as n fl x y K => ∃ (rc : Nat) (Lv : Int) (q : Int), as = [.ref 1, .ref rc] ∧ (n = 202 ∧ fl = gk_fT) ∧ gk_kd rc = 20 ∧ (gk_ln rc = 256) ∧ (x 1 9 = gI Lv) ∧ (0 ≤ Lv ∧ Lv ≤ 99) ∧ (y 1 10 = gL q) ∧ (0 ≤ q ∧ q < 2147483648) ∧ (K (.inl none) n fl (gk_ur x rc (fun k => gI (if Lv = 0 then 0 else gk_no Lv q k)) 256) (if Lv = 0 then y else gk_uy y 1 10 (gL (gk_rn q 256))))
theorem r_X4_recordNoise (w : gk_W c P cs (fun _ _ => none) rt uf sc K V) {idx : Nat} {rc : Nat} {Lv : Int} {q : Int} (hd : decode c pc = .ok (.invokevirtual idx, 3)) (hp : pc + 3 = pc2) (hc : cs idx = some (1, 4, 2, 0, S_X4_recordNoise)) (h8 : Nat.ble (r.map Value.category).sum 8 = true) (hk0 : gk_kd rc = 20) (hp0 : gk_ln rc = 256) (hp1 : x 1 9 = gI Lv) (hp2 : 0 ≤ Lv ∧ Lv ≤ 99) (hp3 : y 1 10 = gL q) (hp4 : 0 ≤ q ∧ q < 2147483648) (kk0 : V pc2 L r 202 gk_fT (gk_ur x rc (fun k => gI (if Lv = 0 then 0 else gk_no Lv q k)) 256) (if Lv = 0 then y else gk_uy y 1 10 (gL (gk_rn q 256))) u) : V pc L (.ref rc :: .ref 1 :: r) 202 gk_fT x y u :=
  g_callv w hd hp hc (as := [.ref 1, .ref rc]) rfl h8 rfl rfl rfl (Or.inr (Or.inl ⟨Or.inl rfl, _, _, rfl, (gk_kd_j rfl rfl), rfl⟩)) (Or.inl rfl) ⟨rc, Lv, q, rfl, ⟨rfl, rfl⟩, hk0, hp0, hp1, hp2, hp3, hp4, kk0⟩
def L_X4_recordNoise : List (Nat × gk_M0) := [(139, (1, 4, 2, 0, S_X4_draw))]
def cs_X4_recordNoise : Nat → Option gk_M0 := gk_lk L_X4_recordNoise
theorem m_X4_recordNoise : ∀ (as : List Value) (n : Nat) (fl : gk_F) (x : gk_X) (y : gk_Y) (K : gk_K), S_X4_recordNoise as n fl x y K → (gk_L0 as).length ≤ 3 ∧ ∀ V : gk_V, gk_W cX4_recordNoise pX4 cs_X4_recordNoise (fun _ _ => none) none 0 none K V → V 0 (gk_en as 3) [] n fl x y 0 := by
  intro as n fl x y K hS
  obtain ⟨rc, Lv, q, rfl, ⟨rfl, rfl⟩, hk0, hp0, hp1, hp2, hp3, hp4, q0⟩ := hS
  refine ⟨Nat.le_of_ble_eq_true rfl, fun V w => ?_⟩
  show V 0 [some (.ref 1), some (.ref rc), none] [] 202 gk_fT x y 0
  have hrc : 1 ≠ rc := fun h => by rw [← h] at hk0; exact absurd hk0 (by decide)
  obtain ⟨F, hF⟩ : ∃ F : Nat → Int32, F = fun k => gI (if Lv = 0 then 0 else gk_no Lv q k) := ⟨_, rfl⟩
  rw [← hF] at q0
  have key : ∀ (k n : Nat), n + k = 256 → V 2 [some (.ref 1), some (.ref rc), some (.int (nI n))] [] 202 gk_fT (gk_ur x rc F n) (if Lv = 0 then y else gk_uy y 1 10 (gL (gk_rn q n))) 0 := by
    intro k
    induction k with
    | zero =>
      intro n ht
      have ht2 : n = 256 := by omega
      subst ht2
      refine s_iload_n (pc2 := 3) w dX4_recordNoise_2 rfl rfl ?_
      refine s_aload_n (pc2 := 4) w dX4_recordNoise_3 rfl rfl ?_
      refine m_alen (pc2 := 5) (kd := 20) (N := (nI 256)) w dX4_recordNoise_4 rfl hk0 rfl rfl (congrArg nI hp0) ?_
      refine s_ic_ge (pc2 := 8) (tgt := 45) w dX4_recordNoise_5 rfl (by decide) (fun _ => ?_) (fun h0 => absurd ((Int32.le_refl _)) h0)
      refine s_return w dX4_recordNoise_45 rfl ?_
      exact q0
    | succ k ih =>
      intro n ht
      have hr := gk_rn_b hp4 n
      have e9 : gk_ur x rc F n 1 9 = gI Lv := (gk_ur_ne hrc).trans hp1
      refine s_iload_n (pc2 := 3) w dX4_recordNoise_2 rfl rfl ?_
      refine s_aload_n (pc2 := 4) w dX4_recordNoise_3 rfl rfl ?_
      refine m_alen (pc2 := 5) (kd := 20) (N := (nI 256)) w dX4_recordNoise_4 rfl hk0 rfl rfl (congrArg nI hp0) ?_
      refine s_ic_ge (pc2 := 8) (tgt := 45) w dX4_recordNoise_5 rfl (by decide) (fun h0 => absurd h0 (by rw [gI_nI, gI_nI, gI_le ⟨by omega, by omega⟩ ⟨by omega, by omega⟩]; omega)) (fun _ => ?_)
      refine s_aload_n (pc2 := 9) w dX4_recordNoise_8 rfl rfl ?_
      refine s_iload_n (pc2 := 10) w dX4_recordNoise_9 rfl rfl ?_
      refine s_aload_n (pc2 := 11) w dX4_recordNoise_10 rfl rfl ?_
      refine m_getI (pc2 := 14) (ci := 4) (k := 9) w dX4_recordNoise_11 rfl rfl rfl rfl rfl ?_
      rw [e9]
      refine s_if_ne (pc2 := 17) (tgt := 21) w dX4_recordNoise_14 rfl (by decide) (fun c14 => ?_) (fun c14 => ?_)
      · have hz : ¬ Lv = 0 := fun h => c14 (by rw [h]; rfl)
        simp only [if_neg hz] at ih ⊢
        refine s_aload_n (pc2 := 22) w dX4_recordNoise_21 rfl rfl ?_
        refine s_iconst (pc2 := 23) (v := gI 2) w dX4_recordNoise_22 rfl rfl ?_
        refine s_aload_n (pc2 := 24) w dX4_recordNoise_23 rfl rfl ?_
        refine m_getI (pc2 := 27) (ci := 4) (k := 9) w dX4_recordNoise_24 rfl rfl rfl rfl rfl ?_
        refine s_imul (pc2 := 28) w dX4_recordNoise_27 rfl ?_
        refine s_iconst (pc2 := 29) (v := gI 1) w dX4_recordNoise_28 rfl rfl ?_
        refine s_iadd (pc2 := 30) w dX4_recordNoise_29 rfl ?_
        rw [e9, gI_mul, gI_add]
        refine r_X4_draw (pc2 := 33) w dX4_recordNoise_30 rfl rfl rfl (gk_uy_in _ _ _ _) hr rfl (by omega) ?_
        refine s_aload_n (pc2 := 34) w dX4_recordNoise_33 rfl rfl ?_
        refine m_getI (pc2 := 37) (ci := 4) (k := 9) w dX4_recordNoise_34 rfl rfl rfl rfl rfl ?_
        refine s_isub (pc2 := 38) w dX4_recordNoise_37 rfl ?_
        rw [e9, gI_sub, show gk_nx (gk_rn q n) / 65536 % (2 * Lv + 1) - Lv = gk_no Lv q n from rfl]
        refine m_iastoreN (pc2 := 39) (t := n) w dX4_recordNoise_38 rfl hk0 hp0 rfl (by omega) rfl ?_
        refine s_iinc (pc2 := 42) w dX4_recordNoise_39 rfl rfl rfl rfl ?_
        dsimp only [gk_s1, gk_s2, gk_cl]
        rw [nI_s]
        refine s_goto (tgt := 2) w dX4_recordNoise_42 (by decide) ?_
        have h := ih (n + 1) (by omega)
        rw [← gk_ur_s, show F n = gI (gk_no Lv q n) by rw [hF]; show gI (if Lv = 0 then 0 else gk_no Lv q n) = _; rw [if_neg hz]] at h
        rw [gk_uy_uy]
        exact h
      · have hz : Lv = 0 := (gI_eq ⟨by omega, by omega⟩ ⟨by decide, by decide⟩).mp c14
        simp only [if_pos hz] at ih ⊢
        refine s_iconst (pc2 := 18) (v := gI 0) w dX4_recordNoise_17 rfl rfl ?_
        refine s_goto (tgt := 38) w dX4_recordNoise_18 (by decide) ?_
        refine m_iastoreN (pc2 := 39) (t := n) w dX4_recordNoise_38 rfl hk0 hp0 rfl (by omega) rfl ?_
        refine s_iinc (pc2 := 42) w dX4_recordNoise_39 rfl rfl rfl rfl ?_
        dsimp only [gk_s1, gk_s2, gk_cl]
        rw [nI_s]
        refine s_goto (tgt := 2) w dX4_recordNoise_42 (by decide) ?_
        have h := ih (n + 1) (by omega)
        rw [← gk_ur_s, show F n = gI 0 by rw [hF]; show gI (if Lv = 0 then 0 else gk_no Lv q n) = _; rw [if_pos hz]] at h
        exact h
  refine s_iconst (pc2 := 1) (v := gI 0) w dX4_recordNoise_0 rfl rfl ?_
  refine s_istore_n (pc2 := 2) (k2 := 2) w dX4_recordNoise_1 rfl rfl rfl ?_
  dsimp only [gk_s1, gk_s2, gk_cl]
  have h := key 256 0 rfl
  rw [gk_ur_0, show gk_rn q 0 = q from rfl, gk_uy_self hp3] at h
  rw [show (if Lv = 0 then y else y) = y by split <;> rfl] at h
  exact h
theorem lk_X4_recordNoise {l : Launch} (hl : l.stackTraces = false) : ∀ q ∈ L_X4_recordNoise, (q.2.1 < 5 → gk_Lk l RX4 gk_W1 1 q.1 q.2.1 q.2.2.1 q.2.2.2.1 q.2.2.2.2.1 q.2.2.2.2.2) := (List.forall_mem_cons.mpr ⟨(fun _ => ⟨yX4_draw, cX4_draw, 2, (some .int), 0, _, M_X4_draw hl, ⟨by decide, by decide⟩, ⟨by decide, by decide, by decide +kernel⟩, ⟨(gk_wm 450 (by decide +kernel)), (gk_wm 90 (by decide +kernel))⟩, Or.inr (Or.inr (Or.inr (Or.inl ⟨rfl, rfl, (gk_wm 449 (by decide +kernel)), (gk_wm 1 (by decide +kernel)), gk_wm 447 (by decide +kernel), by decide, rfl⟩)))⟩), (fun _ h => absurd h List.not_mem_nil)⟩)
theorem sp_X4_recordNoise : ∀ q ∈ L_X4_recordNoise, gk_Sq RX4 gk_W1 1 q := (List.forall_mem_cons.mpr ⟨⟨fun h => absurd h (by decide), fun h => absurd h (by decide), fun h => absurd h (by decide), fun h => absurd h (by decide), fun h => absurd h (by decide), fun h => absurd h (by decide)⟩, (fun _ h => absurd h List.not_mem_nil)⟩)
theorem M_X4_recordNoise {l : Launch} (hl : l.stackTraces = false) : gk_Mt l yX4_recordNoise (.code yX4_recordNoise cX4_recordNoise 3 none :: gk_W1) 1 0 S_X4_recordNoise := gk_meth hl gk_cw_ok (by decide +kernel) rfl m_X4_recordNoise pX4_ok (gk_Sp_of sp_X4_recordNoise) pX4_st (fun ci m S h => absurd h (by intro h; cases h)) (xf_X4 1) (fun idx kd ci mm cost S2 h h5 => lk_X4_recordNoise hl _ (gk_lk_mem h) h5)

end GKV

/-! THE METHODS, 25: the class, parts for a place -/
section GKV
variable {c : ByteArray} {P : gk_C} {cs : Nat → Option gk_M0} {rt : Option FieldType} {uf : Nat} {sc : Option Nat} {K : gk_K} {V : gk_V}
variable {L : List (Option Value)} {r : List Value} {n : Nat} {fl : gk_F} {x : gk_X} {y : gk_Y} {u pc pc2 : Nat}
theorem rs0_cg {b : Nat} {g : Nat → Int32} {x x2 : gk_X} (h : ∀ k, x2 b k = x b k) (h2 : rs0 b g x) : rs0 b g x2 := by
  unfold rs0 at h2 ⊢
  simp only [h]
  exact h2
theorem dl_step {A S B : Int} (hS : -50 ≤ S ∧ S ≤ 50) (hB : 0 ≤ B) (t : Nat) : gk_dl A S B t ≤ gk_dl A S B ((t + 1 : Nat) : Int) + 51 := by
  unfold gk_dl
  obtain ⟨z, hz⟩ : ∃ z, z = A + S * ((t + 1 : Nat) : Int) := ⟨_, rfl⟩
  have ha : A + S * (t : Int) = z - S := by rw [hz, Int.natCast_succ, Int.mul_add]; omega
  rw [ha, ← hz]
  have nn : ∀ w : Int, 0 ≤ w * w := fun w => by
    rcases Int.le_total 0 w with h3 | h3
    · exact Int.mul_nonneg h3 h3
    · exact Int.mul_nonneg_of_nonpos_of_nonpos h3 h3
  have n1 := nn (z - S)
  have n2 := nn z
  have p1 := (gk_rt_s (show 0 ≤ (z - S) * (z - S) + B by omega)).1
  have q2 := (gk_rt_s (show 0 ≤ z * z + B by omega)).2
  have r0 := gk_rt_nn ((z - S) * (z - S) + B)
  have q0 := gk_rt_nn (z * z + B)
  generalize gk_rt ((z - S) * (z - S) + B) = r at *
  generalize gk_rt (z * z + B) = q at *
  rcases Int.lt_or_le r (q + 52) with h | h
  · omega
  · exfalso
    have h3 : -q ≤ z ∧ z ≤ q := by
      constructor
      · rcases Int.lt_or_le z (-q) with h4 | h4
        · have h5 := Int.mul_le_mul (show q + 1 ≤ -z by omega) (show q + 1 ≤ -z by omega) (by omega) (by omega)
          rw [Int.neg_mul_neg] at h5
          omega
        · exact h4
      · rcases Int.lt_or_le q z with h4 | h4
        · have h5 := Int.mul_le_mul (show q + 1 ≤ z by omega) (show q + 1 ≤ z by omega) (by omega) (by omega)
          omega
        · exact h4
    have b1 := gk_mulb (a := z) (b := S) h3.1 h3.2 hS.1 hS.2
    have b2 := gk_sqb hS.1 hS.2
    have e4 : (z - S) * (z - S) = z * z - z * S - (z * S - S * S) := by rw [Int.sub_mul, Int.mul_sub, Int.mul_sub, Int.mul_comm S z]
    have e1 : (q + 52) * (q + 52) = q * q + 104 * q + 2704 := by rw [Int.add_mul, Int.mul_add]; omega
    have e2 : (q + 1) * (q + 1) = q * q + 2 * q + 1 := by rw [Int.add_mul, Int.mul_add]; omega
    have h6 := Int.mul_le_mul h h (by omega) (by omega)
    omega
theorem mk_lt {A S B c : Int} (hS : -50 ≤ S ∧ S ≤ 50) (hB : 0 ≤ B) (hc : 100 ≤ c) {s : Nat} : ∀ {t : Nat}, s < t → (s : Int) * c + gk_dl A S B s < (t : Int) * c + gk_dl A S B t
  | 0, h => by omega
  | t + 1, h => by
    have h1 := dl_step (A := A) hS hB t
    have e : ((t + 1 : Nat) : Int) * c = (t : Int) * c + c := by rw [Int.natCast_succ, Int.add_mul]; omega
    rcases Nat.lt_or_ge s t with h2 | h2
    · have := mk_lt (A := A) hS hB hc h2
      omega
    · obtain rfl : s = t := by omega
      omega
theorem last_ge {p : Nat → Bool} {t : Nat} (h : p t = true) : ∀ {n : Nat}, t < n → (t : Int) ≤ gk_last p n
  | 0, h2 => by omega
  | n + 1, h2 => by
    unfold gk_last
    split
    · omega
    · rename_i h3
      rcases Nat.lt_or_ge t n with h4 | h4
      · exact last_ge h h4
      · obtain rfl : t = n := by omega
        exact absurd h h3
theorem cu_scan {g : Nat → Int32} {A S B B2 N : Int} {t nx : Nat} {pv : Nat → Int} (hc : 100 ≤ gz g 0) (hS : -50 ≤ S ∧ S ≤ 50) (hB : 0 ≤ B2) (hN : (t : Int) ≤ N) (h1 : ∀ j : Nat, j < nx → (j : Int) * gz g 0 + gk_dl A S B2 j ≤ N * gz g 0) (h2 : nx ≤ t → N * gz g 0 < (nx : Int) * gz g 0 + gk_dl A S B2 nx) (h3 : nx ≤ t + 1) : gk_cu g A S B B2 N.toNat t pv = if 0 < nx ∧ nx ≤ t then gk_rp (gSp g) (gz g 1) (pv (nx - 1)) (gk_dl A S B ((nx - 1 : Nat) : Int)) (gk_dl A S B2 ((nx - 1 : Nat) : Int)) else 0 := by
  obtain ⟨s, rfl⟩ := Int.eq_ofNat_of_zero_le (show 0 ≤ N by omega)
  rw [Int.toNat_natCast]
  unfold gk_cu
  by_cases hnx : nx ≤ t
  · have e : gk_last (gk_lp2 A S B2 (gz g 0) s) (s + 1) = gk_last (gk_lp2 A S B2 (gz g 0) s) nx := gk_last_none (s + 1) (by omega) (fun k a b => decide_eq_false (by
      have h5 := h2 hnx
      rcases Nat.lt_or_ge nx k with h6 | h6
      · have := mk_lt (A := A) hS hB hc h6
        omega
      · obtain rfl : nx = k := by omega
        omega))
    rw [e]
    cases nx with
    | zero => exact (if_pos (Or.inl rfl)).trans (if_neg (by omega)).symm
    | succ u =>
      have e2 : gk_last (gk_lp2 A S B2 (gz g 0) s) (u + 1) = (u : Int) := if_pos (decide_eq_true (h1 u (Nat.lt_succ_self u)))
      rw [e2]
      refine (if_neg (by omega)).trans (Eq.trans ?_ (if_pos ⟨Nat.succ_pos u, hnx⟩).symm)
      rfl
  · have h4 := last_ge (p := gk_lp2 A S B2 (gz g 0) s) (t := t) (decide_eq_true (h1 t (by omega))) (n := s + 1) (by omega)
    exact (if_pos (Or.inr h4)).trans (if_neg (fun h => hnx h.2)).symm
theorem fN_mono {g : Nat → Int32} {m : Nat} {by_ : Int} (hc : 100 ≤ gz g 0) (hp : gk_PB (fA g m by_) (fS g) (fBe g m false)) (t : Nat) : fN g m by_ t ≤ fN g m by_ (t + 1) := by
  rw [← fN_e hc, ← fN_e hc]
  have := mk_lt (A := fA g m by_) (c := gz g 0) ⟨hp.2.2.1, hp.2.2.2.1⟩ hp.2.2.2.2.1 hc (show t < t + 1 by omega)
  exact Int.ediv_le_ediv (by omega) (by omega)
theorem nI_p (u : Nat) : nI (u + 1) - gI 1 = nI u := by
  rw [gI_nI, gI_sub]
  exact congrArg gI (show ((u + 1 : Nat) : Int) - 1 = (u : Int) by omega)
theorem rs_focus {b : Nat} {g : Nat → Int32} {x : gk_X} (hw : gWf g) (h2 : ¬ g 10 = 2) (h : rsf b g x) : gk_PP x (b + 4) (fP g 0) (fS g) (fY g) (gz g 14) := by
  obtain ⟨h3, h4⟩ := h
  obtain ⟨-, hv, -, -, hf⟩ := hw
  unfold fP fS fY
  rcases hf with ⟨e, f1, f2, f3⟩ | ⟨e, f1, f2, f3⟩ | ⟨e, -⟩
  · have e9 : gz g 11 = (fV g : Int) := by unfold fV; omega
    obtain ⟨v1, v2, v3⟩ := hv (fV g) (by unfold nV; omega)
    rw [if_pos e, if_pos e, if_pos e]
    obtain ⟨k1, k2, k3, k4⟩ := h3 e
    refine ⟨⟨k1.trans ?_, k2.trans (gz_I g _), k3.trans (gz_I g _), k4.trans (gz_I g _)⟩, by omega, by omega, by omega, by omega⟩
    rw [Int.add_zero]; rfl
  · have ne : ¬ g 10 = 0 := fun h => by rw [h] at e; exact absurd e (by decide)
    rw [if_neg ne, if_neg ne, if_neg ne]
    obtain ⟨k1, k2, k3, k4⟩ := h4 e
    refine ⟨⟨k1.trans ((gz_I g _).trans ?_), k2, k3.trans (gz_I g _), k4.trans (gz_I g _)⟩, by omega, by omega, by omega, by omega⟩
    rw [Int.add_zero]
  · exact absurd e h2
theorem fA_e (g : Nat → Int32) (m : Nat) (B : Int) : fP g 0 + B - gz g (154 + 4 * m + 0) = fA g m B := by
  unfold fA fP
  omega
def S_X0_takeCutParts : gk_S := fun as n fl x y K => ∃ (rc : Nat) (l : Int32) (g : Nat → Int32) (m : Nat) (B : Int) (b : Nat), as = [.ref 90, .ref 1, .ref rc, .int l] ∧ (n = 202 ∧ fl = gk_fT) ∧ gk_kd rc = 20 ∧ (rs0 1 g x) ∧ (gWf g) ∧ (gWr g) ∧ (¬ g 10 = 2) ∧ (m < nM g) ∧ (-2000 ≤ B ∧ B ≤ 2000) ∧ (gk_PL y 93 (fA g m B) (fS g) (fBe g m false)) ∧ (gk_PL y 94 (fA g m B) (fS g) (fBe g m true)) ∧ (rc = 2 * m + 29) ∧ (∀ k, k < 256 → x rc k = g (186 + 256 * m + k)) ∧ (g 5 = 1) ∧ (l = nI b) ∧ (b < 256) ∧ (K (.inl none) n fl (gk_ur x 92 (fun k => gI (gk_pt g m B k)) (b + 1)) y)
theorem r_X0_takeCutParts (w : gk_W c P cs (fun _ _ => none) rt uf sc K V) {idx : Nat} {rc : Nat} {l : Int32} {g : Nat → Int32} {m : Nat} {B : Int} {b : Nat} (hd : decode c pc = .ok (.invokevirtual idx, 3)) (hp : pc + 3 = pc2) (hc : cs idx = some (1, 0, 4, 0, S_X0_takeCutParts)) (h8 : Nat.ble (r.map Value.category).sum 8 = true) (hk0 : gk_kd rc = 20) (hp0 : rs0 1 g x) (hp1 : gWf g) (hp2 : gWr g) (hp3 : ¬ g 10 = 2) (hp4 : m < nM g) (hp5 : -2000 ≤ B ∧ B ≤ 2000) (hp6 : gk_PL y 93 (fA g m B) (fS g) (fBe g m false)) (hp7 : gk_PL y 94 (fA g m B) (fS g) (fBe g m true)) (hp8 : rc = 2 * m + 29) (hp9 : ∀ k, k < 256 → x rc k = g (186 + 256 * m + k)) (hp10 : g 5 = 1) (hp11 : l = nI b) (hp12 : b < 256) (kk0 : V pc2 L r 202 gk_fT (gk_ur x 92 (fun k => gI (gk_pt g m B k)) (b + 1)) y u) : V pc L (.int l :: .ref rc :: .ref 1 :: .ref 90 :: r) 202 gk_fT x y u :=
  g_callv w hd hp hc (as := [.ref 90, .ref 1, .ref rc, .int l]) rfl h8 rfl rfl rfl (Or.inr (Or.inl ⟨Or.inl rfl, _, _, rfl, (gk_kd_j rfl rfl), rfl⟩)) (Or.inl rfl) ⟨rc, l, g, m, B, b, rfl, ⟨rfl, rfl⟩, hk0, hp0, hp1, hp2, hp3, hp4, hp5, hp6, hp7, hp8, hp9, hp10, hp11, hp12, kk0⟩
def L_X0_takeCutParts : List (Nat × gk_M0) := [(86, (1, 2, 3, 0, S_X2_sampleAt)), (93, (0, 9, 2, 0, S_X10_elementAt)), (112, (1, 2, 3, 0, S_X2_markAt)), (115, (1, 0, 3, 0, S_X0_reflectedPart))]
def cs_X0_takeCutParts : Nat → Option gk_M0 := gk_lk L_X0_takeCutParts
theorem m_X0_takeCutParts : ∀ (as : List Value) (n : Nat) (fl : gk_F) (x : gk_X) (y : gk_Y) (K : gk_K), S_X0_takeCutParts as n fl x y K → (gk_L0 as).length ≤ 9 ∧ ∀ V : gk_V, gk_W cX0_takeCutParts pX0 cs_X0_takeCutParts (fun _ _ => none) none 0 none K V → V 0 (gk_en as 9) [] n fl x y 0 := by
  intro as n fl x y K hS
  obtain ⟨rc, l, g, m, B, b, rfl, ⟨rfl, rfl⟩, hk0, hp0, hp1, hp2, hp3, hp4, hp5, hp6, hp7, hp8, hp9, hp10, hp11, hp12, q0⟩ := hS
  refine ⟨Nat.le_of_ble_eq_true rfl, fun V w => ?_⟩
  show V 0 [some (.ref 90), some (.ref 1), some (.ref rc), some (.int l), none, none, none, none, none] [] 202 gk_fT x y 0
  subst hp8 hp11
  obtain ⟨k1, k2, k3, k4, k5, h8, hpb⟩ := wf_focus hp1 hp3 hp4 hp5
  have hcc := hp1.1.1
  obtain ⟨j1, j2, j3⟩ := kd_m h8
  have e7 : x 1 7 = gI (gz g 0) := hp0.2.1.trans (gz_I g 0)
  have pb1 := hpb true
  have hS : -50 ≤ fS g ∧ fS g ≤ 50 := k2
  have hB2 : 0 ≤ fBe g m true := pb1.2.2.2.2.1
  have key : ∀ (k t nx : Nat) (l8 : Option Value), t + k = b + 1 → nx ≤ t → (t ≤ b → ∀ j : Nat, j < nx → (((j : Nat) : Int) * gz g 0 + gk_dl (fA g m B) (fS g) (fBe g m true) ((j : Nat) : Int)) ≤ fN g m B t * gz g 0) → V 25 [some (.ref 90), some (.ref 1), some (.ref (2 * m + 29)), some (.int (nI b)), some (.int (gI (gz g 0))), some (.int (nI (nx))), some (.int (gI (((nx : Nat) : Int) * gz g 0 + gk_dl (fA g m B) (fS g) (fBe g m true) ((nx : Nat) : Int)))), some (.int (nI (t))), l8] [] 202 gk_fT (gk_ur x 92 (fun k => gI (gk_pt g m B k)) t) y 0 := by
    intro k
    induction k with
    | zero =>
      intro t nx l8 ht h1 h2
      obtain rfl : t = b + 1 := by omega
      refine s_iload (pc2 := 27) w dX0_takeCutParts_25 rfl rfl ?_
      refine s_iload_n (pc2 := 28) w dX0_takeCutParts_27 rfl rfl ?_
      refine s_ic_gt (pc2 := 31) (tgt := 138) w dX0_takeCutParts_28 rfl (by decide) (fun _ => ?_) (fun h0 => absurd (by rw [gI_nI, gI_nI, gI_lt ⟨by omega, by omega⟩ ⟨by omega, by omega⟩]; omega) h0)
      refine s_return w dX0_takeCutParts_138 rfl ?_
      exact q0
    | succ k ih =>
      intro t nx l8 ht h1 h2
      have htb : t ≤ b := by omega
      have h2 := h2 htb
      have hfn := fN_b hcc (hpb false) (show t < 256 by omega)
      have hq2 := gk_mulb (a := fN g m B t) (b := gz g 0) (A := 100000) (B := 1000) (by omega) (by omega) (by omega) (by omega)
      obtain ⟨N, hN⟩ : ∃ N, N = fN g m B t := ⟨_, rfl⟩
      rw [← hN] at hfn hq2
      have fin : ∀ nx2 : Nat, nx2 ≤ t + 1 → (∀ j : Nat, j < nx2 → (((j : Nat) : Int) * gz g 0 + gk_dl (fA g m B) (fS g) (fBe g m true) ((j : Nat) : Int)) ≤ N * gz g 0) → (nx2 ≤ t → N * gz g 0 < (((nx2 : Nat) : Int) * gz g 0 + gk_dl (fA g m B) (fS g) (fBe g m true) ((nx2 : Nat) : Int))) → V 80 [some (.ref 90), some (.ref 1), some (.ref (2 * m + 29)), some (.int (nI b)), some (.int (gI (gz g 0))), some (.int (nI (nx2))), some (.int (gI (((nx2 : Nat) : Int) * gz g 0 + gk_dl (fA g m B) (fS g) (fBe g m true) ((nx2 : Nat) : Int)))), some (.int (nI (t))), some (.int (gI N))] [] 202 gk_fT (gk_ur x 92 (fun k => gI (gk_pt g m B k)) t) y 0 := by
        intro nx2 g1 g2 g3
        have hcu := cu_scan (g := g) (A := fA g m B) (B := fBe g m false) (pv := gk_pr g m B t) hcc.1 hS hB2 (show (t : Int) ≤ N by omega) g2 g3 g1
        have hpt := gk_pt_s g m B t
        rw [← hN, hcu] at hpt
        have nxt : ∀ l8 : Option Value, V 25 [some (.ref 90), some (.ref 1), some (.ref (2 * m + 29)), some (.int (nI b)), some (.int (gI (gz g 0))), some (.int (nI (nx2))), some (.int (gI (((nx2 : Nat) : Int) * gz g 0 + gk_dl (fA g m B) (fS g) (fBe g m true) ((nx2 : Nat) : Int)))), some (.int (nI (t + 1))), l8] [] 202 gk_fT (gk_ur x 92 (fun k => gI (gk_pt g m B k)) (t + 1)) y 0 := fun l8 => ih (t + 1) nx2 l8 (by omega) (by omega) (fun h5 j hj => by
          have h6 := g2 j hj
          have h7 := fN_mono hcc.1 (hpb false) t
          rw [← hN] at h7
          have h9 := Int.mul_le_mul_of_nonneg_right h7 (show 0 ≤ gz g 0 by omega)
          omega)
        have er : gk_at (gk_ur x 92 (fun k => gI (gk_pt g m B k)) t (2 * m + 29)) (gI N) = gI (rcI g m N) := by
          rw [gk_at_cg (fun k hk => (gk_ur_ne (show 2 * m + 29 ≠ 92 by omega)).trans (hp9 k hk))]
          exact (gI_self _).symm
        have hsg := gk_ur_s x 92 (fun k => gI (gk_pt g m B k)) t
        refine s_aload_n (pc2 := 81) w dX0_takeCutParts_80 rfl rfl ?_
        refine m_getR (pc2 := 84) (ci := 0) (k := 1) (j2 := 92) w dX0_takeCutParts_81 rfl rfl rfl rfl rfl rfl ?_
        refine s_iload (pc2 := 86) w dX0_takeCutParts_84 rfl rfl ?_
        refine s_aload_n (pc2 := 87) w dX0_takeCutParts_86 rfl rfl ?_
        refine s_iload (pc2 := 89) w dX0_takeCutParts_87 rfl rfl ?_
        refine r_X10_elementAt (pc2 := 92) w dX0_takeCutParts_89 rfl rfl rfl j2 j3 rfl ?_
        rw [gk_at_e, er]
        refine m_iastoreN (pc2 := 93) (t := t) (N := 256) w dX0_takeCutParts_92 rfl rfl rfl rfl (by omega) rfl ?_
        refine s_iload (pc2 := 95) w dX0_takeCutParts_93 rfl rfl ?_
        refine s_sipush (pc2 := 98) (v := gI 256) w dX0_takeCutParts_95 rfl rfl ?_
        refine s_ic_ge (pc2 := 101) (tgt := 132) w dX0_takeCutParts_98 rfl (by decide) (fun c98 => ?_) (fun c98 => ?_)
        · refine s_iinc (pc2 := 135) w dX0_takeCutParts_132 rfl rfl rfl rfl ?_
          dsimp only [gk_s1, gk_s2, gk_cl]
          rw [nI_s]
          refine s_goto (tgt := 25) w dX0_takeCutParts_135 (by decide) ?_
          have e9 : gk_pt g m B t = rcI g m N := by
            rw [hpt]
            rw [if_neg (fun h => by have := (gI_le ⟨by omega, by omega⟩ ⟨by omega, by omega⟩).mp c98; omega), Int.sub_zero]
          rw [← e9, hsg]
          exact nxt _
        · refine s_iload (pc2 := 103) w dX0_takeCutParts_101 rfl rfl ?_
          refine s_if_le (pc2 := 106) (tgt := 132) w dX0_takeCutParts_103 rfl (by decide) (fun c103 => ?_) (fun c103 => ?_)
          · refine s_iinc (pc2 := 135) w dX0_takeCutParts_132 rfl rfl rfl rfl ?_
            dsimp only [gk_s1, gk_s2, gk_cl]
            rw [nI_s]
            refine s_goto (tgt := 25) w dX0_takeCutParts_135 (by decide) ?_
            have e9 : gk_pt g m B t = rcI g m N := by
              rw [hpt]
              rw [if_neg (show ¬ (0 < nx2 ∧ nx2 ≤ t) from fun h => by have := (gI_le (a := (nx2 : Int)) (b := 0) ⟨by omega, by omega⟩ ⟨by omega, by omega⟩).mp c103; omega)]
              split <;> exact Int.sub_zero _
            rw [← e9, hsg]
            exact nxt _
          · refine s_iload (pc2 := 108) w dX0_takeCutParts_106 rfl rfl ?_
            refine s_iload (pc2 := 110) w dX0_takeCutParts_108 rfl rfl ?_
            refine s_ic_gt (pc2 := 113) (tgt := 132) w dX0_takeCutParts_110 rfl (by decide) (fun c110 => ?_) (fun c110 => ?_)
            · refine s_iinc (pc2 := 135) w dX0_takeCutParts_132 rfl rfl rfl rfl ?_
              dsimp only [gk_s1, gk_s2, gk_cl]
              rw [nI_s]
              refine s_goto (tgt := 25) w dX0_takeCutParts_135 (by decide) ?_
              have e9 : gk_pt g m B t = rcI g m N := by
                rw [hpt]
                rw [if_neg (show ¬ (0 < nx2 ∧ nx2 ≤ t) from fun h => by have := (gI_lt (a := (t : Int)) (b := (nx2 : Int)) ⟨by omega, by omega⟩ ⟨by omega, by omega⟩).mp c110; omega)]
                split <;> exact Int.sub_zero _
              rw [← e9, hsg]
              exact nxt _
            · obtain ⟨u, rfl⟩ : ∃ u, nx2 = u + 1 := ⟨nx2 - 1, by have := (g_nle).mp c103; rw [show (0 : Int32) = gI 0 from rfl, gI_nI, gI_lt ⟨by omega, by omega⟩ ⟨by omega, by omega⟩] at this; omega⟩
              have hut : u + 1 ≤ t := Nat.not_lt.mp (fun h => c110 ((gI_lt (a := (t : Int)) (b := ((u + 1 : Nat) : Int)) ⟨by omega, by omega⟩ ⟨by omega, by omega⟩).mpr (by omega)))
              refine s_aload_n (pc2 := 114) w dX0_takeCutParts_113 rfl rfl ?_
              refine m_getR (pc2 := 117) (ci := 0) (k := 1) (j2 := 92) w dX0_takeCutParts_114 rfl rfl rfl rfl rfl rfl ?_
              refine s_iload (pc2 := 119) w dX0_takeCutParts_117 rfl rfl ?_
              refine s_dup2 (pc2 := 120) w dX0_takeCutParts_119 rfl rfl rfl ?_
              refine m_ialoadN (pc2 := 121) (t := t) (N := 256) w dX0_takeCutParts_120 rfl rfl rfl rfl (by omega) rfl ?_
              refine s_aload_n (pc2 := 122) w dX0_takeCutParts_121 rfl rfl ?_
              refine s_aload_n (pc2 := 123) w dX0_takeCutParts_122 rfl rfl ?_
              refine s_iload (pc2 := 125) w dX0_takeCutParts_123 rfl rfl ?_
              refine s_iconst (pc2 := 126) (v := gI 1) w dX0_takeCutParts_125 rfl rfl ?_
              refine s_isub (pc2 := 127) w dX0_takeCutParts_126 rfl ?_
              rw [nI_p]
              refine r_X0_reflectedPart (pc2 := 130) (tt := u) (v := gk_pr g m B t u) w dX0_takeCutParts_127 rfl rfl rfl (rs0_cg (x := x) (fun k => (gk_up_ne (by omega)).trans (gk_ur_ne (by decide))) hp0) hp1 rfl (by omega) hp6 (hpb false) hp7 pb1 ((gk_up_ne (by omega)).trans ((gk_ur_in (show u < t by omega)).trans (congrArg gI (gk_pr_lo g m B (Nat.lt_succ_self u) (show u + 1 ≤ t by omega)).symm))) (by have := gk_pr_b hp1 hp2 hp3 hp4 hp5 t (by omega) u; omega) ?_
              rw [gk_up_in]
              refine s_isub (pc2 := 131) w dX0_takeCutParts_130 rfl ?_
              rw [gI_sub]
              refine m_iastoreN (pc2 := 132) (t := t) (N := 256) w dX0_takeCutParts_131 rfl rfl rfl rfl (by omega) rfl ?_
              rw [gk_up_up]
              refine s_iinc (pc2 := 135) w dX0_takeCutParts_132 rfl rfl rfl rfl ?_
              dsimp only [gk_s1, gk_s2, gk_cl]
              rw [nI_s]
              refine s_goto (tgt := 25) w dX0_takeCutParts_135 (by decide) ?_
              have e9 : gk_pt g m B t = rcI g m N - gk_rp (gSp g) (gz g 1) (gk_pr g m B t u) (gk_dl (fA g m B) (fS g) (fBe g m false) (u : Int)) (gk_dl (fA g m B) (fS g) (fBe g m true) (u : Int)) := by
                rw [hpt, if_pos ⟨hp10, Int.not_lt.mp (fun h => c98 ((gI_le ⟨by omega, by omega⟩ ⟨by omega, by omega⟩).mpr (by omega)))⟩, if_pos ⟨Nat.succ_pos u, hut⟩]
                rfl
              rw [← e9, hsg]
              exact nxt _
      have inner : ∀ (e nx2 : Nat), nx2 + e = t + 1 → (∀ j : Nat, j < nx2 → (((j : Nat) : Int) * gz g 0 + gk_dl (fA g m B) (fS g) (fBe g m true) ((j : Nat) : Int)) ≤ N * gz g 0) → V 44 [some (.ref 90), some (.ref 1), some (.ref (2 * m + 29)), some (.int (nI b)), some (.int (gI (gz g 0))), some (.int (nI (nx2))), some (.int (gI (((nx2 : Nat) : Int) * gz g 0 + gk_dl (fA g m B) (fS g) (fBe g m true) ((nx2 : Nat) : Int)))), some (.int (nI (t))), some (.int (gI N))] [] 202 gk_fT (gk_ur x 92 (fun k => gI (gk_pt g m B k)) t) y 0 := by
        intro e
        induction e with
        | zero =>
          intro nx2 g1 g2
          refine s_iload (pc2 := 46) w dX0_takeCutParts_44 rfl rfl ?_
          refine s_iload (pc2 := 48) w dX0_takeCutParts_46 rfl rfl ?_
          refine s_ic_gt (pc2 := 51) (tgt := 80) w dX0_takeCutParts_48 rfl (by decide) (fun _ => ?_) (fun h0 => absurd (by rw [gI_nI, gI_nI, gI_lt ⟨by omega, by omega⟩ ⟨by omega, by omega⟩]; omega) h0)
          exact fin nx2 (by omega) g2 (fun h => by omega)
        | succ e ih2 =>
          intro nx2 g1 g2
          have hd := gk_dlb pb1 (t := (nx2 : Int)) (by omega) (by omega)
          have hq1 := gk_mulb (a := (nx2 : Int)) (b := gz g 0) (A := 256) (B := 1000) (by omega) (by omega) (by omega) (by omega)
          refine s_iload (pc2 := 46) w dX0_takeCutParts_44 rfl rfl ?_
          refine s_iload (pc2 := 48) w dX0_takeCutParts_46 rfl rfl ?_
          refine s_ic_gt (pc2 := 51) (tgt := 80) w dX0_takeCutParts_48 rfl (by decide) (fun h0 => absurd h0 (by rw [gI_nI, gI_nI, gI_lt ⟨by omega, by omega⟩ ⟨by omega, by omega⟩]; omega)) (fun _ => ?_)
          refine s_iload (pc2 := 53) w dX0_takeCutParts_51 rfl rfl ?_
          refine s_iload (pc2 := 55) w dX0_takeCutParts_53 rfl rfl ?_
          refine s_iload (pc2 := 57) w dX0_takeCutParts_55 rfl rfl ?_
          refine s_imul (pc2 := 58) w dX0_takeCutParts_57 rfl ?_
          rw [gI_mul]
          refine s_ic_gt (pc2 := 61) (tgt := 80) w dX0_takeCutParts_58 rfl (by decide) (fun c58 => ?_) (fun c58 => ?_)
          · exact fin nx2 (by omega) g2 (fun h => (gI_lt ⟨by omega, by omega⟩ ⟨by omega, by omega⟩).mp c58)
          · refine s_iinc (pc2 := 64) w dX0_takeCutParts_61 rfl rfl rfl rfl ?_
            dsimp only [gk_s1, gk_s2, gk_cl]
            rw [nI_s]
            refine s_aload_n (pc2 := 65) w dX0_takeCutParts_64 rfl rfl ?_
            refine m_getR (pc2 := 68) (ci := 0) (k := 3) (j2 := 94) w dX0_takeCutParts_65 rfl rfl rfl rfl rfl rfl ?_
            refine s_iload (pc2 := 70) w dX0_takeCutParts_68 rfl rfl ?_
            refine s_iload (pc2 := 72) w dX0_takeCutParts_70 rfl rfl ?_
            refine r_X2_markAt (pc2 := 75) (tt := ((nx2 + 1 : Nat) : Int)) w dX0_takeCutParts_72 rfl rfl rfl rfl hp7 pb1 rfl (by omega) rfl hcc ?_
            refine s_istore (pc2 := 77) w dX0_takeCutParts_75 rfl rfl ?_
            dsimp only [gk_s1, gk_s2, gk_cl]
            refine s_goto (tgt := 44) w dX0_takeCutParts_77 (by decide) ?_
            refine ih2 (nx2 + 1) (by omega) (fun j hj => ?_)
            rcases Nat.lt_or_ge j nx2 with h9 | h9
            · exact g2 j h9
            · obtain rfl : j = nx2 := by omega
              exact Int.not_lt.mp (fun h => c58 ((gI_lt ⟨by omega, by omega⟩ ⟨by omega, by omega⟩).mpr h))
      refine s_iload (pc2 := 27) w dX0_takeCutParts_25 rfl rfl ?_
      refine s_iload_n (pc2 := 28) w dX0_takeCutParts_27 rfl rfl ?_
      refine s_ic_gt (pc2 := 31) (tgt := 138) w dX0_takeCutParts_28 rfl (by decide) (fun h0 => absurd h0 (by rw [gI_nI, gI_nI, gI_lt ⟨by omega, by omega⟩ ⟨by omega, by omega⟩]; omega)) (fun _ => ?_)
      refine s_aload_n (pc2 := 32) w dX0_takeCutParts_31 rfl rfl ?_
      refine m_getR (pc2 := 35) (ci := 0) (k := 2) (j2 := 93) w dX0_takeCutParts_32 rfl rfl rfl rfl rfl rfl ?_
      refine s_iload (pc2 := 37) w dX0_takeCutParts_35 rfl rfl ?_
      refine s_iload (pc2 := 39) w dX0_takeCutParts_37 rfl rfl ?_
      refine r_X2_sampleAt (pc2 := 42) (tt := (t : Int)) w dX0_takeCutParts_39 rfl rfl rfl rfl hp6 (hpb false) rfl (by omega) rfl hcc ?_
      show V _ _ (.int (gI (fN g m B t)) :: _) _ _ _ _ _
      rw [← hN]
      refine s_istore (pc2 := 44) w dX0_takeCutParts_42 rfl rfl ?_
      dsimp only [gk_s1, gk_s2, gk_cl]
      exact inner (t + 1 - nx) nx (by omega) (fun j hj => by rw [hN]; exact h2 j hj)
  refine s_aload_n (pc2 := 1) w dX0_takeCutParts_0 rfl rfl ?_
  refine m_getI (pc2 := 4) (ci := 4) (k := 7) w dX0_takeCutParts_1 rfl rfl rfl rfl rfl ?_
  rw [e7]
  refine s_istore (pc2 := 6) w dX0_takeCutParts_4 rfl rfl ?_
  dsimp only [gk_s1, gk_s2, gk_cl]
  refine s_iconst (pc2 := 7) (v := gI 0) w dX0_takeCutParts_6 rfl rfl ?_
  refine s_istore (pc2 := 9) w dX0_takeCutParts_7 rfl rfl ?_
  dsimp only [gk_s1, gk_s2, gk_cl]
  refine s_aload_n (pc2 := 10) w dX0_takeCutParts_9 rfl rfl ?_
  refine m_getR (pc2 := 13) (ci := 0) (k := 3) (j2 := 94) w dX0_takeCutParts_10 rfl rfl rfl rfl rfl rfl ?_
  refine s_iload (pc2 := 15) w dX0_takeCutParts_13 rfl rfl ?_
  refine s_iload (pc2 := 17) w dX0_takeCutParts_15 rfl rfl ?_
  refine r_X2_markAt (pc2 := 20) (tt := ((0 : Nat) : Int)) w dX0_takeCutParts_17 rfl rfl rfl rfl hp7 pb1 rfl (by omega) rfl hcc ?_
  refine s_istore (pc2 := 22) w dX0_takeCutParts_20 rfl rfl ?_
  dsimp only [gk_s1, gk_s2, gk_cl]
  refine s_iconst (pc2 := 23) (v := gI 0) w dX0_takeCutParts_22 rfl rfl ?_
  refine s_istore (pc2 := 25) w dX0_takeCutParts_23 rfl rfl ?_
  dsimp only [gk_s1, gk_s2, gk_cl]
  have h := key (b + 1) 0 0 none (by omega) (by omega) (fun _ j hj => by omega)
  rw [gk_ur_0] at h
  exact h
theorem lk_X0_takeCutParts {l : Launch} (hl : l.stackTraces = false) : ∀ q ∈ L_X0_takeCutParts, (q.2.1 < 5 → gk_Lk l RX0 gk_W1 3 q.1 q.2.1 q.2.2.1 q.2.2.2.1 q.2.2.2.2.1 q.2.2.2.2.2) := (List.forall_mem_cons.mpr ⟨(fun _ => ⟨yX2_sampleAt, cX2_sampleAt, 3, (some .int), 2, _, M_X2_sampleAt hl, ⟨by decide, by decide⟩, ⟨by decide, by decide, by decide +kernel⟩, ⟨(gk_wm 1086 (by decide +kernel)), (gk_wm 94 (by decide +kernel))⟩, Or.inr (Or.inr (Or.inr (Or.inl ⟨rfl, rfl, (gk_wm 1084 (by decide +kernel)), (gk_wm 1085 (by decide +kernel)), gk_wm 1083 (by decide +kernel), by decide, rfl⟩)))⟩), (List.forall_mem_cons.mpr ⟨(fun _ => ⟨yX10_elementAt, cX10_elementAt, 2, (some .int), 0, _, M_X10_elementAt hl, ⟨by decide, by decide⟩, ⟨by decide, by decide, by decide +kernel⟩, ⟨(gk_wm 481 (by decide +kernel)), (gk_wm 89 (by decide +kernel))⟩, Or.inr (Or.inl ⟨rfl, rfl, (gk_wm 480 (by decide +kernel)), ⟨_, gk_nsm 17 rfl⟩, nt_X10_elementAt⟩)⟩), (List.forall_mem_cons.mpr ⟨(fun _ => ⟨yX2_markAt, cX2_markAt, 3, (some .int), 2, _, M_X2_markAt hl, ⟨by decide, by decide⟩, ⟨by decide, by decide, by decide +kernel⟩, ⟨(gk_wm 466 (by decide +kernel)), (gk_wm 94 (by decide +kernel))⟩, Or.inr (Or.inr (Or.inr (Or.inl ⟨rfl, rfl, (gk_wm 464 (by decide +kernel)), (gk_wm 465 (by decide +kernel)), gk_wm 1112 (by decide +kernel), by decide, rfl⟩)))⟩), (List.forall_mem_cons.mpr ⟨(fun _ => ⟨yX0_reflectedPart, cX0_reflectedPart, 5, (some .int), 2, _, M_X0_reflectedPart hl, ⟨by decide, by decide⟩, ⟨by decide, by decide, by decide +kernel⟩, ⟨(gk_wm 1116 (by decide +kernel)), (gk_wm 95 (by decide +kernel))⟩, Or.inr (Or.inr (Or.inr (Or.inl ⟨rfl, rfl, (gk_wm 1115 (by decide +kernel)), (gk_wm 28 (by decide +kernel)), gk_wm 1113 (by decide +kernel), by decide, rfl⟩)))⟩), (fun _ h => absurd h List.not_mem_nil)⟩)⟩)⟩)⟩)
theorem sp_X0_takeCutParts : ∀ q ∈ L_X0_takeCutParts, gk_Sq RX0 gk_W1 3 q := (List.forall_mem_cons.mpr ⟨⟨fun h => absurd h (by decide), fun h => absurd h (by decide), fun h => absurd h (by decide), fun h => absurd h (by decide), fun h => absurd h (by decide), fun h => absurd h (by decide)⟩, (List.forall_mem_cons.mpr ⟨⟨fun h => absurd h (by decide), fun h => absurd h (by decide), fun h => absurd h (by decide), fun h => absurd h (by decide), fun h => absurd h (by decide), fun h => absurd h (by decide)⟩, (List.forall_mem_cons.mpr ⟨⟨fun h => absurd h (by decide), fun h => absurd h (by decide), fun h => absurd h (by decide), fun h => absurd h (by decide), fun h => absurd h (by decide), fun h => absurd h (by decide)⟩, (List.forall_mem_cons.mpr ⟨⟨fun h => absurd h (by decide), fun h => absurd h (by decide), fun h => absurd h (by decide), fun h => absurd h (by decide), fun h => absurd h (by decide), fun h => absurd h (by decide)⟩, (fun _ h => absurd h List.not_mem_nil)⟩)⟩)⟩)⟩)
theorem M_X0_takeCutParts {l : Launch} (hl : l.stackTraces = false) : gk_Mt l yX0_takeCutParts (.code yX0_takeCutParts cX0_takeCutParts 9 none :: gk_W1) 3 0 S_X0_takeCutParts := gk_meth hl gk_cw_ok (by decide +kernel) rfl m_X0_takeCutParts pX0_ok (gk_Sp_of sp_X0_takeCutParts) pX0_st (fun ci m S h => absurd h (by intro h; cases h)) (xf_X0 3) (fun idx kd ci mm cost S2 h h5 => lk_X0_takeCutParts hl _ (gk_lk_mem h) h5)

end GKV

/-! THE METHODS, 9: the class, recordings -/
section GKV
variable {c : ByteArray} {P : gk_C} {cs : Nat → Option gk_M0} {rt : Option FieldType} {uf : Nat} {sc : Option Nat} {K : gk_K} {V : gk_V}
variable {L : List (Option Value)} {r : List Value} {n : Nat} {fl : gk_F} {x : gk_X} {y : gk_Y} {u pc pc2 : Nat}
def S_X4_recordPath : gk_S := fun as n fl x y K => ∃ (s : Nat) (mc : Nat) (f : Int32) (m : Nat) (a : Nat) (g : Nat → Int32) (rf : Bool), as = [.ref 1, .ref s, .ref mc, .ref 89, .int f] ∧ (n = 202 ∧ fl = gk_fT) ∧ gk_kd s = 6 ∧ gk_kd mc = 1 ∧ (s = 3 * a + 10) ∧ (mc = 2 * m + 28) ∧ (gWf g) ∧ (x 1 7 = g 0) ∧ (rs0 1 g x) ∧ (rss 1 g x) ∧ (rsm 1 g x) ∧ (m < nM g) ∧ (a < nS g) ∧ (f = if rf then 1 else 0) ∧ (K (.inl none) n fl (gk_ur x (2 * m + 29) (fun k => x (2 * m + 29) k + gI (gk_hd g m a rf k)) 256) (gk_ly y 89 (pA g m a) (pS g a) (pBe g m a rf)))
theorem r_X4_recordPath (w : gk_W c P cs (fun _ _ => none) rt uf sc K V) {idx : Nat} {s : Nat} {mc : Nat} {f : Int32} {m : Nat} {a : Nat} {g : Nat → Int32} {rf : Bool} (hd : decode c pc = .ok (.invokevirtual idx, 3)) (hp : pc + 3 = pc2) (hc : cs idx = some (1, 4, 5, 0, S_X4_recordPath)) (h8 : Nat.ble (r.map Value.category).sum 8 = true) (hk0 : gk_kd s = 6) (hk1 : gk_kd mc = 1) (hp0 : s = 3 * a + 10) (hp1 : mc = 2 * m + 28) (hp2 : gWf g) (hp3 : x 1 7 = g 0) (hp4 : rs0 1 g x) (hp5 : rss 1 g x) (hp6 : rsm 1 g x) (hp7 : m < nM g) (hp8 : a < nS g) (hp9 : f = if rf then 1 else 0) (kk0 : V pc2 L r 202 gk_fT (gk_ur x (2 * m + 29) (fun k => x (2 * m + 29) k + gI (gk_hd g m a rf k)) 256) (gk_ly y 89 (pA g m a) (pS g a) (pBe g m a rf)) u) : V pc L (.int f :: .ref 89 :: .ref mc :: .ref s :: .ref 1 :: r) 202 gk_fT x y u :=
  g_callv w hd hp hc (as := [.ref 1, .ref s, .ref mc, .ref 89, .int f]) rfl h8 rfl rfl rfl (Or.inr (Or.inl ⟨Or.inl rfl, _, _, rfl, (gk_kd_j rfl rfl), rfl⟩)) (Or.inl rfl) ⟨s, mc, f, m, a, g, rf, rfl, ⟨rfl, rfl⟩, hk0, hk1, hp0, hp1, hp2, hp3, hp4, hp5, hp6, hp7, hp8, hp9, kk0⟩
/-- the same but for the records of the scene -/
def gk_so (x2 x : gk_X) : Prop := ∀ i k, (∀ m, m < 8 → i ≠ 2 * m + 29) → x2 i k = x i k
theorem so_rs0 {g : Nat → Int32} {x2 x : gk_X} (h : gk_so x2 x) (h2 : rs0 1 g x) : rs0 1 g x2 := by
  have e : ∀ k, x2 1 k = x 1 k := fun k => h 1 k (fun m _ => by omega)
  unfold rs0
  simp only [e]
  exact h2
theorem so_rss {g : Nat → Int32} (hw : gWf g) {x2 x : gk_X} (h : gk_so x2 x) (h2 : rss 1 g x) : rss 1 g x2 := by
  intro a ha
  have ha6 : a < 6 := by have := hw.1; unfold wf0 at this; unfold nS at ha; omega
  have e1 : ∀ k, x2 (3 * a + (1 + 9)) k = x (3 * a + (1 + 9)) k := fun k => h _ k (fun m _ => by omega)
  have e2 : ∀ k, x2 (3 * a + (1 + 10)) k = x (3 * a + (1 + 10)) k := fun k => h _ k (fun m _ => by omega)
  have e3 : ∀ k, x2 (3 * a + (1 + 11)) k = x (3 * a + (1 + 11)) k := fun k => h _ k (fun m _ => by omega)
  simp only [e1, e2, e3]
  exact h2 a ha
theorem so_rsm {g : Nat → Int32} {x2 x : gk_X} (h : gk_so x2 x) (h2 : rsm 1 g x) : rsm 1 g x2 := by
  intro m hm
  have e1 : ∀ k, x2 (2 * m + (1 + 27)) k = x (2 * m + (1 + 27)) k := fun k => h _ k (fun m2 _ => by omega)
  simp only [e1]
  exact h2 m hm
theorem so_ur (x : gk_X) {m N : Nat} (hm : m < 8) (f : Nat → Int32) : gk_so (gk_ur x (2 * m + 29) f N) x := fun i k h => gk_ur_ne (h m hm)
theorem gk_so.trans {a b c : gk_X} (h : gk_so a b) (h2 : gk_so b c) : gk_so a c := fun i k h3 => (h i k h3).trans (h2 i k h3)
theorem gk_ur_nf {x : gk_X} {j n k : Nat} {f : Nat → Int32} (h : n ≤ k) : gk_ur x j f n j k = x j k := if_neg (fun h2 => by omega)
def L_X4_recordPath : List (Nat × gk_M0) := [(150, (1, 2, 5, 0, S_X2_lay)), (156, (1, 2, 3, 0, S_X2_markAt)), (160, (1, 6, 2, 0, S_X7_valueAt)), (163, (1, 2, 2, 0, S_X2_lengthAt)), (166, (1, 4, 4, 0, S_X4_amountOf))]
def cs_X4_recordPath : Nat → Option gk_M0 := gk_lk L_X4_recordPath
theorem m_X4_recordPath : ∀ (as : List Value) (n : Nat) (fl : gk_F) (x : gk_X) (y : gk_Y) (K : gk_K), S_X4_recordPath as n fl x y K → (gk_L0 as).length ≤ 9 ∧ ∀ V : gk_V, gk_W cX4_recordPath pX4 cs_X4_recordPath (fun _ _ => none) none 0 none K V → V 0 (gk_en as 9) [] n fl x y 0 := by
  intro as n fl x y K hS
  obtain ⟨s, mc, f, m, a, g, rf, rfl, ⟨rfl, rfl⟩, hk0, hk1, hp0, hp1, hp2, hp3, hp4, hp5, hp6, hp7, hp8, hp9, q0⟩ := hS
  refine ⟨Nat.le_of_ble_eq_true rfl, fun V w => ?_⟩
  show V 0 [some (.ref 1), some (.ref s), some (.ref mc), some (.ref 89), some (.int f), none, none, none, none] [] 202 gk_fT x y 0
  subst hp0 hp1
  have hpp := rs_PP hp2 hp5 hp8
  have hmp := rs_MP hp2 hp6 hp7
  obtain ⟨⟨h1, h2, -, -⟩, h5, -⟩ := wf_path hp2 hp7 hp8
  obtain ⟨k1, k2, k3, k4⟩ := kd_s h2
  obtain ⟨j1, j2, j3⟩ := kd_m h1
  have hpb := h5 rf
  have hcc := hp2.1.1
  have ec : x 1 7 = gI (gz g 0) := hp3.trans (gz_I g 0)
  obtain ⟨F, hF⟩ : ∃ F : Nat → Int32, F = fun k => x (2 * m + 29) k + gI (gk_hd g m a rf k) := ⟨_, rfl⟩
  rw [← hF] at q0
  obtain ⟨p, hp⟩ : ∃ p : Nat → Nat → Bool, p = fun (n : Nat) => gk_lp2 (pA g m a) (pS g a) (pBe g m a rf) (gz g 0) n := ⟨_, rfl⟩
  have hPL : gk_PL (gk_ly y 89 (pA g m a) (pS g a) (pBe g m a rf)) 89 (pA g m a) (pS g a) (pBe g m a rf) := gk_ly_PL _ _ _ _ _
  have hso : ∀ n, gk_so (gk_ur x (2 * m + 29) F n) x := fun n => so_ur x h1 F
  have ecn : ∀ n, gk_ur x (2 * m + 29) F n 1 7 = gI (gz g 0) := fun n => (gk_ur_ne (by omega)).trans ec
  have inner : ∀ (n : Nat), n < 256 → ∀ (e k : Nat), k ≤ 256 → 256 ≤ e + k → V 99 [some (.ref 1), some (.ref (3 * a + 10)), some (.ref (2 * m + 28)), some (.ref 89), some (.int f), some (.int (nI (gk_fw (p n) e k))), some (.int (gI (((gk_fw (p n) e k : Nat) : Int) * gz g 0 + gk_dl (pA g m a) (pS g a) (pBe g m a rf) (gk_fw (p n) e k : Nat)))), some (.int (gI (gk_hv g m a rf (gk_fw (p n) e k)))), some (.int (nI n))] [] 202 gk_fT (gk_ur x (2 * m + 29) F n) (gk_ly y 89 (pA g m a) (pS g a) (pBe g m a rf)) 0 → V 41 [some (.ref 1), some (.ref (3 * a + 10)), some (.ref (2 * m + 28)), some (.ref 89), some (.int f), some (.int (nI (k))), some (.int (gI (((k : Nat) : Int) * gz g 0 + gk_dl (pA g m a) (pS g a) (pBe g m a rf) (k : Nat)))), some (.int (gI (gk_hv g m a rf (k)))), some (.int (nI n))] [] 202 gk_fT (gk_ur x (2 * m + 29) F n) (gk_ly y 89 (pA g m a) (pS g a) (pBe g m a rf)) 0 := by
    intro n hn e
    have top : V 99 [some (.ref 1), some (.ref (3 * a + 10)), some (.ref (2 * m + 28)), some (.ref 89), some (.int f), some (.int (nI (256))), some (.int (gI (((256 : Nat) : Int) * gz g 0 + gk_dl (pA g m a) (pS g a) (pBe g m a rf) (256 : Nat)))), some (.int (gI (gk_hv g m a rf (256)))), some (.int (nI n))] [] 202 gk_fT (gk_ur x (2 * m + 29) F n) (gk_ly y 89 (pA g m a) (pS g a) (pBe g m a rf)) 0 → V 41 [some (.ref 1), some (.ref (3 * a + 10)), some (.ref (2 * m + 28)), some (.ref 89), some (.int f), some (.int (nI (256))), some (.int (gI (((256 : Nat) : Int) * gz g 0 + gk_dl (pA g m a) (pS g a) (pBe g m a rf) (256 : Nat)))), some (.int (gI (gk_hv g m a rf (256)))), some (.int (nI n))] [] 202 gk_fT (gk_ur x (2 * m + 29) F n) (gk_ly y 89 (pA g m a) (pS g a) (pBe g m a rf)) 0 := by
      intro hV
      refine s_iload (pc2 := 43) w dX4_recordPath_41 rfl rfl ?_
      refine s_sipush (pc2 := 46) (v := gI 256) w dX4_recordPath_43 rfl rfl ?_
      refine s_ic_ge (pc2 := 49) (tgt := 99) w dX4_recordPath_46 rfl (by decide) (fun _ => ?_) (fun h0 => absurd ((Int32.le_refl _)) h0)
      exact hV
    induction e with
    | zero =>
      intro k h8 h9 hV
      have hk : k = 256 := by omega
      subst hk
      exact top hV
    | succ e ih =>
      intro k h8 h9 hV
      by_cases hk : k = 256
      · subst hk
        have e0 : gk_fw (p n) (e + 1) 256 = 256 := if_neg (fun h => absurd h Bool.false_ne_true)
        rw [e0] at hV
        exact top hV
      · have hb := gk_dlb hpb (t := (k : Int)) (by omega) (by omega)
        have hq1 := gk_mulb (a := (k : Int)) (b := gz g 0) (A := 256) (B := 1000) (by omega) (by omega) (by omega) (by omega)
        have hq2 := gk_mulb (a := (n : Int)) (b := gz g 0) (A := 256) (B := 1000) (by omega) (by omega) (by omega) (by omega)
        refine s_iload (pc2 := 43) w dX4_recordPath_41 rfl rfl ?_
        refine s_sipush (pc2 := 46) (v := gI 256) w dX4_recordPath_43 rfl rfl ?_
        refine s_ic_ge (pc2 := 49) (tgt := 99) w dX4_recordPath_46 rfl (by decide) (fun h0 => absurd h0 (by rw [gI_nI, gI_le ⟨by omega, by omega⟩ ⟨by omega, by omega⟩]; omega)) (fun _ => ?_)
        refine s_iload (pc2 := 51) w dX4_recordPath_49 rfl rfl ?_
        refine s_iload (pc2 := 53) w dX4_recordPath_51 rfl rfl ?_
        refine s_aload_n (pc2 := 54) w dX4_recordPath_53 rfl rfl ?_
        refine m_getI (pc2 := 57) (ci := 4) (k := 7) w dX4_recordPath_54 rfl rfl rfl rfl rfl ?_
        refine s_imul (pc2 := 58) w dX4_recordPath_57 rfl ?_
        rw [ecn, gI_nI n, gI_mul]
        refine s_ic_gt (pc2 := 61) (tgt := 99) w dX4_recordPath_58 rfl (by decide) (fun c58 => ?_) (fun c58 => ?_)
        · have hl : (n : Int) * gz g 0 < (k : Int) * gz g 0 + gk_dl (pA g m a) (pS g a) (pBe g m a rf) k := (gI_lt ⟨by omega, by omega⟩ ⟨by omega, by omega⟩).mp c58
          have e0 : gk_fw (p n) (e + 1) k = k := if_neg (fun h => by
            rw [Bool.and_eq_true, hp] at h
            have := of_decide_eq_true h.2
            omega)
          rw [e0] at hV
          exact hV
        · refine s_aload_n (pc2 := 62) w dX4_recordPath_61 rfl rfl ?_
          refine s_aload_n (pc2 := 63) w dX4_recordPath_62 rfl rfl ?_
          refine s_iload (pc2 := 65) w dX4_recordPath_63 rfl rfl ?_
          refine r_X7_valueAt (pc2 := 68) (tt := k) w dX4_recordPath_65 rfl rfl rfl (by first | assumption | rfl) rfl hp2 (so_rss hp2 (hso n) hp5) hp8 rfl (by omega) ?_
          refine s_aload_n (pc2 := 69) w dX4_recordPath_68 rfl rfl ?_
          refine s_iload (pc2 := 71) w dX4_recordPath_69 rfl rfl ?_
          refine r_X2_lengthAt (pc2 := 74) (tt := (k : Int)) w dX4_recordPath_71 rfl rfl rfl rfl hPL hpb rfl (by omega) ?_
          refine s_iload (pc2 := 76) w dX4_recordPath_74 rfl rfl ?_
          refine r_X4_amountOf (pc2 := 79) w dX4_recordPath_76 rfl rfl rfl (so_rs0 (hso n) hp4) hp2 rfl (vE_b hp2 hp8 k) rfl (by omega) hp9 ?_
          refine s_istore (pc2 := 81) w dX4_recordPath_79 rfl rfl ?_
          dsimp only [gk_s1, gk_s2, gk_cl]
          refine s_iinc (pc2 := 84) w dX4_recordPath_81 rfl rfl rfl rfl ?_
          dsimp only [gk_s1, gk_s2, gk_cl]
          rw [nI_s]
          refine s_aload_n (pc2 := 85) w dX4_recordPath_84 rfl rfl ?_
          refine s_iload (pc2 := 87) w dX4_recordPath_85 rfl rfl ?_
          refine s_aload_n (pc2 := 88) w dX4_recordPath_87 rfl rfl ?_
          refine m_getI (pc2 := 91) (ci := 4) (k := 7) w dX4_recordPath_88 rfl rfl rfl rfl rfl ?_
          refine r_X2_markAt (pc2 := 94) (tt := ((k + 1 : Nat) : Int)) w dX4_recordPath_91 rfl rfl rfl rfl hPL hpb rfl (by omega) (ecn n) hcc ?_
          refine s_istore (pc2 := 96) w dX4_recordPath_94 rfl rfl ?_
          dsimp only [gk_s1, gk_s2, gk_cl]
          refine s_goto (tgt := 41) w dX4_recordPath_96 (by decide) ?_
          have hl : ¬ ((n : Int) * gz g 0 < (k : Int) * gz g 0 + gk_dl (pA g m a) (pS g a) (pBe g m a rf) k) := fun h => c58 ((gI_lt ⟨by omega, by omega⟩ ⟨by omega, by omega⟩).mpr h)
          have e0 : gk_fw (p n) (e + 1) k = gk_fw (p n) e (k + 1) := if_pos (by
            rw [Bool.and_eq_true, hp]
            exact ⟨decide_eq_true (by omega), decide_eq_true (by omega)⟩)
          rw [e0] at hV
          exact ih (k + 1) (by omega) (by omega) hV
  have key : ∀ (k n : Nat), n + k = 256 → V 33 [some (.ref 1), some (.ref (3 * a + 10)), some (.ref (2 * m + 28)), some (.ref 89), some (.int f), some (.int (nI (gk_sc p n))), some (.int (gI (((gk_sc p n : Nat) : Int) * gz g 0 + gk_dl (pA g m a) (pS g a) (pBe g m a rf) (gk_sc p n : Nat)))), some (.int (gI (gk_hv g m a rf (gk_sc p n)))), some (.int (nI n))] [] 202 gk_fT (gk_ur x (2 * m + 29) F n) (gk_ly y 89 (pA g m a) (pS g a) (pBe g m a rf)) 0 := by
    intro k
    induction k with
    | zero =>
      intro n ht
      have ht2 : n = 256 := by omega
      subst ht2
      refine s_iload (pc2 := 35) w dX4_recordPath_33 rfl rfl ?_
      refine s_sipush (pc2 := 38) (v := gI 256) w dX4_recordPath_35 rfl rfl ?_
      refine s_ic_ge (pc2 := 41) (tgt := 117) w dX4_recordPath_38 rfl (by decide) (fun _ => ?_) (fun h0 => absurd ((Int32.le_refl _)) h0)
      refine s_return w dX4_recordPath_117 rfl ?_
      exact q0
    | succ k ih =>
      intro n ht
      refine s_iload (pc2 := 35) w dX4_recordPath_33 rfl rfl ?_
      refine s_sipush (pc2 := 38) (v := gI 256) w dX4_recordPath_35 rfl rfl ?_
      refine s_ic_ge (pc2 := 41) (tgt := 117) w dX4_recordPath_38 rfl (by decide) (fun h0 => absurd h0 (by rw [gI_nI, gI_le ⟨by omega, by omega⟩ ⟨by omega, by omega⟩]; omega)) (fun _ => ?_)
      refine inner n (by omega) 256 (gk_sc p n) (gk_sc_le p n) (by omega) ?_
      refine s_aload_n (pc2 := 100) w dX4_recordPath_99 rfl rfl ?_
      refine m_getR (pc2 := 103) (ci := 1) (k := 0) (j2 := (2 * m + 29)) w dX4_recordPath_100 rfl rfl (by first | exact j2 | exact j1) rfl rfl rfl ?_
      refine s_iload (pc2 := 105) w dX4_recordPath_103 rfl rfl ?_
      refine s_dup2 (pc2 := 106) w dX4_recordPath_105 rfl rfl rfl ?_
      refine m_ialoadN (pc2 := 107) (t := n) w dX4_recordPath_106 rfl (by first | exact j2 | exact j1) j3 rfl (by omega) rfl ?_
      refine s_iload (pc2 := 109) w dX4_recordPath_107 rfl rfl ?_
      rw [gk_ur_nf (Nat.le_refl n)]
      refine s_iadd (pc2 := 110) w dX4_recordPath_109 rfl ?_
      refine m_iastoreN (pc2 := 111) (t := n) w dX4_recordPath_110 rfl (by first | exact j2 | exact j1) j3 rfl (by omega) rfl ?_
      refine s_iinc (pc2 := 114) w dX4_recordPath_111 rfl rfl rfl rfl ?_
      dsimp only [gk_s1, gk_s2, gk_cl]
      rw [nI_s]
      refine s_goto (tgt := 33) w dX4_recordPath_114 (by decide) ?_
      have h := ih (n + 1) (by omega)
      rw [← gk_ur_s] at h
      rw [hF] at h ⊢
      have e9 : gk_hd g m a rf n = gk_hv g m a rf (gk_fw (p n) 256 (gk_sc p n)) := by rw [hp]; rfl
      rw [← e9]
      have e8 : gk_sc p (n + 1) = gk_fw (p n) 256 (gk_sc p n) := rfl
      rw [e8, ← e9] at h
      exact h
  refine s_aload_n (pc2 := 1) w dX4_recordPath_0 rfl rfl ?_
  refine s_aload_n (pc2 := 2) w dX4_recordPath_1 rfl rfl ?_
  refine m_getR (pc2 := 5) (ci := 6) (k := 0) (j2 := (3 * a + 11)) w dX4_recordPath_2 rfl rfl (by first | exact k1 | exact k2 | exact j1) rfl rfl rfl ?_
  refine s_iconst (pc2 := 6) (v := gI 0) w dX4_recordPath_5 rfl rfl ?_
  refine s_aload_n (pc2 := 7) w dX4_recordPath_6 rfl rfl ?_
  refine s_iload (pc2 := 9) w dX4_recordPath_7 rfl rfl ?_
  refine r_X2_lay (pc2 := 12) w dX4_recordPath_9 rfl rfl rfl rfl (by first | exact k1 | exact k2 | exact j1) (by first | exact k1 | exact k2 | exact j1) hpp hmp rfl (by omega) hp9 ?_
  rw [show gk_ly y 89 (gz g (16 + 3 * sV g a + 0) + gz g (28 + 21 * a + 1) + 0 - gz g (154 + 4 * m + 0)) (gz g (16 + 3 * sV g a + 1)) (gk_be (gz g (16 + 3 * sV g a + 2)) (gz g (28 + 21 * a + 2)) (gz g (154 + 4 * m + 1)) (gz g (154 + 4 * m + 2)) rf) = (gk_ly y 89 (pA g m a) (pS g a) (pBe g m a rf)) by unfold pA pS pBe; rw [Int.add_zero]]
  refine s_iconst (pc2 := 13) (v := gI 0) w dX4_recordPath_12 rfl rfl ?_
  refine s_istore (pc2 := 15) w dX4_recordPath_13 rfl rfl ?_
  dsimp only [gk_s1, gk_s2, gk_cl]
  refine s_aload_n (pc2 := 16) w dX4_recordPath_15 rfl rfl ?_
  refine s_iload (pc2 := 18) w dX4_recordPath_16 rfl rfl ?_
  refine s_aload_n (pc2 := 19) w dX4_recordPath_18 rfl rfl ?_
  refine m_getI (pc2 := 22) (ci := 4) (k := 7) w dX4_recordPath_19 rfl rfl rfl rfl rfl ?_
  refine r_X2_markAt (pc2 := 25) (tt := ((0 : Nat) : Int)) w dX4_recordPath_22 rfl rfl rfl rfl hPL hpb rfl (by omega) ec hcc ?_
  refine s_istore (pc2 := 27) w dX4_recordPath_25 rfl rfl ?_
  dsimp only [gk_s1, gk_s2, gk_cl]
  refine s_iconst (pc2 := 28) (v := gI 0) w dX4_recordPath_27 rfl rfl ?_
  refine s_istore (pc2 := 30) w dX4_recordPath_28 rfl rfl ?_
  dsimp only [gk_s1, gk_s2, gk_cl]
  refine s_iconst (pc2 := 31) (v := gI 0) w dX4_recordPath_30 rfl rfl ?_
  refine s_istore (pc2 := 33) w dX4_recordPath_31 rfl rfl ?_
  dsimp only [gk_s1, gk_s2, gk_cl]
  have h := key 256 0 rfl
  rw [gk_ur_0] at h
  exact h
theorem lk_X4_recordPath {l : Launch} (hl : l.stackTraces = false) : ∀ q ∈ L_X4_recordPath, (q.2.1 < 5 → gk_Lk l RX4 gk_W1 3 q.1 q.2.1 q.2.2.1 q.2.2.2.1 q.2.2.2.2.1 q.2.2.2.2.2) := (List.forall_mem_cons.mpr ⟨(fun _ => ⟨yX2_lay, cX2_lay, 11, none, 0, _, M_X2_lay hl, ⟨by decide, by decide⟩, ⟨by decide, by decide, by decide +kernel⟩, ⟨(gk_wm 462 (by decide +kernel)), (gk_wm 94 (by decide +kernel))⟩, Or.inr (Or.inr (Or.inr (Or.inl ⟨rfl, rfl, (gk_wm 460 (by decide +kernel)), (gk_wm 461 (by decide +kernel)), gk_wm 459 (by decide +kernel), by decide, rfl⟩)))⟩), (List.forall_mem_cons.mpr ⟨(fun _ => ⟨yX2_markAt, cX2_markAt, 3, (some .int), 2, _, M_X2_markAt hl, ⟨by decide, by decide⟩, ⟨by decide, by decide, by decide +kernel⟩, ⟨(gk_wm 466 (by decide +kernel)), (gk_wm 94 (by decide +kernel))⟩, Or.inr (Or.inr (Or.inr (Or.inl ⟨rfl, rfl, (gk_wm 464 (by decide +kernel)), (gk_wm 465 (by decide +kernel)), gk_wm 463 (by decide +kernel), by decide, rfl⟩)))⟩), (List.forall_mem_cons.mpr ⟨(fun _ => ⟨yX7_valueAt, cX7_valueAt, 2, (some .int), 1, _, M_X7_valueAt hl, ⟨by decide, by decide⟩, ⟨by decide, by decide, by decide +kernel⟩, ⟨(gk_wm 478 (by decide +kernel)), (gk_wm 92 (by decide +kernel))⟩, Or.inr (Or.inr (Or.inr (Or.inl ⟨rfl, rfl, (gk_wm 476 (by decide +kernel)), (gk_wm 477 (by decide +kernel)), gk_wm 475 (by decide +kernel), by decide, rfl⟩)))⟩), (List.forall_mem_cons.mpr ⟨(fun _ => ⟨yX2_lengthAt, cX2_lengthAt, 4, (some .int), 1, _, M_X2_lengthAt hl, ⟨by decide, by decide⟩, ⟨by decide, by decide, by decide +kernel⟩, ⟨(gk_wm 470 (by decide +kernel)), (gk_wm 94 (by decide +kernel))⟩, Or.inr (Or.inr (Or.inr (Or.inl ⟨rfl, rfl, (gk_wm 468 (by decide +kernel)), (gk_wm 469 (by decide +kernel)), gk_wm 482 (by decide +kernel), by decide, rfl⟩)))⟩), (List.forall_mem_cons.mpr ⟨(fun _ => ⟨yX4_amountOf, cX4_amountOf, 6, (some .int), 1, _, M_X4_amountOf hl, ⟨by decide, by decide⟩, ⟨by decide, by decide, by decide +kernel⟩, ⟨(gk_wm 486 (by decide +kernel)), (gk_wm 90 (by decide +kernel))⟩, Or.inr (Or.inr (Or.inr (Or.inl ⟨rfl, rfl, (gk_wm 485 (by decide +kernel)), (gk_wm 3 (by decide +kernel)), gk_wm 483 (by decide +kernel), by decide, rfl⟩)))⟩), (fun _ h => absurd h List.not_mem_nil)⟩)⟩)⟩)⟩)⟩)
theorem sp_X4_recordPath : ∀ q ∈ L_X4_recordPath, gk_Sq RX4 gk_W1 3 q := (List.forall_mem_cons.mpr ⟨⟨fun h => absurd h (by decide), fun h => absurd h (by decide), fun h => absurd h (by decide), fun h => absurd h (by decide), fun h => absurd h (by decide), fun h => absurd h (by decide)⟩, (List.forall_mem_cons.mpr ⟨⟨fun h => absurd h (by decide), fun h => absurd h (by decide), fun h => absurd h (by decide), fun h => absurd h (by decide), fun h => absurd h (by decide), fun h => absurd h (by decide)⟩, (List.forall_mem_cons.mpr ⟨⟨fun h => absurd h (by decide), fun h => absurd h (by decide), fun h => absurd h (by decide), fun h => absurd h (by decide), fun h => absurd h (by decide), fun h => absurd h (by decide)⟩, (List.forall_mem_cons.mpr ⟨⟨fun h => absurd h (by decide), fun h => absurd h (by decide), fun h => absurd h (by decide), fun h => absurd h (by decide), fun h => absurd h (by decide), fun h => absurd h (by decide)⟩, (List.forall_mem_cons.mpr ⟨⟨fun h => absurd h (by decide), fun h => absurd h (by decide), fun h => absurd h (by decide), fun h => absurd h (by decide), fun h => absurd h (by decide), fun h => absurd h (by decide)⟩, (fun _ h => absurd h List.not_mem_nil)⟩)⟩)⟩)⟩)⟩)
theorem M_X4_recordPath {l : Launch} (hl : l.stackTraces = false) : gk_Mt l yX4_recordPath (.code yX4_recordPath cX4_recordPath 9 none :: gk_W1) 3 0 S_X4_recordPath := gk_meth hl gk_cw_ok (by decide +kernel) rfl m_X4_recordPath pX4_ok (gk_Sp_of sp_X4_recordPath) pX4_st (fun ci m S h => absurd h (by intro h; cases h)) (xf_X4 3) (fun idx kd ci mm cost S2 h h5 => lk_X4_recordPath hl _ (gk_lk_mem h) h5)

end GKV

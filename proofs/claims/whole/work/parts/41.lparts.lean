/-! THE METHODS, 22: the reference, parts -/
section GKV
variable {c : ByteArray} {P : gk_C} {cs : Nat → Option gk_M0} {rt : Option FieldType} {uf : Nat} {sc : Option Nat} {K : gk_K} {V : gk_V}
variable {L : List (Option Value)} {r : List Value} {n : Nat} {fl : gk_F} {x : gk_X} {y : gk_Y} {u pc pc2 : Nat}
def gk_pp (g : Nat → Int32) (m : Nat) (by_ : Int) (k : Nat) : Int32 := if g 10 = 2 then gk_dp g m (gz g 12 + by_) k else gI (gk_pt g m by_ k)
theorem gk_pt_s (g : Nat → Int32) (m : Nat) (by_ : Int) (n : Nat) : gk_pt g m by_ n = rcI g m (fN g m by_ n) - (if g 5 = 1 ∧ fN g m by_ n ≤ 255 then gk_cu g (fA g m by_) (fS g) (fBe g m false) (fBe g m true) (fN g m by_ n).toNat n (gk_pr g m by_ n) else 0) := if_pos rfl
theorem fN_e {g : Nat → Int32} {m : Nat} {by_ : Int} (hc : 100 ≤ gz g 0) (t : Nat) : ((t : Int) * gz g 0 + gk_dl (fA g m by_) (fS g) (fBe g m false) t + gz g 0 - 1) / gz g 0 = fN g m by_ t := by
  unfold fN
  rw [show (t : Int) * gz g 0 + gk_dl (fA g m by_) (fS g) (fBe g m false) t + gz g 0 - 1 = (gk_dl (fA g m by_) (fS g) (fBe g m false) t + gz g 0 - 1) + (t : Int) * gz g 0 by omega, Int.add_mul_ediv_right _ _ (by omega), Int.add_comm]
def S_X11_layParts : gk_S := fun as n fl x y K => ∃ (m : Int32) (b : Int32) (mm : Nat) (B : Int) (g : Nat → Int32), as = [.ref 189, .int m, .int b] ∧ (n = 202 ∧ fl = gk_fT) ∧ (∀ k, k < 2234 → x 190 k = g k) ∧ (gWf g) ∧ (gWr g) ∧ (m = nI mm) ∧ (mm < nM g) ∧ (b = gI B) ∧ (-2000 ≤ B ∧ B ≤ 2000) ∧ (∀ x2 : gk_X, (∀ i k, i ≠ 194 → i ≠ 195 → x2 i k = gk_ur x 197 (gk_pp g mm B) 256 i k) → K (.inl none) n fl x2 y)
theorem r_X11_layParts (w : gk_W c P cs (fun _ _ => none) rt uf sc K V) {idx : Nat} {m : Int32} {b : Int32} {mm : Nat} {B : Int} {g : Nat → Int32} (hd : decode c pc = .ok (.invokevirtual idx, 3)) (hp : pc + 3 = pc2) (hc : cs idx = some (1, 10, 3, 0, S_X11_layParts)) (h8 : Nat.ble (r.map Value.category).sum 8 = true) (hp0 : ∀ k, k < 2234 → x 190 k = g k) (hp1 : gWf g) (hp2 : gWr g) (hp3 : m = nI mm) (hp4 : mm < nM g) (hp5 : b = gI B) (hp6 : -2000 ≤ B ∧ B ≤ 2000) (kk0 : ∀ x2 : gk_X, (∀ i k, i ≠ 194 → i ≠ 195 → x2 i k = gk_ur x 197 (gk_pp g mm B) 256 i k) → V pc2 L r 202 gk_fT x2 y u) : V pc L (.int b :: .int m :: .ref 189 :: r) 202 gk_fT x y u :=
  g_callv w hd hp hc (as := [.ref 189, .int m, .int b]) rfl h8 rfl rfl rfl (Or.inr (Or.inl ⟨Or.inl rfl, _, _, rfl, (gk_kd_j rfl rfl), rfl⟩)) (Or.inl rfl) ⟨m, b, mm, B, g, rfl, ⟨rfl, rfl⟩, hp0, hp1, hp2, hp3, hp4, hp5, hp6, kk0⟩
def L_X11_layParts : List (Nat × gk_M0) := [(133, (1, 10, 3, 0, S_X11_markOf)), (175, (1, 10, 3, 0, S_X11_recorded)), (226, (1, 10, 3, 0, S_X11_layDirectedParts)), (229, (1, 10, 3, 0, S_X11_layFocus)), (232, (1, 10, 2, 0, S_X11_firstSample)), (235, (1, 10, 3, 0, S_X11_reflectedPart))]
def cs_X11_layParts : Nat → Option gk_M0 := gk_lk L_X11_layParts
theorem m_X11_layParts : ∀ (as : List Value) (n : Nat) (fl : gk_F) (x : gk_X) (y : gk_Y) (K : gk_K), S_X11_layParts as n fl x y K → (gk_L0 as).length ≤ 5 ∧ ∀ V : gk_V, gk_W cX11_layParts pX11 cs_X11_layParts (fun _ _ => none) none 0 none K V → V 0 (gk_en as 5) [] n fl x y 0 := by
  intro as n fl x y K hS
  obtain ⟨m, b, mm, B, g, rfl, ⟨rfl, rfl⟩, hp0, hp1, hp2, hp3, hp4, hp5, hp6, q0⟩ := hS
  refine ⟨Nat.le_of_ble_eq_true rfl, fun V w => ?_⟩
  show V 0 [some (.ref 189), some (.int m), some (.int b), none, none] [] 202 gk_fT x y 0
  subst hp3 hp5
  have hcc := hp1.1.1
  have hmw := hp1.2.2.2.1 mm hp4
  have h8 : mm < 8 := by have := hp1.1; unfold wf0 at this; unfold nM at hp4; omega
  by_cases h2 : g 10 = 2
  · have hf : -100 ≤ gz g 12 ∧ gz g 12 ≤ 100 := by
      rcases hp1.2.2.2.2 with ⟨e, -⟩ | ⟨e, -⟩ | ⟨-, e⟩
      · rw [h2] at e; exact absurd e (by decide)
      · rw [h2] at e; exact absurd e (by decide)
      · exact e
    refine s_aload_n (pc2 := 1) w dX11_layParts_0 rfl rfl ?_
    refine m_getR (pc2 := 4) (ci := 10) (k := 0) (j2 := 190) w dX11_layParts_1 rfl rfl rfl rfl rfl rfl ?_
    refine s_bipush (pc2 := 6) (v := gI 10) w dX11_layParts_4 rfl rfl ?_
    refine m_ialoadN (pc2 := 7) (t := 10) (N := 2234) w dX11_layParts_6 rfl rfl rfl rfl (by decide) rfl ?_
    refine s_iconst (pc2 := 8) (v := gI 2) w dX11_layParts_7 rfl rfl ?_
    refine s_ic_ne (pc2 := 11) (tgt := 26) w dX11_layParts_8 rfl (by decide) (fun h0 => absurd ((hp0 10 (by decide)).trans h2) h0) (fun _ => ?_)
    refine s_aload_n (pc2 := 12) w dX11_layParts_11 rfl rfl ?_
    refine s_iload_n (pc2 := 13) w dX11_layParts_12 rfl rfl ?_
    refine s_aload_n (pc2 := 14) w dX11_layParts_13 rfl rfl ?_
    refine m_getR (pc2 := 17) (ci := 10) (k := 0) (j2 := 190) w dX11_layParts_14 rfl rfl rfl rfl rfl rfl ?_
    refine s_bipush (pc2 := 19) (v := gI 12) w dX11_layParts_17 rfl rfl ?_
    refine m_ialoadN (pc2 := 20) (t := 12) (N := 2234) w dX11_layParts_19 rfl rfl rfl rfl (by decide) rfl ?_
    rw [hp0 12 (by decide), gz_I g 12]
    refine s_iload_n (pc2 := 21) w dX11_layParts_20 rfl rfl ?_
    refine s_iadd (pc2 := 22) w dX11_layParts_21 rfl ?_
    rw [gI_add]
    refine r_X11_layDirectedParts (pc2 := 25) w dX11_layParts_22 rfl rfl rfl rfl h8 ((hp0 _ (by omega)).trans (gz_I g _)) hmw.1 rfl (by omega) ((hp0 0 (by decide)).trans (gz_I g 0)) hcc ?_
    refine s_return w dX11_layParts_25 rfl ?_
    refine q0 _ (fun i k _ _ => ?_)
    rw [gk_ur_cg (h := gk_pp g mm B) _ _ _ (fun k hk => ?_)]
    refine Eq.trans ?_ (if_pos h2).symm
    exact gk_at_cg (fun k hk => hp0 (186 + 256 * mm + k) (by omega))
  · obtain ⟨k1, k2, k3, k4, k5, -, hpb⟩ := wf_focus hp1 h2 hp4 hp6
    obtain ⟨Lx, hLx⟩ : ∃ Lx : gk_X, Lx = (gk_ur (gk_ur x 194 (fun t => gI (gk_dl (fA g mm B) (fS g) (fBe g mm false) t)) 256) 195 (fun t => gI (gk_dl (fA g mm B) (fS g) (fBe g mm true) t)) 256) := ⟨_, rfl⟩
    have l1 : ∀ k, k < 2234 → Lx 190 k = g k := fun k hk => by rw [hLx]; exact hp0 k hk
    have l2 : ∀ k : Nat, k < 256 → Lx 194 k = gI (gk_dl (fA g mm B) (fS g) (fBe g mm false) k) := fun k hk => by rw [hLx]; exact (gk_ur_ne (by decide)).trans (gk_ur_in hk)
    have l3 : ∀ k : Nat, k < 256 → Lx 195 k = gI (gk_dl (fA g mm B) (fS g) (fBe g mm true) k) := fun k hk => by rw [hLx]; exact gk_ur_in hk
    have key : ∀ (k t : Nat) (l4 : Option Value), t + k = 256 → V 34 [some (.ref 189), some (.int (nI mm)), some (.int (gI B)), some (.int (nI t)), l4] [] 202 gk_fT (gk_ur Lx 197 (fun k => gI (gk_pt g mm B k)) t) y 0 := by
      intro k
      induction k with
      | zero =>
        intro t l4 ht
        obtain rfl : t = 256 := by omega
        refine s_iload_n (pc2 := 35) w dX11_layParts_34 rfl rfl ?_
        refine s_sipush (pc2 := 38) (v := gI 256) w dX11_layParts_35 rfl rfl ?_
        refine s_ic_ge (pc2 := 41) (tgt := 106) w dX11_layParts_38 rfl (by decide) (fun _ => ?_) (fun h0 => absurd ((Int32.le_refl _)) h0)
        refine s_return w dX11_layParts_106 rfl ?_
        refine q0 _ (fun i k h3 h4 => ?_)
        rw [gk_ur_cg (h := gk_pp g mm B) _ _ _ (fun k _ => (if_neg h2).symm)]
        unfold gk_ur
        split
        · rfl
        · rw [hLx]; exact (gk_ur_ne h4).trans (gk_ur_ne h3)
      | succ k ih =>
        intro t l4 ht
        have hd := gk_dlb (hpb false) (t := (t : Int)) (by omega) (by omega)
        have hfn := fN_b hcc (hpb false) (show t < 256 by omega)
        have hq1 := gk_mulb (a := (t : Int)) (b := gz g 0) (A := 256) (B := 1000) (by omega) (by omega) (by omega) (by omega)
        have hq0 : 0 ≤ (t : Int) * gz g 0 := Int.mul_nonneg (by omega) (by omega)
        have x1 : ∀ k, k < 2234 → gk_ur Lx 197 (fun k => gI (gk_pt g mm B k)) t 190 k = g k := fun k hk => (gk_ur_ne (by decide)).trans (l1 k hk)
        refine s_iload_n (pc2 := 35) w dX11_layParts_34 rfl rfl ?_
        refine s_sipush (pc2 := 38) (v := gI 256) w dX11_layParts_35 rfl rfl ?_
        refine s_ic_ge (pc2 := 41) (tgt := 106) w dX11_layParts_38 rfl (by decide) (fun h0 => absurd h0 (by rw [gI_nI, gI_le ⟨by omega, by omega⟩ ⟨by omega, by omega⟩]; omega)) (fun _ => ?_)
        refine s_aload_n (pc2 := 42) w dX11_layParts_41 rfl rfl ?_
        refine s_aload_n (pc2 := 43) w dX11_layParts_42 rfl rfl ?_
        refine s_iload_n (pc2 := 44) w dX11_layParts_43 rfl rfl ?_
        refine s_iconst (pc2 := 45) (v := gI 0) w dX11_layParts_44 rfl rfl ?_
        refine r_X11_markOf (pc2 := 48) (rf := false) w dX11_layParts_45 rfl rfl rfl rfl (by omega) ((x1 0 (by decide)).trans (gz_I g 0)) ((gk_ur_ne (by decide)).trans (l2 t (by omega))) rfl ?_
        refine r_X11_firstSample (pc2 := 51) w dX11_layParts_48 rfl rfl rfl rfl (by omega) ((x1 0 (by decide)).trans (gz_I g 0)) hcc ?_
        rw [fN_e hcc.1]
        refine s_istore (pc2 := 53) w dX11_layParts_51 rfl rfl ?_
        dsimp only [gk_s1, gk_s2, gk_cl]
        refine s_aload_n (pc2 := 54) w dX11_layParts_53 rfl rfl ?_
        refine m_getR (pc2 := 57) (ci := 10) (k := 8) (j2 := 197) w dX11_layParts_54 rfl rfl rfl rfl rfl rfl ?_
        refine s_iload_n (pc2 := 58) w dX11_layParts_57 rfl rfl ?_
        refine s_aload_n (pc2 := 59) w dX11_layParts_58 rfl rfl ?_
        refine s_iload_n (pc2 := 60) w dX11_layParts_59 rfl rfl ?_
        refine s_iload (pc2 := 62) w dX11_layParts_60 rfl rfl ?_
        refine r_X11_recorded (pc2 := 65) w dX11_layParts_62 rfl rfl rfl rfl h8 ?_
        have er : gk_at (fun k => gk_ur Lx 197 (fun k => gI (gk_pt g mm B k)) t 190 (186 + 256 * mm + k)) (gI (fN g mm B t)) = gI (rcI g mm (fN g mm B t)) := by
          rw [gk_at_cg (fun k hk => x1 (186 + 256 * mm + k) (by omega))]
          exact (gI_self _).symm
        rw [er]
        refine m_iastoreN (pc2 := 66) (t := t) (N := 256) w dX11_layParts_65 rfl rfl rfl rfl (by omega) rfl ?_
        refine s_aload_n (pc2 := 67) w dX11_layParts_66 rfl rfl ?_
        refine m_getR (pc2 := 70) (ci := 10) (k := 0) (j2 := 190) w dX11_layParts_67 rfl rfl rfl rfl rfl rfl ?_
        refine s_iconst (pc2 := 71) (v := gI 5) w dX11_layParts_70 rfl rfl ?_
        refine m_ialoadN (pc2 := 72) (t := 5) (N := 2234) w dX11_layParts_71 rfl rfl rfl rfl (by decide) rfl ?_
        refine s_iconst (pc2 := 73) (v := gI 1) w dX11_layParts_72 rfl rfl ?_
        refine s_ic_ne (pc2 := 76) (tgt := 100) w dX11_layParts_73 rfl (by decide) (fun c73 => ?_) (fun c73 => ?_)
        · refine s_iinc (pc2 := 103) w dX11_layParts_100 rfl rfl rfl rfl ?_
          dsimp only [gk_s1, gk_s2, gk_cl]
          rw [nI_s]
          refine s_goto (tgt := 34) w dX11_layParts_103 (by decide) ?_
          have h := ih (t + 1) (some (.int (gI (fN g mm B t)))) (by omega)
          rw [← gk_ur_s, gk_pt_s, if_neg (fun h => c73 ((x1 5 (by decide)).trans h.1)), Int.sub_zero] at h
          exact h
        · refine s_iload (pc2 := 78) w dX11_layParts_76 rfl rfl ?_
          refine s_sipush (pc2 := 81) (v := gI 255) w dX11_layParts_78 rfl rfl ?_
          refine s_ic_gt (pc2 := 84) (tgt := 100) w dX11_layParts_81 rfl (by decide) (fun c81 => ?_) (fun c81 => ?_)
          · refine s_iinc (pc2 := 103) w dX11_layParts_100 rfl rfl rfl rfl ?_
            dsimp only [gk_s1, gk_s2, gk_cl]
            rw [nI_s]
            refine s_goto (tgt := 34) w dX11_layParts_103 (by decide) ?_
            have h := ih (t + 1) (some (.int (gI (fN g mm B t)))) (by omega)
            rw [← gk_ur_s, gk_pt_s, if_neg (fun h => absurd ((gI_lt ⟨by omega, by omega⟩ ⟨by omega, by omega⟩).mp c81) (by omega)), Int.sub_zero] at h
            exact h
          · refine s_aload_n (pc2 := 85) w dX11_layParts_84 rfl rfl ?_
            refine m_getR (pc2 := 88) (ci := 10) (k := 8) (j2 := 197) w dX11_layParts_85 rfl rfl rfl rfl rfl rfl ?_
            refine s_iload_n (pc2 := 89) w dX11_layParts_88 rfl rfl ?_
            refine s_dup2 (pc2 := 90) w dX11_layParts_89 rfl rfl rfl ?_
            refine m_ialoadN (pc2 := 91) (t := t) (N := 256) w dX11_layParts_90 rfl rfl rfl rfl (by omega) rfl ?_
            rw [gk_up_in]
            refine s_aload_n (pc2 := 92) w dX11_layParts_91 rfl rfl ?_
            refine s_iload_n (pc2 := 93) w dX11_layParts_92 rfl rfl ?_
            refine s_iload (pc2 := 95) w dX11_layParts_93 rfl rfl ?_
            have hs : fN g mm B t ≤ 255 := Int.not_lt.mp (fun h => c81 ((gI_lt ⟨by omega, by omega⟩ ⟨by omega, by omega⟩).mpr h))
            refine r_X11_reflectedPart (pc2 := 98) (s := (fN g mm B t).toNat) (pv := gk_pr g mm B t) w dX11_layParts_95 rfl rfl rfl (fun k hk => x1 k (by omega)) hp1 rfl (by omega) (show gI (fN g mm B t) = nI (fN g mm B t).toNat by rw [gI_nI]; exact congrArg gI (by omega)) (by omega) (hpb false) (hpb true) (fun k hk => (gk_up_ne (by omega)).trans ((gk_ur_ne (by decide)).trans (l2 k hk))) (fun k hk => (gk_up_ne (by omega)).trans ((gk_ur_ne (by decide)).trans (l3 k hk))) (fun k hk => ⟨(gk_up_ne (by omega)).trans ((gk_ur_in hk).trans (congrArg gI (gk_pr_lo g mm B (Nat.lt_succ_self k) (by omega)).symm)), by have := gk_pr_b hp1 hp2 h2 hp4 hp6 t (by omega) k; omega⟩) ?_
            refine s_isub (pc2 := 99) w dX11_layParts_98 rfl ?_
            rw [gI_sub]
            refine m_iastoreN (pc2 := 100) (t := t) (N := 256) w dX11_layParts_99 rfl rfl rfl rfl (by omega) rfl ?_
            rw [gk_up_up]
            refine s_iinc (pc2 := 103) w dX11_layParts_100 rfl rfl rfl rfl ?_
            dsimp only [gk_s1, gk_s2, gk_cl]
            rw [nI_s]
            refine s_goto (tgt := 34) w dX11_layParts_103 (by decide) ?_
            have h := ih (t + 1) (some (.int (gI (fN g mm B t)))) (by omega)
            rw [← gk_ur_s, gk_pt_s, if_pos ⟨(x1 5 (by decide)).symm.trans c73, Int.not_lt.mp (fun h => c81 ((gI_lt ⟨by omega, by omega⟩ ⟨by omega, by omega⟩).mpr h))⟩] at h
            exact h
    refine s_aload_n (pc2 := 1) w dX11_layParts_0 rfl rfl ?_
    refine m_getR (pc2 := 4) (ci := 10) (k := 0) (j2 := 190) w dX11_layParts_1 rfl rfl rfl rfl rfl rfl ?_
    refine s_bipush (pc2 := 6) (v := gI 10) w dX11_layParts_4 rfl rfl ?_
    refine m_ialoadN (pc2 := 7) (t := 10) (N := 2234) w dX11_layParts_6 rfl rfl rfl rfl (by decide) rfl ?_
    refine s_iconst (pc2 := 8) (v := gI 2) w dX11_layParts_7 rfl rfl ?_
    refine s_ic_ne (pc2 := 11) (tgt := 26) w dX11_layParts_8 rfl (by decide) (fun _ => ?_) (fun h0 => absurd h0 (fun h => h2 ((hp0 10 (by decide)).symm.trans h)))
    refine s_aload_n (pc2 := 27) w dX11_layParts_26 rfl rfl ?_
    refine s_iload_n (pc2 := 28) w dX11_layParts_27 rfl rfl ?_
    refine s_iload_n (pc2 := 29) w dX11_layParts_28 rfl rfl ?_
    refine r_X11_layFocus (pc2 := 32) w dX11_layParts_29 rfl rfl rfl (fun k hk => hp0 k (by omega)) hp1 h2 rfl hp4 rfl hp6 ?_
    rw [← hLx]
    refine s_iconst (pc2 := 33) (v := gI 0) w dX11_layParts_32 rfl rfl ?_
    refine s_istore_n (pc2 := 34) (k2 := 3) w dX11_layParts_33 rfl rfl rfl ?_
    dsimp only [gk_s1, gk_s2, gk_cl]
    have h := key 256 0 none rfl
    rw [gk_ur_0] at h
    exact h
theorem lk_X11_layParts {l : Launch} (hl : l.stackTraces = false) : ∀ q ∈ L_X11_layParts, (q.2.1 < 5 → gk_Lk l RX11 gk_W1 4 q.1 q.2.1 q.2.2.1 q.2.2.2.1 q.2.2.2.2.1 q.2.2.2.2.2) := (List.forall_mem_cons.mpr ⟨(fun _ => ⟨yX11_markOf, cX11_markOf, 3, (some .int), 0, _, M_X11_markOf hl, ⟨by decide, by decide⟩, ⟨by decide, by decide, by decide +kernel⟩, ⟨(gk_wm 1481 (by decide +kernel)), (gk_wm 99 (by decide +kernel))⟩, Or.inr (Or.inr (Or.inr (Or.inl ⟨rfl, rfl, (gk_wm 1480 (by decide +kernel)), (gk_wm 49 (by decide +kernel)), gk_wm 1478 (by decide +kernel), by decide, rfl⟩)))⟩), (List.forall_mem_cons.mpr ⟨(fun _ => ⟨yX11_recorded, cX11_recorded, 3, (some .int), 2, _, M_X11_recorded hl, ⟨by decide, by decide⟩, ⟨by decide, by decide, by decide +kernel⟩, ⟨(gk_wm 1518 (by decide +kernel)), (gk_wm 99 (by decide +kernel))⟩, Or.inr (Or.inr (Or.inr (Or.inl ⟨rfl, rfl, (gk_wm 1517 (by decide +kernel)), (gk_wm 54 (by decide +kernel)), gk_wm 1515 (by decide +kernel), by decide, rfl⟩)))⟩), (List.forall_mem_cons.mpr ⟨(fun _ => ⟨yX11_layDirectedParts, cX11_layDirectedParts, 5, none, 3, _, M_X11_layDirectedParts hl, ⟨by decide, by decide⟩, ⟨by decide, by decide, by decide +kernel⟩, ⟨(gk_wm 1626 (by decide +kernel)), (gk_wm 99 (by decide +kernel))⟩, Or.inr (Or.inr (Or.inr (Or.inl ⟨rfl, rfl, (gk_wm 1625 (by decide +kernel)), (gk_wm 67 (by decide +kernel)), gk_wm 1623 (by decide +kernel), by decide, rfl⟩)))⟩), (List.forall_mem_cons.mpr ⟨(fun _ => ⟨yX11_layFocus, cX11_layFocus, 6, none, 3, _, M_X11_layFocus hl, ⟨by decide, by decide⟩, ⟨by decide, by decide, by decide +kernel⟩, ⟨(gk_wm 1610 (by decide +kernel)), (gk_wm 99 (by decide +kernel))⟩, Or.inr (Or.inr (Or.inr (Or.inl ⟨rfl, rfl, (gk_wm 1609 (by decide +kernel)), (gk_wm 64 (by decide +kernel)), gk_wm 1607 (by decide +kernel), by decide, rfl⟩)))⟩), (List.forall_mem_cons.mpr ⟨(fun _ => ⟨yX11_firstSample, cX11_firstSample, 2, (some .int), 0, _, M_X11_firstSample hl, ⟨by decide, by decide⟩, ⟨by decide, by decide, by decide +kernel⟩, ⟨(gk_wm 1614 (by decide +kernel)), (gk_wm 99 (by decide +kernel))⟩, Or.inr (Or.inr (Or.inr (Or.inl ⟨rfl, rfl, (gk_wm 1613 (by decide +kernel)), (gk_wm 65 (by decide +kernel)), gk_wm 1611 (by decide +kernel), by decide, rfl⟩)))⟩), (List.forall_mem_cons.mpr ⟨(fun _ => ⟨yX11_reflectedPart, cX11_reflectedPart, 6, (some .int), 2, _, M_X11_reflectedPart hl, ⟨by decide, by decide⟩, ⟨by decide, by decide, by decide +kernel⟩, ⟨(gk_wm 1630 (by decide +kernel)), (gk_wm 99 (by decide +kernel))⟩, Or.inr (Or.inr (Or.inr (Or.inl ⟨rfl, rfl, (gk_wm 1629 (by decide +kernel)), (gk_wm 68 (by decide +kernel)), gk_wm 1627 (by decide +kernel), by decide, rfl⟩)))⟩), (fun _ h => absurd h List.not_mem_nil)⟩)⟩)⟩)⟩)⟩)⟩)
theorem sp_X11_layParts : ∀ q ∈ L_X11_layParts, gk_Sq RX11 gk_W1 4 q := (List.forall_mem_cons.mpr ⟨⟨fun h => absurd h (by decide), fun h => absurd h (by decide), fun h => absurd h (by decide), fun h => absurd h (by decide), fun h => absurd h (by decide), fun h => absurd h (by decide)⟩, (List.forall_mem_cons.mpr ⟨⟨fun h => absurd h (by decide), fun h => absurd h (by decide), fun h => absurd h (by decide), fun h => absurd h (by decide), fun h => absurd h (by decide), fun h => absurd h (by decide)⟩, (List.forall_mem_cons.mpr ⟨⟨fun h => absurd h (by decide), fun h => absurd h (by decide), fun h => absurd h (by decide), fun h => absurd h (by decide), fun h => absurd h (by decide), fun h => absurd h (by decide)⟩, (List.forall_mem_cons.mpr ⟨⟨fun h => absurd h (by decide), fun h => absurd h (by decide), fun h => absurd h (by decide), fun h => absurd h (by decide), fun h => absurd h (by decide), fun h => absurd h (by decide)⟩, (List.forall_mem_cons.mpr ⟨⟨fun h => absurd h (by decide), fun h => absurd h (by decide), fun h => absurd h (by decide), fun h => absurd h (by decide), fun h => absurd h (by decide), fun h => absurd h (by decide)⟩, (List.forall_mem_cons.mpr ⟨⟨fun h => absurd h (by decide), fun h => absurd h (by decide), fun h => absurd h (by decide), fun h => absurd h (by decide), fun h => absurd h (by decide), fun h => absurd h (by decide)⟩, (fun _ h => absurd h List.not_mem_nil)⟩)⟩)⟩)⟩)⟩)⟩)
theorem M_X11_layParts {l : Launch} (hl : l.stackTraces = false) : gk_Mt l yX11_layParts (.code yX11_layParts cX11_layParts 5 none :: gk_W1) 4 0 S_X11_layParts := gk_meth hl gk_cw_ok (by decide +kernel) rfl m_X11_layParts pX11_ok (gk_Sp_of sp_X11_layParts) pX11_st (fun ci m S h => absurd h (by intro h; cases h)) (xf_X11 4) (fun idx kd ci mm cost S2 h h5 => lk_X11_layParts hl _ (gk_lk_mem h) h5)

end GKV

/-! THE TEXT, 16: the reference, its parser -/
section GKV
variable {c : ByteArray} {P : gk_C} {cs : Nat → Option gk_M0} {rt : Option FieldType} {uf : Nat} {sc : Option Nat} {K : gk_K} {V : gk_V}
variable {L : List (Option Value)} {r : List Value} {n : Nat} {fl : gk_F} {x : gk_X} {y : gk_Y} {u pc pc2 : Nat}
def RH (c : Nat → Int32) (t : Nat) (x0 : gk_X) : Prop := t ≤ 500 ∧ x0 189 11 = nI t ∧ tbA (x0 199) t = c ∧ ∀ k, k < t → ¬ c k = -1
/-- the parser stands at Q -/
def RP (c : Nat → Int32) (t : Nat) (x0 : gk_X) (y0 : gk_Y) (Q : gk_P) (x : gk_X) (y : gk_Y) : Prop := (∀ i k, i ≠ 190 → ¬ (i = 189 ∧ 12 ≤ k ∧ k ≤ 18) → x i k = x0 i k) ∧ (∀ i k, ¬ (i = 189 ∧ k = 19) → y i k = y0 i k) ∧ RTa c t (tp c t Q.1) x y ∧ x 189 17 = nI Q.2.1 ∧ Q.2.1 ≤ 3 ∧ (Q.2.1 = 0 → x 189 18 = -1 ∧ MG Q.2.2 x) ∧ (¬ Q.2.1 = 0 → x 189 18 = nI (tp c t Q.1))
theorem pQ_1 (b : Bool) (k : Nat) (Q : gk_P) : (pQ b k Q).1 = Q.1 ∧ (pQ b k Q).2.2 = Q.2.2 := by
  unfold pQ
  split
  · exact ⟨rfl, rfl⟩
  · exact ⟨rfl, rfl⟩
theorem RTa.cg {c : Nat → Int32} {t a : Nat} {x x2 : gk_X} {y y2 : gk_Y} (h : RTa c t a x y) (hx : ∀ k, 12 ≤ k → k ≤ 16 → x2 189 k = x 189 k) (hy : y2 189 19 = y 189 19) : RTa c t a x2 y2 := by
  unfold RTa
  rw [hx 12 (by omega) (by omega), hx 13 (by omega) (by omega), hx 14 (by omega) (by omega), hx 15 (by omega) (by omega), hx 16 (by omega) (by omega), hy]
  exact h
theorem kR_2 {c : Nat → Int32} {t a : Nat} (h : kR c t a = 2) : a < t ∧ tL (c a) = true := by
  unfold kR at h
  split at h
  · exact absurd h (by decide)
  split at h
  · next h1 h2 => exact ⟨by omega, h2⟩
  repeat' split at h
  all_goals exact absurd h (by decide)
theorem sL_12 : ∀ q, q < 7 → sqL (q + 12) = sqL q ∧ sN (q + 12) ≤ 9 ∧ ∀ k, k < sN (q + 12) → 97 ≤ (sB (q + 12) k).toInt ∧ (sB (q + 12) k).toInt ≤ 122 := by decide +kernel
theorem tL_i {v : Int32} (h : tL v = true) : 97 ≤ v.toInt ∧ v.toInt ≤ 122 := by
  have h := of_decide_eq_true h
  have h1 := Int32.le_iff_toInt_le.mp h.1
  have h2 := Int32.le_iff_toInt_le.mp h.2
  have e1 : (97 : Int32).toInt = 97 := by decide
  have e2 : (122 : Int32).toInt = 122 := by decide
  omega
theorem pkw_st0 {c : Nat → Int32} {j : Nat} : (27 : Int64) * gL (pkw c 0 j) + (c j).toInt64 - 96 = gL (pkw c 0 (j + 1)) := by
  have h := pkw_st (c := c) (a := 0) (j := j)
  rw [Nat.zero_add] at h
  exact h
theorem p27 : ∀ j, j ≤ 9 → 27 ^ j ≤ 7625597484987 := by decide +kernel
theorem w_eq {c : Nat → Int32} {t a q : Nat} (hq : q < 7) (hk : kR c t a = 2) (hn : te c t a - a = sN (q + 12)) : gL (pkw c a (min (te c t a - a) 10)) = gL (pkw (sB (q + 12)) 0 (sN (q + 12))) ↔ wdl c a (te c t a - a) = sqL q := by
  obtain ⟨s1, s2, s3⟩ := sL_12 q hq
  obtain ⟨h1, h2⟩ := kR_2 hk
  have hL : ∀ k, k < sN (q + 12) → 97 ≤ (c (a + k)).toInt ∧ (c (a + k)).toInt ≤ 122 := fun k hk => tL_i (rn_all (t - a) a (a + k) (by omega) (by rw [← te_L (by omega) h2]; omega))
  have hB : ∀ k, k < sN (q + 12) → 97 ≤ (sB (q + 12) (0 + k)).toInt ∧ (sB (q + 12) (0 + k)).toInt ≤ 122 := fun k hk => by rw [Nat.zero_add]; exact s3 k hk
  rw [hn, Nat.min_eq_left (by omega)]
  have b1 := pkw_b (c := c) (a := a) (sN (q + 12)) (by omega) hL
  have b2 := pkw_b (c := sB (q + 12)) (a := 0) (sN (q + 12)) (by omega) hB
  have b3 := p27 _ s2
  rw [gL_eq ⟨by omega, by omega⟩ ⟨by omega, by omega⟩, wdl_eq, ← s1]
  constructor
  · intro h
    refine ⟨rfl, fun k hk => ?_⟩
    have h9 := pkw_eq _ hL hB h k hk
    rw [Nat.zero_add] at h9
    exact h9
  · intro h
    exact pkw_cg _ (fun k hk => by rw [Nat.zero_add]; exact h.2 k hk)
theorem vR_le {c : Nat → Int32} {t a : Nat} (ha : a ≤ t) : vR c t a ≤ 200009 := by
  by_cases h : a < t ∧ ¬ tL (c a) = true ∧ tD (c a) = true
  · rw [vR_D h.1 h.2.2]
    have h2 := te_b (c := c) ha
    refine fR_le _ _ _ (fun k h3 h4 => (tD_dg (rn_all (p := tD) (t - a) a k h3 (by rw [← te_D (by omega) h.2.1 h.2.2]; omega))).1) (by omega)
  · rw [vR_n h]
    omega
theorem bt_R {c : Nat → Int32} {t a : Nat} {lo hi : Int} (ha : a ≤ t) (hl : -20000 ≤ lo ∧ lo ≤ 20000) (hh : -20000 ≤ hi ∧ hi ≤ 20000) : ((if gI lo ≤ nI (vR c t a) ∧ nI (vR c t a) ≤ gI hi then (1 : Int32) else 0) = 0 ↔ inR lo hi (tv c t a) = false) ∧ (inR lo hi (tv c t a) = true → nI (vR c t a) = gI (tv c t a)) := by
  have h1 := vR_le (c := c) ha
  have h2 := tv_R c t a
  have h3 : (gI lo ≤ nI (vR c t a) ∧ nI (vR c t a) ≤ gI hi) ↔ (lo ≤ (tv c t a : Int) ∧ (tv c t a : Int) ≤ hi) := by
    rw [gI_nI, gI_le ⟨by omega, by omega⟩ ⟨by omega, by omega⟩, gI_le ⟨by omega, by omega⟩ ⟨by omega, by omega⟩]
    omega
  unfold inR
  refine ⟨?_, fun h => ?_⟩
  · rw [decide_eq_false_iff_not, ← h3]
    split
    · next h => exact ⟨fun h2 => absurd h2 (by decide), fun h2 => absurd h h2⟩
    · next h => exact ⟨fun _ => h, fun _ => rfl⟩
  · have h := of_decide_eq_true h
    rw [show vR c t a = tv c t a from by omega]
    rfl
theorem bt_M {c : Nat → Int32} {t a : Nat} {lo hi : Int} (ha : a ≤ t) (hl : -20000 ≤ lo ∧ lo ≤ 20000) (hh : -20000 ≤ hi ∧ hi ≤ 20000) : ((if gI lo ≤ -nI (vR c t a) ∧ -nI (vR c t a) ≤ gI hi then (1 : Int32) else 0) = 0 ↔ inR lo hi (-(tv c t a : Int)) = false) ∧ (inR lo hi (-(tv c t a : Int)) = true → -nI (vR c t a) = gI (-(tv c t a : Int))) := by
  have h1 := vR_le (c := c) ha
  have h2 := tv_R c t a
  have h3 : (gI lo ≤ -nI (vR c t a) ∧ -nI (vR c t a) ≤ gI hi) ↔ (lo ≤ -(tv c t a : Int) ∧ -(tv c t a : Int) ≤ hi) := by
    rw [gI_nI, gI_neg, gI_le ⟨by omega, by omega⟩ ⟨by omega, by omega⟩, gI_le ⟨by omega, by omega⟩ ⟨by omega, by omega⟩]
    omega
  unfold inR
  refine ⟨?_, fun h => ?_⟩
  · rw [decide_eq_false_iff_not, ← h3]
    split
    · next h => exact ⟨fun h2 => absurd h2 (by decide), fun h2 => absurd h h2⟩
    · next h => exact ⟨fun _ => h, fun _ => rfl⟩
  · have h := of_decide_eq_true h
    rw [show vR c t a = tv c t a from by omega]
    exact gI_neg ((tv c t a : Nat) : Int)
theorem kRq {c : Nat → Int32} {t a : Nat} (k : Nat) (hk : k < 100000) : nI (kR c t a) = nI k ↔ kR c t a = k := nI_eq2 (Nat.lt_of_le_of_lt (kR_0 c t a).2.2.2.2 (by decide)) hk
theorem e_0 {e : Nat} (h : e ≤ 3) : nI e = 0 ↔ e = 0 := nI_eq2 (b := 0) (by omega) (by omega)
def S_X11_isWord : gk_S := fun as n fl x y K => ∃ (q : Nat) (B : Nat → Int32) (t : Nat) (x0 : gk_X) (y0 : gk_Y) (Q : gk_P), as = [.ref 189, .ref (6000+q)] ∧ (n = 202 ∧ fl = gk_fT) ∧ (12 ≤ q ∧ q < 19) ∧ (RH B t x0) ∧ (RP B t x0 y0 Q x y) ∧ (K (.inl (some (.int (if KK B t Q.1 = q - 7 then 1 else 0)))) n fl x y)
theorem r_X11_isWord (w : gk_W c P cs (fun _ _ => none) rt uf sc K V) {idx : Nat} {q : Nat} {B : Nat → Int32} {t : Nat} {x0 : gk_X} {y0 : gk_Y} {Q : gk_P} (hd : decode c pc = .ok (.invokevirtual idx, 3)) (hp : pc + 3 = pc2) (hc : cs idx = some (1, 10, 2, 0, S_X11_isWord)) (h8 : Nat.ble (r.map Value.category).sum 8 = true) (hp0 : 12 ≤ q ∧ q < 19) (hp1 : RH B t x0) (hp2 : RP B t x0 y0 Q x y) (kk0 : V pc2 L ((.int (if KK B t Q.1 = q - 7 then 1 else 0)) :: r) 202 gk_fT x y u) : V pc L (.ref (6000+q) :: .ref 189 :: r) 202 gk_fT x y u :=
  g_callv w hd hp hc (as := [.ref 189, .ref (6000+q)]) rfl h8 rfl rfl rfl (Or.inr (Or.inl ⟨Or.inl rfl, _, _, rfl, (gk_kd_j rfl rfl), rfl⟩)) (Or.inl rfl) ⟨q, B, t, x0, y0, Q, rfl, ⟨rfl, rfl⟩, hp0, hp1, hp2, kk0⟩
def L_X11_isWord : List (Nat × gk_M0) := [(307, (3, 0, 1, 0, S_J0_length_8abf5)), (313, (3, 0, 2, 0, S_J0_charAt_5068e))]
def cs_X11_isWord : Nat → Option gk_M0 := gk_lk L_X11_isWord
theorem m_X11_isWord : ∀ (as : List Value) (n : Nat) (fl : gk_F) (x : gk_X) (y : gk_Y) (K : gk_K), S_X11_isWord as n fl x y K → (gk_L0 as).length ≤ 5 ∧ ∀ V : gk_V, gk_W cX11_isWord pX11 cs_X11_isWord (fun _ _ => none) (some .boolean) 0 none K V → V 0 (gk_en as 5) [] n fl x y 0 := by
  intro as n fl x y K hS
  obtain ⟨q, B, t, x0, y0, Q, rfl, ⟨rfl, rfl⟩, hp0, hp1, hp2, q0⟩ := hS
  refine ⟨Nat.le_of_ble_eq_true rfl, fun V w => ?_⟩
  show V 0 [some (.ref 189), some (.ref (6000+q)), none, none, none] [] 202 gk_fT x y 0
  obtain ⟨z, rfl⟩ : ∃ z, q = z + 12 := ⟨q - 12, by omega⟩
  have hz : z < 7 := by omega
  rw [show z + 12 - 7 = 5 + z from by omega] at q0
  have hN := sN_lt hp0.2
  have hT := hp2.2.2.1
  have ht5 := hp1.1
  have hw := tk_w (c := B) (t := t) (a := tp B t Q.1) hz
  have hr9 := (sL_12 z hz).2.1
  have hte := te_b (c := B) (tp_le B t Q.1)
  refine s_aload_n (pc2 := 1) w dX11_isWord_0 rfl rfl ?_
  refine m_getI (pc2 := 4) (ci := 10) (k := 14) w dX11_isWord_1 rfl rfl rfl rfl rfl ?_
  rw [hT.2.2.1]
  refine s_iconst (pc2 := 5) (v := 2) w dX11_isWord_4 rfl rfl ?_
  refine s_ic_ne (pc2 := 8) (tgt := 19) w dX11_isWord_5 rfl (by decide) (fun c5 => ?_) (fun c5 => ?_)
  · refine s_iconst (pc2 := 20) (v := 0) w dX11_isWord_19 rfl rfl ?_
    refine s_ireturn w dX11_isWord_20 rfl (by first | rfl | decide) ?_
    rw [if_neg (show ¬ KK B t Q.1 = 5 + z from fun h => c5 ((kRq 2 (by omega)).mpr (hw.mp h).1))] at q0
    exact q0
  · refine s_aload_n (pc2 := 9) w dX11_isWord_8 rfl rfl ?_
    refine m_getI (pc2 := 12) (ci := 10) (k := 15) w dX11_isWord_9 rfl rfl rfl rfl rfl ?_
    refine s_aload_n (pc2 := 13) w dX11_isWord_12 rfl rfl ?_
    refine r_J0_length_8abf5 (pc2 := 16) w dX11_isWord_13 rfl rfl rfl hp0.2 hp0.2 ?_
    refine s_ic_eq (pc2 := 19) (tgt := 21) w dX11_isWord_16 rfl (by decide) (fun c16 => ?_) (fun c16 => ?_)
    · refine s_lconst (pc2 := 22) (v := 0) w dX11_isWord_21 rfl rfl ?_
      refine s_lstore_n (pc2 := 23) (k2 := 2) w dX11_isWord_22 rfl rfl rfl ?_
      dsimp only [gk_s1, gk_s2, gk_cl]
      refine s_iconst (pc2 := 24) (v := 0) w dX11_isWord_23 rfl rfl ?_
      refine s_istore (pc2 := 26) w dX11_isWord_24 rfl rfl ?_
      dsimp only [gk_s1, gk_s2, gk_cl]
      have h2 : kR B t (tp B t Q.1) = 2 := (kRq 2 (by omega)).mp c5
      obtain ⟨h3, h4⟩ := hT.2.2.2.2 h2
      have h5 : te B t (tp B t Q.1) - tp B t Q.1 = sN (z + 12) := (nI_eq2 (by omega) (by omega)).mp (h3.symm.trans c16)
      have key : ∀ (k n : Nat), n + k = sN (z + 12) → V 26 [some (.ref 189), some (.ref (6000 + (z + 12))), some (.long (gL (pkw (sB (z + 12)) 0 n))), none, some (.int (nI n))] [] 202 gk_fT x y 0 := by
        intro k
        induction k with
        | zero =>
          intro n hn
          obtain rfl : n = sN (z + 12) := by omega
          refine s_iload (pc2 := 28) w dX11_isWord_26 rfl rfl ?_
          refine s_aload_n (pc2 := 29) w dX11_isWord_28 rfl rfl ?_
          refine r_J0_length_8abf5 (pc2 := 32) w dX11_isWord_29 rfl rfl rfl hp0.2 hp0.2 ?_
          refine s_ic_ge (pc2 := 35) (tgt := 59) w dX11_isWord_32 rfl (by decide) (fun _ => ?_) (fun h0 => absurd (by rw [nI_ge2 (by omega) (by omega)]; omega) h0)
          refine s_aload_n (pc2 := 60) w dX11_isWord_59 rfl rfl ?_
          refine m_getL (pc2 := 63) (ci := 10) (k := 19) w dX11_isWord_60 rfl rfl rfl rfl rfl ?_
          refine s_lload_n (pc2 := 64) w dX11_isWord_63 rfl rfl ?_
          rw [h4]
          refine s_lcmp (pc2 := 65) w dX11_isWord_64 rfl ?_
          refine s_if_ne (pc2 := 68) (tgt := 72) w dX11_isWord_65 rfl (by decide) (fun c65 => ?_) (fun c65 => ?_)
          · refine s_iconst (pc2 := 73) (v := 0) w dX11_isWord_72 rfl rfl ?_
            refine s_ireturn w dX11_isWord_73 rfl (by first | rfl | decide) ?_
            rw [if_neg (show ¬ KK B t Q.1 = 5 + z from fun h => c65 ((lc_eq _ _).mpr ((w_eq hz h2 h5).mpr (hw.mp h).2)))] at q0
            exact q0
          · refine s_iconst (pc2 := 69) (v := 1) w dX11_isWord_68 rfl rfl ?_
            refine s_goto (tgt := 73) w dX11_isWord_69 (by decide) ?_
            refine s_ireturn w dX11_isWord_73 rfl (by first | rfl | decide) ?_
            rw [if_pos (show KK B t Q.1 = 5 + z from hw.mpr ⟨h2, (w_eq hz h2 h5).mp ((lc_eq _ _).mp c65)⟩)] at q0
            exact q0
        | succ k ih =>
          intro n hn
          refine s_iload (pc2 := 28) w dX11_isWord_26 rfl rfl ?_
          refine s_aload_n (pc2 := 29) w dX11_isWord_28 rfl rfl ?_
          refine r_J0_length_8abf5 (pc2 := 32) w dX11_isWord_29 rfl rfl rfl hp0.2 hp0.2 ?_
          refine s_ic_ge (pc2 := 35) (tgt := 59) w dX11_isWord_32 rfl (by decide) (fun h0 => absurd h0 (by rw [nI_ge2 (by omega) (by omega)]; omega)) (fun _ => ?_)
          refine s_ldc2_w (pc2 := 38) (v := 27) w dX11_isWord_35 rfl rfl ?_
          refine s_lload_n (pc2 := 39) w dX11_isWord_38 rfl rfl ?_
          refine s_lmul (pc2 := 40) w dX11_isWord_39 rfl ?_
          refine s_aload_n (pc2 := 41) w dX11_isWord_40 rfl rfl ?_
          refine s_iload (pc2 := 43) w dX11_isWord_41 rfl rfl ?_
          refine r_J0_charAt_5068e (pc2 := 46) (k := n) w dX11_isWord_43 rfl rfl rfl hp0.2 hp0.2 rfl (by omega) ?_
          refine s_i2l (pc2 := 47) w dX11_isWord_46 rfl ?_
          refine s_ladd (pc2 := 48) w dX11_isWord_47 rfl ?_
          refine s_ldc2_w (pc2 := 51) (v := 96) w dX11_isWord_48 rfl rfl ?_
          refine s_lsub (pc2 := 52) w dX11_isWord_51 rfl ?_
          rw [pkw_st0]
          refine s_lstore_n (pc2 := 53) (k2 := 2) w dX11_isWord_52 rfl rfl rfl ?_
          dsimp only [gk_s1, gk_s2, gk_cl]
          refine s_iinc (pc2 := 56) w dX11_isWord_53 rfl rfl rfl rfl ?_
          dsimp only [gk_s1, gk_s2, gk_cl]
          rw [nI_s]
          refine s_goto (tgt := 26) w dX11_isWord_56 (by decide) ?_
          exact ih (n + 1) (by omega)
      exact key (sN (z + 12)) 0 (by omega)
    · refine s_iconst (pc2 := 20) (v := 0) w dX11_isWord_19 rfl rfl ?_
      refine s_ireturn w dX11_isWord_20 rfl (by first | rfl | decide) ?_
      have h2 : kR B t (tp B t Q.1) = 2 := (kRq 2 (by omega)).mp c5
      obtain ⟨h3, h4⟩ := hT.2.2.2.2 h2
      rw [if_neg (show ¬ KK B t Q.1 = 5 + z from fun h => c16 (h3.trans (by rw [(wdl_eq.mp (hw.mp h).2).1, ← (sL_12 z hz).1]; rfl)))] at q0
      exact q0
theorem lk_X11_isWord {l : Launch} (hl : l.stackTraces = false) : ∀ q ∈ L_X11_isWord, (q.2.1 < 5 → gk_Lk l RX11 gk_W1 4 q.1 q.2.1 q.2.2.1 q.2.2.2.1 q.2.2.2.2.1 q.2.2.2.2.2) := (List.forall_mem_cons.mpr ⟨(fun _ => ⟨yJ0_length_8abf5, cJ0_length_8abf5, 1, (some .int), 1, _, M_J0_length_8abf5 hl, ⟨by decide, by decide⟩, ⟨by decide, by decide, by decide +kernel⟩, ⟨(gk_wm 530 (by decide +kernel)), (gk_wm 109 (by decide +kernel))⟩, Or.inr (Or.inr (Or.inr (Or.inr (Or.inl ⟨rfl, rfl, (gk_wm 528 (by decide +kernel)), (gk_wm 529 (by decide +kernel)), gk_wm 1748 (by decide +kernel), rfl⟩))))⟩), (List.forall_mem_cons.mpr ⟨(fun _ => ⟨yJ0_charAt_5068e, cJ0_charAt_5068e, 2, (some .char), 3, _, M_J0_charAt_5068e hl, ⟨by decide, by decide⟩, ⟨by decide, by decide, by decide +kernel⟩, ⟨(gk_wm 541 (by decide +kernel)), (gk_wm 109 (by decide +kernel))⟩, Or.inr (Or.inr (Or.inr (Or.inr (Or.inl ⟨rfl, rfl, (gk_wm 539 (by decide +kernel)), (gk_wm 540 (by decide +kernel)), gk_wm 1749 (by decide +kernel), rfl⟩))))⟩), (fun _ h => absurd h List.not_mem_nil)⟩)⟩)
theorem sp_X11_isWord : ∀ q ∈ L_X11_isWord, gk_Sq RX11 gk_W1 4 q := (List.forall_mem_cons.mpr ⟨⟨fun h => absurd h (by decide), fun h => absurd h (by decide), fun h => absurd h (by decide), fun h => absurd h (by decide), fun h => absurd h (by decide), fun h => absurd h (by decide)⟩, (List.forall_mem_cons.mpr ⟨⟨fun h => absurd h (by decide), fun h => absurd h (by decide), fun h => absurd h (by decide), fun h => absurd h (by decide), fun h => absurd h (by decide), fun h => absurd h (by decide)⟩, (fun _ h => absurd h List.not_mem_nil)⟩)⟩)
theorem M_X11_isWord {l : Launch} (hl : l.stackTraces = false) : gk_Mt l yX11_isWord (.code yX11_isWord cX11_isWord 5 (some .boolean) :: gk_W1) 4 0 S_X11_isWord := gk_meth hl gk_cw_ok (by decide +kernel) rfl m_X11_isWord pX11_ok (gk_Sp_of sp_X11_isWord) pX11_st (fun ci m S h => absurd h (by intro h; cases h)) (xf_X11 4) (fun idx kd ci mm cost S2 h h5 => lk_X11_isWord hl _ (gk_lk_mem h) h5)

def S_X11_require : gk_S := fun as n fl x y K => ∃ (b_ : Int32) (k_ : Int32) (B : Nat → Int32) (t : Nat) (x0 : gk_X) (y0 : gk_Y) (Q : gk_P) (b : Bool) (k : Nat), as = [.ref 189, .int b_, .int k_] ∧ (n = 202 ∧ fl = gk_fT) ∧ (RP B t x0 y0 Q x y) ∧ (b_ = 0 ↔ b = false) ∧ (k_ = nI k) ∧ (k ≤ 3) ∧ (¬ k = 0) ∧ (∀ x2 : gk_X, RP B t x0 y0 (pQ b k Q) x2 y → (∀ k, x2 190 k = x 190 k) → K (.inl none) n fl x2 y)
theorem r_X11_require (w : gk_W c P cs (fun _ _ => none) rt uf sc K V) {idx : Nat} {b_ : Int32} {k_ : Int32} {B : Nat → Int32} {t : Nat} {x0 : gk_X} {y0 : gk_Y} {Q : gk_P} {b : Bool} {k : Nat} (hd : decode c pc = .ok (.invokevirtual idx, 3)) (hp : pc + 3 = pc2) (hc : cs idx = some (1, 10, 3, 0, S_X11_require)) (h8 : Nat.ble (r.map Value.category).sum 8 = true) (hp0 : RP B t x0 y0 Q x y) (hp1 : b_ = 0 ↔ b = false) (hp2 : k_ = nI k) (hp3 : k ≤ 3) (hp4 : ¬ k = 0) (kk0 : ∀ x2 : gk_X, RP B t x0 y0 (pQ b k Q) x2 y → (∀ k, x2 190 k = x 190 k) → V pc2 L r 202 gk_fT x2 y u) : V pc L (.int k_ :: .int b_ :: .ref 189 :: r) 202 gk_fT x y u :=
  g_callv w hd hp hc (as := [.ref 189, .int b_, .int k_]) rfl h8 rfl rfl rfl (Or.inr (Or.inl ⟨Or.inl rfl, _, _, rfl, (gk_kd_j rfl rfl), rfl⟩)) (Or.inl rfl) ⟨b_, k_, B, t, x0, y0, Q, b, k, rfl, ⟨rfl, rfl⟩, hp0, hp1, hp2, hp3, hp4, kk0⟩
def L_X11_require : List (Nat × gk_M0) := []
def cs_X11_require : Nat → Option gk_M0 := gk_lk L_X11_require
theorem m_X11_require : ∀ (as : List Value) (n : Nat) (fl : gk_F) (x : gk_X) (y : gk_Y) (K : gk_K), S_X11_require as n fl x y K → (gk_L0 as).length ≤ 3 ∧ ∀ V : gk_V, gk_W cX11_require pX11 cs_X11_require (fun _ _ => none) none 0 none K V → V 0 (gk_en as 3) [] n fl x y 0 := by
  intro as n fl x y K hS
  obtain ⟨b_, k_, B, t, x0, y0, Q, b, k, rfl, ⟨rfl, rfl⟩, hp0, hp1, hp2, hp3, hp4, q0⟩ := hS
  refine ⟨Nat.le_of_ble_eq_true rfl, fun V w => ?_⟩
  show V 0 [some (.ref 189), some (.int b_), some (.int k_)] [] 202 gk_fT x y 0
  subst hp2
  obtain ⟨r1, r2, r3, r4, r5, r6, r7⟩ := id hp0
  refine s_iload_n (pc2 := 1) w dX11_require_0 rfl rfl ?_
  refine s_if_ne (pc2 := 4) (tgt := 24) w dX11_require_1 rfl (by decide) (fun c1 => ?_) (fun c1 => ?_)
  · refine s_return w dX11_require_24 rfl ?_
    rw [show pQ b k Q = Q from if_neg (fun h => c1 (hp1.mpr h.2))] at q0
    exact q0 x hp0 (fun _ => rfl)
  · refine s_aload_n (pc2 := 5) w dX11_require_4 rfl rfl ?_
    refine m_getI (pc2 := 8) (ci := 10) (k := 17) w dX11_require_5 rfl rfl rfl rfl rfl ?_
    rw [r4]
    refine s_if_ne (pc2 := 11) (tgt := 24) w dX11_require_8 rfl (by decide) (fun c8 => ?_) (fun c8 => ?_)
    · refine s_return w dX11_require_24 rfl ?_
      rw [pQ_e (fun h => c8 ((e_0 r5).mpr h))] at q0
      exact q0 x hp0 (fun _ => rfl)
    · refine s_aload_n (pc2 := 12) w dX11_require_11 rfl rfl ?_
      refine s_iload_n (pc2 := 13) w dX11_require_12 rfl rfl ?_
      refine m_putI (pc2 := 16) (ci := 10) (k := 17) w dX11_require_13 rfl rfl rfl rfl rfl (by intro h; cases h) ?_
      refine s_aload_n (pc2 := 17) w dX11_require_16 rfl rfl ?_
      refine s_aload_n (pc2 := 18) w dX11_require_17 rfl rfl ?_
      refine m_getI (pc2 := 21) (ci := 10) (k := 13) w dX11_require_18 rfl rfl rfl rfl rfl ?_
      rw [gk_up_ne (by omega), r3.2.1]
      refine m_putI (pc2 := 24) (ci := 10) (k := 18) w dX11_require_21 rfl rfl rfl rfl rfl (by intro h; cases h) ?_
      refine s_return w dX11_require_24 rfl ?_
      have h0 : Q.2.1 = 0 := (e_0 r5).mp c8
      rw [show pQ b k Q = (Q.1, k, Q.2.2) from if_pos ⟨h0, hp1.mp c1⟩] at q0
      exact q0 _ ⟨fun i k h1 h2 => (gk_up_ne (by omega)).trans ((gk_up_ne (by omega)).trans (r1 i k h1 h2)), r2, r3.cg (fun k h1 h2 => (gk_up_ne (by omega)).trans (gk_up_ne (by omega))) rfl, (gk_up_ne (by omega)).trans (gk_up_in _ _ _ _), hp3, fun h => absurd h hp4, fun _ => gk_up_in _ _ _ _⟩ (fun k => (gk_up_ne (by omega)).trans (gk_up_ne (by omega)))
theorem lk_X11_require {l : Launch} (hl : l.stackTraces = false) : ∀ q ∈ L_X11_require, (q.2.1 < 5 → gk_Lk l RX11 gk_W1 0 q.1 q.2.1 q.2.2.1 q.2.2.2.1 q.2.2.2.2.1 q.2.2.2.2.2) := (fun _ h => absurd h List.not_mem_nil)
theorem sp_X11_require : ∀ q ∈ L_X11_require, gk_Sq RX11 gk_W1 0 q := (fun _ h => absurd h List.not_mem_nil)
theorem M_X11_require {l : Launch} (hl : l.stackTraces = false) : gk_Mt l yX11_require (.code yX11_require cX11_require 3 none :: gk_W1) 0 0 S_X11_require := gk_meth hl gk_cw_ok (by decide +kernel) rfl m_X11_require pX11_ok (gk_Sp_of sp_X11_require) pX11_st (fun ci m S h => absurd h (by intro h; cases h)) (xf_X11 0) (fun idx kd ci mm cost S2 h h5 => lk_X11_require hl _ (gk_lk_mem h) h5)

def S_X11_advance : gk_S := fun as n fl x y K => ∃ (B : Nat → Int32) (t : Nat) (x0 : gk_X) (y0 : gk_Y) (Q : gk_P), as = [.ref 189] ∧ (n = 202 ∧ fl = gk_fT) ∧ (RH B t x0) ∧ (RP B t x0 y0 Q x y) ∧ (∀ (x2 : gk_X) (y2 : gk_Y), RP B t x0 y0 (pAd B t Q) x2 y2 → (∀ k, x2 190 k = x 190 k) → K (.inl none) n fl x2 y2)
theorem r_X11_advance (w : gk_W c P cs (fun _ _ => none) rt uf sc K V) {idx : Nat} {B : Nat → Int32} {t : Nat} {x0 : gk_X} {y0 : gk_Y} {Q : gk_P} (hd : decode c pc = .ok (.invokevirtual idx, 3)) (hp : pc + 3 = pc2) (hc : cs idx = some (1, 10, 1, 0, S_X11_advance)) (h8 : Nat.ble (r.map Value.category).sum 8 = true) (hp0 : RH B t x0) (hp1 : RP B t x0 y0 Q x y) (kk0 : ∀ (x2 : gk_X) (y2 : gk_Y), RP B t x0 y0 (pAd B t Q) x2 y2 → (∀ k, x2 190 k = x 190 k) → V pc2 L r 202 gk_fT x2 y2 u) : V pc L (.ref 189 :: r) 202 gk_fT x y u :=
  g_callv w hd hp hc (as := [.ref 189]) rfl h8 rfl rfl rfl (Or.inr (Or.inl ⟨Or.inl rfl, _, _, rfl, (gk_kd_j rfl rfl), rfl⟩)) (Or.inl rfl) ⟨B, t, x0, y0, Q, rfl, ⟨rfl, rfl⟩, hp0, hp1, kk0⟩
def L_X11_advance : List (Nat × gk_M0) := [(320, (1, 10, 1, 0, S_X11_nextToken))]
def cs_X11_advance : Nat → Option gk_M0 := gk_lk L_X11_advance
theorem m_X11_advance : ∀ (as : List Value) (n : Nat) (fl : gk_F) (x : gk_X) (y : gk_Y) (K : gk_K), S_X11_advance as n fl x y K → (gk_L0 as).length ≤ 1 ∧ ∀ V : gk_V, gk_W cX11_advance pX11 cs_X11_advance (fun _ _ => none) none 0 none K V → V 0 (gk_en as 1) [] n fl x y 0 := by
  intro as n fl x y K hS
  obtain ⟨B, t, x0, y0, Q, rfl, ⟨rfl, rfl⟩, hp0, hp1, q0⟩ := hS
  refine ⟨Nat.le_of_ble_eq_true rfl, fun V w => ?_⟩
  show V 0 [some (.ref 189)] [] 202 gk_fT x y 0
  obtain ⟨r1, r2, r3, r4, r5, r6, r7⟩ := id hp1
  obtain ⟨t1, t2, t3, t4⟩ := hp0
  have hpt := tp_le B t Q.1
  have hte := te_b (c := B) hpt
  refine s_aload_n (pc2 := 1) w dX11_advance_0 rfl rfl ?_
  refine m_getI (pc2 := 4) (ci := 10) (k := 17) w dX11_advance_1 rfl rfl rfl rfl rfl ?_
  rw [r4]
  refine s_if_ne (pc2 := 7) (tgt := 11) w dX11_advance_4 rfl (by decide) (fun c4 => ?_) (fun c4 => ?_)
  · refine s_return w dX11_advance_11 rfl ?_
    rw [pA_e (fun h => c4 ((e_0 r5).mpr h))] at q0
    exact q0 x y hp1 (fun _ => rfl)
  · refine s_aload_n (pc2 := 8) w dX11_advance_7 rfl rfl ?_
    refine r_X11_nextToken (pc2 := 11) w dX11_advance_8 rfl rfl rfl ((r1 189 11 (by omega) (by omega)).trans t2) t1 (by rw [show x 199 = x0 199 from funext (fun k => r1 199 k (by omega) (by omega))]; exact t3) r3.1 (by omega) t4 (fun x2 y2 h1 h2 h3 => ?_)
    refine s_return w dX11_advance_11 rfl ?_
    have h0 : Q.2.1 = 0 := (e_0 r5).mp c4
    refine q0 x2 y2 ?_ (fun k => h2 190 k (by omega))
    have g1 : ∀ i k, i ≠ 190 → ¬ (i = 189 ∧ 12 ≤ k ∧ k ≤ 18) → x2 i k = x0 i k := fun i k a b => (h2 i k (by omega)).trans (r1 i k a b)
    have g2 : ∀ i k, ¬ (i = 189 ∧ k = 19) → y2 i k = y0 i k := fun i k a => (h3 i k a).trans (r2 i k a)
    have g3 : x2 189 17 = nI 0 := (h2 189 17 (by omega)).trans (r4.trans (by rw [h0]))
    obtain ⟨m1, m2⟩ := r6 h0
    have g4 : x2 189 18 = -1 ∧ MG Q.2.2 x2 := ⟨(h2 189 18 (by omega)).trans m1, fun k hk => (h2 190 k (by omega)).trans (m2 k hk)⟩
    by_cases hk : KK B t Q.1 = 0
    · have ht : tp B t Q.1 = t := (tk_0 hpt).mp hk
      rw [show pAd B t Q = Q from if_neg (fun h => h.2 hk)]
      rw [ht, te_0 (Nat.le_refl t), tz_t] at h1
      exact ⟨g1, g2, by rw [ht]; exact h1, by rw [h0]; exact g3, r5, fun _ => g4, fun h => absurd h0 h⟩
    · rw [pA_1 h0 hk]
      exact ⟨g1, g2, h1, g3, Nat.zero_le 3, fun _ => g4, fun h => absurd rfl h⟩
theorem lk_X11_advance {l : Launch} (hl : l.stackTraces = false) : ∀ q ∈ L_X11_advance, (q.2.1 < 5 → gk_Lk l RX11 gk_W1 3 q.1 q.2.1 q.2.2.1 q.2.2.2.1 q.2.2.2.2.1 q.2.2.2.2.2) := (List.forall_mem_cons.mpr ⟨(fun _ => ⟨yX11_nextToken, cX11_nextToken, 2, none, 2, _, M_X11_nextToken hl, ⟨by decide, by decide⟩, ⟨by decide, by decide, by decide +kernel⟩, ⟨(gk_wm 1726 (by decide +kernel)), (gk_wm 99 (by decide +kernel))⟩, Or.inr (Or.inr (Or.inr (Or.inl ⟨rfl, rfl, (gk_wm 1725 (by decide +kernel)), (gk_wm 77 (by decide +kernel)), gk_wm 1723 (by decide +kernel), by decide, rfl⟩)))⟩), (fun _ h => absurd h List.not_mem_nil)⟩)
theorem sp_X11_advance : ∀ q ∈ L_X11_advance, gk_Sq RX11 gk_W1 3 q := (List.forall_mem_cons.mpr ⟨⟨fun h => absurd h (by decide), fun h => absurd h (by decide), fun h => absurd h (by decide), fun h => absurd h (by decide), fun h => absurd h (by decide), fun h => absurd h (by decide)⟩, (fun _ h => absurd h List.not_mem_nil)⟩)
theorem M_X11_advance {l : Launch} (hl : l.stackTraces = false) : gk_Mt l yX11_advance (.code yX11_advance cX11_advance 1 none :: gk_W1) 3 0 S_X11_advance := gk_meth hl gk_cw_ok (by decide +kernel) rfl m_X11_advance pX11_ok (gk_Sp_of sp_X11_advance) pX11_st (fun ci m S h => absurd h (by intro h; cases h)) (xf_X11 3) (fun idx kd ci mm cost S2 h h5 => lk_X11_advance hl _ (gk_lk_mem h) h5)

def S_X11_parseNumber : gk_S := fun as n fl x y K => ∃ (lo_ : Int32) (hi_ : Int32) (B : Nat → Int32) (t : Nat) (x0 : gk_X) (y0 : gk_Y) (Q : gk_P) (lo : Int) (hi : Int), as = [.ref 189, .int lo_, .int hi_] ∧ (n = 202 ∧ fl = gk_fT) ∧ (RH B t x0) ∧ (RP B t x0 y0 Q x y) ∧ (lo_ = gI lo) ∧ (hi_ = gI hi) ∧ (-20000 ≤ lo ∧ lo ≤ 20000) ∧ (-20000 ≤ hi ∧ hi ≤ 20000) ∧ (∀ (v : Int32) (x2 : gk_X) (y2 : gk_Y), RP B t x0 y0 (pN B t lo hi Q) x2 y2 → ((pN B t lo hi Q).2.1 = 0 → v = vN B t Q) → K (.inl (some (.int v))) n fl x2 y2)
theorem r_X11_parseNumber (w : gk_W c P cs (fun _ _ => none) rt uf sc K V) {idx : Nat} {lo_ : Int32} {hi_ : Int32} {B : Nat → Int32} {t : Nat} {x0 : gk_X} {y0 : gk_Y} {Q : gk_P} {lo : Int} {hi : Int} (hd : decode c pc = .ok (.invokevirtual idx, 3)) (hp : pc + 3 = pc2) (hc : cs idx = some (1, 10, 3, 0, S_X11_parseNumber)) (h8 : Nat.ble (r.map Value.category).sum 8 = true) (hp0 : RH B t x0) (hp1 : RP B t x0 y0 Q x y) (hp2 : lo_ = gI lo) (hp3 : hi_ = gI hi) (hp4 : -20000 ≤ lo ∧ lo ≤ 20000) (hp5 : -20000 ≤ hi ∧ hi ≤ 20000) (kk0 : ∀ (v : Int32) (x2 : gk_X) (y2 : gk_Y), RP B t x0 y0 (pN B t lo hi Q) x2 y2 → ((pN B t lo hi Q).2.1 = 0 → v = vN B t Q) → V pc2 L ((.int v) :: r) 202 gk_fT x2 y2 u) : V pc L (.int hi_ :: .int lo_ :: .ref 189 :: r) 202 gk_fT x y u :=
  g_callv w hd hp hc (as := [.ref 189, .int lo_, .int hi_]) rfl h8 rfl rfl rfl (Or.inr (Or.inl ⟨Or.inl rfl, _, _, rfl, (gk_kd_j rfl rfl), rfl⟩)) (Or.inl rfl) ⟨lo_, hi_, B, t, x0, y0, Q, lo, hi, rfl, ⟨rfl, rfl⟩, hp0, hp1, hp2, hp3, hp4, hp5, kk0⟩
def L_X11_parseNumber : List (Nat × gk_M0) := [(52, (0, 10, 3, 0, S_X11_isBetween)), (323, (1, 10, 3, 0, S_X11_require)), (327, (1, 10, 1, 0, S_X11_advance))]
def cs_X11_parseNumber : Nat → Option gk_M0 := gk_lk L_X11_parseNumber
theorem m_X11_parseNumber : ∀ (as : List Value) (n : Nat) (fl : gk_F) (x : gk_X) (y : gk_Y) (K : gk_K), S_X11_parseNumber as n fl x y K → (gk_L0 as).length ≤ 4 ∧ ∀ V : gk_V, gk_W cX11_parseNumber pX11 cs_X11_parseNumber (fun _ _ => none) (some .int) 0 none K V → V 0 (gk_en as 4) [] n fl x y 0 := by
  intro as n fl x y K hS
  obtain ⟨lo_, hi_, B, t, x0, y0, Q, lo, hi, rfl, ⟨rfl, rfl⟩, hp0, hp1, hp2, hp3, hp4, hp5, q0⟩ := hS
  refine ⟨Nat.le_of_ble_eq_true rfl, fun V w => ?_⟩
  show V 0 [some (.ref 189), some (.int lo_), some (.int hi_), none] [] 202 gk_fT x y 0
  subst hp2 hp3
  have hT := hp1.2.2.1
  have hpt := tp_le B t Q.1
  obtain ⟨b1, b2⟩ := bt_R (c := B) hpt hp4 hp5
  have k4 := (kR_0 B t (tp B t Q.1)).2.1
  refine s_aload_n (pc2 := 1) w dX11_parseNumber_0 rfl rfl ?_
  refine s_aload_n (pc2 := 2) w dX11_parseNumber_1 rfl rfl ?_
  refine m_getI (pc2 := 5) (ci := 10) (k := 14) w dX11_parseNumber_2 rfl rfl rfl rfl rfl ?_
  rw [hT.2.2.1]
  refine s_iconst (pc2 := 6) (v := 3) w dX11_parseNumber_5 rfl rfl ?_
  refine s_ic_ne (pc2 := 9) (tgt := 13) w dX11_parseNumber_6 rfl (by decide) (fun c6 => ?_) (fun c6 => ?_)
  · have hb : ((0 : Int32) = 0 ↔ decide (KK B t Q.1 = 4) = false) := ⟨fun _ => decide_eq_false (fun h => c6 ((kRq 3 (by omega)).mpr (k4.mpr h))), fun _ => rfl⟩
    refine s_iconst (pc2 := 14) (v := 0) w dX11_parseNumber_13 rfl rfl ?_
    refine s_iconst (pc2 := 15) (v := 1) w dX11_parseNumber_14 rfl rfl ?_
    refine r_X11_require (pc2 := 18) (b := decide (KK B t Q.1 = 4)) (k := 1) w dX11_parseNumber_15 rfl rfl rfl hp1 hb rfl (by decide) (by decide) (fun x2 h1 o1 => ?_)
    have hv2 := h1.2.2.1.2.2.2.1
    rw [(pQ_1 _ _ Q).1] at hv2
    refine s_aload_n (pc2 := 19) w dX11_parseNumber_18 rfl rfl ?_
    refine s_aload_n (pc2 := 20) w dX11_parseNumber_19 rfl rfl ?_
    refine m_getI (pc2 := 23) (ci := 10) (k := 16) w dX11_parseNumber_20 rfl rfl rfl rfl rfl ?_
    rw [hv2]
    refine s_iload_n (pc2 := 24) w dX11_parseNumber_23 rfl rfl ?_
    refine s_iload_n (pc2 := 25) w dX11_parseNumber_24 rfl rfl ?_
    refine r_X11_isBetween (pc2 := 28) w dX11_parseNumber_25 rfl rfl rfl ?_
    refine s_iconst (pc2 := 29) (v := 2) w dX11_parseNumber_28 rfl rfl ?_
    refine r_X11_require (pc2 := 32) (b := inR lo hi (VV B t Q.1)) (k := 2) w dX11_parseNumber_29 rfl rfl rfl h1 b1 rfl (by decide) (by decide) (fun x3 h3 o3 => ?_)
    have hv3 := h3.2.2.1.2.2.2.1
    rw [(pQ_1 _ _ _).1, (pQ_1 _ _ Q).1] at hv3
    refine s_aload_n (pc2 := 33) w dX11_parseNumber_32 rfl rfl ?_
    refine m_getI (pc2 := 36) (ci := 10) (k := 16) w dX11_parseNumber_33 rfl rfl rfl rfl rfl ?_
    rw [hv3]
    refine s_istore_n (pc2 := 37) (k2 := 3) w dX11_parseNumber_36 rfl rfl rfl ?_
    dsimp only [gk_s1, gk_s2, gk_cl]
    refine s_aload_n (pc2 := 38) w dX11_parseNumber_37 rfl rfl ?_
    refine r_X11_advance (pc2 := 41) w dX11_parseNumber_38 rfl rfl rfl hp0 h3 (fun x4 y4 h4 o4 => ?_)
    refine s_iload_n (pc2 := 42) w dX11_parseNumber_41 rfl rfl ?_
    refine s_ireturn w dX11_parseNumber_42 rfl rfl ?_
    exact q0 _ x4 y4 h4 (fun h => b2 (decide_eq_true (pT_0 h).2.2.1))
  · have e4 : decide (KK B t Q.1 = 4) = true := decide_eq_true (k4.mp ((kRq 3 (by omega)).mp c6))
    have hb : ((1 : Int32) = 0 ↔ decide (KK B t Q.1 = 4) = false) := ⟨fun h => absurd h (by decide), fun h => by rw [e4] at h; cases h⟩
    refine s_iconst (pc2 := 10) (v := 1) w dX11_parseNumber_9 rfl rfl ?_
    refine s_goto (tgt := 14) w dX11_parseNumber_10 (by decide) ?_
    refine s_iconst (pc2 := 15) (v := 1) w dX11_parseNumber_14 rfl rfl ?_
    refine r_X11_require (pc2 := 18) (b := decide (KK B t Q.1 = 4)) (k := 1) w dX11_parseNumber_15 rfl rfl rfl hp1 hb rfl (by decide) (by decide) (fun x2 h1 o1 => ?_)
    have hv2 := h1.2.2.1.2.2.2.1
    rw [(pQ_1 _ _ Q).1] at hv2
    refine s_aload_n (pc2 := 19) w dX11_parseNumber_18 rfl rfl ?_
    refine s_aload_n (pc2 := 20) w dX11_parseNumber_19 rfl rfl ?_
    refine m_getI (pc2 := 23) (ci := 10) (k := 16) w dX11_parseNumber_20 rfl rfl rfl rfl rfl ?_
    rw [hv2]
    refine s_iload_n (pc2 := 24) w dX11_parseNumber_23 rfl rfl ?_
    refine s_iload_n (pc2 := 25) w dX11_parseNumber_24 rfl rfl ?_
    refine r_X11_isBetween (pc2 := 28) w dX11_parseNumber_25 rfl rfl rfl ?_
    refine s_iconst (pc2 := 29) (v := 2) w dX11_parseNumber_28 rfl rfl ?_
    refine r_X11_require (pc2 := 32) (b := inR lo hi (VV B t Q.1)) (k := 2) w dX11_parseNumber_29 rfl rfl rfl h1 b1 rfl (by decide) (by decide) (fun x3 h3 o3 => ?_)
    have hv3 := h3.2.2.1.2.2.2.1
    rw [(pQ_1 _ _ _).1, (pQ_1 _ _ Q).1] at hv3
    refine s_aload_n (pc2 := 33) w dX11_parseNumber_32 rfl rfl ?_
    refine m_getI (pc2 := 36) (ci := 10) (k := 16) w dX11_parseNumber_33 rfl rfl rfl rfl rfl ?_
    rw [hv3]
    refine s_istore_n (pc2 := 37) (k2 := 3) w dX11_parseNumber_36 rfl rfl rfl ?_
    dsimp only [gk_s1, gk_s2, gk_cl]
    refine s_aload_n (pc2 := 38) w dX11_parseNumber_37 rfl rfl ?_
    refine r_X11_advance (pc2 := 41) w dX11_parseNumber_38 rfl rfl rfl hp0 h3 (fun x4 y4 h4 o4 => ?_)
    refine s_iload_n (pc2 := 42) w dX11_parseNumber_41 rfl rfl ?_
    refine s_ireturn w dX11_parseNumber_42 rfl rfl ?_
    exact q0 _ x4 y4 h4 (fun h => b2 (decide_eq_true (pT_0 h).2.2.1))
theorem lk_X11_parseNumber {l : Launch} (hl : l.stackTraces = false) : ∀ q ∈ L_X11_parseNumber, (q.2.1 < 5 → gk_Lk l RX11 gk_W1 4 q.1 q.2.1 q.2.2.1 q.2.2.2.1 q.2.2.2.2.1 q.2.2.2.2.2) := (List.forall_mem_cons.mpr ⟨(fun _ => ⟨yX11_isBetween, cX11_isBetween, 3, (some .boolean), 0, _, M_X11_isBetween hl, ⟨by decide, by decide⟩, ⟨by decide, by decide, by decide +kernel⟩, ⟨(gk_wm 1334 (by decide +kernel)), (gk_wm 99 (by decide +kernel))⟩, Or.inl ⟨rfl, rfl, (gk_wm 1333 (by decide +kernel)), gk_wm 1332 (by decide +kernel)⟩⟩), (List.forall_mem_cons.mpr ⟨(fun _ => ⟨yX11_require, cX11_require, 3, none, 0, _, M_X11_require hl, ⟨by decide, by decide⟩, ⟨by decide, by decide, by decide +kernel⟩, ⟨(gk_wm 1757 (by decide +kernel)), (gk_wm 99 (by decide +kernel))⟩, Or.inr (Or.inr (Or.inr (Or.inl ⟨rfl, rfl, (gk_wm 1756 (by decide +kernel)), (gk_wm 82 (by decide +kernel)), gk_wm 1754 (by decide +kernel), by decide, rfl⟩)))⟩), (List.forall_mem_cons.mpr ⟨(fun _ => ⟨yX11_advance, cX11_advance, 1, none, 3, _, M_X11_advance hl, ⟨by decide, by decide⟩, ⟨by decide, by decide, by decide +kernel⟩, ⟨(gk_wm 1761 (by decide +kernel)), (gk_wm 99 (by decide +kernel))⟩, Or.inr (Or.inr (Or.inr (Or.inl ⟨rfl, rfl, (gk_wm 1760 (by decide +kernel)), (gk_wm 83 (by decide +kernel)), gk_wm 1758 (by decide +kernel), by decide, rfl⟩)))⟩), (fun _ h => absurd h List.not_mem_nil)⟩)⟩)⟩)
theorem sp_X11_parseNumber : ∀ q ∈ L_X11_parseNumber, gk_Sq RX11 gk_W1 4 q := (List.forall_mem_cons.mpr ⟨⟨fun h => absurd h (by decide), fun h => absurd h (by decide), fun h => absurd h (by decide), fun h => absurd h (by decide), fun h => absurd h (by decide), fun h => absurd h (by decide)⟩, (List.forall_mem_cons.mpr ⟨⟨fun h => absurd h (by decide), fun h => absurd h (by decide), fun h => absurd h (by decide), fun h => absurd h (by decide), fun h => absurd h (by decide), fun h => absurd h (by decide)⟩, (List.forall_mem_cons.mpr ⟨⟨fun h => absurd h (by decide), fun h => absurd h (by decide), fun h => absurd h (by decide), fun h => absurd h (by decide), fun h => absurd h (by decide), fun h => absurd h (by decide)⟩, (fun _ h => absurd h List.not_mem_nil)⟩)⟩)⟩)
theorem M_X11_parseNumber {l : Launch} (hl : l.stackTraces = false) : gk_Mt l yX11_parseNumber (.code yX11_parseNumber cX11_parseNumber 4 (some .int) :: gk_W1) 4 0 S_X11_parseNumber := gk_meth hl gk_cw_ok (by decide +kernel) rfl m_X11_parseNumber pX11_ok (gk_Sp_of sp_X11_parseNumber) pX11_st (fun ci m S h => absurd h (by intro h; cases h)) (xf_X11 4) (fun idx kd ci mm cost S2 h h5 => lk_X11_parseNumber hl _ (gk_lk_mem h) h5)

def S_X11_parseInteger : gk_S := fun as n fl x y K => ∃ (lo_ : Int32) (hi_ : Int32) (B : Nat → Int32) (t : Nat) (x0 : gk_X) (y0 : gk_Y) (Q : gk_P) (lo : Int) (hi : Int), as = [.ref 189, .int lo_, .int hi_] ∧ (n = 202 ∧ fl = gk_fT) ∧ (RH B t x0) ∧ (RP B t x0 y0 Q x y) ∧ (lo_ = gI lo) ∧ (hi_ = gI hi) ∧ (-20000 ≤ lo ∧ lo ≤ 20000) ∧ (-20000 ≤ hi ∧ hi ≤ 20000) ∧ (∀ (v : Int32) (x2 : gk_X) (y2 : gk_Y), RP B t x0 y0 (pI B t lo hi Q) x2 y2 → ((pI B t lo hi Q).2.1 = 0 → v = vI B t Q) → K (.inl (some (.int v))) n fl x2 y2)
theorem r_X11_parseInteger (w : gk_W c P cs (fun _ _ => none) rt uf sc K V) {idx : Nat} {lo_ : Int32} {hi_ : Int32} {B : Nat → Int32} {t : Nat} {x0 : gk_X} {y0 : gk_Y} {Q : gk_P} {lo : Int} {hi : Int} (hd : decode c pc = .ok (.invokevirtual idx, 3)) (hp : pc + 3 = pc2) (hc : cs idx = some (1, 10, 3, 0, S_X11_parseInteger)) (h8 : Nat.ble (r.map Value.category).sum 8 = true) (hp0 : RH B t x0) (hp1 : RP B t x0 y0 Q x y) (hp2 : lo_ = gI lo) (hp3 : hi_ = gI hi) (hp4 : -20000 ≤ lo ∧ lo ≤ 20000) (hp5 : -20000 ≤ hi ∧ hi ≤ 20000) (kk0 : ∀ (v : Int32) (x2 : gk_X) (y2 : gk_Y), RP B t x0 y0 (pI B t lo hi Q) x2 y2 → ((pI B t lo hi Q).2.1 = 0 → v = vI B t Q) → V pc2 L ((.int v) :: r) 202 gk_fT x2 y2 u) : V pc L (.int hi_ :: .int lo_ :: .ref 189 :: r) 202 gk_fT x y u :=
  g_callv w hd hp hc (as := [.ref 189, .int lo_, .int hi_]) rfl h8 rfl rfl rfl (Or.inr (Or.inl ⟨Or.inl rfl, _, _, rfl, (gk_kd_j rfl rfl), rfl⟩)) (Or.inl rfl) ⟨lo_, hi_, B, t, x0, y0, Q, lo, hi, rfl, ⟨rfl, rfl⟩, hp0, hp1, hp2, hp3, hp4, hp5, kk0⟩
def L_X11_parseInteger : List (Nat × gk_M0) := [(52, (0, 10, 3, 0, S_X11_isBetween)), (323, (1, 10, 3, 0, S_X11_require)), (327, (1, 10, 1, 0, S_X11_advance)), (330, (1, 10, 3, 0, S_X11_parseNumber))]
def cs_X11_parseInteger : Nat → Option gk_M0 := gk_lk L_X11_parseInteger
theorem m_X11_parseInteger : ∀ (as : List Value) (n : Nat) (fl : gk_F) (x : gk_X) (y : gk_Y) (K : gk_K), S_X11_parseInteger as n fl x y K → (gk_L0 as).length ≤ 4 ∧ ∀ V : gk_V, gk_W cX11_parseInteger pX11 cs_X11_parseInteger (fun _ _ => none) (some .int) 0 none K V → V 0 (gk_en as 4) [] n fl x y 0 := by
  intro as n fl x y K hS
  obtain ⟨lo_, hi_, B, t, x0, y0, Q, lo, hi, rfl, ⟨rfl, rfl⟩, hp0, hp1, hp2, hp3, hp4, hp5, q0⟩ := hS
  refine ⟨Nat.le_of_ble_eq_true rfl, fun V w => ?_⟩
  show V 0 [some (.ref 189), some (.int lo_), some (.int hi_), none] [] 202 gk_fT x y 0
  subst hp2 hp3
  have hT := hp1.2.2.1
  have k5 := (kR_0 B t (tp B t Q.1)).2.2.2.1
  refine s_aload_n (pc2 := 1) w dX11_parseInteger_0 rfl rfl ?_
  refine m_getI (pc2 := 4) (ci := 10) (k := 14) w dX11_parseInteger_1 rfl rfl rfl rfl rfl ?_
  rw [hT.2.2.1]
  refine s_iconst (pc2 := 5) (v := 5) w dX11_parseInteger_4 rfl rfl ?_
  refine s_ic_eq (pc2 := 8) (tgt := 15) w dX11_parseInteger_5 rfl (by decide) (fun c5 => ?_) (fun c5 => ?_)
  · have k3 : KK B t Q.1 = 3 := k5.mp ((kRq 5 (by omega)).mp c5)
    refine s_aload_n (pc2 := 16) w dX11_parseInteger_15 rfl rfl ?_
    refine r_X11_advance (pc2 := 19) w dX11_parseInteger_16 rfl rfl rfl hp0 hp1 (fun x1 y1 h0 o0 => ?_)
    have hT2 := h0.2.2.1
    have hpt := tp_le B t (pAd B t Q).1
    obtain ⟨b1, b2⟩ := bt_M (c := B) hpt hp4 hp5
    have k4 := (kR_0 B t (tp B t (pAd B t Q).1)).2.1
    refine s_aload_n (pc2 := 20) w dX11_parseInteger_19 rfl rfl ?_
    refine s_aload_n (pc2 := 21) w dX11_parseInteger_20 rfl rfl ?_
    refine m_getI (pc2 := 24) (ci := 10) (k := 14) w dX11_parseInteger_21 rfl rfl rfl rfl rfl ?_
    rw [hT2.2.2.1]
    refine s_iconst (pc2 := 25) (v := 3) w dX11_parseInteger_24 rfl rfl ?_
    refine s_ic_ne (pc2 := 28) (tgt := 32) w dX11_parseInteger_25 rfl (by decide) (fun c25 => ?_) (fun c25 => ?_)
    · have hb : ((0 : Int32) = 0 ↔ decide (KK B t (pAd B t Q).1 = 4) = false) := ⟨fun _ => decide_eq_false (fun h => c25 ((kRq 3 (by omega)).mpr (k4.mpr h))), fun _ => rfl⟩
      refine s_iconst (pc2 := 33) (v := 0) w dX11_parseInteger_32 rfl rfl ?_
      refine s_iconst (pc2 := 34) (v := 1) w dX11_parseInteger_33 rfl rfl ?_
      refine r_X11_require (pc2 := 37) (b := decide (KK B t (pAd B t Q).1 = 4)) (k := 1) w dX11_parseInteger_34 rfl rfl rfl h0 hb rfl (by decide) (by decide) (fun x2 h1 o1 => ?_)
      have hv2 := h1.2.2.1.2.2.2.1
      rw [(pQ_1 _ _ (pAd B t Q)).1] at hv2
      refine s_aload_n (pc2 := 38) w dX11_parseInteger_37 rfl rfl ?_
      refine s_aload_n (pc2 := 39) w dX11_parseInteger_38 rfl rfl ?_
      refine m_getI (pc2 := 42) (ci := 10) (k := 16) w dX11_parseInteger_39 rfl rfl rfl rfl rfl ?_
      rw [hv2]
      refine s_ineg (pc2 := 43) w dX11_parseInteger_42 rfl ?_
      refine s_iload_n (pc2 := 44) w dX11_parseInteger_43 rfl rfl ?_
      refine s_iload_n (pc2 := 45) w dX11_parseInteger_44 rfl rfl ?_
      refine r_X11_isBetween (pc2 := 48) w dX11_parseInteger_45 rfl rfl rfl ?_
      refine s_iconst (pc2 := 49) (v := 2) w dX11_parseInteger_48 rfl rfl ?_
      refine r_X11_require (pc2 := 52) (b := inR lo hi (-(VV B t (pAd B t Q).1 : Int))) (k := 2) w dX11_parseInteger_49 rfl rfl rfl h1 b1 rfl (by decide) (by decide) (fun x3 h3 o3 => ?_)
      have hv3 := h3.2.2.1.2.2.2.1
      rw [(pQ_1 _ _ _).1, (pQ_1 _ _ (pAd B t Q)).1] at hv3
      refine s_aload_n (pc2 := 53) w dX11_parseInteger_52 rfl rfl ?_
      refine m_getI (pc2 := 56) (ci := 10) (k := 16) w dX11_parseInteger_53 rfl rfl rfl rfl rfl ?_
      rw [hv3]
      refine s_ineg (pc2 := 57) w dX11_parseInteger_56 rfl ?_
      refine s_istore_n (pc2 := 58) (k2 := 3) w dX11_parseInteger_57 rfl rfl rfl ?_
      dsimp only [gk_s1, gk_s2, gk_cl]
      refine s_aload_n (pc2 := 59) w dX11_parseInteger_58 rfl rfl ?_
      refine r_X11_advance (pc2 := 62) w dX11_parseInteger_59 rfl rfl rfl hp0 h3 (fun x4 y4 h4 o4 => ?_)
      refine s_iload_n (pc2 := 63) w dX11_parseInteger_62 rfl rfl ?_
      refine s_ireturn w dX11_parseInteger_63 rfl rfl ?_
      rw [show pI B t lo hi Q = pT B t lo hi (-(VV B t (pAd B t Q).1 : Int)) (pAd B t Q) from if_pos k3, show vI B t Q = gI (-(VV B t (pAd B t Q).1 : Int)) from if_pos k3] at q0
      exact q0 _ x4 y4 h4 (fun h => b2 (decide_eq_true (pT_0 h).2.2.1))
    · have e4 : decide (KK B t (pAd B t Q).1 = 4) = true := decide_eq_true (k4.mp ((kRq 3 (by omega)).mp c25))
      have hb : ((1 : Int32) = 0 ↔ decide (KK B t (pAd B t Q).1 = 4) = false) := ⟨fun h => absurd h (by decide), fun h => by rw [e4] at h; cases h⟩
      refine s_iconst (pc2 := 29) (v := 1) w dX11_parseInteger_28 rfl rfl ?_
      refine s_goto (tgt := 33) w dX11_parseInteger_29 (by decide) ?_
      refine s_iconst (pc2 := 34) (v := 1) w dX11_parseInteger_33 rfl rfl ?_
      refine r_X11_require (pc2 := 37) (b := decide (KK B t (pAd B t Q).1 = 4)) (k := 1) w dX11_parseInteger_34 rfl rfl rfl h0 hb rfl (by decide) (by decide) (fun x2 h1 o1 => ?_)
      have hv2 := h1.2.2.1.2.2.2.1
      rw [(pQ_1 _ _ (pAd B t Q)).1] at hv2
      refine s_aload_n (pc2 := 38) w dX11_parseInteger_37 rfl rfl ?_
      refine s_aload_n (pc2 := 39) w dX11_parseInteger_38 rfl rfl ?_
      refine m_getI (pc2 := 42) (ci := 10) (k := 16) w dX11_parseInteger_39 rfl rfl rfl rfl rfl ?_
      rw [hv2]
      refine s_ineg (pc2 := 43) w dX11_parseInteger_42 rfl ?_
      refine s_iload_n (pc2 := 44) w dX11_parseInteger_43 rfl rfl ?_
      refine s_iload_n (pc2 := 45) w dX11_parseInteger_44 rfl rfl ?_
      refine r_X11_isBetween (pc2 := 48) w dX11_parseInteger_45 rfl rfl rfl ?_
      refine s_iconst (pc2 := 49) (v := 2) w dX11_parseInteger_48 rfl rfl ?_
      refine r_X11_require (pc2 := 52) (b := inR lo hi (-(VV B t (pAd B t Q).1 : Int))) (k := 2) w dX11_parseInteger_49 rfl rfl rfl h1 b1 rfl (by decide) (by decide) (fun x3 h3 o3 => ?_)
      have hv3 := h3.2.2.1.2.2.2.1
      rw [(pQ_1 _ _ _).1, (pQ_1 _ _ (pAd B t Q)).1] at hv3
      refine s_aload_n (pc2 := 53) w dX11_parseInteger_52 rfl rfl ?_
      refine m_getI (pc2 := 56) (ci := 10) (k := 16) w dX11_parseInteger_53 rfl rfl rfl rfl rfl ?_
      rw [hv3]
      refine s_ineg (pc2 := 57) w dX11_parseInteger_56 rfl ?_
      refine s_istore_n (pc2 := 58) (k2 := 3) w dX11_parseInteger_57 rfl rfl rfl ?_
      dsimp only [gk_s1, gk_s2, gk_cl]
      refine s_aload_n (pc2 := 59) w dX11_parseInteger_58 rfl rfl ?_
      refine r_X11_advance (pc2 := 62) w dX11_parseInteger_59 rfl rfl rfl hp0 h3 (fun x4 y4 h4 o4 => ?_)
      refine s_iload_n (pc2 := 63) w dX11_parseInteger_62 rfl rfl ?_
      refine s_ireturn w dX11_parseInteger_63 rfl rfl ?_
      rw [show pI B t lo hi Q = pT B t lo hi (-(VV B t (pAd B t Q).1 : Int)) (pAd B t Q) from if_pos k3, show vI B t Q = gI (-(VV B t (pAd B t Q).1 : Int)) from if_pos k3] at q0
      exact q0 _ x4 y4 h4 (fun h => b2 (decide_eq_true (pT_0 h).2.2.1))
  · have k3 : ¬ KK B t Q.1 = 3 := fun h => c5 ((kRq 5 (by omega)).mpr (k5.mpr h))
    refine s_aload_n (pc2 := 9) w dX11_parseInteger_8 rfl rfl ?_
    refine s_iload_n (pc2 := 10) w dX11_parseInteger_9 rfl rfl ?_
    refine s_iload_n (pc2 := 11) w dX11_parseInteger_10 rfl rfl ?_
    refine r_X11_parseNumber (pc2 := 14) w dX11_parseInteger_11 rfl rfl rfl hp0 hp1 rfl rfl hp4 hp5 (fun v x2 y2 h1 h2 => ?_)
    refine s_ireturn w dX11_parseInteger_14 rfl rfl ?_
    rw [show pI B t lo hi Q = pN B t lo hi Q from if_neg k3, show vI B t Q = vN B t Q from if_neg k3] at q0
    exact q0 v x2 y2 h1 h2
theorem lk_X11_parseInteger {l : Launch} (hl : l.stackTraces = false) : ∀ q ∈ L_X11_parseInteger, (q.2.1 < 5 → gk_Lk l RX11 gk_W1 5 q.1 q.2.1 q.2.2.1 q.2.2.2.1 q.2.2.2.2.1 q.2.2.2.2.2) := (List.forall_mem_cons.mpr ⟨(fun _ => ⟨yX11_isBetween, cX11_isBetween, 3, (some .boolean), 0, _, M_X11_isBetween hl, ⟨by decide, by decide⟩, ⟨by decide, by decide, by decide +kernel⟩, ⟨(gk_wm 1334 (by decide +kernel)), (gk_wm 99 (by decide +kernel))⟩, Or.inl ⟨rfl, rfl, (gk_wm 1333 (by decide +kernel)), gk_wm 1332 (by decide +kernel)⟩⟩), (List.forall_mem_cons.mpr ⟨(fun _ => ⟨yX11_require, cX11_require, 3, none, 0, _, M_X11_require hl, ⟨by decide, by decide⟩, ⟨by decide, by decide, by decide +kernel⟩, ⟨(gk_wm 1757 (by decide +kernel)), (gk_wm 99 (by decide +kernel))⟩, Or.inr (Or.inr (Or.inr (Or.inl ⟨rfl, rfl, (gk_wm 1756 (by decide +kernel)), (gk_wm 82 (by decide +kernel)), gk_wm 1754 (by decide +kernel), by decide, rfl⟩)))⟩), (List.forall_mem_cons.mpr ⟨(fun _ => ⟨yX11_advance, cX11_advance, 1, none, 3, _, M_X11_advance hl, ⟨by decide, by decide⟩, ⟨by decide, by decide, by decide +kernel⟩, ⟨(gk_wm 1761 (by decide +kernel)), (gk_wm 99 (by decide +kernel))⟩, Or.inr (Or.inr (Or.inr (Or.inl ⟨rfl, rfl, (gk_wm 1760 (by decide +kernel)), (gk_wm 83 (by decide +kernel)), gk_wm 1758 (by decide +kernel), by decide, rfl⟩)))⟩), (List.forall_mem_cons.mpr ⟨(fun _ => ⟨yX11_parseNumber, cX11_parseNumber, 4, (some .int), 4, _, M_X11_parseNumber hl, ⟨by decide, by decide⟩, ⟨by decide, by decide, by decide +kernel⟩, ⟨(gk_wm 1769 (by decide +kernel)), (gk_wm 99 (by decide +kernel))⟩, Or.inr (Or.inr (Or.inr (Or.inl ⟨rfl, rfl, (gk_wm 1768 (by decide +kernel)), (gk_wm 85 (by decide +kernel)), gk_wm 1766 (by decide +kernel), by decide, rfl⟩)))⟩), (fun _ h => absurd h List.not_mem_nil)⟩)⟩)⟩)⟩)
theorem sp_X11_parseInteger : ∀ q ∈ L_X11_parseInteger, gk_Sq RX11 gk_W1 5 q := (List.forall_mem_cons.mpr ⟨⟨fun h => absurd h (by decide), fun h => absurd h (by decide), fun h => absurd h (by decide), fun h => absurd h (by decide), fun h => absurd h (by decide), fun h => absurd h (by decide)⟩, (List.forall_mem_cons.mpr ⟨⟨fun h => absurd h (by decide), fun h => absurd h (by decide), fun h => absurd h (by decide), fun h => absurd h (by decide), fun h => absurd h (by decide), fun h => absurd h (by decide)⟩, (List.forall_mem_cons.mpr ⟨⟨fun h => absurd h (by decide), fun h => absurd h (by decide), fun h => absurd h (by decide), fun h => absurd h (by decide), fun h => absurd h (by decide), fun h => absurd h (by decide)⟩, (List.forall_mem_cons.mpr ⟨⟨fun h => absurd h (by decide), fun h => absurd h (by decide), fun h => absurd h (by decide), fun h => absurd h (by decide), fun h => absurd h (by decide), fun h => absurd h (by decide)⟩, (fun _ h => absurd h List.not_mem_nil)⟩)⟩)⟩)⟩)
theorem M_X11_parseInteger {l : Launch} (hl : l.stackTraces = false) : gk_Mt l yX11_parseInteger (.code yX11_parseInteger cX11_parseInteger 4 (some .int) :: gk_W1) 5 0 S_X11_parseInteger := gk_meth hl gk_cw_ok (by decide +kernel) rfl m_X11_parseInteger pX11_ok (gk_Sp_of sp_X11_parseInteger) pX11_st (fun ci m S h => absurd h (by intro h; cases h)) (xf_X11 5) (fun idx kd ci mm cost S2 h h5 => lk_X11_parseInteger hl _ (gk_lk_mem h) h5)

end GKV

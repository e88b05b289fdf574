/-! THE TEXT, 7: the class, a word and its kind -/
section GKV
variable {c : ByteArray} {P : gk_C} {cs : Nat → Option gk_M0} {rt : Option FieldType} {uf : Nat} {sc : Option Nat} {K : gk_K} {V : gk_V}
variable {L : List (Option Value)} {r : List Value} {n : Nat} {fl : gk_F} {x : gk_X} {y : gk_Y} {u pc pc2 : Nat}
theorem nI_sb {a b : Nat} (h : a ≤ b) : nI b - nI a = nI (b - a) := by
  rw [gI_nI, gI_nI, gI_sub, gI_nI]
  congr 1
  omega
theorem nI_eq2 {a b : Nat} (ha : a < 100000) (hb : b < 100000) : nI a = nI b ↔ a = b := by
  rw [gI_nI, gI_nI, gI_eq ⟨by omega, by omega⟩ ⟨by omega, by omega⟩]
  omega
theorem nI_ge2 {a b : Nat} (ha : a < 100000) (hb : b < 100000) : nI b ≤ nI a ↔ ¬ a < b := by
  rw [gI_nI, gI_nI, gI_le ⟨by omega, by omega⟩ ⟨by omega, by omega⟩]
  omega
theorem sN_lt {q : Nat} (h : q < 19) : sN q < 100 := (sB_ok q h).1
theorem sL_B (q k : Nat) : (sqL q).getD k 0 = sB q k := rfl
theorem sL_N (q : Nat) : (sqL q).length = sN q := rfl
def S_X8_holds : gk_S := fun as n fl x y K => ∃ (a_ : Int32) (b_ : Int32) (q : Nat) (a : Nat) (b : Nat) (t : Nat), as = [.ref 95, .ref (6000+q), .int a_, .int b_] ∧ (n = 202 ∧ fl = gk_fT) ∧ (q < 19) ∧ (a_ = nI a) ∧ (b_ = nI b) ∧ (a ≤ b) ∧ (b ≤ t) ∧ (x 95 1 = nI t) ∧ (t ≤ 500) ∧ (K (.inl (some (.int (if wdl (tbA (x 96) t) a (b - a) = sqL q then 1 else 0)))) n fl x y)
theorem r_X8_holds (w : gk_W c P cs (fun _ _ => none) rt uf sc K V) {idx : Nat} {a_ : Int32} {b_ : Int32} {q : Nat} {a : Nat} {b : Nat} {t : Nat} (hd : decode c pc = .ok (.invokevirtual idx, 3)) (hp : pc + 3 = pc2) (hc : cs idx = some (1, 7, 4, 0, S_X8_holds)) (h8 : Nat.ble (r.map Value.category).sum 8 = true) (hp0 : q < 19) (hp1 : a_ = nI a) (hp2 : b_ = nI b) (hp3 : a ≤ b) (hp4 : b ≤ t) (hp5 : x 95 1 = nI t) (hp6 : t ≤ 500) (kk0 : V pc2 L ((.int (if wdl (tbA (x 96) t) a (b - a) = sqL q then 1 else 0)) :: r) 202 gk_fT x y u) : V pc L (.int b_ :: .int a_ :: .ref (6000+q) :: .ref 95 :: r) 202 gk_fT x y u :=
  g_callv w hd hp hc (as := [.ref 95, .ref (6000+q), .int a_, .int b_]) rfl h8 rfl rfl rfl (Or.inr (Or.inl ⟨Or.inl rfl, _, _, rfl, (gk_kd_j rfl rfl), rfl⟩)) (Or.inl rfl) ⟨a_, b_, q, a, b, t, rfl, ⟨rfl, rfl⟩, hp0, hp1, hp2, hp3, hp4, hp5, hp6, kk0⟩
def L_X8_holds : List (Nat × gk_M0) := [(19, (3, 0, 1, 0, S_J0_length_8abf5)), (24, (1, 7, 2, 0, S_X8_byteAt)), (28, (3, 0, 2, 0, S_J0_charAt_5068e))]
def cs_X8_holds : Nat → Option gk_M0 := gk_lk L_X8_holds
theorem m_X8_holds : ∀ (as : List Value) (n : Nat) (fl : gk_F) (x : gk_X) (y : gk_Y) (K : gk_K), S_X8_holds as n fl x y K → (gk_L0 as).length ≤ 5 ∧ ∀ V : gk_V, gk_W cX8_holds pX8 cs_X8_holds (fun _ _ => none) (some .boolean) 0 none K V → V 0 (gk_en as 5) [] n fl x y 0 := by
  intro as n fl x y K hS
  obtain ⟨a_, b_, q, a, b, t, rfl, ⟨rfl, rfl⟩, hp0, hp1, hp2, hp3, hp4, hp5, hp6, q0⟩ := hS
  refine ⟨Nat.le_of_ble_eq_true rfl, fun V w => ?_⟩
  show V 0 [some (.ref 95), some (.ref (6000+q)), some (.int a_), some (.int b_), none] [] 202 gk_fT x y 0
  subst hp1 hp2
  have hN := sN_lt hp0
  refine s_iload_n (pc2 := 1) w dX8_holds_0 rfl rfl ?_
  refine s_iload_n (pc2 := 2) w dX8_holds_1 rfl rfl ?_
  refine s_isub (pc2 := 3) w dX8_holds_2 rfl ?_
  refine s_aload_n (pc2 := 4) w dX8_holds_3 rfl rfl ?_
  refine r_J0_length_8abf5 (pc2 := 7) w dX8_holds_4 rfl rfl rfl hp0 hp0 ?_
  rw [nI_sb hp3]
  refine s_ic_eq (pc2 := 10) (tgt := 12) w dX8_holds_7 rfl (by decide) (fun c7 => ?_) (fun c7 => ?_)
  · refine s_iconst (pc2 := 13) (v := 0) w dX8_holds_12 rfl rfl ?_
    refine s_istore (pc2 := 15) w dX8_holds_13 rfl rfl ?_
    dsimp only [gk_s1, gk_s2, gk_cl]
    rw [nI_eq2 (by omega) (by omega)] at c7
    have key : ∀ (k n : Nat), n + k = sN q → (∀ j, j < n → (tbA (x 96) t) (a + j) = sB q j) → V 15 [some (.ref 95), some (.ref (6000 + q)), some (.int (nI a)), some (.int (nI b)), some (.int (nI n))] [] 202 gk_fT x y 0 := by
      intro k
      induction k with
      | zero =>
        intro n ht hj
        refine s_iload (pc2 := 17) w dX8_holds_15 rfl rfl ?_
        refine s_aload_n (pc2 := 18) w dX8_holds_17 rfl rfl ?_
        refine r_J0_length_8abf5 (pc2 := 21) w dX8_holds_18 rfl rfl rfl hp0 hp0 ?_
        refine s_ic_ge (pc2 := 24) (tgt := 49) w dX8_holds_21 rfl (by decide) (fun _ => ?_) (fun h0 => absurd (by rw [nI_ge2 (by omega) (by omega)]; omega) h0)
        refine s_iconst (pc2 := 50) (v := 1) w dX8_holds_49 rfl rfl ?_
        refine s_ireturn w dX8_holds_50 rfl (by first | rfl | decide) ?_
        rw [if_pos (show wdl (tbA (x 96) t) a (b - a) = sqL q from wdl_eq.mpr ⟨c7, fun k hk => hj k (by omega)⟩)] at q0
        exact q0
      | succ k ih =>
        intro n ht hj
        refine s_iload (pc2 := 17) w dX8_holds_15 rfl rfl ?_
        refine s_aload_n (pc2 := 18) w dX8_holds_17 rfl rfl ?_
        refine r_J0_length_8abf5 (pc2 := 21) w dX8_holds_18 rfl rfl rfl hp0 hp0 ?_
        refine s_ic_ge (pc2 := 24) (tgt := 49) w dX8_holds_21 rfl (by decide) (fun h0 => absurd h0 (by rw [nI_ge2 (by omega) (by omega)]; omega)) (fun _ => ?_)
        refine s_aload_n (pc2 := 25) w dX8_holds_24 rfl rfl ?_
        refine s_iload_n (pc2 := 26) w dX8_holds_25 rfl rfl ?_
        refine s_iload (pc2 := 28) w dX8_holds_26 rfl rfl ?_
        refine s_iadd (pc2 := 29) w dX8_holds_28 rfl ?_
        refine r_X8_byteAt (pc2 := 32) w dX8_holds_29 rfl rfl rfl (nI_ad a n) hp5 hp6 (by omega) ?_
        refine s_aload_n (pc2 := 33) w dX8_holds_32 rfl rfl ?_
        refine s_iload (pc2 := 35) w dX8_holds_33 rfl rfl ?_
        refine r_J0_charAt_5068e (pc2 := 38) (k := n) w dX8_holds_35 rfl rfl rfl hp0 hp0 rfl (by omega) ?_
        refine s_ic_eq (pc2 := 41) (tgt := 43) w dX8_holds_38 rfl (by decide) (fun c38 => ?_) (fun c38 => ?_)
        · refine s_iinc (pc2 := 46) w dX8_holds_43 rfl rfl rfl rfl ?_
          dsimp only [gk_s1, gk_s2, gk_cl]
          rw [nI_s]
          refine s_goto (tgt := 15) w dX8_holds_46 (by decide) ?_
          exact ih (n + 1) (by omega) (fun j h1 => by
            rcases Nat.lt_or_ge j n with h2 | h2
            · exact hj j h2
            · rw [show j = n from by omega]; exact c38)
        · refine s_iconst (pc2 := 42) (v := 0) w dX8_holds_41 rfl rfl ?_
          refine s_ireturn w dX8_holds_42 rfl (by first | rfl | decide) ?_
          rw [if_neg (show ¬ wdl (tbA (x 96) t) a (b - a) = sqL q from fun h => c38 ((wdl_eq.mp h).2 n (by omega)))] at q0
          exact q0
    exact key (sN q) 0 (by omega) (fun j h => absurd h (Nat.not_lt_zero j))
  · refine s_iconst (pc2 := 11) (v := 0) w dX8_holds_10 rfl rfl ?_
    refine s_ireturn w dX8_holds_11 rfl (by first | rfl | decide) ?_
    rw [nI_eq2 (by omega) (by omega)] at c7
    rw [if_neg (show ¬ wdl (tbA (x 96) t) a (b - a) = sqL q from fun h => c7 (wdl_eq.mp h).1)] at q0
    exact q0
theorem lk_X8_holds {l : Launch} (hl : l.stackTraces = false) : ∀ q ∈ L_X8_holds, (q.2.1 < 5 → gk_Lk l RX8 gk_W1 4 q.1 q.2.1 q.2.2.1 q.2.2.2.1 q.2.2.2.2.1 q.2.2.2.2.2) := (List.forall_mem_cons.mpr ⟨(fun _ => ⟨yJ0_length_8abf5, cJ0_length_8abf5, 1, (some .int), 1, _, M_J0_length_8abf5 hl, ⟨by decide, by decide⟩, ⟨by decide, by decide, by decide +kernel⟩, ⟨(gk_wm 530 (by decide +kernel)), (gk_wm 109 (by decide +kernel))⟩, Or.inr (Or.inr (Or.inr (Or.inr (Or.inl ⟨rfl, rfl, (gk_wm 528 (by decide +kernel)), (gk_wm 529 (by decide +kernel)), gk_wm 527 (by decide +kernel), rfl⟩))))⟩), (List.forall_mem_cons.mpr ⟨(fun _ => ⟨yX8_byteAt, cX8_byteAt, 2, (some .int), 0, _, M_X8_byteAt hl, ⟨by decide, by decide⟩, ⟨by decide, by decide, by decide +kernel⟩, ⟨(gk_wm 511 (by decide +kernel)), (gk_wm 96 (by decide +kernel))⟩, Or.inr (Or.inr (Or.inr (Or.inl ⟨rfl, rfl, (gk_wm 509 (by decide +kernel)), (gk_wm 510 (by decide +kernel)), gk_wm 537 (by decide +kernel), by decide, rfl⟩)))⟩), (List.forall_mem_cons.mpr ⟨(fun _ => ⟨yJ0_charAt_5068e, cJ0_charAt_5068e, 2, (some .char), 3, _, M_J0_charAt_5068e hl, ⟨by decide, by decide⟩, ⟨by decide, by decide, by decide +kernel⟩, ⟨(gk_wm 541 (by decide +kernel)), (gk_wm 109 (by decide +kernel))⟩, Or.inr (Or.inr (Or.inr (Or.inr (Or.inl ⟨rfl, rfl, (gk_wm 539 (by decide +kernel)), (gk_wm 540 (by decide +kernel)), gk_wm 538 (by decide +kernel), rfl⟩))))⟩), (fun _ h => absurd h List.not_mem_nil)⟩)⟩)⟩)
theorem sp_X8_holds : ∀ q ∈ L_X8_holds, gk_Sq RX8 gk_W1 4 q := (List.forall_mem_cons.mpr ⟨⟨fun h => absurd h (by decide), fun h => absurd h (by decide), fun h => absurd h (by decide), fun h => absurd h (by decide), fun h => absurd h (by decide), fun h => absurd h (by decide)⟩, (List.forall_mem_cons.mpr ⟨⟨fun h => absurd h (by decide), fun h => absurd h (by decide), fun h => absurd h (by decide), fun h => absurd h (by decide), fun h => absurd h (by decide), fun h => absurd h (by decide)⟩, (List.forall_mem_cons.mpr ⟨⟨fun h => absurd h (by decide), fun h => absurd h (by decide), fun h => absurd h (by decide), fun h => absurd h (by decide), fun h => absurd h (by decide), fun h => absurd h (by decide)⟩, (fun _ h => absurd h List.not_mem_nil)⟩)⟩)⟩)
theorem M_X8_holds {l : Launch} (hl : l.stackTraces = false) : gk_Mt l yX8_holds (.code yX8_holds cX8_holds 5 (some .boolean) :: gk_W1) 4 0 S_X8_holds := gk_meth hl gk_cw_ok (by decide +kernel) rfl m_X8_holds pX8_ok (gk_Sp_of sp_X8_holds) pX8_st (fun ci m S h => absurd h (by intro h; cases h)) (xf_X8 4) (fun idx kd ci mm cost S2 h h5 => lk_X8_holds hl _ (gk_lk_mem h) h5)

def S_X9_kindOfWord : gk_S := fun as n fl x y K => ∃ (a_ : Int32) (b_ : Int32) (a : Nat) (b : Nat) (t : Nat), as = [.ref 95, .int a_, .int b_] ∧ (n = 202 ∧ fl = gk_fT) ∧ (a_ = nI a) ∧ (b_ = nI b) ∧ (a ≤ b) ∧ (b ≤ t) ∧ (x 95 1 = nI t) ∧ (t ≤ 500) ∧ (K (.inl (some (.int (nI (kW (wdl (tbA (x 96) t) a (b - a))))))) n fl x y)
theorem r_X9_kindOfWord (w : gk_W c P cs (fun _ _ => none) rt uf sc K V) {idx : Nat} {a_ : Int32} {b_ : Int32} {a : Nat} {b : Nat} {t : Nat} (hd : decode c pc = .ok (.invokestatic idx, 3)) (hp : pc + 3 = pc2) (hc : cs idx = some (0, 8, 3, 0, S_X9_kindOfWord)) (h8 : Nat.ble (r.map Value.category).sum 8 = true) (hp0 : a_ = nI a) (hp1 : b_ = nI b) (hp2 : a ≤ b) (hp3 : b ≤ t) (hp4 : x 95 1 = nI t) (hp5 : t ≤ 500) (kk0 : V pc2 L ((.int (nI (kW (wdl (tbA (x 96) t) a (b - a))))) :: r) 202 gk_fT x y u) : V pc L (.int b_ :: .int a_ :: .ref 95 :: r) 202 gk_fT x y u :=
  g_calls w hd hp hc (as := [.ref 95, .int a_, .int b_]) rfl h8 rfl rfl rfl (Or.inl rfl) (Or.inl rfl) ⟨a_, b_, a, b, t, rfl, ⟨rfl, rfl⟩, hp0, hp1, hp2, hp3, hp4, hp5, kk0⟩
def L_X9_kindOfWord : List (Nat × gk_M0) := [(73, (1, 7, 4, 0, S_X8_holds))]
def cs_X9_kindOfWord : Nat → Option gk_M0 := gk_lk L_X9_kindOfWord
theorem m_X9_kindOfWord : ∀ (as : List Value) (n : Nat) (fl : gk_F) (x : gk_X) (y : gk_Y) (K : gk_K), S_X9_kindOfWord as n fl x y K → (gk_L0 as).length ≤ 3 ∧ ∀ V : gk_V, gk_W cX9_kindOfWord pX9 cs_X9_kindOfWord (fun _ _ => none) (some .int) 0 none K V → V 0 (gk_en as 3) [] n fl x y 0 := by
  intro as n fl x y K hS
  obtain ⟨a_, b_, a, b, t, rfl, ⟨rfl, rfl⟩, hp0, hp1, hp2, hp3, hp4, hp5, q0⟩ := hS
  refine ⟨Nat.le_of_ble_eq_true rfl, fun V w => ?_⟩
  show V 0 [some (.ref 95), some (.int a_), some (.int b_)] [] 202 gk_fT x y 0
  subst hp0 hp1
  refine s_aload_n (pc2 := 1) w dX9_kindOfWord_0 rfl rfl ?_
  refine s_ldcs (pc2 := 3) (q := 0) w dX9_kindOfWord_1 rfl rfl ?_
  refine s_iload_n (pc2 := 4) w dX9_kindOfWord_3 rfl rfl ?_
  refine s_iload_n (pc2 := 5) w dX9_kindOfWord_4 rfl rfl ?_
  refine r_X8_holds (pc2 := 8) w dX9_kindOfWord_5 rfl rfl rfl (by decide) rfl rfl hp2 hp3 hp4 hp5 ?_
  refine s_if_eq (pc2 := 11) (tgt := 13) w dX9_kindOfWord_8 rfl (by decide) (fun c8 => ?_) (fun c8 => ?_)
  · refine s_aload_n (pc2 := 14) w dX9_kindOfWord_13 rfl rfl ?_
    refine s_ldcs (pc2 := 16) (q := 1) w dX9_kindOfWord_14 rfl rfl ?_
    refine s_iload_n (pc2 := 17) w dX9_kindOfWord_16 rfl rfl ?_
    refine s_iload_n (pc2 := 18) w dX9_kindOfWord_17 rfl rfl ?_
    refine r_X8_holds (pc2 := 21) w dX9_kindOfWord_18 rfl rfl rfl (by decide) rfl rfl hp2 hp3 hp4 hp5 ?_
    refine s_if_eq (pc2 := 24) (tgt := 27) w dX9_kindOfWord_21 rfl (by decide) (fun c21 => ?_) (fun c21 => ?_)
    · refine s_aload_n (pc2 := 28) w dX9_kindOfWord_27 rfl rfl ?_
      refine s_ldcs (pc2 := 30) (q := 2) w dX9_kindOfWord_28 rfl rfl ?_
      refine s_iload_n (pc2 := 31) w dX9_kindOfWord_30 rfl rfl ?_
      refine s_iload_n (pc2 := 32) w dX9_kindOfWord_31 rfl rfl ?_
      refine r_X8_holds (pc2 := 35) w dX9_kindOfWord_32 rfl rfl rfl (by decide) rfl rfl hp2 hp3 hp4 hp5 ?_
      refine s_if_eq (pc2 := 38) (tgt := 41) w dX9_kindOfWord_35 rfl (by decide) (fun c35 => ?_) (fun c35 => ?_)
      · refine s_aload_n (pc2 := 42) w dX9_kindOfWord_41 rfl rfl ?_
        refine s_ldcs (pc2 := 44) (q := 3) w dX9_kindOfWord_42 rfl rfl ?_
        refine s_iload_n (pc2 := 45) w dX9_kindOfWord_44 rfl rfl ?_
        refine s_iload_n (pc2 := 46) w dX9_kindOfWord_45 rfl rfl ?_
        refine r_X8_holds (pc2 := 49) w dX9_kindOfWord_46 rfl rfl rfl (by decide) rfl rfl hp2 hp3 hp4 hp5 ?_
        refine s_if_eq (pc2 := 52) (tgt := 55) w dX9_kindOfWord_49 rfl (by decide) (fun c49 => ?_) (fun c49 => ?_)
        · refine s_aload_n (pc2 := 56) w dX9_kindOfWord_55 rfl rfl ?_
          refine s_ldcs (pc2 := 58) (q := 4) w dX9_kindOfWord_56 rfl rfl ?_
          refine s_iload_n (pc2 := 59) w dX9_kindOfWord_58 rfl rfl ?_
          refine s_iload_n (pc2 := 60) w dX9_kindOfWord_59 rfl rfl ?_
          refine r_X8_holds (pc2 := 63) w dX9_kindOfWord_60 rfl rfl rfl (by decide) rfl rfl hp2 hp3 hp4 hp5 ?_
          refine s_if_eq (pc2 := 66) (tgt := 69) w dX9_kindOfWord_63 rfl (by decide) (fun c63 => ?_) (fun c63 => ?_)
          · refine s_aload_n (pc2 := 70) w dX9_kindOfWord_69 rfl rfl ?_
            refine s_ldcs (pc2 := 72) (q := 5) w dX9_kindOfWord_70 rfl rfl ?_
            refine s_iload_n (pc2 := 73) w dX9_kindOfWord_72 rfl rfl ?_
            refine s_iload_n (pc2 := 74) w dX9_kindOfWord_73 rfl rfl ?_
            refine r_X8_holds (pc2 := 77) w dX9_kindOfWord_74 rfl rfl rfl (by decide) rfl rfl hp2 hp3 hp4 hp5 ?_
            refine s_if_eq (pc2 := 80) (tgt := 83) w dX9_kindOfWord_77 rfl (by decide) (fun c77 => ?_) (fun c77 => ?_)
            · refine s_aload_n (pc2 := 84) w dX9_kindOfWord_83 rfl rfl ?_
              refine s_ldcs (pc2 := 86) (q := 6) w dX9_kindOfWord_84 rfl rfl ?_
              refine s_iload_n (pc2 := 87) w dX9_kindOfWord_86 rfl rfl ?_
              refine s_iload_n (pc2 := 88) w dX9_kindOfWord_87 rfl rfl ?_
              refine r_X8_holds (pc2 := 91) w dX9_kindOfWord_88 rfl rfl rfl (by decide) rfl rfl hp2 hp3 hp4 hp5 ?_
              refine s_if_eq (pc2 := 94) (tgt := 99) w dX9_kindOfWord_91 rfl (by decide) (fun c91 => ?_) (fun c91 => ?_)
              · refine s_iconst (pc2 := 100) (v := gI 1) w dX9_kindOfWord_99 rfl rfl ?_
                refine s_ireturn w dX9_kindOfWord_100 rfl rfl ?_
                unfold kW at q0
                rw [if_neg (show ¬ wdl (tbA (x 96) t) a (b - a) = sqL 0 from fun h => by rw [if_pos h] at c8; exact absurd c8 (by decide)), if_neg (show ¬ wdl (tbA (x 96) t) a (b - a) = sqL 1 from fun h => by rw [if_pos h] at c21; exact absurd c21 (by decide)), if_neg (show ¬ wdl (tbA (x 96) t) a (b - a) = sqL 2 from fun h => by rw [if_pos h] at c35; exact absurd c35 (by decide)), if_neg (show ¬ wdl (tbA (x 96) t) a (b - a) = sqL 3 from fun h => by rw [if_pos h] at c49; exact absurd c49 (by decide)), if_neg (show ¬ wdl (tbA (x 96) t) a (b - a) = sqL 4 from fun h => by rw [if_pos h] at c63; exact absurd c63 (by decide)), if_neg (show ¬ wdl (tbA (x 96) t) a (b - a) = sqL 5 from fun h => by rw [if_pos h] at c77; exact absurd c77 (by decide)), if_neg (show ¬ wdl (tbA (x 96) t) a (b - a) = sqL 6 from fun h => by rw [if_pos h] at c91; exact absurd c91 (by decide))] at q0
                exact q0
              · refine s_bipush (pc2 := 96) (v := gI 11) w dX9_kindOfWord_94 rfl rfl ?_
                refine s_goto (tgt := 100) w dX9_kindOfWord_96 (by decide) ?_
                refine s_ireturn w dX9_kindOfWord_100 rfl rfl ?_
                unfold kW at q0
                rw [if_neg (show ¬ wdl (tbA (x 96) t) a (b - a) = sqL 0 from fun h => by rw [if_pos h] at c8; exact absurd c8 (by decide)), if_neg (show ¬ wdl (tbA (x 96) t) a (b - a) = sqL 1 from fun h => by rw [if_pos h] at c21; exact absurd c21 (by decide)), if_neg (show ¬ wdl (tbA (x 96) t) a (b - a) = sqL 2 from fun h => by rw [if_pos h] at c35; exact absurd c35 (by decide)), if_neg (show ¬ wdl (tbA (x 96) t) a (b - a) = sqL 3 from fun h => by rw [if_pos h] at c49; exact absurd c49 (by decide)), if_neg (show ¬ wdl (tbA (x 96) t) a (b - a) = sqL 4 from fun h => by rw [if_pos h] at c63; exact absurd c63 (by decide)), if_neg (show ¬ wdl (tbA (x 96) t) a (b - a) = sqL 5 from fun h => by rw [if_pos h] at c77; exact absurd c77 (by decide)), if_pos (show wdl (tbA (x 96) t) a (b - a) = sqL 6 from Decidable.byContradiction (fun h => c91 (by rw [if_neg h])))] at q0
                exact q0
            · refine s_bipush (pc2 := 82) (v := gI 10) w dX9_kindOfWord_80 rfl rfl ?_
              refine s_ireturn w dX9_kindOfWord_82 rfl rfl ?_
              unfold kW at q0
              rw [if_neg (show ¬ wdl (tbA (x 96) t) a (b - a) = sqL 0 from fun h => by rw [if_pos h] at c8; exact absurd c8 (by decide)), if_neg (show ¬ wdl (tbA (x 96) t) a (b - a) = sqL 1 from fun h => by rw [if_pos h] at c21; exact absurd c21 (by decide)), if_neg (show ¬ wdl (tbA (x 96) t) a (b - a) = sqL 2 from fun h => by rw [if_pos h] at c35; exact absurd c35 (by decide)), if_neg (show ¬ wdl (tbA (x 96) t) a (b - a) = sqL 3 from fun h => by rw [if_pos h] at c49; exact absurd c49 (by decide)), if_neg (show ¬ wdl (tbA (x 96) t) a (b - a) = sqL 4 from fun h => by rw [if_pos h] at c63; exact absurd c63 (by decide)), if_pos (show wdl (tbA (x 96) t) a (b - a) = sqL 5 from Decidable.byContradiction (fun h => c77 (by rw [if_neg h])))] at q0
              exact q0
          · refine s_bipush (pc2 := 68) (v := gI 9) w dX9_kindOfWord_66 rfl rfl ?_
            refine s_ireturn w dX9_kindOfWord_68 rfl rfl ?_
            unfold kW at q0
            rw [if_neg (show ¬ wdl (tbA (x 96) t) a (b - a) = sqL 0 from fun h => by rw [if_pos h] at c8; exact absurd c8 (by decide)), if_neg (show ¬ wdl (tbA (x 96) t) a (b - a) = sqL 1 from fun h => by rw [if_pos h] at c21; exact absurd c21 (by decide)), if_neg (show ¬ wdl (tbA (x 96) t) a (b - a) = sqL 2 from fun h => by rw [if_pos h] at c35; exact absurd c35 (by decide)), if_neg (show ¬ wdl (tbA (x 96) t) a (b - a) = sqL 3 from fun h => by rw [if_pos h] at c49; exact absurd c49 (by decide)), if_pos (show wdl (tbA (x 96) t) a (b - a) = sqL 4 from Decidable.byContradiction (fun h => c63 (by rw [if_neg h])))] at q0
            exact q0
        · refine s_bipush (pc2 := 54) (v := gI 8) w dX9_kindOfWord_52 rfl rfl ?_
          refine s_ireturn w dX9_kindOfWord_54 rfl rfl ?_
          unfold kW at q0
          rw [if_neg (show ¬ wdl (tbA (x 96) t) a (b - a) = sqL 0 from fun h => by rw [if_pos h] at c8; exact absurd c8 (by decide)), if_neg (show ¬ wdl (tbA (x 96) t) a (b - a) = sqL 1 from fun h => by rw [if_pos h] at c21; exact absurd c21 (by decide)), if_neg (show ¬ wdl (tbA (x 96) t) a (b - a) = sqL 2 from fun h => by rw [if_pos h] at c35; exact absurd c35 (by decide)), if_pos (show wdl (tbA (x 96) t) a (b - a) = sqL 3 from Decidable.byContradiction (fun h => c49 (by rw [if_neg h])))] at q0
          exact q0
      · refine s_bipush (pc2 := 40) (v := gI 7) w dX9_kindOfWord_38 rfl rfl ?_
        refine s_ireturn w dX9_kindOfWord_40 rfl rfl ?_
        unfold kW at q0
        rw [if_neg (show ¬ wdl (tbA (x 96) t) a (b - a) = sqL 0 from fun h => by rw [if_pos h] at c8; exact absurd c8 (by decide)), if_neg (show ¬ wdl (tbA (x 96) t) a (b - a) = sqL 1 from fun h => by rw [if_pos h] at c21; exact absurd c21 (by decide)), if_pos (show wdl (tbA (x 96) t) a (b - a) = sqL 2 from Decidable.byContradiction (fun h => c35 (by rw [if_neg h])))] at q0
        exact q0
    · refine s_bipush (pc2 := 26) (v := gI 6) w dX9_kindOfWord_24 rfl rfl ?_
      refine s_ireturn w dX9_kindOfWord_26 rfl rfl ?_
      unfold kW at q0
      rw [if_neg (show ¬ wdl (tbA (x 96) t) a (b - a) = sqL 0 from fun h => by rw [if_pos h] at c8; exact absurd c8 (by decide)), if_pos (show wdl (tbA (x 96) t) a (b - a) = sqL 1 from Decidable.byContradiction (fun h => c21 (by rw [if_neg h])))] at q0
      exact q0
  · refine s_iconst (pc2 := 12) (v := gI 5) w dX9_kindOfWord_11 rfl rfl ?_
    refine s_ireturn w dX9_kindOfWord_12 rfl rfl ?_
    unfold kW at q0
    rw [if_pos (show wdl (tbA (x 96) t) a (b - a) = sqL 0 from Decidable.byContradiction (fun h => c8 (by rw [if_neg h])))] at q0
    exact q0
theorem lk_X9_kindOfWord {l : Launch} (hl : l.stackTraces = false) : ∀ q ∈ L_X9_kindOfWord, (q.2.1 < 5 → gk_Lk l RX9 gk_W1 5 q.1 q.2.1 q.2.2.1 q.2.2.2.1 q.2.2.2.2.1 q.2.2.2.2.2) := (List.forall_mem_cons.mpr ⟨(fun _ => ⟨yX8_holds, cX8_holds, 5, (some .boolean), 4, _, M_X8_holds hl, ⟨by decide, by decide⟩, ⟨by decide, by decide, by decide +kernel⟩, ⟨(gk_wm 526 (by decide +kernel)), (gk_wm 96 (by decide +kernel))⟩, Or.inr (Or.inr (Or.inr (Or.inl ⟨rfl, rfl, (gk_wm 524 (by decide +kernel)), (gk_wm 525 (by decide +kernel)), gk_wm 523 (by decide +kernel), by decide, rfl⟩)))⟩), (fun _ h => absurd h List.not_mem_nil)⟩)
theorem sp_X9_kindOfWord : ∀ q ∈ L_X9_kindOfWord, gk_Sq RX9 gk_W1 5 q := (List.forall_mem_cons.mpr ⟨⟨fun h => absurd h (by decide), fun h => absurd h (by decide), fun h => absurd h (by decide), fun h => absurd h (by decide), fun h => absurd h (by decide), fun h => absurd h (by decide)⟩, (fun _ h => absurd h List.not_mem_nil)⟩)
theorem M_X9_kindOfWord {l : Launch} (hl : l.stackTraces = false) : gk_Mt l yX9_kindOfWord (.code yX9_kindOfWord cX9_kindOfWord 3 (some .int) :: gk_W1) 5 0 S_X9_kindOfWord := gk_meth hl gk_cw_ok (by decide +kernel) rfl m_X9_kindOfWord pX9_ok (gk_Sp_of sp_X9_kindOfWord) pX9_st (fun ci m S h => absurd h (by intro h; cases h)) (xf_X9 5) (fun idx kd ci mm cost S2 h h5 => lk_X9_kindOfWord hl _ (gk_lk_mem h) h5)

end GKV

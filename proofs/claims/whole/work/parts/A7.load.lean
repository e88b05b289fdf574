/-! THE TEXT, 19: the class, load -/
section GKV
variable {c : ByteArray} {P : gk_C} {cs : Nat → Option gk_M0} {rt : Option FieldType} {uf : Nat} {sc : Option Nat} {K : gk_K} {V : gk_V}
variable {L : List (Option Value)} {r : List Value} {n : Nat} {fl : gk_F} {x : gk_X} {y : gk_Y} {u pc pc2 : Nat}
/-- what a reading leaves: the error, its place; the scene if there was none -/
def RD (c : Nat → Int32) (t : Nat) (x : gk_X) (y : gk_Y) : Prop := x 97 0 = nI (pLd c t 501 pZ).2.2.1 ∧ x 97 1 = (if (pLd c t 501 pZ).2.2.1 = 0 then -1 else nI (tp c t (pLd c t 501 pZ).2.1)) ∧ ((pLd c t 501 pZ).2.2.1 = 0 → RS 44 (pLd c t 501 pZ).2.2.2 x y ∧ gOK (pLd c t 501 pZ).2.2.2)
def rdV (c : Nat → Int32) (t : Nat) : Int32 := if (pLd c t 501 pZ).2.2.1 = 0 then nI (pLd c t 501 pZ).1 else -1
theorem pLd_le {c : Nat → Int32} {t : Nat} : ∀ k (Q : gk_P), (pLd c t k Q).1 ≤ k
  | 0, _ => Nat.le_refl 0
  | k + 1, Q => by
    unfold pLd
    split
    · have := pLd_le (c := c) (t := t) k (pSt c t Q)
      show (pLd c t k (pSt c t Q)).1 + 1 ≤ k + 1
      omega
    · exact Nat.zero_le _
def S_X5_read : gk_S := fun as n fl x y K => ∃ (t : Nat) (B : Nat → Int32), as = [.ref 97, .ref 95, .ref 44] ∧ (n = 202 ∧ fl = gk_fT) ∧ (x 95 1 = nI t) ∧ (t ≤ 500) ∧ (tbA (x 96) t = B) ∧ (∀ (x2 : gk_X) (y2 : gk_Y), RD B t x2 y2 → (∀ i k, ¬ (44 ≤ i ∧ i < 87) → ¬ (97 ≤ i ∧ i ≤ 102) → x2 i k = x i k) → (∀ i k, ¬ (44 ≤ i ∧ i < 87) → y2 i k = y i k) → K (.inl (some (.int (rdV B t)))) n fl x2 y2)
theorem r_X5_read (w : gk_W c P cs (fun _ _ => none) rt uf sc K V) {idx : Nat} {t : Nat} {B : Nat → Int32} (hd : decode c pc = .ok (.invokevirtual idx, 3)) (hp : pc + 3 = pc2) (hc : cs idx = some (1, 5, 3, 0, S_X5_read)) (h8 : Nat.ble (r.map Value.category).sum 8 = true) (hp0 : x 95 1 = nI t) (hp1 : t ≤ 500) (hp2 : tbA (x 96) t = B) (kk0 : ∀ (x2 : gk_X) (y2 : gk_Y), RD B t x2 y2 → (∀ i k, ¬ (44 ≤ i ∧ i < 87) → ¬ (97 ≤ i ∧ i ≤ 102) → x2 i k = x i k) → (∀ i k, ¬ (44 ≤ i ∧ i < 87) → y2 i k = y i k) → V pc2 L ((.int (rdV B t)) :: r) 202 gk_fT x2 y2 u) : V pc L (.ref 44 :: .ref 95 :: .ref 97 :: r) 202 gk_fT x y u :=
  g_callv w hd hp hc (as := [.ref 97, .ref 95, .ref 44]) rfl h8 rfl rfl rfl (Or.inr (Or.inl ⟨Or.inl rfl, _, _, rfl, (gk_kd_j rfl rfl), rfl⟩)) (Or.inl rfl) ⟨t, B, rfl, ⟨rfl, rfl⟩, hp0, hp1, hp2, kk0⟩
def L_X5_read : List (Nat × gk_M0) := [(32, (1, 8, 2, 0, S_X9_split)), (36, (1, 4, 1, 0, S_X4_clear)), (41, (1, 8, 2, 0, S_X9_kindAt)), (45, (1, 5, 2, 0, S_X5_readStatement)), (49, (1, 5, 1, 0, S_X5_readSemicolon)), (53, (1, 8, 2, 0, S_X9_startAt))]
def cs_X5_read : Nat → Option gk_M0 := gk_lk L_X5_read
theorem m_X5_read : ∀ (as : List Value) (n : Nat) (fl : gk_F) (x : gk_X) (y : gk_Y) (K : gk_K), S_X5_read as n fl x y K → (gk_L0 as).length ≤ 4 ∧ ∀ V : gk_V, gk_W cX5_read pX5 cs_X5_read (fun _ _ => none) (some .int) 0 none K V → V 0 (gk_en as 4) [] n fl x y 0 := by
  intro as n fl x y K hS
  obtain ⟨t, B, rfl, ⟨rfl, rfl⟩, hp0, hp1, hp2, q0⟩ := hS
  refine ⟨Nat.le_of_ble_eq_true rfl, fun V w => ?_⟩
  show V 0 [some (.ref 97), some (.ref 95), some (.ref 44), none] [] 202 gk_fT x y 0
  refine s_aload_n (pc2 := 1) w dX5_read_0 rfl rfl ?_
  refine s_iconst (pc2 := 2) (v := 0) w dX5_read_1 rfl rfl ?_
  refine m_putI (pc2 := 5) (ci := 5) (k := 0) w dX5_read_2 rfl rfl rfl rfl rfl (by intro h; cases h) ?_
  refine s_aload_n (pc2 := 6) w dX5_read_5 rfl rfl ?_
  refine s_iconst (pc2 := 7) (v := (-1)) w dX5_read_6 rfl rfl ?_
  refine m_putI (pc2 := 10) (ci := 5) (k := 1) w dX5_read_7 rfl rfl rfl rfl rfl (by intro h; cases h) ?_
  refine s_aload_n (pc2 := 11) w dX5_read_10 rfl rfl ?_
  refine s_iconst (pc2 := 12) (v := 0) w dX5_read_11 rfl rfl ?_
  refine m_putI (pc2 := 15) (ci := 5) (k := 3) w dX5_read_12 rfl rfl rfl rfl rfl (by intro h; cases h) ?_
  refine s_aload_n (pc2 := 16) w dX5_read_15 rfl rfl ?_
  refine m_getR (pc2 := 19) (ci := 5) (k := 2) (j2 := 98) w dX5_read_16 rfl rfl rfl rfl rfl rfl ?_
  refine s_aload_n (pc2 := 20) w dX5_read_19 rfl rfl ?_
  refine r_X9_split (pc2 := 23) (B := B) w dX5_read_20 rfl rfl rfl ((gk_up_ne (by omega)).trans ((gk_up_ne (by omega)).trans ((gk_up_ne (by omega)).trans hp0))) hp1 (by rw [show (gk_up (gk_up (gk_up x 97 0 0) 97 1 (-1)) 97 3 0) 96 = x 96 from funext (fun k => (gk_up_ne (by omega)).trans ((gk_up_ne (by omega)).trans (gk_up_ne (by omega))))]; exact hp2) (fun x1 m hm1 hm2 hT hf => ?_)
  refine s_aload_n (pc2 := 24) w dX5_read_23 rfl rfl ?_
  refine r_X4_clear (pc2 := 27) w dX5_read_24 rfl rfl rfl rfl (by decide) (by decide) rfl rfl ?_
  refine s_iconst (pc2 := 28) (v := 0) w dX5_read_27 rfl rfl ?_
  refine s_istore_n (pc2 := 29) (k2 := 3) w dX5_read_28 rfl rfl rfl ?_
  dsimp only [gk_s1, gk_s2, gk_cl]
  have hm : CH B t m := ⟨by omega, hp1, hm2⟩
  have c0 : CP B t m (clX x1 44) pZ (clX x1 44) (clY y 44) := ⟨fun _ _ _ _ => rfl, ⟨(cl_fr x1 (by omega)).trans hT.1, fun j hj => by rw [cl_fr x1 (by omega), cl_fr x1 (by omega), cl_fr x1 (by omega)]; exact hT.2 j hj⟩, (cl_fr x1 (by omega)).trans ((hf 97 3 (by omega)).trans (gk_up_in _ _ _ _)), (cl_fr x1 (by omega)).trans ((hf 97 0 (by omega)).trans ((gk_up_ne (by omega)).trans ((gk_up_ne (by omega)).trans (gk_up_in _ _ _ _)))), (cl_fr x1 (by omega)).trans ((hf 97 1 (by omega)).trans ((gk_up_ne (by omega)).trans (gk_up_in _ _ _ _))), Nat.zero_le _, Nat.zero_le 3, fun _ => ⟨cl_RS x1 y, gOK_N⟩⟩
  have fr : ∀ (x2 : gk_X), (∀ i k, ¬ (44 ≤ i ∧ i < 87) → ¬ (97 ≤ i ∧ i ≤ 102) → x2 i k = clX x1 44 i k) → ∀ i k, ¬ (44 ≤ i ∧ i < 87) → ¬ (97 ≤ i ∧ i ≤ 102) → x2 i k = x i k := fun x2 h i k h1 h2 => (h i k h1 h2).trans ((cl_fr x1 h1).trans ((hf i k (by omega)).trans ((gk_up_ne (by omega)).trans ((gk_up_ne (by omega)).trans (gk_up_ne (by omega))))))
  have fy : ∀ i k, ¬ (44 ≤ i ∧ i < 87) → (clY y 44) i k = y i k := fun i k h => if_neg (by omega)
  have key : ∀ (k n : Nat) (Q1 : gk_P) (xb : gk_X), CP B t m (clX x1 44) Q1 xb (clY y 44) → Q1.2.1 = 0 → n ≤ Q1.1 → m < Q1.1 + k → pLd B t 501 pZ = ((pLd B t k Q1).1 + n, (pLd B t k Q1).2) → V 29 [some (.ref 97), some (.ref 95), some (.ref 44), some (.int (nI n))] [] 202 gk_fT xb (clY y 44) 0 := by
    intro k
    induction k with
    | zero =>
      intro n Q1 xb hc h0 hn hk hp
      have := hc.2.2.2.2.2.1
      omega
    | succ k ih =>
      intro n Q1 xb hc h0 hn hk hp
      have hb1 := hc.2.2.2.2.2.1
      have bad : ∀ (Q2 : gk_P) (xc : gk_X), CP B t m (clX x1 44) Q2 xc (clY y 44) → ¬ Q2.2.1 = 0 → (pLd B t 501 pZ).2 = Q2 → V 67 [some (.ref 97), some (.ref 95), some (.ref 44), some (.int (nI n))] [] 202 gk_fT xc (clY y 44) 0 := by
        intro Q2 xc hc2 hn2 hp2
        have hb2 := hc2.2.2.2.2.2.1
        refine s_aload_n (pc2 := 68) w dX5_read_67 rfl rfl ?_
        refine s_aload_n (pc2 := 69) w dX5_read_68 rfl rfl ?_
        refine m_getR (pc2 := 72) (ci := 5) (k := 2) (j2 := 98) w dX5_read_69 rfl rfl rfl rfl rfl rfl ?_
        refine s_aload_n (pc2 := 73) w dX5_read_72 rfl rfl ?_
        refine m_getI (pc2 := 76) (ci := 5) (k := 3) w dX5_read_73 rfl rfl rfl rfl rfl ?_
        refine r_X9_startAt (pc2 := 79) w dX5_read_76 rfl rfl rfl hc2.2.2.1 (by omega) ?_
        rw [(hc2.2.1.2 Q2.1 (by omega)).2.1]
        refine m_putI (pc2 := 82) (ci := 5) (k := 1) w dX5_read_79 rfl rfl rfl rfl rfl (by intro h; cases h) ?_
        refine s_iconst (pc2 := 83) (v := (-1)) w dX5_read_82 rfl rfl ?_
        refine s_ireturn w dX5_read_83 rfl rfl ?_
        rw [show rdV B t = -1 from if_neg (by rw [hp2]; exact hn2)] at q0
        refine q0 _ _ ⟨?_, ?_, fun h => absurd h (by rw [hp2]; exact hn2)⟩ (fun i k h1 h2 => (gk_up_ne (by omega)).trans (fr xc hc2.1 i k h1 h2)) fy
        · rw [hp2]; exact (gk_up_ne (by omega)).trans hc2.2.2.2.1
        · rw [hp2, if_neg hn2]; exact gk_up_in _ _ _ _
      refine s_iload_n (pc2 := 30) w dX5_read_29 rfl rfl ?_
      refine s_sipush (pc2 := 33) (v := 500) w dX5_read_30 rfl rfl ?_
      refine s_ic_gt (pc2 := 36) (tgt := 90) w dX5_read_33 rfl (by decide) (fun h0 => absurd h0 (by rw [show (500 : Int32) = nI 500 from rfl, nI_lt2 (by omega) (by omega)]; omega)) (fun _ => ?_)
      refine s_aload_n (pc2 := 37) w dX5_read_36 rfl rfl ?_
      refine m_getR (pc2 := 40) (ci := 5) (k := 2) (j2 := 98) w dX5_read_37 rfl rfl rfl rfl rfl rfl ?_
      refine s_aload_n (pc2 := 41) w dX5_read_40 rfl rfl ?_
      refine m_getI (pc2 := 44) (ci := 5) (k := 3) w dX5_read_41 rfl rfl rfl rfl rfl ?_
      refine r_X9_kindAt (pc2 := 47) w dX5_read_44 rfl rfl rfl hc.2.2.1 (by omega) ?_
      rw [CP.kd hm hc]
      refine s_if_ne (pc2 := 50) (tgt := 52) w dX5_read_47 rfl (by decide) (fun c47 => ?_) (fun c47 => ?_)
      · have hK : ¬ KK B t Q1.1 = 0 := fun h => c47 ((kq 0 (by omega)).mpr h)
        have hin : pIn Q1.1 m Q1 := ⟨Nat.le_refl _, hb1, by rw [h0]; exact Nat.zero_le 3⟩
        rw [pLd_s h0 hK] at hp
        refine s_aload_n (pc2 := 53) w dX5_read_52 rfl rfl ?_
        refine s_aload_n (pc2 := 54) w dX5_read_53 rfl rfl ?_
        refine r_X5_readStatement (pc2 := 57) w dX5_read_54 rfl rfl rfl hm hc h0 (fun x2 g2 => ?_)
        refine s_if_eq (pc2 := 60) (tgt := 67) w dX5_read_57 rfl (by decide) (fun c57 => ?_) (fun c57 => ?_)
        · have n2 : ¬ (pB B t Q1).2.1 = 0 := (eB_0 _).mp c57
          have es : pSt B t Q1 = pB B t Q1 := by unfold pSt; rw [pQ_e n2, pA_e n2]
          exact bad _ x2 g2 n2 (by rw [hp]; show (pLd B t k (pSt B t Q1)).2 = _; rw [es, pLd_e n2])
        · have e2 : (pB B t Q1).2.1 = 0 := Decidable.byContradiction (fun h => c57 ((eB_0 _).mpr h))
          refine s_aload_n (pc2 := 61) w dX5_read_60 rfl rfl ?_
          refine r_X5_readSemicolon (pc2 := 64) w dX5_read_61 rfl rfl rfl hm g2 e2 (fun x3 g3 => ?_)
          refine s_if_ne (pc2 := 67) (tgt := 84) w dX5_read_64 rfl (by decide) (fun c64 => ?_) (fun c64 => ?_)
          · refine s_iinc (pc2 := 87) w dX5_read_84 rfl rfl rfl rfl ?_
            dsimp only [gk_s1, gk_s2, gk_cl]
            rw [nI_s]
            refine s_goto (tgt := 29) w dX5_read_87 (by decide) ?_
            have e3 : (pSt B t Q1).2.1 = 0 := Decidable.byContradiction (fun h => c64 ((eB_0 _).mpr h))
            have hlt := pSt_lt hm2 hin e3
            exact ih (n + 1) (pSt B t Q1) x3 g3 e3 (by omega) (by omega) (hp.trans (by show ((pLd B t k (pSt B t Q1)).1 + 1 + n, (pLd B t k (pSt B t Q1)).2) = _; rw [Nat.add_assoc, Nat.add_comm 1 n]))
          · have n3 : ¬ (pSt B t Q1).2.1 = 0 := (eB_0 _).mp c64
            exact bad (pSt B t Q1) x3 g3 n3 (by rw [hp]; show (pLd B t k (pSt B t Q1)).2 = _; rw [pLd_e n3])
      · refine s_iload_n (pc2 := 51) w dX5_read_50 rfl rfl ?_
        refine s_ireturn w dX5_read_51 rfl rfl ?_
        have hK : KK B t Q1.1 = 0 := (kq 0 (by omega)).mp c47
        rw [pLd_0 hK] at hp
        rw [show rdV B t = nI n from by unfold rdV; rw [hp]; exact (if_pos h0).trans (by rw [Nat.zero_add])] at q0
        refine q0 xb _ ⟨?_, ?_, fun _ => ?_⟩ (fr xb hc.1) fy
        · rw [hp]; exact hc.2.2.2.1
        · rw [hp]; exact hc.2.2.2.2.1.trans (if_pos h0).symm
        · rw [hp]; exact hc.2.2.2.2.2.2.2 h0
  exact key 501 0 pZ _ c0 rfl (Nat.le_refl 0) (by show m < 0 + 501; omega) rfl
theorem lk_X5_read {l : Launch} (hl : l.stackTraces = false) : ∀ q ∈ L_X5_read, (q.2.1 < 5 → gk_Lk l RX5 gk_W1 8 q.1 q.2.1 q.2.2.1 q.2.2.2.1 q.2.2.2.2.1 q.2.2.2.2.2) := (List.forall_mem_cons.mpr ⟨(fun _ => ⟨yX9_split, cX9_split, 5, none, 7, _, M_X9_split hl, ⟨by decide, by decide⟩, ⟨by decide, by decide, by decide +kernel⟩, ⟨(gk_wm 507 (by decide +kernel)), (gk_wm 98 (by decide +kernel))⟩, Or.inr (Or.inr (Or.inr (Or.inl ⟨rfl, rfl, (gk_wm 505 (by decide +kernel)), (gk_wm 506 (by decide +kernel)), gk_wm 504 (by decide +kernel), by decide, rfl⟩)))⟩), (List.forall_mem_cons.mpr ⟨(fun _ => ⟨yX4_clear, cX4_clear, 1, none, 1, _, M_X4_clear hl, ⟨by decide, by decide⟩, ⟨by decide, by decide, by decide +kernel⟩, ⟨(gk_wm 219 (by decide +kernel)), (gk_wm 90 (by decide +kernel))⟩, Or.inr (Or.inr (Or.inr (Or.inl ⟨rfl, rfl, (gk_wm 217 (by decide +kernel)), (gk_wm 218 (by decide +kernel)), gk_wm 601 (by decide +kernel), by decide, rfl⟩)))⟩), (List.forall_mem_cons.mpr ⟨(fun _ => ⟨yX9_kindAt, cX9_kindAt, 2, (some .int), 0, _, M_X9_kindAt hl, ⟨by decide, by decide⟩, ⟨by decide, by decide, by decide +kernel⟩, ⟨(gk_wm 605 (by decide +kernel)), (gk_wm 98 (by decide +kernel))⟩, Or.inr (Or.inr (Or.inr (Or.inl ⟨rfl, rfl, (gk_wm 603 (by decide +kernel)), (gk_wm 604 (by decide +kernel)), gk_wm 602 (by decide +kernel), by decide, rfl⟩)))⟩), (List.forall_mem_cons.mpr ⟨(fun _ => ⟨yX5_readStatement, cX5_readStatement, 3, (some .boolean), 4, _, M_X5_readStatement hl, ⟨by decide, by decide⟩, ⟨by decide, by decide, by decide +kernel⟩, ⟨(gk_wm 609 (by decide +kernel)), (gk_wm 97 (by decide +kernel))⟩, Or.inr (Or.inr (Or.inr (Or.inl ⟨rfl, rfl, (gk_wm 608 (by decide +kernel)), (gk_wm 8 (by decide +kernel)), gk_wm 606 (by decide +kernel), by decide, rfl⟩)))⟩), (List.forall_mem_cons.mpr ⟨(fun _ => ⟨yX5_readSemicolon, cX5_readSemicolon, 1, (some .boolean), 1, _, M_X5_readSemicolon hl, ⟨by decide, by decide⟩, ⟨by decide, by decide, by decide +kernel⟩, ⟨(gk_wm 688 (by decide +kernel)), (gk_wm 97 (by decide +kernel))⟩, Or.inr (Or.inr (Or.inr (Or.inl ⟨rfl, rfl, (gk_wm 687 (by decide +kernel)), (gk_wm 20 (by decide +kernel)), gk_wm 685 (by decide +kernel), by decide, rfl⟩)))⟩), (List.forall_mem_cons.mpr ⟨(fun _ => ⟨yX9_startAt, cX9_startAt, 2, (some .int), 1, _, M_X9_startAt hl, ⟨by decide, by decide⟩, ⟨by decide, by decide, by decide +kernel⟩, ⟨(gk_wm 692 (by decide +kernel)), (gk_wm 98 (by decide +kernel))⟩, Or.inr (Or.inr (Or.inr (Or.inl ⟨rfl, rfl, (gk_wm 690 (by decide +kernel)), (gk_wm 691 (by decide +kernel)), gk_wm 689 (by decide +kernel), by decide, rfl⟩)))⟩), (fun _ h => absurd h List.not_mem_nil)⟩)⟩)⟩)⟩)⟩)⟩)
theorem sp_X5_read : ∀ q ∈ L_X5_read, gk_Sq RX5 gk_W1 8 q := (List.forall_mem_cons.mpr ⟨⟨fun h => absurd h (by decide), fun h => absurd h (by decide), fun h => absurd h (by decide), fun h => absurd h (by decide), fun h => absurd h (by decide), fun h => absurd h (by decide)⟩, (List.forall_mem_cons.mpr ⟨⟨fun h => absurd h (by decide), fun h => absurd h (by decide), fun h => absurd h (by decide), fun h => absurd h (by decide), fun h => absurd h (by decide), fun h => absurd h (by decide)⟩, (List.forall_mem_cons.mpr ⟨⟨fun h => absurd h (by decide), fun h => absurd h (by decide), fun h => absurd h (by decide), fun h => absurd h (by decide), fun h => absurd h (by decide), fun h => absurd h (by decide)⟩, (List.forall_mem_cons.mpr ⟨⟨fun h => absurd h (by decide), fun h => absurd h (by decide), fun h => absurd h (by decide), fun h => absurd h (by decide), fun h => absurd h (by decide), fun h => absurd h (by decide)⟩, (List.forall_mem_cons.mpr ⟨⟨fun h => absurd h (by decide), fun h => absurd h (by decide), fun h => absurd h (by decide), fun h => absurd h (by decide), fun h => absurd h (by decide), fun h => absurd h (by decide)⟩, (List.forall_mem_cons.mpr ⟨⟨fun h => absurd h (by decide), fun h => absurd h (by decide), fun h => absurd h (by decide), fun h => absurd h (by decide), fun h => absurd h (by decide), fun h => absurd h (by decide)⟩, (fun _ h => absurd h List.not_mem_nil)⟩)⟩)⟩)⟩)⟩)⟩)
theorem M_X5_read {l : Launch} (hl : l.stackTraces = false) : gk_Mt l yX5_read (.code yX5_read cX5_read 4 (some .int) :: gk_W1) 8 0 S_X5_read := gk_meth hl gk_cw_ok (by decide +kernel) rfl m_X5_read pX5_ok (gk_Sp_of sp_X5_read) pX5_st (fun ci m S h => absurd h (by intro h; cases h)) (xf_X5 8) (fun idx kd ci mm cost S2 h h5 => lk_X5_read hl _ (gk_lk_mem h) h5)

def S_X10_load : gk_S := fun as n fl x y K => ∃ (t : Nat) (B : Nat → Int32) (g : Nat → Int32), as = [.ref 0] ∧ (n = 202 ∧ fl = gk_fT) ∧ (x 95 1 = nI t) ∧ (t ≤ 500) ∧ (tbA (x 96) t = B) ∧ (RS 1 g x y) ∧ (gOK g) ∧ (∀ (x2 : gk_X) (y2 : gk_Y), RS 1 (if (pLd B t 501 pZ).2.2.1 = 0 then (pLd B t 501 pZ).2.2.2 else g) x2 y2 → gOK (if (pLd B t 501 pZ).2.2.1 = 0 then (pLd B t 501 pZ).2.2.2 else g) → x2 97 0 = nI (pLd B t 501 pZ).2.2.1 → x2 97 1 = (if (pLd B t 501 pZ).2.2.1 = 0 then -1 else nI (tp B t (pLd B t 501 pZ).2.1)) → x2 95 1 = 0 → (∀ i k, 87 ≤ i → ¬ (i = 95 ∧ k = 1) → ¬ (97 ≤ i ∧ i ≤ 102) → x2 i k = x i k) → (∀ i k, 87 ≤ i → y2 i k = y i k) → K (.inl (some (.int (rdV B t)))) n fl x2 y2)
theorem r_X10_load (w : gk_W c P cs (fun _ _ => none) rt uf sc K V) {idx : Nat} {t : Nat} {B : Nat → Int32} {g : Nat → Int32} (hd : decode c pc = .ok (.invokevirtual idx, 3)) (hp : pc + 3 = pc2) (hc : cs idx = some (1, 9, 1, 0, S_X10_load)) (h8 : Nat.ble (r.map Value.category).sum 8 = true) (hp0 : x 95 1 = nI t) (hp1 : t ≤ 500) (hp2 : tbA (x 96) t = B) (hp3 : RS 1 g x y) (hp4 : gOK g) (kk0 : ∀ (x2 : gk_X) (y2 : gk_Y), RS 1 (if (pLd B t 501 pZ).2.2.1 = 0 then (pLd B t 501 pZ).2.2.2 else g) x2 y2 → gOK (if (pLd B t 501 pZ).2.2.1 = 0 then (pLd B t 501 pZ).2.2.2 else g) → x2 97 0 = nI (pLd B t 501 pZ).2.2.1 → x2 97 1 = (if (pLd B t 501 pZ).2.2.1 = 0 then -1 else nI (tp B t (pLd B t 501 pZ).2.1)) → x2 95 1 = 0 → (∀ i k, 87 ≤ i → ¬ (i = 95 ∧ k = 1) → ¬ (97 ≤ i ∧ i ≤ 102) → x2 i k = x i k) → (∀ i k, 87 ≤ i → y2 i k = y i k) → V pc2 L ((.int (rdV B t)) :: r) 202 gk_fT x2 y2 u) : V pc L (.ref 0 :: r) 202 gk_fT x y u :=
  g_callv w hd hp hc (as := [.ref 0]) rfl h8 rfl rfl rfl (Or.inr (Or.inl ⟨Or.inl rfl, _, _, rfl, (gk_kd_j rfl rfl), rfl⟩)) (Or.inl rfl) ⟨t, B, g, rfl, ⟨rfl, rfl⟩, hp0, hp1, hp2, hp3, hp4, kk0⟩
def L_X10_load : List (Nat × gk_M0) := [(258, (1, 5, 3, 0, S_X5_read)), (262, (1, 4, 2, 0, S_X4_copyFrom))]
def cs_X10_load : Nat → Option gk_M0 := gk_lk L_X10_load
theorem m_X10_load : ∀ (as : List Value) (n : Nat) (fl : gk_F) (x : gk_X) (y : gk_Y) (K : gk_K), S_X10_load as n fl x y K → (gk_L0 as).length ≤ 2 ∧ ∀ V : gk_V, gk_W cX10_load pX10 cs_X10_load (fun _ _ => none) (some .int) 0 none K V → V 0 (gk_en as 2) [] n fl x y 0 := by
  intro as n fl x y K hS
  obtain ⟨t, B, g, rfl, ⟨rfl, rfl⟩, hp0, hp1, hp2, hp3, hp4, q0⟩ := hS
  refine ⟨Nat.le_of_ble_eq_true rfl, fun V w => ?_⟩
  show V 0 [some (.ref 0), none] [] 202 gk_fT x y 0
  have hN := pLd_le (c := B) (t := t) 501 pZ
  refine s_aload_n (pc2 := 1) w dX10_load_0 rfl rfl ?_
  refine m_getR (pc2 := 4) (ci := 9) (k := 7) (j2 := 97) w dX10_load_1 rfl rfl rfl rfl rfl rfl ?_
  refine s_aload_n (pc2 := 5) w dX10_load_4 rfl rfl ?_
  refine m_getR (pc2 := 8) (ci := 9) (k := 6) (j2 := 95) w dX10_load_5 rfl rfl rfl rfl rfl rfl ?_
  refine s_aload_n (pc2 := 9) w dX10_load_8 rfl rfl ?_
  refine m_getR (pc2 := 12) (ci := 9) (k := 1) (j2 := 44) w dX10_load_9 rfl rfl rfl rfl rfl rfl ?_
  refine r_X5_read (pc2 := 15) w dX10_load_12 rfl rfl rfl hp0 hp1 hp2 (fun x1 y1 h1 h2 h3 => ?_)
  refine s_istore_n (pc2 := 16) (k2 := 1) w dX10_load_15 rfl rfl rfl ?_
  dsimp only [gk_s1, gk_s2, gk_cl]
  refine s_aload_n (pc2 := 17) w dX10_load_16 rfl rfl ?_
  refine m_getR (pc2 := 20) (ci := 9) (k := 6) (j2 := 95) w dX10_load_17 rfl rfl rfl rfl rfl rfl ?_
  refine s_iconst (pc2 := 21) (v := 0) w dX10_load_20 rfl rfl ?_
  refine m_putI (pc2 := 24) (ci := 7) (k := 1) w dX10_load_21 rfl rfl rfl rfl rfl (by intro h; cases h) ?_
  refine s_iload_n (pc2 := 25) w dX10_load_24 rfl rfl ?_
  refine s_iconst (pc2 := 26) (v := (-1)) w dX10_load_25 rfl rfl ?_
  refine s_ic_eq (pc2 := 29) (tgt := 40) w dX10_load_26 rfl (by decide) (fun c26 => ?_) (fun c26 => ?_)
  · refine s_iload_n (pc2 := 41) w dX10_load_40 rfl rfl ?_
    refine s_ireturn w dX10_load_41 rfl rfl ?_
    have e0 : ¬ (pLd B t 501 pZ).2.2.1 = 0 := fun h => by
      rw [rdV, if_pos h] at c26
      exact absurd c26 (nI_m1 (by omega))
    rw [if_neg e0] at q0
    refine q0 _ y1 (hp3.cg hp4.1 (fun i k a b => (gk_up_ne (by omega)).trans (h2 i k (by omega) (by omega))) (fun k => h3 1 k (by omega))) hp4 ((gk_up_ne (by omega)).trans h1.1) ((gk_up_ne (by omega)).trans h1.2.1) (gk_up_in _ _ _ _) (fun i k a b c => (gk_up_ne b).trans (h2 i k (by omega) c)) (fun i k a => h3 i k (by omega))
  · have e0 : (pLd B t 501 pZ).2.2.1 = 0 := Decidable.byContradiction (fun h => c26 (if_neg h))
    obtain ⟨s1, s2⟩ := h1.2.2 e0
    have s1 : RS 44 (pLd B t 501 pZ).2.2.2 (gk_up x1 95 1 0) y1 := s1.cg s2.1 (fun i k a b => gk_up_ne (by omega)) (fun k => rfl)
    refine s_aload_n (pc2 := 30) w dX10_load_29 rfl rfl ?_
    refine m_getR (pc2 := 33) (ci := 9) (k := 0) (j2 := 1) w dX10_load_30 rfl rfl rfl rfl rfl rfl ?_
    refine s_aload_n (pc2 := 34) w dX10_load_33 rfl rfl ?_
    refine m_getR (pc2 := 37) (ci := 9) (k := 1) (j2 := 44) w dX10_load_34 rfl rfl rfl rfl rfl rfl ?_
    refine r_X4_copyFrom (pc2 := 40) w dX10_load_37 rfl rfl rfl rfl rfl (Or.inl rfl) (Or.inr (Or.inl rfl)) (by decide) s1 s2.1 (fun x2 y2 u1 u2 u3 => ?_)
    refine s_iload_n (pc2 := 41) w dX10_load_40 rfl rfl ?_
    refine s_ireturn w dX10_load_41 rfl rfl ?_
    rw [if_pos e0] at q0
    exact q0 x2 y2 u1 s2 ((u2 97 0 (by omega)).trans ((gk_up_ne (by omega)).trans h1.1)) ((u2 97 1 (by omega)).trans ((gk_up_ne (by omega)).trans h1.2.1)) ((u2 95 1 (by omega)).trans (gk_up_in _ _ _ _)) (fun i k a b c => (u2 i k (by omega)).trans ((gk_up_ne b).trans (h2 i k (by omega) c))) (fun i k a => (u3 i k (by omega)).trans (h3 i k (by omega)))
theorem lk_X10_load {l : Launch} (hl : l.stackTraces = false) : ∀ q ∈ L_X10_load, (q.2.1 < 5 → gk_Lk l RX10 gk_W1 9 q.1 q.2.1 q.2.2.1 q.2.2.2.1 q.2.2.2.2.1 q.2.2.2.2.2) := (List.forall_mem_cons.mpr ⟨(fun _ => ⟨yX5_read, cX5_read, 4, (some .int), 8, _, M_X5_read hl, ⟨by decide, by decide⟩, ⟨by decide, by decide, by decide +kernel⟩, ⟨(gk_wm 503 (by decide +kernel)), (gk_wm 97 (by decide +kernel))⟩, Or.inr (Or.inr (Or.inr (Or.inl ⟨rfl, rfl, (gk_wm 501 (by decide +kernel)), (gk_wm 502 (by decide +kernel)), gk_wm 500 (by decide +kernel), by decide, rfl⟩)))⟩), (List.forall_mem_cons.mpr ⟨(fun _ => ⟨yX4_copyFrom, cX4_copyFrom, 3, none, 3, _, M_X4_copyFrom hl, ⟨by decide, by decide⟩, ⟨by decide, by decide, by decide +kernel⟩, ⟨(gk_wm 696 (by decide +kernel)), (gk_wm 90 (by decide +kernel))⟩, Or.inr (Or.inr (Or.inr (Or.inl ⟨rfl, rfl, (gk_wm 694 (by decide +kernel)), (gk_wm 695 (by decide +kernel)), gk_wm 693 (by decide +kernel), by decide, rfl⟩)))⟩), (fun _ h => absurd h List.not_mem_nil)⟩)⟩)
theorem sp_X10_load : ∀ q ∈ L_X10_load, gk_Sq RX10 gk_W1 9 q := (List.forall_mem_cons.mpr ⟨⟨fun h => absurd h (by decide), fun h => absurd h (by decide), fun h => absurd h (by decide), fun h => absurd h (by decide), fun h => absurd h (by decide), fun h => absurd h (by decide)⟩, (List.forall_mem_cons.mpr ⟨⟨fun h => absurd h (by decide), fun h => absurd h (by decide), fun h => absurd h (by decide), fun h => absurd h (by decide), fun h => absurd h (by decide), fun h => absurd h (by decide)⟩, (fun _ h => absurd h List.not_mem_nil)⟩)⟩)
theorem M_X10_load {l : Launch} (hl : l.stackTraces = false) : gk_Mt l yX10_load (.code yX10_load cX10_load 2 (some .int) :: gk_W1) 9 0 S_X10_load := gk_meth hl gk_cw_ok (by decide +kernel) rfl m_X10_load pX10_ok (gk_Sp_of sp_X10_load) pX10_st (fun ci m S h => absurd h (by intro h; cases h)) (xf_X10 (by decide)) (fun idx kd ci mm cost S2 h h5 => lk_X10_load hl _ (gk_lk_mem h) h5)

end GKV

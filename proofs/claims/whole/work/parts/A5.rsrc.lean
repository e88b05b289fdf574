/-! THE TEXT, 17: the class reads a source, the method -/
section GKV
variable {c : ByteArray} {P : gk_C} {cs : Nat → Option gk_M0} {rt : Option FieldType} {uf : Nat} {sc : Option Nat} {K : gk_K} {V : gk_V}
variable {L : List (Option Value)} {r : List Value} {n : Nat} {fl : gk_F} {x : gk_X} {y : gk_Y} {u pc pc2 : Nat}
theorem nS_F1 {g : Nat → Int32} {a : Nat} {w o h st : Int32} {f : Nat → Int32} (ha : a < 6) : nS (gF (gAS0 g a w o h st) a f 1) = a + 1 := by
  show (gV1 (gAS0 g a w o h st) a 0 (f 0) 7).toInt.toNat = a + 1
  rw [gV1_o (by omega) (by omega), show gAS0 g a w o h st 7 = nI (a + 1) from rfl, nI_to (by omega)]
theorem gF_s {g : Nat → Int32} {a n : Nat} {F : Nat → Int32} {v : Int32} : gV1 (gF g a (fun k => F (4 + k)) n) a n v = gF g a (fun k => gU F (4 + n) v (4 + k)) (n + 1) := by
  show _ = gV1 (gF g a (fun k => gU F (4 + n) v (4 + k)) n) a n (gU F (4 + n) v (4 + n))
  rw [show gU F (4 + n) v (4 + n) = v from if_pos rfl, gF_cg (f := fun k => gU F (4 + n) v (4 + k)) (h := fun k => F (4 + k)) n (fun j hj => if_neg (by omega))]
theorem gF_1 {g : Nat → Int32} {a : Nat} {f : Nat → Int32} {v : Int32} (h : f 0 = v) : gF g a f 1 = gV1 g a 0 v := by
  rw [← h]
  rfl
theorem pWn_e2 {c : Nat → Int32} {t a k l i e : Nat} {g : Nat → Int32} (h : ¬ e = 0) : pWn c t a k l (i, e, g) = (i, e, g) := if_neg (fun h2 => h h2.1)
theorem pWn_0 {c : Nat → Int32} {t a l : Nat} {Q : gk_P} : pWn c t a 0 l Q = Q := by
  unfold pWn
  split
  · rfl
  · rfl
theorem pSrc_n {c : Nat → Int32} {t : Nat} {Q : gk_P} (hg : (pS5 c t Q).2.2 = Q.2.2) (h : (pS5 c t Q).2.1 = 0) : pSrc c t Q = pWn c t (nS Q.2.2) 15 1 (pW1 c t (nS Q.2.2) 0 ((pS5 c t Q).1, (pS5 c t Q).2.1, gAS0 Q.2.2 (nS Q.2.2) (vN c t (pS1 c t Q)) (vI c t (pS2 c t Q)) (vN c t (pS3 c t Q)) (vN c t (pS4 c t Q)))) := by
  unfold pSrc
  rw [pS6_1 h, hg, h]
  rfl
def S_X5_readSource : gk_S := fun as n fl x y K => ∃ (B : Nat → Int32) (t : Nat) (m : Nat) (x0 : gk_X) (Q : gk_P), as = [.ref 97, .ref 44] ∧ (n = 202 ∧ fl = gk_fT) ∧ (CH B t m) ∧ (CP B t m x0 Q x y) ∧ (Q.2.1 = 0) ∧ (KK B t Q.1 = 7) ∧ (x 97 5 = nI 0) ∧ (∀ x2 : gk_X, CP B t m x0 (pSrc B t Q) x2 y → K (.inl (some (.int (eB (pSrc B t Q))))) n fl x2 y)
theorem r_X5_readSource (w : gk_W c P cs (fun _ _ => none) rt uf sc K V) {idx : Nat} {B : Nat → Int32} {t : Nat} {m : Nat} {x0 : gk_X} {Q : gk_P} (hd : decode c pc = .ok (.invokevirtual idx, 3)) (hp : pc + 3 = pc2) (hc : cs idx = some (1, 5, 2, 0, S_X5_readSource)) (h8 : Nat.ble (r.map Value.category).sum 8 = true) (hp0 : CH B t m) (hp1 : CP B t m x0 Q x y) (hp2 : Q.2.1 = 0) (hp3 : KK B t Q.1 = 7) (hp4 : x 97 5 = nI 0) (kk0 : ∀ x2 : gk_X, CP B t m x0 (pSrc B t Q) x2 y → V pc2 L ((.int (eB (pSrc B t Q))) :: r) 202 gk_fT x2 y u) : V pc L (.ref 44 :: .ref 97 :: r) 202 gk_fT x y u :=
  g_callv w hd hp hc (as := [.ref 97, .ref 44]) rfl h8 rfl rfl rfl (Or.inr (Or.inl ⟨Or.inl rfl, _, _, rfl, (gk_kd_j rfl rfl), rfl⟩)) (Or.inl rfl) ⟨B, t, m, x0, Q, rfl, ⟨rfl, rfl⟩, hp0, hp1, hp2, hp3, hp4, kk0⟩
def L_X5_readSource : List (Nat × gk_M0) := [(76, (1, 5, 3, 0, S_X5_readNumber)), (83, (1, 5, 3, 0, S_X5_readInteger)), (99, (1, 5, 3, 0, S_X5_readWord)), (116, (1, 5, 1, 0, S_X5_isAtInteger)), (119, (1, 4, 6, 0, S_X4_putSource)), (123, (1, 5, 2, 0, S_X5_putMoreValues))]
def cs_X5_readSource : Nat → Option gk_M0 := gk_lk L_X5_readSource
set_option maxHeartbeats 8000000 in
theorem m_X5_readSource : ∀ (as : List Value) (n : Nat) (fl : gk_F) (x : gk_X) (y : gk_Y) (K : gk_K), S_X5_readSource as n fl x y K → (gk_L0 as).length ≤ 4 ∧ ∀ V : gk_V, gk_W cX5_readSource pX5 cs_X5_readSource (fun _ _ => none) (some .boolean) 0 none K V → V 0 (gk_en as 4) [] n fl x y 0 := by
  intro as n fl x y K hS
  obtain ⟨B, t, m, x0, Q, rfl, ⟨rfl, rfl⟩, hp0, hp1, hp2, hp3, hp4, q0⟩ := hS
  refine ⟨Nat.le_of_ble_eq_true rfl, fun V w => ?_⟩
  show V 0 [some (.ref 97), some (.ref 44), none, none] [] 202 gk_fT x y 0
  obtain ⟨hs, hok⟩ := hp1.2.2.2.2.2.2.2 hp2
  obtain ⟨nv4, ns6, nm8, z6, z7, z8⟩ := wf_n hok.1
  have hcn : x 44 5 = nI (nS Q.2.2) := hs.1.1.2.1.trans (gn_7 hok.1)
  refine s_aload_n (pc2 := 1) w dX5_readSource_0 rfl rfl ?_
  refine s_aload_n (pc2 := 2) w dX5_readSource_1 rfl rfl ?_
  refine m_getI (pc2 := 5) (ci := 4) (k := 5) w dX5_readSource_2 rfl rfl rfl rfl rfl ?_
  rw [hcn]
  refine s_bipush (pc2 := 7) (v := gI 6) w dX5_readSource_5 rfl rfl ?_
  refine r_X5_readWord (pc2 := 10) (a := nS Q.2.2) (b := 6) w dX5_readSource_7 rfl rfl rfl hp0 hp1 hp2 (by rw [hp3]; decide) rfl rfl (by omega) (by decide) (fun x1 h1 u1 w1 => ?_)
  have g1 : CP B t m x0 (pS1 B t Q) x1 y := h1
  have a1 : AR (fun _ => 0) 0 x1 := ⟨u1.trans hp4, fun k hk => absurd hk (Nat.not_lt_zero k)⟩
  refine s_if_eq (pc2 := 13) (tgt := 76) w dX5_readSource_10 rfl (by decide) (fun c10 => ?_) (fun c10 => ?_)
  · refine s_iconst (pc2 := 77) (v := gI 0) w dX5_readSource_76 rfl rfl ?_
    refine s_istore_n (pc2 := 78) (k2 := 2) w dX5_readSource_77 rfl rfl rfl ?_
    dsimp only [gk_s1, gk_s2, gk_cl]
    refine s_iconst (pc2 := 79) (v := gI 1) w dX5_readSource_78 rfl rfl ?_
    refine s_istore_n (pc2 := 80) (k2 := 3) w dX5_readSource_79 rfl rfl rfl ?_
    dsimp only [gk_s1, gk_s2, gk_cl]
    refine s_iload_n (pc2 := 81) w dX5_readSource_80 rfl rfl ?_
    refine s_if_eq (pc2 := 84) (tgt := 112) w dX5_readSource_81 rfl (by decide) (fun _ => ?_) (fun h0 => absurd (rfl) h0)
    refine s_iload_n (pc2 := 113) w dX5_readSource_112 rfl rfl ?_
    refine s_if_eq (pc2 := 116) (tgt := 156) w dX5_readSource_113 rfl (by decide) (fun _ => ?_) (fun h0 => absurd (rfl) h0)
    refine s_iload_n (pc2 := 157) w dX5_readSource_156 rfl rfl ?_
    refine s_ireturn w dX5_readSource_157 rfl (by first | rfl | decide) ?_
    have n9 : ¬ (pS1 B t Q).2.1 = 0 := (eB_0 _).mp c10
    rw [pSrc_e1 n9, eB_2 n9] at q0
    exact q0 _ g1
    
  · have e1 : (pS1 B t Q).2.1 = 0 := Decidable.byContradiction (fun h => c10 ((eB_0 _).mpr h))
    have hv1 : x1 44 4 = nI (nV Q.2.2) := (g1.2.2.2.2.2.2.2 e1).1.1.1.1.trans (by rw [(pS1_0 e1).2.2]; exact gn_6 hok.1)
    refine s_aload_n (pc2 := 14) w dX5_readSource_13 rfl rfl ?_
    refine s_iconst (pc2 := 15) (v := gI 0) w dX5_readSource_14 rfl rfl ?_
    refine s_aload_n (pc2 := 16) w dX5_readSource_15 rfl rfl ?_
    refine m_getI (pc2 := 19) (ci := 4) (k := 4) w dX5_readSource_16 rfl rfl rfl rfl rfl ?_
    rw [hv1]
    refine s_iconst (pc2 := 20) (v := gI 1) w dX5_readSource_19 rfl rfl ?_
    refine s_isub (pc2 := 21) w dX5_readSource_20 rfl ?_
    refine r_X5_readNumber (pc2 := 24) (lo := 0) (hi := (nV Q.2.2 : Int) - 1) w dX5_readSource_21 rfl rfl rfl hp0 g1 e1 a1 (by decide) rfl (gI_sub (nV Q.2.2 : Int) 1) ⟨by decide, by decide⟩ ⟨by omega, by omega⟩ (fun x2 h2 w2 => ?_)
    have g2 : CP B t m x0 (pS2 B t Q) x2 y := h2
    refine s_if_eq (pc2 := 27) (tgt := 76) w dX5_readSource_24 rfl (by decide) (fun c24 => ?_) (fun c24 => ?_)
    · refine s_iconst (pc2 := 77) (v := gI 0) w dX5_readSource_76 rfl rfl ?_
      refine s_istore_n (pc2 := 78) (k2 := 2) w dX5_readSource_77 rfl rfl rfl ?_
      dsimp only [gk_s1, gk_s2, gk_cl]
      refine s_iconst (pc2 := 79) (v := gI 1) w dX5_readSource_78 rfl rfl ?_
      refine s_istore_n (pc2 := 80) (k2 := 3) w dX5_readSource_79 rfl rfl rfl ?_
      dsimp only [gk_s1, gk_s2, gk_cl]
      refine s_iload_n (pc2 := 81) w dX5_readSource_80 rfl rfl ?_
      refine s_if_eq (pc2 := 84) (tgt := 112) w dX5_readSource_81 rfl (by decide) (fun _ => ?_) (fun h0 => absurd (rfl) h0)
      refine s_iload_n (pc2 := 113) w dX5_readSource_112 rfl rfl ?_
      refine s_if_eq (pc2 := 116) (tgt := 156) w dX5_readSource_113 rfl (by decide) (fun _ => ?_) (fun h0 => absurd (rfl) h0)
      refine s_iload_n (pc2 := 157) w dX5_readSource_156 rfl rfl ?_
      refine s_ireturn w dX5_readSource_157 rfl (by first | rfl | decide) ?_
      have n9 : ¬ (pS2 B t Q).2.1 = 0 := (eB_0 _).mp c24
      rw [pSrc_e2 n9, eB_2 n9] at q0
      exact q0 _ g2
      
    · have e2 : (pS2 B t Q).2.1 = 0 := Decidable.byContradiction (fun h => c24 ((eB_0 _).mpr h))
      have a2 := w2 e2
      refine s_aload_n (pc2 := 28) w dX5_readSource_27 rfl rfl ?_
      refine s_sipush (pc2 := 31) (v := gI (-1000)) w dX5_readSource_28 rfl rfl ?_
      refine s_sipush (pc2 := 34) (v := gI 1000) w dX5_readSource_31 rfl rfl ?_
      refine r_X5_readInteger (pc2 := 37) (lo := -1000) (hi := 1000) w dX5_readSource_34 rfl rfl rfl hp0 g2 e2 a2 (by decide) rfl rfl ⟨by decide, by decide⟩ ⟨by decide, by decide⟩ (fun x3 h3 w3 => ?_)
      have g3 : CP B t m x0 (pS3 B t Q) x3 y := h3
      refine s_if_eq (pc2 := 40) (tgt := 76) w dX5_readSource_37 rfl (by decide) (fun c37 => ?_) (fun c37 => ?_)
      · refine s_iconst (pc2 := 77) (v := gI 0) w dX5_readSource_76 rfl rfl ?_
        refine s_istore_n (pc2 := 78) (k2 := 2) w dX5_readSource_77 rfl rfl rfl ?_
        dsimp only [gk_s1, gk_s2, gk_cl]
        refine s_iconst (pc2 := 79) (v := gI 1) w dX5_readSource_78 rfl rfl ?_
        refine s_istore_n (pc2 := 80) (k2 := 3) w dX5_readSource_79 rfl rfl rfl ?_
        dsimp only [gk_s1, gk_s2, gk_cl]
        refine s_iload_n (pc2 := 81) w dX5_readSource_80 rfl rfl ?_
        refine s_if_eq (pc2 := 84) (tgt := 112) w dX5_readSource_81 rfl (by decide) (fun _ => ?_) (fun h0 => absurd (rfl) h0)
        refine s_iload_n (pc2 := 113) w dX5_readSource_112 rfl rfl ?_
        refine s_if_eq (pc2 := 116) (tgt := 156) w dX5_readSource_113 rfl (by decide) (fun _ => ?_) (fun h0 => absurd (rfl) h0)
        refine s_iload_n (pc2 := 157) w dX5_readSource_156 rfl rfl ?_
        refine s_ireturn w dX5_readSource_157 rfl (by first | rfl | decide) ?_
        have n9 : ¬ (pS3 B t Q).2.1 = 0 := (eB_0 _).mp c37
        rw [pSrc_e3 n9, eB_2 n9] at q0
        exact q0 _ g3
        
      · have e3 : (pS3 B t Q).2.1 = 0 := Decidable.byContradiction (fun h => c37 ((eB_0 _).mpr h))
        have a3 := w3 e3
        refine s_aload_n (pc2 := 41) w dX5_readSource_40 rfl rfl ?_
        refine s_iconst (pc2 := 42) (v := gI 0) w dX5_readSource_41 rfl rfl ?_
        refine s_sipush (pc2 := 45) (v := gI 500) w dX5_readSource_42 rfl rfl ?_
        refine r_X5_readNumber (pc2 := 48) (lo := 0) (hi := 500) w dX5_readSource_45 rfl rfl rfl hp0 g3 e3 a3 (by decide) rfl rfl ⟨by decide, by decide⟩ ⟨by decide, by decide⟩ (fun x4 h4 w4 => ?_)
        have g4 : CP B t m x0 (pS4 B t Q) x4 y := h4
        refine s_if_eq (pc2 := 51) (tgt := 76) w dX5_readSource_48 rfl (by decide) (fun c48 => ?_) (fun c48 => ?_)
        · refine s_iconst (pc2 := 77) (v := gI 0) w dX5_readSource_76 rfl rfl ?_
          refine s_istore_n (pc2 := 78) (k2 := 2) w dX5_readSource_77 rfl rfl rfl ?_
          dsimp only [gk_s1, gk_s2, gk_cl]
          refine s_iconst (pc2 := 79) (v := gI 1) w dX5_readSource_78 rfl rfl ?_
          refine s_istore_n (pc2 := 80) (k2 := 3) w dX5_readSource_79 rfl rfl rfl ?_
          dsimp only [gk_s1, gk_s2, gk_cl]
          refine s_iload_n (pc2 := 81) w dX5_readSource_80 rfl rfl ?_
          refine s_if_eq (pc2 := 84) (tgt := 112) w dX5_readSource_81 rfl (by decide) (fun _ => ?_) (fun h0 => absurd (rfl) h0)
          refine s_iload_n (pc2 := 113) w dX5_readSource_112 rfl rfl ?_
          refine s_if_eq (pc2 := 116) (tgt := 156) w dX5_readSource_113 rfl (by decide) (fun _ => ?_) (fun h0 => absurd (rfl) h0)
          refine s_iload_n (pc2 := 157) w dX5_readSource_156 rfl rfl ?_
          refine s_ireturn w dX5_readSource_157 rfl (by first | rfl | decide) ?_
          have n9 : ¬ (pS4 B t Q).2.1 = 0 := (eB_0 _).mp c48
          rw [pSrc_e4 n9, eB_2 n9] at q0
          exact q0 _ g4
          
        · have e4 : (pS4 B t Q).2.1 = 0 := Decidable.byContradiction (fun h => c48 ((eB_0 _).mpr h))
          have a4 := w4 e4
          refine s_aload_n (pc2 := 52) w dX5_readSource_51 rfl rfl ?_
          refine s_iconst (pc2 := 53) (v := gI 1) w dX5_readSource_52 rfl rfl ?_
          refine s_bipush (pc2 := 55) (v := gI 10) w dX5_readSource_53 rfl rfl ?_
          refine r_X5_readNumber (pc2 := 58) (lo := 1) (hi := 10) w dX5_readSource_55 rfl rfl rfl hp0 g4 e4 a4 (by decide) rfl rfl ⟨by decide, by decide⟩ ⟨by decide, by decide⟩ (fun x5 h5 w5 => ?_)
          have g5 : CP B t m x0 (pS5 B t Q) x5 y := h5
          refine s_if_eq (pc2 := 61) (tgt := 76) w dX5_readSource_58 rfl (by decide) (fun c58 => ?_) (fun c58 => ?_)
          · refine s_iconst (pc2 := 77) (v := gI 0) w dX5_readSource_76 rfl rfl ?_
            refine s_istore_n (pc2 := 78) (k2 := 2) w dX5_readSource_77 rfl rfl rfl ?_
            dsimp only [gk_s1, gk_s2, gk_cl]
            refine s_iconst (pc2 := 79) (v := gI 1) w dX5_readSource_78 rfl rfl ?_
            refine s_istore_n (pc2 := 80) (k2 := 3) w dX5_readSource_79 rfl rfl rfl ?_
            dsimp only [gk_s1, gk_s2, gk_cl]
            refine s_iload_n (pc2 := 81) w dX5_readSource_80 rfl rfl ?_
            refine s_if_eq (pc2 := 84) (tgt := 112) w dX5_readSource_81 rfl (by decide) (fun _ => ?_) (fun h0 => absurd (rfl) h0)
            refine s_iload_n (pc2 := 113) w dX5_readSource_112 rfl rfl ?_
            refine s_if_eq (pc2 := 116) (tgt := 156) w dX5_readSource_113 rfl (by decide) (fun _ => ?_) (fun h0 => absurd (rfl) h0)
            refine s_iload_n (pc2 := 157) w dX5_readSource_156 rfl rfl ?_
            refine s_ireturn w dX5_readSource_157 rfl (by first | rfl | decide) ?_
            have n9 : ¬ (pS5 B t Q).2.1 = 0 := (eB_0 _).mp c58
            rw [pSrc_e5 n9, eB_2 n9] at q0
            exact q0 _ g5
            
          · have e5 : (pS5 B t Q).2.1 = 0 := Decidable.byContradiction (fun h => c58 ((eB_0 _).mpr h))
            have a5 := w5 e5
            obtain ⟨-, hs6, hg, r1, r2, r3, r4⟩ := pS_0 nv4 e5
            obtain ⟨w0, hw0, ew0⟩ := pS_v nv4 e5
            have hS := pSrc_n hg e5
            refine s_aload_n (pc2 := 62) w dX5_readSource_61 rfl rfl ?_
            refine s_bipush (pc2 := 64) (v := gI (-99)) w dX5_readSource_62 rfl rfl ?_
            refine s_bipush (pc2 := 66) (v := gI 99) w dX5_readSource_64 rfl rfl ?_
            refine r_X5_readInteger (pc2 := 69) (lo := -99) (hi := 99) w dX5_readSource_66 rfl rfl rfl hp0 g5 e5 a5 (by decide) rfl rfl ⟨by decide, by decide⟩ ⟨by decide, by decide⟩ (fun x6 g6 w6 => ?_)
            refine s_if_eq (pc2 := 72) (tgt := 76) w dX5_readSource_69 rfl (by decide) (fun c69 => ?_) (fun c69 => ?_)
            · refine s_iconst (pc2 := 77) (v := gI 0) w dX5_readSource_76 rfl rfl ?_
              refine s_istore_n (pc2 := 78) (k2 := 2) w dX5_readSource_77 rfl rfl rfl ?_
              dsimp only [gk_s1, gk_s2, gk_cl]
              refine s_iconst (pc2 := 79) (v := gI 1) w dX5_readSource_78 rfl rfl ?_
              refine s_istore_n (pc2 := 80) (k2 := 3) w dX5_readSource_79 rfl rfl rfl ?_
              dsimp only [gk_s1, gk_s2, gk_cl]
              have n9 : ¬ (pI B t (-99) 99 (pS5 B t Q)).2.1 = 0 := (eB_0 _).mp c69
              rw [pW1_e n9, pWn_e2 n9] at hS
              refine s_iload_n (pc2 := 81) w dX5_readSource_80 rfl rfl ?_
              refine s_if_eq (pc2 := 84) (tgt := 112) w dX5_readSource_81 rfl (by decide) (fun _ => ?_) (fun h0 => absurd (rfl) h0)
              refine s_iload_n (pc2 := 113) w dX5_readSource_112 rfl rfl ?_
              refine s_if_eq (pc2 := 116) (tgt := 156) w dX5_readSource_113 rfl (by decide) (fun _ => ?_) (fun h0 => absurd (rfl) h0)
              refine s_iload_n (pc2 := 157) w dX5_readSource_156 rfl rfl ?_
              refine s_ireturn w dX5_readSource_157 rfl (by first | rfl | decide) ?_
              rw [hS] at q0
              have h9 := q0 _ (g6.scn _ n9)
              rw [show eB ((pI B t (-99) 99 (pS5 B t Q)).1, (pI B t (-99) 99 (pS5 B t Q)).2.1, (gAS0 Q.2.2 (nS Q.2.2) (vN B t (pS1 B t Q)) (vI B t (pS2 B t Q)) (vN B t (pS3 B t Q)) (vN B t (pS4 B t Q)))) = 0 from eB_2 n9] at h9
              exact h9
              
            · have e6 : (pI B t (-99) 99 (pS5 B t Q)).2.1 = 0 := Decidable.byContradiction (fun h => c69 ((eB_0 _).mpr h))
              obtain ⟨F6, a6, f0, f1, f2, f3, f4⟩ : ∃ F, AR F 5 x6 ∧ F 0 = vN B t (pS1 B t Q) ∧ F 1 = vI B t (pS2 B t Q) ∧ F 2 = vN B t (pS3 B t Q) ∧ F 3 = vN B t (pS4 B t Q) ∧ F 4 = vI B t (pS5 B t Q) := ⟨_, w6 e6, (gU_ne (by decide)).trans ((gU_ne (by decide)).trans ((gU_ne (by decide)).trans ((gU_ne (by decide)).trans (if_pos rfl)))), (gU_ne (by decide)).trans ((gU_ne (by decide)).trans ((gU_ne (by decide)).trans (if_pos rfl))), (gU_ne (by decide)).trans ((gU_ne (by decide)).trans (if_pos rfl)), (gU_ne (by decide)).trans (if_pos rfl), if_pos rfl⟩
              rw [pW1_1 e6] at hS
              refine s_iconst (pc2 := 73) (v := gI 1) w dX5_readSource_72 rfl rfl ?_
              refine s_goto (tgt := 77) w dX5_readSource_73 (by decide) ?_
              refine s_istore_n (pc2 := 78) (k2 := 2) w dX5_readSource_77 rfl rfl rfl ?_
              dsimp only [gk_s1, gk_s2, gk_cl]
              refine s_iconst (pc2 := 79) (v := gI 1) w dX5_readSource_78 rfl rfl ?_
              refine s_istore_n (pc2 := 80) (k2 := 3) w dX5_readSource_79 rfl rfl rfl ?_
              dsimp only [gk_s1, gk_s2, gk_cl]
              have bad : ∀ (n : Nat) (xb : gk_X), ¬ (pSrc B t Q).2.1 = 0 → CP B t m x0 (pSrc B t Q) xb y → V 80 [some (.ref 97), some (.ref 44), some (.int 0), some (.int (nI n))] [] 202 gk_fT xb y 0 := by
                intro n xb hn hc
                refine s_iload_n (pc2 := 81) w dX5_readSource_80 rfl rfl ?_
                refine s_if_eq (pc2 := 84) (tgt := 112) w dX5_readSource_81 rfl (by decide) (fun _ => ?_) (fun h0 => absurd (rfl) h0)
                refine s_iload_n (pc2 := 113) w dX5_readSource_112 rfl rfl ?_
                refine s_if_eq (pc2 := 116) (tgt := 156) w dX5_readSource_113 rfl (by decide) (fun _ => ?_) (fun h0 => absurd (rfl) h0)
                refine s_iload_n (pc2 := 157) w dX5_readSource_156 rfl rfl ?_
                refine s_ireturn w dX5_readSource_157 rfl (by first | rfl | decide) ?_
                rw [eB_2 hn] at q0
                exact q0 xb hc
              have ex : ∀ (n : Nat) (Q1 : gk_P) (F : Nat → Int32) (xb : gk_X), 1 ≤ n → n ≤ 16 → CP B t m x0 Q1 xb y → Q1.2.1 = 0 → Q1.2.2 = Q.2.2 → AR F (4 + n) xb → F 0 = vN B t (pS1 B t Q) → F 1 = vI B t (pS2 B t Q) → F 2 = vN B t (pS3 B t Q) → F 3 = vN B t (pS4 B t Q) → (∀ k, k < n → -99 ≤ F (4 + k) ∧ F (4 + k) ≤ 99) → pSrc B t Q = (Q1.1, Q1.2.1, gF (gAS0 Q.2.2 (nS Q.2.2) (vN B t (pS1 B t Q)) (vI B t (pS2 B t Q)) (vN B t (pS3 B t Q)) (vN B t (pS4 B t Q))) (nS Q.2.2) (fun k => F (4 + k)) n) → V 112 [some (.ref 97), some (.ref 44), some (.int 1), some (.int (nI n))] [] 202 gk_fT xb y 0 := by
                intro n Q1 F xb h1 h16 hc h0 hq hA f0 f1 f2 f3 hr hS
                obtain ⟨s1, s2⟩ := hc.2.2.2.2.2.2.2 h0
                rw [hq] at s1
                refine s_iload_n (pc2 := 113) w dX5_readSource_112 rfl rfl ?_
                refine s_if_eq (pc2 := 116) (tgt := 156) w dX5_readSource_113 rfl (by decide) (fun h0 => absurd h0 (by decide)) (fun _ => ?_)
                refine s_aload_n (pc2 := 117) w dX5_readSource_116 rfl rfl ?_
                refine s_aload_n (pc2 := 118) w dX5_readSource_117 rfl rfl ?_
                refine m_getR (pc2 := 121) (ci := 5) (k := 4) (j2 := 102) w dX5_readSource_118 rfl rfl rfl rfl rfl rfl ?_
                refine s_iconst (pc2 := 122) (v := gI 0) w dX5_readSource_121 rfl rfl ?_
                refine m_ialoadN (pc2 := 123) (t := 0) (N := 20) w dX5_readSource_122 rfl rfl rfl rfl (by decide) rfl ?_
                rw [show xb 102 0 = F 0 from hA.2 0 (by omega), f0, ew0]
                refine s_aload_n (pc2 := 124) w dX5_readSource_123 rfl rfl ?_
                refine m_getR (pc2 := 127) (ci := 5) (k := 4) (j2 := 102) w dX5_readSource_124 rfl rfl rfl rfl rfl rfl ?_
                refine s_iconst (pc2 := 128) (v := gI 1) w dX5_readSource_127 rfl rfl ?_
                refine m_ialoadN (pc2 := 129) (t := 1) (N := 20) w dX5_readSource_128 rfl rfl rfl rfl (by decide) rfl ?_
                rw [show xb 102 1 = F 1 from hA.2 1 (by omega), f1]
                refine s_aload_n (pc2 := 130) w dX5_readSource_129 rfl rfl ?_
                refine m_getR (pc2 := 133) (ci := 5) (k := 4) (j2 := 102) w dX5_readSource_130 rfl rfl rfl rfl rfl rfl ?_
                refine s_iconst (pc2 := 134) (v := gI 2) w dX5_readSource_133 rfl rfl ?_
                refine m_ialoadN (pc2 := 135) (t := 2) (N := 20) w dX5_readSource_134 rfl rfl rfl rfl (by decide) rfl ?_
                rw [show xb 102 2 = F 2 from hA.2 2 (by omega), f2]
                refine s_aload_n (pc2 := 136) w dX5_readSource_135 rfl rfl ?_
                refine m_getR (pc2 := 139) (ci := 5) (k := 4) (j2 := 102) w dX5_readSource_136 rfl rfl rfl rfl rfl rfl ?_
                refine s_iconst (pc2 := 140) (v := gI 3) w dX5_readSource_139 rfl rfl ?_
                refine m_ialoadN (pc2 := 141) (t := 3) (N := 20) w dX5_readSource_140 rfl rfl rfl rfl (by decide) rfl ?_
                rw [show xb 102 3 = F 3 from hA.2 3 (by omega), f3]
                refine s_aload_n (pc2 := 142) w dX5_readSource_141 rfl rfl ?_
                refine m_getR (pc2 := 145) (ci := 5) (k := 4) (j2 := 102) w dX5_readSource_142 rfl rfl rfl rfl rfl rfl ?_
                refine s_iconst (pc2 := 146) (v := gI 4) w dX5_readSource_145 rfl rfl ?_
                refine m_ialoadN (pc2 := 147) (t := 4) (N := 20) w dX5_readSource_146 rfl rfl rfl rfl (by decide) rfl ?_
                rw [show xb 102 4 = F 4 from hA.2 4 (by omega)]
                refine r_X4_putSource (pc2 := 150) w dX5_readSource_147 rfl rfl rfl rfl (Or.inr rfl) s1 hok.1 rfl hw0 (fun _ x9 v1 v2 => ?_) (fun h => absurd hs6 h)
                refine s_pop (pc2 := 151) w dX5_readSource_150 rfl rfl ?_
                refine s_aload_n (pc2 := 152) w dX5_readSource_151 rfl rfl ?_
                refine s_aload_n (pc2 := 153) w dX5_readSource_152 rfl rfl ?_
                refine r_X5_putMoreValues (pc2 := 156) (g := gAS0 Q.2.2 (nS Q.2.2) (nI w0) (vI B t (pS2 B t Q)) (vN B t (pS3 B t Q)) (vN B t (pS4 B t Q))) (a := nS Q.2.2) (f := fun k => F (4 + k)) (h := F) (l0 := n) w dX5_readSource_153 rfl rfl rfl v1 (SV_1 hok hs6 hw0 r2 r3 r4 (hr 0 (by omega))) (nS_F1 hs6) ⟨(v2 97 5 (by omega)).trans hA.1, fun k hk => (v2 102 k (by omega)).trans (hA.2 k hk)⟩ ⟨h1, h16⟩ (fun _ _ => rfl) hr hs6 (fun x10 z1 z2 z3 => ?_)
                refine s_iload_n (pc2 := 157) w dX5_readSource_156 rfl rfl ?_
                refine s_ireturn w dX5_readSource_157 rfl (by first | rfl | decide) ?_
                rw [ew0, h0] at hS
                rw [hS] at q0
                exact q0 x10 (hc.put h0 z1 z2.1 (fun i k h => (z3 i k (by omega)).trans (v2 i k h)))
              have key : ∀ (k n : Nat) (Q1 : gk_P) (F : Nat → Int32) (xb : gk_X), n + k = 16 → 1 ≤ n → CP B t m x0 Q1 xb y → Q1.2.1 = 0 → Q1.2.2 = Q.2.2 → AR F (4 + n) xb → F 0 = vN B t (pS1 B t Q) → F 1 = vI B t (pS2 B t Q) → F 2 = vN B t (pS3 B t Q) → F 3 = vN B t (pS4 B t Q) → (∀ k, k < n → -99 ≤ F (4 + k) ∧ F (4 + k) ≤ 99) → pSrc B t Q = pWn B t (nS Q.2.2) k n (Q1.1, Q1.2.1, gF (gAS0 Q.2.2 (nS Q.2.2) (vN B t (pS1 B t Q)) (vI B t (pS2 B t Q)) (vN B t (pS3 B t Q)) (vN B t (pS4 B t Q))) (nS Q.2.2) (fun k => F (4 + k)) n) → V 80 [some (.ref 97), some (.ref 44), some (.int 1), some (.int (nI n))] [] 202 gk_fT xb y 0 := by
                intro k
                induction k with
                | zero =>
                  intro n Q1 F xb hn h1 hc h0 hq hA f0 f1 f2 f3 hr hS
                  refine s_iload_n (pc2 := 81) w dX5_readSource_80 rfl rfl ?_
                  refine s_if_eq (pc2 := 84) (tgt := 112) w dX5_readSource_81 rfl (by decide) (fun h0 => absurd h0 (by decide)) (fun _ => ?_)
                  refine s_iload_n (pc2 := 85) w dX5_readSource_84 rfl rfl ?_
                  refine s_bipush (pc2 := 87) (v := gI 16) w dX5_readSource_85 rfl rfl ?_
                  refine s_ic_ge (pc2 := 90) (tgt := 112) w dX5_readSource_87 rfl (by decide) (fun _ => ?_) (fun h0 => absurd (by rw [show gI 16 = nI 16 from rfl, nI_ge2 (by omega) (by omega)]; omega) h0)
                  rw [pWn_0] at hS
                  exact ex n Q1 F xb h1 (by omega) hc h0 hq hA f0 f1 f2 f3 hr hS
                | succ k ih =>
                  intro n Q1 F xb hn h1 hc h0 hq hA f0 f1 f2 f3 hr hS
                  refine s_iload_n (pc2 := 81) w dX5_readSource_80 rfl rfl ?_
                  refine s_if_eq (pc2 := 84) (tgt := 112) w dX5_readSource_81 rfl (by decide) (fun h0 => absurd h0 (by decide)) (fun _ => ?_)
                  refine s_iload_n (pc2 := 85) w dX5_readSource_84 rfl rfl ?_
                  refine s_bipush (pc2 := 87) (v := gI 16) w dX5_readSource_85 rfl rfl ?_
                  refine s_ic_ge (pc2 := 90) (tgt := 112) w dX5_readSource_87 rfl (by decide) (fun h0 => absurd h0 (by rw [show gI 16 = nI 16 from rfl, nI_ge2 (by omega) (by omega)]; omega)) (fun _ => ?_)
                  refine s_aload_n (pc2 := 91) w dX5_readSource_90 rfl rfl ?_
                  refine r_X5_isAtInteger (pc2 := 94) w dX5_readSource_91 rfl rfl rfl hp0 hc ?_
                  refine s_if_eq (pc2 := 97) (tgt := 112) w dX5_readSource_94 rfl (by decide) (fun c94 => ?_) (fun c94 => ?_)
                  · have hK : ¬ (KK B t Q1.1 = 4 ∨ KK B t Q1.1 = 3) := fun h => by rw [if_pos h] at c94; exact absurd c94 (by decide)
                    rw [show pWn B t (nS Q.2.2) (k + 1) n (Q1.1, Q1.2.1, gF (gAS0 Q.2.2 (nS Q.2.2) (vN B t (pS1 B t Q)) (vI B t (pS2 B t Q)) (vN B t (pS3 B t Q)) (vN B t (pS4 B t Q))) (nS Q.2.2) (fun k => F (4 + k)) n) = (Q1.1, Q1.2.1, gF (gAS0 Q.2.2 (nS Q.2.2) (vN B t (pS1 B t Q)) (vI B t (pS2 B t Q)) (vN B t (pS3 B t Q)) (vN B t (pS4 B t Q))) (nS Q.2.2) (fun k => F (4 + k)) n) from if_neg (fun h => hK h.2)] at hS
                    exact ex n Q1 F xb h1 (by omega) hc h0 hq hA f0 f1 f2 f3 hr hS
                  · have hK : KK B t Q1.1 = 4 ∨ KK B t Q1.1 = 3 := Decidable.byContradiction (fun h => c94 (by rw [if_neg h]))
                    rw [show pWn B t (nS Q.2.2) (k + 1) n (Q1.1, Q1.2.1, gF (gAS0 Q.2.2 (nS Q.2.2) (vN B t (pS1 B t Q)) (vI B t (pS2 B t Q)) (vN B t (pS3 B t Q)) (vN B t (pS4 B t Q))) (nS Q.2.2) (fun k => F (4 + k)) n) = pW B t (nS Q.2.2) (k + 1) n (Q1.1, Q1.2.1, gF (gAS0 Q.2.2 (nS Q.2.2) (vN B t (pS1 B t Q)) (vI B t (pS2 B t Q)) (vN B t (pS3 B t Q)) (vN B t (pS4 B t Q))) (nS Q.2.2) (fun k => F (4 + k)) n) from if_pos ⟨h0, hK⟩, pW_n] at hS
                    refine s_aload_n (pc2 := 98) w dX5_readSource_97 rfl rfl ?_
                    refine s_bipush (pc2 := 100) (v := gI (-99)) w dX5_readSource_98 rfl rfl ?_
                    refine s_bipush (pc2 := 102) (v := gI 99) w dX5_readSource_100 rfl rfl ?_
                    refine r_X5_readInteger (pc2 := 105) (lo := -99) (hi := 99) w dX5_readSource_102 rfl rfl rfl hp0 hc h0 hA (by omega) rfl rfl ⟨by decide, by decide⟩ ⟨by decide, by decide⟩ (fun xc g7 w7 => ?_)
                    refine s_istore_n (pc2 := 106) (k2 := 2) w dX5_readSource_105 rfl rfl rfl ?_
                    dsimp only [gk_s1, gk_s2, gk_cl]
                    refine s_iinc (pc2 := 109) w dX5_readSource_106 rfl rfl rfl rfl ?_
                    dsimp only [gk_s1, gk_s2, gk_cl]
                    rw [nI_s]
                    refine s_goto (tgt := 80) w dX5_readSource_109 (by decide) ?_
                    by_cases e9 : (pI B t (-99) 99 Q1).2.1 = 0
                    · rw [eB_1 e9]
                      obtain ⟨-, y2, y3⟩ := pI_0 ⟨by decide, by decide⟩ ⟨by decide, by decide⟩ e9
                      have hU : ∀ j, j ≠ 4 + n → gU F (4 + n) (vI B t Q1) j = F j := fun j hj => if_neg hj
                      have hU2 : gU F (4 + n) (vI B t Q1) (4 + n) = vI B t Q1 := if_pos rfl
                      refine ih (n + 1) _ (gU F (4 + n) (vI B t Q1)) xc (by omega) (by omega) g7 e9 (y3.trans hq) (w7 e9) ((hU 0 (by omega)).trans f0) ((hU 1 (by omega)).trans f1) ((hU 2 (by omega)).trans f2) ((hU 3 (by omega)).trans f3) (fun j hj => ?_) ?_
                      · rcases Nat.lt_or_ge j n with h2 | h2
                        · rw [hU (4 + j) (by omega)]; exact hr j h2
                        · rw [show j = n from by omega, hU2]; exact y2
                      · rw [hS, pW1_1 e9, gF_s (g := (gAS0 Q.2.2 (nS Q.2.2) (vN B t (pS1 B t Q)) (vI B t (pS2 B t Q)) (vN B t (pS3 B t Q)) (vN B t (pS4 B t Q)))) (a := (nS Q.2.2)) (F := F) (n := n) (v := vI B t Q1), e9]
                    · rw [eB_2 e9]
                      rw [pW1_e e9, pWn_e2 e9] at hS
                      exact bad (n + 1) xc (by rw [hS]; exact e9) (by rw [hS]; exact g7.scn _ e9)
              have y2 := (pI_0 (lo := -99) (hi := 99) ⟨by decide, by decide⟩ ⟨by decide, by decide⟩ e6).2.1
              have y3 := (pI_0 (lo := -99) (hi := 99) ⟨by decide, by decide⟩ ⟨by decide, by decide⟩ e6).2.2
              exact key 15 1 _ F6 x6 (by omega) (by omega) g6 e6 (y3.trans hg) a6 f0 f1 f2 f3 (fun k hk => by rw [show k = 0 from by omega, f4]; exact y2) (by rw [hS, e6, gF_1 (f := fun k => F6 (4 + k)) f4])
theorem lk_X5_readSource {l : Launch} (hl : l.stackTraces = false) : ∀ q ∈ L_X5_readSource, (q.2.1 < 5 → gk_Lk l RX5 gk_W1 3 q.1 q.2.1 q.2.2.1 q.2.2.2.1 q.2.2.2.2.1 q.2.2.2.2.2) := (List.forall_mem_cons.mpr ⟨(fun _ => ⟨yX5_readNumber, cX5_readNumber, 3, (some .boolean), 2, _, M_X5_readNumber hl, ⟨by decide, by decide⟩, ⟨by decide, by decide, by decide +kernel⟩, ⟨(gk_wm 638 (by decide +kernel)), (gk_wm 97 (by decide +kernel))⟩, Or.inr (Or.inr (Or.inr (Or.inl ⟨rfl, rfl, (gk_wm 637 (by decide +kernel)), (gk_wm 14 (by decide +kernel)), gk_wm 635 (by decide +kernel), by decide, rfl⟩)))⟩), (List.forall_mem_cons.mpr ⟨(fun _ => ⟨yX5_readInteger, cX5_readInteger, 3, (some .boolean), 2, _, M_X5_readInteger hl, ⟨by decide, by decide⟩, ⟨by decide, by decide, by decide +kernel⟩, ⟨(gk_wm 625 (by decide +kernel)), (gk_wm 97 (by decide +kernel))⟩, Or.inr (Or.inr (Or.inr (Or.inl ⟨rfl, rfl, (gk_wm 624 (by decide +kernel)), (gk_wm 12 (by decide +kernel)), gk_wm 622 (by decide +kernel), by decide, rfl⟩)))⟩), (List.forall_mem_cons.mpr ⟨(fun _ => ⟨yX5_readWord, cX5_readWord, 3, (some .boolean), 1, _, M_X5_readWord hl, ⟨by decide, by decide⟩, ⟨by decide, by decide, by decide +kernel⟩, ⟨(gk_wm 617 (by decide +kernel)), (gk_wm 97 (by decide +kernel))⟩, Or.inr (Or.inr (Or.inr (Or.inl ⟨rfl, rfl, (gk_wm 616 (by decide +kernel)), (gk_wm 10 (by decide +kernel)), gk_wm 614 (by decide +kernel), by decide, rfl⟩)))⟩), (List.forall_mem_cons.mpr ⟨(fun _ => ⟨yX5_isAtInteger, cX5_isAtInteger, 2, (some .boolean), 1, _, M_X5_isAtInteger hl, ⟨by decide, by decide⟩, ⟨by decide, by decide, by decide +kernel⟩, ⟨(gk_wm 661 (by decide +kernel)), (gk_wm 97 (by decide +kernel))⟩, Or.inr (Or.inr (Or.inr (Or.inl ⟨rfl, rfl, (gk_wm 660 (by decide +kernel)), (gk_wm 17 (by decide +kernel)), gk_wm 658 (by decide +kernel), by decide, rfl⟩)))⟩), (List.forall_mem_cons.mpr ⟨(fun _ => ⟨yX4_putSource, cX4_putSource, 8, (some .int), 2, _, M_X4_putSource hl, ⟨by decide, by decide⟩, ⟨by decide, by decide, by decide +kernel⟩, ⟨(gk_wm 665 (by decide +kernel)), (gk_wm 90 (by decide +kernel))⟩, Or.inr (Or.inr (Or.inr (Or.inl ⟨rfl, rfl, (gk_wm 663 (by decide +kernel)), (gk_wm 664 (by decide +kernel)), gk_wm 662 (by decide +kernel), by decide, rfl⟩)))⟩), (List.forall_mem_cons.mpr ⟨(fun _ => ⟨yX5_putMoreValues, cX5_putMoreValues, 4, none, 1, _, M_X5_putMoreValues hl, ⟨by decide, by decide⟩, ⟨by decide, by decide, by decide +kernel⟩, ⟨(gk_wm 678 (by decide +kernel)), (gk_wm 97 (by decide +kernel))⟩, Or.inr (Or.inr (Or.inr (Or.inl ⟨rfl, rfl, (gk_wm 677 (by decide +kernel)), (gk_wm 18 (by decide +kernel)), gk_wm 675 (by decide +kernel), by decide, rfl⟩)))⟩), (fun _ h => absurd h List.not_mem_nil)⟩)⟩)⟩)⟩)⟩)⟩)
theorem sp_X5_readSource : ∀ q ∈ L_X5_readSource, gk_Sq RX5 gk_W1 3 q := (List.forall_mem_cons.mpr ⟨⟨fun h => absurd h (by decide), fun h => absurd h (by decide), fun h => absurd h (by decide), fun h => absurd h (by decide), fun h => absurd h (by decide), fun h => absurd h (by decide)⟩, (List.forall_mem_cons.mpr ⟨⟨fun h => absurd h (by decide), fun h => absurd h (by decide), fun h => absurd h (by decide), fun h => absurd h (by decide), fun h => absurd h (by decide), fun h => absurd h (by decide)⟩, (List.forall_mem_cons.mpr ⟨⟨fun h => absurd h (by decide), fun h => absurd h (by decide), fun h => absurd h (by decide), fun h => absurd h (by decide), fun h => absurd h (by decide), fun h => absurd h (by decide)⟩, (List.forall_mem_cons.mpr ⟨⟨fun h => absurd h (by decide), fun h => absurd h (by decide), fun h => absurd h (by decide), fun h => absurd h (by decide), fun h => absurd h (by decide), fun h => absurd h (by decide)⟩, (List.forall_mem_cons.mpr ⟨⟨fun h => absurd h (by decide), fun h => absurd h (by decide), fun h => absurd h (by decide), fun h => absurd h (by decide), fun h => absurd h (by decide), fun h => absurd h (by decide)⟩, (List.forall_mem_cons.mpr ⟨⟨fun h => absurd h (by decide), fun h => absurd h (by decide), fun h => absurd h (by decide), fun h => absurd h (by decide), fun h => absurd h (by decide), fun h => absurd h (by decide)⟩, (fun _ h => absurd h List.not_mem_nil)⟩)⟩)⟩)⟩)⟩)⟩)
theorem M_X5_readSource {l : Launch} (hl : l.stackTraces = false) : gk_Mt l yX5_readSource (.code yX5_readSource cX5_readSource 4 (some .boolean) :: gk_W1) 3 0 S_X5_readSource := gk_meth hl gk_cw_ok (by decide +kernel) rfl m_X5_readSource pX5_ok (gk_Sp_of sp_X5_readSource) pX5_st (fun ci m S h => absurd h (by intro h; cases h)) (xf_X5 3) (fun idx kd ci mm cost S2 h h5 => lk_X5_readSource hl _ (gk_lk_mem h) h5)

end GKV

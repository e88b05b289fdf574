/-! THE TEXT, 20: the reference parses microphones, vehicles, sources -/
section GKV
variable {c : ByteArray} {P : gk_C} {cs : Nat → Option gk_M0} {rt : Option FieldType} {uf : Nat} {sc : Option Nat} {K : gk_K} {V : gk_V}
variable {L : List (Option Value)} {r : List Value} {n : Nat} {fl : gk_F} {x : gk_X} {y : gk_Y} {u pc pc2 : Nat}
theorem RP.put {c : Nat → Int32} {t : Nat} {x0 : gk_X} {y0 : gk_Y} {Q : gk_P} {x x2 : gk_X} {y : gk_Y} {g : Nat → Int32} (h : RP c t x0 y0 Q x y) (h0 : Q.2.1 = 0) (h1 : MG g x2) (h3 : ∀ i k, i ≠ 190 → x2 i k = x i k) : RP c t x0 y0 (Q.1, 0, g) x2 y := by
  obtain ⟨r1, r2, r3, r4, r5, r6, r7⟩ := h
  exact ⟨fun i k a b => (h3 i k a).trans (r1 i k a b), r2, r3.cg (fun k _ _ => h3 189 k (by omega)) rfl, (h3 189 17 (by omega)).trans (r4.trans (by rw [h0])), Nat.zero_le 3, fun _ => ⟨(h3 189 18 (by omega)).trans (r6 h0).1, h1⟩, fun e => absurd rfl e⟩
/-- a source's values, read: what they leave is well -/
theorem pW_ok {c : Nat → Int32} {t a : Nat} : ∀ k l (Q : gk_P), l + k = 16 → 1 ≤ l → (Q.2.1 = 0 → SV Q.2.2 a l) → (pW c t a k l Q).2.1 = 0 → gOK (pW c t a k l Q).2.2
  | 0, l, Q, _, _, hV, h => (hV h).1
  | k + 1, l, Q, hk, hl, hV, h => by
    have hV2 : (pW1 c t a l Q).2.1 = 0 → SV (pW1 c t a l Q).2.2 a (l + 1) := fun h1 => by
      obtain ⟨h2, h3⟩ := pG_0 (f := fun g => gV1 g a l (vI c t Q)) h1
      obtain ⟨h4, h5, h6⟩ := pI_0 ⟨by decide, by decide⟩ ⟨by decide, by decide⟩ h2
      have e : (pW1 c t a l Q).2.2 = gV1 (pI c t (-99) 99 Q).2.2 a l (vI c t Q) := by
        unfold pW1
        rw [h3]
      rw [e, h6]
      exact SV_s (hV h4) (by omega) h5
    unfold pW at h ⊢
    split at h
    · next hc =>
      rw [if_pos hc]
      exact pW_ok k (l + 1) _ (by omega) (by omega) hV2 h
    · next hc =>
      rw [if_neg hc]
      exact (hV2 h).1
theorem pSrc_ok {c : Nat → Int32} {t : Nat} {Q : gk_P} (hQ : gOK Q.2.2) (h : (pSrc c t Q).2.1 = 0) : gOK (pSrc c t Q).2.2 := by
  obtain ⟨nv4, ns6, nm8, z6, z7, z8⟩ := wf_n hQ.1
  by_cases h5 : (pS5 c t Q).2.1 = 0
  · obtain ⟨-, hs, hg, r1, r2, r3, r4⟩ := pS_0 nv4 h5
    obtain ⟨w, hw, ew⟩ := pS_v nv4 h5
    have hV2 : (pW1 c t (nS Q.2.2) 0 (pS6 c t Q)).2.1 = 0 → SV (pW1 c t (nS Q.2.2) 0 (pS6 c t Q)).2.2 (nS Q.2.2) 1 := fun h1 => by
      obtain ⟨h2, h3⟩ := pG_0 (f := fun g => gV1 g (nS Q.2.2) 0 (vI c t (pS6 c t Q))) h1
      obtain ⟨h4, h7, h6⟩ := pI_0 ⟨by decide, by decide⟩ ⟨by decide, by decide⟩ h2
      have e : (pW1 c t (nS Q.2.2) 0 (pS6 c t Q)).2.2 = gV1 (pI c t (-99) 99 (pS6 c t Q)).2.2 (nS Q.2.2) 0 (vI c t (pS6 c t Q)) := by
        unfold pW1
        rw [h3]
      have e6 : (pS6 c t Q).2.2 = gAS0 Q.2.2 (nS Q.2.2) (nI w) (vI c t (pS2 c t Q)) (vN c t (pS3 c t Q)) (vN c t (pS4 c t Q)) := by
        rw [pS6_1 h5, hg, ew]
      rw [e, h6, e6]
      exact SV_1 hQ hs hw r2 r3 r4 h7
    unfold pSrc at h ⊢
    rw [pW_n] at h ⊢
    unfold pWn at h ⊢
    split at h
    · next hc =>
      rw [if_pos hc]
      exact pW_ok 15 1 _ (by omega) (by omega) hV2 h
    · next hc =>
      rw [if_neg hc]
      exact (hV2 h).1
  · rw [pSrc_e5 h5] at h
    exact absurd h h5
def S_X11_parseMicrophone : gk_S := fun as n fl x y K => ∃ (B : Nat → Int32) (t : Nat) (x0 : gk_X) (y0 : gk_Y) (Q : gk_P), as = [.ref 189] ∧ (n = 202 ∧ fl = gk_fT) ∧ (RH B t x0) ∧ (RP B t x0 y0 Q x y) ∧ (Q.2.1 = 0) ∧ (gOK Q.2.2) ∧ (∀ (x2 : gk_X) (y2 : gk_Y), RP B t x0 y0 (pMic B t Q) x2 y2 → K (.inl none) n fl x2 y2)
theorem r_X11_parseMicrophone (w : gk_W c P cs (fun _ _ => none) rt uf sc K V) {idx : Nat} {B : Nat → Int32} {t : Nat} {x0 : gk_X} {y0 : gk_Y} {Q : gk_P} (hd : decode c pc = .ok (.invokevirtual idx, 3)) (hp : pc + 3 = pc2) (hc : cs idx = some (1, 10, 1, 0, S_X11_parseMicrophone)) (h8 : Nat.ble (r.map Value.category).sum 8 = true) (hp0 : RH B t x0) (hp1 : RP B t x0 y0 Q x y) (hp2 : Q.2.1 = 0) (hp3 : gOK Q.2.2) (kk0 : ∀ (x2 : gk_X) (y2 : gk_Y), RP B t x0 y0 (pMic B t Q) x2 y2 → V pc2 L r 202 gk_fT x2 y2 u) : V pc L (.ref 189 :: r) 202 gk_fT x y u :=
  g_callv w hd hp hc (as := [.ref 189]) rfl h8 rfl rfl rfl (Or.inr (Or.inl ⟨Or.inl rfl, _, _, rfl, (gk_kd_j rfl rfl), rfl⟩)) (Or.inl rfl) ⟨B, t, x0, y0, Q, rfl, ⟨rfl, rfl⟩, hp0, hp1, hp2, hp3, kk0⟩
def L_X11_parseMicrophone : List (Nat × gk_M0) := [(103, (1, 10, 5, 0, S_X11_appendMicrophone)), (323, (1, 10, 3, 0, S_X11_require)), (327, (1, 10, 1, 0, S_X11_advance)), (330, (1, 10, 3, 0, S_X11_parseNumber)), (333, (1, 10, 3, 0, S_X11_parseInteger))]
def cs_X11_parseMicrophone : Nat → Option gk_M0 := gk_lk L_X11_parseMicrophone
theorem m_X11_parseMicrophone : ∀ (as : List Value) (n : Nat) (fl : gk_F) (x : gk_X) (y : gk_Y) (K : gk_K), S_X11_parseMicrophone as n fl x y K → (gk_L0 as).length ≤ 6 ∧ ∀ V : gk_V, gk_W cX11_parseMicrophone pX11 cs_X11_parseMicrophone (fun _ _ => none) none 0 none K V → V 0 (gk_en as 6) [] n fl x y 0 := by
  intro as n fl x y K hS
  obtain ⟨B, t, x0, y0, Q, rfl, ⟨rfl, rfl⟩, hp0, hp1, hp2, hp3, q0⟩ := hS
  refine ⟨Nat.le_of_ble_eq_true rfl, fun V w => ?_⟩
  show V 0 [some (.ref 189), none, none, none, none, none] [] 202 gk_fT x y 0
  obtain ⟨r1, r2, r3, r4, r5, r6, r7⟩ := id hp1
  obtain ⟨m1, m2⟩ := r6 hp2
  obtain ⟨nv4, ns6, nm8, z6, z7, z8⟩ := wf_n hp3.1
  have hcn : x 190 8 = nI (nM Q.2.2) := (m2 8 (by decide)).trans (gn_8 hp3.1)
  refine s_aload_n (pc2 := 1) w dX11_parseMicrophone_0 rfl rfl ?_
  refine s_aload_n (pc2 := 2) w dX11_parseMicrophone_1 rfl rfl ?_
  refine m_getR (pc2 := 5) (ci := 10) (k := 0) (j2 := 190) w dX11_parseMicrophone_2 rfl rfl rfl rfl rfl rfl ?_
  refine s_bipush (pc2 := 7) (v := gI 8) w dX11_parseMicrophone_5 rfl rfl ?_
  refine m_ialoadN (pc2 := 8) (t := 8) (N := 2234) w dX11_parseMicrophone_7 rfl rfl rfl rfl (by decide) rfl ?_
  rw [hcn]
  refine s_bipush (pc2 := 10) (v := gI 8) w dX11_parseMicrophone_8 rfl rfl ?_
  refine s_ic_ge (pc2 := 13) (tgt := 17) w dX11_parseMicrophone_10 rfl (by decide) (fun c10 => ?_) (fun c10 => ?_)
  · have hb : ((0 : Int32) = 0 ↔ decide (nM Q.2.2 < 8) = false) := ⟨fun _ => decide_eq_false ((nI_ge2 (a := nM Q.2.2) (b := 8) (by omega) (by decide)).mp c10), fun _ => rfl⟩
    refine s_iconst (pc2 := 18) (v := gI 0) w dX11_parseMicrophone_17 rfl rfl ?_
    refine s_iconst (pc2 := 19) (v := gI 3) w dX11_parseMicrophone_18 rfl rfl ?_
    refine r_X11_require (pc2 := 22) (b := decide (nM Q.2.2 < 8)) (k := 3) w dX11_parseMicrophone_19 rfl rfl rfl hp1 hb rfl (by decide) (by decide) (fun xq gq oq => ?_)
    refine s_aload_n (pc2 := 23) w dX11_parseMicrophone_22 rfl rfl ?_
    refine r_X11_advance (pc2 := 26) w dX11_parseMicrophone_23 rfl rfl rfl hp0 gq (fun x1 y1 h1 o1 => ?_)
    have g1 : RP B t x0 y0 (pM1 B t Q) x1 y1 := h1
    refine s_aload_n (pc2 := 27) w dX11_parseMicrophone_26 rfl rfl ?_
    refine s_sipush (pc2 := 30) (v := gI (-5000)) w dX11_parseMicrophone_27 rfl rfl ?_
    refine s_sipush (pc2 := 33) (v := gI 5000) w dX11_parseMicrophone_30 rfl rfl ?_
    refine r_X11_parseInteger (pc2 := 36) (lo := -5000) (hi := 5000) w dX11_parseMicrophone_33 rfl rfl rfl hp0 g1 rfl rfl ⟨by decide, by decide⟩ ⟨by decide, by decide⟩ (fun v1 x2 y2 h2 w1 => ?_)
    have g2 : RP B t x0 y0 (pM2 B t Q) x2 y2 := h2
    refine s_istore_n (pc2 := 37) (k2 := 1) w dX11_parseMicrophone_36 rfl rfl rfl ?_
    dsimp only [gk_s1, gk_s2, gk_cl]
    refine s_aload_n (pc2 := 38) w dX11_parseMicrophone_37 rfl rfl ?_
    refine s_bipush (pc2 := 40) (v := gI (-100)) w dX11_parseMicrophone_38 rfl rfl ?_
    refine s_bipush (pc2 := 42) (v := gI 99) w dX11_parseMicrophone_40 rfl rfl ?_
    refine r_X11_parseInteger (pc2 := 45) (lo := -100) (hi := 99) w dX11_parseMicrophone_42 rfl rfl rfl hp0 g2 rfl rfl ⟨by decide, by decide⟩ ⟨by decide, by decide⟩ (fun v2 x3 y3 h3 w2 => ?_)
    have g3 : RP B t x0 y0 (pM3 B t Q) x3 y3 := h3
    refine s_istore_n (pc2 := 46) (k2 := 2) w dX11_parseMicrophone_45 rfl rfl rfl ?_
    dsimp only [gk_s1, gk_s2, gk_cl]
    refine s_aload_n (pc2 := 47) w dX11_parseMicrophone_46 rfl rfl ?_
    refine s_iconst (pc2 := 48) (v := gI 0) w dX11_parseMicrophone_47 rfl rfl ?_
    refine s_sipush (pc2 := 51) (v := gI 500) w dX11_parseMicrophone_48 rfl rfl ?_
    refine r_X11_parseNumber (pc2 := 54) (lo := 0) (hi := 500) w dX11_parseMicrophone_51 rfl rfl rfl hp0 g3 rfl rfl ⟨by decide, by decide⟩ ⟨by decide, by decide⟩ (fun v3 x4 y4 h4 w3 => ?_)
    have g4 : RP B t x0 y0 (pM4 B t Q) x4 y4 := h4
    refine s_istore_n (pc2 := 55) (k2 := 3) w dX11_parseMicrophone_54 rfl rfl rfl ?_
    dsimp only [gk_s1, gk_s2, gk_cl]
    refine s_aload_n (pc2 := 56) w dX11_parseMicrophone_55 rfl rfl ?_
    refine s_iconst (pc2 := 57) (v := gI 0) w dX11_parseMicrophone_56 rfl rfl ?_
    refine s_bipush (pc2 := 59) (v := gI 9) w dX11_parseMicrophone_57 rfl rfl ?_
    refine r_X11_parseNumber (pc2 := 62) (lo := 0) (hi := 9) w dX11_parseMicrophone_59 rfl rfl rfl hp0 g4 rfl rfl ⟨by decide, by decide⟩ ⟨by decide, by decide⟩ (fun v4 x5 y5 h5 w4 => ?_)
    have g5 : RP B t x0 y0 (pM5 B t Q) x5 y5 := h5
    refine s_istore (pc2 := 64) w dX11_parseMicrophone_62 rfl rfl ?_
    dsimp only [gk_s1, gk_s2, gk_cl]
    refine s_aload_n (pc2 := 65) w dX11_parseMicrophone_64 rfl rfl ?_
    refine m_getI (pc2 := 68) (ci := 10) (k := 17) w dX11_parseMicrophone_65 rfl rfl rfl rfl rfl ?_
    rw [g5.2.2.2.1]
    refine s_if_ne (pc2 := 71) (tgt := 82) w dX11_parseMicrophone_68 rfl (by decide) (fun c68 => ?_) (fun c68 => ?_)
    · refine s_return w dX11_parseMicrophone_82 rfl ?_
      rw [pMic_e5 (fun h => c68 ((e_0 g5.2.2.2.2.1).mpr h))] at q0
      exact q0 _ _ g5
    · have eL : (pM5 B t Q).2.1 = 0 := (e_0 g5.2.2.2.2.1).mp c68
      obtain ⟨⟨e1, e2, e3, e4⟩, hroom, hg, -⟩ := pM_0 eL
      obtain rfl := w1 e2
      obtain rfl := w2 e3
      obtain rfl := w3 e4
      obtain rfl := w4 eL
      have hgn : (pM5 B t Q).2.2 8 = nI (nM (pM5 B t Q).2.2) := by rw [hg]; exact gn_8 hp3.1
      refine s_aload_n (pc2 := 72) w dX11_parseMicrophone_71 rfl rfl ?_
      refine s_iload_n (pc2 := 73) w dX11_parseMicrophone_72 rfl rfl ?_
      refine s_iload_n (pc2 := 74) w dX11_parseMicrophone_73 rfl rfl ?_
      refine s_iload_n (pc2 := 75) w dX11_parseMicrophone_74 rfl rfl ?_
      refine s_iload (pc2 := 77) w dX11_parseMicrophone_75 rfl rfl ?_
      refine r_X11_appendMicrophone (pc2 := 80) w dX11_parseMicrophone_77 rfl rfl rfl (g5.2.2.2.2.2.1 eL).2 hgn (by rw [hg]; exact hroom) (fun x9 u1 u2 => ?_)
      refine s_istore (pc2 := 82) w dX11_parseMicrophone_80 rfl rfl ?_
      dsimp only [gk_s1, gk_s2, gk_cl]
      refine s_return w dX11_parseMicrophone_82 rfl ?_
      rw [show pMic B t Q = _ from pG_1 eL] at q0
      exact q0 _ _ (g5.put eL u1 u2)
  · have hb : ((1 : Int32) = 0 ↔ decide (nM Q.2.2 < 8) = false) := ⟨fun h => absurd h (by decide), fun h => absurd (of_decide_eq_false h) (fun h2 => h2 (Decidable.byContradiction (fun h3 => c10 ((nI_ge2 (a := nM Q.2.2) (b := 8) (by omega) (by decide)).mpr h3))))⟩
    refine s_iconst (pc2 := 14) (v := gI 1) w dX11_parseMicrophone_13 rfl rfl ?_
    refine s_goto (tgt := 18) w dX11_parseMicrophone_14 (by decide) ?_
    refine s_iconst (pc2 := 19) (v := gI 3) w dX11_parseMicrophone_18 rfl rfl ?_
    refine r_X11_require (pc2 := 22) (b := decide (nM Q.2.2 < 8)) (k := 3) w dX11_parseMicrophone_19 rfl rfl rfl hp1 hb rfl (by decide) (by decide) (fun xq gq oq => ?_)
    refine s_aload_n (pc2 := 23) w dX11_parseMicrophone_22 rfl rfl ?_
    refine r_X11_advance (pc2 := 26) w dX11_parseMicrophone_23 rfl rfl rfl hp0 gq (fun x1 y1 h1 o1 => ?_)
    have g1 : RP B t x0 y0 (pM1 B t Q) x1 y1 := h1
    refine s_aload_n (pc2 := 27) w dX11_parseMicrophone_26 rfl rfl ?_
    refine s_sipush (pc2 := 30) (v := gI (-5000)) w dX11_parseMicrophone_27 rfl rfl ?_
    refine s_sipush (pc2 := 33) (v := gI 5000) w dX11_parseMicrophone_30 rfl rfl ?_
    refine r_X11_parseInteger (pc2 := 36) (lo := -5000) (hi := 5000) w dX11_parseMicrophone_33 rfl rfl rfl hp0 g1 rfl rfl ⟨by decide, by decide⟩ ⟨by decide, by decide⟩ (fun v1 x2 y2 h2 w1 => ?_)
    have g2 : RP B t x0 y0 (pM2 B t Q) x2 y2 := h2
    refine s_istore_n (pc2 := 37) (k2 := 1) w dX11_parseMicrophone_36 rfl rfl rfl ?_
    dsimp only [gk_s1, gk_s2, gk_cl]
    refine s_aload_n (pc2 := 38) w dX11_parseMicrophone_37 rfl rfl ?_
    refine s_bipush (pc2 := 40) (v := gI (-100)) w dX11_parseMicrophone_38 rfl rfl ?_
    refine s_bipush (pc2 := 42) (v := gI 99) w dX11_parseMicrophone_40 rfl rfl ?_
    refine r_X11_parseInteger (pc2 := 45) (lo := -100) (hi := 99) w dX11_parseMicrophone_42 rfl rfl rfl hp0 g2 rfl rfl ⟨by decide, by decide⟩ ⟨by decide, by decide⟩ (fun v2 x3 y3 h3 w2 => ?_)
    have g3 : RP B t x0 y0 (pM3 B t Q) x3 y3 := h3
    refine s_istore_n (pc2 := 46) (k2 := 2) w dX11_parseMicrophone_45 rfl rfl rfl ?_
    dsimp only [gk_s1, gk_s2, gk_cl]
    refine s_aload_n (pc2 := 47) w dX11_parseMicrophone_46 rfl rfl ?_
    refine s_iconst (pc2 := 48) (v := gI 0) w dX11_parseMicrophone_47 rfl rfl ?_
    refine s_sipush (pc2 := 51) (v := gI 500) w dX11_parseMicrophone_48 rfl rfl ?_
    refine r_X11_parseNumber (pc2 := 54) (lo := 0) (hi := 500) w dX11_parseMicrophone_51 rfl rfl rfl hp0 g3 rfl rfl ⟨by decide, by decide⟩ ⟨by decide, by decide⟩ (fun v3 x4 y4 h4 w3 => ?_)
    have g4 : RP B t x0 y0 (pM4 B t Q) x4 y4 := h4
    refine s_istore_n (pc2 := 55) (k2 := 3) w dX11_parseMicrophone_54 rfl rfl rfl ?_
    dsimp only [gk_s1, gk_s2, gk_cl]
    refine s_aload_n (pc2 := 56) w dX11_parseMicrophone_55 rfl rfl ?_
    refine s_iconst (pc2 := 57) (v := gI 0) w dX11_parseMicrophone_56 rfl rfl ?_
    refine s_bipush (pc2 := 59) (v := gI 9) w dX11_parseMicrophone_57 rfl rfl ?_
    refine r_X11_parseNumber (pc2 := 62) (lo := 0) (hi := 9) w dX11_parseMicrophone_59 rfl rfl rfl hp0 g4 rfl rfl ⟨by decide, by decide⟩ ⟨by decide, by decide⟩ (fun v4 x5 y5 h5 w4 => ?_)
    have g5 : RP B t x0 y0 (pM5 B t Q) x5 y5 := h5
    refine s_istore (pc2 := 64) w dX11_parseMicrophone_62 rfl rfl ?_
    dsimp only [gk_s1, gk_s2, gk_cl]
    refine s_aload_n (pc2 := 65) w dX11_parseMicrophone_64 rfl rfl ?_
    refine m_getI (pc2 := 68) (ci := 10) (k := 17) w dX11_parseMicrophone_65 rfl rfl rfl rfl rfl ?_
    rw [g5.2.2.2.1]
    refine s_if_ne (pc2 := 71) (tgt := 82) w dX11_parseMicrophone_68 rfl (by decide) (fun c68 => ?_) (fun c68 => ?_)
    · refine s_return w dX11_parseMicrophone_82 rfl ?_
      rw [pMic_e5 (fun h => c68 ((e_0 g5.2.2.2.2.1).mpr h))] at q0
      exact q0 _ _ g5
    · have eL : (pM5 B t Q).2.1 = 0 := (e_0 g5.2.2.2.2.1).mp c68
      obtain ⟨⟨e1, e2, e3, e4⟩, hroom, hg, -⟩ := pM_0 eL
      obtain rfl := w1 e2
      obtain rfl := w2 e3
      obtain rfl := w3 e4
      obtain rfl := w4 eL
      have hgn : (pM5 B t Q).2.2 8 = nI (nM (pM5 B t Q).2.2) := by rw [hg]; exact gn_8 hp3.1
      refine s_aload_n (pc2 := 72) w dX11_parseMicrophone_71 rfl rfl ?_
      refine s_iload_n (pc2 := 73) w dX11_parseMicrophone_72 rfl rfl ?_
      refine s_iload_n (pc2 := 74) w dX11_parseMicrophone_73 rfl rfl ?_
      refine s_iload_n (pc2 := 75) w dX11_parseMicrophone_74 rfl rfl ?_
      refine s_iload (pc2 := 77) w dX11_parseMicrophone_75 rfl rfl ?_
      refine r_X11_appendMicrophone (pc2 := 80) w dX11_parseMicrophone_77 rfl rfl rfl (g5.2.2.2.2.2.1 eL).2 hgn (by rw [hg]; exact hroom) (fun x9 u1 u2 => ?_)
      refine s_istore (pc2 := 82) w dX11_parseMicrophone_80 rfl rfl ?_
      dsimp only [gk_s1, gk_s2, gk_cl]
      refine s_return w dX11_parseMicrophone_82 rfl ?_
      rw [show pMic B t Q = _ from pG_1 eL] at q0
      exact q0 _ _ (g5.put eL u1 u2)
theorem lk_X11_parseMicrophone {l : Launch} (hl : l.stackTraces = false) : ∀ q ∈ L_X11_parseMicrophone, (q.2.1 < 5 → gk_Lk l RX11 gk_W1 6 q.1 q.2.1 q.2.2.1 q.2.2.2.1 q.2.2.2.2.1 q.2.2.2.2.2) := (List.forall_mem_cons.mpr ⟨(fun _ => ⟨yX11_appendMicrophone, cX11_appendMicrophone, 6, (some .int), 0, _, M_X11_appendMicrophone hl, ⟨by decide, by decide⟩, ⟨by decide, by decide, by decide +kernel⟩, ⟨(gk_wm 1413 (by decide +kernel)), (gk_wm 99 (by decide +kernel))⟩, Or.inr (Or.inr (Or.inr (Or.inl ⟨rfl, rfl, (gk_wm 1412 (by decide +kernel)), (gk_wm 39 (by decide +kernel)), gk_wm 1410 (by decide +kernel), by decide, rfl⟩)))⟩), (List.forall_mem_cons.mpr ⟨(fun _ => ⟨yX11_require, cX11_require, 3, none, 0, _, M_X11_require hl, ⟨by decide, by decide⟩, ⟨by decide, by decide, by decide +kernel⟩, ⟨(gk_wm 1757 (by decide +kernel)), (gk_wm 99 (by decide +kernel))⟩, Or.inr (Or.inr (Or.inr (Or.inl ⟨rfl, rfl, (gk_wm 1756 (by decide +kernel)), (gk_wm 82 (by decide +kernel)), gk_wm 1754 (by decide +kernel), by decide, rfl⟩)))⟩), (List.forall_mem_cons.mpr ⟨(fun _ => ⟨yX11_advance, cX11_advance, 1, none, 3, _, M_X11_advance hl, ⟨by decide, by decide⟩, ⟨by decide, by decide, by decide +kernel⟩, ⟨(gk_wm 1761 (by decide +kernel)), (gk_wm 99 (by decide +kernel))⟩, Or.inr (Or.inr (Or.inr (Or.inl ⟨rfl, rfl, (gk_wm 1760 (by decide +kernel)), (gk_wm 83 (by decide +kernel)), gk_wm 1758 (by decide +kernel), by decide, rfl⟩)))⟩), (List.forall_mem_cons.mpr ⟨(fun _ => ⟨yX11_parseNumber, cX11_parseNumber, 4, (some .int), 4, _, M_X11_parseNumber hl, ⟨by decide, by decide⟩, ⟨by decide, by decide, by decide +kernel⟩, ⟨(gk_wm 1769 (by decide +kernel)), (gk_wm 99 (by decide +kernel))⟩, Or.inr (Or.inr (Or.inr (Or.inl ⟨rfl, rfl, (gk_wm 1768 (by decide +kernel)), (gk_wm 85 (by decide +kernel)), gk_wm 1766 (by decide +kernel), by decide, rfl⟩)))⟩), (List.forall_mem_cons.mpr ⟨(fun _ => ⟨yX11_parseInteger, cX11_parseInteger, 4, (some .int), 5, _, M_X11_parseInteger hl, ⟨by decide, by decide⟩, ⟨by decide, by decide, by decide +kernel⟩, ⟨(gk_wm 1765 (by decide +kernel)), (gk_wm 99 (by decide +kernel))⟩, Or.inr (Or.inr (Or.inr (Or.inl ⟨rfl, rfl, (gk_wm 1764 (by decide +kernel)), (gk_wm 84 (by decide +kernel)), gk_wm 1762 (by decide +kernel), by decide, rfl⟩)))⟩), (fun _ h => absurd h List.not_mem_nil)⟩)⟩)⟩)⟩)⟩)
theorem sp_X11_parseMicrophone : ∀ q ∈ L_X11_parseMicrophone, gk_Sq RX11 gk_W1 6 q := (List.forall_mem_cons.mpr ⟨⟨fun h => absurd h (by decide), fun h => absurd h (by decide), fun h => absurd h (by decide), fun h => absurd h (by decide), fun h => absurd h (by decide), fun h => absurd h (by decide)⟩, (List.forall_mem_cons.mpr ⟨⟨fun h => absurd h (by decide), fun h => absurd h (by decide), fun h => absurd h (by decide), fun h => absurd h (by decide), fun h => absurd h (by decide), fun h => absurd h (by decide)⟩, (List.forall_mem_cons.mpr ⟨⟨fun h => absurd h (by decide), fun h => absurd h (by decide), fun h => absurd h (by decide), fun h => absurd h (by decide), fun h => absurd h (by decide), fun h => absurd h (by decide)⟩, (List.forall_mem_cons.mpr ⟨⟨fun h => absurd h (by decide), fun h => absurd h (by decide), fun h => absurd h (by decide), fun h => absurd h (by decide), fun h => absurd h (by decide), fun h => absurd h (by decide)⟩, (List.forall_mem_cons.mpr ⟨⟨fun h => absurd h (by decide), fun h => absurd h (by decide), fun h => absurd h (by decide), fun h => absurd h (by decide), fun h => absurd h (by decide), fun h => absurd h (by decide)⟩, (fun _ h => absurd h List.not_mem_nil)⟩)⟩)⟩)⟩)⟩)
theorem M_X11_parseMicrophone {l : Launch} (hl : l.stackTraces = false) : gk_Mt l yX11_parseMicrophone (.code yX11_parseMicrophone cX11_parseMicrophone 6 none :: gk_W1) 6 0 S_X11_parseMicrophone := gk_meth hl gk_cw_ok (by decide +kernel) rfl m_X11_parseMicrophone pX11_ok (gk_Sp_of sp_X11_parseMicrophone) pX11_st (fun ci m S h => absurd h (by intro h; cases h)) (xf_X11 6) (fun idx kd ci mm cost S2 h h5 => lk_X11_parseMicrophone hl _ (gk_lk_mem h) h5)

def S_X11_parseVehicle : gk_S := fun as n fl x y K => ∃ (B : Nat → Int32) (t : Nat) (x0 : gk_X) (y0 : gk_Y) (Q : gk_P), as = [.ref 189] ∧ (n = 202 ∧ fl = gk_fT) ∧ (RH B t x0) ∧ (RP B t x0 y0 Q x y) ∧ (Q.2.1 = 0) ∧ (gOK Q.2.2) ∧ (∀ (x2 : gk_X) (y2 : gk_Y), RP B t x0 y0 (pVeh B t Q) x2 y2 → K (.inl none) n fl x2 y2)
theorem r_X11_parseVehicle (w : gk_W c P cs (fun _ _ => none) rt uf sc K V) {idx : Nat} {B : Nat → Int32} {t : Nat} {x0 : gk_X} {y0 : gk_Y} {Q : gk_P} (hd : decode c pc = .ok (.invokevirtual idx, 3)) (hp : pc + 3 = pc2) (hc : cs idx = some (1, 10, 1, 0, S_X11_parseVehicle)) (h8 : Nat.ble (r.map Value.category).sum 8 = true) (hp0 : RH B t x0) (hp1 : RP B t x0 y0 Q x y) (hp2 : Q.2.1 = 0) (hp3 : gOK Q.2.2) (kk0 : ∀ (x2 : gk_X) (y2 : gk_Y), RP B t x0 y0 (pVeh B t Q) x2 y2 → V pc2 L r 202 gk_fT x2 y2 u) : V pc L (.ref 189 :: r) 202 gk_fT x y u :=
  g_callv w hd hp hc (as := [.ref 189]) rfl h8 rfl rfl rfl (Or.inr (Or.inl ⟨Or.inl rfl, _, _, rfl, (gk_kd_j rfl rfl), rfl⟩)) (Or.inl rfl) ⟨B, t, x0, y0, Q, rfl, ⟨rfl, rfl⟩, hp0, hp1, hp2, hp3, kk0⟩
def L_X11_parseVehicle : List (Nat × gk_M0) := [(71, (1, 10, 4, 0, S_X11_appendVehicle)), (323, (1, 10, 3, 0, S_X11_require)), (327, (1, 10, 1, 0, S_X11_advance)), (333, (1, 10, 3, 0, S_X11_parseInteger))]
def cs_X11_parseVehicle : Nat → Option gk_M0 := gk_lk L_X11_parseVehicle
theorem m_X11_parseVehicle : ∀ (as : List Value) (n : Nat) (fl : gk_F) (x : gk_X) (y : gk_Y) (K : gk_K), S_X11_parseVehicle as n fl x y K → (gk_L0 as).length ≤ 5 ∧ ∀ V : gk_V, gk_W cX11_parseVehicle pX11 cs_X11_parseVehicle (fun _ _ => none) none 0 none K V → V 0 (gk_en as 5) [] n fl x y 0 := by
  intro as n fl x y K hS
  obtain ⟨B, t, x0, y0, Q, rfl, ⟨rfl, rfl⟩, hp0, hp1, hp2, hp3, q0⟩ := hS
  refine ⟨Nat.le_of_ble_eq_true rfl, fun V w => ?_⟩
  show V 0 [some (.ref 189), none, none, none, none] [] 202 gk_fT x y 0
  obtain ⟨r1, r2, r3, r4, r5, r6, r7⟩ := id hp1
  obtain ⟨m1, m2⟩ := r6 hp2
  obtain ⟨nv4, ns6, nm8, z6, z7, z8⟩ := wf_n hp3.1
  have hcn : x 190 6 = nI (nV Q.2.2) := (m2 6 (by decide)).trans (gn_6 hp3.1)
  refine s_aload_n (pc2 := 1) w dX11_parseVehicle_0 rfl rfl ?_
  refine s_aload_n (pc2 := 2) w dX11_parseVehicle_1 rfl rfl ?_
  refine m_getR (pc2 := 5) (ci := 10) (k := 0) (j2 := 190) w dX11_parseVehicle_2 rfl rfl rfl rfl rfl rfl ?_
  refine s_bipush (pc2 := 7) (v := gI 6) w dX11_parseVehicle_5 rfl rfl ?_
  refine m_ialoadN (pc2 := 8) (t := 6) (N := 2234) w dX11_parseVehicle_7 rfl rfl rfl rfl (by decide) rfl ?_
  rw [hcn]
  refine s_iconst (pc2 := 9) (v := gI 4) w dX11_parseVehicle_8 rfl rfl ?_
  refine s_ic_ge (pc2 := 12) (tgt := 16) w dX11_parseVehicle_9 rfl (by decide) (fun c9 => ?_) (fun c9 => ?_)
  · have hb : ((0 : Int32) = 0 ↔ decide (nV Q.2.2 < 4) = false) := ⟨fun _ => decide_eq_false ((nI_ge2 (a := nV Q.2.2) (b := 4) (by omega) (by decide)).mp c9), fun _ => rfl⟩
    refine s_iconst (pc2 := 17) (v := gI 0) w dX11_parseVehicle_16 rfl rfl ?_
    refine s_iconst (pc2 := 18) (v := gI 3) w dX11_parseVehicle_17 rfl rfl ?_
    refine r_X11_require (pc2 := 21) (b := decide (nV Q.2.2 < 4)) (k := 3) w dX11_parseVehicle_18 rfl rfl rfl hp1 hb rfl (by decide) (by decide) (fun xq gq oq => ?_)
    refine s_aload_n (pc2 := 22) w dX11_parseVehicle_21 rfl rfl ?_
    refine r_X11_advance (pc2 := 25) w dX11_parseVehicle_22 rfl rfl rfl hp0 gq (fun x1 y1 h1 o1 => ?_)
    have g1 : RP B t x0 y0 (pV1 B t Q) x1 y1 := h1
    refine s_aload_n (pc2 := 26) w dX11_parseVehicle_25 rfl rfl ?_
    refine s_sipush (pc2 := 29) (v := gI (-20000)) w dX11_parseVehicle_26 rfl rfl ?_
    refine s_sipush (pc2 := 32) (v := gI 20000) w dX11_parseVehicle_29 rfl rfl ?_
    refine r_X11_parseInteger (pc2 := 35) (lo := -20000) (hi := 20000) w dX11_parseVehicle_32 rfl rfl rfl hp0 g1 rfl rfl ⟨by decide, by decide⟩ ⟨by decide, by decide⟩ (fun v1 x2 y2 h2 w1 => ?_)
    have g2 : RP B t x0 y0 (pV2 B t Q) x2 y2 := h2
    refine s_istore_n (pc2 := 36) (k2 := 1) w dX11_parseVehicle_35 rfl rfl rfl ?_
    dsimp only [gk_s1, gk_s2, gk_cl]
    refine s_aload_n (pc2 := 37) w dX11_parseVehicle_36 rfl rfl ?_
    refine s_bipush (pc2 := 39) (v := gI (-50)) w dX11_parseVehicle_37 rfl rfl ?_
    refine s_bipush (pc2 := 41) (v := gI 50) w dX11_parseVehicle_39 rfl rfl ?_
    refine r_X11_parseInteger (pc2 := 44) (lo := -50) (hi := 50) w dX11_parseVehicle_41 rfl rfl rfl hp0 g2 rfl rfl ⟨by decide, by decide⟩ ⟨by decide, by decide⟩ (fun v2 x3 y3 h3 w2 => ?_)
    have g3 : RP B t x0 y0 (pV3 B t Q) x3 y3 := h3
    refine s_istore_n (pc2 := 45) (k2 := 2) w dX11_parseVehicle_44 rfl rfl rfl ?_
    dsimp only [gk_s1, gk_s2, gk_cl]
    refine s_aload_n (pc2 := 46) w dX11_parseVehicle_45 rfl rfl ?_
    refine s_bipush (pc2 := 48) (v := gI 100) w dX11_parseVehicle_46 rfl rfl ?_
    refine s_sipush (pc2 := 51) (v := gI 5000) w dX11_parseVehicle_48 rfl rfl ?_
    refine r_X11_parseInteger (pc2 := 54) (lo := 100) (hi := 5000) w dX11_parseVehicle_51 rfl rfl rfl hp0 g3 rfl rfl ⟨by decide, by decide⟩ ⟨by decide, by decide⟩ (fun v3 x4 y4 h4 w3 => ?_)
    have g4 : RP B t x0 y0 (pV4 B t Q) x4 y4 := h4
    refine s_istore_n (pc2 := 55) (k2 := 3) w dX11_parseVehicle_54 rfl rfl rfl ?_
    dsimp only [gk_s1, gk_s2, gk_cl]
    refine s_aload_n (pc2 := 56) w dX11_parseVehicle_55 rfl rfl ?_
    refine m_getI (pc2 := 59) (ci := 10) (k := 17) w dX11_parseVehicle_56 rfl rfl rfl rfl rfl ?_
    rw [g4.2.2.2.1]
    refine s_if_ne (pc2 := 62) (tgt := 71) w dX11_parseVehicle_59 rfl (by decide) (fun c59 => ?_) (fun c59 => ?_)
    · refine s_return w dX11_parseVehicle_71 rfl ?_
      rw [pVeh_e4 (fun h => c59 ((e_0 g4.2.2.2.2.1).mpr h))] at q0
      exact q0 _ _ g4
    · have eL : (pV4 B t Q).2.1 = 0 := (e_0 g4.2.2.2.2.1).mp c59
      obtain ⟨⟨e1, e2, e3⟩, hroom, hg, -⟩ := pV_0 eL
      obtain rfl := w1 e2
      obtain rfl := w2 e3
      obtain rfl := w3 eL
      have hgn : (pV4 B t Q).2.2 6 = nI (nV (pV4 B t Q).2.2) := by rw [hg]; exact gn_6 hp3.1
      refine s_aload_n (pc2 := 63) w dX11_parseVehicle_62 rfl rfl ?_
      refine s_iload_n (pc2 := 64) w dX11_parseVehicle_63 rfl rfl ?_
      refine s_iload_n (pc2 := 65) w dX11_parseVehicle_64 rfl rfl ?_
      refine s_iload_n (pc2 := 66) w dX11_parseVehicle_65 rfl rfl ?_
      refine r_X11_appendVehicle (pc2 := 69) w dX11_parseVehicle_66 rfl rfl rfl (g4.2.2.2.2.2.1 eL).2 hgn (by rw [hg]; exact hroom) (fun x9 u1 u2 => ?_)
      refine s_istore (pc2 := 71) w dX11_parseVehicle_69 rfl rfl ?_
      dsimp only [gk_s1, gk_s2, gk_cl]
      refine s_return w dX11_parseVehicle_71 rfl ?_
      rw [show pVeh B t Q = _ from pG_1 eL] at q0
      exact q0 _ _ (g4.put eL u1 u2)
  · have hb : ((1 : Int32) = 0 ↔ decide (nV Q.2.2 < 4) = false) := ⟨fun h => absurd h (by decide), fun h => absurd (of_decide_eq_false h) (fun h2 => h2 (Decidable.byContradiction (fun h3 => c9 ((nI_ge2 (a := nV Q.2.2) (b := 4) (by omega) (by decide)).mpr h3))))⟩
    refine s_iconst (pc2 := 13) (v := gI 1) w dX11_parseVehicle_12 rfl rfl ?_
    refine s_goto (tgt := 17) w dX11_parseVehicle_13 (by decide) ?_
    refine s_iconst (pc2 := 18) (v := gI 3) w dX11_parseVehicle_17 rfl rfl ?_
    refine r_X11_require (pc2 := 21) (b := decide (nV Q.2.2 < 4)) (k := 3) w dX11_parseVehicle_18 rfl rfl rfl hp1 hb rfl (by decide) (by decide) (fun xq gq oq => ?_)
    refine s_aload_n (pc2 := 22) w dX11_parseVehicle_21 rfl rfl ?_
    refine r_X11_advance (pc2 := 25) w dX11_parseVehicle_22 rfl rfl rfl hp0 gq (fun x1 y1 h1 o1 => ?_)
    have g1 : RP B t x0 y0 (pV1 B t Q) x1 y1 := h1
    refine s_aload_n (pc2 := 26) w dX11_parseVehicle_25 rfl rfl ?_
    refine s_sipush (pc2 := 29) (v := gI (-20000)) w dX11_parseVehicle_26 rfl rfl ?_
    refine s_sipush (pc2 := 32) (v := gI 20000) w dX11_parseVehicle_29 rfl rfl ?_
    refine r_X11_parseInteger (pc2 := 35) (lo := -20000) (hi := 20000) w dX11_parseVehicle_32 rfl rfl rfl hp0 g1 rfl rfl ⟨by decide, by decide⟩ ⟨by decide, by decide⟩ (fun v1 x2 y2 h2 w1 => ?_)
    have g2 : RP B t x0 y0 (pV2 B t Q) x2 y2 := h2
    refine s_istore_n (pc2 := 36) (k2 := 1) w dX11_parseVehicle_35 rfl rfl rfl ?_
    dsimp only [gk_s1, gk_s2, gk_cl]
    refine s_aload_n (pc2 := 37) w dX11_parseVehicle_36 rfl rfl ?_
    refine s_bipush (pc2 := 39) (v := gI (-50)) w dX11_parseVehicle_37 rfl rfl ?_
    refine s_bipush (pc2 := 41) (v := gI 50) w dX11_parseVehicle_39 rfl rfl ?_
    refine r_X11_parseInteger (pc2 := 44) (lo := -50) (hi := 50) w dX11_parseVehicle_41 rfl rfl rfl hp0 g2 rfl rfl ⟨by decide, by decide⟩ ⟨by decide, by decide⟩ (fun v2 x3 y3 h3 w2 => ?_)
    have g3 : RP B t x0 y0 (pV3 B t Q) x3 y3 := h3
    refine s_istore_n (pc2 := 45) (k2 := 2) w dX11_parseVehicle_44 rfl rfl rfl ?_
    dsimp only [gk_s1, gk_s2, gk_cl]
    refine s_aload_n (pc2 := 46) w dX11_parseVehicle_45 rfl rfl ?_
    refine s_bipush (pc2 := 48) (v := gI 100) w dX11_parseVehicle_46 rfl rfl ?_
    refine s_sipush (pc2 := 51) (v := gI 5000) w dX11_parseVehicle_48 rfl rfl ?_
    refine r_X11_parseInteger (pc2 := 54) (lo := 100) (hi := 5000) w dX11_parseVehicle_51 rfl rfl rfl hp0 g3 rfl rfl ⟨by decide, by decide⟩ ⟨by decide, by decide⟩ (fun v3 x4 y4 h4 w3 => ?_)
    have g4 : RP B t x0 y0 (pV4 B t Q) x4 y4 := h4
    refine s_istore_n (pc2 := 55) (k2 := 3) w dX11_parseVehicle_54 rfl rfl rfl ?_
    dsimp only [gk_s1, gk_s2, gk_cl]
    refine s_aload_n (pc2 := 56) w dX11_parseVehicle_55 rfl rfl ?_
    refine m_getI (pc2 := 59) (ci := 10) (k := 17) w dX11_parseVehicle_56 rfl rfl rfl rfl rfl ?_
    rw [g4.2.2.2.1]
    refine s_if_ne (pc2 := 62) (tgt := 71) w dX11_parseVehicle_59 rfl (by decide) (fun c59 => ?_) (fun c59 => ?_)
    · refine s_return w dX11_parseVehicle_71 rfl ?_
      rw [pVeh_e4 (fun h => c59 ((e_0 g4.2.2.2.2.1).mpr h))] at q0
      exact q0 _ _ g4
    · have eL : (pV4 B t Q).2.1 = 0 := (e_0 g4.2.2.2.2.1).mp c59
      obtain ⟨⟨e1, e2, e3⟩, hroom, hg, -⟩ := pV_0 eL
      obtain rfl := w1 e2
      obtain rfl := w2 e3
      obtain rfl := w3 eL
      have hgn : (pV4 B t Q).2.2 6 = nI (nV (pV4 B t Q).2.2) := by rw [hg]; exact gn_6 hp3.1
      refine s_aload_n (pc2 := 63) w dX11_parseVehicle_62 rfl rfl ?_
      refine s_iload_n (pc2 := 64) w dX11_parseVehicle_63 rfl rfl ?_
      refine s_iload_n (pc2 := 65) w dX11_parseVehicle_64 rfl rfl ?_
      refine s_iload_n (pc2 := 66) w dX11_parseVehicle_65 rfl rfl ?_
      refine r_X11_appendVehicle (pc2 := 69) w dX11_parseVehicle_66 rfl rfl rfl (g4.2.2.2.2.2.1 eL).2 hgn (by rw [hg]; exact hroom) (fun x9 u1 u2 => ?_)
      refine s_istore (pc2 := 71) w dX11_parseVehicle_69 rfl rfl ?_
      dsimp only [gk_s1, gk_s2, gk_cl]
      refine s_return w dX11_parseVehicle_71 rfl ?_
      rw [show pVeh B t Q = _ from pG_1 eL] at q0
      exact q0 _ _ (g4.put eL u1 u2)
theorem lk_X11_parseVehicle {l : Launch} (hl : l.stackTraces = false) : ∀ q ∈ L_X11_parseVehicle, (q.2.1 < 5 → gk_Lk l RX11 gk_W1 6 q.1 q.2.1 q.2.2.1 q.2.2.2.1 q.2.2.2.2.1 q.2.2.2.2.2) := (List.forall_mem_cons.mpr ⟨(fun _ => ⟨yX11_appendVehicle, cX11_appendVehicle, 5, (some .int), 0, _, M_X11_appendVehicle hl, ⟨by decide, by decide⟩, ⟨by decide, by decide, by decide +kernel⟩, ⟨(gk_wm 1365 (by decide +kernel)), (gk_wm 99 (by decide +kernel))⟩, Or.inr (Or.inr (Or.inr (Or.inl ⟨rfl, rfl, (gk_wm 1364 (by decide +kernel)), (gk_wm 33 (by decide +kernel)), gk_wm 1362 (by decide +kernel), by decide, rfl⟩)))⟩), (List.forall_mem_cons.mpr ⟨(fun _ => ⟨yX11_require, cX11_require, 3, none, 0, _, M_X11_require hl, ⟨by decide, by decide⟩, ⟨by decide, by decide, by decide +kernel⟩, ⟨(gk_wm 1757 (by decide +kernel)), (gk_wm 99 (by decide +kernel))⟩, Or.inr (Or.inr (Or.inr (Or.inl ⟨rfl, rfl, (gk_wm 1756 (by decide +kernel)), (gk_wm 82 (by decide +kernel)), gk_wm 1754 (by decide +kernel), by decide, rfl⟩)))⟩), (List.forall_mem_cons.mpr ⟨(fun _ => ⟨yX11_advance, cX11_advance, 1, none, 3, _, M_X11_advance hl, ⟨by decide, by decide⟩, ⟨by decide, by decide, by decide +kernel⟩, ⟨(gk_wm 1761 (by decide +kernel)), (gk_wm 99 (by decide +kernel))⟩, Or.inr (Or.inr (Or.inr (Or.inl ⟨rfl, rfl, (gk_wm 1760 (by decide +kernel)), (gk_wm 83 (by decide +kernel)), gk_wm 1758 (by decide +kernel), by decide, rfl⟩)))⟩), (List.forall_mem_cons.mpr ⟨(fun _ => ⟨yX11_parseInteger, cX11_parseInteger, 4, (some .int), 5, _, M_X11_parseInteger hl, ⟨by decide, by decide⟩, ⟨by decide, by decide, by decide +kernel⟩, ⟨(gk_wm 1765 (by decide +kernel)), (gk_wm 99 (by decide +kernel))⟩, Or.inr (Or.inr (Or.inr (Or.inl ⟨rfl, rfl, (gk_wm 1764 (by decide +kernel)), (gk_wm 84 (by decide +kernel)), gk_wm 1762 (by decide +kernel), by decide, rfl⟩)))⟩), (fun _ h => absurd h List.not_mem_nil)⟩)⟩)⟩)⟩)
theorem sp_X11_parseVehicle : ∀ q ∈ L_X11_parseVehicle, gk_Sq RX11 gk_W1 6 q := (List.forall_mem_cons.mpr ⟨⟨fun h => absurd h (by decide), fun h => absurd h (by decide), fun h => absurd h (by decide), fun h => absurd h (by decide), fun h => absurd h (by decide), fun h => absurd h (by decide)⟩, (List.forall_mem_cons.mpr ⟨⟨fun h => absurd h (by decide), fun h => absurd h (by decide), fun h => absurd h (by decide), fun h => absurd h (by decide), fun h => absurd h (by decide), fun h => absurd h (by decide)⟩, (List.forall_mem_cons.mpr ⟨⟨fun h => absurd h (by decide), fun h => absurd h (by decide), fun h => absurd h (by decide), fun h => absurd h (by decide), fun h => absurd h (by decide), fun h => absurd h (by decide)⟩, (List.forall_mem_cons.mpr ⟨⟨fun h => absurd h (by decide), fun h => absurd h (by decide), fun h => absurd h (by decide), fun h => absurd h (by decide), fun h => absurd h (by decide), fun h => absurd h (by decide)⟩, (fun _ h => absurd h List.not_mem_nil)⟩)⟩)⟩)⟩)
theorem M_X11_parseVehicle {l : Launch} (hl : l.stackTraces = false) : gk_Mt l yX11_parseVehicle (.code yX11_parseVehicle cX11_parseVehicle 5 none :: gk_W1) 6 0 S_X11_parseVehicle := gk_meth hl gk_cw_ok (by decide +kernel) rfl m_X11_parseVehicle pX11_ok (gk_Sp_of sp_X11_parseVehicle) pX11_st (fun ci m S h => absurd h (by intro h; cases h)) (xf_X11 6) (fun idx kd ci mm cost S2 h h5 => lk_X11_parseVehicle hl _ (gk_lk_mem h) h5)

end GKV

/-! THE TEXT, 13: the class reads a source -/
section GKV
variable {c : ByteArray} {P : gk_C} {cs : Nat → Option gk_M0} {rt : Option FieldType} {uf : Nat} {sc : Option Nat} {K : gk_K} {V : gk_V}
variable {L : List (Option Value)} {r : List Value} {n : Nat} {fl : gk_F} {x : gk_X} {y : gk_Y} {u pc pc2 : Nat}
/-- a source's values, put in one by one -/
def gF (g : Nat → Int32) (a : Nat) (f : Nat → Int32) : Nat → (Nat → Int32)
  | 0 => g
  | l + 1 => gV1 (gF g a f l) a l (f l)
theorem gF_cg {g : Nat → Int32} {a : Nat} {f h : Nat → Int32} : ∀ l, (∀ k, k < l → f k = h k) → gF g a f l = gF g a h l
  | 0, _ => rfl
  | l + 1, e => by
    show gV1 (gF g a f l) a l (f l) = gV1 (gF g a h l) a l (h l)
    rw [gF_cg l (fun k hk => e k (by omega)), e l (by omega)]
/-- the source a of g has l values -/
def SV (g : Nat → Int32) (a l : Nat) : Prop := gOK g ∧ a < nS g ∧ sW g a = l
theorem gV1_o {g : Nat → Int32} {a l : Nat} {v : Int32} {k : Nat} (h1 : k ≠ 28 + 21 * a + 4) (h2 : k ≠ 28 + 21 * a + 5 + l) : gV1 g a l v k = g k := by
  unfold gV1 gU
  rw [if_neg h1, if_neg h2]
theorem gV1_4 {g : Nat → Int32} {a l : Nat} {v : Int32} : gV1 g a l v (28 + 21 * a + 4) = nI (l + 1) := by
  unfold gV1 gU
  rw [if_pos rfl]
theorem nI_to {n : Nat} (h : n < 100000) : (nI n).toInt.toNat = n := by
  rw [gI_nI, gI_of ⟨by omega, by omega⟩]
  omega
theorem SV_s {g : Nat → Int32} {a l : Nat} {v : Int32} (h : SV g a l) (hl : l < 16) (hv : -99 ≤ v ∧ v ≤ 99) : SV (gV1 g a l v) a (l + 1) := by
  obtain ⟨h1, h2, h3⟩ := h
  have h4 := gOK_VA h1 h2 (by omega) hv
  have e : gV1 g a l v = gVA g a v := by
    unfold gV1 gVA
    rw [h3]
  refine ⟨by rw [e]; exact h4, ?_, ?_⟩
  · obtain ⟨nv4, ns6, nm8, z6, z7, z8⟩ := wf_n h1.1
    show a < (gz (gV1 g a l v) 7).toNat
    unfold gz
    rw [gV1_o (by omega) (by omega)]
    exact h2
  · show (gV1 g a l v (28 + 21 * a + 4)).toInt.toNat = l + 1
    rw [gV1_4, nI_to (by omega)]
theorem SV_1 {g : Nat → Int32} {w : Nat} {o h0 st va : Int32} (h : gOK g) (h6 : nS g < 6) (hw : w < nV g) (ho : -1000 ≤ o ∧ o ≤ 1000) (hh : 0 ≤ h0 ∧ h0 ≤ 500) (hs : 1 ≤ st ∧ st ≤ 10) (hv : -99 ≤ va ∧ va ≤ 99) : SV (gV1 (gAS0 g (nS g) (nI w) o h0 st) (nS g) 0 va) (nS g) 1 := by
  have e : gV1 (gAS0 g (nS g) (nI w) o h0 st) (nS g) 0 va = gAS g (nS g) (nI w) o h0 st va := rfl
  refine ⟨by rw [e]; exact gOK_AS h h6 hw ho hh hs hv, ?_, ?_⟩
  · show nS g < (gV1 (gAS0 g (nS g) (nI w) o h0 st) (nS g) 0 va 7).toInt.toNat
    rw [gV1_o (by omega) (by omega), show gAS0 g (nS g) (nI w) o h0 st 7 = nI (nS g + 1) from rfl, nI_to (by omega)]
    omega
  · show (gV1 (gAS0 g (nS g) (nI w) o h0 st) (nS g) 0 va (28 + 21 * nS g + 4)).toInt.toNat = 1
    rw [gV1_4, nI_to (by omega)]
theorem pS_0 {c : Nat → Int32} {t : Nat} {Q : gk_P} (h8 : nV Q.2.2 ≤ 4) (h : (pS5 c t Q).2.1 = 0) : ((pS1 c t Q).2.1 = 0 ∧ (pS2 c t Q).2.1 = 0 ∧ (pS3 c t Q).2.1 = 0 ∧ (pS4 c t Q).2.1 = 0) ∧ nS Q.2.2 < 6 ∧ (pS5 c t Q).2.2 = Q.2.2 ∧ (gI 0 ≤ vN c t (pS1 c t Q) ∧ vN c t (pS1 c t Q) ≤ gI ((nV Q.2.2 : Int) - 1)) ∧ (gI (-1000) ≤ vI c t (pS2 c t Q) ∧ vI c t (pS2 c t Q) ≤ gI 1000) ∧ (gI 0 ≤ vN c t (pS3 c t Q) ∧ vN c t (pS3 c t Q) ≤ gI 500) ∧ (gI 1 ≤ vN c t (pS4 c t Q) ∧ vN c t (pS4 c t Q) ≤ gI 10) := by
  obtain ⟨a4, b4, c4⟩ := pN_0 ⟨by decide, by decide⟩ ⟨by decide, by decide⟩ h
  obtain ⟨a3, b3, c3⟩ := pN_0 ⟨by decide, by decide⟩ ⟨by decide, by decide⟩ a4
  obtain ⟨a2, b2, c2⟩ := pI_0 ⟨by decide, by decide⟩ ⟨by decide, by decide⟩ a3
  obtain ⟨a1, b1, c1⟩ := pN_0 ⟨by decide, by decide⟩ ⟨by omega, by omega⟩ a2
  obtain ⟨a0, b0, c0⟩ := pS1_0 a1
  exact ⟨⟨a1, a2, a3, a4⟩, b0, c4.trans (c3.trans (c2.trans (c1.trans c0))), b1, b2, b3, b4⟩
/-- the vehicle that a source names -/
theorem pS_v {c : Nat → Int32} {t : Nat} {Q : gk_P} (h8 : nV Q.2.2 ≤ 4) (h : (pS5 c t Q).2.1 = 0) : ∃ w, w < nV Q.2.2 ∧ vN c t (pS1 c t Q) = nI w := by
  obtain ⟨-, -, -, h1, -⟩ := pS_0 h8 h
  have h5 : VV c t (pS1 c t Q).1 ≤ 20001 := Nat.min_le_right _ _
  have h2 := (gI_le ⟨by omega, by omega⟩ ⟨by omega, by omega⟩).mp h1.2
  exact ⟨VV c t (pS1 c t Q).1, by omega, rfl⟩
theorem pS6_1 {c : Nat → Int32} {t : Nat} {Q : gk_P} (h : (pS5 c t Q).2.1 = 0) : pS6 c t Q = ((pS5 c t Q).1, 0, gAS0 (pS5 c t Q).2.2 (nS (pS5 c t Q).2.2) (vN c t (pS1 c t Q)) (vI c t (pS2 c t Q)) (vN c t (pS3 c t Q)) (vN c t (pS4 c t Q))) := pG_1 h
/-- where a reading goes does not hang on the scene -/
theorem pT_sc {c : Nat → Int32} {t : Nat} {lo hi z : Int} {Q : gk_P} (g : Nat → Int32) : pT c t lo hi z (Q.1, Q.2.1, g) = ((pT c t lo hi z Q).1, (pT c t lo hi z Q).2.1, g) := by
  by_cases h0 : Q.2.1 = 0
  · by_cases h4 : KK c t Q.1 = 4
    · by_cases hz : lo ≤ z ∧ z ≤ hi
      · rw [pT_k3 h0 h4 hz, pT_k3 (Q := (Q.1, Q.2.1, g)) h0 h4 hz]
      · rw [pT_k2 h0 h4 hz, pT_k2 (Q := (Q.1, Q.2.1, g)) h0 h4 hz]
    · rw [pT_k1 h0 h4, pT_k1 (Q := (Q.1, Q.2.1, g)) h0 h4]
  · rw [pT_e h0, pT_e (Q := (Q.1, Q.2.1, g)) h0]
theorem pA_sc {c : Nat → Int32} {t : Nat} {Q : gk_P} (g : Nat → Int32) : pAd c t (Q.1, Q.2.1, g) = ((pAd c t Q).1, (pAd c t Q).2.1, g) := by
  by_cases h : Q.2.1 = 0 ∧ ¬ KK c t Q.1 = 0
  · rw [pA_1 h.1 h.2, pA_1 (Q := (Q.1, Q.2.1, g)) h.1 h.2]
  · rw [show pAd c t Q = Q from if_neg h, show pAd c t (Q.1, Q.2.1, g) = (Q.1, Q.2.1, g) from if_neg h]
theorem pI_sc {c : Nat → Int32} {t : Nat} {lo hi : Int} {Q : gk_P} (g : Nat → Int32) : pI c t lo hi (Q.1, Q.2.1, g) = ((pI c t lo hi Q).1, (pI c t lo hi Q).2.1, g) ∧ vI c t (Q.1, Q.2.1, g) = vI c t Q := by
  have e := pA_sc (c := c) (t := t) (Q := Q) g
  by_cases h3 : KK c t Q.1 = 3
  · rw [show pI c t lo hi Q = pT c t lo hi (-(VV c t (pAd c t Q).1 : Int)) (pAd c t Q) from if_pos h3, show pI c t lo hi (Q.1, Q.2.1, g) = pT c t lo hi (-(VV c t (pAd c t (Q.1, Q.2.1, g)).1 : Int)) (pAd c t (Q.1, Q.2.1, g)) from if_pos h3, show vI c t Q = gI (-(VV c t (pAd c t Q).1 : Int)) from if_pos h3, show vI c t (Q.1, Q.2.1, g) = gI (-(VV c t (pAd c t (Q.1, Q.2.1, g)).1 : Int)) from if_pos h3, e]
    exact ⟨pT_sc g, rfl⟩
  · rw [show pI c t lo hi Q = pN c t lo hi Q from if_neg h3, show pI c t lo hi (Q.1, Q.2.1, g) = pN c t lo hi (Q.1, Q.2.1, g) from if_neg h3, show vI c t Q = gI (VV c t Q.1) from if_neg h3, show vI c t (Q.1, Q.2.1, g) = gI (VV c t Q.1) from if_neg h3]
    exact ⟨pT_sc g, rfl⟩
/-- what is still to be read behind a value -/
def pWn (c : Nat → Int32) (t a k l : Nat) (Q : gk_P) : gk_P := if Q.2.1 = 0 ∧ (KK c t Q.1 = 4 ∨ KK c t Q.1 = 3) then pW c t a k l Q else Q
theorem pW_n {c : Nat → Int32} {t a k l : Nat} {Q : gk_P} : pW c t a (k + 1) l Q = pWn c t a k (l + 1) (pW1 c t a l Q) := rfl
theorem pWn_e {c : Nat → Int32} {t a k l : Nat} {Q : gk_P} (h : ¬ Q.2.1 = 0) : pWn c t a k l Q = Q := if_neg (fun h2 => h h2.1)
/-- one value, of a state whose scene is told apart -/
theorem pW1_e {c : Nat → Int32} {t a l : Nat} {Q : gk_P} {g : Nat → Int32} (h : ¬ (pI c t (-99) 99 Q).2.1 = 0) : pW1 c t a l (Q.1, Q.2.1, g) = ((pI c t (-99) 99 Q).1, (pI c t (-99) 99 Q).2.1, g) := by
  unfold pW1
  rw [(pI_sc g).1]
  exact pG_e h
theorem pW1_1 {c : Nat → Int32} {t a l : Nat} {Q : gk_P} {g : Nat → Int32} (h : (pI c t (-99) 99 Q).2.1 = 0) : pW1 c t a l (Q.1, Q.2.1, g) = ((pI c t (-99) 99 Q).1, 0, gV1 g a l (vI c t Q)) := by
  unfold pW1
  rw [(pI_sc g).1, (pI_sc (lo := 0) (hi := 0) g).2]
  exact pG_1 h
theorem CP.scn {c : Nat → Int32} {t m : Nat} {x0 : gk_X} {Q : gk_P} {x : gk_X} {y : gk_Y} (h : CP c t m x0 Q x y) (g : Nat → Int32) (he : ¬ Q.2.1 = 0) : CP c t m x0 (Q.1, Q.2.1, g) x y := by
  obtain ⟨a1, a2, a3, a4, a5, a6, a7, a8⟩ := h
  exact ⟨a1, a2, a3, a4, a5, a6, a7, fun e => absurd e he⟩
theorem pSrc_e5 {c : Nat → Int32} {t : Nat} {Q : gk_P} (h : ¬ (pS5 c t Q).2.1 = 0) : pSrc c t Q = pS5 c t Q := by
  have e : pS6 c t Q = pS5 c t Q := pG_e h
  unfold pSrc
  rw [e]
  exact pW_e h _ _
theorem pSrc_e4 {c : Nat → Int32} {t : Nat} {Q : gk_P} (h : ¬ (pS4 c t Q).2.1 = 0) : pSrc c t Q = pS4 c t Q := by
  have e : pS5 c t Q = pS4 c t Q := pN_e h
  rw [pSrc_e5 (by rw [e]; exact h), e]
theorem pSrc_e3 {c : Nat → Int32} {t : Nat} {Q : gk_P} (h : ¬ (pS3 c t Q).2.1 = 0) : pSrc c t Q = pS3 c t Q := by
  have e : pS4 c t Q = pS3 c t Q := pN_e h
  rw [pSrc_e4 (by rw [e]; exact h), e]
theorem pSrc_e2 {c : Nat → Int32} {t : Nat} {Q : gk_P} (h : ¬ (pS2 c t Q).2.1 = 0) : pSrc c t Q = pS2 c t Q := by
  have e : pS3 c t Q = pS2 c t Q := pI_e h
  rw [pSrc_e3 (by rw [e]; exact h), e]
theorem pSrc_e1 {c : Nat → Int32} {t : Nat} {Q : gk_P} (h : ¬ (pS1 c t Q).2.1 = 0) : pSrc c t Q = pS1 c t Q := by
  have e : pS2 c t Q = pS1 c t Q := pN_e h
  rw [pSrc_e2 (by rw [e]; exact h), e]
theorem kd_s2 {a : Nat} (h : a < 6) : gk_kd (3 * a + 53) = 6 ∧ gk_kd (3 * a + 55) = 20 ∧ gk_ln (3 * a + 55) = 16 := (by decide : ∀ a, a < 6 → gk_kd (3 * a + 53) = 6 ∧ gk_kd (3 * a + 55) = 20 ∧ gk_ln (3 * a + 55) = 16) a h
def S_X5_putMoreValues : gk_S := fun as n fl x y K => ∃ (g : Nat → Int32) (a : Nat) (f : Nat → Int32) (h : Nat → Int32) (l0 : Nat), as = [.ref 97, .ref 44] ∧ (n = 202 ∧ fl = gk_fT) ∧ (RS 44 (gF g a f 1) x y) ∧ (SV (gF g a f 1) a 1) ∧ (nS (gF g a f 1) = a + 1) ∧ (AR h (4 + l0) x) ∧ (1 ≤ l0 ∧ l0 ≤ 16) ∧ (∀ k, k < l0 → h (4 + k) = f k) ∧ (∀ k, k < l0 → -99 ≤ f k ∧ f k ≤ 99) ∧ (a < 6) ∧ (∀ x2 : gk_X, RS 44 (gF g a f l0) x2 y → SV (gF g a f l0) a l0 → (∀ i k, ¬ (44 ≤ i ∧ i < 87) → x2 i k = x i k) → K (.inl none) n fl x2 y)
theorem r_X5_putMoreValues (w : gk_W c P cs (fun _ _ => none) rt uf sc K V) {idx : Nat} {g : Nat → Int32} {a : Nat} {f : Nat → Int32} {h : Nat → Int32} {l0 : Nat} (hd : decode c pc = .ok (.invokevirtual idx, 3)) (hp : pc + 3 = pc2) (hc : cs idx = some (1, 5, 2, 0, S_X5_putMoreValues)) (h8 : Nat.ble (r.map Value.category).sum 8 = true) (hp0 : RS 44 (gF g a f 1) x y) (hp1 : SV (gF g a f 1) a 1) (hp2 : nS (gF g a f 1) = a + 1) (hp3 : AR h (4 + l0) x) (hp4 : 1 ≤ l0 ∧ l0 ≤ 16) (hp5 : ∀ k, k < l0 → h (4 + k) = f k) (hp6 : ∀ k, k < l0 → -99 ≤ f k ∧ f k ≤ 99) (hp7 : a < 6) (kk0 : ∀ x2 : gk_X, RS 44 (gF g a f l0) x2 y → SV (gF g a f l0) a l0 → (∀ i k, ¬ (44 ≤ i ∧ i < 87) → x2 i k = x i k) → V pc2 L r 202 gk_fT x2 y u) : V pc L (.ref 44 :: .ref 97 :: r) 202 gk_fT x y u :=
  g_callv w hd hp hc (as := [.ref 97, .ref 44]) rfl h8 rfl rfl rfl (Or.inr (Or.inl ⟨Or.inl rfl, _, _, rfl, (gk_kd_j rfl rfl), rfl⟩)) (Or.inl rfl) ⟨g, a, f, h, l0, rfl, ⟨rfl, rfl⟩, hp0, hp1, hp2, hp3, hp4, hp5, hp6, hp7, kk0⟩
def L_X5_putMoreValues : List (Nat × gk_M0) := [(131, (0, 9, 2, 0, S_X10_elementAt)), (135, (1, 6, 2, 0, S_X7_append))]
def cs_X5_putMoreValues : Nat → Option gk_M0 := gk_lk L_X5_putMoreValues
theorem m_X5_putMoreValues : ∀ (as : List Value) (n : Nat) (fl : gk_F) (x : gk_X) (y : gk_Y) (K : gk_K), S_X5_putMoreValues as n fl x y K → (gk_L0 as).length ≤ 4 ∧ ∀ V : gk_V, gk_W cX5_putMoreValues pX5 cs_X5_putMoreValues (fun _ _ => none) none 0 none K V → V 0 (gk_en as 4) [] n fl x y 0 := by
  intro as n fl x y K hS
  obtain ⟨g, a, f, h, l0, rfl, ⟨rfl, rfl⟩, hp0, hp1, hp2, hp3, hp4, hp5, hp6, hp7, q0⟩ := hS
  refine ⟨Nat.le_of_ble_eq_true rfl, fun V w => ?_⟩
  show V 0 [some (.ref 97), some (.ref 44), none, none] [] 202 gk_fT x y 0
  obtain ⟨j1, j2, j3⟩ := kd_s2 hp7
  have hc5 : x 44 5 = nI (a + 1) := (hp0.1.1.2.1).trans ((gn_7 hp1.1.1).trans (by rw [hp2]))
  refine s_aload_n (pc2 := 1) w dX5_putMoreValues_0 rfl rfl ?_
  refine m_getI (pc2 := 4) (ci := 4) (k := 5) w dX5_putMoreValues_1 rfl rfl rfl rfl rfl ?_
  rw [hc5]
  refine s_iconst (pc2 := 5) (v := 1) w dX5_putMoreValues_4 rfl rfl ?_
  refine s_isub (pc2 := 6) w dX5_putMoreValues_5 rfl ?_
  rw [show nI (a + 1) - 1 = nI a from (nI_sb (a := 1) (b := a + 1) (by omega)).trans (by rw [Nat.add_sub_cancel])]
  refine s_istore_n (pc2 := 7) (k2 := 2) w dX5_putMoreValues_6 rfl rfl rfl ?_
  dsimp only [gk_s1, gk_s2, gk_cl]
  refine s_iload_n (pc2 := 8) w dX5_putMoreValues_7 rfl rfl ?_
  refine s_if_lt (pc2 := 11) (tgt := 17) w dX5_putMoreValues_8 rfl (by decide) (fun h0 => absurd h0 (nI_pos (by omega))) (fun _ => ?_)
  refine s_iload_n (pc2 := 12) w dX5_putMoreValues_11 rfl rfl ?_
  refine s_bipush (pc2 := 14) (v := 6) w dX5_putMoreValues_12 rfl rfl ?_
  refine s_ic_lt (pc2 := 17) (tgt := 18) w dX5_putMoreValues_14 rfl (by decide) (fun _ => ?_) (fun h0 => absurd (by rw [show (6 : Int32) = nI 6 from rfl, nI_lt2 (by omega) (by omega)]; omega) h0)
  refine s_iconst (pc2 := 19) (v := 5) w dX5_putMoreValues_18 rfl rfl ?_
  refine s_istore_n (pc2 := 20) (k2 := 3) w dX5_putMoreValues_19 rfl rfl rfl ?_
  dsimp only [gk_s1, gk_s2, gk_cl]
  have key : ∀ (k n : Nat) (x1 : gk_X), n + k = l0 → 1 ≤ n → RS 44 (gF g a f n) x1 y → SV (gF g a f n) a n → (∀ i k, ¬ (44 ≤ i ∧ i < 87) → x1 i k = x i k) → V 20 [some (.ref 97), some (.ref 44), some (.int (nI a)), some (.int (nI (4 + n)))] [] 202 gk_fT x1 y 0 := by
    intro k
    induction k with
    | zero =>
      intro n x1 hn h1 hR hV hf
      obtain rfl : n = l0 := by omega
      refine s_iload_n (pc2 := 21) w dX5_putMoreValues_20 rfl rfl ?_
      refine s_aload_n (pc2 := 22) w dX5_putMoreValues_21 rfl rfl ?_
      refine m_getI (pc2 := 25) (ci := 5) (k := 5) w dX5_putMoreValues_22 rfl rfl rfl rfl rfl ?_
      rw [show x1 97 5 = nI (4 + n) from (hf 97 5 (by omega)).trans hp3.1]
      refine s_ic_ge (pc2 := 28) (tgt := 52) w dX5_putMoreValues_25 rfl (by decide) (fun _ => ?_) (fun h0 => absurd (by rw [nI_ge2 (by omega) (by omega)]; omega) h0)
      refine s_return w dX5_putMoreValues_52 rfl ?_
      exact q0 x1 hR hV hf
    | succ k ih =>
      intro n x1 hn h1 hR hV hf
      have h10 : (gF g a f n (28 + 21 * a + 4)).toInt.toNat = n := hV.2.2
      have h9 : 1 ≤ (gF g a f n (28 + 21 * a + 4)).toInt ∧ (gF g a f n (28 + 21 * a + 4)).toInt ≤ 16 := (hV.1.1.2.2.1 a hV.2.1).2.2.2.2.1
      have e2 : x1 (3 * a + 53) 2 = nI n := (hR.2.2.2.1 a hV.2.1).1.1.trans (by rw [← gI_self (gF g a f n (28 + 21 * a + 4)), gI_nI]; congr 1; omega)
      refine s_iload_n (pc2 := 21) w dX5_putMoreValues_20 rfl rfl ?_
      refine s_aload_n (pc2 := 22) w dX5_putMoreValues_21 rfl rfl ?_
      refine m_getI (pc2 := 25) (ci := 5) (k := 5) w dX5_putMoreValues_22 rfl rfl rfl rfl rfl ?_
      rw [show x1 97 5 = nI (4 + l0) from (hf 97 5 (by omega)).trans hp3.1]
      refine s_ic_ge (pc2 := 28) (tgt := 52) w dX5_putMoreValues_25 rfl (by decide) (fun h0 => absurd h0 (by rw [nI_ge2 (by omega) (by omega)]; omega)) (fun _ => ?_)
      refine s_aload_n (pc2 := 29) w dX5_putMoreValues_28 rfl rfl ?_
      refine m_getR (pc2 := 32) (ci := 4) (k := 1) (j2 := 46) w dX5_putMoreValues_29 rfl rfl rfl rfl rfl rfl ?_
      refine s_iload_n (pc2 := 33) w dX5_putMoreValues_32 rfl rfl ?_
      refine m_aaloadN (pc2 := 34) (t := a) (kd := 25) (j2 := (3 * a + 53)) (N := 6) w dX5_putMoreValues_33 rfl rfl rfl rfl rfl rfl (by omega) rfl (by show 46 + (7 + 3 * a) = 3 * a + 53; omega) ?_
      refine s_aload_n (pc2 := 35) w dX5_putMoreValues_34 rfl rfl ?_
      refine m_getR (pc2 := 38) (ci := 5) (k := 4) (j2 := 102) w dX5_putMoreValues_35 rfl rfl rfl rfl rfl rfl ?_
      refine s_iload_n (pc2 := 39) w dX5_putMoreValues_38 rfl rfl ?_
      refine r_X10_elementAt (pc2 := 42) (N := 20) w dX5_putMoreValues_39 rfl rfl rfl rfl rfl rfl ?_
      rw [if_neg (show ¬ (nI (4 + n) < 0 ∨ nI 20 ≤ nI (4 + n)) from fun h => by rcases h with h | h; exact nI_pos (by omega) h; exact (nI_ge2 (by omega) (by omega)).mp h (by omega)), nI_clamp (by omega), show x1 102 (4 + n) = f n from (hf 102 _ (by omega)).trans ((hp3.2 _ (by omega)).trans (hp5 n (by omega)))]
      refine r_X7_append (pc2 := 45) (n0 := n) w dX5_putMoreValues_42 rfl rfl rfl (by first | exact j1 | exact j2 | rfl) j2 j3 e2 (by omega) (fun h42 => ?_) (fun h => absurd (show n < 16 by omega) h)
      refine s_pop (pc2 := 46) w dX5_putMoreValues_45 rfl rfl ?_
      refine s_iinc (pc2 := 49) w dX5_putMoreValues_46 rfl rfl rfl rfl ?_
      dsimp only [gk_s1, gk_s2, gk_cl]
      rw [nI_s]
      refine s_goto (tgt := 20) w dX5_putMoreValues_49 (by decide) ?_
      refine ih (n + 1) _ (by omega) (by omega) ?_ (SV_s hV (by omega) (hp6 n (by omega))) (fun i k h => (gk_up_ne (by omega)).trans ((gk_up_ne (by omega)).trans (hf i k h)))
      have hs := hV.2.2
      have h9 := RS_VA (b := 44) (v := f n) (x2 := gk_up (gk_up x1 (3 * a + 53 + 2) n (f n)) (3 * a + 53) 2 (nI (n + 1))) hV.1.1 hV.2.1 (by omega) hR (by rw [hs]; exact (gk_up_ne (by omega)).trans (gk_up_in _ _ _ _)) (by rw [hs]; exact gk_up_in _ _ _ _) (fun i k h1 h2 => (gk_up_ne h2).trans (gk_up_ne (by rw [hs] at h1; exact h1)))
      have e9 : gVA (gF g a f n) a (f n) = gF g a f (n + 1) := by
        show _ = gV1 (gF g a f n) a n (f n)
        unfold gV1 gVA
        rw [hs]
      rw [e9] at h9
      exact h9
  exact key (l0 - 1) 1 x (by omega) (by omega) hp0 hp1 (fun _ _ _ => rfl)
theorem lk_X5_putMoreValues {l : Launch} (hl : l.stackTraces = false) : ∀ q ∈ L_X5_putMoreValues, (q.2.1 < 5 → gk_Lk l RX5 gk_W1 1 q.1 q.2.1 q.2.2.1 q.2.2.2.1 q.2.2.2.2.1 q.2.2.2.2.2) := (List.forall_mem_cons.mpr ⟨(fun _ => ⟨yX10_elementAt, cX10_elementAt, 2, (some .int), 0, _, M_X10_elementAt hl, ⟨by decide, by decide⟩, ⟨by decide, by decide, by decide +kernel⟩, ⟨(gk_wm 481 (by decide +kernel)), (gk_wm 89 (by decide +kernel))⟩, Or.inr (Or.inl ⟨rfl, rfl, (gk_wm 480 (by decide +kernel)), ⟨_, gk_nsm 14 rfl⟩, nt_X10_elementAt⟩)⟩), (List.forall_mem_cons.mpr ⟨(fun _ => ⟨yX7_append, cX7_append, 2, (some .int), 0, _, M_X7_append hl, ⟨by decide, by decide⟩, ⟨by decide, by decide, by decide +kernel⟩, ⟨(gk_wm 674 (by decide +kernel)), (gk_wm 92 (by decide +kernel))⟩, Or.inr (Or.inr (Or.inr (Or.inl ⟨rfl, rfl, (gk_wm 672 (by decide +kernel)), (gk_wm 673 (by decide +kernel)), gk_wm 680 (by decide +kernel), by decide, rfl⟩)))⟩), (fun _ h => absurd h List.not_mem_nil)⟩)⟩)
theorem sp_X5_putMoreValues : ∀ q ∈ L_X5_putMoreValues, gk_Sq RX5 gk_W1 1 q := (List.forall_mem_cons.mpr ⟨⟨fun h => absurd h (by decide), fun h => absurd h (by decide), fun h => absurd h (by decide), fun h => absurd h (by decide), fun h => absurd h (by decide), fun h => absurd h (by decide)⟩, (List.forall_mem_cons.mpr ⟨⟨fun h => absurd h (by decide), fun h => absurd h (by decide), fun h => absurd h (by decide), fun h => absurd h (by decide), fun h => absurd h (by decide), fun h => absurd h (by decide)⟩, (fun _ h => absurd h List.not_mem_nil)⟩)⟩)
theorem M_X5_putMoreValues {l : Launch} (hl : l.stackTraces = false) : gk_Mt l yX5_putMoreValues (.code yX5_putMoreValues cX5_putMoreValues 4 none :: gk_W1) 1 0 S_X5_putMoreValues := gk_meth hl gk_cw_ok (by decide +kernel) rfl m_X5_putMoreValues pX5_ok (gk_Sp_of sp_X5_putMoreValues) pX5_st (fun ci m S h => absurd h (by intro h; cases h)) (xf_X5 1) (fun idx kd ci mm cost S2 h h5 => lk_X5_putMoreValues hl _ (gk_lk_mem h) h5)

end GKV

/-! THE TEXT, 10: what a setup says, as a pure function of its tokens -/
/-- a state of the reading: the token's number, the error, the scene -/
abbrev gk_P : Type := Nat × Nat × (Nat → Int32)
def KK (c : Nat → Int32) (t i : Nat) : Nat := tk c t (tp c t i)
def VV (c : Nat → Int32) (t i : Nat) : Nat := tv c t (tp c t i)
def inR (lo hi v : Int) : Bool := decide (lo ≤ v ∧ v ≤ hi)
def pQ (b : Bool) (k : Nat) (Q : gk_P) : gk_P := if Q.2.1 = 0 ∧ b = false then (Q.1, k, Q.2.2) else Q
def pAd (c : Nat → Int32) (t : Nat) (Q : gk_P) : gk_P := if Q.2.1 = 0 ∧ ¬ KK c t Q.1 = 0 then (Q.1 + 1, 0, Q.2.2) else Q
def pG (f : (Nat → Int32) → (Nat → Int32)) (Q : gk_P) : gk_P := if Q.2.1 = 0 then (Q.1, 0, f Q.2.2) else Q
/-- a number's place, told which value it has -/
def pT (c : Nat → Int32) (t : Nat) (lo hi z : Int) (Q : gk_P) : gk_P := pAd c t (pQ (inR lo hi z) 2 (pQ (decide (KK c t Q.1 = 4)) 1 Q))
def pN (c : Nat → Int32) (t : Nat) (lo hi : Int) (Q : gk_P) : gk_P := pT c t lo hi (VV c t Q.1) Q
def pI (c : Nat → Int32) (t : Nat) (lo hi : Int) (Q : gk_P) : gk_P := if KK c t Q.1 = 3 then pT c t lo hi (-(VV c t (pAd c t Q).1 : Int)) (pAd c t Q) else pN c t lo hi Q
def vN (c : Nat → Int32) (t : Nat) (Q : gk_P) : Int32 := gI (VV c t Q.1)
def vI (c : Nat → Int32) (t : Nat) (Q : gk_P) : Int32 := if KK c t Q.1 = 3 then gI (-(VV c t (pAd c t Q).1 : Int)) else gI (VV c t Q.1)
def pM1 (c : Nat → Int32) (t : Nat) (Q : gk_P) : gk_P := pAd c t (pQ (decide (nM Q.2.2 < 8)) 3 Q)
def pM2 (c : Nat → Int32) (t : Nat) (Q : gk_P) : gk_P := pI c t (-5000) 5000 (pM1 c t Q)
def pM3 (c : Nat → Int32) (t : Nat) (Q : gk_P) : gk_P := pI c t (-100) 99 (pM2 c t Q)
def pM4 (c : Nat → Int32) (t : Nat) (Q : gk_P) : gk_P := pN c t 0 500 (pM3 c t Q)
def pM5 (c : Nat → Int32) (t : Nat) (Q : gk_P) : gk_P := pN c t 0 9 (pM4 c t Q)
def pMic (c : Nat → Int32) (t : Nat) (Q : gk_P) : gk_P := pG (fun g => gAM g (nM g) (vI c t (pM1 c t Q)) (vI c t (pM2 c t Q)) (vN c t (pM3 c t Q)) (vN c t (pM4 c t Q))) (pM5 c t Q)
def pV1 (c : Nat → Int32) (t : Nat) (Q : gk_P) : gk_P := pAd c t (pQ (decide (nV Q.2.2 < 4)) 3 Q)
def pV2 (c : Nat → Int32) (t : Nat) (Q : gk_P) : gk_P := pI c t (-20000) 20000 (pV1 c t Q)
def pV3 (c : Nat → Int32) (t : Nat) (Q : gk_P) : gk_P := pI c t (-50) 50 (pV2 c t Q)
def pV4 (c : Nat → Int32) (t : Nat) (Q : gk_P) : gk_P := pI c t 100 5000 (pV3 c t Q)
def pVeh (c : Nat → Int32) (t : Nat) (Q : gk_P) : gk_P := pG (fun g => gAV g (nV g) (vI c t (pV1 c t Q)) (vI c t (pV2 c t Q)) (vI c t (pV3 c t Q))) (pV4 c t Q)
def pS1 (c : Nat → Int32) (t : Nat) (Q : gk_P) : gk_P := pAd c t (pQ (decide (nS Q.2.2 < 6)) 3 Q)
def pS2 (c : Nat → Int32) (t : Nat) (Q : gk_P) : gk_P := pN c t 0 ((nV Q.2.2 : Int) - 1) (pS1 c t Q)
def pS3 (c : Nat → Int32) (t : Nat) (Q : gk_P) : gk_P := pI c t (-1000) 1000 (pS2 c t Q)
def pS4 (c : Nat → Int32) (t : Nat) (Q : gk_P) : gk_P := pN c t 0 500 (pS3 c t Q)
def pS5 (c : Nat → Int32) (t : Nat) (Q : gk_P) : gk_P := pN c t 1 10 (pS4 c t Q)
def pS6 (c : Nat → Int32) (t : Nat) (Q : gk_P) : gk_P := pG (fun g => gAS0 g (nS g) (vN c t (pS1 c t Q)) (vI c t (pS2 c t Q)) (vN c t (pS3 c t Q)) (vN c t (pS4 c t Q))) (pS5 c t Q)
/-- one value more of the source a -/
def gV1 (g : Nat → Int32) (a l : Nat) (v : Int32) : Nat → Int32 := gU (gU g (28 + 21 * a + 5 + l) v) (28 + 21 * a + 4) (nI (l + 1))
def pW1 (c : Nat → Int32) (t a l : Nat) (Q : gk_P) : gk_P := pG (fun g => gV1 g a l (vI c t Q)) (pI c t (-99) 99 Q)
/-- values, at most k of them, l stand already -/
def pW (c : Nat → Int32) (t a : Nat) : Nat → Nat → gk_P → gk_P
  | 0, _, Q => Q
  | k + 1, l, Q => if (pW1 c t a l Q).2.1 = 0 ∧ (KK c t (pW1 c t a l Q).1 = 4 ∨ KK c t (pW1 c t a l Q).1 = 3) then pW c t a k (l + 1) (pW1 c t a l Q) else pW1 c t a l Q
def pSrc (c : Nat → Int32) (t : Nat) (Q : gk_P) : gk_P := pW c t (nS Q.2.2) 16 0 (pS6 c t Q)
def pB (c : Nat → Int32) (t : Nat) (Q : gk_P) : gk_P :=
  if KK c t Q.1 = 5 then pMic c t Q else if KK c t Q.1 = 6 then pVeh c t Q else if KK c t Q.1 = 7 then pSrc c t Q
  else if KK c t Q.1 = 8 then pG (fun g => gU g 0 (vN c t (pAd c t Q))) (pN c t 100 1000 (pAd c t Q))
  else if KK c t Q.1 = 9 then pG (fun g => gU g 1 (vI c t (pAd c t Q))) (pI c t (-90) 90 (pAd c t Q))
  else if KK c t Q.1 = 10 then pG (fun g => gU g 4 (vN c t (pAd c t Q))) (pN c t 0 99 (pAd c t Q))
  else pG (fun g => gU g 2 1) (pAd c t (pQ (decide (KK c t Q.1 = 11)) 1 Q))
def pSt (c : Nat → Int32) (t : Nat) (Q : gk_P) : gk_P := pAd c t (pQ (decide (KK c t (pB c t Q).1 = 2)) 1 (pB c t Q))
/-- statements, at most k of them: how many, the end -/
def pLd (c : Nat → Int32) (t : Nat) : Nat → gk_P → Nat × gk_P
  | 0, Q => (0, Q)
  | k + 1, Q => if Q.2.1 = 0 ∧ ¬ KK c t Q.1 = 0 then ((pLd c t k (pSt c t Q)).1 + 1, (pLd c t k (pSt c t Q)).2) else (0, Q)
/-! what an error leaves alone -/
theorem n1_0 : ¬ (1 : Nat) = 0 := by decide
theorem n2_0 : ¬ (2 : Nat) = 0 := by decide
theorem n3_0 : ¬ (3 : Nat) = 0 := by decide
theorem pQ_e {b : Bool} {k : Nat} {Q : gk_P} (h : ¬ Q.2.1 = 0) : pQ b k Q = Q := if_neg (fun h2 => h h2.1)
theorem pA_e {c : Nat → Int32} {t : Nat} {Q : gk_P} (h : ¬ Q.2.1 = 0) : pAd c t Q = Q := if_neg (fun h2 => h h2.1)
theorem pG_e {f : (Nat → Int32) → (Nat → Int32)} {Q : gk_P} (h : ¬ Q.2.1 = 0) : pG f Q = Q := if_neg h
theorem pT_e {c : Nat → Int32} {t : Nat} {lo hi z : Int} {Q : gk_P} (h : ¬ Q.2.1 = 0) : pT c t lo hi z Q = Q := by
  unfold pT
  rw [pQ_e (Q := Q) h, pQ_e h, pA_e h]
theorem pN_e {c : Nat → Int32} {t : Nat} {lo hi : Int} {Q : gk_P} (h : ¬ Q.2.1 = 0) : pN c t lo hi Q = Q := pT_e h
theorem pI_e {c : Nat → Int32} {t : Nat} {lo hi : Int} {Q : gk_P} (h : ¬ Q.2.1 = 0) : pI c t lo hi Q = Q := by
  unfold pI
  split
  · rw [pA_e h, pT_e h]
  · exact pN_e h
theorem pW_e {c : Nat → Int32} {t a : Nat} {Q : gk_P} (h : ¬ Q.2.1 = 0) : ∀ k l, pW c t a k l Q = Q
  | 0, _ => rfl
  | k + 1, l => by
    have e : pW1 c t a l Q = Q := by
      unfold pW1
      rw [pI_e h, pG_e h]
    unfold pW
    rw [e, if_neg (fun h2 => h h2.1)]
/-! where it was: a reading never goes back, nor behind the end -/
def pIn (i m : Nat) (Q : gk_P) : Prop := i ≤ Q.1 ∧ Q.1 ≤ m ∧ Q.2.1 ≤ 3
theorem pQ_in {i m k : Nat} {b : Bool} {Q : gk_P} (hk : k ≤ 3) (h : pIn i m Q) : pIn i m (pQ b k Q) := by
  unfold pQ
  split
  · exact ⟨h.1, h.2.1, hk⟩
  · exact h
theorem pG_in {i m : Nat} {f : (Nat → Int32) → (Nat → Int32)} {Q : gk_P} (h : pIn i m Q) : pIn i m (pG f Q) := by
  unfold pG
  split
  · exact ⟨h.1, h.2.1, Nat.zero_le _⟩
  · exact h
theorem KK_m {c : Nat → Int32} {t m : Nat} (hm : tp c t m = t) : KK c t m = 0 := by
  unfold KK
  rw [hm]
  exact (tk_0 (Nat.le_refl t)).mpr rfl
theorem pA_in {c : Nat → Int32} {t i m : Nat} {Q : gk_P} (hm : tp c t m = t) (h : pIn i m Q) : pIn i m (pAd c t Q) := by
  unfold pAd
  split
  · next h2 =>
    have h3 : Q.1 ≠ m := fun e => h2.2 (by rw [e]; exact KK_m hm)
    obtain ⟨h4, h5, h6⟩ := h
    exact ⟨by show i ≤ Q.1 + 1; omega, by show Q.1 + 1 ≤ m; omega, Nat.zero_le _⟩
  · exact h
theorem pT_in {c : Nat → Int32} {t i m : Nat} {lo hi z : Int} {Q : gk_P} (hm : tp c t m = t) (h : pIn i m Q) : pIn i m (pT c t lo hi z Q) := pA_in hm (pQ_in (by omega) (pQ_in (by omega) h))
theorem pN_in {c : Nat → Int32} {t i m : Nat} {lo hi : Int} {Q : gk_P} (hm : tp c t m = t) (h : pIn i m Q) : pIn i m (pN c t lo hi Q) := pT_in hm h
theorem pI_in {c : Nat → Int32} {t i m : Nat} {lo hi : Int} {Q : gk_P} (hm : tp c t m = t) (h : pIn i m Q) : pIn i m (pI c t lo hi Q) := by
  unfold pI
  split
  · exact pT_in hm (pA_in hm h)
  · exact pT_in hm h
theorem pW_in {c : Nat → Int32} {t a i m : Nat} (hm : tp c t m = t) : ∀ k l (Q : gk_P), pIn i m Q → pIn i m (pW c t a k l Q)
  | 0, _, Q, h => h
  | k + 1, l, Q, h => by
    have h2 : pIn i m (pW1 c t a l Q) := pG_in (pI_in hm h)
    unfold pW
    split
    · exact pW_in hm k (l + 1) _ h2
    · exact h2
theorem pB_in {c : Nat → Int32} {t i m : Nat} {Q : gk_P} (hm : tp c t m = t) (h : pIn i m Q) : pIn i m (pB c t Q) := by
  unfold pB
  split
  · exact pG_in (pN_in hm (pN_in hm (pI_in hm (pI_in hm (pA_in hm (pQ_in (by omega) h))))))
  split
  · exact pG_in (pI_in hm (pI_in hm (pI_in hm (pA_in hm (pQ_in (by omega) h)))))
  split
  · exact pW_in hm _ _ _ (pG_in (pN_in hm (pN_in hm (pI_in hm (pN_in hm (pA_in hm (pQ_in (by omega) h)))))))
  split
  · exact pG_in (pN_in hm (pA_in hm h))
  split
  · exact pG_in (pI_in hm (pA_in hm h))
  split
  · exact pG_in (pN_in hm (pA_in hm h))
  · exact pG_in (pA_in hm (pQ_in (by omega) h))
theorem pSt_in {c : Nat → Int32} {t i m : Nat} {Q : gk_P} (hm : tp c t m = t) (h : pIn i m Q) : pIn i m (pSt c t Q) := pA_in hm (pQ_in (by omega) (pB_in hm h))
/-- a statement that is right takes a token -/
theorem pSt_lt {c : Nat → Int32} {t m : Nat} {Q : gk_P} (hm : tp c t m = t) (h : pIn Q.1 m Q) (h0 : (pSt c t Q).2.1 = 0) : Q.1 < (pSt c t Q).1 := by
  have h1 := pB_in hm h
  unfold pSt at h0 ⊢
  generalize pB c t Q = Q2 at h0 h1 ⊢
  by_cases h2 : Q2.2.1 = 0 ∧ decide (KK c t Q2.1 = 2) = false
  · rw [show pQ (decide (KK c t Q2.1 = 2)) 1 Q2 = (Q2.1, 1, Q2.2.2) from if_pos h2, pA_e n1_0] at h0
    exact absurd h0 n1_0
  · rw [show pQ (decide (KK c t Q2.1 = 2)) 1 Q2 = Q2 from if_neg h2] at h0 ⊢
    by_cases h3 : Q2.2.1 = 0
    · have h4 : KK c t Q2.1 = 2 := Decidable.byContradiction (fun h => h2 ⟨h3, decide_eq_false h⟩)
      rw [show pAd c t Q2 = (Q2.1 + 1, 0, Q2.2.2) from if_pos ⟨h3, by rw [h4]; decide⟩]
      have := h1.1
      show Q.1 < Q2.1 + 1
      omega
    · rw [pA_e h3] at h0
      exact absurd h0 h3
/-! a number that was right -/
theorem pA_1 {c : Nat → Int32} {t : Nat} {Q : gk_P} (h0 : Q.2.1 = 0) (h : ¬ KK c t Q.1 = 0) : pAd c t Q = (Q.1 + 1, 0, Q.2.2) := if_pos ⟨h0, h⟩
theorem pT_k1 {c : Nat → Int32} {t : Nat} {lo hi z : Int} {Q : gk_P} (h0 : Q.2.1 = 0) (h : ¬ KK c t Q.1 = 4) : pT c t lo hi z Q = (Q.1, 1, Q.2.2) := by
  have e1 : pQ (decide (KK c t Q.1 = 4)) 1 Q = (Q.1, 1, Q.2.2) := if_pos ⟨h0, decide_eq_false h⟩
  unfold pT
  rw [e1, pQ_e n1_0, pA_e n1_0]
theorem pT_k2 {c : Nat → Int32} {t : Nat} {lo hi z : Int} {Q : gk_P} (h0 : Q.2.1 = 0) (h : KK c t Q.1 = 4) (hz : ¬ (lo ≤ z ∧ z ≤ hi)) : pT c t lo hi z Q = (Q.1, 2, Q.2.2) := by
  have e1 : pQ (decide (KK c t Q.1 = 4)) 1 Q = Q := if_neg (fun h2 => by rw [decide_eq_true h] at h2; exact absurd h2.2 (by decide))
  have e2 : pQ (inR lo hi z) 2 Q = (Q.1, 2, Q.2.2) := if_pos ⟨h0, decide_eq_false hz⟩
  unfold pT
  rw [e1, e2, pA_e n2_0]
theorem pT_k3 {c : Nat → Int32} {t : Nat} {lo hi z : Int} {Q : gk_P} (h0 : Q.2.1 = 0) (h : KK c t Q.1 = 4) (hz : lo ≤ z ∧ z ≤ hi) : pT c t lo hi z Q = (Q.1 + 1, 0, Q.2.2) := by
  have e1 : pQ (decide (KK c t Q.1 = 4)) 1 Q = Q := if_neg (fun h2 => by rw [decide_eq_true h] at h2; exact absurd h2.2 (by decide))
  have e2 : pQ (inR lo hi z) 2 Q = Q := if_neg (fun h => by rw [inR, decide_eq_true hz] at h; exact absurd h.2 (by decide))
  unfold pT
  rw [e1, e2, pA_1 h0 (by rw [h]; decide)]
theorem pT_0 {c : Nat → Int32} {t : Nat} {lo hi z : Int} {Q : gk_P} (h : (pT c t lo hi z Q).2.1 = 0) : Q.2.1 = 0 ∧ KK c t Q.1 = 4 ∧ (lo ≤ z ∧ z ≤ hi) ∧ pT c t lo hi z Q = (Q.1 + 1, 0, Q.2.2) := by
  by_cases h0 : Q.2.1 = 0
  · by_cases h4 : KK c t Q.1 = 4
    · by_cases hz : lo ≤ z ∧ z ≤ hi
      · exact ⟨h0, h4, hz, pT_k3 h0 h4 hz⟩
      · rw [pT_k2 h0 h4 hz] at h
        exact absurd h n2_0
    · rw [pT_k1 h0 h4] at h
      exact absurd h n1_0
  · rw [pT_e h0] at h
    exact absurd h h0
theorem pA_0 {c : Nat → Int32} {t : Nat} {Q : gk_P} (h : (pAd c t Q).2.1 = 0) : Q.2.1 = 0 ∧ (pAd c t Q).2.2 = Q.2.2 := by
  by_cases h2 : Q.2.1 = 0 ∧ ¬ KK c t Q.1 = 0
  · rw [pA_1 h2.1 h2.2]
    exact ⟨h2.1, rfl⟩
  · rw [show pAd c t Q = Q from if_neg h2] at h ⊢
    exact ⟨h, rfl⟩
theorem pN_0 {c : Nat → Int32} {t : Nat} {lo hi : Int} {Q : gk_P} (hl : -20000 ≤ lo ∧ lo ≤ 20000) (hh : -20000 ≤ hi ∧ hi ≤ 20000) (h : (pN c t lo hi Q).2.1 = 0) : Q.2.1 = 0 ∧ (gI lo ≤ vN c t Q ∧ vN c t Q ≤ gI hi) ∧ (pN c t lo hi Q).2.2 = Q.2.2 := by
  obtain ⟨h1, h2, h3, h4⟩ := pT_0 h
  have h5 : VV c t Q.1 ≤ 20001 := Nat.min_le_right _ _
  refine ⟨h1, ?_, by unfold pN; rw [h4]⟩
  unfold vN
  rw [gI_le ⟨by omega, by omega⟩ ⟨by omega, by omega⟩, gI_le ⟨by omega, by omega⟩ ⟨by omega, by omega⟩]
  exact h3
theorem pI_0 {c : Nat → Int32} {t : Nat} {lo hi : Int} {Q : gk_P} (hl : -20000 ≤ lo ∧ lo ≤ 20000) (hh : -20000 ≤ hi ∧ hi ≤ 20000) (h : (pI c t lo hi Q).2.1 = 0) : Q.2.1 = 0 ∧ (gI lo ≤ vI c t Q ∧ vI c t Q ≤ gI hi) ∧ (pI c t lo hi Q).2.2 = Q.2.2 := by
  by_cases h3 : KK c t Q.1 = 3
  · rw [show pI c t lo hi Q = pT c t lo hi (-(VV c t (pAd c t Q).1 : Int)) (pAd c t Q) from if_pos h3] at h ⊢
    rw [show vI c t Q = gI (-(VV c t (pAd c t Q).1 : Int)) from if_pos h3]
    obtain ⟨h1, h2, h4, h5⟩ := pT_0 h
    have h6 : VV c t (pAd c t Q).1 ≤ 20001 := Nat.min_le_right _ _
    obtain ⟨h7, h8⟩ := pA_0 h1
    refine ⟨h7, ?_, by rw [h5]; exact h8⟩
    rw [gI_le ⟨by omega, by omega⟩ ⟨by omega, by omega⟩, gI_le ⟨by omega, by omega⟩ ⟨by omega, by omega⟩]
    exact h4
  · rw [show pI c t lo hi Q = pN c t lo hi Q from if_neg h3] at h ⊢
    rw [show vI c t Q = vN c t Q from if_neg h3]
    exact pN_0 hl hh h
theorem pG_0 {f : (Nat → Int32) → (Nat → Int32)} {Q : gk_P} (h : (pG f Q).2.1 = 0) : Q.2.1 = 0 ∧ pG f Q = (Q.1, 0, f Q.2.2) := by
  by_cases h2 : Q.2.1 = 0
  · exact ⟨h2, if_pos h2⟩
  · rw [pG_e h2] at h
    exact absurd h h2
theorem pG_1 {f : (Nat → Int32) → (Nat → Int32)} {Q : gk_P} (h : Q.2.1 = 0) : pG f Q = (Q.1, 0, f Q.2.2) := if_pos h
theorem pQ_0 {b : Bool} {k : Nat} {Q : gk_P} (hk : ¬ k = 0) (h : (pQ b k Q).2.1 = 0) : Q.2.1 = 0 ∧ b = true ∧ pQ b k Q = Q := by
  by_cases h2 : Q.2.1 = 0 ∧ b = false
  · rw [show pQ b k Q = (Q.1, k, Q.2.2) from if_pos h2] at h
    exact absurd h hk
  · rw [show pQ b k Q = Q from if_neg h2] at h ⊢
    refine ⟨h, ?_, rfl⟩
    cases b
    · exact absurd ⟨h, rfl⟩ h2
    · rfl

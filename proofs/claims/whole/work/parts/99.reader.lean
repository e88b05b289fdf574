/-! THE TEXT, 11: the class, its reader -/
section GKV
variable {c : ByteArray} {P : gk_C} {cs : Nat → Option gk_M0} {rt : Option FieldType} {uf : Nat} {sc : Option Nat} {K : gk_K} {V : gk_V}
variable {L : List (Option Value)} {r : List Value} {n : Nat} {fl : gk_F} {x : gk_X} {y : gk_Y} {u pc pc2 : Nat}
def CH (c : Nat → Int32) (t m : Nat) : Prop := m ≤ 500 ∧ t ≤ 500 ∧ tp c t m = t
/-- the reader stands at Q -/
def CP (c : Nat → Int32) (t m : Nat) (x0 : gk_X) (Q : gk_P) (x : gk_X) (y : gk_Y) : Prop := (∀ i k, ¬ (44 ≤ i ∧ i < 87) → ¬ (97 ≤ i ∧ i ≤ 102) → x i k = x0 i k) ∧ TA c t (m + 1) x ∧ x 97 3 = nI Q.1 ∧ x 97 0 = nI Q.2.1 ∧ x 97 1 = -1 ∧ Q.1 ≤ m ∧ Q.2.1 ≤ 3 ∧ (Q.2.1 = 0 → RS 44 Q.2.2 x y ∧ gOK Q.2.2)
/-- its arguments -/
def AR (f : Nat → Int32) (j : Nat) (x : gk_X) : Prop := x 97 5 = nI j ∧ ∀ k, k < j → x 102 k = f k
theorem nI_lt2 {a b : Nat} (ha : a < 100000) (hb : b < 100000) : nI a < nI b ↔ a < b := by
  rw [gI_nI, gI_nI, gI_lt ⟨by omega, by omega⟩ ⟨by omega, by omega⟩]
  omega
def eB (Q : gk_P) : Int32 := if Q.2.1 = 0 then 1 else 0
theorem eB_n (Q : gk_P) : narrow .boolean (.int (eB Q)) = .int (eB Q) := by
  unfold eB
  split
  · rfl
  · rfl
theorem eB_0 (Q : gk_P) : eB Q = 0 ↔ ¬ Q.2.1 = 0 := by
  unfold eB
  split
  · next h => exact ⟨fun h2 => absurd h2 (by decide), fun h2 => absurd h h2⟩
  · next h => exact ⟨fun _ => h, fun _ => rfl⟩
theorem eB_1 {Q : gk_P} (h : Q.2.1 = 0) : eB Q = 1 := if_pos h
theorem eB_2 {Q : gk_P} (h : ¬ Q.2.1 = 0) : eB Q = 0 := if_neg h
theorem CP.kd {c : Nat → Int32} {t m : Nat} {x0 : gk_X} {Q : gk_P} {x : gk_X} {y : gk_Y} (hm : CH c t m) (h : CP c t m x0 Q x y) : (if Q.1 < 501 then x 99 Q.1 else 0) = nI (KK c t Q.1) := by
  have h1 := h.2.2.2.2.2.1
  have h2 := hm.1
  rw [if_pos (by omega)]
  exact (h.2.1.2 Q.1 (by omega)).1
theorem CP.mk {c : Nat → Int32} {t m : Nat} {x0 : gk_X} {Q Q2 : gk_P} {x x2 : gk_X} {y : gk_Y} (h : CP c t m x0 Q x y) (hx : ∀ i k, i ≠ 97 → i ≠ 102 → x2 i k = x i k) (h1 : x2 97 1 = x 97 1) (h3 : x2 97 3 = nI Q2.1) (h0 : x2 97 0 = nI Q2.2.1) (hi : Q2.1 ≤ m) (he : Q2.2.1 ≤ 3) (hg : Q2.2.2 = Q.2.2) (h4 : Q2.2.1 = 0 → Q.2.1 = 0) : CP c t m x0 Q2 x2 y := by
  obtain ⟨a1, a2, a3, a4, a5, a6, a7, a8⟩ := h
  refine ⟨fun i k b1 b2 => (hx i k (by omega) (by omega)).trans (a1 i k b1 b2), ⟨(hx 98 3 (by omega) (by omega)).trans a2.1, fun j hj => ?_⟩, h3, h0, h1.trans a5, hi, he, fun e => ?_⟩
  · obtain ⟨b1, b2, b3⟩ := a2.2 j hj
    rw [hx 99 j (by omega) (by omega), hx 100 j (by omega) (by omega), hx 101 j (by omega) (by omega)]
    exact ⟨b1, b2, b3⟩
  · obtain ⟨b1, b2⟩ := a8 (h4 e)
    rw [hg]
    exact ⟨b1.cg b2.1 (fun i k c1 c2 => hx i k (by omega) (by omega)) (fun k => rfl), b2⟩
theorem CP.fail {c : Nat → Int32} {t m k : Nat} {x0 : gk_X} {Q : gk_P} {x : gk_X} {y : gk_Y} (h : CP c t m x0 Q x y) (hk : k ≤ 3) (hk0 : ¬ k = 0) : CP c t m x0 (Q.1, k, Q.2.2) (gk_up x 97 0 (nI k)) y :=
  h.mk (fun i k h1 h2 => gk_up_ne (by omega)) (gk_up_ne (by omega)) ((gk_up_ne (by omega)).trans h.2.2.1) (gk_up_in _ _ _ _) h.2.2.2.2.2.1 hk rfl (fun e => absurd e hk0)
theorem CP.lt {c : Nat → Int32} {t m : Nat} {x0 : gk_X} {Q : gk_P} {x : gk_X} {y : gk_Y} (hm : CH c t m) (h : CP c t m x0 Q x y) (hk : ¬ KK c t Q.1 = 0) : Q.1 + 1 ≤ m := by
  have h1 := h.2.2.2.2.2.1
  have h3 : Q.1 ≠ m := fun e => hk (by rw [e]; exact KK_m hm.2.2)
  omega
theorem CP.step {c : Nat → Int32} {t m : Nat} {x0 : gk_X} {Q : gk_P} {x : gk_X} {y : gk_Y} (hm : CH c t m) (h : CP c t m x0 Q x y) (h0 : Q.2.1 = 0) (hk : ¬ KK c t Q.1 = 0) : CP c t m x0 (pAd c t Q) (gk_up x 97 3 (nI (Q.1 + 1))) y := by
  rw [pA_1 h0 hk]
  exact h.mk (fun i k h1 h2 => gk_up_ne (by omega)) (gk_up_ne (by omega)) (gk_up_in _ _ _ _) ((gk_up_ne (by omega)).trans (h.2.2.2.1.trans (by rw [h0]))) (h.lt hm hk) (Nat.zero_le 3) rfl (fun _ => h0)
theorem kq {c : Nat → Int32} {t i : Nat} (k : Nat) (hk : k < 100000) : nI (KK c t i) = nI k ↔ KK c t i = k := nI_eq2 (Nat.lt_of_le_of_lt (tk_le c t _) (by decide)) hk
/-- a value above every range is above it however high -/
theorem pT_v {c : Nat → Int32} {t a : Nat} {lo hi : Int} {Q : gk_P} (hl : -20000 ≤ lo) (hh : hi ≤ 20000) : pT c t lo hi (vC c t a) Q = pT c t lo hi (tv c t a) Q ∧ ((pT c t lo hi (tv c t a) Q).2.1 = 0 → gI (vC c t a) = gI (tv c t a)) := by
  have e : tv c t a = min (vC c t a) 20001 := rfl
  have h : inR lo hi (vC c t a) = inR lo hi (tv c t a) := by
    unfold inR
    rw [decide_eq_decide]
    omega
  unfold pT
  rw [h]
  refine ⟨rfl, fun h2 => ?_⟩
  have h3 := (pT_0 (c := c) (t := t) (lo := lo) (hi := hi) (z := tv c t a) h2).2.2.1
  congr 1
  omega
theorem pT_vm {c : Nat → Int32} {t a : Nat} {lo hi : Int} {Q : gk_P} (hl : -20000 ≤ lo) (hh : hi ≤ 20000) : pT c t lo hi (-(vC c t a : Int)) Q = pT c t lo hi (-(tv c t a : Int)) Q ∧ ((pT c t lo hi (-(tv c t a : Int)) Q).2.1 = 0 → gI (-(vC c t a : Int)) = gI (-(tv c t a : Int))) := by
  have e : tv c t a = min (vC c t a) 20001 := rfl
  have h : inR lo hi (-(vC c t a : Int)) = inR lo hi (-(tv c t a : Int)) := by
    unfold inR
    rw [decide_eq_decide]
    omega
  unfold pT
  rw [h]
  refine ⟨rfl, fun h2 => ?_⟩
  have h3 := (pT_0 (c := c) (t := t) (lo := lo) (hi := hi) (z := -(tv c t a : Int)) h2).2.2.1
  congr 1
  omega
theorem CP.vl {c : Nat → Int32} {t m : Nat} {x0 : gk_X} {Q : gk_P} {x : gk_X} {y : gk_Y} (h : CP c t m x0 Q x y) : x 101 Q.1 = gI (vC c t (tp c t Q.1)) := (h.2.1.2 Q.1 (by have := h.2.2.2.2.2.1; omega)).2.2
def S_X5_fail : gk_S := fun as n fl x y K => ∃ (k_ : Int32), as = [.ref 97, .int k_] ∧ (n = 202 ∧ fl = gk_fT) ∧ (K (.inl (some (.int 0))) n fl (gk_up x 97 0 k_) y)
theorem r_X5_fail (w : gk_W c P cs (fun _ _ => none) rt uf sc K V) {idx : Nat} {k_ : Int32} (hd : decode c pc = .ok (.invokevirtual idx, 3)) (hp : pc + 3 = pc2) (hc : cs idx = some (1, 5, 2, 0, S_X5_fail)) (h8 : Nat.ble (r.map Value.category).sum 8 = true) (kk0 : V pc2 L ((.int 0) :: r) 202 gk_fT (gk_up x 97 0 k_) y u) : V pc L (.int k_ :: .ref 97 :: r) 202 gk_fT x y u :=
  g_callv w hd hp hc (as := [.ref 97, .int k_]) rfl h8 rfl rfl rfl (Or.inr (Or.inl ⟨Or.inl rfl, _, _, rfl, (gk_kd_j rfl rfl), rfl⟩)) (Or.inl rfl) ⟨k_, rfl, ⟨rfl, rfl⟩, kk0⟩
def L_X5_fail : List (Nat × gk_M0) := []
def cs_X5_fail : Nat → Option gk_M0 := gk_lk L_X5_fail
theorem m_X5_fail : ∀ (as : List Value) (n : Nat) (fl : gk_F) (x : gk_X) (y : gk_Y) (K : gk_K), S_X5_fail as n fl x y K → (gk_L0 as).length ≤ 2 ∧ ∀ V : gk_V, gk_W cX5_fail pX5 cs_X5_fail (fun _ _ => none) (some .boolean) 0 none K V → V 0 (gk_en as 2) [] n fl x y 0 := by
  intro as n fl x y K hS
  obtain ⟨k_, rfl, ⟨rfl, rfl⟩, q0⟩ := hS
  refine ⟨Nat.le_of_ble_eq_true rfl, fun V w => ?_⟩
  show V 0 [some (.ref 97), some (.int k_)] [] 202 gk_fT x y 0
  refine s_aload_n (pc2 := 1) w dX5_fail_0 rfl rfl ?_
  refine s_iload_n (pc2 := 2) w dX5_fail_1 rfl rfl ?_
  refine m_putI (pc2 := 5) (ci := 5) (k := 0) w dX5_fail_2 rfl rfl rfl rfl rfl (by intro h; cases h) ?_
  refine s_iconst (pc2 := 6) (v := 0) w dX5_fail_5 rfl rfl ?_
  refine s_ireturn w dX5_fail_6 rfl (by first | rfl | decide) ?_
  exact q0
theorem lk_X5_fail {l : Launch} (hl : l.stackTraces = false) : ∀ q ∈ L_X5_fail, (q.2.1 < 5 → gk_Lk l RX5 gk_W1 0 q.1 q.2.1 q.2.2.1 q.2.2.2.1 q.2.2.2.2.1 q.2.2.2.2.2) := (fun _ h => absurd h List.not_mem_nil)
theorem sp_X5_fail : ∀ q ∈ L_X5_fail, gk_Sq RX5 gk_W1 0 q := (fun _ h => absurd h List.not_mem_nil)
theorem M_X5_fail {l : Launch} (hl : l.stackTraces = false) : gk_Mt l yX5_fail (.code yX5_fail cX5_fail 2 (some .boolean) :: gk_W1) 0 0 S_X5_fail := gk_meth hl gk_cw_ok (by decide +kernel) rfl m_X5_fail pX5_ok (gk_Sp_of sp_X5_fail) pX5_st (fun ci m S h => absurd h (by intro h; cases h)) (xf_X5 0) (fun idx kd ci mm cost S2 h h5 => lk_X5_fail hl _ (gk_lk_mem h) h5)

def S_X5_isAtInteger : gk_S := fun as n fl x y K => ∃ (B : Nat → Int32) (t : Nat) (m : Nat) (x0 : gk_X) (Q : gk_P), as = [.ref 97] ∧ (n = 202 ∧ fl = gk_fT) ∧ (CH B t m) ∧ (CP B t m x0 Q x y) ∧ (K (.inl (some (.int (if KK B t Q.1 = 4 ∨ KK B t Q.1 = 3 then 1 else 0)))) n fl x y)
theorem r_X5_isAtInteger (w : gk_W c P cs (fun _ _ => none) rt uf sc K V) {idx : Nat} {B : Nat → Int32} {t : Nat} {m : Nat} {x0 : gk_X} {Q : gk_P} (hd : decode c pc = .ok (.invokevirtual idx, 3)) (hp : pc + 3 = pc2) (hc : cs idx = some (1, 5, 1, 0, S_X5_isAtInteger)) (h8 : Nat.ble (r.map Value.category).sum 8 = true) (hp0 : CH B t m) (hp1 : CP B t m x0 Q x y) (kk0 : V pc2 L ((.int (if KK B t Q.1 = 4 ∨ KK B t Q.1 = 3 then 1 else 0)) :: r) 202 gk_fT x y u) : V pc L (.ref 97 :: r) 202 gk_fT x y u :=
  g_callv w hd hp hc (as := [.ref 97]) rfl h8 rfl rfl rfl (Or.inr (Or.inl ⟨Or.inl rfl, _, _, rfl, (gk_kd_j rfl rfl), rfl⟩)) (Or.inl rfl) ⟨B, t, m, x0, Q, rfl, ⟨rfl, rfl⟩, hp0, hp1, kk0⟩
def L_X5_isAtInteger : List (Nat × gk_M0) := [(41, (1, 8, 2, 0, S_X9_kindAt))]
def cs_X5_isAtInteger : Nat → Option gk_M0 := gk_lk L_X5_isAtInteger
theorem m_X5_isAtInteger : ∀ (as : List Value) (n : Nat) (fl : gk_F) (x : gk_X) (y : gk_Y) (K : gk_K), S_X5_isAtInteger as n fl x y K → (gk_L0 as).length ≤ 2 ∧ ∀ V : gk_V, gk_W cX5_isAtInteger pX5 cs_X5_isAtInteger (fun _ _ => none) (some .boolean) 0 none K V → V 0 (gk_en as 2) [] n fl x y 0 := by
  intro as n fl x y K hS
  obtain ⟨B, t, m, x0, Q, rfl, ⟨rfl, rfl⟩, hp0, hp1, q0⟩ := hS
  refine ⟨Nat.le_of_ble_eq_true rfl, fun V w => ?_⟩
  show V 0 [some (.ref 97), none] [] 202 gk_fT x y 0
  have hb1 := hp1.2.2.2.2.2.1
  have hb2 := hp0.1
  refine s_aload_n (pc2 := 1) w dX5_isAtInteger_0 rfl rfl ?_
  refine m_getR (pc2 := 4) (ci := 5) (k := 2) (j2 := 98) w dX5_isAtInteger_1 rfl rfl rfl rfl rfl rfl ?_
  refine s_aload_n (pc2 := 5) w dX5_isAtInteger_4 rfl rfl ?_
  refine m_getI (pc2 := 8) (ci := 5) (k := 3) w dX5_isAtInteger_5 rfl rfl rfl rfl rfl ?_
  refine r_X9_kindAt (pc2 := 11) w dX5_isAtInteger_8 rfl rfl rfl hp1.2.2.1 (by omega) ?_
  rw [CP.kd hp0 hp1]
  refine s_istore_n (pc2 := 12) (k2 := 1) w dX5_isAtInteger_11 rfl rfl rfl ?_
  dsimp only [gk_s1, gk_s2, gk_cl]
  refine s_iload_n (pc2 := 13) w dX5_isAtInteger_12 rfl rfl ?_
  refine s_iconst (pc2 := 14) (v := 4) w dX5_isAtInteger_13 rfl rfl ?_
  refine s_ic_eq (pc2 := 17) (tgt := 22) w dX5_isAtInteger_14 rfl (by decide) (fun c14 => ?_) (fun c14 => ?_)
  · refine s_iconst (pc2 := 23) (v := 1) w dX5_isAtInteger_22 rfl rfl ?_
    refine s_goto (tgt := 27) w dX5_isAtInteger_23 (by decide) ?_
    refine s_ireturn w dX5_isAtInteger_27 rfl (by first | rfl | decide) ?_
    rw [if_pos (Or.inl ((kq 4 (by omega)).mp c14))] at q0
    exact q0
  · refine s_iload_n (pc2 := 18) w dX5_isAtInteger_17 rfl rfl ?_
    refine s_iconst (pc2 := 19) (v := 3) w dX5_isAtInteger_18 rfl rfl ?_
    refine s_ic_ne (pc2 := 22) (tgt := 26) w dX5_isAtInteger_19 rfl (by decide) (fun c19 => ?_) (fun c19 => ?_)
    · refine s_iconst (pc2 := 27) (v := 0) w dX5_isAtInteger_26 rfl rfl ?_
      refine s_ireturn w dX5_isAtInteger_27 rfl (by first | rfl | decide) ?_
      rw [if_neg (fun h => by rcases h with h | h; exact c14 ((kq 4 (by omega)).mpr h); exact c19 ((kq 3 (by omega)).mpr h))] at q0
      exact q0
    · refine s_iconst (pc2 := 23) (v := 1) w dX5_isAtInteger_22 rfl rfl ?_
      refine s_goto (tgt := 27) w dX5_isAtInteger_23 (by decide) ?_
      refine s_ireturn w dX5_isAtInteger_27 rfl (by first | rfl | decide) ?_
      rw [if_pos (Or.inr ((kq 3 (by omega)).mp c19))] at q0
      exact q0
theorem lk_X5_isAtInteger {l : Launch} (hl : l.stackTraces = false) : ∀ q ∈ L_X5_isAtInteger, (q.2.1 < 5 → gk_Lk l RX5 gk_W1 1 q.1 q.2.1 q.2.2.1 q.2.2.2.1 q.2.2.2.2.1 q.2.2.2.2.2) := (List.forall_mem_cons.mpr ⟨(fun _ => ⟨yX9_kindAt, cX9_kindAt, 2, (some .int), 0, _, M_X9_kindAt hl, ⟨by decide, by decide⟩, ⟨by decide, by decide, by decide +kernel⟩, ⟨(gk_wm 605 (by decide +kernel)), (gk_wm 98 (by decide +kernel))⟩, Or.inr (Or.inr (Or.inr (Or.inl ⟨rfl, rfl, (gk_wm 603 (by decide +kernel)), (gk_wm 604 (by decide +kernel)), gk_wm 602 (by decide +kernel), by decide, rfl⟩)))⟩), (fun _ h => absurd h List.not_mem_nil)⟩)
theorem sp_X5_isAtInteger : ∀ q ∈ L_X5_isAtInteger, gk_Sq RX5 gk_W1 1 q := (List.forall_mem_cons.mpr ⟨⟨fun h => absurd h (by decide), fun h => absurd h (by decide), fun h => absurd h (by decide), fun h => absurd h (by decide), fun h => absurd h (by decide), fun h => absurd h (by decide)⟩, (fun _ h => absurd h List.not_mem_nil)⟩)
theorem M_X5_isAtInteger {l : Launch} (hl : l.stackTraces = false) : gk_Mt l yX5_isAtInteger (.code yX5_isAtInteger cX5_isAtInteger 2 (some .boolean) :: gk_W1) 1 0 S_X5_isAtInteger := gk_meth hl gk_cw_ok (by decide +kernel) rfl m_X5_isAtInteger pX5_ok (gk_Sp_of sp_X5_isAtInteger) pX5_st (fun ci m S h => absurd h (by intro h; cases h)) (xf_X5 1) (fun idx kd ci mm cost S2 h h5 => lk_X5_isAtInteger hl _ (gk_lk_mem h) h5)

def S_X5_readWord : gk_S := fun as n fl x y K => ∃ (a_ : Int32) (b_ : Int32) (B : Nat → Int32) (t : Nat) (m : Nat) (x0 : gk_X) (Q : gk_P) (a : Nat) (b : Nat), as = [.ref 97, .int a_, .int b_] ∧ (n = 202 ∧ fl = gk_fT) ∧ (CH B t m) ∧ (CP B t m x0 Q x y) ∧ (Q.2.1 = 0) ∧ (¬ KK B t Q.1 = 0) ∧ (a_ = nI a) ∧ (b_ = nI b) ∧ (a < 1000) ∧ (b < 1000) ∧ (∀ x2 : gk_X, CP B t m x0 (pAd B t (pQ (decide (a < b)) 3 Q)) x2 y → x2 97 5 = x 97 5 → (∀ k, x2 102 k = x 102 k) → K (.inl (some (.int (eB (pAd B t (pQ (decide (a < b)) 3 Q)))))) n fl x2 y)
theorem r_X5_readWord (w : gk_W c P cs (fun _ _ => none) rt uf sc K V) {idx : Nat} {a_ : Int32} {b_ : Int32} {B : Nat → Int32} {t : Nat} {m : Nat} {x0 : gk_X} {Q : gk_P} {a : Nat} {b : Nat} (hd : decode c pc = .ok (.invokevirtual idx, 3)) (hp : pc + 3 = pc2) (hc : cs idx = some (1, 5, 3, 0, S_X5_readWord)) (h8 : Nat.ble (r.map Value.category).sum 8 = true) (hp0 : CH B t m) (hp1 : CP B t m x0 Q x y) (hp2 : Q.2.1 = 0) (hp3 : ¬ KK B t Q.1 = 0) (hp4 : a_ = nI a) (hp5 : b_ = nI b) (hp6 : a < 1000) (hp7 : b < 1000) (kk0 : ∀ x2 : gk_X, CP B t m x0 (pAd B t (pQ (decide (a < b)) 3 Q)) x2 y → x2 97 5 = x 97 5 → (∀ k, x2 102 k = x 102 k) → V pc2 L ((.int (eB (pAd B t (pQ (decide (a < b)) 3 Q)))) :: r) 202 gk_fT x2 y u) : V pc L (.int b_ :: .int a_ :: .ref 97 :: r) 202 gk_fT x y u :=
  g_callv w hd hp hc (as := [.ref 97, .int a_, .int b_]) rfl h8 rfl rfl rfl (Or.inr (Or.inl ⟨Or.inl rfl, _, _, rfl, (gk_kd_j rfl rfl), rfl⟩)) (Or.inl rfl) ⟨a_, b_, B, t, m, x0, Q, a, b, rfl, ⟨rfl, rfl⟩, hp0, hp1, hp2, hp3, hp4, hp5, hp6, hp7, kk0⟩
def L_X5_readWord : List (Nat × gk_M0) := [(56, (1, 5, 2, 0, S_X5_fail))]
def cs_X5_readWord : Nat → Option gk_M0 := gk_lk L_X5_readWord
theorem m_X5_readWord : ∀ (as : List Value) (n : Nat) (fl : gk_F) (x : gk_X) (y : gk_Y) (K : gk_K), S_X5_readWord as n fl x y K → (gk_L0 as).length ≤ 3 ∧ ∀ V : gk_V, gk_W cX5_readWord pX5 cs_X5_readWord (fun _ _ => none) (some .boolean) 0 none K V → V 0 (gk_en as 3) [] n fl x y 0 := by
  intro as n fl x y K hS
  obtain ⟨a_, b_, B, t, m, x0, Q, a, b, rfl, ⟨rfl, rfl⟩, hp0, hp1, hp2, hp3, hp4, hp5, hp6, hp7, q0⟩ := hS
  refine ⟨Nat.le_of_ble_eq_true rfl, fun V w => ?_⟩
  show V 0 [some (.ref 97), some (.int a_), some (.int b_)] [] 202 gk_fT x y 0
  subst hp4 hp5
  refine s_iload_n (pc2 := 1) w dX5_readWord_0 rfl rfl ?_
  refine s_iload_n (pc2 := 2) w dX5_readWord_1 rfl rfl ?_
  refine s_ic_lt (pc2 := 5) (tgt := 11) w dX5_readWord_2 rfl (by decide) (fun c2 => ?_) (fun c2 => ?_)
  · rw [nI_lt2 (by omega) (by omega)] at c2
    refine s_aload_n (pc2 := 12) w dX5_readWord_11 rfl rfl ?_
    refine s_dup (pc2 := 13) w dX5_readWord_12 rfl rfl ?_
    refine m_getI (pc2 := 16) (ci := 5) (k := 3) w dX5_readWord_13 rfl rfl rfl rfl rfl ?_
    rw [hp1.2.2.1]
    refine s_iconst (pc2 := 17) (v := 1) w dX5_readWord_16 rfl rfl ?_
    refine s_iadd (pc2 := 18) w dX5_readWord_17 rfl ?_
    rw [show nI Q.1 + 1 = nI (Q.1 + 1) from nI_ad Q.1 1]
    refine m_putI (pc2 := 21) (ci := 5) (k := 3) w dX5_readWord_18 rfl rfl rfl rfl rfl (by intro h; cases h) ?_
    refine s_iconst (pc2 := 22) (v := 1) w dX5_readWord_21 rfl rfl ?_
    refine s_ireturn w dX5_readWord_22 rfl (by first | rfl | decide) ?_
    have e : pQ (decide (a < b)) 3 Q = Q := if_neg (fun h => by rw [decide_eq_true c2] at h; exact absurd h.2 (by decide))
    rw [e] at q0
    have h9 := q0 _ (hp1.step hp0 hp2 hp3) (gk_up_ne (by omega)) (fun k => gk_up_ne (by omega))
    rw [eB_1 (by rw [pA_1 hp2 hp3])] at h9
    exact h9
  · rw [nI_lt2 (by omega) (by omega)] at c2
    refine s_aload_n (pc2 := 6) w dX5_readWord_5 rfl rfl ?_
    refine s_iconst (pc2 := 7) (v := 3) w dX5_readWord_6 rfl rfl ?_
    refine r_X5_fail (pc2 := 10) w dX5_readWord_7 rfl rfl rfl ?_
    refine s_ireturn w dX5_readWord_10 rfl (by first | rfl | decide) ?_
    have e : pAd B t (pQ (decide (a < b)) 3 Q) = (Q.1, 3, Q.2.2) := by
      rw [show pQ (decide (a < b)) 3 Q = (Q.1, 3, Q.2.2) from if_pos ⟨hp2, decide_eq_false c2⟩, pA_e n3_0]
    rw [e] at q0
    exact q0 _ (hp1.fail (k := 3) (by decide) (by decide)) (gk_up_ne (by omega)) (fun k => gk_up_ne (by omega))
theorem lk_X5_readWord {l : Launch} (hl : l.stackTraces = false) : ∀ q ∈ L_X5_readWord, (q.2.1 < 5 → gk_Lk l RX5 gk_W1 1 q.1 q.2.1 q.2.2.1 q.2.2.2.1 q.2.2.2.2.1 q.2.2.2.2.2) := (List.forall_mem_cons.mpr ⟨(fun _ => ⟨yX5_fail, cX5_fail, 2, (some .boolean), 0, _, M_X5_fail hl, ⟨by decide, by decide⟩, ⟨by decide, by decide, by decide +kernel⟩, ⟨(gk_wm 621 (by decide +kernel)), (gk_wm 97 (by decide +kernel))⟩, Or.inr (Or.inr (Or.inr (Or.inl ⟨rfl, rfl, (gk_wm 620 (by decide +kernel)), (gk_wm 11 (by decide +kernel)), gk_wm 618 (by decide +kernel), by decide, rfl⟩)))⟩), (fun _ h => absurd h List.not_mem_nil)⟩)
theorem sp_X5_readWord : ∀ q ∈ L_X5_readWord, gk_Sq RX5 gk_W1 1 q := (List.forall_mem_cons.mpr ⟨⟨fun h => absurd h (by decide), fun h => absurd h (by decide), fun h => absurd h (by decide), fun h => absurd h (by decide), fun h => absurd h (by decide), fun h => absurd h (by decide)⟩, (fun _ h => absurd h List.not_mem_nil)⟩)
theorem M_X5_readWord {l : Launch} (hl : l.stackTraces = false) : gk_Mt l yX5_readWord (.code yX5_readWord cX5_readWord 3 (some .boolean) :: gk_W1) 1 0 S_X5_readWord := gk_meth hl gk_cw_ok (by decide +kernel) rfl m_X5_readWord pX5_ok (gk_Sp_of sp_X5_readWord) pX5_st (fun ci m S h => absurd h (by intro h; cases h)) (xf_X5 1) (fun idx kd ci mm cost S2 h h5 => lk_X5_readWord hl _ (gk_lk_mem h) h5)

def S_X5_takeArgument : gk_S := fun as n fl x y K => ∃ (v : Int32) (lo_ : Int32) (hi_ : Int32) (B : Nat → Int32) (t : Nat) (m : Nat) (x0 : gk_X) (Q : gk_P) (f : Nat → Int32) (j : Nat) (z : Int) (lo : Int) (hi : Int), as = [.ref 97, .int v, .int lo_, .int hi_] ∧ (n = 202 ∧ fl = gk_fT) ∧ (CH B t m) ∧ (CP B t m x0 Q x y) ∧ (Q.2.1 = 0) ∧ (AR f j x) ∧ (j < 20) ∧ (v = gI z) ∧ (lo_ = gI lo) ∧ (hi_ = gI hi) ∧ (gR z) ∧ (gR lo) ∧ (gR hi) ∧ (∀ x2 : gk_X, CP B t m x0 (pT B t lo hi z Q) x2 y → ((pT B t lo hi z Q).2.1 = 0 → AR (gU f j (gI z)) (j + 1) x2) → K (.inl (some (.int (eB (pT B t lo hi z Q))))) n fl x2 y)
theorem r_X5_takeArgument (w : gk_W c P cs (fun _ _ => none) rt uf sc K V) {idx : Nat} {v : Int32} {lo_ : Int32} {hi_ : Int32} {B : Nat → Int32} {t : Nat} {m : Nat} {x0 : gk_X} {Q : gk_P} {f : Nat → Int32} {j : Nat} {z : Int} {lo : Int} {hi : Int} (hd : decode c pc = .ok (.invokevirtual idx, 3)) (hp : pc + 3 = pc2) (hc : cs idx = some (1, 5, 4, 0, S_X5_takeArgument)) (h8 : Nat.ble (r.map Value.category).sum 8 = true) (hp0 : CH B t m) (hp1 : CP B t m x0 Q x y) (hp2 : Q.2.1 = 0) (hp3 : AR f j x) (hp4 : j < 20) (hp5 : v = gI z) (hp6 : lo_ = gI lo) (hp7 : hi_ = gI hi) (hp8 : gR z) (hp9 : gR lo) (hp10 : gR hi) (kk0 : ∀ x2 : gk_X, CP B t m x0 (pT B t lo hi z Q) x2 y → ((pT B t lo hi z Q).2.1 = 0 → AR (gU f j (gI z)) (j + 1) x2) → V pc2 L ((.int (eB (pT B t lo hi z Q))) :: r) 202 gk_fT x2 y u) : V pc L (.int hi_ :: .int lo_ :: .int v :: .ref 97 :: r) 202 gk_fT x y u :=
  g_callv w hd hp hc (as := [.ref 97, .int v, .int lo_, .int hi_]) rfl h8 rfl rfl rfl (Or.inr (Or.inl ⟨Or.inl rfl, _, _, rfl, (gk_kd_j rfl rfl), rfl⟩)) (Or.inl rfl) ⟨v, lo_, hi_, B, t, m, x0, Q, f, j, z, lo, hi, rfl, ⟨rfl, rfl⟩, hp0, hp1, hp2, hp3, hp4, hp5, hp6, hp7, hp8, hp9, hp10, kk0⟩
def L_X5_takeArgument : List (Nat × gk_M0) := [(41, (1, 8, 2, 0, S_X9_kindAt)), (56, (1, 5, 2, 0, S_X5_fail))]
def cs_X5_takeArgument : Nat → Option gk_M0 := gk_lk L_X5_takeArgument
theorem m_X5_takeArgument : ∀ (as : List Value) (n : Nat) (fl : gk_F) (x : gk_X) (y : gk_Y) (K : gk_K), S_X5_takeArgument as n fl x y K → (gk_L0 as).length ≤ 4 ∧ ∀ V : gk_V, gk_W cX5_takeArgument pX5 cs_X5_takeArgument (fun _ _ => none) (some .boolean) 0 none K V → V 0 (gk_en as 4) [] n fl x y 0 := by
  intro as n fl x y K hS
  obtain ⟨v, lo_, hi_, B, t, m, x0, Q, f, j, z, lo, hi, rfl, ⟨rfl, rfl⟩, hp0, hp1, hp2, hp3, hp4, hp5, hp6, hp7, hp8, hp9, hp10, q0⟩ := hS
  refine ⟨Nat.le_of_ble_eq_true rfl, fun V w => ?_⟩
  show V 0 [some (.ref 97), some (.int v), some (.int lo_), some (.int hi_)] [] 202 gk_fT x y 0
  subst hp5 hp6 hp7
  have hb1 := hp1.2.2.2.2.2.1
  have hb2 := hp0.1
  refine s_aload_n (pc2 := 1) w dX5_takeArgument_0 rfl rfl ?_
  refine m_getR (pc2 := 4) (ci := 5) (k := 2) (j2 := 98) w dX5_takeArgument_1 rfl rfl rfl rfl rfl rfl ?_
  refine s_aload_n (pc2 := 5) w dX5_takeArgument_4 rfl rfl ?_
  refine m_getI (pc2 := 8) (ci := 5) (k := 3) w dX5_takeArgument_5 rfl rfl rfl rfl rfl ?_
  refine r_X9_kindAt (pc2 := 11) w dX5_takeArgument_8 rfl rfl rfl hp1.2.2.1 (by omega) ?_
  rw [CP.kd hp0 hp1]
  refine s_iconst (pc2 := 12) (v := 4) w dX5_takeArgument_11 rfl rfl ?_
  refine s_ic_ne (pc2 := 15) (tgt := 34) w dX5_takeArgument_12 rfl (by decide) (fun c12 => ?_) (fun c12 => ?_)
  · refine s_aload_n (pc2 := 35) w dX5_takeArgument_34 rfl rfl ?_
    refine s_iconst (pc2 := 36) (v := 1) w dX5_takeArgument_35 rfl rfl ?_
    refine r_X5_fail (pc2 := 39) w dX5_takeArgument_36 rfl rfl rfl ?_
    refine s_ireturn w dX5_takeArgument_39 rfl (by first | rfl | decide) ?_
    have e := pT_k1 (lo := lo) (hi := hi) (z := z) hp2 (fun h => c12 ((kq 4 (by omega)).mpr h))
    rw [e] at q0
    exact q0 _ (hp1.fail (k := 1) (by decide) (by decide)) (fun h => absurd h n1_0)
  · refine s_aload_n (pc2 := 16) w dX5_takeArgument_15 rfl rfl ?_
    refine m_getI (pc2 := 19) (ci := 5) (k := 5) w dX5_takeArgument_16 rfl rfl rfl rfl rfl ?_
    rw [hp3.1]
    refine s_if_lt (pc2 := 22) (tgt := 34) w dX5_takeArgument_19 rfl (by decide) (fun h0 => absurd h0 (by rw [gI_nI, show (0 : Int32) = gI 0 from rfl, gI_lt ⟨by omega, by omega⟩ ⟨by omega, by omega⟩]; omega)) (fun _ => ?_)
    refine s_aload_n (pc2 := 23) w dX5_takeArgument_22 rfl rfl ?_
    refine m_getI (pc2 := 26) (ci := 5) (k := 5) w dX5_takeArgument_23 rfl rfl rfl rfl rfl ?_
    rw [hp3.1]
    refine s_aload_n (pc2 := 27) w dX5_takeArgument_26 rfl rfl ?_
    refine m_getR (pc2 := 30) (ci := 5) (k := 4) (j2 := 102) w dX5_takeArgument_27 rfl rfl rfl rfl rfl rfl ?_
    refine m_alen (pc2 := 31) (kd := 20) (N := (20 : Int32)) w dX5_takeArgument_30 rfl rfl rfl rfl rfl ?_
    refine s_ic_lt (pc2 := 34) (tgt := 40) w dX5_takeArgument_31 rfl (by decide) (fun _ => ?_) (fun h0 => absurd (by rw [gI_nI, show (20 : Int32) = gI 20 from rfl, gI_lt ⟨by omega, by omega⟩ ⟨by omega, by omega⟩]; omega) h0)
    refine s_iload_n (pc2 := 41) w dX5_takeArgument_40 rfl rfl ?_
    refine s_iload_n (pc2 := 42) w dX5_takeArgument_41 rfl rfl ?_
    refine s_ic_lt (pc2 := 45) (tgt := 50) w dX5_takeArgument_42 rfl (by decide) (fun c42 => ?_) (fun c42 => ?_)
    · refine s_aload_n (pc2 := 51) w dX5_takeArgument_50 rfl rfl ?_
      refine s_iconst (pc2 := 52) (v := 2) w dX5_takeArgument_51 rfl rfl ?_
      refine r_X5_fail (pc2 := 55) w dX5_takeArgument_52 rfl rfl rfl ?_
      refine s_ireturn w dX5_takeArgument_55 rfl (by first | rfl | decide) ?_
      have e := pT_k2 (lo := lo) (hi := hi) (z := z) hp2 ((kq 4 (by omega)).mp c12) (fun h => by have := (gI_lt hp8 hp9).mp c42; omega)
      rw [e] at q0
      exact q0 _ (hp1.fail (k := 2) (by decide) (by decide)) (fun h => absurd h n2_0)
    · refine s_iload_n (pc2 := 46) w dX5_takeArgument_45 rfl rfl ?_
      refine s_iload_n (pc2 := 47) w dX5_takeArgument_46 rfl rfl ?_
      refine s_ic_le (pc2 := 50) (tgt := 56) w dX5_takeArgument_47 rfl (by decide) (fun c47 => ?_) (fun c47 => ?_)
      · refine s_aload_n (pc2 := 57) w dX5_takeArgument_56 rfl rfl ?_
        refine m_getR (pc2 := 60) (ci := 5) (k := 4) (j2 := 102) w dX5_takeArgument_57 rfl rfl rfl rfl rfl rfl ?_
        refine s_aload_n (pc2 := 61) w dX5_takeArgument_60 rfl rfl ?_
        refine m_getI (pc2 := 64) (ci := 5) (k := 5) w dX5_takeArgument_61 rfl rfl rfl rfl rfl ?_
        rw [hp3.1]
        refine s_iload_n (pc2 := 65) w dX5_takeArgument_64 rfl rfl ?_
        refine m_iastoreN (pc2 := 66) (t := j) (N := 20) w dX5_takeArgument_65 rfl rfl rfl rfl (by omega) rfl ?_
        refine s_aload_n (pc2 := 67) w dX5_takeArgument_66 rfl rfl ?_
        refine s_dup (pc2 := 68) w dX5_takeArgument_67 rfl rfl ?_
        refine m_getI (pc2 := 71) (ci := 5) (k := 5) w dX5_takeArgument_68 rfl rfl rfl rfl rfl ?_
        rw [gk_up_ne (by omega), hp3.1]
        refine s_iconst (pc2 := 72) (v := 1) w dX5_takeArgument_71 rfl rfl ?_
        refine s_iadd (pc2 := 73) w dX5_takeArgument_72 rfl ?_
        rw [show nI j + 1 = nI (j + 1) from nI_ad j 1]
        refine m_putI (pc2 := 76) (ci := 5) (k := 5) w dX5_takeArgument_73 rfl rfl rfl rfl rfl (by intro h; cases h) ?_
        refine s_aload_n (pc2 := 77) w dX5_takeArgument_76 rfl rfl ?_
        refine s_dup (pc2 := 78) w dX5_takeArgument_77 rfl rfl ?_
        refine m_getI (pc2 := 81) (ci := 5) (k := 3) w dX5_takeArgument_78 rfl rfl rfl rfl rfl ?_
        rw [gk_up_ne (by omega), gk_up_ne (by omega), hp1.2.2.1]
        refine s_iconst (pc2 := 82) (v := 1) w dX5_takeArgument_81 rfl rfl ?_
        refine s_iadd (pc2 := 83) w dX5_takeArgument_82 rfl ?_
        rw [show nI Q.1 + 1 = nI (Q.1 + 1) from nI_ad Q.1 1]
        refine m_putI (pc2 := 86) (ci := 5) (k := 3) w dX5_takeArgument_83 rfl rfl rfl rfl rfl (by intro h; cases h) ?_
        refine s_iconst (pc2 := 87) (v := 1) w dX5_takeArgument_86 rfl rfl ?_
        refine s_ireturn w dX5_takeArgument_87 rfl (by first | rfl | decide) ?_
        have k4 := ((kq 4 (by omega)).mp c12)
        have e := pT_k3 (lo := lo) (hi := hi) (z := z) hp2 k4 ⟨Int.not_lt.mp (fun h => c42 ((gI_lt hp8 hp9).mpr h)), (gI_le hp8 hp10).mp c47⟩
        rw [e] at q0
        refine q0 _ (hp1.mk (fun i k h1 h2 => (gk_up_ne (by omega)).trans ((gk_up_ne (by omega)).trans (gk_up_ne (by omega)))) ((gk_up_ne (by omega)).trans ((gk_up_ne (by omega)).trans (gk_up_ne (by omega)))) (gk_up_in _ _ _ _) ((gk_up_ne (by omega)).trans ((gk_up_ne (by omega)).trans ((gk_up_ne (by omega)).trans (hp1.2.2.2.1.trans (by rw [hp2]))))) (hp1.lt hp0 (by rw [k4]; decide)) (Nat.zero_le 3) rfl (fun _ => hp2)) (fun _ => ⟨(gk_up_ne (by omega)).trans (gk_up_in _ _ _ _), fun k hk => ?_⟩)
        rw [gk_up_ne (by omega), gk_up_ne (by omega)]
        unfold gU
        by_cases e2 : k = j
        · rw [if_pos e2, e2]; exact gk_up_in _ _ _ _
        · rw [if_neg e2, gk_up_ne (by omega)]; exact hp3.2 k (by omega)
      · refine s_aload_n (pc2 := 51) w dX5_takeArgument_50 rfl rfl ?_
        refine s_iconst (pc2 := 52) (v := 2) w dX5_takeArgument_51 rfl rfl ?_
        refine r_X5_fail (pc2 := 55) w dX5_takeArgument_52 rfl rfl rfl ?_
        refine s_ireturn w dX5_takeArgument_55 rfl (by first | rfl | decide) ?_
        have e := pT_k2 (lo := lo) (hi := hi) (z := z) hp2 ((kq 4 (by omega)).mp c12) (fun h => c47 ((gI_le hp8 hp10).mpr h.2))
        rw [e] at q0
        exact q0 _ (hp1.fail (k := 2) (by decide) (by decide)) (fun h => absurd h n2_0)
theorem lk_X5_takeArgument {l : Launch} (hl : l.stackTraces = false) : ∀ q ∈ L_X5_takeArgument, (q.2.1 < 5 → gk_Lk l RX5 gk_W1 1 q.1 q.2.1 q.2.2.1 q.2.2.2.1 q.2.2.2.2.1 q.2.2.2.2.2) := (List.forall_mem_cons.mpr ⟨(fun _ => ⟨yX9_kindAt, cX9_kindAt, 2, (some .int), 0, _, M_X9_kindAt hl, ⟨by decide, by decide⟩, ⟨by decide, by decide, by decide +kernel⟩, ⟨(gk_wm 605 (by decide +kernel)), (gk_wm 98 (by decide +kernel))⟩, Or.inr (Or.inr (Or.inr (Or.inl ⟨rfl, rfl, (gk_wm 603 (by decide +kernel)), (gk_wm 604 (by decide +kernel)), gk_wm 602 (by decide +kernel), by decide, rfl⟩)))⟩), (List.forall_mem_cons.mpr ⟨(fun _ => ⟨yX5_fail, cX5_fail, 2, (some .boolean), 0, _, M_X5_fail hl, ⟨by decide, by decide⟩, ⟨by decide, by decide, by decide +kernel⟩, ⟨(gk_wm 621 (by decide +kernel)), (gk_wm 97 (by decide +kernel))⟩, Or.inr (Or.inr (Or.inr (Or.inl ⟨rfl, rfl, (gk_wm 620 (by decide +kernel)), (gk_wm 11 (by decide +kernel)), gk_wm 618 (by decide +kernel), by decide, rfl⟩)))⟩), (fun _ h => absurd h List.not_mem_nil)⟩)⟩)
theorem sp_X5_takeArgument : ∀ q ∈ L_X5_takeArgument, gk_Sq RX5 gk_W1 1 q := (List.forall_mem_cons.mpr ⟨⟨fun h => absurd h (by decide), fun h => absurd h (by decide), fun h => absurd h (by decide), fun h => absurd h (by decide), fun h => absurd h (by decide), fun h => absurd h (by decide)⟩, (List.forall_mem_cons.mpr ⟨⟨fun h => absurd h (by decide), fun h => absurd h (by decide), fun h => absurd h (by decide), fun h => absurd h (by decide), fun h => absurd h (by decide), fun h => absurd h (by decide)⟩, (fun _ h => absurd h List.not_mem_nil)⟩)⟩)
theorem M_X5_takeArgument {l : Launch} (hl : l.stackTraces = false) : gk_Mt l yX5_takeArgument (.code yX5_takeArgument cX5_takeArgument 4 (some .boolean) :: gk_W1) 1 0 S_X5_takeArgument := gk_meth hl gk_cw_ok (by decide +kernel) rfl m_X5_takeArgument pX5_ok (gk_Sp_of sp_X5_takeArgument) pX5_st (fun ci m S h => absurd h (by intro h; cases h)) (xf_X5 1) (fun idx kd ci mm cost S2 h h5 => lk_X5_takeArgument hl _ (gk_lk_mem h) h5)

def S_X5_readNumber : gk_S := fun as n fl x y K => ∃ (lo_ : Int32) (hi_ : Int32) (B : Nat → Int32) (t : Nat) (m : Nat) (x0 : gk_X) (Q : gk_P) (f : Nat → Int32) (j : Nat) (lo : Int) (hi : Int), as = [.ref 97, .int lo_, .int hi_] ∧ (n = 202 ∧ fl = gk_fT) ∧ (CH B t m) ∧ (CP B t m x0 Q x y) ∧ (Q.2.1 = 0) ∧ (AR f j x) ∧ (j < 20) ∧ (lo_ = gI lo) ∧ (hi_ = gI hi) ∧ (-20000 ≤ lo ∧ lo ≤ 20000) ∧ (-20000 ≤ hi ∧ hi ≤ 20000) ∧ (∀ x2 : gk_X, CP B t m x0 (pN B t lo hi Q) x2 y → ((pN B t lo hi Q).2.1 = 0 → AR (gU f j (vN B t Q)) (j + 1) x2) → K (.inl (some (.int (eB (pN B t lo hi Q))))) n fl x2 y)
theorem r_X5_readNumber (w : gk_W c P cs (fun _ _ => none) rt uf sc K V) {idx : Nat} {lo_ : Int32} {hi_ : Int32} {B : Nat → Int32} {t : Nat} {m : Nat} {x0 : gk_X} {Q : gk_P} {f : Nat → Int32} {j : Nat} {lo : Int} {hi : Int} (hd : decode c pc = .ok (.invokevirtual idx, 3)) (hp : pc + 3 = pc2) (hc : cs idx = some (1, 5, 3, 0, S_X5_readNumber)) (h8 : Nat.ble (r.map Value.category).sum 8 = true) (hp0 : CH B t m) (hp1 : CP B t m x0 Q x y) (hp2 : Q.2.1 = 0) (hp3 : AR f j x) (hp4 : j < 20) (hp5 : lo_ = gI lo) (hp6 : hi_ = gI hi) (hp7 : -20000 ≤ lo ∧ lo ≤ 20000) (hp8 : -20000 ≤ hi ∧ hi ≤ 20000) (kk0 : ∀ x2 : gk_X, CP B t m x0 (pN B t lo hi Q) x2 y → ((pN B t lo hi Q).2.1 = 0 → AR (gU f j (vN B t Q)) (j + 1) x2) → V pc2 L ((.int (eB (pN B t lo hi Q))) :: r) 202 gk_fT x2 y u) : V pc L (.int hi_ :: .int lo_ :: .ref 97 :: r) 202 gk_fT x y u :=
  g_callv w hd hp hc (as := [.ref 97, .int lo_, .int hi_]) rfl h8 rfl rfl rfl (Or.inr (Or.inl ⟨Or.inl rfl, _, _, rfl, (gk_kd_j rfl rfl), rfl⟩)) (Or.inl rfl) ⟨lo_, hi_, B, t, m, x0, Q, f, j, lo, hi, rfl, ⟨rfl, rfl⟩, hp0, hp1, hp2, hp3, hp4, hp5, hp6, hp7, hp8, kk0⟩
def L_X5_readNumber : List (Nat × gk_M0) := [(140, (1, 8, 2, 0, S_X9_valueAt)), (143, (1, 5, 4, 0, S_X5_takeArgument))]
def cs_X5_readNumber : Nat → Option gk_M0 := gk_lk L_X5_readNumber
theorem m_X5_readNumber : ∀ (as : List Value) (n : Nat) (fl : gk_F) (x : gk_X) (y : gk_Y) (K : gk_K), S_X5_readNumber as n fl x y K → (gk_L0 as).length ≤ 3 ∧ ∀ V : gk_V, gk_W cX5_readNumber pX5 cs_X5_readNumber (fun _ _ => none) (some .boolean) 0 none K V → V 0 (gk_en as 3) [] n fl x y 0 := by
  intro as n fl x y K hS
  obtain ⟨lo_, hi_, B, t, m, x0, Q, f, j, lo, hi, rfl, ⟨rfl, rfl⟩, hp0, hp1, hp2, hp3, hp4, hp5, hp6, hp7, hp8, q0⟩ := hS
  refine ⟨Nat.le_of_ble_eq_true rfl, fun V w => ?_⟩
  show V 0 [some (.ref 97), some (.int lo_), some (.int hi_)] [] 202 gk_fT x y 0
  have hb1 := hp1.2.2.2.2.2.1
  have hb2 := hp0.1
  have hv := vC_le B t (tp B t Q.1)
  obtain ⟨e1, e2⟩ := pT_v (c := B) (t := t) (a := tp B t Q.1) (Q := Q) hp7.1 hp8.2
  refine s_aload_n (pc2 := 1) w dX5_readNumber_0 rfl rfl ?_
  refine s_aload_n (pc2 := 2) w dX5_readNumber_1 rfl rfl ?_
  refine m_getR (pc2 := 5) (ci := 5) (k := 2) (j2 := 98) w dX5_readNumber_2 rfl rfl rfl rfl rfl rfl ?_
  refine s_aload_n (pc2 := 6) w dX5_readNumber_5 rfl rfl ?_
  refine m_getI (pc2 := 9) (ci := 5) (k := 3) w dX5_readNumber_6 rfl rfl rfl rfl rfl ?_
  refine r_X9_valueAt (pc2 := 12) w dX5_readNumber_9 rfl rfl rfl hp1.2.2.1 (by omega) ?_
  refine s_iload_n (pc2 := 13) w dX5_readNumber_12 rfl rfl ?_
  refine s_iload_n (pc2 := 14) w dX5_readNumber_13 rfl rfl ?_
  refine r_X5_takeArgument (pc2 := 17) w dX5_readNumber_14 rfl rfl rfl hp0 hp1 hp2 hp3 hp4 hp1.vl hp5 hp6 ⟨by omega, by omega⟩ ⟨by omega, by omega⟩ ⟨by omega, by omega⟩ (fun x2 h1 h2 => ?_)
  rw [e1] at h1 h2 ⊢
  refine s_ireturn w dX5_readNumber_17 rfl (eB_n _) ?_
  exact q0 x2 h1 (fun h => by have h3 := h2 h; rw [e2 h] at h3; exact h3)
theorem lk_X5_readNumber {l : Launch} (hl : l.stackTraces = false) : ∀ q ∈ L_X5_readNumber, (q.2.1 < 5 → gk_Lk l RX5 gk_W1 2 q.1 q.2.1 q.2.2.1 q.2.2.2.1 q.2.2.2.2.1 q.2.2.2.2.2) := (List.forall_mem_cons.mpr ⟨(fun _ => ⟨yX9_valueAt, cX9_valueAt, 2, (some .int), 1, _, M_X9_valueAt hl, ⟨by decide, by decide⟩, ⟨by decide, by decide, by decide +kernel⟩, ⟨(gk_wm 629 (by decide +kernel)), (gk_wm 98 (by decide +kernel))⟩, Or.inr (Or.inr (Or.inr (Or.inl ⟨rfl, rfl, (gk_wm 627 (by decide +kernel)), (gk_wm 628 (by decide +kernel)), gk_wm 626 (by decide +kernel), by decide, rfl⟩)))⟩), (List.forall_mem_cons.mpr ⟨(fun _ => ⟨yX5_takeArgument, cX5_takeArgument, 4, (some .boolean), 1, _, M_X5_takeArgument hl, ⟨by decide, by decide⟩, ⟨by decide, by decide, by decide +kernel⟩, ⟨(gk_wm 634 (by decide +kernel)), (gk_wm 97 (by decide +kernel))⟩, Or.inr (Or.inr (Or.inr (Or.inl ⟨rfl, rfl, (gk_wm 633 (by decide +kernel)), (gk_wm 13 (by decide +kernel)), gk_wm 631 (by decide +kernel), by decide, rfl⟩)))⟩), (fun _ h => absurd h List.not_mem_nil)⟩)⟩)
theorem sp_X5_readNumber : ∀ q ∈ L_X5_readNumber, gk_Sq RX5 gk_W1 2 q := (List.forall_mem_cons.mpr ⟨⟨fun h => absurd h (by decide), fun h => absurd h (by decide), fun h => absurd h (by decide), fun h => absurd h (by decide), fun h => absurd h (by decide), fun h => absurd h (by decide)⟩, (List.forall_mem_cons.mpr ⟨⟨fun h => absurd h (by decide), fun h => absurd h (by decide), fun h => absurd h (by decide), fun h => absurd h (by decide), fun h => absurd h (by decide), fun h => absurd h (by decide)⟩, (fun _ h => absurd h List.not_mem_nil)⟩)⟩)
theorem M_X5_readNumber {l : Launch} (hl : l.stackTraces = false) : gk_Mt l yX5_readNumber (.code yX5_readNumber cX5_readNumber 3 (some .boolean) :: gk_W1) 2 0 S_X5_readNumber := gk_meth hl gk_cw_ok (by decide +kernel) rfl m_X5_readNumber pX5_ok (gk_Sp_of sp_X5_readNumber) pX5_st (fun ci m S h => absurd h (by intro h; cases h)) (xf_X5 2) (fun idx kd ci mm cost S2 h h5 => lk_X5_readNumber hl _ (gk_lk_mem h) h5)

def S_X5_readInteger : gk_S := fun as n fl x y K => ∃ (lo_ : Int32) (hi_ : Int32) (B : Nat → Int32) (t : Nat) (m : Nat) (x0 : gk_X) (Q : gk_P) (f : Nat → Int32) (j : Nat) (lo : Int) (hi : Int), as = [.ref 97, .int lo_, .int hi_] ∧ (n = 202 ∧ fl = gk_fT) ∧ (CH B t m) ∧ (CP B t m x0 Q x y) ∧ (Q.2.1 = 0) ∧ (AR f j x) ∧ (j < 20) ∧ (lo_ = gI lo) ∧ (hi_ = gI hi) ∧ (-20000 ≤ lo ∧ lo ≤ 20000) ∧ (-20000 ≤ hi ∧ hi ≤ 20000) ∧ (∀ x2 : gk_X, CP B t m x0 (pI B t lo hi Q) x2 y → ((pI B t lo hi Q).2.1 = 0 → AR (gU f j (vI B t Q)) (j + 1) x2) → K (.inl (some (.int (eB (pI B t lo hi Q))))) n fl x2 y)
theorem r_X5_readInteger (w : gk_W c P cs (fun _ _ => none) rt uf sc K V) {idx : Nat} {lo_ : Int32} {hi_ : Int32} {B : Nat → Int32} {t : Nat} {m : Nat} {x0 : gk_X} {Q : gk_P} {f : Nat → Int32} {j : Nat} {lo : Int} {hi : Int} (hd : decode c pc = .ok (.invokevirtual idx, 3)) (hp : pc + 3 = pc2) (hc : cs idx = some (1, 5, 3, 0, S_X5_readInteger)) (h8 : Nat.ble (r.map Value.category).sum 8 = true) (hp0 : CH B t m) (hp1 : CP B t m x0 Q x y) (hp2 : Q.2.1 = 0) (hp3 : AR f j x) (hp4 : j < 20) (hp5 : lo_ = gI lo) (hp6 : hi_ = gI hi) (hp7 : -20000 ≤ lo ∧ lo ≤ 20000) (hp8 : -20000 ≤ hi ∧ hi ≤ 20000) (kk0 : ∀ x2 : gk_X, CP B t m x0 (pI B t lo hi Q) x2 y → ((pI B t lo hi Q).2.1 = 0 → AR (gU f j (vI B t Q)) (j + 1) x2) → V pc2 L ((.int (eB (pI B t lo hi Q))) :: r) 202 gk_fT x2 y u) : V pc L (.int hi_ :: .int lo_ :: .ref 97 :: r) 202 gk_fT x y u :=
  g_callv w hd hp hc (as := [.ref 97, .int lo_, .int hi_]) rfl h8 rfl rfl rfl (Or.inr (Or.inl ⟨Or.inl rfl, _, _, rfl, (gk_kd_j rfl rfl), rfl⟩)) (Or.inl rfl) ⟨lo_, hi_, B, t, m, x0, Q, f, j, lo, hi, rfl, ⟨rfl, rfl⟩, hp0, hp1, hp2, hp3, hp4, hp5, hp6, hp7, hp8, kk0⟩
def L_X5_readInteger : List (Nat × gk_M0) := [(41, (1, 8, 2, 0, S_X9_kindAt)), (140, (1, 8, 2, 0, S_X9_valueAt)), (143, (1, 5, 4, 0, S_X5_takeArgument))]
def cs_X5_readInteger : Nat → Option gk_M0 := gk_lk L_X5_readInteger
theorem m_X5_readInteger : ∀ (as : List Value) (n : Nat) (fl : gk_F) (x : gk_X) (y : gk_Y) (K : gk_K), S_X5_readInteger as n fl x y K → (gk_L0 as).length ≤ 3 ∧ ∀ V : gk_V, gk_W cX5_readInteger pX5 cs_X5_readInteger (fun _ _ => none) (some .boolean) 0 none K V → V 0 (gk_en as 3) [] n fl x y 0 := by
  intro as n fl x y K hS
  obtain ⟨lo_, hi_, B, t, m, x0, Q, f, j, lo, hi, rfl, ⟨rfl, rfl⟩, hp0, hp1, hp2, hp3, hp4, hp5, hp6, hp7, hp8, q0⟩ := hS
  refine ⟨Nat.le_of_ble_eq_true rfl, fun V w => ?_⟩
  show V 0 [some (.ref 97), some (.int lo_), some (.int hi_)] [] 202 gk_fT x y 0
  have hb1 := hp1.2.2.2.2.2.1
  have hb2 := hp0.1
  refine s_aload_n (pc2 := 1) w dX5_readInteger_0 rfl rfl ?_
  refine m_getR (pc2 := 4) (ci := 5) (k := 2) (j2 := 98) w dX5_readInteger_1 rfl rfl rfl rfl rfl rfl ?_
  refine s_aload_n (pc2 := 5) w dX5_readInteger_4 rfl rfl ?_
  refine m_getI (pc2 := 8) (ci := 5) (k := 3) w dX5_readInteger_5 rfl rfl rfl rfl rfl ?_
  refine r_X9_kindAt (pc2 := 11) w dX5_readInteger_8 rfl rfl rfl hp1.2.2.1 (by omega) ?_
  rw [CP.kd hp0 hp1]
  refine s_iconst (pc2 := 12) (v := 3) w dX5_readInteger_11 rfl rfl ?_
  refine s_ic_eq (pc2 := 15) (tgt := 33) w dX5_readInteger_12 rfl (by decide) (fun c12 => ?_) (fun c12 => ?_)
  · refine s_aload_n (pc2 := 34) w dX5_readInteger_33 rfl rfl ?_
    refine s_dup (pc2 := 35) w dX5_readInteger_34 rfl rfl ?_
    refine m_getI (pc2 := 38) (ci := 5) (k := 3) w dX5_readInteger_35 rfl rfl rfl rfl rfl ?_
    rw [hp1.2.2.1]
    refine s_iconst (pc2 := 39) (v := 1) w dX5_readInteger_38 rfl rfl ?_
    refine s_iadd (pc2 := 40) w dX5_readInteger_39 rfl ?_
    rw [show nI Q.1 + 1 = nI (Q.1 + 1) from nI_ad Q.1 1]
    refine m_putI (pc2 := 43) (ci := 5) (k := 3) w dX5_readInteger_40 rfl rfl rfl rfl rfl (by intro h; cases h) ?_
    have k3 : KK B t Q.1 = 3 := (kq 3 (by omega)).mp c12
    have k0 : ¬ KK B t Q.1 = 0 := by rw [k3]; decide
    have hq1 := hp1.step hp0 hp2 k0
    have hp3 : AR f j (gk_up x 97 3 (nI (Q.1 + 1))) := ⟨(gk_up_ne (by omega)).trans hp3.1, fun k hk => (gk_up_ne (by omega)).trans (hp3.2 k hk)⟩
    have h0 : (pAd B t Q).2.1 = 0 := by rw [pA_1 hp2 k0]
    have hb3 := hq1.2.2.2.2.2.1
    have hv := vC_le B t (tp B t (pAd B t Q).1)
    obtain ⟨e1, e2⟩ := pT_vm (c := B) (t := t) (a := tp B t (pAd B t Q).1) (Q := pAd B t Q) hp7.1 hp8.2
    refine s_aload_n (pc2 := 44) w dX5_readInteger_43 rfl rfl ?_
    refine s_aload_n (pc2 := 45) w dX5_readInteger_44 rfl rfl ?_
    refine m_getR (pc2 := 48) (ci := 5) (k := 2) (j2 := 98) w dX5_readInteger_45 rfl rfl rfl rfl rfl rfl ?_
    refine s_aload_n (pc2 := 49) w dX5_readInteger_48 rfl rfl ?_
    refine m_getI (pc2 := 52) (ci := 5) (k := 3) w dX5_readInteger_49 rfl rfl rfl rfl rfl ?_
    refine r_X9_valueAt (pc2 := 55) w dX5_readInteger_52 rfl rfl rfl hq1.2.2.1 (by omega) ?_
    refine s_ineg (pc2 := 56) w dX5_readInteger_55 rfl ?_
    refine s_iload_n (pc2 := 57) w dX5_readInteger_56 rfl rfl ?_
    refine s_iload_n (pc2 := 58) w dX5_readInteger_57 rfl rfl ?_
    refine r_X5_takeArgument (pc2 := 61) w dX5_readInteger_58 rfl rfl rfl hp0 hq1 h0 hp3 hp4 (by rw [hq1.vl, gI_neg]) hp5 hp6 ⟨by omega, by omega⟩ ⟨by omega, by omega⟩ ⟨by omega, by omega⟩ (fun x2 h1 h2 => ?_)
    rw [e1] at h1 h2 ⊢
    refine s_ireturn w dX5_readInteger_61 rfl (eB_n _) ?_
    rw [show pI B t lo hi Q = pT B t lo hi (-(VV B t (pAd B t Q).1 : Int)) (pAd B t Q) from if_pos k3, show vI B t Q = gI (-(VV B t (pAd B t Q).1 : Int)) from if_pos k3] at q0
    exact q0 x2 h1 (fun h => by have h3 := h2 h; rw [e2 h] at h3; exact h3)
  · have k3 : ¬ KK B t Q.1 = 3 := fun h => c12 ((kq 3 (by omega)).mpr h)
    have hv := vC_le B t (tp B t Q.1)
    obtain ⟨e1, e2⟩ := pT_v (c := B) (t := t) (a := tp B t Q.1) (Q := Q) hp7.1 hp8.2
    refine s_aload_n (pc2 := 16) w dX5_readInteger_15 rfl rfl ?_
    refine s_aload_n (pc2 := 17) w dX5_readInteger_16 rfl rfl ?_
    refine m_getR (pc2 := 20) (ci := 5) (k := 2) (j2 := 98) w dX5_readInteger_17 rfl rfl rfl rfl rfl rfl ?_
    refine s_aload_n (pc2 := 21) w dX5_readInteger_20 rfl rfl ?_
    refine m_getI (pc2 := 24) (ci := 5) (k := 3) w dX5_readInteger_21 rfl rfl rfl rfl rfl ?_
    refine r_X9_valueAt (pc2 := 27) w dX5_readInteger_24 rfl rfl rfl hp1.2.2.1 (by omega) ?_
    refine s_iload_n (pc2 := 28) w dX5_readInteger_27 rfl rfl ?_
    refine s_iload_n (pc2 := 29) w dX5_readInteger_28 rfl rfl ?_
    refine r_X5_takeArgument (pc2 := 32) w dX5_readInteger_29 rfl rfl rfl hp0 hp1 hp2 hp3 hp4 hp1.vl hp5 hp6 ⟨by omega, by omega⟩ ⟨by omega, by omega⟩ ⟨by omega, by omega⟩ (fun x2 h1 h2 => ?_)
    rw [e1] at h1 h2 ⊢
    refine s_ireturn w dX5_readInteger_32 rfl (eB_n _) ?_
    rw [show pI B t lo hi Q = pN B t lo hi Q from if_neg k3, show vI B t Q = vN B t Q from if_neg k3] at q0
    exact q0 x2 h1 (fun h => by have h3 := h2 h; rw [e2 h] at h3; exact h3)
theorem lk_X5_readInteger {l : Launch} (hl : l.stackTraces = false) : ∀ q ∈ L_X5_readInteger, (q.2.1 < 5 → gk_Lk l RX5 gk_W1 2 q.1 q.2.1 q.2.2.1 q.2.2.2.1 q.2.2.2.2.1 q.2.2.2.2.2) := (List.forall_mem_cons.mpr ⟨(fun _ => ⟨yX9_kindAt, cX9_kindAt, 2, (some .int), 0, _, M_X9_kindAt hl, ⟨by decide, by decide⟩, ⟨by decide, by decide, by decide +kernel⟩, ⟨(gk_wm 605 (by decide +kernel)), (gk_wm 98 (by decide +kernel))⟩, Or.inr (Or.inr (Or.inr (Or.inl ⟨rfl, rfl, (gk_wm 603 (by decide +kernel)), (gk_wm 604 (by decide +kernel)), gk_wm 602 (by decide +kernel), by decide, rfl⟩)))⟩), (List.forall_mem_cons.mpr ⟨(fun _ => ⟨yX9_valueAt, cX9_valueAt, 2, (some .int), 1, _, M_X9_valueAt hl, ⟨by decide, by decide⟩, ⟨by decide, by decide, by decide +kernel⟩, ⟨(gk_wm 629 (by decide +kernel)), (gk_wm 98 (by decide +kernel))⟩, Or.inr (Or.inr (Or.inr (Or.inl ⟨rfl, rfl, (gk_wm 627 (by decide +kernel)), (gk_wm 628 (by decide +kernel)), gk_wm 626 (by decide +kernel), by decide, rfl⟩)))⟩), (List.forall_mem_cons.mpr ⟨(fun _ => ⟨yX5_takeArgument, cX5_takeArgument, 4, (some .boolean), 1, _, M_X5_takeArgument hl, ⟨by decide, by decide⟩, ⟨by decide, by decide, by decide +kernel⟩, ⟨(gk_wm 634 (by decide +kernel)), (gk_wm 97 (by decide +kernel))⟩, Or.inr (Or.inr (Or.inr (Or.inl ⟨rfl, rfl, (gk_wm 633 (by decide +kernel)), (gk_wm 13 (by decide +kernel)), gk_wm 631 (by decide +kernel), by decide, rfl⟩)))⟩), (fun _ h => absurd h List.not_mem_nil)⟩)⟩)⟩)
theorem sp_X5_readInteger : ∀ q ∈ L_X5_readInteger, gk_Sq RX5 gk_W1 2 q := (List.forall_mem_cons.mpr ⟨⟨fun h => absurd h (by decide), fun h => absurd h (by decide), fun h => absurd h (by decide), fun h => absurd h (by decide), fun h => absurd h (by decide), fun h => absurd h (by decide)⟩, (List.forall_mem_cons.mpr ⟨⟨fun h => absurd h (by decide), fun h => absurd h (by decide), fun h => absurd h (by decide), fun h => absurd h (by decide), fun h => absurd h (by decide), fun h => absurd h (by decide)⟩, (List.forall_mem_cons.mpr ⟨⟨fun h => absurd h (by decide), fun h => absurd h (by decide), fun h => absurd h (by decide), fun h => absurd h (by decide), fun h => absurd h (by decide), fun h => absurd h (by decide)⟩, (fun _ h => absurd h List.not_mem_nil)⟩)⟩)⟩)
theorem M_X5_readInteger {l : Launch} (hl : l.stackTraces = false) : gk_Mt l yX5_readInteger (.code yX5_readInteger cX5_readInteger 3 (some .boolean) :: gk_W1) 2 0 S_X5_readInteger := gk_meth hl gk_cw_ok (by decide +kernel) rfl m_X5_readInteger pX5_ok (gk_Sp_of sp_X5_readInteger) pX5_st (fun ci m S h => absurd h (by intro h; cases h)) (xf_X5 2) (fun idx kd ci mm cost S2 h h5 => lk_X5_readInteger hl _ (gk_lk_mem h) h5)

def S_X5_readSemicolon : gk_S := fun as n fl x y K => ∃ (B : Nat → Int32) (t : Nat) (m : Nat) (x0 : gk_X) (Q : gk_P), as = [.ref 97] ∧ (n = 202 ∧ fl = gk_fT) ∧ (CH B t m) ∧ (CP B t m x0 Q x y) ∧ (Q.2.1 = 0) ∧ (∀ x2 : gk_X, CP B t m x0 (pAd B t (pQ (decide (KK B t Q.1 = 2)) 1 Q)) x2 y → K (.inl (some (.int (eB (pAd B t (pQ (decide (KK B t Q.1 = 2)) 1 Q)))))) n fl x2 y)
theorem r_X5_readSemicolon (w : gk_W c P cs (fun _ _ => none) rt uf sc K V) {idx : Nat} {B : Nat → Int32} {t : Nat} {m : Nat} {x0 : gk_X} {Q : gk_P} (hd : decode c pc = .ok (.invokevirtual idx, 3)) (hp : pc + 3 = pc2) (hc : cs idx = some (1, 5, 1, 0, S_X5_readSemicolon)) (h8 : Nat.ble (r.map Value.category).sum 8 = true) (hp0 : CH B t m) (hp1 : CP B t m x0 Q x y) (hp2 : Q.2.1 = 0) (kk0 : ∀ x2 : gk_X, CP B t m x0 (pAd B t (pQ (decide (KK B t Q.1 = 2)) 1 Q)) x2 y → V pc2 L ((.int (eB (pAd B t (pQ (decide (KK B t Q.1 = 2)) 1 Q)))) :: r) 202 gk_fT x2 y u) : V pc L (.ref 97 :: r) 202 gk_fT x y u :=
  g_callv w hd hp hc (as := [.ref 97]) rfl h8 rfl rfl rfl (Or.inr (Or.inl ⟨Or.inl rfl, _, _, rfl, (gk_kd_j rfl rfl), rfl⟩)) (Or.inl rfl) ⟨B, t, m, x0, Q, rfl, ⟨rfl, rfl⟩, hp0, hp1, hp2, kk0⟩
def L_X5_readSemicolon : List (Nat × gk_M0) := [(41, (1, 8, 2, 0, S_X9_kindAt)), (56, (1, 5, 2, 0, S_X5_fail))]
def cs_X5_readSemicolon : Nat → Option gk_M0 := gk_lk L_X5_readSemicolon
theorem m_X5_readSemicolon : ∀ (as : List Value) (n : Nat) (fl : gk_F) (x : gk_X) (y : gk_Y) (K : gk_K), S_X5_readSemicolon as n fl x y K → (gk_L0 as).length ≤ 1 ∧ ∀ V : gk_V, gk_W cX5_readSemicolon pX5 cs_X5_readSemicolon (fun _ _ => none) (some .boolean) 0 none K V → V 0 (gk_en as 1) [] n fl x y 0 := by
  intro as n fl x y K hS
  obtain ⟨B, t, m, x0, Q, rfl, ⟨rfl, rfl⟩, hp0, hp1, hp2, q0⟩ := hS
  refine ⟨Nat.le_of_ble_eq_true rfl, fun V w => ?_⟩
  show V 0 [some (.ref 97)] [] 202 gk_fT x y 0
  have hb1 := hp1.2.2.2.2.2.1
  have hb2 := hp0.1
  refine s_aload_n (pc2 := 1) w dX5_readSemicolon_0 rfl rfl ?_
  refine m_getR (pc2 := 4) (ci := 5) (k := 2) (j2 := 98) w dX5_readSemicolon_1 rfl rfl rfl rfl rfl rfl ?_
  refine s_aload_n (pc2 := 5) w dX5_readSemicolon_4 rfl rfl ?_
  refine m_getI (pc2 := 8) (ci := 5) (k := 3) w dX5_readSemicolon_5 rfl rfl rfl rfl rfl ?_
  refine r_X9_kindAt (pc2 := 11) w dX5_readSemicolon_8 rfl rfl rfl hp1.2.2.1 (by omega) ?_
  rw [CP.kd hp0 hp1]
  refine s_iconst (pc2 := 12) (v := 2) w dX5_readSemicolon_11 rfl rfl ?_
  refine s_ic_eq (pc2 := 15) (tgt := 21) w dX5_readSemicolon_12 rfl (by decide) (fun c12 => ?_) (fun c12 => ?_)
  · refine s_aload_n (pc2 := 22) w dX5_readSemicolon_21 rfl rfl ?_
    refine s_dup (pc2 := 23) w dX5_readSemicolon_22 rfl rfl ?_
    refine m_getI (pc2 := 26) (ci := 5) (k := 3) w dX5_readSemicolon_23 rfl rfl rfl rfl rfl ?_
    rw [hp1.2.2.1]
    refine s_iconst (pc2 := 27) (v := 1) w dX5_readSemicolon_26 rfl rfl ?_
    refine s_iadd (pc2 := 28) w dX5_readSemicolon_27 rfl ?_
    rw [show nI Q.1 + 1 = nI (Q.1 + 1) from nI_ad Q.1 1]
    refine m_putI (pc2 := 31) (ci := 5) (k := 3) w dX5_readSemicolon_28 rfl rfl rfl rfl rfl (by intro h; cases h) ?_
    refine s_iconst (pc2 := 32) (v := 1) w dX5_readSemicolon_31 rfl rfl ?_
    refine s_ireturn w dX5_readSemicolon_32 rfl (by first | rfl | decide) ?_
    have k2 : KK B t Q.1 = 2 := (kq 2 (by omega)).mp c12
    have k0 : ¬ KK B t Q.1 = 0 := by rw [k2]; decide
    have e : pQ (decide (KK B t Q.1 = 2)) 1 Q = Q := if_neg (fun h => by rw [decide_eq_true k2] at h; exact absurd h.2 (by decide))
    rw [e] at q0
    have h9 := q0 _ (hp1.step hp0 hp2 k0)
    rw [eB_1 (by rw [pA_1 hp2 k0])] at h9
    exact h9
  · refine s_aload_n (pc2 := 16) w dX5_readSemicolon_15 rfl rfl ?_
    refine s_iconst (pc2 := 17) (v := 1) w dX5_readSemicolon_16 rfl rfl ?_
    refine r_X5_fail (pc2 := 20) w dX5_readSemicolon_17 rfl rfl rfl ?_
    refine s_ireturn w dX5_readSemicolon_20 rfl (by first | rfl | decide) ?_
    have e : pAd B t (pQ (decide (KK B t Q.1 = 2)) 1 Q) = (Q.1, 1, Q.2.2) := by
      rw [show pQ (decide (KK B t Q.1 = 2)) 1 Q = (Q.1, 1, Q.2.2) from if_pos ⟨hp2, decide_eq_false (fun h => c12 ((kq 2 (by omega)).mpr h))⟩, pA_e n1_0]
    rw [e] at q0
    exact q0 _ (hp1.fail (k := 1) (by decide) (by decide))
theorem lk_X5_readSemicolon {l : Launch} (hl : l.stackTraces = false) : ∀ q ∈ L_X5_readSemicolon, (q.2.1 < 5 → gk_Lk l RX5 gk_W1 1 q.1 q.2.1 q.2.2.1 q.2.2.2.1 q.2.2.2.2.1 q.2.2.2.2.2) := (List.forall_mem_cons.mpr ⟨(fun _ => ⟨yX9_kindAt, cX9_kindAt, 2, (some .int), 0, _, M_X9_kindAt hl, ⟨by decide, by decide⟩, ⟨by decide, by decide, by decide +kernel⟩, ⟨(gk_wm 605 (by decide +kernel)), (gk_wm 98 (by decide +kernel))⟩, Or.inr (Or.inr (Or.inr (Or.inl ⟨rfl, rfl, (gk_wm 603 (by decide +kernel)), (gk_wm 604 (by decide +kernel)), gk_wm 602 (by decide +kernel), by decide, rfl⟩)))⟩), (List.forall_mem_cons.mpr ⟨(fun _ => ⟨yX5_fail, cX5_fail, 2, (some .boolean), 0, _, M_X5_fail hl, ⟨by decide, by decide⟩, ⟨by decide, by decide, by decide +kernel⟩, ⟨(gk_wm 621 (by decide +kernel)), (gk_wm 97 (by decide +kernel))⟩, Or.inr (Or.inr (Or.inr (Or.inl ⟨rfl, rfl, (gk_wm 620 (by decide +kernel)), (gk_wm 11 (by decide +kernel)), gk_wm 618 (by decide +kernel), by decide, rfl⟩)))⟩), (fun _ h => absurd h List.not_mem_nil)⟩)⟩)
theorem sp_X5_readSemicolon : ∀ q ∈ L_X5_readSemicolon, gk_Sq RX5 gk_W1 1 q := (List.forall_mem_cons.mpr ⟨⟨fun h => absurd h (by decide), fun h => absurd h (by decide), fun h => absurd h (by decide), fun h => absurd h (by decide), fun h => absurd h (by decide), fun h => absurd h (by decide)⟩, (List.forall_mem_cons.mpr ⟨⟨fun h => absurd h (by decide), fun h => absurd h (by decide), fun h => absurd h (by decide), fun h => absurd h (by decide), fun h => absurd h (by decide), fun h => absurd h (by decide)⟩, (fun _ h => absurd h List.not_mem_nil)⟩)⟩)
theorem M_X5_readSemicolon {l : Launch} (hl : l.stackTraces = false) : gk_Mt l yX5_readSemicolon (.code yX5_readSemicolon cX5_readSemicolon 1 (some .boolean) :: gk_W1) 1 0 S_X5_readSemicolon := gk_meth hl gk_cw_ok (by decide +kernel) rfl m_X5_readSemicolon pX5_ok (gk_Sp_of sp_X5_readSemicolon) pX5_st (fun ci m S h => absurd h (by intro h; cases h)) (xf_X5 1) (fun idx kd ci mm cost S2 h h5 => lk_X5_readSemicolon hl _ (gk_lk_mem h) h5)

end GKV

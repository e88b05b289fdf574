/-! THE TEXT, 8: the class splits it -/
section GKV
variable {c : ByteArray} {P : gk_C} {cs : Nat → Option gk_M0} {rt : Option FieldType} {uf : Nat} {sc : Option Nat} {K : gk_K} {V : gk_V}
variable {L : List (Option Value)} {r : List Value} {n : Nat} {fl : gk_F} {x : gk_X} {y : gk_Y} {u pc pc2 : Nat}
theorem tL_0 (v : Int32) : (if 97 ≤ v ∧ v ≤ 122 then (1 : Int32) else 0) = 0 ↔ ¬ tL v = true := by
  unfold tL
  rw [decide_eq_true_iff]
  split
  · next h => exact ⟨fun h2 => absurd h2 (by decide), fun h2 => absurd h h2⟩
  · next h => exact ⟨fun _ => h, fun _ => rfl⟩
theorem tD_0 (v : Int32) : (if 48 ≤ v ∧ v ≤ 57 then (1 : Int32) else 0) = 0 ↔ ¬ tD v = true := by
  unfold tD
  rw [decide_eq_true_iff]
  split
  · next h => exact ⟨fun h2 => absurd h2 (by decide), fun h2 => absurd h h2⟩
  · next h => exact ⟨fun _ => h, fun _ => rfl⟩
theorem tL_W {v : Int32} (h : tL v = true) : ¬ tW v = true := by
  have h := of_decide_eq_true h
  intro h2
  have h2 := of_decide_eq_true h2
  rcases h2 with rfl | rfl
  · exact absurd h (by decide)
  · exact absurd h (by decide)
theorem tD_W {v : Int32} (h : tD v = true) : ¬ tW v = true := by
  have h := of_decide_eq_true h
  intro h2
  have h2 := of_decide_eq_true h2
  rcases h2 with rfl | rfl
  · exact absurd h (by decide)
  · exact absurd h (by decide)
theorem tD_L {v : Int32} (h : tD v = true) : ¬ tL v = true := by
  have h := of_decide_eq_true h
  intro h2
  have h2 := of_decide_eq_true h2
  have h3 := Int32.le_iff_toInt_le.mp h.2
  have h4 := Int32.le_iff_toInt_le.mp h2.1
  have e1 : (57 : Int32).toInt = 57 := by decide
  have e2 : (97 : Int32).toInt = 97 := by decide
  omega
theorem tk_L {c : Nat → Int32} {t a : Nat} (h1 : a < t) (h2 : tL (c a) = true) : tk c t a = kW (wdl c a (te c t a - a)) := by
  unfold tk
  rw [if_neg (by omega), if_pos h2]
theorem tk_D {c : Nat → Int32} {t a : Nat} (h1 : a < t) (h2 : tD (c a) = true) : tk c t a = 4 := by
  unfold tk
  rw [if_neg (by omega), if_neg (tD_L h2), if_pos h2]
theorem tk_S {c : Nat → Int32} {t a : Nat} (h1 : a < t) (h2 : ¬ tL (c a) = true) (h3 : ¬ tD (c a) = true) : tk c t a = if c a = 59 then 2 else if c a = 45 then 3 else 1 := by
  unfold tk
  rw [if_neg (by omega), if_neg h2, if_neg h3]
theorem vC_L {c : Nat → Int32} {t a : Nat} (h2 : tL (c a) = true) : vC c t a = 0 := by
  unfold vC
  rw [if_pos h2]
  split <;> rfl
theorem vC_S {c : Nat → Int32} {t a : Nat} (h3 : ¬ tD (c a) = true) : vC c t a = 0 := by
  unfold vC
  rw [if_neg h3]
  split
  · rfl
  · split <;> rfl
theorem vC_D {c : Nat → Int32} {t a : Nat} (h1 : a < t) (h2 : tD (c a) = true) : vC c t a = fC c (te c t a - a) a 0 := by
  unfold vC
  rw [if_neg (by omega), if_neg (tD_L h2), if_pos h2]
/-- a token more -/
def apX (x : gk_X) (i : Nat) (k b e : Int32) : gk_X := gk_up (gk_up (gk_up (gk_up x 99 i k) 100 i b) 101 i e) 98 3 (nI (i + 1))
/-- the first tokens lie there -/
def TA (c : Nat → Int32) (t i : Nat) (x : gk_X) : Prop := x 98 3 = nI i ∧ ∀ j, j < i → x 99 j = nI (tk c t (tp c t j)) ∧ x 100 j = nI (tp c t j) ∧ x 101 j = nI (vC c t (tp c t j))
theorem TA_s {c : Nat → Int32} {t i a : Nat} {x : gk_X} (h : TA c t i x) (ha : tp c t i = a) : TA c t (i + 1) (apX x i (nI (tk c t a)) (nI a) (nI (vC c t a))) := by
  refine ⟨gk_up_in _ _ _ _, fun j hj => ?_⟩
  unfold apX
  rw [gk_up_ne (by omega), gk_up_ne (by omega), gk_up_ne (by omega), gk_up_ne (i := 98) (by omega), gk_up_ne (i := 101) (by omega), gk_up_ne (i := 98) (by omega)]
  rcases Nat.lt_or_ge j i with h2 | h2
  · obtain ⟨h3, h4, h5⟩ := h.2 j h2
    rw [gk_up_ne (by omega), gk_up_ne (by omega), gk_up_ne (by omega), gk_up_ne (by omega), gk_up_ne (by omega), gk_up_ne (by omega)]
    exact ⟨h3, h4, h5⟩
  · obtain rfl : j = i := by omega
    rw [gk_up_in, gk_up_in, gk_up_in, ha]
    exact ⟨rfl, rfl, rfl⟩
theorem apX_fr (x : gk_X) (i : Nat) (k b e : Int32) : ∀ a k2, ¬ (98 ≤ a ∧ a ≤ 101) → apX x i k b e a k2 = x a k2 := fun a k2 h => by
  unfold apX
  rw [gk_up_ne (by omega), gk_up_ne (by omega), gk_up_ne (by omega), gk_up_ne (by omega)]
theorem tz_no {c : Nat → Int32} {t a : Nat} (h : ¬ tW (c a) = true) : tz c t a = a := rn_no h _
theorem tz_st {c : Nat → Int32} {t a : Nat} (h : tW (c a) = true) (ha : a < t) : tz c t a = tz c t (a + 1) := rn_st h ha
theorem c_in {x : gk_X} {B : Nat → Int32} {t a : Nat} (h : tbA (x 96) t = B) : tbA (x 96) t a = B a := by rw [h]
def S_X9_takeWord : gk_S := fun as n fl x y K => ∃ (s_ : Int32) (a : Nat) (t : Nat) (B : Nat → Int32) (i : Nat), as = [.ref 98, .ref 95, .int s_] ∧ (n = 202 ∧ fl = gk_fT) ∧ (s_ = nI a) ∧ (x 95 1 = nI t) ∧ (t ≤ 500) ∧ (tbA (x 96) t = B) ∧ (a < t) ∧ (tL (B a) = true) ∧ (x 98 3 = nI i) ∧ (i < 501) ∧ (K (.inl (some (.int (nI (te B t a))))) n fl (apX x i (nI (tk B t a)) (nI a) (nI (vC B t a))) y)
theorem r_X9_takeWord (w : gk_W c P cs (fun _ _ => none) rt uf sc K V) {idx : Nat} {s_ : Int32} {a : Nat} {t : Nat} {B : Nat → Int32} {i : Nat} (hd : decode c pc = .ok (.invokevirtual idx, 3)) (hp : pc + 3 = pc2) (hc : cs idx = some (1, 8, 3, 0, S_X9_takeWord)) (h8 : Nat.ble (r.map Value.category).sum 8 = true) (hp0 : s_ = nI a) (hp1 : x 95 1 = nI t) (hp2 : t ≤ 500) (hp3 : tbA (x 96) t = B) (hp4 : a < t) (hp5 : tL (B a) = true) (hp6 : x 98 3 = nI i) (hp7 : i < 501) (kk0 : V pc2 L ((.int (nI (te B t a))) :: r) 202 gk_fT (apX x i (nI (tk B t a)) (nI a) (nI (vC B t a))) y u) : V pc L (.int s_ :: .ref 95 :: .ref 98 :: r) 202 gk_fT x y u :=
  g_callv w hd hp hc (as := [.ref 98, .ref 95, .int s_]) rfl h8 rfl rfl rfl (Or.inr (Or.inl ⟨Or.inl rfl, _, _, rfl, (gk_kd_j rfl rfl), rfl⟩)) (Or.inl rfl) ⟨s_, a, t, B, i, rfl, ⟨rfl, rfl⟩, hp0, hp1, hp2, hp3, hp4, hp5, hp6, hp7, kk0⟩
def L_X9_takeWord : List (Nat × gk_M0) := [(34, (1, 7, 2, 0, S_X8_byteAt)), (38, (0, 8, 1, 0, S_X9_isLetter)), (56, (1, 8, 4, 0, S_X9_append)), (67, (0, 8, 3, 0, S_X9_kindOfWord))]
def cs_X9_takeWord : Nat → Option gk_M0 := gk_lk L_X9_takeWord
theorem m_X9_takeWord : ∀ (as : List Value) (n : Nat) (fl : gk_F) (x : gk_X) (y : gk_Y) (K : gk_K), S_X9_takeWord as n fl x y K → (gk_L0 as).length ≤ 4 ∧ ∀ V : gk_V, gk_W cX9_takeWord pX9 cs_X9_takeWord (fun _ _ => none) (some .int) 0 none K V → V 0 (gk_en as 4) [] n fl x y 0 := by
  intro as n fl x y K hS
  obtain ⟨s_, a, t, B, i, rfl, ⟨rfl, rfl⟩, hp0, hp1, hp2, hp3, hp4, hp5, hp6, hp7, q0⟩ := hS
  refine ⟨Nat.le_of_ble_eq_true rfl, fun V w => ?_⟩
  show V 0 [some (.ref 98), some (.ref 95), some (.int s_), none] [] 202 gk_fT x y 0
  subst hp0
  have ht := te_b (c := B) (Nat.le_of_lt hp4)
  refine s_iload_n (pc2 := 1) w dX9_takeWord_0 rfl rfl ?_
  refine s_istore_n (pc2 := 2) (k2 := 3) w dX9_takeWord_1 rfl rfl rfl ?_
  dsimp only [gk_s1, gk_s2, gk_cl]
  have fin : V 27 [some (.ref 98), some (.ref 95), some (.int (nI a)), some (.int (nI (te B t a)))] [] 202 gk_fT x y 0 := by
    refine s_aload_n (pc2 := 28) w dX9_takeWord_27 rfl rfl ?_
    refine s_aload_n (pc2 := 29) w dX9_takeWord_28 rfl rfl ?_
    refine s_iload_n (pc2 := 30) w dX9_takeWord_29 rfl rfl ?_
    refine s_iload_n (pc2 := 31) w dX9_takeWord_30 rfl rfl ?_
    refine r_X9_kindOfWord (pc2 := 34) w dX9_takeWord_31 rfl rfl rfl rfl rfl (by omega) (by omega) hp1 hp2 ?_
    rw [hp3, ← tk_L hp4 hp5]
    refine s_iload_n (pc2 := 35) w dX9_takeWord_34 rfl rfl ?_
    refine s_iconst (pc2 := 36) (v := 0) w dX9_takeWord_35 rfl rfl ?_
    refine r_X9_append (pc2 := 39) w dX9_takeWord_36 rfl rfl rfl hp6 (by omega) (fun _ => ?_) (fun h => absurd hp7 h)
    refine s_iload_n (pc2 := 40) w dX9_takeWord_39 rfl rfl ?_
    refine s_ireturn w dX9_takeWord_40 rfl rfl ?_
    rw [vC_L hp5] at q0
    exact q0
  have key : ∀ (k n : Nat), n + k = t → rn tL B (t - n) n = te B t a → V 2 [some (.ref 98), some (.ref 95), some (.int (nI a)), some (.int (nI n))] [] 202 gk_fT x y 0 := by
    intro k
    induction k with
    | zero =>
      intro n hn he
      refine s_iload_n (pc2 := 3) w dX9_takeWord_2 rfl rfl ?_
      refine s_aload_n (pc2 := 4) w dX9_takeWord_3 rfl rfl ?_
      refine m_getI (pc2 := 7) (ci := 7) (k := 1) w dX9_takeWord_4 rfl rfl rfl rfl rfl ?_
      rw [hp1]
      refine s_ic_ge (pc2 := 10) (tgt := 27) w dX9_takeWord_7 rfl (by decide) (fun _ => ?_) (fun h0 => absurd (by rw [nI_ge2 (by omega) (by omega)]; omega) h0)
      rw [show t - n = 0 from by omega] at he
      have he : n = te B t a := he
      rw [he]
      exact fin
    | succ k ih =>
      intro n hn he
      refine s_iload_n (pc2 := 3) w dX9_takeWord_2 rfl rfl ?_
      refine s_aload_n (pc2 := 4) w dX9_takeWord_3 rfl rfl ?_
      refine m_getI (pc2 := 7) (ci := 7) (k := 1) w dX9_takeWord_4 rfl rfl rfl rfl rfl ?_
      rw [hp1]
      refine s_ic_ge (pc2 := 10) (tgt := 27) w dX9_takeWord_7 rfl (by decide) (fun h0 => absurd h0 (by rw [nI_ge2 (by omega) (by omega)]; omega)) (fun _ => ?_)
      refine s_aload_n (pc2 := 11) w dX9_takeWord_10 rfl rfl ?_
      refine s_iload_n (pc2 := 12) w dX9_takeWord_11 rfl rfl ?_
      refine r_X8_byteAt (pc2 := 15) w dX9_takeWord_12 rfl rfl rfl rfl hp1 hp2 (by omega) ?_
      rw [c_in hp3]
      refine r_X9_isLetter (pc2 := 18) w dX9_takeWord_15 rfl rfl rfl ?_
      refine s_if_eq (pc2 := 21) (tgt := 27) w dX9_takeWord_18 rfl (by decide) (fun c18 => ?_) (fun c18 => ?_)
      · rw [rn_no ((tL_0 _).mp c18)] at he
        rw [he]
        exact fin
      · refine s_iinc (pc2 := 24) w dX9_takeWord_21 rfl rfl rfl rfl ?_
        dsimp only [gk_s1, gk_s2, gk_cl]
        rw [nI_s]
        refine s_goto (tgt := 2) w dX9_takeWord_24 (by decide) ?_
        have c18 : tL (B n) = true := Decidable.byContradiction (fun h => c18 ((tL_0 _).mpr h))
        rw [rn_st c18 (by omega)] at he
        exact ih (n + 1) (by omega) he
  exact key (t - a) a (by omega) (te_L (by omega) hp5).symm
theorem lk_X9_takeWord {l : Launch} (hl : l.stackTraces = false) : ∀ q ∈ L_X9_takeWord, (q.2.1 < 5 → gk_Lk l RX9 gk_W1 6 q.1 q.2.1 q.2.2.1 q.2.2.2.1 q.2.2.2.2.1 q.2.2.2.2.2) := (List.forall_mem_cons.mpr ⟨(fun _ => ⟨yX8_byteAt, cX8_byteAt, 2, (some .int), 0, _, M_X8_byteAt hl, ⟨by decide, by decide⟩, ⟨by decide, by decide, by decide +kernel⟩, ⟨(gk_wm 511 (by decide +kernel)), (gk_wm 96 (by decide +kernel))⟩, Or.inr (Or.inr (Or.inr (Or.inl ⟨rfl, rfl, (gk_wm 509 (by decide +kernel)), (gk_wm 510 (by decide +kernel)), gk_wm 508 (by decide +kernel), by decide, rfl⟩)))⟩), (List.forall_mem_cons.mpr ⟨(fun _ => ⟨yX9_isLetter, cX9_isLetter, 1, (some .boolean), 0, _, M_X9_isLetter hl, ⟨by decide, by decide⟩, ⟨by decide, by decide, by decide +kernel⟩, ⟨(gk_wm 514 (by decide +kernel)), (gk_wm 98 (by decide +kernel))⟩, Or.inl ⟨rfl, rfl, (gk_wm 513 (by decide +kernel)), gk_wm 512 (by decide +kernel)⟩⟩), (List.forall_mem_cons.mpr ⟨(fun _ => ⟨yX9_append, cX9_append, 4, none, 0, _, M_X9_append hl, ⟨by decide, by decide⟩, ⟨by decide, by decide, by decide +kernel⟩, ⟨(gk_wm 585 (by decide +kernel)), (gk_wm 98 (by decide +kernel))⟩, Or.inr (Or.inr (Or.inr (Or.inl ⟨rfl, rfl, (gk_wm 584 (by decide +kernel)), (gk_wm 5 (by decide +kernel)), gk_wm 582 (by decide +kernel), by decide, rfl⟩)))⟩), (List.forall_mem_cons.mpr ⟨(fun _ => ⟨yX9_kindOfWord, cX9_kindOfWord, 3, (some .int), 5, _, M_X9_kindOfWord hl, ⟨by decide, by decide⟩, ⟨by decide, by decide, by decide +kernel⟩, ⟨(gk_wm 521 (by decide +kernel)), (gk_wm 98 (by decide +kernel))⟩, Or.inl ⟨rfl, rfl, (gk_wm 520 (by decide +kernel)), gk_wm 519 (by decide +kernel)⟩⟩), (fun _ h => absurd h List.not_mem_nil)⟩)⟩)⟩)⟩)
theorem sp_X9_takeWord : ∀ q ∈ L_X9_takeWord, gk_Sq RX9 gk_W1 6 q := (List.forall_mem_cons.mpr ⟨⟨fun h => absurd h (by decide), fun h => absurd h (by decide), fun h => absurd h (by decide), fun h => absurd h (by decide), fun h => absurd h (by decide), fun h => absurd h (by decide)⟩, (List.forall_mem_cons.mpr ⟨⟨fun h => absurd h (by decide), fun h => absurd h (by decide), fun h => absurd h (by decide), fun h => absurd h (by decide), fun h => absurd h (by decide), fun h => absurd h (by decide)⟩, (List.forall_mem_cons.mpr ⟨⟨fun h => absurd h (by decide), fun h => absurd h (by decide), fun h => absurd h (by decide), fun h => absurd h (by decide), fun h => absurd h (by decide), fun h => absurd h (by decide)⟩, (List.forall_mem_cons.mpr ⟨⟨fun h => absurd h (by decide), fun h => absurd h (by decide), fun h => absurd h (by decide), fun h => absurd h (by decide), fun h => absurd h (by decide), fun h => absurd h (by decide)⟩, (fun _ h => absurd h List.not_mem_nil)⟩)⟩)⟩)⟩)
theorem M_X9_takeWord {l : Launch} (hl : l.stackTraces = false) : gk_Mt l yX9_takeWord (.code yX9_takeWord cX9_takeWord 4 (some .int) :: gk_W1) 6 0 S_X9_takeWord := gk_meth hl gk_cw_ok (by decide +kernel) rfl m_X9_takeWord pX9_ok (gk_Sp_of sp_X9_takeWord) pX9_st (fun ci m S h => absurd h (by intro h; cases h)) (xf_X9 6) (fun idx kd ci mm cost S2 h h5 => lk_X9_takeWord hl _ (gk_lk_mem h) h5)

def S_X9_takeNumber : gk_S := fun as n fl x y K => ∃ (s_ : Int32) (a : Nat) (t : Nat) (B : Nat → Int32) (i : Nat), as = [.ref 98, .ref 95, .int s_] ∧ (n = 202 ∧ fl = gk_fT) ∧ (s_ = nI a) ∧ (x 95 1 = nI t) ∧ (t ≤ 500) ∧ (tbA (x 96) t = B) ∧ (a < t) ∧ (tD (B a) = true) ∧ (x 98 3 = nI i) ∧ (i < 501) ∧ (K (.inl (some (.int (nI (te B t a))))) n fl (apX x i (nI (tk B t a)) (nI a) (nI (vC B t a))) y)
theorem r_X9_takeNumber (w : gk_W c P cs (fun _ _ => none) rt uf sc K V) {idx : Nat} {s_ : Int32} {a : Nat} {t : Nat} {B : Nat → Int32} {i : Nat} (hd : decode c pc = .ok (.invokevirtual idx, 3)) (hp : pc + 3 = pc2) (hc : cs idx = some (1, 8, 3, 0, S_X9_takeNumber)) (h8 : Nat.ble (r.map Value.category).sum 8 = true) (hp0 : s_ = nI a) (hp1 : x 95 1 = nI t) (hp2 : t ≤ 500) (hp3 : tbA (x 96) t = B) (hp4 : a < t) (hp5 : tD (B a) = true) (hp6 : x 98 3 = nI i) (hp7 : i < 501) (kk0 : V pc2 L ((.int (nI (te B t a))) :: r) 202 gk_fT (apX x i (nI (tk B t a)) (nI a) (nI (vC B t a))) y u) : V pc L (.int s_ :: .ref 95 :: .ref 98 :: r) 202 gk_fT x y u :=
  g_callv w hd hp hc (as := [.ref 98, .ref 95, .int s_]) rfl h8 rfl rfl rfl (Or.inr (Or.inl ⟨Or.inl rfl, _, _, rfl, (gk_kd_j rfl rfl), rfl⟩)) (Or.inl rfl) ⟨s_, a, t, B, i, rfl, ⟨rfl, rfl⟩, hp0, hp1, hp2, hp3, hp4, hp5, hp6, hp7, kk0⟩
theorem vl_st {v d : Nat} {z : Int32} (hv : v ≤ 1000000) (hd : d ≤ 9) (hz : z = gI (48 + d)) : (if nI v * 10 + z - 48 < (1000000 : Int32) then nI v * 10 + z - 48 else 1000000) = nI (min (v * 10 + d) 1000000) := by
  have e : nI v * 10 + z - 48 = gI (v * 10 + d : Nat) := by
    rw [hz, show nI v * 10 = gI (v * 10) from gI_mul v 10, gI_add]
    exact (gI_sub _ 48).trans (congrArg gI (by omega))
  rw [e, show (1000000 : Int32) = gI 1000000 from rfl]
  by_cases h : v * 10 + d < 1000000
  · rw [if_pos ((gI_lt ⟨by omega, by omega⟩ ⟨by omega, by omega⟩).mpr (by omega)), Nat.min_eq_left (by omega)]
    rfl
  · rw [if_neg (fun h2 => h (by have := (gI_lt ⟨by omega, by omega⟩ ⟨by omega, by omega⟩).mp h2; omega)), Nat.min_eq_right (by omega)]
    rfl
theorem vl_st2 {v d : Nat} {z : Int32} (hv : v ≤ 1000000) (hd : d ≤ 9) (hz : z = gI (48 + d)) : (if (1000000 : Int32) < nI v * 10 + z - 48 then 1000000 else nI v * 10 + z - 48) = nI (min (v * 10 + d) 1000000) := by
  have e : nI v * 10 + z - 48 = gI (v * 10 + d : Nat) := by
    rw [hz, show nI v * 10 = gI (v * 10) from gI_mul v 10, gI_add]
    exact (gI_sub _ 48).trans (congrArg gI (by omega))
  rw [e, show (1000000 : Int32) = gI 1000000 from rfl]
  by_cases h : 1000000 < v * 10 + d
  · rw [if_pos ((gI_lt ⟨by omega, by omega⟩ ⟨by omega, by omega⟩).mpr (by omega)), Nat.min_eq_right (by omega)]
    rfl
  · rw [if_neg (fun h2 => h (by have := (gI_lt ⟨by omega, by omega⟩ ⟨by omega, by omega⟩).mp h2; omega)), Nat.min_eq_left (by omega)]
    rfl
theorem fC_st {c : Nat → Int32} {e a v : Nat} (h : a < e) : fC c (e - a) a v = fC c (e - (a + 1)) (a + 1) (min (v * 10 + dg (c a)) 1000000) := by
  obtain ⟨k, h2⟩ : ∃ k, e - a = k + 1 := ⟨e - a - 1, by omega⟩
  rw [h2, show e - (a + 1) = k from by omega]
  rfl
def L_X9_takeNumber : List (Nat × gk_M0) := [(34, (1, 7, 2, 0, S_X8_byteAt)), (46, (0, 8, 1, 0, S_X9_isDigit)), (56, (1, 8, 4, 0, S_X9_append)), (61, (6, 0, 0, 0, fun _ _ _ _ _ _ => False))]
def cs_X9_takeNumber : Nat → Option gk_M0 := gk_lk L_X9_takeNumber
theorem m_X9_takeNumber : ∀ (as : List Value) (n : Nat) (fl : gk_F) (x : gk_X) (y : gk_Y) (K : gk_K), S_X9_takeNumber as n fl x y K → (gk_L0 as).length ≤ 5 ∧ ∀ V : gk_V, gk_W cX9_takeNumber pX9 cs_X9_takeNumber (fun _ _ => none) (some .int) 0 none K V → V 0 (gk_en as 5) [] n fl x y 0 := by
  intro as n fl x y K hS
  obtain ⟨s_, a, t, B, i, rfl, ⟨rfl, rfl⟩, hp0, hp1, hp2, hp3, hp4, hp5, hp6, hp7, q0⟩ := hS
  refine ⟨Nat.le_of_ble_eq_true rfl, fun V w => ?_⟩
  show V 0 [some (.ref 98), some (.ref 95), some (.int s_), none, none] [] 202 gk_fT x y 0
  subst hp0
  have ht := te_b (c := B) (Nat.le_of_lt hp4)
  refine s_iload_n (pc2 := 1) w dX9_takeNumber_0 rfl rfl ?_
  refine s_istore_n (pc2 := 2) (k2 := 3) w dX9_takeNumber_1 rfl rfl rfl ?_
  dsimp only [gk_s1, gk_s2, gk_cl]
  refine s_iconst (pc2 := 3) (v := 0) w dX9_takeNumber_2 rfl rfl ?_
  refine s_istore (pc2 := 5) w dX9_takeNumber_3 rfl rfl ?_
  dsimp only [gk_s1, gk_s2, gk_cl]
  have fin : V 51 [some (.ref 98), some (.ref 95), some (.int (nI a)), some (.int (nI (te B t a))), some (.int (nI (vC B t a)))] [] 202 gk_fT x y 0 := by
    refine s_aload_n (pc2 := 52) w dX9_takeNumber_51 rfl rfl ?_
    refine s_iconst (pc2 := 53) (v := 4) w dX9_takeNumber_52 rfl rfl ?_
    refine s_iload_n (pc2 := 54) w dX9_takeNumber_53 rfl rfl ?_
    refine s_iload (pc2 := 56) w dX9_takeNumber_54 rfl rfl ?_
    refine r_X9_append (pc2 := 59) w dX9_takeNumber_56 rfl rfl rfl hp6 (by omega) (fun _ => ?_) (fun h => absurd hp7 h)
    refine s_iload_n (pc2 := 60) w dX9_takeNumber_59 rfl rfl ?_
    refine s_ireturn w dX9_takeNumber_60 rfl rfl ?_
    rw [tk_D hp4 hp5] at q0
    exact q0
  have key : ∀ (k n v : Nat), n + k = t → v ≤ 1000000 → rn tD B (t - n) n = te B t a → fC B (te B t a - n) n v = vC B t a → V 5 [some (.ref 98), some (.ref 95), some (.int (nI a)), some (.int (nI n)), some (.int (nI v))] [] 202 gk_fT x y 0 := by
    intro k
    induction k with
    | zero =>
      intro n v hn hv he hf
      refine s_iload_n (pc2 := 6) w dX9_takeNumber_5 rfl rfl ?_
      refine s_aload_n (pc2 := 7) w dX9_takeNumber_6 rfl rfl ?_
      refine m_getI (pc2 := 10) (ci := 7) (k := 1) w dX9_takeNumber_7 rfl rfl rfl rfl rfl ?_
      rw [hp1]
      refine s_ic_ge (pc2 := 13) (tgt := 51) w dX9_takeNumber_10 rfl (by decide) (fun _ => ?_) (fun h0 => absurd (by rw [nI_ge2 (by omega) (by omega)]; omega) h0)
      rw [show t - n = 0 from by omega] at he
      have he : n = te B t a := he
      rw [← he, Nat.sub_self] at hf
      have hf : v = vC B t a := hf
      rw [he, hf]
      exact fin
    | succ k ih =>
      intro n v hn hv he hf
      refine s_iload_n (pc2 := 6) w dX9_takeNumber_5 rfl rfl ?_
      refine s_aload_n (pc2 := 7) w dX9_takeNumber_6 rfl rfl ?_
      refine m_getI (pc2 := 10) (ci := 7) (k := 1) w dX9_takeNumber_7 rfl rfl rfl rfl rfl ?_
      rw [hp1]
      refine s_ic_ge (pc2 := 13) (tgt := 51) w dX9_takeNumber_10 rfl (by decide) (fun h0 => absurd h0 (by rw [nI_ge2 (by omega) (by omega)]; omega)) (fun _ => ?_)
      refine s_aload_n (pc2 := 14) w dX9_takeNumber_13 rfl rfl ?_
      refine s_iload_n (pc2 := 15) w dX9_takeNumber_14 rfl rfl ?_
      refine r_X8_byteAt (pc2 := 18) w dX9_takeNumber_15 rfl rfl rfl rfl hp1 hp2 (by omega) ?_
      rw [c_in hp3]
      refine r_X9_isDigit (pc2 := 21) w dX9_takeNumber_18 rfl rfl rfl ?_
      refine s_if_eq (pc2 := 24) (tgt := 51) w dX9_takeNumber_21 rfl (by decide) (fun c21 => ?_) (fun c21 => ?_)
      · rw [rn_no ((tD_0 _).mp c21)] at he
        rw [← he, Nat.sub_self] at hf
        have hf : v = vC B t a := hf
        rw [he, hf]
        exact fin
      · have c21 : tD (B n) = true := Decidable.byContradiction (fun h => c21 ((tD_0 _).mpr h))
        have hd := tD_dg c21
        refine s_iload (pc2 := 26) w dX9_takeNumber_24 rfl rfl ?_
        refine s_bipush (pc2 := 28) (v := 10) w dX9_takeNumber_26 rfl rfl ?_
        refine s_imul (pc2 := 29) w dX9_takeNumber_28 rfl ?_
        refine s_aload_n (pc2 := 30) w dX9_takeNumber_29 rfl rfl ?_
        refine s_iload_n (pc2 := 31) w dX9_takeNumber_30 rfl rfl ?_
        refine r_X8_byteAt (pc2 := 34) w dX9_takeNumber_31 rfl rfl rfl rfl hp1 hp2 (by omega) ?_
        rw [c_in hp3]
        refine s_iadd (pc2 := 35) w dX9_takeNumber_34 rfl ?_
        refine s_bipush (pc2 := 37) (v := 48) w dX9_takeNumber_35 rfl rfl ?_
        refine s_isub (pc2 := 38) w dX9_takeNumber_37 rfl ?_
        refine s_ldc (pc2 := 40) (v := 1000000) w dX9_takeNumber_38 rfl rfl ?_
        refine s_min (pc2 := 43) w dX9_takeNumber_40 rfl rfl rfl ?_
        rw [vl_st2 hv hd.1 hd.2]
        refine s_istore (pc2 := 45) w dX9_takeNumber_43 rfl rfl ?_
        dsimp only [gk_s1, gk_s2, gk_cl]
        refine s_iinc (pc2 := 48) w dX9_takeNumber_45 rfl rfl rfl rfl ?_
        dsimp only [gk_s1, gk_s2, gk_cl]
        rw [nI_s]
        refine s_goto (tgt := 5) w dX9_takeNumber_48 (by decide) ?_
        rw [rn_st c21 (by omega)] at he
        have h9 := rn_ge (p := tD) (c := B) (t - (n + 1)) (n + 1)
        rw [fC_st (by omega)] at hf
        exact ih (n + 1) _ (by omega) (Nat.min_le_right _ _) he hf
  exact key (t - a) a 0 (by omega) (by omega) (te_D (by omega) (tD_L hp5) hp5).symm (vC_D hp4 hp5).symm
theorem lk_X9_takeNumber {l : Launch} (hl : l.stackTraces = false) : ∀ q ∈ L_X9_takeNumber, (q.2.1 < 5 → gk_Lk l RX9 gk_W1 1 q.1 q.2.1 q.2.2.1 q.2.2.2.1 q.2.2.2.2.1 q.2.2.2.2.2) := (List.forall_mem_cons.mpr ⟨(fun _ => ⟨yX8_byteAt, cX8_byteAt, 2, (some .int), 0, _, M_X8_byteAt hl, ⟨by decide, by decide⟩, ⟨by decide, by decide, by decide +kernel⟩, ⟨(gk_wm 511 (by decide +kernel)), (gk_wm 96 (by decide +kernel))⟩, Or.inr (Or.inr (Or.inr (Or.inl ⟨rfl, rfl, (gk_wm 509 (by decide +kernel)), (gk_wm 510 (by decide +kernel)), gk_wm 508 (by decide +kernel), by decide, rfl⟩)))⟩), (List.forall_mem_cons.mpr ⟨(fun _ => ⟨yX9_isDigit, cX9_isDigit, 1, (some .boolean), 0, _, M_X9_isDigit hl, ⟨by decide, by decide⟩, ⟨by decide, by decide, by decide +kernel⟩, ⟨(gk_wm 588 (by decide +kernel)), (gk_wm 98 (by decide +kernel))⟩, Or.inl ⟨rfl, rfl, (gk_wm 587 (by decide +kernel)), gk_wm 586 (by decide +kernel)⟩⟩), (List.forall_mem_cons.mpr ⟨(fun _ => ⟨yX9_append, cX9_append, 4, none, 0, _, M_X9_append hl, ⟨by decide, by decide⟩, ⟨by decide, by decide, by decide +kernel⟩, ⟨(gk_wm 585 (by decide +kernel)), (gk_wm 98 (by decide +kernel))⟩, Or.inr (Or.inr (Or.inr (Or.inl ⟨rfl, rfl, (gk_wm 584 (by decide +kernel)), (gk_wm 5 (by decide +kernel)), gk_wm 582 (by decide +kernel), by decide, rfl⟩)))⟩), (List.forall_mem_cons.mpr ⟨(fun h => absurd h (by decide)), (fun _ h => absurd h List.not_mem_nil)⟩)⟩)⟩)⟩)
theorem sp_X9_takeNumber : ∀ q ∈ L_X9_takeNumber, gk_Sq RX9 gk_W1 1 q := (List.forall_mem_cons.mpr ⟨⟨fun h => absurd h (by decide), fun h => absurd h (by decide), fun h => absurd h (by decide), fun h => absurd h (by decide), fun h => absurd h (by decide), fun h => absurd h (by decide)⟩, (List.forall_mem_cons.mpr ⟨⟨fun h => absurd h (by decide), fun h => absurd h (by decide), fun h => absurd h (by decide), fun h => absurd h (by decide), fun h => absurd h (by decide), fun h => absurd h (by decide)⟩, (List.forall_mem_cons.mpr ⟨⟨fun h => absurd h (by decide), fun h => absurd h (by decide), fun h => absurd h (by decide), fun h => absurd h (by decide), fun h => absurd h (by decide), fun h => absurd h (by decide)⟩, (List.forall_mem_cons.mpr ⟨⟨fun h => absurd h (by decide), fun _ => ⟨by decide, gk_wm 594 (by decide +kernel), (gk_wm 595 (by decide +kernel)), (gk_wm 107 (by decide +kernel)), gk_wm 596 (by decide +kernel)⟩, fun h => absurd h (by decide), fun h => absurd h (by decide), fun h => absurd h (by decide), fun h => absurd h (by decide)⟩, (fun _ h => absurd h List.not_mem_nil)⟩)⟩)⟩)⟩)
theorem M_X9_takeNumber {l : Launch} (hl : l.stackTraces = false) : gk_Mt l yX9_takeNumber (.code yX9_takeNumber cX9_takeNumber 5 (some .int) :: gk_W1) 1 0 S_X9_takeNumber := gk_meth hl gk_cw_ok (by decide +kernel) rfl m_X9_takeNumber pX9_ok (gk_Sp_of sp_X9_takeNumber) pX9_st (fun ci m S h => absurd h (by intro h; cases h)) (xf_X9 1) (fun idx kd ci mm cost S2 h h5 => lk_X9_takeNumber hl _ (gk_lk_mem h) h5)

def S_X9_takeSign : gk_S := fun as n fl x y K => ∃ (v : Int32) (s_ : Int32) (a : Nat) (t : Nat) (B : Nat → Int32) (i : Nat), as = [.ref 98, .int v, .int s_] ∧ (n = 202 ∧ fl = gk_fT) ∧ (v = B a) ∧ (s_ = nI a) ∧ (a < t) ∧ (¬ tL (B a) = true) ∧ (¬ tD (B a) = true) ∧ (x 98 3 = nI i) ∧ (i < 501) ∧ (tW (B a) = true → K (.inl none) n fl x y) ∧ (¬ tW (B a) = true → K (.inl none) n fl (apX x i (nI (tk B t a)) (nI a) (nI (vC B t a))) y)
theorem r_X9_takeSign (w : gk_W c P cs (fun _ _ => none) rt uf sc K V) {idx : Nat} {v : Int32} {s_ : Int32} {a : Nat} {t : Nat} {B : Nat → Int32} {i : Nat} (hd : decode c pc = .ok (.invokevirtual idx, 3)) (hp : pc + 3 = pc2) (hc : cs idx = some (1, 8, 3, 0, S_X9_takeSign)) (h8 : Nat.ble (r.map Value.category).sum 8 = true) (hp0 : v = B a) (hp1 : s_ = nI a) (hp2 : a < t) (hp3 : ¬ tL (B a) = true) (hp4 : ¬ tD (B a) = true) (hp5 : x 98 3 = nI i) (hp6 : i < 501) (kk0 : tW (B a) = true → V pc2 L r 202 gk_fT x y u) (kk1 : ¬ tW (B a) = true → V pc2 L r 202 gk_fT (apX x i (nI (tk B t a)) (nI a) (nI (vC B t a))) y u) : V pc L (.int s_ :: .int v :: .ref 98 :: r) 202 gk_fT x y u :=
  g_callv w hd hp hc (as := [.ref 98, .int v, .int s_]) rfl h8 rfl rfl rfl (Or.inr (Or.inl ⟨Or.inl rfl, _, _, rfl, (gk_kd_j rfl rfl), rfl⟩)) (Or.inl rfl) ⟨v, s_, a, t, B, i, rfl, ⟨rfl, rfl⟩, hp0, hp1, hp2, hp3, hp4, hp5, hp6, kk0, kk1⟩
def L_X9_takeSign : List (Nat × gk_M0) := [(56, (1, 8, 4, 0, S_X9_append))]
def cs_X9_takeSign : Nat → Option gk_M0 := gk_lk L_X9_takeSign
theorem m_X9_takeSign : ∀ (as : List Value) (n : Nat) (fl : gk_F) (x : gk_X) (y : gk_Y) (K : gk_K), S_X9_takeSign as n fl x y K → (gk_L0 as).length ≤ 3 ∧ ∀ V : gk_V, gk_W cX9_takeSign pX9 cs_X9_takeSign (fun _ _ => none) none 0 none K V → V 0 (gk_en as 3) [] n fl x y 0 := by
  intro as n fl x y K hS
  obtain ⟨v, s_, a, t, B, i, rfl, ⟨rfl, rfl⟩, hp0, hp1, hp2, hp3, hp4, hp5, hp6, q0, q1⟩ := hS
  refine ⟨Nat.le_of_ble_eq_true rfl, fun V w => ?_⟩
  show V 0 [some (.ref 98), some (.int v), some (.int s_)] [] 202 gk_fT x y 0
  subst hp0 hp1
  refine s_iload_n (pc2 := 1) w dX9_takeSign_0 rfl rfl ?_
  refine s_bipush (pc2 := 3) (v := 32) w dX9_takeSign_1 rfl rfl ?_
  refine s_ic_eq (pc2 := 6) (tgt := 12) w dX9_takeSign_3 rfl (by decide) (fun c3 => ?_) (fun c3 => ?_)
  · refine s_return w dX9_takeSign_12 rfl ?_
    exact q0 (decide_eq_true (Or.inl c3))
  · refine s_iload_n (pc2 := 7) w dX9_takeSign_6 rfl rfl ?_
    refine s_bipush (pc2 := 9) (v := 10) w dX9_takeSign_7 rfl rfl ?_
    refine s_ic_ne (pc2 := 12) (tgt := 13) w dX9_takeSign_9 rfl (by decide) (fun c9 => ?_) (fun c9 => ?_)
    · refine s_aload_n (pc2 := 14) w dX9_takeSign_13 rfl rfl ?_
      refine s_iload_n (pc2 := 15) w dX9_takeSign_14 rfl rfl ?_
      refine s_bipush (pc2 := 17) (v := 59) w dX9_takeSign_15 rfl rfl ?_
      refine s_ic_ne (pc2 := 20) (tgt := 24) w dX9_takeSign_17 rfl (by decide) (fun c17 => ?_) (fun c17 => ?_)
      · refine s_iload_n (pc2 := 25) w dX9_takeSign_24 rfl rfl ?_
        refine s_bipush (pc2 := 27) (v := 45) w dX9_takeSign_25 rfl rfl ?_
        refine s_ic_ne (pc2 := 30) (tgt := 34) w dX9_takeSign_27 rfl (by decide) (fun c27 => ?_) (fun c27 => ?_)
        · refine s_iconst (pc2 := 35) (v := 1) w dX9_takeSign_34 rfl rfl ?_
          refine s_iload_n (pc2 := 36) w dX9_takeSign_35 rfl rfl ?_
          refine s_iconst (pc2 := 37) (v := 0) w dX9_takeSign_36 rfl rfl ?_
          refine r_X9_append (pc2 := 40) w dX9_takeSign_37 rfl rfl rfl hp5 (by omega) (fun _ => ?_) (fun h => absurd hp6 h)
          refine s_return w dX9_takeSign_40 rfl ?_
          have h9 := q1 (fun h => by
            have h := of_decide_eq_true h
            rcases h with h | h
            · exact c3 h
            · exact c9 h)
          rw [vC_S hp4, tk_S hp2 hp3 hp4, if_neg c17, if_neg c27] at h9
          exact h9
        · refine s_iconst (pc2 := 31) (v := 3) w dX9_takeSign_30 rfl rfl ?_
          refine s_goto (tgt := 35) w dX9_takeSign_31 (by decide) ?_
          refine s_iload_n (pc2 := 36) w dX9_takeSign_35 rfl rfl ?_
          refine s_iconst (pc2 := 37) (v := 0) w dX9_takeSign_36 rfl rfl ?_
          refine r_X9_append (pc2 := 40) w dX9_takeSign_37 rfl rfl rfl hp5 (by omega) (fun _ => ?_) (fun h => absurd hp6 h)
          refine s_return w dX9_takeSign_40 rfl ?_
          have h9 := q1 (fun h => by
            have h := of_decide_eq_true h
            rcases h with h | h
            · exact c3 h
            · exact c9 h)
          rw [vC_S hp4, tk_S hp2 hp3 hp4, if_neg c17, if_pos c27] at h9
          exact h9
      · refine s_iconst (pc2 := 21) (v := 2) w dX9_takeSign_20 rfl rfl ?_
        refine s_goto (tgt := 35) w dX9_takeSign_21 (by decide) ?_
        refine s_iload_n (pc2 := 36) w dX9_takeSign_35 rfl rfl ?_
        refine s_iconst (pc2 := 37) (v := 0) w dX9_takeSign_36 rfl rfl ?_
        refine r_X9_append (pc2 := 40) w dX9_takeSign_37 rfl rfl rfl hp5 (by omega) (fun _ => ?_) (fun h => absurd hp6 h)
        refine s_return w dX9_takeSign_40 rfl ?_
        have h9 := q1 (fun h => by
          have h := of_decide_eq_true h
          rcases h with h | h
          · exact c3 h
          · exact c9 h)
        rw [vC_S hp4, tk_S hp2 hp3 hp4, if_pos c17] at h9
        exact h9
    · refine s_return w dX9_takeSign_12 rfl ?_
      exact q0 (decide_eq_true (Or.inr c9))
theorem lk_X9_takeSign {l : Launch} (hl : l.stackTraces = false) : ∀ q ∈ L_X9_takeSign, (q.2.1 < 5 → gk_Lk l RX9 gk_W1 1 q.1 q.2.1 q.2.2.1 q.2.2.2.1 q.2.2.2.2.1 q.2.2.2.2.2) := (List.forall_mem_cons.mpr ⟨(fun _ => ⟨yX9_append, cX9_append, 4, none, 0, _, M_X9_append hl, ⟨by decide, by decide⟩, ⟨by decide, by decide, by decide +kernel⟩, ⟨(gk_wm 585 (by decide +kernel)), (gk_wm 98 (by decide +kernel))⟩, Or.inr (Or.inr (Or.inr (Or.inl ⟨rfl, rfl, (gk_wm 584 (by decide +kernel)), (gk_wm 5 (by decide +kernel)), gk_wm 582 (by decide +kernel), by decide, rfl⟩)))⟩), (fun _ h => absurd h List.not_mem_nil)⟩)
theorem sp_X9_takeSign : ∀ q ∈ L_X9_takeSign, gk_Sq RX9 gk_W1 1 q := (List.forall_mem_cons.mpr ⟨⟨fun h => absurd h (by decide), fun h => absurd h (by decide), fun h => absurd h (by decide), fun h => absurd h (by decide), fun h => absurd h (by decide), fun h => absurd h (by decide)⟩, (fun _ h => absurd h List.not_mem_nil)⟩)
theorem M_X9_takeSign {l : Launch} (hl : l.stackTraces = false) : gk_Mt l yX9_takeSign (.code yX9_takeSign cX9_takeSign 3 none :: gk_W1) 1 0 S_X9_takeSign := gk_meth hl gk_cw_ok (by decide +kernel) rfl m_X9_takeSign pX9_ok (gk_Sp_of sp_X9_takeSign) pX9_st (fun ci m S h => absurd h (by intro h; cases h)) (xf_X9 1) (fun idx kd ci mm cost S2 h h5 => lk_X9_takeSign hl _ (gk_lk_mem h) h5)

end GKV

/-! THE TEXT, 1: a byte of it -/
section GKV
variable {c : ByteArray} {P : gk_C} {cs : Nat → Option gk_M0} {rt : Option FieldType} {uf : Nat} {sc : Option Nat} {K : gk_K} {V : gk_V}
variable {L : List (Option Value)} {r : List Value} {n : Nat} {fl : gk_F} {x : gk_X} {y : gk_Y} {u pc pc2 : Nat}
/-- a byte of the text, -1 behind its end -/
def tbA (B : Nat → Int32) (t a : Nat) : Int32 := if a < t then B a else -1
theorem ta_ge {a t : Nat} (ha : a < 100000) (ht : t ≤ 500) : nI t ≤ nI a ↔ ¬ a < t := by
  rw [gI_nI, gI_nI, gI_le ⟨by omega, by omega⟩ ⟨by omega, by omega⟩]
  omega
def S_X11_byteAt : gk_S := fun as n fl x y K => ∃ (v : Int32) (a : Nat) (t : Nat), as = [.ref 189, .int v] ∧ (n = 202 ∧ fl = gk_fT) ∧ (v = nI a) ∧ (x 189 11 = nI t) ∧ (t ≤ 500) ∧ (a < 100000) ∧ (K (.inl (some (.int (tbA (x 199) t a)))) n fl x y)
theorem r_X11_byteAt (w : gk_W c P cs (fun _ _ => none) rt uf sc K V) {idx : Nat} {v : Int32} {a : Nat} {t : Nat} (hd : decode c pc = .ok (.invokevirtual idx, 3)) (hp : pc + 3 = pc2) (hc : cs idx = some (1, 10, 2, 0, S_X11_byteAt)) (h8 : Nat.ble (r.map Value.category).sum 8 = true) (hp0 : v = nI a) (hp1 : x 189 11 = nI t) (hp2 : t ≤ 500) (hp3 : a < 100000) (kk0 : V pc2 L ((.int (tbA (x 199) t a)) :: r) 202 gk_fT x y u) : V pc L (.int v :: .ref 189 :: r) 202 gk_fT x y u :=
  g_callv w hd hp hc (as := [.ref 189, .int v]) rfl h8 rfl rfl rfl (Or.inr (Or.inl ⟨Or.inl rfl, _, _, rfl, (gk_kd_j rfl rfl), rfl⟩)) (Or.inl rfl) ⟨v, a, t, rfl, ⟨rfl, rfl⟩, hp0, hp1, hp2, hp3, kk0⟩
def L_X11_byteAt : List (Nat × gk_M0) := []
def cs_X11_byteAt : Nat → Option gk_M0 := gk_lk L_X11_byteAt
theorem m_X11_byteAt : ∀ (as : List Value) (n : Nat) (fl : gk_F) (x : gk_X) (y : gk_Y) (K : gk_K), S_X11_byteAt as n fl x y K → (gk_L0 as).length ≤ 2 ∧ ∀ V : gk_V, gk_W cX11_byteAt pX11 cs_X11_byteAt (fun _ _ => none) (some .int) 0 none K V → V 0 (gk_en as 2) [] n fl x y 0 := by
  intro as n fl x y K hS
  obtain ⟨v, a, t, rfl, ⟨rfl, rfl⟩, hp0, hp1, hp2, hp3, q0⟩ := hS
  refine ⟨Nat.le_of_ble_eq_true rfl, fun V w => ?_⟩
  show V 0 [some (.ref 189), some (.int v)] [] 202 gk_fT x y 0
  subst hp0
  refine s_iload_n (pc2 := 1) w dX11_byteAt_0 rfl rfl ?_
  refine s_aload_n (pc2 := 2) w dX11_byteAt_1 rfl rfl ?_
  refine m_getI (pc2 := 5) (ci := 10) (k := 11) w dX11_byteAt_2 rfl rfl rfl rfl rfl ?_
  rw [hp1]
  refine s_ic_ge (pc2 := 8) (tgt := 17) w dX11_byteAt_5 rfl (by decide) (fun c5 => ?_) (fun c5 => ?_)
  · rw [ta_ge hp3 hp2] at c5
    refine s_iconst (pc2 := 18) (v := (-1)) w dX11_byteAt_17 rfl rfl ?_
    refine s_ireturn w dX11_byteAt_18 rfl rfl ?_
    rw [tbA, if_neg c5] at q0
    exact q0
  · rw [ta_ge hp3 hp2, Classical.not_not] at c5
    refine s_aload_n (pc2 := 9) w dX11_byteAt_8 rfl rfl ?_
    refine m_getR (pc2 := 12) (ci := 10) (k := 10) (j2 := 199) w dX11_byteAt_9 rfl rfl rfl rfl rfl rfl ?_
    refine s_iload_n (pc2 := 13) w dX11_byteAt_12 rfl rfl ?_
    refine m_ialoadN (pc2 := 14) (t := a) (N := 500) w dX11_byteAt_13 rfl rfl rfl rfl (by omega) rfl ?_
    refine s_goto (tgt := 18) w dX11_byteAt_14 (by decide) ?_
    refine s_ireturn w dX11_byteAt_18 rfl rfl ?_
    rw [tbA, if_pos c5] at q0
    exact q0
theorem lk_X11_byteAt {l : Launch} (hl : l.stackTraces = false) : ∀ q ∈ L_X11_byteAt, (q.2.1 < 5 → gk_Lk l RX11 gk_W1 0 q.1 q.2.1 q.2.2.1 q.2.2.2.1 q.2.2.2.2.1 q.2.2.2.2.2) := (fun _ h => absurd h List.not_mem_nil)
theorem sp_X11_byteAt : ∀ q ∈ L_X11_byteAt, gk_Sq RX11 gk_W1 0 q := (fun _ h => absurd h List.not_mem_nil)
theorem M_X11_byteAt {l : Launch} (hl : l.stackTraces = false) : gk_Mt l yX11_byteAt (.code yX11_byteAt cX11_byteAt 2 (some .int) :: gk_W1) 0 0 S_X11_byteAt := gk_meth hl gk_cw_ok (by decide +kernel) rfl m_X11_byteAt pX11_ok (gk_Sp_of sp_X11_byteAt) pX11_st (fun ci m S h => absurd h (by intro h; cases h)) (xf_X11 0) (fun idx kd ci mm cost S2 h h5 => lk_X11_byteAt hl _ (gk_lk_mem h) h5)

def S_X8_byteAt : gk_S := fun as n fl x y K => ∃ (v : Int32) (a : Nat) (t : Nat), as = [.ref 95, .int v] ∧ (n = 202 ∧ fl = gk_fT) ∧ (v = nI a) ∧ (x 95 1 = nI t) ∧ (t ≤ 500) ∧ (a < 100000) ∧ (K (.inl (some (.int (tbA (x 96) t a)))) n fl x y)
theorem r_X8_byteAt (w : gk_W c P cs (fun _ _ => none) rt uf sc K V) {idx : Nat} {v : Int32} {a : Nat} {t : Nat} (hd : decode c pc = .ok (.invokevirtual idx, 3)) (hp : pc + 3 = pc2) (hc : cs idx = some (1, 7, 2, 0, S_X8_byteAt)) (h8 : Nat.ble (r.map Value.category).sum 8 = true) (hp0 : v = nI a) (hp1 : x 95 1 = nI t) (hp2 : t ≤ 500) (hp3 : a < 100000) (kk0 : V pc2 L ((.int (tbA (x 96) t a)) :: r) 202 gk_fT x y u) : V pc L (.int v :: .ref 95 :: r) 202 gk_fT x y u :=
  g_callv w hd hp hc (as := [.ref 95, .int v]) rfl h8 rfl rfl rfl (Or.inr (Or.inl ⟨Or.inl rfl, _, _, rfl, (gk_kd_j rfl rfl), rfl⟩)) (Or.inl rfl) ⟨v, a, t, rfl, ⟨rfl, rfl⟩, hp0, hp1, hp2, hp3, kk0⟩
def L_X8_byteAt : List (Nat × gk_M0) := []
def cs_X8_byteAt : Nat → Option gk_M0 := gk_lk L_X8_byteAt
theorem m_X8_byteAt : ∀ (as : List Value) (n : Nat) (fl : gk_F) (x : gk_X) (y : gk_Y) (K : gk_K), S_X8_byteAt as n fl x y K → (gk_L0 as).length ≤ 2 ∧ ∀ V : gk_V, gk_W cX8_byteAt pX8 cs_X8_byteAt (fun _ _ => none) (some .int) 0 none K V → V 0 (gk_en as 2) [] n fl x y 0 := by
  intro as n fl x y K hS
  obtain ⟨v, a, t, rfl, ⟨rfl, rfl⟩, hp0, hp1, hp2, hp3, q0⟩ := hS
  refine ⟨Nat.le_of_ble_eq_true rfl, fun V w => ?_⟩
  show V 0 [some (.ref 95), some (.int v)] [] 202 gk_fT x y 0
  subst hp0
  refine s_iload_n (pc2 := 1) w dX8_byteAt_0 rfl rfl ?_
  refine s_if_lt (pc2 := 4) (tgt := 21) w dX8_byteAt_1 rfl (by decide) (fun h0 => absurd h0 (by rw [gI_nI, show (0 : Int32) = gI 0 from rfl, gI_lt ⟨by omega, by omega⟩ ⟨by omega, by omega⟩]; omega)) (fun _ => ?_)
  refine s_iload_n (pc2 := 5) w dX8_byteAt_4 rfl rfl ?_
  refine s_aload_n (pc2 := 6) w dX8_byteAt_5 rfl rfl ?_
  refine m_getI (pc2 := 9) (ci := 7) (k := 1) w dX8_byteAt_6 rfl rfl rfl rfl rfl ?_
  rw [hp1]
  refine s_ic_ge (pc2 := 12) (tgt := 21) w dX8_byteAt_9 rfl (by decide) (fun c9 => ?_) (fun c9 => ?_)
  · rw [ta_ge hp3 hp2] at c9
    refine s_iconst (pc2 := 22) (v := (-1)) w dX8_byteAt_21 rfl rfl ?_
    refine s_goto (tgt := 31) w dX8_byteAt_22 (by decide) ?_
    refine s_ireturn w dX8_byteAt_31 rfl rfl ?_
    rw [tbA, if_neg c9] at q0
    exact q0
  · rw [ta_ge hp3 hp2, Classical.not_not] at c9
    refine s_iload_n (pc2 := 13) w dX8_byteAt_12 rfl rfl ?_
    refine s_aload_n (pc2 := 14) w dX8_byteAt_13 rfl rfl ?_
    refine m_getR (pc2 := 17) (ci := 7) (k := 0) (j2 := 96) w dX8_byteAt_14 rfl rfl rfl rfl rfl rfl ?_
    refine m_alen (pc2 := 18) (kd := 20) (N := (500 : Int32)) w dX8_byteAt_17 rfl rfl rfl rfl rfl ?_
    refine s_ic_lt (pc2 := 21) (tgt := 25) w dX8_byteAt_18 rfl (by decide) (fun _ => ?_) (fun h0 => absurd (by rw [gI_nI, show (500 : Int32) = gI 500 from rfl, gI_lt ⟨by omega, by omega⟩ ⟨by omega, by omega⟩]; omega) h0)
    refine s_aload_n (pc2 := 26) w dX8_byteAt_25 rfl rfl ?_
    refine m_getR (pc2 := 29) (ci := 7) (k := 0) (j2 := 96) w dX8_byteAt_26 rfl rfl rfl rfl rfl rfl ?_
    refine s_iload_n (pc2 := 30) w dX8_byteAt_29 rfl rfl ?_
    refine m_ialoadN (pc2 := 31) (t := a) (N := 500) w dX8_byteAt_30 rfl rfl rfl rfl (by omega) rfl ?_
    refine s_ireturn w dX8_byteAt_31 rfl rfl ?_
    rw [tbA, if_pos c9] at q0
    exact q0
theorem lk_X8_byteAt {l : Launch} (hl : l.stackTraces = false) : ∀ q ∈ L_X8_byteAt, (q.2.1 < 5 → gk_Lk l RX8 gk_W1 0 q.1 q.2.1 q.2.2.1 q.2.2.2.1 q.2.2.2.2.1 q.2.2.2.2.2) := (fun _ h => absurd h List.not_mem_nil)
theorem sp_X8_byteAt : ∀ q ∈ L_X8_byteAt, gk_Sq RX8 gk_W1 0 q := (fun _ h => absurd h List.not_mem_nil)
theorem M_X8_byteAt {l : Launch} (hl : l.stackTraces = false) : gk_Mt l yX8_byteAt (.code yX8_byteAt cX8_byteAt 2 (some .int) :: gk_W1) 0 0 S_X8_byteAt := gk_meth hl gk_cw_ok (by decide +kernel) rfl m_X8_byteAt pX8_ok (gk_Sp_of sp_X8_byteAt) pX8_st (fun ci m S h => absurd h (by intro h; cases h)) (xf_X8 0) (fun idx kd ci mm cost S2 h h5 => lk_X8_byteAt hl _ (gk_lk_mem h) h5)

end GKV

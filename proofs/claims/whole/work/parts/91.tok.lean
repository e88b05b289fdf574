/-! THE TEXT, 3: the list of tokens -/
section GKV
variable {c : ByteArray} {P : gk_C} {cs : Nat → Option gk_M0} {rt : Option FieldType} {uf : Nat} {sc : Option Nat} {K : gk_K} {V : gk_V}
variable {L : List (Option Value)} {r : List Value} {n : Nat} {fl : gk_F} {x : gk_X} {y : gk_Y} {u pc pc2 : Nat}
theorem am_lt {c : Nat} (h : c ≤ 501) : nI c < (501 : Int32) ↔ c < 501 := by
  rw [gI_nI, show (501 : Int32) = gI 501 from rfl, gI_lt ⟨by omega, by omega⟩ ⟨by omega, by omega⟩]
  omega
theorem am_n (x : gk_X) (j k : Nat) (v : Int32) (h : j ≠ 98) : gk_up x j k v 98 3 = x 98 3 := gk_up_ne (by omega)
def S_X9_append : gk_S := fun as n fl x y K => ∃ (k_ : Int32) (b : Int32) (e : Int32) (t : Nat), as = [.ref 98, .int k_, .int b, .int e] ∧ (n = 202 ∧ fl = gk_fT) ∧ (x 98 3 = nI t) ∧ (t ≤ 501) ∧ (t < 501 → K (.inl none) n fl (gk_up (gk_up (gk_up (gk_up x 99 t k_) 100 t b) 101 t e) 98 3 (nI (t + 1))) y) ∧ (¬ t < 501 → K (.inl none) n fl x y)
theorem r_X9_append (w : gk_W c P cs (fun _ _ => none) rt uf sc K V) {idx : Nat} {k_ : Int32} {b : Int32} {e : Int32} {t : Nat} (hd : decode c pc = .ok (.invokevirtual idx, 3)) (hp : pc + 3 = pc2) (hc : cs idx = some (1, 8, 4, 0, S_X9_append)) (h8 : Nat.ble (r.map Value.category).sum 8 = true) (hp0 : x 98 3 = nI t) (hp1 : t ≤ 501) (kk0 : t < 501 → V pc2 L r 202 gk_fT (gk_up (gk_up (gk_up (gk_up x 99 t k_) 100 t b) 101 t e) 98 3 (nI (t + 1))) y u) (kk1 : ¬ t < 501 → V pc2 L r 202 gk_fT x y u) : V pc L (.int e :: .int b :: .int k_ :: .ref 98 :: r) 202 gk_fT x y u :=
  g_callv w hd hp hc (as := [.ref 98, .int k_, .int b, .int e]) rfl h8 rfl rfl rfl (Or.inr (Or.inl ⟨Or.inl rfl, _, _, rfl, (gk_kd_j rfl rfl), rfl⟩)) (Or.inl rfl) ⟨k_, b, e, t, rfl, ⟨rfl, rfl⟩, hp0, hp1, kk0, kk1⟩
def L_X9_append : List (Nat × gk_M0) := []
def cs_X9_append : Nat → Option gk_M0 := gk_lk L_X9_append
theorem m_X9_append : ∀ (as : List Value) (n : Nat) (fl : gk_F) (x : gk_X) (y : gk_Y) (K : gk_K), S_X9_append as n fl x y K → (gk_L0 as).length ≤ 4 ∧ ∀ V : gk_V, gk_W cX9_append pX9 cs_X9_append (fun _ _ => none) none 0 none K V → V 0 (gk_en as 4) [] n fl x y 0 := by
  intro as n fl x y K hS
  obtain ⟨k_, b, e, t, rfl, ⟨rfl, rfl⟩, hp0, hp1, q0, q1⟩ := hS
  refine ⟨Nat.le_of_ble_eq_true rfl, fun V w => ?_⟩
  show V 0 [some (.ref 98), some (.int k_), some (.int b), some (.int e)] [] 202 gk_fT x y 0
  refine s_aload_n (pc2 := 1) w dX9_append_0 rfl rfl ?_
  refine m_getI (pc2 := 4) (ci := 8) (k := 3) w dX9_append_1 rfl rfl rfl rfl rfl ?_
  rw [hp0]
  refine s_if_lt (pc2 := 7) (tgt := 19) w dX9_append_4 rfl (by decide) (fun h0 => absurd h0 (by rw [gI_nI, show (0 : Int32) = gI 0 from rfl, gI_lt ⟨by omega, by omega⟩ ⟨by omega, by omega⟩]; omega)) (fun _ => ?_)
  refine s_aload_n (pc2 := 8) w dX9_append_7 rfl rfl ?_
  refine m_getI (pc2 := 11) (ci := 8) (k := 3) w dX9_append_8 rfl rfl rfl rfl rfl ?_
  rw [hp0]
  refine s_aload_n (pc2 := 12) w dX9_append_11 rfl rfl ?_
  refine m_getR (pc2 := 15) (ci := 8) (k := 0) (j2 := 99) w dX9_append_12 rfl rfl rfl rfl rfl rfl ?_
  refine m_alen (pc2 := 16) (kd := 20) (N := (501 : Int32)) w dX9_append_15 rfl rfl rfl rfl rfl ?_
  refine s_ic_lt (pc2 := 19) (tgt := 20) w dX9_append_16 rfl (by decide) (fun c16 => ?_) (fun c16 => ?_)
  · rw [am_lt hp1] at c16
    refine s_aload_n (pc2 := 21) w dX9_append_20 rfl rfl ?_
    refine m_getR (pc2 := 24) (ci := 8) (k := 0) (j2 := 99) w dX9_append_21 rfl rfl rfl rfl rfl rfl ?_
    refine s_aload_n (pc2 := 25) w dX9_append_24 rfl rfl ?_
    refine m_getI (pc2 := 28) (ci := 8) (k := 3) w dX9_append_25 rfl rfl rfl rfl rfl ?_
    rw [hp0]
    refine s_iload_n (pc2 := 29) w dX9_append_28 rfl rfl ?_
    refine m_iastoreN (pc2 := 30) (t := t) (N := 501) w dX9_append_29 rfl rfl rfl rfl (by omega) rfl ?_
    refine s_aload_n (pc2 := 31) w dX9_append_30 rfl rfl ?_
    refine m_getR (pc2 := 34) (ci := 8) (k := 1) (j2 := 100) w dX9_append_31 rfl rfl rfl rfl rfl rfl ?_
    refine s_aload_n (pc2 := 35) w dX9_append_34 rfl rfl ?_
    refine m_getI (pc2 := 38) (ci := 8) (k := 3) w dX9_append_35 rfl rfl rfl rfl rfl ?_
    rw [am_n _ _ _ _ (by decide), hp0]
    refine s_iload_n (pc2 := 39) w dX9_append_38 rfl rfl ?_
    refine m_iastoreN (pc2 := 40) (t := t) (N := 501) w dX9_append_39 rfl rfl rfl rfl (by omega) rfl ?_
    refine s_aload_n (pc2 := 41) w dX9_append_40 rfl rfl ?_
    refine m_getR (pc2 := 44) (ci := 8) (k := 2) (j2 := 101) w dX9_append_41 rfl rfl rfl rfl rfl rfl ?_
    refine s_aload_n (pc2 := 45) w dX9_append_44 rfl rfl ?_
    refine m_getI (pc2 := 48) (ci := 8) (k := 3) w dX9_append_45 rfl rfl rfl rfl rfl ?_
    rw [am_n _ _ _ _ (by decide), am_n _ _ _ _ (by decide), hp0]
    refine s_iload_n (pc2 := 49) w dX9_append_48 rfl rfl ?_
    refine m_iastoreN (pc2 := 50) (t := t) (N := 501) w dX9_append_49 rfl rfl rfl rfl (by omega) rfl ?_
    refine s_aload_n (pc2 := 51) w dX9_append_50 rfl rfl ?_
    refine s_dup (pc2 := 52) w dX9_append_51 rfl rfl ?_
    refine m_getI (pc2 := 55) (ci := 8) (k := 3) w dX9_append_52 rfl rfl rfl rfl rfl ?_
    rw [am_n _ _ _ _ (by decide), am_n _ _ _ _ (by decide), am_n _ _ _ _ (by decide), hp0]
    refine s_iconst (pc2 := 56) (v := 1) w dX9_append_55 rfl rfl ?_
    refine s_iadd (pc2 := 57) w dX9_append_56 rfl ?_
    rw [show nI t + 1 = nI (t + 1) from nI_ad t 1]
    refine m_putI (pc2 := 60) (ci := 8) (k := 3) w dX9_append_57 rfl rfl rfl rfl rfl (by intro h; cases h) ?_
    refine s_return w dX9_append_60 rfl ?_
    exact q0 c16
  · rw [am_lt hp1] at c16
    refine s_return w dX9_append_19 rfl ?_
    exact q1 c16
theorem lk_X9_append {l : Launch} (hl : l.stackTraces = false) : ∀ q ∈ L_X9_append, (q.2.1 < 5 → gk_Lk l RX9 gk_W1 0 q.1 q.2.1 q.2.2.1 q.2.2.2.1 q.2.2.2.2.1 q.2.2.2.2.2) := (fun _ h => absurd h List.not_mem_nil)
theorem sp_X9_append : ∀ q ∈ L_X9_append, gk_Sq RX9 gk_W1 0 q := (fun _ h => absurd h List.not_mem_nil)
theorem M_X9_append {l : Launch} (hl : l.stackTraces = false) : gk_Mt l yX9_append (.code yX9_append cX9_append 4 none :: gk_W1) 0 0 S_X9_append := gk_meth hl gk_cw_ok (by decide +kernel) rfl m_X9_append pX9_ok (gk_Sp_of sp_X9_append) pX9_st (fun ci m S h => absurd h (by intro h; cases h)) (xf_X9 0) (fun idx kd ci mm cost S2 h h5 => lk_X9_append hl _ (gk_lk_mem h) h5)

end GKV

/-! THE TEXT, 4: what a token is -/
section GKV
variable {c : ByteArray} {P : gk_C} {cs : Nat → Option gk_M0} {rt : Option FieldType} {uf : Nat} {sc : Option Nat} {K : gk_K} {V : gk_V}
variable {L : List (Option Value)} {r : List Value} {n : Nat} {fl : gk_F} {x : gk_X} {y : gk_Y} {u pc pc2 : Nat}
theorem tk_lt {a : Nat} (h : a < 100000) : nI a < (501 : Int32) ↔ a < 501 := by
  rw [gI_nI, show (501 : Int32) = gI 501 from rfl, gI_lt ⟨by omega, by omega⟩ ⟨by omega, by omega⟩]
  omega
def S_X9_kindAt : gk_S := fun as n fl x y K => ∃ (v : Int32) (a : Nat), as = [.ref 98, .int v] ∧ (n = 202 ∧ fl = gk_fT) ∧ (v = nI a) ∧ (a < 100000) ∧ (K (.inl (some (.int (if a < 501 then x 99 a else 0)))) n fl x y)
theorem r_X9_kindAt (w : gk_W c P cs (fun _ _ => none) rt uf sc K V) {idx : Nat} {v : Int32} {a : Nat} (hd : decode c pc = .ok (.invokevirtual idx, 3)) (hp : pc + 3 = pc2) (hc : cs idx = some (1, 8, 2, 0, S_X9_kindAt)) (h8 : Nat.ble (r.map Value.category).sum 8 = true) (hp0 : v = nI a) (hp1 : a < 100000) (kk0 : V pc2 L ((.int (if a < 501 then x 99 a else 0)) :: r) 202 gk_fT x y u) : V pc L (.int v :: .ref 98 :: r) 202 gk_fT x y u :=
  g_callv w hd hp hc (as := [.ref 98, .int v]) rfl h8 rfl rfl rfl (Or.inr (Or.inl ⟨Or.inl rfl, _, _, rfl, (gk_kd_j rfl rfl), rfl⟩)) (Or.inl rfl) ⟨v, a, rfl, ⟨rfl, rfl⟩, hp0, hp1, kk0⟩
def L_X9_kindAt : List (Nat × gk_M0) := []
def cs_X9_kindAt : Nat → Option gk_M0 := gk_lk L_X9_kindAt
theorem m_X9_kindAt : ∀ (as : List Value) (n : Nat) (fl : gk_F) (x : gk_X) (y : gk_Y) (K : gk_K), S_X9_kindAt as n fl x y K → (gk_L0 as).length ≤ 2 ∧ ∀ V : gk_V, gk_W cX9_kindAt pX9 cs_X9_kindAt (fun _ _ => none) (some .int) 0 none K V → V 0 (gk_en as 2) [] n fl x y 0 := by
  intro as n fl x y K hS
  obtain ⟨v, a, rfl, ⟨rfl, rfl⟩, hp0, hp1, q0⟩ := hS
  refine ⟨Nat.le_of_ble_eq_true rfl, fun V w => ?_⟩
  show V 0 [some (.ref 98), some (.int v)] [] 202 gk_fT x y 0
  subst hp0
  refine s_iload_n (pc2 := 1) w dX9_kindAt_0 rfl rfl ?_
  refine s_if_lt (pc2 := 4) (tgt := 13) w dX9_kindAt_1 rfl (by decide) (fun h0 => absurd h0 (by rw [gI_nI, show (0 : Int32) = gI 0 from rfl, gI_lt ⟨by omega, by omega⟩ ⟨by omega, by omega⟩]; omega)) (fun _ => ?_)
  refine s_iload_n (pc2 := 5) w dX9_kindAt_4 rfl rfl ?_
  refine s_aload_n (pc2 := 6) w dX9_kindAt_5 rfl rfl ?_
  refine m_getR (pc2 := 9) (ci := 8) (k := 0) (j2 := 99) w dX9_kindAt_6 rfl rfl rfl rfl rfl rfl ?_
  refine m_alen (pc2 := 10) (kd := 20) (N := (501 : Int32)) w dX9_kindAt_9 rfl rfl rfl rfl rfl ?_
  refine s_ic_lt (pc2 := 13) (tgt := 17) w dX9_kindAt_10 rfl (by decide) (fun c10 => ?_) (fun c10 => ?_)
  · rw [tk_lt hp1] at c10
    refine s_aload_n (pc2 := 18) w dX9_kindAt_17 rfl rfl ?_
    refine m_getR (pc2 := 21) (ci := 8) (k := 0) (j2 := 99) w dX9_kindAt_18 rfl rfl rfl rfl rfl rfl ?_
    refine s_iload_n (pc2 := 22) w dX9_kindAt_21 rfl rfl ?_
    refine m_ialoadN (pc2 := 23) (t := a) (N := 501) w dX9_kindAt_22 rfl rfl rfl rfl (by omega) rfl ?_
    refine s_ireturn w dX9_kindAt_23 rfl rfl ?_
    rw [if_pos c10] at q0
    exact q0
  · rw [tk_lt hp1] at c10
    refine s_iconst (pc2 := 14) (v := 0) w dX9_kindAt_13 rfl rfl ?_
    refine s_goto (tgt := 23) w dX9_kindAt_14 (by decide) ?_
    refine s_ireturn w dX9_kindAt_23 rfl rfl ?_
    rw [if_neg c10] at q0
    exact q0
theorem lk_X9_kindAt {l : Launch} (hl : l.stackTraces = false) : ∀ q ∈ L_X9_kindAt, (q.2.1 < 5 → gk_Lk l RX9 gk_W1 0 q.1 q.2.1 q.2.2.1 q.2.2.2.1 q.2.2.2.2.1 q.2.2.2.2.2) := (fun _ h => absurd h List.not_mem_nil)
theorem sp_X9_kindAt : ∀ q ∈ L_X9_kindAt, gk_Sq RX9 gk_W1 0 q := (fun _ h => absurd h List.not_mem_nil)
theorem M_X9_kindAt {l : Launch} (hl : l.stackTraces = false) : gk_Mt l yX9_kindAt (.code yX9_kindAt cX9_kindAt 2 (some .int) :: gk_W1) 0 0 S_X9_kindAt := gk_meth hl gk_cw_ok (by decide +kernel) rfl m_X9_kindAt pX9_ok (gk_Sp_of sp_X9_kindAt) pX9_st (fun ci m S h => absurd h (by intro h; cases h)) (xf_X9 0) (fun idx kd ci mm cost S2 h h5 => lk_X9_kindAt hl _ (gk_lk_mem h) h5)

end GKV

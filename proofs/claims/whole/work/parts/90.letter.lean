/-! THE TEXT, 2: letters, digits -/
section GKV
variable {c : ByteArray} {P : gk_C} {cs : Nat → Option gk_M0} {rt : Option FieldType} {uf : Nat} {sc : Option Nat} {K : gk_K} {V : gk_V}
variable {L : List (Option Value)} {r : List Value} {n : Nat} {fl : gk_F} {x : gk_X} {y : gk_Y} {u pc pc2 : Nat}
def S_X9_isLetter : gk_S := fun as n fl x y K => ∃ (v : Int32), as = [.int v] ∧ (n = 202 ∧ fl = gk_fT) ∧ (K (.inl (some (.int (if 97 ≤ v ∧ v ≤ 122 then 1 else 0)))) n fl x y)
theorem r_X9_isLetter (w : gk_W c P cs (fun _ _ => none) rt uf sc K V) {idx : Nat} {v : Int32} (hd : decode c pc = .ok (.invokestatic idx, 3)) (hp : pc + 3 = pc2) (hc : cs idx = some (0, 8, 1, 0, S_X9_isLetter)) (h8 : Nat.ble (r.map Value.category).sum 8 = true) (kk0 : V pc2 L ((.int (if 97 ≤ v ∧ v ≤ 122 then 1 else 0)) :: r) 202 gk_fT x y u) : V pc L (.int v :: r) 202 gk_fT x y u :=
  g_calls w hd hp hc (as := [.int v]) rfl h8 rfl rfl rfl (Or.inl rfl) (Or.inl rfl) ⟨v, rfl, ⟨rfl, rfl⟩, kk0⟩
def L_X9_isLetter : List (Nat × gk_M0) := []
def cs_X9_isLetter : Nat → Option gk_M0 := gk_lk L_X9_isLetter
theorem m_X9_isLetter : ∀ (as : List Value) (n : Nat) (fl : gk_F) (x : gk_X) (y : gk_Y) (K : gk_K), S_X9_isLetter as n fl x y K → (gk_L0 as).length ≤ 1 ∧ ∀ V : gk_V, gk_W cX9_isLetter pX9 cs_X9_isLetter (fun _ _ => none) (some .boolean) 0 none K V → V 0 (gk_en as 1) [] n fl x y 0 := by
  intro as n fl x y K hS
  obtain ⟨v, rfl, ⟨rfl, rfl⟩, q0⟩ := hS
  refine ⟨Nat.le_of_ble_eq_true rfl, fun V w => ?_⟩
  show V 0 [some (.int v)] [] 202 gk_fT x y 0
  refine s_iload_n (pc2 := 1) w dX9_isLetter_0 rfl rfl ?_
  refine s_bipush (pc2 := 3) (v := 97) w dX9_isLetter_1 rfl rfl ?_
  refine s_ic_lt (pc2 := 6) (tgt := 16) w dX9_isLetter_3 rfl (by decide) (fun c3 => ?_) (fun c3 => ?_)
  · refine s_iconst (pc2 := 17) (v := 0) w dX9_isLetter_16 rfl rfl ?_
    refine s_ireturn w dX9_isLetter_17 rfl (by first | rfl | decide) ?_
    rw [if_neg (fun h => by rw [Int32.lt_iff_toInt_lt] at c3; have := Int32.le_iff_toInt_le.mp h.1; omega)] at q0
    exact q0
  · refine s_iload_n (pc2 := 7) w dX9_isLetter_6 rfl rfl ?_
    refine s_bipush (pc2 := 9) (v := 122) w dX9_isLetter_7 rfl rfl ?_
    refine s_ic_gt (pc2 := 12) (tgt := 16) w dX9_isLetter_9 rfl (by decide) (fun c9 => ?_) (fun c9 => ?_)
    · refine s_iconst (pc2 := 17) (v := 0) w dX9_isLetter_16 rfl rfl ?_
      refine s_ireturn w dX9_isLetter_17 rfl (by first | rfl | decide) ?_
      rw [if_neg (fun h => by rw [Int32.lt_iff_toInt_lt] at c9; have := Int32.le_iff_toInt_le.mp h.2; omega)] at q0
      exact q0
    · refine s_iconst (pc2 := 13) (v := 1) w dX9_isLetter_12 rfl rfl ?_
      refine s_goto (tgt := 17) w dX9_isLetter_13 (by decide) ?_
      refine s_ireturn w dX9_isLetter_17 rfl (by first | rfl | decide) ?_
      rw [if_pos ⟨Int32.le_iff_toInt_le.mpr (by rw [Int32.lt_iff_toInt_lt] at c3; omega), Int32.le_iff_toInt_le.mpr (by rw [Int32.lt_iff_toInt_lt] at c9; omega)⟩] at q0
      exact q0
theorem lk_X9_isLetter {l : Launch} (hl : l.stackTraces = false) : ∀ q ∈ L_X9_isLetter, (q.2.1 < 5 → gk_Lk l RX9 gk_W1 0 q.1 q.2.1 q.2.2.1 q.2.2.2.1 q.2.2.2.2.1 q.2.2.2.2.2) := (fun _ h => absurd h List.not_mem_nil)
theorem sp_X9_isLetter : ∀ q ∈ L_X9_isLetter, gk_Sq RX9 gk_W1 0 q := (fun _ h => absurd h List.not_mem_nil)
theorem M_X9_isLetter {l : Launch} (hl : l.stackTraces = false) : gk_Mt l yX9_isLetter (.code yX9_isLetter cX9_isLetter 1 (some .boolean) :: gk_W1) 0 0 S_X9_isLetter := gk_meth hl gk_cw_ok (by decide +kernel) rfl m_X9_isLetter pX9_ok (gk_Sp_of sp_X9_isLetter) pX9_st (fun ci m S h => absurd h (by intro h; cases h)) (xf_X9 0) (fun idx kd ci mm cost S2 h h5 => lk_X9_isLetter hl _ (gk_lk_mem h) h5)

def S_X9_isDigit : gk_S := fun as n fl x y K => ∃ (v : Int32), as = [.int v] ∧ (n = 202 ∧ fl = gk_fT) ∧ (K (.inl (some (.int (if 48 ≤ v ∧ v ≤ 57 then 1 else 0)))) n fl x y)
theorem r_X9_isDigit (w : gk_W c P cs (fun _ _ => none) rt uf sc K V) {idx : Nat} {v : Int32} (hd : decode c pc = .ok (.invokestatic idx, 3)) (hp : pc + 3 = pc2) (hc : cs idx = some (0, 8, 1, 0, S_X9_isDigit)) (h8 : Nat.ble (r.map Value.category).sum 8 = true) (kk0 : V pc2 L ((.int (if 48 ≤ v ∧ v ≤ 57 then 1 else 0)) :: r) 202 gk_fT x y u) : V pc L (.int v :: r) 202 gk_fT x y u :=
  g_calls w hd hp hc (as := [.int v]) rfl h8 rfl rfl rfl (Or.inl rfl) (Or.inl rfl) ⟨v, rfl, ⟨rfl, rfl⟩, kk0⟩
def L_X9_isDigit : List (Nat × gk_M0) := []
def cs_X9_isDigit : Nat → Option gk_M0 := gk_lk L_X9_isDigit
theorem m_X9_isDigit : ∀ (as : List Value) (n : Nat) (fl : gk_F) (x : gk_X) (y : gk_Y) (K : gk_K), S_X9_isDigit as n fl x y K → (gk_L0 as).length ≤ 1 ∧ ∀ V : gk_V, gk_W cX9_isDigit pX9 cs_X9_isDigit (fun _ _ => none) (some .boolean) 0 none K V → V 0 (gk_en as 1) [] n fl x y 0 := by
  intro as n fl x y K hS
  obtain ⟨v, rfl, ⟨rfl, rfl⟩, q0⟩ := hS
  refine ⟨Nat.le_of_ble_eq_true rfl, fun V w => ?_⟩
  show V 0 [some (.int v)] [] 202 gk_fT x y 0
  refine s_iload_n (pc2 := 1) w dX9_isDigit_0 rfl rfl ?_
  refine s_bipush (pc2 := 3) (v := 48) w dX9_isDigit_1 rfl rfl ?_
  refine s_ic_lt (pc2 := 6) (tgt := 16) w dX9_isDigit_3 rfl (by decide) (fun c3 => ?_) (fun c3 => ?_)
  · refine s_iconst (pc2 := 17) (v := 0) w dX9_isDigit_16 rfl rfl ?_
    refine s_ireturn w dX9_isDigit_17 rfl (by first | rfl | decide) ?_
    rw [if_neg (fun h => by rw [Int32.lt_iff_toInt_lt] at c3; have := Int32.le_iff_toInt_le.mp h.1; omega)] at q0
    exact q0
  · refine s_iload_n (pc2 := 7) w dX9_isDigit_6 rfl rfl ?_
    refine s_bipush (pc2 := 9) (v := 57) w dX9_isDigit_7 rfl rfl ?_
    refine s_ic_gt (pc2 := 12) (tgt := 16) w dX9_isDigit_9 rfl (by decide) (fun c9 => ?_) (fun c9 => ?_)
    · refine s_iconst (pc2 := 17) (v := 0) w dX9_isDigit_16 rfl rfl ?_
      refine s_ireturn w dX9_isDigit_17 rfl (by first | rfl | decide) ?_
      rw [if_neg (fun h => by rw [Int32.lt_iff_toInt_lt] at c9; have := Int32.le_iff_toInt_le.mp h.2; omega)] at q0
      exact q0
    · refine s_iconst (pc2 := 13) (v := 1) w dX9_isDigit_12 rfl rfl ?_
      refine s_goto (tgt := 17) w dX9_isDigit_13 (by decide) ?_
      refine s_ireturn w dX9_isDigit_17 rfl (by first | rfl | decide) ?_
      rw [if_pos ⟨Int32.le_iff_toInt_le.mpr (by rw [Int32.lt_iff_toInt_lt] at c3; omega), Int32.le_iff_toInt_le.mpr (by rw [Int32.lt_iff_toInt_lt] at c9; omega)⟩] at q0
      exact q0
theorem lk_X9_isDigit {l : Launch} (hl : l.stackTraces = false) : ∀ q ∈ L_X9_isDigit, (q.2.1 < 5 → gk_Lk l RX9 gk_W1 0 q.1 q.2.1 q.2.2.1 q.2.2.2.1 q.2.2.2.2.1 q.2.2.2.2.2) := (fun _ h => absurd h List.not_mem_nil)
theorem sp_X9_isDigit : ∀ q ∈ L_X9_isDigit, gk_Sq RX9 gk_W1 0 q := (fun _ h => absurd h List.not_mem_nil)
theorem M_X9_isDigit {l : Launch} (hl : l.stackTraces = false) : gk_Mt l yX9_isDigit (.code yX9_isDigit cX9_isDigit 1 (some .boolean) :: gk_W1) 0 0 S_X9_isDigit := gk_meth hl gk_cw_ok (by decide +kernel) rfl m_X9_isDigit pX9_ok (gk_Sp_of sp_X9_isDigit) pX9_st (fun ci m S h => absurd h (by intro h; cases h)) (xf_X9 0) (fun idx kd ci mm cost S2 h h5 => lk_X9_isDigit hl _ (gk_lk_mem h) h5)

end GKV

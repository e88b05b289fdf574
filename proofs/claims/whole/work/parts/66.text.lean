/-! THE METHODS, 38: the text put in, cut off; what a reading left -/
section GKV
variable {c : ByteArray} {P : gk_C} {cs : Nat → Option gk_M0} {rt : Option FieldType} {uf : Nat} {sc : Option Nat} {K : gk_K} {V : gk_V}
variable {L : List (Option Value)} {r : List Value} {n : Nat} {fl : gk_F} {x : gk_X} {y : gk_Y} {u pc pc2 : Nat}
theorem up96 (x : gk_X) (k : Nat) (v : Int32) : gk_up x 96 k v 95 1 = x 95 1 := gk_up_ne (by omega)
theorem gk_up_sf {x : gk_X} {i k : Nat} {a : Int32} (h : x i k = a) : gk_up x i k a = x := by
  funext i2 k2
  unfold gk_up
  by_cases e : i2 = i ∧ k2 = k
  · rw [if_pos e, e.1, e.2, h]
  · rw [if_neg e]
/-- the bytes of a number, the highest first -/
def tF (v : Int32) (n : Nat) : Int32 := if n = 0 then v >>> ((24 : Int32) &&& 31) &&& 255 else if n = 1 then v >>> ((16 : Int32) &&& 31) &&& 255 else if n = 2 then v >>> ((8 : Int32) &&& 31) &&& 255 else v &&& 255
theorem sh_0 (v : Int32) : v >>> ((0 : Int32) &&& 31) = v := by
  rw [show ((0 : Int32) &&& 31) = 0 from by decide]
  apply Int32.toBitVec_inj.mp
  rw [Int32.toBitVec_shiftRight]
  simp
theorem tF_n (v : Int32) (n : Nat) (h : n < 4) : v >>> (gI (24 - 8 * (n : Int)) &&& 31) &&& 255 = tF v n := by
  rcases n with _ | _ | _ | _ | n
  · rw [show gI (24 - 8 * ((0 : Nat) : Int)) = 24 from by decide]; rfl
  · rw [show gI (24 - 8 * ((0 + 1 : Nat) : Int)) = 16 from by decide]; rfl
  · rw [show gI (24 - 8 * ((0 + 1 + 1 : Nat) : Int)) = 8 from by decide]; rfl
  · rw [show gI (24 - 8 * ((0 + 1 + 1 + 1 : Nat) : Int)) = 0 from by decide, sh_0]; rfl
  · omega
theorem rg_4 (x : gk_X) (j o : Nat) (f : Nat → Int32) : gk_up (gk_up (gk_up (gk_up x j o (f 0)) j (o + 1) (f 1)) j (o + 2) (f 2)) j (o + 3) (f 3) = gk_rg x j o 4 f := by
  rw [show (4 : Nat) = 3 + 1 from rfl, ← gk_rg_s x j o 3 f, show (3 : Nat) = 2 + 1 from rfl, ← gk_rg_s x j o 2 f, show (2 : Nat) = 1 + 1 from rfl, ← gk_rg_s x j o 1 f, show (1 : Nat) = 0 + 1 from rfl, ← gk_rg_s x j o 0 f, gk_rg_0]
  rfl
theorem rm_1 {t : Nat} (h : t ≤ 500) : (nI t ≤ (500 : Int32) - 4) ↔ t + 4 ≤ 500 := by
  rw [show (500 : Int32) - 4 = gI 496 from by decide, gI_nI, gI_le ⟨by omega, by omega⟩ ⟨by omega, by omega⟩]
  omega
theorem rm_2 {t : Nat} (h : t ≤ 500) : (nI t + 4 ≤ (500 : Int32)) ↔ t + 4 ≤ 500 := by
  rw [show nI t + 4 = nI (t + 4) from nI_ad t 4, show (500 : Int32) = gI 500 from by decide, gI_nI, gI_le ⟨by omega, by omega⟩ ⟨by omega, by omega⟩]
  omega
def S_X8_append : gk_S := fun as n fl x y K => ∃ (v : Int32) (t : Nat), as = [.ref 95, .int v] ∧ (n = 202 ∧ fl = gk_fT) ∧ (x 95 1 = nI t) ∧ (t ≤ 500) ∧ (t + 4 ≤ 500 → K (.inl (some (.int (nI (t + 4))))) n fl (gk_up (gk_rg x 96 t 4 (tF v)) 95 1 (nI (t + 4))) y) ∧ (¬ t + 4 ≤ 500 → K (.inl (some (.int (-1)))) n fl x y)
theorem r_X8_append (w : gk_W c P cs (fun _ _ => none) rt uf sc K V) {idx : Nat} {v : Int32} {t : Nat} (hd : decode c pc = .ok (.invokevirtual idx, 3)) (hp : pc + 3 = pc2) (hc : cs idx = some (1, 7, 2, 0, S_X8_append)) (h8 : Nat.ble (r.map Value.category).sum 8 = true) (hp0 : x 95 1 = nI t) (hp1 : t ≤ 500) (kk0 : t + 4 ≤ 500 → V pc2 L ((.int (nI (t + 4))) :: r) 202 gk_fT (gk_up (gk_rg x 96 t 4 (tF v)) 95 1 (nI (t + 4))) y u) (kk1 : ¬ t + 4 ≤ 500 → V pc2 L ((.int (-1)) :: r) 202 gk_fT x y u) : V pc L (.int v :: .ref 95 :: r) 202 gk_fT x y u :=
  g_callv w hd hp hc (as := [.ref 95, .int v]) rfl h8 rfl rfl rfl (Or.inr (Or.inl ⟨Or.inl rfl, _, _, rfl, (gk_kd_j rfl rfl), rfl⟩)) (Or.inl rfl) ⟨v, t, rfl, ⟨rfl, rfl⟩, hp0, hp1, kk0, kk1⟩
def L_X8_append : List (Nat × gk_M0) := []
def cs_X8_append : Nat → Option gk_M0 := gk_lk L_X8_append
theorem m_X8_append : ∀ (as : List Value) (n : Nat) (fl : gk_F) (x : gk_X) (y : gk_Y) (K : gk_K), S_X8_append as n fl x y K → (gk_L0 as).length ≤ 2 ∧ ∀ V : gk_V, gk_W cX8_append pX8 cs_X8_append (fun _ _ => none) (some .int) 0 none K V → V 0 (gk_en as 2) [] n fl x y 0 := by
  intro as n fl x y K hS
  obtain ⟨v, t, rfl, ⟨rfl, rfl⟩, hp0, hp1, q0, q1⟩ := hS
  refine ⟨Nat.le_of_ble_eq_true rfl, fun V w => ?_⟩
  show V 0 [some (.ref 95), some (.int v)] [] 202 gk_fT x y 0
  refine s_aload_n (pc2 := 1) w dX8_append_0 rfl rfl ?_
  refine m_getI (pc2 := 4) (ci := 7) (k := 1) w dX8_append_1 rfl rfl rfl rfl rfl ?_
  rw [hp0]
  refine s_if_lt (pc2 := 7) (tgt := 21) w dX8_append_4 rfl (by decide) (fun h0 => absurd h0 (by rw [gI_nI, show (0 : Int32) = gI 0 from rfl, gI_lt ⟨by omega, by omega⟩ ⟨by omega, by omega⟩]; omega)) (fun _ => ?_)
  refine s_aload_n (pc2 := 8) w dX8_append_7 rfl rfl ?_
  refine m_getI (pc2 := 11) (ci := 7) (k := 1) w dX8_append_8 rfl rfl rfl rfl rfl ?_
  rw [hp0]
  refine s_aload_n (pc2 := 12) w dX8_append_11 rfl rfl ?_
  refine m_getR (pc2 := 15) (ci := 7) (k := 0) (j2 := 96) w dX8_append_12 rfl rfl rfl rfl rfl rfl ?_
  refine m_alen (pc2 := 16) (kd := 20) (N := (500 : Int32)) w dX8_append_15 rfl rfl rfl rfl rfl ?_
  refine s_iconst (pc2 := 17) (v := 4) w dX8_append_16 rfl rfl ?_
  refine s_isub (pc2 := 18) w dX8_append_17 rfl ?_
  refine s_ic_le (pc2 := 21) (tgt := 23) w dX8_append_18 rfl (by decide) (fun c18 => ?_) (fun c18 => ?_)
  · rw [rm_1 hp1] at c18
    refine s_aload_n (pc2 := 24) w dX8_append_23 rfl rfl ?_
    refine m_getR (pc2 := 27) (ci := 7) (k := 0) (j2 := 96) w dX8_append_24 rfl rfl rfl rfl rfl rfl ?_
    refine s_aload_n (pc2 := 28) w dX8_append_27 rfl rfl ?_
    refine m_getI (pc2 := 31) (ci := 7) (k := 1) w dX8_append_28 rfl rfl rfl rfl rfl ?_
    rw [hp0]
    refine s_iload_n (pc2 := 32) w dX8_append_31 rfl rfl ?_
    refine s_bipush (pc2 := 34) (v := 24) w dX8_append_32 rfl rfl ?_
    refine s_ishr (pc2 := 35) w dX8_append_34 rfl ?_
    refine s_sipush (pc2 := 38) (v := 255) w dX8_append_35 rfl rfl ?_
    refine s_iand (pc2 := 39) w dX8_append_38 rfl ?_
    refine m_iastoreN (pc2 := 40) (t := t) (N := 500) w dX8_append_39 rfl rfl rfl rfl (by omega) rfl ?_
    refine s_aload_n (pc2 := 41) w dX8_append_40 rfl rfl ?_
    refine m_getR (pc2 := 44) (ci := 7) (k := 0) (j2 := 96) w dX8_append_41 rfl rfl rfl rfl rfl rfl ?_
    refine s_aload_n (pc2 := 45) w dX8_append_44 rfl rfl ?_
    refine m_getI (pc2 := 48) (ci := 7) (k := 1) w dX8_append_45 rfl rfl rfl rfl rfl ?_
    rw [up96, hp0]
    refine s_iconst (pc2 := 49) (v := 1) w dX8_append_48 rfl rfl ?_
    refine s_iadd (pc2 := 50) w dX8_append_49 rfl ?_
    refine s_iload_n (pc2 := 51) w dX8_append_50 rfl rfl ?_
    refine s_bipush (pc2 := 53) (v := 16) w dX8_append_51 rfl rfl ?_
    refine s_ishr (pc2 := 54) w dX8_append_53 rfl ?_
    refine s_sipush (pc2 := 57) (v := 255) w dX8_append_54 rfl rfl ?_
    refine s_iand (pc2 := 58) w dX8_append_57 rfl ?_
    refine m_iastoreN (pc2 := 59) (t := t + 1) (N := 500) w dX8_append_58 rfl rfl rfl (nI_ad t 1) (by omega) rfl ?_
    refine s_aload_n (pc2 := 60) w dX8_append_59 rfl rfl ?_
    refine m_getR (pc2 := 63) (ci := 7) (k := 0) (j2 := 96) w dX8_append_60 rfl rfl rfl rfl rfl rfl ?_
    refine s_aload_n (pc2 := 64) w dX8_append_63 rfl rfl ?_
    refine m_getI (pc2 := 67) (ci := 7) (k := 1) w dX8_append_64 rfl rfl rfl rfl rfl ?_
    rw [up96, up96, hp0]
    refine s_iconst (pc2 := 68) (v := 2) w dX8_append_67 rfl rfl ?_
    refine s_iadd (pc2 := 69) w dX8_append_68 rfl ?_
    refine s_iload_n (pc2 := 70) w dX8_append_69 rfl rfl ?_
    refine s_bipush (pc2 := 72) (v := 8) w dX8_append_70 rfl rfl ?_
    refine s_ishr (pc2 := 73) w dX8_append_72 rfl ?_
    refine s_sipush (pc2 := 76) (v := 255) w dX8_append_73 rfl rfl ?_
    refine s_iand (pc2 := 77) w dX8_append_76 rfl ?_
    refine m_iastoreN (pc2 := 78) (t := t + 2) (N := 500) w dX8_append_77 rfl rfl rfl (nI_ad t 2) (by omega) rfl ?_
    refine s_aload_n (pc2 := 79) w dX8_append_78 rfl rfl ?_
    refine m_getR (pc2 := 82) (ci := 7) (k := 0) (j2 := 96) w dX8_append_79 rfl rfl rfl rfl rfl rfl ?_
    refine s_aload_n (pc2 := 83) w dX8_append_82 rfl rfl ?_
    refine m_getI (pc2 := 86) (ci := 7) (k := 1) w dX8_append_83 rfl rfl rfl rfl rfl ?_
    rw [up96, up96, up96, hp0]
    refine s_iconst (pc2 := 87) (v := 3) w dX8_append_86 rfl rfl ?_
    refine s_iadd (pc2 := 88) w dX8_append_87 rfl ?_
    refine s_iload_n (pc2 := 89) w dX8_append_88 rfl rfl ?_
    refine s_sipush (pc2 := 92) (v := 255) w dX8_append_89 rfl rfl ?_
    refine s_iand (pc2 := 93) w dX8_append_92 rfl ?_
    refine m_iastoreN (pc2 := 94) (t := t + 3) (N := 500) w dX8_append_93 rfl rfl rfl (nI_ad t 3) (by omega) rfl ?_
    refine s_aload_n (pc2 := 95) w dX8_append_94 rfl rfl ?_
    refine s_dup (pc2 := 96) w dX8_append_95 rfl rfl ?_
    refine m_getI (pc2 := 99) (ci := 7) (k := 1) w dX8_append_96 rfl rfl rfl rfl rfl ?_
    rw [up96, up96, up96, up96, hp0]
    refine s_iconst (pc2 := 100) (v := 4) w dX8_append_99 rfl rfl ?_
    refine s_iadd (pc2 := 101) w dX8_append_100 rfl ?_
    rw [show nI t + 4 = nI (t + 4) from nI_ad t 4]
    refine m_putI (pc2 := 104) (ci := 7) (k := 1) w dX8_append_101 rfl rfl rfl rfl rfl (by intro h; cases h) ?_
    refine s_aload_n (pc2 := 105) w dX8_append_104 rfl rfl ?_
    refine m_getI (pc2 := 108) (ci := 7) (k := 1) w dX8_append_105 rfl rfl rfl rfl rfl ?_
    rw [gk_up_in]
    refine s_ireturn w dX8_append_108 rfl rfl ?_
    have h := q0 c18
    rw [← rg_4] at h
    exact h
  · rw [rm_1 hp1] at c18
    refine s_iconst (pc2 := 22) (v := (-1)) w dX8_append_21 rfl rfl ?_
    refine s_ireturn w dX8_append_22 rfl rfl ?_
    exact q1 c18
theorem lk_X8_append {l : Launch} (hl : l.stackTraces = false) : ∀ q ∈ L_X8_append, (q.2.1 < 5 → gk_Lk l RX8 gk_W1 0 q.1 q.2.1 q.2.2.1 q.2.2.2.1 q.2.2.2.2.1 q.2.2.2.2.2) := (fun _ h => absurd h List.not_mem_nil)
theorem sp_X8_append : ∀ q ∈ L_X8_append, gk_Sq RX8 gk_W1 0 q := (fun _ h => absurd h List.not_mem_nil)
theorem M_X8_append {l : Launch} (hl : l.stackTraces = false) : gk_Mt l yX8_append (.code yX8_append cX8_append 2 (some .int) :: gk_W1) 0 0 S_X8_append := gk_meth hl gk_cw_ok (by decide +kernel) rfl m_X8_append pX8_ok (gk_Sp_of sp_X8_append) pX8_st (fun ci m S h => absurd h (by intro h; cases h)) (xf_X8 0) (fun idx kd ci mm cost S2 h h5 => lk_X8_append hl _ (gk_lk_mem h) h5)

def S_X10_appendText : gk_S := fun as n fl x y K => ∃ (v : Int32) (t : Nat), as = [.ref 0, .int v] ∧ (n = 202 ∧ fl = gk_fT) ∧ (x 95 1 = nI t) ∧ (t ≤ 500) ∧ (t + 4 ≤ 500 → K (.inl (some (.int (nI (t + 4))))) n fl (gk_up (gk_rg x 96 t 4 (tF v)) 95 1 (nI (t + 4))) y) ∧ (¬ t + 4 ≤ 500 → K (.inr 1) n fl x y)
theorem r_X10_appendText (w : gk_W c P cs (fun _ _ => none) rt uf sc K V) {idx : Nat} {v : Int32} {t : Nat} (hd : decode c pc = .ok (.invokevirtual idx, 3)) (hp : pc + 3 = pc2) (hc : cs idx = some (1, 9, 2, 1, S_X10_appendText)) (h8 : Nat.ble (r.map Value.category).sum 8 = true) (hu : u + 1 ≤ uf) (hp0 : x 95 1 = nI t) (hp1 : t ≤ 500) (kk0 : t + 4 ≤ 500 → V pc2 L ((.int (nI (t + 4))) :: r) 202 gk_fT (gk_up (gk_rg x 96 t 4 (tF v)) 95 1 (nI (t + 4))) y (u + 1)) (kk1 : ¬ t + 4 ≤ 500 → K (.inr 1) 202 gk_fT x y) : V pc L (.int v :: .ref 0 :: r) 202 gk_fT x y u :=
  g_callv w hd hp hc (as := [.ref 0, .int v]) rfl h8 rfl rfl rfl (Or.inr (Or.inl ⟨Or.inl rfl, _, _, rfl, (gk_kd_j rfl rfl), rfl⟩)) (Or.inr hu) ⟨v, t, rfl, ⟨rfl, rfl⟩, hp0, hp1, kk0, kk1⟩
def L_X10_appendText : List (Nat × gk_M0) := [(84, (0, 9, 1, 1, S_X10_requireRoom)), (254, (1, 7, 2, 0, S_X8_append))]
def cs_X10_appendText : Nat → Option gk_M0 := gk_lk L_X10_appendText
theorem m_X10_appendText : ∀ (as : List Value) (n : Nat) (fl : gk_F) (x : gk_X) (y : gk_Y) (K : gk_K), S_X10_appendText as n fl x y K → (gk_L0 as).length ≤ 2 ∧ ∀ V : gk_V, gk_W cX10_appendText pX10 cs_X10_appendText (fun _ _ => none) (some .int) 1 none K V → V 0 (gk_en as 2) [] n fl x y 0 := by
  intro as n fl x y K hS
  obtain ⟨v, t, rfl, ⟨rfl, rfl⟩, hp0, hp1, q0, q1⟩ := hS
  refine ⟨Nat.le_of_ble_eq_true rfl, fun V w => ?_⟩
  show V 0 [some (.ref 0), some (.int v)] [] 202 gk_fT x y 0
  refine s_aload_n (pc2 := 1) w dX10_appendText_0 rfl rfl ?_
  refine m_getR (pc2 := 4) (ci := 9) (k := 6) (j2 := 95) w dX10_appendText_1 rfl rfl rfl rfl rfl rfl ?_
  refine s_iload_n (pc2 := 5) w dX10_appendText_4 rfl rfl ?_
  refine r_X8_append (pc2 := 8) w dX10_appendText_5 rfl rfl rfl hp0 hp1 (fun h5 => ?_) (fun h5 => ?_)
  · refine r_X10_requireRoom (pc2 := 11) w dX10_appendText_8 rfl rfl rfl (Nat.le_of_ble_eq_true rfl) (fun _ => ?_) (fun h => absurd h (nI_m1 (by omega)))
    refine s_ireturn w dX10_appendText_11 rfl rfl ?_
    exact q0 h5
  · refine r_X10_requireRoom (pc2 := 11) w dX10_appendText_8 rfl rfl rfl (Nat.le_of_ble_eq_true rfl) (fun h => absurd rfl h) (fun _ => q1 h5)
  
theorem lk_X10_appendText {l : Launch} (hl : l.stackTraces = false) : ∀ q ∈ L_X10_appendText, (q.2.1 < 5 → gk_Lk l RX10 gk_W1 7 q.1 q.2.1 q.2.2.1 q.2.2.2.1 q.2.2.2.2.1 q.2.2.2.2.2) := (List.forall_mem_cons.mpr ⟨(fun _ => ⟨yX10_requireRoom, cX10_requireRoom, 1, (some .int), 6, _, M_X10_requireRoom hl, ⟨by decide, by decide⟩, ⟨by decide, by decide, by decide +kernel⟩, ⟨(gk_wm 827 (by decide +kernel)), (gk_wm 89 (by decide +kernel))⟩, Or.inl ⟨rfl, rfl, (gk_wm 826 (by decide +kernel)), gk_wm 825 (by decide +kernel)⟩⟩), (List.forall_mem_cons.mpr ⟨(fun _ => ⟨yX8_append, cX8_append, 2, (some .int), 0, _, M_X8_append hl, ⟨by decide, by decide⟩, ⟨by decide, by decide, by decide +kernel⟩, ⟨(gk_wm 1229 (by decide +kernel)), (gk_wm 96 (by decide +kernel))⟩, Or.inr (Or.inr (Or.inr (Or.inl ⟨rfl, rfl, (gk_wm 1227 (by decide +kernel)), (gk_wm 1228 (by decide +kernel)), gk_wm 1226 (by decide +kernel), by decide, rfl⟩)))⟩), (fun _ h => absurd h List.not_mem_nil)⟩)⟩)
theorem sp_X10_appendText : ∀ q ∈ L_X10_appendText, gk_Sq RX10 gk_W1 7 q := (List.forall_mem_cons.mpr ⟨⟨fun h => absurd h (by decide), fun h => absurd h (by decide), fun h => absurd h (by decide), fun h => absurd h (by decide), fun h => absurd h (by decide), fun h => absurd h (by decide)⟩, (List.forall_mem_cons.mpr ⟨⟨fun h => absurd h (by decide), fun h => absurd h (by decide), fun h => absurd h (by decide), fun h => absurd h (by decide), fun h => absurd h (by decide), fun h => absurd h (by decide)⟩, (fun _ h => absurd h List.not_mem_nil)⟩)⟩)
theorem M_X10_appendText {l : Launch} (hl : l.stackTraces = false) : gk_Mt l yX10_appendText (.code yX10_appendText cX10_appendText 2 (some .int) :: gk_W1) 7 1 S_X10_appendText := gk_meth hl gk_cw_ok (by decide +kernel) rfl m_X10_appendText pX10_ok (gk_Sp_of sp_X10_appendText) pX10_st (fun ci m S h => absurd h (by intro h; cases h)) (xf_X10 (by decide)) (fun idx kd ci mm cost S2 h h5 => lk_X10_appendText hl _ (gk_lk_mem h) h5)

def S_X11_appendText : gk_S := fun as n fl x y K => ∃ (v : Int32) (t : Nat), as = [.ref 189, .int v] ∧ (n = 202 ∧ fl = gk_fT) ∧ (x 189 11 = nI t) ∧ (t ≤ 500) ∧ (t + 4 ≤ 500 → K (.inl (some (.int (nI (t + 4))))) n fl (gk_up (gk_rg (gk_up x 189 4 0) 199 t 4 (tF v)) 189 11 (nI (t + 4))) y) ∧ (¬ t + 4 ≤ 500 → K (.inl (some (.int 0))) n fl (gk_up x 189 4 1) y)
theorem r_X11_appendText (w : gk_W c P cs (fun _ _ => none) rt uf sc K V) {idx : Nat} {v : Int32} {t : Nat} (hd : decode c pc = .ok (.invokevirtual idx, 3)) (hp : pc + 3 = pc2) (hc : cs idx = some (1, 10, 2, 0, S_X11_appendText)) (h8 : Nat.ble (r.map Value.category).sum 8 = true) (hp0 : x 189 11 = nI t) (hp1 : t ≤ 500) (kk0 : t + 4 ≤ 500 → V pc2 L ((.int (nI (t + 4))) :: r) 202 gk_fT (gk_up (gk_rg (gk_up x 189 4 0) 199 t 4 (tF v)) 189 11 (nI (t + 4))) y u) (kk1 : ¬ t + 4 ≤ 500 → V pc2 L ((.int 0) :: r) 202 gk_fT (gk_up x 189 4 1) y u) : V pc L (.int v :: .ref 189 :: r) 202 gk_fT x y u :=
  g_callv w hd hp hc (as := [.ref 189, .int v]) rfl h8 rfl rfl rfl (Or.inr (Or.inl ⟨Or.inl rfl, _, _, rfl, (gk_kd_j rfl rfl), rfl⟩)) (Or.inl rfl) ⟨v, t, rfl, ⟨rfl, rfl⟩, hp0, hp1, kk0, kk1⟩
def L_X11_appendText : List (Nat × gk_M0) := [(64, (1, 10, 2, 0, S_X11_fail))]
def cs_X11_appendText : Nat → Option gk_M0 := gk_lk L_X11_appendText
theorem m_X11_appendText : ∀ (as : List Value) (n : Nat) (fl : gk_F) (x : gk_X) (y : gk_Y) (K : gk_K), S_X11_appendText as n fl x y K → (gk_L0 as).length ≤ 3 ∧ ∀ V : gk_V, gk_W cX11_appendText pX11 cs_X11_appendText (fun _ _ => none) (some .int) 0 none K V → V 0 (gk_en as 3) [] n fl x y 0 := by
  intro as n fl x y K hS
  obtain ⟨v, t, rfl, ⟨rfl, rfl⟩, hp0, hp1, q0, q1⟩ := hS
  refine ⟨Nat.le_of_ble_eq_true rfl, fun V w => ?_⟩
  show V 0 [some (.ref 189), some (.int v), none] [] 202 gk_fT x y 0
  refine s_aload_n (pc2 := 1) w dX11_appendText_0 rfl rfl ?_
  refine s_iconst (pc2 := 2) (v := 0) w dX11_appendText_1 rfl rfl ?_
  refine m_putI (pc2 := 5) (ci := 10) (k := 4) w dX11_appendText_2 rfl rfl rfl rfl rfl (by intro h; cases h) ?_
  refine s_aload_n (pc2 := 6) w dX11_appendText_5 rfl rfl ?_
  refine m_getI (pc2 := 9) (ci := 10) (k := 11) w dX11_appendText_6 rfl rfl rfl rfl rfl ?_
  rw [show gk_up x 189 4 0 189 11 = nI t from (gk_up_ne (by omega)).trans hp0]
  refine s_iconst (pc2 := 10) (v := 4) w dX11_appendText_9 rfl rfl ?_
  refine s_iadd (pc2 := 11) w dX11_appendText_10 rfl ?_
  refine s_sipush (pc2 := 14) (v := 500) w dX11_appendText_11 rfl rfl ?_
  refine s_ic_le (pc2 := 17) (tgt := 23) w dX11_appendText_14 rfl (by decide) (fun c14 => ?_) (fun c14 => ?_)
  · rw [rm_2 hp1] at c14
    refine s_bipush (pc2 := 25) (v := 24) w dX11_appendText_23 rfl rfl ?_
    refine s_istore_n (pc2 := 26) (k2 := 2) w dX11_appendText_25 rfl rfl rfl ?_
    dsimp only [gk_s1, gk_s2, gk_cl]
    have key : ∀ (k n : Nat), n + k = 4 → V 26 [some (.ref 189), some (.int v), some (.int (gI (24 - 8 * (n : Int))))] [] 202 gk_fT (gk_up (gk_rg (gk_up x 189 4 0) 199 t n (tF v)) 189 11 (nI (t + n))) y 0 := by
      intro k
      induction k with
      | zero =>
        intro n  ht
        have hn : n = 4 := by omega
        subst hn
        refine s_iload_n (pc2 := 27) w dX11_appendText_26 rfl rfl ?_
        refine s_if_lt (pc2 := 30) (tgt := 62) w dX11_appendText_27 rfl (by decide) (fun _ => ?_) (fun h0 => absurd (by decide) h0)
        refine s_aload_n (pc2 := 63) w dX11_appendText_62 rfl rfl ?_
        refine m_getI (pc2 := 66) (ci := 10) (k := 11) w dX11_appendText_63 rfl rfl rfl rfl rfl ?_
        rw [gk_up_in]
        refine s_ireturn w dX11_appendText_66 rfl rfl ?_
        exact q0 c14
      | succ k ih =>
        intro n  ht
        refine s_iload_n (pc2 := 27) w dX11_appendText_26 rfl rfl ?_
        refine s_if_lt (pc2 := 30) (tgt := 62) w dX11_appendText_27 rfl (by decide) (fun h0 => absurd h0 (by rw [show (0 : Int32) = gI 0 from rfl, gI_lt ⟨by omega, by omega⟩ ⟨by omega, by omega⟩]; omega)) (fun _ => ?_)
        refine s_aload_n (pc2 := 31) w dX11_appendText_30 rfl rfl ?_
        refine m_getR (pc2 := 34) (ci := 10) (k := 10) (j2 := 199) w dX11_appendText_31 rfl rfl rfl rfl rfl rfl ?_
        refine s_aload_n (pc2 := 35) w dX11_appendText_34 rfl rfl ?_
        refine m_getI (pc2 := 38) (ci := 10) (k := 11) w dX11_appendText_35 rfl rfl rfl rfl rfl ?_
        rw [gk_up_in]
        refine s_iload_n (pc2 := 39) w dX11_appendText_38 rfl rfl ?_
        refine s_iload_n (pc2 := 40) w dX11_appendText_39 rfl rfl ?_
        refine s_ishr (pc2 := 41) w dX11_appendText_40 rfl ?_
        refine s_sipush (pc2 := 44) (v := 255) w dX11_appendText_41 rfl rfl ?_
        refine s_iand (pc2 := 45) w dX11_appendText_44 rfl ?_
        rw [tF_n v n (by omega)]
        refine m_iastoreN (pc2 := 46) (t := t + n) (N := 500) w dX11_appendText_45 rfl rfl rfl rfl (by omega) rfl ?_
        refine s_aload_n (pc2 := 47) w dX11_appendText_46 rfl rfl ?_
        refine s_dup (pc2 := 48) w dX11_appendText_47 rfl rfl ?_
        refine m_getI (pc2 := 51) (ci := 10) (k := 11) w dX11_appendText_48 rfl rfl rfl rfl rfl ?_
        rw [gk_up_ne (by omega), gk_up_in]
        refine s_iconst (pc2 := 52) (v := 1) w dX11_appendText_51 rfl rfl ?_
        refine s_iadd (pc2 := 53) w dX11_appendText_52 rfl ?_
        refine m_putI (pc2 := 56) (ci := 10) (k := 11) w dX11_appendText_53 rfl rfl rfl rfl rfl (by intro h; cases h) ?_
        refine s_iinc (pc2 := 59) w dX11_appendText_56 rfl rfl rfl rfl ?_
        dsimp only [gk_s1, gk_s2, gk_cl]
        refine s_goto (tgt := 26) w dX11_appendText_59 (by decide) ?_
        have h := ih (n + 1) (by omega)
        rw [← gk_rg_s] at h
        rw [show gI (24 - 8 * (n : Int)) + Int32.ofInt (-8) = gI (24 - 8 * ((n + 1 : Nat) : Int)) from (gI_add _ (-8)).trans (congrArg gI (by omega)), gk_up_cm _ _ _ (show ¬ (189 = 199 ∧ 11 = t + n) by omega), gk_up_up, show nI (t + n) + 1 = nI (t + (n + 1)) from nI_ad (t + n) 1]
        exact h
    have h := key 4 0 (by omega)
    rw [gk_rg_0, Nat.add_zero, gk_up_sf ((gk_up_ne (by omega)).trans hp0), show gI (24 - 8 * ((0 : Nat) : Int)) = 24 from by decide] at h
    exact h
  · rw [rm_2 hp1] at c14
    refine s_aload_n (pc2 := 18) w dX11_appendText_17 rfl rfl ?_
    refine s_iconst (pc2 := 19) (v := 1) w dX11_appendText_18 rfl rfl ?_
    refine r_X11_fail (pc2 := 22) w dX11_appendText_19 rfl rfl rfl ?_
    refine s_ireturn w dX11_appendText_22 rfl rfl ?_
    rw [gk_up_up]
    exact q1 c14
theorem lk_X11_appendText {l : Launch} (hl : l.stackTraces = false) : ∀ q ∈ L_X11_appendText, (q.2.1 < 5 → gk_Lk l RX11 gk_W1 1 q.1 q.2.1 q.2.2.1 q.2.2.2.1 q.2.2.2.2.1 q.2.2.2.2.2) := (List.forall_mem_cons.mpr ⟨(fun _ => ⟨yX11_fail, cX11_fail, 2, (some .int), 0, _, M_X11_fail hl, ⟨by decide, by decide⟩, ⟨by decide, by decide, by decide +kernel⟩, ⟨(gk_wm 1342 (by decide +kernel)), (gk_wm 99 (by decide +kernel))⟩, Or.inr (Or.inr (Or.inr (Or.inl ⟨rfl, rfl, (gk_wm 1341 (by decide +kernel)), (gk_wm 32 (by decide +kernel)), gk_wm 1339 (by decide +kernel), by decide, rfl⟩)))⟩), (fun _ h => absurd h List.not_mem_nil)⟩)
theorem sp_X11_appendText : ∀ q ∈ L_X11_appendText, gk_Sq RX11 gk_W1 1 q := (List.forall_mem_cons.mpr ⟨⟨fun h => absurd h (by decide), fun h => absurd h (by decide), fun h => absurd h (by decide), fun h => absurd h (by decide), fun h => absurd h (by decide), fun h => absurd h (by decide)⟩, (fun _ h => absurd h List.not_mem_nil)⟩)
theorem M_X11_appendText {l : Launch} (hl : l.stackTraces = false) : gk_Mt l yX11_appendText (.code yX11_appendText cX11_appendText 3 (some .int) :: gk_W1) 1 0 S_X11_appendText := gk_meth hl gk_cw_ok (by decide +kernel) rfl m_X11_appendText pX11_ok (gk_Sp_of sp_X11_appendText) pX11_st (fun ci m S h => absurd h (by intro h; cases h)) (xf_X11 1) (fun idx kd ci mm cost S2 h h5 => lk_X11_appendText hl _ (gk_lk_mem h) h5)

def S_X10_truncateText : gk_S := fun as n fl x y K => ∃ (v : Int32) (t : Nat), as = [.ref 0, .int v] ∧ (n = 202 ∧ fl = gk_fT) ∧ (x 95 1 = nI t) ∧ ((0 ≤ v ∧ v ≤ nI t) → K (.inl (some (.int v))) n fl (gk_up x 95 1 v) y) ∧ (¬ (0 ≤ v ∧ v ≤ nI t) → K (.inr 0) n fl x y)
theorem r_X10_truncateText (w : gk_W c P cs (fun _ _ => none) rt uf sc K V) {idx : Nat} {v : Int32} {t : Nat} (hd : decode c pc = .ok (.invokevirtual idx, 3)) (hp : pc + 3 = pc2) (hc : cs idx = some (1, 9, 2, 1, S_X10_truncateText)) (h8 : Nat.ble (r.map Value.category).sum 8 = true) (hu : u + 1 ≤ uf) (hp0 : x 95 1 = nI t) (kk0 : (0 ≤ v ∧ v ≤ nI t) → V pc2 L ((.int v) :: r) 202 gk_fT (gk_up x 95 1 v) y (u + 1)) (kk1 : ¬ (0 ≤ v ∧ v ≤ nI t) → K (.inr 0) 202 gk_fT x y) : V pc L (.int v :: .ref 0 :: r) 202 gk_fT x y u :=
  g_callv w hd hp hc (as := [.ref 0, .int v]) rfl h8 rfl rfl rfl (Or.inr (Or.inl ⟨Or.inl rfl, _, _, rfl, (gk_kd_j rfl rfl), rfl⟩)) (Or.inr hu) ⟨v, t, rfl, ⟨rfl, rfl⟩, hp0, kk0, kk1⟩
def L_X10_truncateText : List (Nat × gk_M0) := [(55, (0, 9, 3, 1, S_X10_requireRange))]
def cs_X10_truncateText : Nat → Option gk_M0 := gk_lk L_X10_truncateText
theorem m_X10_truncateText : ∀ (as : List Value) (n : Nat) (fl : gk_F) (x : gk_X) (y : gk_Y) (K : gk_K), S_X10_truncateText as n fl x y K → (gk_L0 as).length ≤ 2 ∧ ∀ V : gk_V, gk_W cX10_truncateText pX10 cs_X10_truncateText (fun _ _ => none) (some .int) 1 none K V → V 0 (gk_en as 2) [] n fl x y 0 := by
  intro as n fl x y K hS
  obtain ⟨v, t, rfl, ⟨rfl, rfl⟩, hp0, q0, q1⟩ := hS
  refine ⟨Nat.le_of_ble_eq_true rfl, fun V w => ?_⟩
  show V 0 [some (.ref 0), some (.int v)] [] 202 gk_fT x y 0
  refine s_iload_n (pc2 := 1) w dX10_truncateText_0 rfl rfl ?_
  refine s_iconst (pc2 := 2) (v := 0) w dX10_truncateText_1 rfl rfl ?_
  refine s_aload_n (pc2 := 3) w dX10_truncateText_2 rfl rfl ?_
  refine m_getR (pc2 := 6) (ci := 9) (k := 6) (j2 := 95) w dX10_truncateText_3 rfl rfl rfl rfl rfl rfl ?_
  refine m_getI (pc2 := 9) (ci := 7) (k := 1) w dX10_truncateText_6 rfl rfl rfl rfl rfl ?_
  rw [hp0]
  refine r_X10_requireRange (pc2 := 12) w dX10_truncateText_9 rfl rfl rfl (Nat.le_of_ble_eq_true rfl) (fun h9 => ?_) q1
  refine s_aload_n (pc2 := 13) w dX10_truncateText_12 rfl rfl ?_
  refine m_getR (pc2 := 16) (ci := 9) (k := 6) (j2 := 95) w dX10_truncateText_13 rfl rfl rfl rfl rfl rfl ?_
  refine s_iload_n (pc2 := 17) w dX10_truncateText_16 rfl rfl ?_
  refine m_putI (pc2 := 20) (ci := 7) (k := 1) w dX10_truncateText_17 rfl rfl rfl rfl rfl (by intro h; cases h) ?_
  refine s_iload_n (pc2 := 21) w dX10_truncateText_20 rfl rfl ?_
  refine s_ireturn w dX10_truncateText_21 rfl rfl ?_
  exact q0 h9
theorem lk_X10_truncateText {l : Launch} (hl : l.stackTraces = false) : ∀ q ∈ L_X10_truncateText, (q.2.1 < 5 → gk_Lk l RX10 gk_W1 7 q.1 q.2.1 q.2.2.1 q.2.2.2.1 q.2.2.2.2.1 q.2.2.2.2.2) := (List.forall_mem_cons.mpr ⟨(fun _ => ⟨yX10_requireRange, cX10_requireRange, 3, none, 6, _, M_X10_requireRange hl, ⟨by decide, by decide⟩, ⟨by decide, by decide, by decide +kernel⟩, ⟨(gk_wm 733 (by decide +kernel)), (gk_wm 89 (by decide +kernel))⟩, Or.inl ⟨rfl, rfl, (gk_wm 732 (by decide +kernel)), gk_wm 731 (by decide +kernel)⟩⟩), (fun _ h => absurd h List.not_mem_nil)⟩)
theorem sp_X10_truncateText : ∀ q ∈ L_X10_truncateText, gk_Sq RX10 gk_W1 7 q := (List.forall_mem_cons.mpr ⟨⟨fun h => absurd h (by decide), fun h => absurd h (by decide), fun h => absurd h (by decide), fun h => absurd h (by decide), fun h => absurd h (by decide), fun h => absurd h (by decide)⟩, (fun _ h => absurd h List.not_mem_nil)⟩)
theorem M_X10_truncateText {l : Launch} (hl : l.stackTraces = false) : gk_Mt l yX10_truncateText (.code yX10_truncateText cX10_truncateText 2 (some .int) :: gk_W1) 7 1 S_X10_truncateText := gk_meth hl gk_cw_ok (by decide +kernel) rfl m_X10_truncateText pX10_ok (gk_Sp_of sp_X10_truncateText) pX10_st (fun ci m S h => absurd h (by intro h; cases h)) (xf_X10 (by decide)) (fun idx kd ci mm cost S2 h h5 => lk_X10_truncateText hl _ (gk_lk_mem h) h5)

def S_X11_truncateText : gk_S := fun as n fl x y K => ∃ (v : Int32) (t : Nat), as = [.ref 189, .int v] ∧ (n = 202 ∧ fl = gk_fT) ∧ (x 189 11 = nI t) ∧ ((0 ≤ v ∧ v ≤ nI t) → K (.inl (some (.int v))) n fl (gk_up (gk_up x 189 4 0) 189 11 v) y) ∧ (¬ (0 ≤ v ∧ v ≤ nI t) → K (.inl (some (.int 0))) n fl (gk_up x 189 4 1) y)
theorem r_X11_truncateText (w : gk_W c P cs (fun _ _ => none) rt uf sc K V) {idx : Nat} {v : Int32} {t : Nat} (hd : decode c pc = .ok (.invokevirtual idx, 3)) (hp : pc + 3 = pc2) (hc : cs idx = some (1, 10, 2, 0, S_X11_truncateText)) (h8 : Nat.ble (r.map Value.category).sum 8 = true) (hp0 : x 189 11 = nI t) (kk0 : (0 ≤ v ∧ v ≤ nI t) → V pc2 L ((.int v) :: r) 202 gk_fT (gk_up (gk_up x 189 4 0) 189 11 v) y u) (kk1 : ¬ (0 ≤ v ∧ v ≤ nI t) → V pc2 L ((.int 0) :: r) 202 gk_fT (gk_up x 189 4 1) y u) : V pc L (.int v :: .ref 189 :: r) 202 gk_fT x y u :=
  g_callv w hd hp hc (as := [.ref 189, .int v]) rfl h8 rfl rfl rfl (Or.inr (Or.inl ⟨Or.inl rfl, _, _, rfl, (gk_kd_j rfl rfl), rfl⟩)) (Or.inl rfl) ⟨v, t, rfl, ⟨rfl, rfl⟩, hp0, kk0, kk1⟩
def L_X11_truncateText : List (Nat × gk_M0) := [(52, (0, 10, 3, 0, S_X11_isBetween)), (64, (1, 10, 2, 0, S_X11_fail))]
def cs_X11_truncateText : Nat → Option gk_M0 := gk_lk L_X11_truncateText
theorem m_X11_truncateText : ∀ (as : List Value) (n : Nat) (fl : gk_F) (x : gk_X) (y : gk_Y) (K : gk_K), S_X11_truncateText as n fl x y K → (gk_L0 as).length ≤ 2 ∧ ∀ V : gk_V, gk_W cX11_truncateText pX11 cs_X11_truncateText (fun _ _ => none) (some .int) 0 none K V → V 0 (gk_en as 2) [] n fl x y 0 := by
  intro as n fl x y K hS
  obtain ⟨v, t, rfl, ⟨rfl, rfl⟩, hp0, q0, q1⟩ := hS
  refine ⟨Nat.le_of_ble_eq_true rfl, fun V w => ?_⟩
  show V 0 [some (.ref 189), some (.int v)] [] 202 gk_fT x y 0
  refine s_aload_n (pc2 := 1) w dX11_truncateText_0 rfl rfl ?_
  refine s_iconst (pc2 := 2) (v := 0) w dX11_truncateText_1 rfl rfl ?_
  refine m_putI (pc2 := 5) (ci := 10) (k := 4) w dX11_truncateText_2 rfl rfl rfl rfl rfl (by intro h; cases h) ?_
  refine s_iload_n (pc2 := 6) w dX11_truncateText_5 rfl rfl ?_
  refine s_iconst (pc2 := 7) (v := 0) w dX11_truncateText_6 rfl rfl ?_
  refine s_aload_n (pc2 := 8) w dX11_truncateText_7 rfl rfl ?_
  refine m_getI (pc2 := 11) (ci := 10) (k := 11) w dX11_truncateText_8 rfl rfl rfl rfl rfl ?_
  rw [show gk_up x 189 4 0 189 11 = nI t from (gk_up_ne (by omega)).trans hp0]
  refine r_X11_isBetween (pc2 := 14) w dX11_truncateText_11 rfl rfl rfl ?_
  refine s_if_ne (pc2 := 17) (tgt := 23) w dX11_truncateText_14 rfl (by decide) (fun c14 => ?_) (fun c14 => ?_)
  · rw [g_b0, Classical.not_not] at c14
    refine s_aload_n (pc2 := 24) w dX11_truncateText_23 rfl rfl ?_
    refine s_iload_n (pc2 := 25) w dX11_truncateText_24 rfl rfl ?_
    refine m_putI (pc2 := 28) (ci := 10) (k := 11) w dX11_truncateText_25 rfl rfl rfl rfl rfl (by intro h; cases h) ?_
    refine s_aload_n (pc2 := 29) w dX11_truncateText_28 rfl rfl ?_
    refine m_getI (pc2 := 32) (ci := 10) (k := 11) w dX11_truncateText_29 rfl rfl rfl rfl rfl ?_
    rw [gk_up_in]
    refine s_ireturn w dX11_truncateText_32 rfl rfl ?_
    exact q0 c14
  · rw [g_b0] at c14
    refine s_aload_n (pc2 := 18) w dX11_truncateText_17 rfl rfl ?_
    refine s_iconst (pc2 := 19) (v := 1) w dX11_truncateText_18 rfl rfl ?_
    refine r_X11_fail (pc2 := 22) w dX11_truncateText_19 rfl rfl rfl ?_
    refine s_ireturn w dX11_truncateText_22 rfl rfl ?_
    rw [gk_up_up]
    exact q1 c14
theorem lk_X11_truncateText {l : Launch} (hl : l.stackTraces = false) : ∀ q ∈ L_X11_truncateText, (q.2.1 < 5 → gk_Lk l RX11 gk_W1 1 q.1 q.2.1 q.2.2.1 q.2.2.2.1 q.2.2.2.2.1 q.2.2.2.2.2) := (List.forall_mem_cons.mpr ⟨(fun _ => ⟨yX11_isBetween, cX11_isBetween, 3, (some .boolean), 0, _, M_X11_isBetween hl, ⟨by decide, by decide⟩, ⟨by decide, by decide, by decide +kernel⟩, ⟨(gk_wm 1334 (by decide +kernel)), (gk_wm 99 (by decide +kernel))⟩, Or.inl ⟨rfl, rfl, (gk_wm 1333 (by decide +kernel)), gk_wm 1332 (by decide +kernel)⟩⟩), (List.forall_mem_cons.mpr ⟨(fun _ => ⟨yX11_fail, cX11_fail, 2, (some .int), 0, _, M_X11_fail hl, ⟨by decide, by decide⟩, ⟨by decide, by decide, by decide +kernel⟩, ⟨(gk_wm 1342 (by decide +kernel)), (gk_wm 99 (by decide +kernel))⟩, Or.inr (Or.inr (Or.inr (Or.inl ⟨rfl, rfl, (gk_wm 1341 (by decide +kernel)), (gk_wm 32 (by decide +kernel)), gk_wm 1339 (by decide +kernel), by decide, rfl⟩)))⟩), (fun _ h => absurd h List.not_mem_nil)⟩)⟩)
theorem sp_X11_truncateText : ∀ q ∈ L_X11_truncateText, gk_Sq RX11 gk_W1 1 q := (List.forall_mem_cons.mpr ⟨⟨fun h => absurd h (by decide), fun h => absurd h (by decide), fun h => absurd h (by decide), fun h => absurd h (by decide), fun h => absurd h (by decide), fun h => absurd h (by decide)⟩, (List.forall_mem_cons.mpr ⟨⟨fun h => absurd h (by decide), fun h => absurd h (by decide), fun h => absurd h (by decide), fun h => absurd h (by decide), fun h => absurd h (by decide), fun h => absurd h (by decide)⟩, (fun _ h => absurd h List.not_mem_nil)⟩)⟩)
theorem M_X11_truncateText {l : Launch} (hl : l.stackTraces = false) : gk_Mt l yX11_truncateText (.code yX11_truncateText cX11_truncateText 2 (some .int) :: gk_W1) 1 0 S_X11_truncateText := gk_meth hl gk_cw_ok (by decide +kernel) rfl m_X11_truncateText pX11_ok (gk_Sp_of sp_X11_truncateText) pX11_st (fun ci m S h => absurd h (by intro h; cases h)) (xf_X11 1) (fun idx kd ci mm cost S2 h h5 => lk_X11_truncateText hl _ (gk_lk_mem h) h5)

def S_X10_errorCode : gk_S := fun as n fl x y K => as = [.ref 0] ∧ (n = 202 ∧ fl = gk_fT) ∧ (K (.inl (some (.int (x 97 0)))) n fl x y)
theorem r_X10_errorCode (w : gk_W c P cs (fun _ _ => none) rt uf sc K V) {idx : Nat}  (hd : decode c pc = .ok (.invokevirtual idx, 3)) (hp : pc + 3 = pc2) (hc : cs idx = some (1, 9, 1, 0, S_X10_errorCode)) (h8 : Nat.ble (r.map Value.category).sum 8 = true) (kk0 : V pc2 L ((.int (x 97 0)) :: r) 202 gk_fT x y u) : V pc L (.ref 0 :: r) 202 gk_fT x y u :=
  g_callv w hd hp hc (as := [.ref 0]) rfl h8 rfl rfl rfl (Or.inr (Or.inl ⟨Or.inl rfl, _, _, rfl, (gk_kd_j rfl rfl), rfl⟩)) (Or.inl rfl) ⟨rfl, ⟨rfl, rfl⟩, kk0⟩
def L_X10_errorCode : List (Nat × gk_M0) := []
def cs_X10_errorCode : Nat → Option gk_M0 := gk_lk L_X10_errorCode
theorem m_X10_errorCode : ∀ (as : List Value) (n : Nat) (fl : gk_F) (x : gk_X) (y : gk_Y) (K : gk_K), S_X10_errorCode as n fl x y K → (gk_L0 as).length ≤ 1 ∧ ∀ V : gk_V, gk_W cX10_errorCode pX10q cs_X10_errorCode (fun _ _ => none) (some .int) 0 none K V → V 0 (gk_en as 1) [] n fl x y 0 := by
  intro as n fl x y K hS
  obtain ⟨rfl, ⟨rfl, rfl⟩, q0⟩ := hS
  refine ⟨Nat.le_of_ble_eq_true rfl, fun V w => ?_⟩
  show V 0 [some (.ref 0)] [] 202 gk_fT x y 0
  refine s_aload_n (pc2 := 1) w dX10_errorCode_0 rfl rfl ?_
  refine m_getR (pc2 := 4) (ci := 9) (k := 7) (j2 := 97) w dX10_errorCode_1 rfl rfl rfl rfl rfl rfl ?_
  refine m_getI (pc2 := 7) (ci := 5) (k := 0) w dX10_errorCode_4 rfl rfl rfl rfl rfl ?_
  refine s_ireturn w dX10_errorCode_7 rfl rfl ?_
  exact q0
theorem lk_X10_errorCode {l : Launch} (hl : l.stackTraces = false) : ∀ q ∈ L_X10_errorCode, (q.2.1 < 5 → gk_Lk l RX10 gk_W1 0 q.1 q.2.1 q.2.2.1 q.2.2.2.1 q.2.2.2.2.1 q.2.2.2.2.2) := (fun _ h => absurd h List.not_mem_nil)
theorem sp_X10_errorCode : ∀ q ∈ L_X10_errorCode, gk_Sq RX10 gk_W1 0 q := (fun _ h => absurd h List.not_mem_nil)
theorem M_X10_errorCode {l : Launch} (hl : l.stackTraces = false) : gk_Mt l yX10_errorCode (.code yX10_errorCode cX10_errorCode 1 (some .int) :: gk_W1) 0 0 S_X10_errorCode := gk_meth hl gk_cw_ok (by decide +kernel) rfl m_X10_errorCode pX10q_ok (gk_Sp_of sp_X10_errorCode) pX10q_st (fun ci m S h => absurd h (by intro h; cases h)) (xf_X10q 0) (fun idx kd ci mm cost S2 h h5 => lk_X10_errorCode hl _ (gk_lk_mem h) h5)

def S_X10_errorPosition : gk_S := fun as n fl x y K => as = [.ref 0] ∧ (n = 202 ∧ fl = gk_fT) ∧ (K (.inl (some (.int (x 97 1)))) n fl x y)
theorem r_X10_errorPosition (w : gk_W c P cs (fun _ _ => none) rt uf sc K V) {idx : Nat}  (hd : decode c pc = .ok (.invokevirtual idx, 3)) (hp : pc + 3 = pc2) (hc : cs idx = some (1, 9, 1, 0, S_X10_errorPosition)) (h8 : Nat.ble (r.map Value.category).sum 8 = true) (kk0 : V pc2 L ((.int (x 97 1)) :: r) 202 gk_fT x y u) : V pc L (.ref 0 :: r) 202 gk_fT x y u :=
  g_callv w hd hp hc (as := [.ref 0]) rfl h8 rfl rfl rfl (Or.inr (Or.inl ⟨Or.inl rfl, _, _, rfl, (gk_kd_j rfl rfl), rfl⟩)) (Or.inl rfl) ⟨rfl, ⟨rfl, rfl⟩, kk0⟩
def L_X10_errorPosition : List (Nat × gk_M0) := []
def cs_X10_errorPosition : Nat → Option gk_M0 := gk_lk L_X10_errorPosition
theorem m_X10_errorPosition : ∀ (as : List Value) (n : Nat) (fl : gk_F) (x : gk_X) (y : gk_Y) (K : gk_K), S_X10_errorPosition as n fl x y K → (gk_L0 as).length ≤ 1 ∧ ∀ V : gk_V, gk_W cX10_errorPosition pX10q cs_X10_errorPosition (fun _ _ => none) (some .int) 0 none K V → V 0 (gk_en as 1) [] n fl x y 0 := by
  intro as n fl x y K hS
  obtain ⟨rfl, ⟨rfl, rfl⟩, q0⟩ := hS
  refine ⟨Nat.le_of_ble_eq_true rfl, fun V w => ?_⟩
  show V 0 [some (.ref 0)] [] 202 gk_fT x y 0
  refine s_aload_n (pc2 := 1) w dX10_errorPosition_0 rfl rfl ?_
  refine m_getR (pc2 := 4) (ci := 9) (k := 7) (j2 := 97) w dX10_errorPosition_1 rfl rfl rfl rfl rfl rfl ?_
  refine m_getI (pc2 := 7) (ci := 5) (k := 1) w dX10_errorPosition_4 rfl rfl rfl rfl rfl ?_
  refine s_ireturn w dX10_errorPosition_7 rfl rfl ?_
  exact q0
theorem lk_X10_errorPosition {l : Launch} (hl : l.stackTraces = false) : ∀ q ∈ L_X10_errorPosition, (q.2.1 < 5 → gk_Lk l RX10 gk_W1 0 q.1 q.2.1 q.2.2.1 q.2.2.2.1 q.2.2.2.2.1 q.2.2.2.2.2) := (fun _ h => absurd h List.not_mem_nil)
theorem sp_X10_errorPosition : ∀ q ∈ L_X10_errorPosition, gk_Sq RX10 gk_W1 0 q := (fun _ h => absurd h List.not_mem_nil)
theorem M_X10_errorPosition {l : Launch} (hl : l.stackTraces = false) : gk_Mt l yX10_errorPosition (.code yX10_errorPosition cX10_errorPosition 1 (some .int) :: gk_W1) 0 0 S_X10_errorPosition := gk_meth hl gk_cw_ok (by decide +kernel) rfl m_X10_errorPosition pX10q_ok (gk_Sp_of sp_X10_errorPosition) pX10q_st (fun ci m S h => absurd h (by intro h; cases h)) (xf_X10q 0) (fun idx kd ci mm cost S2 h h5 => lk_X10_errorPosition hl _ (gk_lk_mem h) h5)

end GKV

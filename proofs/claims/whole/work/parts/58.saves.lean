/-! THE METHODS, 37: saved states -/
section GKV
variable {c : ByteArray} {P : gk_C} {cs : Nat → Option gk_M0} {rt : Option FieldType} {uf : Nat} {sc : Option Nat} {K : gk_K} {V : gk_V}
variable {L : List (Option Value)} {r : List Value} {n : Nat} {fl : gk_F} {x : gk_X} {y : gk_Y} {u pc pc2 : Nat}
theorem nI_ad (a b : Nat) : nI a + nI b = nI (a + b) := gI_add a b
theorem nI_ml (a b : Nat) : nI a * nI b = nI (a * b) := (gI_mul a b).trans (congrArg gI (Int.natCast_mul a b).symm)
def S_X11_copy : gk_S := fun as n fl x y K => ∃ (f : Nat) (a : Int32) (t : Nat) (b : Int32) (A : Nat) (B : Nat), as = [.ref f, .int a, .ref t, .int b] ∧ (n = 202 ∧ fl = gk_fT) ∧ gk_kd f = 20 ∧ gk_kd t = 20 ∧ (a = nI A) ∧ (b = nI B) ∧ (A + 2234 ≤ gk_ln f) ∧ (B + 2234 ≤ gk_ln t) ∧ (gk_ln f ≤ 5000) ∧ (gk_ln t ≤ 5000) ∧ (f ≠ t) ∧ (K (.inl none) n fl (gk_rg x t B 2234 (fun k => x f (A + k))) y)
theorem r_X11_copy (w : gk_W c P cs (fun _ _ => none) rt uf sc K V) {idx : Nat} {f : Nat} {a : Int32} {t : Nat} {b : Int32} {A : Nat} {B : Nat} (hd : decode c pc = .ok (.invokestatic idx, 3)) (hp : pc + 3 = pc2) (hc : cs idx = some (0, 10, 4, 0, S_X11_copy)) (h8 : Nat.ble (r.map Value.category).sum 8 = true) (hk0 : gk_kd f = 20) (hk1 : gk_kd t = 20) (hp0 : a = nI A) (hp1 : b = nI B) (hp2 : A + 2234 ≤ gk_ln f) (hp3 : B + 2234 ≤ gk_ln t) (hp4 : gk_ln f ≤ 5000) (hp5 : gk_ln t ≤ 5000) (hp6 : f ≠ t) (kk0 : V pc2 L r 202 gk_fT (gk_rg x t B 2234 (fun k => x f (A + k))) y u) : V pc L (.int b :: .ref t :: .int a :: .ref f :: r) 202 gk_fT x y u :=
  g_calls w hd hp hc (as := [.ref f, .int a, .ref t, .int b]) rfl h8 rfl rfl rfl (Or.inl rfl) (Or.inl rfl) ⟨f, a, t, b, A, B, rfl, ⟨rfl, rfl⟩, hk0, hk1, hp0, hp1, hp2, hp3, hp4, hp5, hp6, kk0⟩
def L_X11_copy : List (Nat × gk_M0) := []
def cs_X11_copy : Nat → Option gk_M0 := gk_lk L_X11_copy
theorem m_X11_copy : ∀ (as : List Value) (n : Nat) (fl : gk_F) (x : gk_X) (y : gk_Y) (K : gk_K), S_X11_copy as n fl x y K → (gk_L0 as).length ≤ 5 ∧ ∀ V : gk_V, gk_W cX11_copy pX11 cs_X11_copy (fun _ _ => none) none 0 none K V → V 0 (gk_en as 5) [] n fl x y 0 := by
  intro as n fl x y K hS
  obtain ⟨f, a, t, b, A, B, rfl, ⟨rfl, rfl⟩, hk0, hk1, hp0, hp1, hp2, hp3, hp4, hp5, hp6, q0⟩ := hS
  refine ⟨Nat.le_of_ble_eq_true rfl, fun V w => ?_⟩
  show V 0 [some (.ref f), some (.int a), some (.ref t), some (.int b), none] [] 202 gk_fT x y 0
  subst hp0 hp1
  refine s_iconst (pc2 := 1) (v := gI 0) w dX11_copy_0 rfl rfl ?_
  refine s_istore (pc2 := 3) w dX11_copy_1 rfl rfl ?_
  dsimp only [gk_s1, gk_s2, gk_cl]
  have key : ∀ (k n : Nat), n + k = 2234 → V 3 [some (.ref f), some (.int (nI A)), some (.ref t), some (.int (nI B)), some (.int (nI n))] [] 202 gk_fT (gk_rg x t B n (fun k => x f (A + k))) y 0 := by
    intro k
    induction k with
    | zero =>
      intro n  ht
      have hn : n = 2234 := by omega
      subst hn
      refine s_iload (pc2 := 5) w dX11_copy_3 rfl rfl ?_
      refine s_sipush (pc2 := 8) (v := gI 2234) w dX11_copy_5 rfl rfl ?_
      refine s_ic_ge (pc2 := 11) (tgt := 29) w dX11_copy_8 rfl (by decide) (fun _ => ?_) (fun h0 => absurd (by rw [gI_nI, gI_le ⟨by omega, by omega⟩ ⟨by omega, by omega⟩]; omega) h0)
      refine s_return w dX11_copy_29 rfl ?_
      exact q0
    | succ k ih =>
      intro n  ht
      refine s_iload (pc2 := 5) w dX11_copy_3 rfl rfl ?_
      refine s_sipush (pc2 := 8) (v := gI 2234) w dX11_copy_5 rfl rfl ?_
      refine s_ic_ge (pc2 := 11) (tgt := 29) w dX11_copy_8 rfl (by decide) (fun h0 => absurd h0 (by rw [gI_nI, gI_le ⟨by omega, by omega⟩ ⟨by omega, by omega⟩]; omega)) (fun _ => ?_)
      refine s_aload_n (pc2 := 12) w dX11_copy_11 rfl rfl ?_
      refine s_iload_n (pc2 := 13) w dX11_copy_12 rfl rfl ?_
      refine s_iload (pc2 := 15) w dX11_copy_13 rfl rfl ?_
      refine s_iadd (pc2 := 16) w dX11_copy_15 rfl ?_
      rw [nI_ad]
      refine s_aload_n (pc2 := 17) w dX11_copy_16 rfl rfl ?_
      refine s_iload_n (pc2 := 18) w dX11_copy_17 rfl rfl ?_
      refine s_iload (pc2 := 20) w dX11_copy_18 rfl rfl ?_
      refine s_iadd (pc2 := 21) w dX11_copy_20 rfl ?_
      rw [nI_ad]
      refine m_ialoadN (pc2 := 22) (t := A + n) w dX11_copy_21 rfl (by first | exact hk0 | exact hk1) rfl rfl (by omega) (Nat.ble_eq_true_of_le (by omega)) ?_
      rw [gk_rg_ne (fun h => hp6 h.1)]
      refine m_iastoreN (pc2 := 23) (t := B + n) w dX11_copy_22 rfl (by first | exact hk0 | exact hk1) rfl rfl (by omega) (Nat.ble_eq_true_of_le (by omega)) ?_
      refine s_iinc (pc2 := 26) w dX11_copy_23 rfl rfl rfl rfl ?_
      dsimp only [gk_s1, gk_s2, gk_cl]
      rw [nI_s]
      refine s_goto (tgt := 3) w dX11_copy_26 (by decide) ?_
      have h := ih (n + 1) (by omega)
      rw [← gk_rg_s] at h
      exact h
  have h := key 2234 0 (by omega)
  rw [gk_rg_0] at h
  exact h
theorem lk_X11_copy {l : Launch} (hl : l.stackTraces = false) : ∀ q ∈ L_X11_copy, (q.2.1 < 5 → gk_Lk l RX11 gk_W1 0 q.1 q.2.1 q.2.2.1 q.2.2.2.1 q.2.2.2.2.1 q.2.2.2.2.2) := (fun _ h => absurd h List.not_mem_nil)
theorem sp_X11_copy : ∀ q ∈ L_X11_copy, gk_Sq RX11 gk_W1 0 q := (fun _ h => absurd h List.not_mem_nil)
theorem M_X11_copy {l : Launch} (hl : l.stackTraces = false) : gk_Mt l yX11_copy (.code yX11_copy cX11_copy 5 none :: gk_W1) 0 0 S_X11_copy := gk_meth hl gk_cw_ok (by decide +kernel) rfl m_X11_copy pX11_ok (gk_Sp_of sp_X11_copy) pX11_st (fun ci m S h => absurd h (by intro h; cases h)) (xf_X11 0) (fun idx kd ci mm cost S2 h h5 => lk_X11_copy hl _ (gk_lk_mem h) h5)

def S_X11_save : gk_S := fun as n fl x y K => ∃ (s : Int32), as = [.ref 189, .int s] ∧ (n = 202 ∧ fl = gk_fT) ∧ ((0 ≤ s ∧ s ≤ 1) → K (.inl none) n fl (gk_up (gk_rg (gk_up x 189 4 0) 192 (2234 * cN s) 2234 (fun k => (gk_up x 189 4 0) 190 (0 + k))) 193 (cN s) 1) y) ∧ (¬ (0 ≤ s ∧ s ≤ 1) → K (.inl none) n fl (gk_up x 189 4 1) y)
theorem r_X11_save (w : gk_W c P cs (fun _ _ => none) rt uf sc K V) {idx : Nat} {s : Int32} (hd : decode c pc = .ok (.invokevirtual idx, 3)) (hp : pc + 3 = pc2) (hc : cs idx = some (1, 10, 2, 0, S_X11_save)) (h8 : Nat.ble (r.map Value.category).sum 8 = true) (kk0 : (0 ≤ s ∧ s ≤ 1) → V pc2 L r 202 gk_fT (gk_up (gk_rg (gk_up x 189 4 0) 192 (2234 * cN s) 2234 (fun k => (gk_up x 189 4 0) 190 (0 + k))) 193 (cN s) 1) y u) (kk1 : ¬ (0 ≤ s ∧ s ≤ 1) → V pc2 L r 202 gk_fT (gk_up x 189 4 1) y u) : V pc L (.int s :: .ref 189 :: r) 202 gk_fT x y u :=
  g_callv w hd hp hc (as := [.ref 189, .int s]) rfl h8 rfl rfl rfl (Or.inr (Or.inl ⟨Or.inl rfl, _, _, rfl, (gk_kd_j rfl rfl), rfl⟩)) (Or.inl rfl) ⟨s, rfl, ⟨rfl, rfl⟩, kk0, kk1⟩
def L_X11_save : List (Nat × gk_M0) := [(52, (0, 10, 3, 0, S_X11_isBetween)), (361, (0, 10, 4, 0, S_X11_copy))]
def cs_X11_save : Nat → Option gk_M0 := gk_lk L_X11_save
theorem m_X11_save : ∀ (as : List Value) (n : Nat) (fl : gk_F) (x : gk_X) (y : gk_Y) (K : gk_K), S_X11_save as n fl x y K → (gk_L0 as).length ≤ 2 ∧ ∀ V : gk_V, gk_W cX11_save pX11 cs_X11_save (fun _ _ => none) none 0 none K V → V 0 (gk_en as 2) [] n fl x y 0 := by
  intro as n fl x y K hS
  obtain ⟨s, rfl, ⟨rfl, rfl⟩, q0, q1⟩ := hS
  refine ⟨Nat.le_of_ble_eq_true rfl, fun V w => ?_⟩
  show V 0 [some (.ref 189), some (.int s)] [] 202 gk_fT x y 0
  refine s_aload_n (pc2 := 1) w dX11_save_0 rfl rfl ?_
  refine s_iload_n (pc2 := 2) w dX11_save_1 rfl rfl ?_
  refine s_iconst (pc2 := 3) (v := 0) w dX11_save_2 rfl rfl ?_
  refine s_iconst (pc2 := 4) (v := 1) w dX11_save_3 rfl rfl ?_
  refine r_X11_isBetween (pc2 := 7) w dX11_save_4 rfl rfl rfl ?_
  refine s_if_eq (pc2 := 10) (tgt := 14) w dX11_save_7 rfl (by decide) (fun c7 => ?_) (fun c7 => ?_)
  · refine s_iconst (pc2 := 15) (v := 1) w dX11_save_14 rfl rfl ?_
    refine m_putI (pc2 := 18) (ci := 10) (k := 4) w dX11_save_15 rfl rfl rfl rfl rfl (by intro h; cases h) ?_
    refine s_aload_n (pc2 := 19) w dX11_save_18 rfl rfl ?_
    refine m_getI (pc2 := 22) (ci := 10) (k := 4) w dX11_save_19 rfl rfl rfl rfl rfl ?_
    rw [gk_up_in]
    refine s_if_ne (pc2 := 25) (tgt := 49) w dX11_save_22 rfl (by decide) (fun _ => ?_) (fun h0 => absurd h0 (by decide))
    refine s_return w dX11_save_49 rfl ?_
    rw [g_b0] at c7
    exact q1 c7
  · rw [g_b0, Classical.not_not] at c7
    obtain ⟨q, rfl, qh⟩ := ix_b (b := 1) (by decide) c7
    rw [cN_n q (by omega)] at q0
    refine s_iconst (pc2 := 11) (v := 0) w dX11_save_10 rfl rfl ?_
    refine s_goto (tgt := 15) w dX11_save_11 (by decide) ?_
    refine m_putI (pc2 := 18) (ci := 10) (k := 4) w dX11_save_15 rfl rfl rfl rfl rfl (by intro h; cases h) ?_
    refine s_aload_n (pc2 := 19) w dX11_save_18 rfl rfl ?_
    refine m_getI (pc2 := 22) (ci := 10) (k := 4) w dX11_save_19 rfl rfl rfl rfl rfl ?_
    rw [gk_up_in]
    refine s_if_ne (pc2 := 25) (tgt := 49) w dX11_save_22 rfl (by decide) (fun h0 => absurd (rfl) h0) (fun _ => ?_)
    refine s_aload_n (pc2 := 26) w dX11_save_25 rfl rfl ?_
    refine m_getR (pc2 := 29) (ci := 10) (k := 0) (j2 := 190) w dX11_save_26 rfl rfl rfl rfl rfl rfl ?_
    refine s_iconst (pc2 := 30) (v := 0) w dX11_save_29 rfl rfl ?_
    refine s_aload_n (pc2 := 31) w dX11_save_30 rfl rfl ?_
    refine m_getR (pc2 := 34) (ci := 10) (k := 2) (j2 := 192) w dX11_save_31 rfl rfl rfl rfl rfl rfl ?_
    refine s_sipush (pc2 := 37) (v := 2234) w dX11_save_34 rfl rfl ?_
    refine s_iload_n (pc2 := 38) w dX11_save_37 rfl rfl ?_
    refine s_imul (pc2 := 39) w dX11_save_38 rfl ?_
    refine r_X11_copy (pc2 := 42) (A := 0) w dX11_save_39 rfl rfl rfl rfl rfl rfl (nI_ml 2234 q) (by decide) (by show 2234 * q + 2234 ≤ 4468; omega) (by decide) (by decide) (by decide) ?_
    refine s_aload_n (pc2 := 43) w dX11_save_42 rfl rfl ?_
    refine m_getR (pc2 := 46) (ci := 10) (k := 3) (j2 := 193) w dX11_save_43 rfl rfl rfl rfl rfl rfl ?_
    refine s_iload_n (pc2 := 47) w dX11_save_46 rfl rfl ?_
    refine s_iconst (pc2 := 48) (v := 1) w dX11_save_47 rfl rfl ?_
    refine m_bastoreN (pc2 := 49) (t := q) (N := 2) w dX11_save_48 rfl rfl rfl rfl (by omega) rfl (by decide) ?_
    refine s_return w dX11_save_49 rfl ?_
    exact q0 c7
theorem lk_X11_save {l : Launch} (hl : l.stackTraces = false) : ∀ q ∈ L_X11_save, (q.2.1 < 5 → gk_Lk l RX11 gk_W1 1 q.1 q.2.1 q.2.2.1 q.2.2.2.1 q.2.2.2.2.1 q.2.2.2.2.2) := (List.forall_mem_cons.mpr ⟨(fun _ => ⟨yX11_isBetween, cX11_isBetween, 3, (some .boolean), 0, _, M_X11_isBetween hl, ⟨by decide, by decide⟩, ⟨by decide, by decide, by decide +kernel⟩, ⟨(gk_wm 1334 (by decide +kernel)), (gk_wm 99 (by decide +kernel))⟩, Or.inl ⟨rfl, rfl, (gk_wm 1333 (by decide +kernel)), gk_wm 1332 (by decide +kernel)⟩⟩), (List.forall_mem_cons.mpr ⟨(fun _ => ⟨yX11_copy, cX11_copy, 5, none, 0, _, M_X11_copy hl, ⟨by decide, by decide⟩, ⟨by decide, by decide, by decide +kernel⟩, ⟨(gk_wm 1722 (by decide +kernel)), (gk_wm 99 (by decide +kernel))⟩, Or.inl ⟨rfl, rfl, (gk_wm 1721 (by decide +kernel)), gk_wm 1720 (by decide +kernel)⟩⟩), (fun _ h => absurd h List.not_mem_nil)⟩)⟩)
theorem sp_X11_save : ∀ q ∈ L_X11_save, gk_Sq RX11 gk_W1 1 q := (List.forall_mem_cons.mpr ⟨⟨fun h => absurd h (by decide), fun h => absurd h (by decide), fun h => absurd h (by decide), fun h => absurd h (by decide), fun h => absurd h (by decide), fun h => absurd h (by decide)⟩, (List.forall_mem_cons.mpr ⟨⟨fun h => absurd h (by decide), fun h => absurd h (by decide), fun h => absurd h (by decide), fun h => absurd h (by decide), fun h => absurd h (by decide), fun h => absurd h (by decide)⟩, (fun _ h => absurd h List.not_mem_nil)⟩)⟩)
theorem M_X11_save {l : Launch} (hl : l.stackTraces = false) : gk_Mt l yX11_save (.code yX11_save cX11_save 2 none :: gk_W1) 1 0 S_X11_save := gk_meth hl gk_cw_ok (by decide +kernel) rfl m_X11_save pX11_ok (gk_Sp_of sp_X11_save) pX11_st (fun ci m S h => absurd h (by intro h; cases h)) (xf_X11 1) (fun idx kd ci mm cost S2 h h5 => lk_X11_save hl _ (gk_lk_mem h) h5)

def S_X11_restore : gk_S := fun as n fl x y K => ∃ (s : Int32), as = [.ref 189, .int s] ∧ (n = 202 ∧ fl = gk_fT) ∧ ((0 ≤ s ∧ s ≤ 1) → (¬ x 193 (cN s) = 0) → K (.inl none) n fl (gk_rg (gk_up x 189 4 0) 190 0 2234 (fun k => (gk_up x 189 4 0) 192 (2234 * cN s + k))) y) ∧ (¬ (0 ≤ s ∧ s ≤ 1) → K (.inl none) n fl (gk_up x 189 4 1) y) ∧ ((0 ≤ s ∧ s ≤ 1) → ¬ (¬ x 193 (cN s) = 0) → K (.inl none) n fl (gk_up x 189 4 2) y)
theorem r_X11_restore (w : gk_W c P cs (fun _ _ => none) rt uf sc K V) {idx : Nat} {s : Int32} (hd : decode c pc = .ok (.invokevirtual idx, 3)) (hp : pc + 3 = pc2) (hc : cs idx = some (1, 10, 2, 0, S_X11_restore)) (h8 : Nat.ble (r.map Value.category).sum 8 = true) (kk0 : (0 ≤ s ∧ s ≤ 1) → (¬ x 193 (cN s) = 0) → V pc2 L r 202 gk_fT (gk_rg (gk_up x 189 4 0) 190 0 2234 (fun k => (gk_up x 189 4 0) 192 (2234 * cN s + k))) y u) (kk1 : ¬ (0 ≤ s ∧ s ≤ 1) → V pc2 L r 202 gk_fT (gk_up x 189 4 1) y u) (kk2 : (0 ≤ s ∧ s ≤ 1) → ¬ (¬ x 193 (cN s) = 0) → V pc2 L r 202 gk_fT (gk_up x 189 4 2) y u) : V pc L (.int s :: .ref 189 :: r) 202 gk_fT x y u :=
  g_callv w hd hp hc (as := [.ref 189, .int s]) rfl h8 rfl rfl rfl (Or.inr (Or.inl ⟨Or.inl rfl, _, _, rfl, (gk_kd_j rfl rfl), rfl⟩)) (Or.inl rfl) ⟨s, rfl, ⟨rfl, rfl⟩, kk0, kk1, kk2⟩
def L_X11_restore : List (Nat × gk_M0) := [(52, (0, 10, 3, 0, S_X11_isBetween)), (361, (0, 10, 4, 0, S_X11_copy))]
def cs_X11_restore : Nat → Option gk_M0 := gk_lk L_X11_restore
theorem m_X11_restore : ∀ (as : List Value) (n : Nat) (fl : gk_F) (x : gk_X) (y : gk_Y) (K : gk_K), S_X11_restore as n fl x y K → (gk_L0 as).length ≤ 2 ∧ ∀ V : gk_V, gk_W cX11_restore pX11 cs_X11_restore (fun _ _ => none) none 0 none K V → V 0 (gk_en as 2) [] n fl x y 0 := by
  intro as n fl x y K hS
  obtain ⟨s, rfl, ⟨rfl, rfl⟩, q0, q1, q2⟩ := hS
  refine ⟨Nat.le_of_ble_eq_true rfl, fun V w => ?_⟩
  show V 0 [some (.ref 189), some (.int s)] [] 202 gk_fT x y 0
  refine s_aload_n (pc2 := 1) w dX11_restore_0 rfl rfl ?_
  refine s_iload_n (pc2 := 2) w dX11_restore_1 rfl rfl ?_
  refine s_iconst (pc2 := 3) (v := 0) w dX11_restore_2 rfl rfl ?_
  refine s_iconst (pc2 := 4) (v := 1) w dX11_restore_3 rfl rfl ?_
  refine r_X11_isBetween (pc2 := 7) w dX11_restore_4 rfl rfl rfl ?_
  refine s_if_ne (pc2 := 10) (tgt := 14) w dX11_restore_7 rfl (by decide) (fun c7 => ?_) (fun c7 => ?_)
  · rw [g_b0, Classical.not_not] at c7
    obtain ⟨q, rfl, qh⟩ := ix_b (b := 1) (by decide) c7
    rw [cN_n q (by omega)] at q0 q2
    refine s_aload_n (pc2 := 15) w dX11_restore_14 rfl rfl ?_
    refine m_getR (pc2 := 18) (ci := 10) (k := 3) (j2 := 193) w dX11_restore_15 rfl rfl rfl rfl rfl rfl ?_
    refine s_iload_n (pc2 := 19) w dX11_restore_18 rfl rfl ?_
    refine m_baloadN (pc2 := 20) (t := q) (N := 2) w dX11_restore_19 rfl rfl rfl rfl (by omega) rfl ?_
    refine s_if_ne (pc2 := 23) (tgt := 27) w dX11_restore_20 rfl (by decide) (fun c20 => ?_) (fun c20 => ?_)
    · refine s_iconst (pc2 := 28) (v := 0) w dX11_restore_27 rfl rfl ?_
      refine m_putI (pc2 := 31) (ci := 10) (k := 4) w dX11_restore_28 rfl rfl rfl rfl rfl (by intro h; cases h) ?_
      refine s_aload_n (pc2 := 32) w dX11_restore_31 rfl rfl ?_
      refine m_getI (pc2 := 35) (ci := 10) (k := 4) w dX11_restore_32 rfl rfl rfl rfl rfl ?_
      rw [gk_up_in]
      refine s_if_ne (pc2 := 38) (tgt := 55) w dX11_restore_35 rfl (by decide) (fun h0 => absurd (rfl) h0) (fun _ => ?_)
      refine s_aload_n (pc2 := 39) w dX11_restore_38 rfl rfl ?_
      refine m_getR (pc2 := 42) (ci := 10) (k := 2) (j2 := 192) w dX11_restore_39 rfl rfl rfl rfl rfl rfl ?_
      refine s_sipush (pc2 := 45) (v := 2234) w dX11_restore_42 rfl rfl ?_
      refine s_iload_n (pc2 := 46) w dX11_restore_45 rfl rfl ?_
      refine s_imul (pc2 := 47) w dX11_restore_46 rfl ?_
      refine s_aload_n (pc2 := 48) w dX11_restore_47 rfl rfl ?_
      refine m_getR (pc2 := 51) (ci := 10) (k := 0) (j2 := 190) w dX11_restore_48 rfl rfl rfl rfl rfl rfl ?_
      refine s_iconst (pc2 := 52) (v := 0) w dX11_restore_51 rfl rfl ?_
      refine r_X11_copy (pc2 := 55) (B := 0) w dX11_restore_52 rfl rfl rfl rfl rfl (nI_ml 2234 q) rfl (by show 2234 * q + 2234 ≤ 4468; omega) (by decide) (by decide) (by decide) (by decide) ?_
      refine s_return w dX11_restore_55 rfl ?_
      exact q0 c7 c20
    · refine s_iconst (pc2 := 24) (v := 2) w dX11_restore_23 rfl rfl ?_
      refine s_goto (tgt := 28) w dX11_restore_24 (by decide) ?_
      refine m_putI (pc2 := 31) (ci := 10) (k := 4) w dX11_restore_28 rfl rfl rfl rfl rfl (by intro h; cases h) ?_
      refine s_aload_n (pc2 := 32) w dX11_restore_31 rfl rfl ?_
      refine m_getI (pc2 := 35) (ci := 10) (k := 4) w dX11_restore_32 rfl rfl rfl rfl rfl ?_
      rw [gk_up_in]
      refine s_if_ne (pc2 := 38) (tgt := 55) w dX11_restore_35 rfl (by decide) (fun _ => ?_) (fun h0 => absurd h0 (by decide))
      refine s_return w dX11_restore_55 rfl ?_
      exact q2 c7 (fun h => h c20)
  · refine s_iconst (pc2 := 11) (v := 1) w dX11_restore_10 rfl rfl ?_
    refine s_goto (tgt := 28) w dX11_restore_11 (by decide) ?_
    refine m_putI (pc2 := 31) (ci := 10) (k := 4) w dX11_restore_28 rfl rfl rfl rfl rfl (by intro h; cases h) ?_
    refine s_aload_n (pc2 := 32) w dX11_restore_31 rfl rfl ?_
    refine m_getI (pc2 := 35) (ci := 10) (k := 4) w dX11_restore_32 rfl rfl rfl rfl rfl ?_
    rw [gk_up_in]
    refine s_if_ne (pc2 := 38) (tgt := 55) w dX11_restore_35 rfl (by decide) (fun _ => ?_) (fun h0 => absurd h0 (by decide))
    refine s_return w dX11_restore_55 rfl ?_
    rw [g_b0] at c7
    exact q1 c7
theorem lk_X11_restore {l : Launch} (hl : l.stackTraces = false) : ∀ q ∈ L_X11_restore, (q.2.1 < 5 → gk_Lk l RX11 gk_W1 1 q.1 q.2.1 q.2.2.1 q.2.2.2.1 q.2.2.2.2.1 q.2.2.2.2.2) := (List.forall_mem_cons.mpr ⟨(fun _ => ⟨yX11_isBetween, cX11_isBetween, 3, (some .boolean), 0, _, M_X11_isBetween hl, ⟨by decide, by decide⟩, ⟨by decide, by decide, by decide +kernel⟩, ⟨(gk_wm 1334 (by decide +kernel)), (gk_wm 99 (by decide +kernel))⟩, Or.inl ⟨rfl, rfl, (gk_wm 1333 (by decide +kernel)), gk_wm 1332 (by decide +kernel)⟩⟩), (List.forall_mem_cons.mpr ⟨(fun _ => ⟨yX11_copy, cX11_copy, 5, none, 0, _, M_X11_copy hl, ⟨by decide, by decide⟩, ⟨by decide, by decide, by decide +kernel⟩, ⟨(gk_wm 1722 (by decide +kernel)), (gk_wm 99 (by decide +kernel))⟩, Or.inl ⟨rfl, rfl, (gk_wm 1721 (by decide +kernel)), gk_wm 1720 (by decide +kernel)⟩⟩), (fun _ h => absurd h List.not_mem_nil)⟩)⟩)
theorem sp_X11_restore : ∀ q ∈ L_X11_restore, gk_Sq RX11 gk_W1 1 q := (List.forall_mem_cons.mpr ⟨⟨fun h => absurd h (by decide), fun h => absurd h (by decide), fun h => absurd h (by decide), fun h => absurd h (by decide), fun h => absurd h (by decide), fun h => absurd h (by decide)⟩, (List.forall_mem_cons.mpr ⟨⟨fun h => absurd h (by decide), fun h => absurd h (by decide), fun h => absurd h (by decide), fun h => absurd h (by decide), fun h => absurd h (by decide), fun h => absurd h (by decide)⟩, (fun _ h => absurd h List.not_mem_nil)⟩)⟩)
theorem M_X11_restore {l : Launch} (hl : l.stackTraces = false) : gk_Mt l yX11_restore (.code yX11_restore cX11_restore 2 none :: gk_W1) 1 0 S_X11_restore := gk_meth hl gk_cw_ok (by decide +kernel) rfl m_X11_restore pX11_ok (gk_Sp_of sp_X11_restore) pX11_st (fun ci m S h => absurd h (by intro h; cases h)) (xf_X11 1) (fun idx kd ci mm cost S2 h h5 => lk_X11_restore hl _ (gk_lk_mem h) h5)

def S_X10_save : gk_S := fun as n fl x y K => ∃ (s : Int32) (g : Nat → Int32), as = [.ref 0, .int s] ∧ (n = 202 ∧ fl = gk_fT) ∧ (RS 1 g x y) ∧ (gOK g) ∧ ((0 ≤ s ∧ s ≤ 1) → ∀ (x2 : gk_X) (y2 : gk_Y), RS (103 + 43 * cN s) g x2 y2 → x2 88 (cN s) = 1 → (∀ i k, ¬ (103 + 43 * cN s ≤ i ∧ i < 146 + 43 * cN s) → ¬ (i = 88 ∧ k = cN s) → x2 i k = x i k) → (∀ i k, i ≠ 103 + 43 * cN s → y2 i k = y i k) → K (.inl none) n fl x2 y2) ∧ (¬ (0 ≤ s ∧ s ≤ 1) → ∀ (x2 : gk_X) (y2 : gk_Y), COk g x x2 y y2 → K (.inr 0) n fl x2 y2)
theorem r_X10_save (w : gk_W c P cs (fun _ _ => none) rt uf sc K V) {idx : Nat} {s : Int32} {g : Nat → Int32} (hd : decode c pc = .ok (.invokevirtual idx, 3)) (hp : pc + 3 = pc2) (hc : cs idx = some (1, 9, 2, 1, S_X10_save)) (h8 : Nat.ble (r.map Value.category).sum 8 = true) (hu : u + 1 ≤ uf) (hp0 : RS 1 g x y) (hp1 : gOK g) (kk0 : (0 ≤ s ∧ s ≤ 1) → ∀ (x2 : gk_X) (y2 : gk_Y), RS (103 + 43 * cN s) g x2 y2 → x2 88 (cN s) = 1 → (∀ i k, ¬ (103 + 43 * cN s ≤ i ∧ i < 146 + 43 * cN s) → ¬ (i = 88 ∧ k = cN s) → x2 i k = x i k) → (∀ i k, i ≠ 103 + 43 * cN s → y2 i k = y i k) → V pc2 L r 202 gk_fT x2 y2 (u + 1)) (kk1 : ¬ (0 ≤ s ∧ s ≤ 1) → ∀ (x2 : gk_X) (y2 : gk_Y), COk g x x2 y y2 → K (.inr 0) 202 gk_fT x2 y2) : V pc L (.int s :: .ref 0 :: r) 202 gk_fT x y u :=
  g_callv w hd hp hc (as := [.ref 0, .int s]) rfl h8 rfl rfl rfl (Or.inr (Or.inl ⟨Or.inl rfl, _, _, rfl, (gk_kd_j rfl rfl), rfl⟩)) (Or.inr hu) ⟨s, g, rfl, ⟨rfl, rfl⟩, hp0, hp1, kk0, kk1⟩
def L_X10_save : List (Nat × gk_M0) := [(55, (0, 9, 3, 1, S_X10_requireRange)), (262, (1, 4, 2, 0, S_X4_copyFrom))]
def cs_X10_save : Nat → Option gk_M0 := gk_lk L_X10_save
theorem m_X10_save : ∀ (as : List Value) (n : Nat) (fl : gk_F) (x : gk_X) (y : gk_Y) (K : gk_K), S_X10_save as n fl x y K → (gk_L0 as).length ≤ 2 ∧ ∀ V : gk_V, gk_W cX10_save pX10 cs_X10_save (fun _ _ => none) none 1 none K V → V 0 (gk_en as 2) [] n fl x y 0 := by
  intro as n fl x y K hS
  obtain ⟨s, g, rfl, ⟨rfl, rfl⟩, hp0, hp1, q0, q1⟩ := hS
  refine ⟨Nat.le_of_ble_eq_true rfl, fun V w => ?_⟩
  show V 0 [some (.ref 0), some (.int s)] [] 202 gk_fT x y 0
  refine s_iload_n (pc2 := 1) w dX10_save_0 rfl rfl ?_
  refine s_iconst (pc2 := 2) (v := 0) w dX10_save_1 rfl rfl ?_
  refine s_iconst (pc2 := 3) (v := 1) w dX10_save_2 rfl rfl ?_
  refine r_X10_requireRange (pc2 := 6) w dX10_save_3 rfl rfl rfl (Nat.le_of_ble_eq_true rfl) (fun h3 => ?_) (fun h => q1 h _ _ (COk.ini hp0))
  obtain ⟨q, rfl, qh⟩ := ix_b (b := 1) (by decide) h3
  rw [cN_n q (by omega)] at q0
  have jq : gk_kd (103 + 43 * q) = 4 := (by decide : ∀ q, q < 2 → gk_kd (103 + 43 * q) = 4) q (by omega)
  have bq : BLK (103 + 43 * q) := by unfold BLK; omega
  refine s_aload_n (pc2 := 7) w dX10_save_6 rfl rfl ?_
  refine m_getR (pc2 := 10) (ci := 9) (k := 2) (j2 := 87) w dX10_save_7 rfl rfl rfl rfl rfl rfl ?_
  refine s_iload_n (pc2 := 11) w dX10_save_10 rfl rfl ?_
  refine m_aaloadN (pc2 := 12) (t := q) (kd := 27) (j2 := (103 + 43 * q)) (N := 2) w dX10_save_11 rfl rfl rfl rfl rfl rfl (by omega) rfl (by show 87 + (16 + 43 * q) = 103 + 43 * q; omega) ?_
  refine s_aload_n (pc2 := 13) w dX10_save_12 rfl rfl ?_
  refine m_getR (pc2 := 16) (ci := 9) (k := 0) (j2 := 1) w dX10_save_13 rfl rfl rfl rfl rfl rfl ?_
  refine r_X4_copyFrom (pc2 := 19) w dX10_save_16 rfl rfl rfl jq rfl bq (Or.inl rfl) (by omega) hp0 hp1.1 (fun x1 y1 u1 u2 u3 => ?_)
  refine s_aload_n (pc2 := 20) w dX10_save_19 rfl rfl ?_
  refine m_getR (pc2 := 23) (ci := 9) (k := 3) (j2 := 88) w dX10_save_20 rfl rfl rfl rfl rfl rfl ?_
  refine s_iload_n (pc2 := 24) w dX10_save_23 rfl rfl ?_
  refine s_iconst (pc2 := 25) (v := 1) w dX10_save_24 rfl rfl ?_
  refine m_bastoreN (pc2 := 26) (t := q) (N := 2) w dX10_save_25 rfl rfl rfl rfl (by omega) rfl (by decide) ?_
  refine s_return w dX10_save_26 rfl ?_
  exact q0 h3 _ _ (u1.cg hp1.1 (fun i k h1 h2 => gk_up_ne (by omega)) (fun k => rfl)) (gk_up_in _ _ _ _) (fun i k h1 h2 => (gk_up_ne h2).trans (u2 i k (by omega))) u3
theorem lk_X10_save {l : Launch} (hl : l.stackTraces = false) : ∀ q ∈ L_X10_save, (q.2.1 < 5 → gk_Lk l RX10 gk_W1 7 q.1 q.2.1 q.2.2.1 q.2.2.2.1 q.2.2.2.2.1 q.2.2.2.2.2) := (List.forall_mem_cons.mpr ⟨(fun _ => ⟨yX10_requireRange, cX10_requireRange, 3, none, 6, _, M_X10_requireRange hl, ⟨by decide, by decide⟩, ⟨by decide, by decide, by decide +kernel⟩, ⟨(gk_wm 733 (by decide +kernel)), (gk_wm 89 (by decide +kernel))⟩, Or.inl ⟨rfl, rfl, (gk_wm 732 (by decide +kernel)), gk_wm 731 (by decide +kernel)⟩⟩), (List.forall_mem_cons.mpr ⟨(fun _ => ⟨yX4_copyFrom, cX4_copyFrom, 3, none, 3, _, M_X4_copyFrom hl, ⟨by decide, by decide⟩, ⟨by decide, by decide, by decide +kernel⟩, ⟨(gk_wm 696 (by decide +kernel)), (gk_wm 90 (by decide +kernel))⟩, Or.inr (Or.inr (Or.inr (Or.inl ⟨rfl, rfl, (gk_wm 694 (by decide +kernel)), (gk_wm 695 (by decide +kernel)), gk_wm 693 (by decide +kernel), by decide, rfl⟩)))⟩), (fun _ h => absurd h List.not_mem_nil)⟩)⟩)
theorem sp_X10_save : ∀ q ∈ L_X10_save, gk_Sq RX10 gk_W1 7 q := (List.forall_mem_cons.mpr ⟨⟨fun h => absurd h (by decide), fun h => absurd h (by decide), fun h => absurd h (by decide), fun h => absurd h (by decide), fun h => absurd h (by decide), fun h => absurd h (by decide)⟩, (List.forall_mem_cons.mpr ⟨⟨fun h => absurd h (by decide), fun h => absurd h (by decide), fun h => absurd h (by decide), fun h => absurd h (by decide), fun h => absurd h (by decide), fun h => absurd h (by decide)⟩, (fun _ h => absurd h List.not_mem_nil)⟩)⟩)
theorem M_X10_save {l : Launch} (hl : l.stackTraces = false) : gk_Mt l yX10_save (.code yX10_save cX10_save 2 none :: gk_W1) 7 1 S_X10_save := gk_meth hl gk_cw_ok (by decide +kernel) rfl m_X10_save pX10_ok (gk_Sp_of sp_X10_save) pX10_st (fun ci m S h => absurd h (by intro h; cases h)) (xf_X10 (by decide)) (fun idx kd ci mm cost S2 h h5 => lk_X10_save hl _ (gk_lk_mem h) h5)

def S_X10_restore : gk_S := fun as n fl x y K => ∃ (s : Int32) (g : Nat → Int32) (h : Nat → Int32), as = [.ref 0, .int s] ∧ (n = 202 ∧ fl = gk_fT) ∧ (RS 1 g x y) ∧ (gOK g) ∧ ((0 ≤ s ∧ s ≤ 1) → ¬ x 88 (cN s) = 0 → RS (103 + 43 * cN s) h x y ∧ gWf h) ∧ ((0 ≤ s ∧ s ≤ 1) → (¬ x 88 (cN s) = 0) → ∀ (x2 : gk_X) (y2 : gk_Y), COk h x x2 y y2 → K (.inl none) n fl x2 y2) ∧ (¬ (0 ≤ s ∧ s ≤ 1) → ∀ (x2 : gk_X) (y2 : gk_Y), COk g x x2 y y2 → K (.inr 0) n fl x2 y2) ∧ ((0 ≤ s ∧ s ≤ 1) → ¬ (¬ x 88 (cN s) = 0) → ∀ (x2 : gk_X) (y2 : gk_Y), COk g x x2 y y2 → K (.inr 1) n fl x2 y2)
theorem r_X10_restore (w : gk_W c P cs (fun _ _ => none) rt uf sc K V) {idx : Nat} {s : Int32} {g : Nat → Int32} {h : Nat → Int32} (hd : decode c pc = .ok (.invokevirtual idx, 3)) (hp : pc + 3 = pc2) (hc : cs idx = some (1, 9, 2, 2, S_X10_restore)) (h8 : Nat.ble (r.map Value.category).sum 8 = true) (hu : u + 2 ≤ uf) (hp0 : RS 1 g x y) (hp1 : gOK g) (hp2 : (0 ≤ s ∧ s ≤ 1) → ¬ x 88 (cN s) = 0 → RS (103 + 43 * cN s) h x y ∧ gWf h) (kk0 : (0 ≤ s ∧ s ≤ 1) → (¬ x 88 (cN s) = 0) → ∀ (x2 : gk_X) (y2 : gk_Y), COk h x x2 y y2 → V pc2 L r 202 gk_fT x2 y2 (u + 2)) (kk1 : ¬ (0 ≤ s ∧ s ≤ 1) → ∀ (x2 : gk_X) (y2 : gk_Y), COk g x x2 y y2 → K (.inr 0) 202 gk_fT x2 y2) (kk2 : (0 ≤ s ∧ s ≤ 1) → ¬ (¬ x 88 (cN s) = 0) → ∀ (x2 : gk_X) (y2 : gk_Y), COk g x x2 y y2 → K (.inr 1) 202 gk_fT x2 y2) : V pc L (.int s :: .ref 0 :: r) 202 gk_fT x y u :=
  g_callv w hd hp hc (as := [.ref 0, .int s]) rfl h8 rfl rfl rfl (Or.inr (Or.inl ⟨Or.inl rfl, _, _, rfl, (gk_kd_j rfl rfl), rfl⟩)) (Or.inr hu) ⟨s, g, h, rfl, ⟨rfl, rfl⟩, hp0, hp1, hp2, kk0, kk1, kk2⟩
def L_X10_restore : List (Nat × gk_M0) := [(55, (0, 9, 3, 1, S_X10_requireRange)), (262, (1, 4, 2, 0, S_X4_copyFrom))]
def cs_X10_restore : Nat → Option gk_M0 := gk_lk L_X10_restore
theorem m_X10_restore : ∀ (as : List Value) (n : Nat) (fl : gk_F) (x : gk_X) (y : gk_Y) (K : gk_K), S_X10_restore as n fl x y K → (gk_L0 as).length ≤ 2 ∧ ∀ V : gk_V, gk_W cX10_restore pX10 cs_X10_restore (fun _ _ => none) none 2 none K V → V 0 (gk_en as 2) [] n fl x y 0 := by
  intro as n fl x y K hS
  obtain ⟨s, g, h, rfl, ⟨rfl, rfl⟩, hp0, hp1, hp2, q0, q1, q2⟩ := hS
  refine ⟨Nat.le_of_ble_eq_true rfl, fun V w => ?_⟩
  show V 0 [some (.ref 0), some (.int s)] [] 202 gk_fT x y 0
  refine s_iload_n (pc2 := 1) w dX10_restore_0 rfl rfl ?_
  refine s_iconst (pc2 := 2) (v := 0) w dX10_restore_1 rfl rfl ?_
  refine s_iconst (pc2 := 3) (v := 1) w dX10_restore_2 rfl rfl ?_
  refine r_X10_requireRange (pc2 := 6) w dX10_restore_3 rfl rfl rfl (Nat.le_of_ble_eq_true rfl) (fun h3 => ?_) (fun h => q1 h _ _ (COk.ini hp0))
  obtain ⟨q, rfl, qh⟩ := ix_b (b := 1) (by decide) h3
  rw [cN_n q (by omega)] at q0 q2 hp2
  have jq : gk_kd (103 + 43 * q) = 4 := (by decide : ∀ q, q < 2 → gk_kd (103 + 43 * q) = 4) q (by omega)
  have bq : BLK (103 + 43 * q) := by unfold BLK; omega
  refine s_aload_n (pc2 := 7) w dX10_restore_6 rfl rfl ?_
  refine m_getR (pc2 := 10) (ci := 9) (k := 3) (j2 := 88) w dX10_restore_7 rfl rfl rfl rfl rfl rfl ?_
  refine s_iload_n (pc2 := 11) w dX10_restore_10 rfl rfl ?_
  refine m_baloadN (pc2 := 12) (t := q) (N := 2) w dX10_restore_11 rfl rfl rfl rfl (by omega) rfl ?_
  refine s_if_ne (pc2 := 15) (tgt := 26) w dX10_restore_12 rfl (by decide) (fun c12 => ?_) (fun c12 => ?_)
  · refine s_aload_n (pc2 := 27) w dX10_restore_26 rfl rfl ?_
    refine m_getR (pc2 := 30) (ci := 9) (k := 0) (j2 := 1) w dX10_restore_27 rfl rfl rfl rfl rfl rfl ?_
    refine s_aload_n (pc2 := 31) w dX10_restore_30 rfl rfl ?_
    refine m_getR (pc2 := 34) (ci := 9) (k := 2) (j2 := 87) w dX10_restore_31 rfl rfl rfl rfl rfl rfl ?_
    refine s_iload_n (pc2 := 35) w dX10_restore_34 rfl rfl ?_
    refine m_aaloadN (pc2 := 36) (t := q) (kd := 27) (j2 := (103 + 43 * q)) (N := 2) w dX10_restore_35 rfl rfl rfl rfl rfl rfl (by omega) rfl (by show 87 + (16 + 43 * q) = 103 + 43 * q; omega) ?_
    refine r_X4_copyFrom (pc2 := 39) w dX10_restore_36 rfl rfl rfl rfl jq (Or.inl rfl) bq (by omega) (hp2 h3 c12).1 (hp2 h3 c12).2 (fun x1 y1 u1 u2 u3 => ?_)
    refine s_return w dX10_restore_39 rfl ?_
    exact q0 h3 c12 _ _ ⟨u1, fun i k h => u2 i k (by omega), fun i k h => u3 i k (by omega)⟩
  · refine g_throwW (ek := 1) w dX10_restore_15 rfl dX10_restore_18 dX10_restore_19 rfl dX10_restore_22 rfl dX10_restore_25 rfl (Nat.le_of_ble_eq_true rfl) ?_
    exact q2 h3 (fun hc => hc c12) _ _ (COk.ini hp0)
theorem lk_X10_restore {l : Launch} (hl : l.stackTraces = false) : ∀ q ∈ L_X10_restore, (q.2.1 < 5 → gk_Lk l RX10 gk_W1 7 q.1 q.2.1 q.2.2.1 q.2.2.2.1 q.2.2.2.2.1 q.2.2.2.2.2) := (List.forall_mem_cons.mpr ⟨(fun _ => ⟨yX10_requireRange, cX10_requireRange, 3, none, 6, _, M_X10_requireRange hl, ⟨by decide, by decide⟩, ⟨by decide, by decide, by decide +kernel⟩, ⟨(gk_wm 733 (by decide +kernel)), (gk_wm 89 (by decide +kernel))⟩, Or.inl ⟨rfl, rfl, (gk_wm 732 (by decide +kernel)), gk_wm 731 (by decide +kernel)⟩⟩), (List.forall_mem_cons.mpr ⟨(fun _ => ⟨yX4_copyFrom, cX4_copyFrom, 3, none, 3, _, M_X4_copyFrom hl, ⟨by decide, by decide⟩, ⟨by decide, by decide, by decide +kernel⟩, ⟨(gk_wm 696 (by decide +kernel)), (gk_wm 90 (by decide +kernel))⟩, Or.inr (Or.inr (Or.inr (Or.inl ⟨rfl, rfl, (gk_wm 694 (by decide +kernel)), (gk_wm 695 (by decide +kernel)), gk_wm 693 (by decide +kernel), by decide, rfl⟩)))⟩), (fun _ h => absurd h List.not_mem_nil)⟩)⟩)
theorem sp_X10_restore : ∀ q ∈ L_X10_restore, gk_Sq RX10 gk_W1 7 q := (List.forall_mem_cons.mpr ⟨⟨fun h => absurd h (by decide), fun h => absurd h (by decide), fun h => absurd h (by decide), fun h => absurd h (by decide), fun h => absurd h (by decide), fun h => absurd h (by decide)⟩, (List.forall_mem_cons.mpr ⟨⟨fun h => absurd h (by decide), fun h => absurd h (by decide), fun h => absurd h (by decide), fun h => absurd h (by decide), fun h => absurd h (by decide), fun h => absurd h (by decide)⟩, (fun _ h => absurd h List.not_mem_nil)⟩)⟩)
theorem M_X10_restore {l : Launch} (hl : l.stackTraces = false) : gk_Mt l yX10_restore (.code yX10_restore cX10_restore 2 none :: gk_W1) 7 2 S_X10_restore := gk_meth hl gk_cw_ok (by decide +kernel) rfl m_X10_restore pX10_ok (gk_Sp_of sp_X10_restore) pX10_st (fun ci m S h => absurd h (by intro h; cases h)) (xf_X10 (by decide)) (fun idx kd ci mm cost S2 h h5 => lk_X10_restore hl _ (gk_lk_mem h) h5)

end GKV

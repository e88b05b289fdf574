/-! THE METHODS, 30: the reference, what changes its state -/
section GKV
variable {c : ByteArray} {P : gk_C} {cs : Nat → Option gk_M0} {rt : Option FieldType} {uf : Nat} {sc : Option Nat} {K : gk_K} {V : gk_V}
variable {L : List (Option Value)} {r : List Value} {n : Nat} {fl : gk_F} {x : gk_X} {y : gk_Y} {u pc pc2 : Nat}
theorem MG.st {g : Nat → Int32} {x : gk_X} (h : MG g x) (k : Nat) (v : Int32) : MG (gU g k v) (gk_up x 190 k v) := by
  intro i hi
  unfold gk_up gU
  by_cases e : i = k
  · rw [if_pos ⟨rfl, e⟩, if_pos e]
  · rw [if_neg (fun h => e h.2), if_neg e]; exact h i hi
theorem MOk.mg {g g2 : Nat → Int32} {t : Int32} {x x2 x3 : gk_X} {y y2 : gk_Y} (h : MOk g t x x2 y y2) (h1 : MG g2 x3) (h2 : ∀ i k, i ≠ 190 → x3 i k = x2 i k) : MOk g2 t x x3 y y2 := ⟨h1, (h2 _ _ (by decide)).trans h.2.1, fun i k h3 => (h2 i k (by omega)).trans (h.2.2.1 i k h3), h.2.2.2⟩
theorem MOk.inj {g : Nat → Int32} {x : gk_X} {y : gk_Y} (h : MG g x) (v : Int32) : MOk g v x (gk_up x 189 4 v) y y := ⟨fun k hk => (gk_up_ne (by omega)).trans (h k hk), gk_up_in _ _ _ _, fun i k h => gk_up_ne (by omega), fun _ _ _ => rfl⟩
def gAV (g : Nat → Int32) (n : Nat) (a b e : Int32) : Nat → Int32 := gU (gU (gU (gU g (16 + 3 * n + 0) a) (16 + 3 * n + 1) b) (16 + 3 * n + 2) e) 6 (nI (n + 1))
def gAS0 (g : Nat → Int32) (n : Nat) (a b e d : Int32) : Nat → Int32 := gU (gU (gU (gU (gU (gU g (28 + 21 * n + 0) a) (28 + 21 * n + 1) b) (28 + 21 * n + 2) e) (28 + 21 * n + 3) d) (28 + 21 * n + 4) 0) 7 (nI (n + 1))
def gAM (g : Nat → Int32) (n : Nat) (a b e d : Int32) : Nat → Int32 := gU (gU (gU (gU (gU g (154 + 4 * n + 0) a) (154 + 4 * n + 1) b) (154 + 4 * n + 2) e) (154 + 4 * n + 3) d) 8 (nI (n + 1))
def gVA (g : Nat → Int32) (a : Nat) (v : Int32) : Nat → Int32 := gU (gU g (28 + 21 * a + 5 + sW g a) v) (28 + 21 * a + 4) (nI (sW g a + 1))
def gAS (g : Nat → Int32) (n : Nat) (a b e d v : Int32) : Nat → Int32 := gU (gU (gAS0 g n a b e d) (28 + 21 * n + 5 + 0) v) (28 + 21 * n + 4) (nI (0 + 1))
def gFO (g : Nat → Int32) (k v a b h : Int32) : Nat → Int32 := gU (gU (gU (gU (gU g 10 k) 11 v) 12 a) 13 b) 14 h
theorem ct_lt {g : Nat → Int32} {k n N : Nat} {v : Int32} (e : g k = nI n) (h : n ≤ N) (hv : nI N = v) (h2 : ¬ g k = v) : n < N := by
  rcases Nat.lt_or_ge n N with h3 | h3
  · exact h3
  · exact absurd (e.trans (by rw [show n = N by omega]; exact hv)) h2
def S_X11_appendVehicle : gk_S := fun as n fl x y K => ∃ (a : Int32) (b : Int32) (e : Int32) (g : Nat → Int32) (n0 : Nat), as = [.ref 189, .int a, .int b, .int e] ∧ (n = 202 ∧ fl = gk_fT) ∧ (MG g x) ∧ (g 6 = nI n0) ∧ (n0 < 4) ∧ (∀ x2 : gk_X, MG (gAV g n0 a b e) x2 → (∀ i k, i ≠ 190 → x2 i k = x i k) → K (.inl (some (.int (nI n0)))) n fl x2 y)
theorem r_X11_appendVehicle (w : gk_W c P cs (fun _ _ => none) rt uf sc K V) {idx : Nat} {a : Int32} {b : Int32} {e : Int32} {g : Nat → Int32} {n0 : Nat} (hd : decode c pc = .ok (.invokevirtual idx, 3)) (hp : pc + 3 = pc2) (hc : cs idx = some (1, 10, 4, 0, S_X11_appendVehicle)) (h8 : Nat.ble (r.map Value.category).sum 8 = true) (hp0 : MG g x) (hp1 : g 6 = nI n0) (hp2 : n0 < 4) (kk0 : ∀ x2 : gk_X, MG (gAV g n0 a b e) x2 → (∀ i k, i ≠ 190 → x2 i k = x i k) → V pc2 L ((.int (nI n0)) :: r) 202 gk_fT x2 y u) : V pc L (.int e :: .int b :: .int a :: .ref 189 :: r) 202 gk_fT x y u :=
  g_callv w hd hp hc (as := [.ref 189, .int a, .int b, .int e]) rfl h8 rfl rfl rfl (Or.inr (Or.inl ⟨Or.inl rfl, _, _, rfl, (gk_kd_j rfl rfl), rfl⟩)) (Or.inl rfl) ⟨a, b, e, g, n0, rfl, ⟨rfl, rfl⟩, hp0, hp1, hp2, kk0⟩
def L_X11_appendVehicle : List (Nat × gk_M0) := []
def cs_X11_appendVehicle : Nat → Option gk_M0 := gk_lk L_X11_appendVehicle
theorem m_X11_appendVehicle : ∀ (as : List Value) (n : Nat) (fl : gk_F) (x : gk_X) (y : gk_Y) (K : gk_K), S_X11_appendVehicle as n fl x y K → (gk_L0 as).length ≤ 5 ∧ ∀ V : gk_V, gk_W cX11_appendVehicle pX11 cs_X11_appendVehicle (fun _ _ => none) (some .int) 0 none K V → V 0 (gk_en as 5) [] n fl x y 0 := by
  intro as n fl x y K hS
  obtain ⟨a, b, e, g, n0, rfl, ⟨rfl, rfl⟩, hp0, hp1, hp2, q0⟩ := hS
  refine ⟨Nat.le_of_ble_eq_true rfl, fun V w => ?_⟩
  show V 0 [some (.ref 189), some (.int a), some (.int b), some (.int e), none] [] 202 gk_fT x y 0
  have ep : gI 16 + gI 3 * nI n0 = nI (16 + 3 * n0) := by rw [gI_nI n0, gI_mul, gI_add]; exact congrArg gI (show (16 : Int) + 3 * (n0 : Int) = ((16 + 3 * n0 : Nat) : Int) by omega)
  refine s_bipush (pc2 := 2) (v := gI 16) w dX11_appendVehicle_0 rfl rfl ?_
  refine s_iconst (pc2 := 3) (v := gI 3) w dX11_appendVehicle_2 rfl rfl ?_
  refine s_aload_n (pc2 := 4) w dX11_appendVehicle_3 rfl rfl ?_
  refine m_getR (pc2 := 7) (ci := 10) (k := 0) (j2 := 190) w dX11_appendVehicle_4 rfl rfl rfl rfl rfl rfl ?_
  refine s_bipush (pc2 := 9) (v := gI 6) w dX11_appendVehicle_7 rfl rfl ?_
  refine m_ialoadN (pc2 := 10) (t := 6) (N := 2234) w dX11_appendVehicle_9 rfl rfl rfl rfl (by decide) rfl ?_
  rw [hp0 6 (by decide), hp1]
  refine s_imul (pc2 := 11) w dX11_appendVehicle_10 rfl ?_
  refine s_iadd (pc2 := 12) w dX11_appendVehicle_11 rfl ?_
  rw [ep]
  refine s_istore (pc2 := 14) w dX11_appendVehicle_12 rfl rfl ?_
  dsimp only [gk_s1, gk_s2, gk_cl]
  refine s_aload_n (pc2 := 15) w dX11_appendVehicle_14 rfl rfl ?_
  refine m_getR (pc2 := 18) (ci := 10) (k := 0) (j2 := 190) w dX11_appendVehicle_15 rfl rfl rfl rfl rfl rfl ?_
  refine s_iload (pc2 := 20) w dX11_appendVehicle_18 rfl rfl ?_
  refine s_iconst (pc2 := 21) (v := gI 0) w dX11_appendVehicle_20 rfl rfl ?_
  refine s_iadd (pc2 := 22) w dX11_appendVehicle_21 rfl ?_
  refine s_iload_n (pc2 := 23) w dX11_appendVehicle_22 rfl rfl ?_
  refine m_iastoreN (pc2 := 24) (t := 16 + 3 * n0 + 0) (N := 2234) w dX11_appendVehicle_23 rfl rfl rfl (by simp only [gI_nI, gI_add, gI_mul, gI_sub, gI_inc]; exact congrArg gI (by omega)) (by omega) rfl ?_
  refine s_aload_n (pc2 := 25) w dX11_appendVehicle_24 rfl rfl ?_
  refine m_getR (pc2 := 28) (ci := 10) (k := 0) (j2 := 190) w dX11_appendVehicle_25 rfl rfl rfl rfl rfl rfl ?_
  refine s_iload (pc2 := 30) w dX11_appendVehicle_28 rfl rfl ?_
  refine s_iconst (pc2 := 31) (v := gI 1) w dX11_appendVehicle_30 rfl rfl ?_
  refine s_iadd (pc2 := 32) w dX11_appendVehicle_31 rfl ?_
  refine s_iload_n (pc2 := 33) w dX11_appendVehicle_32 rfl rfl ?_
  refine m_iastoreN (pc2 := 34) (t := 16 + 3 * n0 + 1) (N := 2234) w dX11_appendVehicle_33 rfl rfl rfl (by simp only [gI_nI, gI_add, gI_mul, gI_sub, gI_inc]; exact congrArg gI (by omega)) (by omega) rfl ?_
  refine s_aload_n (pc2 := 35) w dX11_appendVehicle_34 rfl rfl ?_
  refine m_getR (pc2 := 38) (ci := 10) (k := 0) (j2 := 190) w dX11_appendVehicle_35 rfl rfl rfl rfl rfl rfl ?_
  refine s_iload (pc2 := 40) w dX11_appendVehicle_38 rfl rfl ?_
  refine s_iconst (pc2 := 41) (v := gI 2) w dX11_appendVehicle_40 rfl rfl ?_
  refine s_iadd (pc2 := 42) w dX11_appendVehicle_41 rfl ?_
  refine s_iload_n (pc2 := 43) w dX11_appendVehicle_42 rfl rfl ?_
  refine m_iastoreN (pc2 := 44) (t := 16 + 3 * n0 + 2) (N := 2234) w dX11_appendVehicle_43 rfl rfl rfl (by simp only [gI_nI, gI_add, gI_mul, gI_sub, gI_inc]; exact congrArg gI (by omega)) (by omega) rfl ?_
  refine s_aload_n (pc2 := 45) w dX11_appendVehicle_44 rfl rfl ?_
  refine m_getR (pc2 := 48) (ci := 10) (k := 0) (j2 := 190) w dX11_appendVehicle_45 rfl rfl rfl rfl rfl rfl ?_
  refine s_bipush (pc2 := 50) (v := gI 6) w dX11_appendVehicle_48 rfl rfl ?_
  refine s_dup2 (pc2 := 51) w dX11_appendVehicle_50 rfl rfl rfl ?_
  refine m_ialoadN (pc2 := 52) (t := 6) (N := 2234) w dX11_appendVehicle_51 rfl rfl rfl rfl (by decide) rfl ?_
  rw [gk_up_ne (show ¬ (190 = 190 ∧ 6 = 16 + 3 * n0 + 2) by omega), gk_up_ne (show ¬ (190 = 190 ∧ 6 = 16 + 3 * n0 + 1) by omega), gk_up_ne (show ¬ (190 = 190 ∧ 6 = 16 + 3 * n0 + 0) by omega), hp0 6 (by decide), hp1]
  refine s_iconst (pc2 := 53) (v := gI 1) w dX11_appendVehicle_52 rfl rfl ?_
  refine s_iadd (pc2 := 54) w dX11_appendVehicle_53 rfl ?_
  rw [show nI n0 + gI 1 = nI (n0 + 1) from nI_s n0]
  refine m_iastoreN (pc2 := 55) (t := 6) (N := 2234) w dX11_appendVehicle_54 rfl rfl rfl rfl (by decide) rfl ?_
  refine s_aload_n (pc2 := 56) w dX11_appendVehicle_55 rfl rfl ?_
  refine m_getR (pc2 := 59) (ci := 10) (k := 0) (j2 := 190) w dX11_appendVehicle_56 rfl rfl rfl rfl rfl rfl ?_
  refine s_bipush (pc2 := 61) (v := gI 6) w dX11_appendVehicle_59 rfl rfl ?_
  refine m_ialoadN (pc2 := 62) (t := 6) (N := 2234) w dX11_appendVehicle_61 rfl rfl rfl rfl (by decide) rfl ?_
  rw [gk_up_in]
  refine s_iconst (pc2 := 63) (v := gI 1) w dX11_appendVehicle_62 rfl rfl ?_
  refine s_isub (pc2 := 64) w dX11_appendVehicle_63 rfl ?_
  rw [nI_p]
  refine s_ireturn w dX11_appendVehicle_64 rfl rfl ?_
  exact q0 _ ((((hp0.st (16 + 3 * n0 + 0) a).st (16 + 3 * n0 + 1) b).st (16 + 3 * n0 + 2) e).st 6 (nI (n0 + 1))) (fun i k h => ((gk_up_ne (fun h2 => h h2.1)).trans ((gk_up_ne (fun h2 => h h2.1)).trans ((gk_up_ne (fun h2 => h h2.1)).trans (gk_up_ne (fun h2 => h h2.1))))))
theorem lk_X11_appendVehicle {l : Launch} (hl : l.stackTraces = false) : ∀ q ∈ L_X11_appendVehicle, (q.2.1 < 5 → gk_Lk l RX11 gk_W1 0 q.1 q.2.1 q.2.2.1 q.2.2.2.1 q.2.2.2.2.1 q.2.2.2.2.2) := (fun _ h => absurd h List.not_mem_nil)
theorem sp_X11_appendVehicle : ∀ q ∈ L_X11_appendVehicle, gk_Sq RX11 gk_W1 0 q := (fun _ h => absurd h List.not_mem_nil)
theorem M_X11_appendVehicle {l : Launch} (hl : l.stackTraces = false) : gk_Mt l yX11_appendVehicle (.code yX11_appendVehicle cX11_appendVehicle 5 (some .int) :: gk_W1) 0 0 S_X11_appendVehicle := gk_meth hl gk_cw_ok (by decide +kernel) rfl m_X11_appendVehicle pX11_ok (gk_Sp_of sp_X11_appendVehicle) pX11_st (fun ci m S h => absurd h (by intro h; cases h)) (xf_X11 0) (fun idx kd ci mm cost S2 h h5 => lk_X11_appendVehicle hl _ (gk_lk_mem h) h5)

def S_X11_appendSource : gk_S := fun as n fl x y K => ∃ (a : Int32) (b : Int32) (e : Int32) (d : Int32) (g : Nat → Int32) (n0 : Nat), as = [.ref 189, .int a, .int b, .int e, .int d] ∧ (n = 202 ∧ fl = gk_fT) ∧ (MG g x) ∧ (g 7 = nI n0) ∧ (n0 < 6) ∧ (∀ x2 : gk_X, MG (gAS0 g n0 a b e d) x2 → (∀ i k, i ≠ 190 → x2 i k = x i k) → K (.inl (some (.int (nI n0)))) n fl x2 y)
theorem r_X11_appendSource (w : gk_W c P cs (fun _ _ => none) rt uf sc K V) {idx : Nat} {a : Int32} {b : Int32} {e : Int32} {d : Int32} {g : Nat → Int32} {n0 : Nat} (hd : decode c pc = .ok (.invokevirtual idx, 3)) (hp : pc + 3 = pc2) (hc : cs idx = some (1, 10, 5, 0, S_X11_appendSource)) (h8 : Nat.ble (r.map Value.category).sum 8 = true) (hp0 : MG g x) (hp1 : g 7 = nI n0) (hp2 : n0 < 6) (kk0 : ∀ x2 : gk_X, MG (gAS0 g n0 a b e d) x2 → (∀ i k, i ≠ 190 → x2 i k = x i k) → V pc2 L ((.int (nI n0)) :: r) 202 gk_fT x2 y u) : V pc L (.int d :: .int e :: .int b :: .int a :: .ref 189 :: r) 202 gk_fT x y u :=
  g_callv w hd hp hc (as := [.ref 189, .int a, .int b, .int e, .int d]) rfl h8 rfl rfl rfl (Or.inr (Or.inl ⟨Or.inl rfl, _, _, rfl, (gk_kd_j rfl rfl), rfl⟩)) (Or.inl rfl) ⟨a, b, e, d, g, n0, rfl, ⟨rfl, rfl⟩, hp0, hp1, hp2, kk0⟩
def L_X11_appendSource : List (Nat × gk_M0) := []
def cs_X11_appendSource : Nat → Option gk_M0 := gk_lk L_X11_appendSource
theorem m_X11_appendSource : ∀ (as : List Value) (n : Nat) (fl : gk_F) (x : gk_X) (y : gk_Y) (K : gk_K), S_X11_appendSource as n fl x y K → (gk_L0 as).length ≤ 6 ∧ ∀ V : gk_V, gk_W cX11_appendSource pX11 cs_X11_appendSource (fun _ _ => none) (some .int) 0 none K V → V 0 (gk_en as 6) [] n fl x y 0 := by
  intro as n fl x y K hS
  obtain ⟨a, b, e, d, g, n0, rfl, ⟨rfl, rfl⟩, hp0, hp1, hp2, q0⟩ := hS
  refine ⟨Nat.le_of_ble_eq_true rfl, fun V w => ?_⟩
  show V 0 [some (.ref 189), some (.int a), some (.int b), some (.int e), some (.int d), none] [] 202 gk_fT x y 0
  have ep : gI 28 + gI 21 * nI n0 = nI (28 + 21 * n0) := by rw [gI_nI n0, gI_mul, gI_add]; exact congrArg gI (show (28 : Int) + 21 * (n0 : Int) = ((28 + 21 * n0 : Nat) : Int) by omega)
  refine s_bipush (pc2 := 2) (v := gI 28) w dX11_appendSource_0 rfl rfl ?_
  refine s_bipush (pc2 := 4) (v := gI 21) w dX11_appendSource_2 rfl rfl ?_
  refine s_aload_n (pc2 := 5) w dX11_appendSource_4 rfl rfl ?_
  refine m_getR (pc2 := 8) (ci := 10) (k := 0) (j2 := 190) w dX11_appendSource_5 rfl rfl rfl rfl rfl rfl ?_
  refine s_bipush (pc2 := 10) (v := gI 7) w dX11_appendSource_8 rfl rfl ?_
  refine m_ialoadN (pc2 := 11) (t := 7) (N := 2234) w dX11_appendSource_10 rfl rfl rfl rfl (by decide) rfl ?_
  rw [hp0 7 (by decide), hp1]
  refine s_imul (pc2 := 12) w dX11_appendSource_11 rfl ?_
  refine s_iadd (pc2 := 13) w dX11_appendSource_12 rfl ?_
  rw [ep]
  refine s_istore (pc2 := 15) w dX11_appendSource_13 rfl rfl ?_
  dsimp only [gk_s1, gk_s2, gk_cl]
  refine s_aload_n (pc2 := 16) w dX11_appendSource_15 rfl rfl ?_
  refine m_getR (pc2 := 19) (ci := 10) (k := 0) (j2 := 190) w dX11_appendSource_16 rfl rfl rfl rfl rfl rfl ?_
  refine s_iload (pc2 := 21) w dX11_appendSource_19 rfl rfl ?_
  refine s_iconst (pc2 := 22) (v := gI 0) w dX11_appendSource_21 rfl rfl ?_
  refine s_iadd (pc2 := 23) w dX11_appendSource_22 rfl ?_
  refine s_iload_n (pc2 := 24) w dX11_appendSource_23 rfl rfl ?_
  refine m_iastoreN (pc2 := 25) (t := 28 + 21 * n0 + 0) (N := 2234) w dX11_appendSource_24 rfl rfl rfl (by simp only [gI_nI, gI_add, gI_mul, gI_sub, gI_inc]; exact congrArg gI (by omega)) (by omega) rfl ?_
  refine s_aload_n (pc2 := 26) w dX11_appendSource_25 rfl rfl ?_
  refine m_getR (pc2 := 29) (ci := 10) (k := 0) (j2 := 190) w dX11_appendSource_26 rfl rfl rfl rfl rfl rfl ?_
  refine s_iload (pc2 := 31) w dX11_appendSource_29 rfl rfl ?_
  refine s_iconst (pc2 := 32) (v := gI 1) w dX11_appendSource_31 rfl rfl ?_
  refine s_iadd (pc2 := 33) w dX11_appendSource_32 rfl ?_
  refine s_iload_n (pc2 := 34) w dX11_appendSource_33 rfl rfl ?_
  refine m_iastoreN (pc2 := 35) (t := 28 + 21 * n0 + 1) (N := 2234) w dX11_appendSource_34 rfl rfl rfl (by simp only [gI_nI, gI_add, gI_mul, gI_sub, gI_inc]; exact congrArg gI (by omega)) (by omega) rfl ?_
  refine s_aload_n (pc2 := 36) w dX11_appendSource_35 rfl rfl ?_
  refine m_getR (pc2 := 39) (ci := 10) (k := 0) (j2 := 190) w dX11_appendSource_36 rfl rfl rfl rfl rfl rfl ?_
  refine s_iload (pc2 := 41) w dX11_appendSource_39 rfl rfl ?_
  refine s_iconst (pc2 := 42) (v := gI 2) w dX11_appendSource_41 rfl rfl ?_
  refine s_iadd (pc2 := 43) w dX11_appendSource_42 rfl ?_
  refine s_iload_n (pc2 := 44) w dX11_appendSource_43 rfl rfl ?_
  refine m_iastoreN (pc2 := 45) (t := 28 + 21 * n0 + 2) (N := 2234) w dX11_appendSource_44 rfl rfl rfl (by simp only [gI_nI, gI_add, gI_mul, gI_sub, gI_inc]; exact congrArg gI (by omega)) (by omega) rfl ?_
  refine s_aload_n (pc2 := 46) w dX11_appendSource_45 rfl rfl ?_
  refine m_getR (pc2 := 49) (ci := 10) (k := 0) (j2 := 190) w dX11_appendSource_46 rfl rfl rfl rfl rfl rfl ?_
  refine s_iload (pc2 := 51) w dX11_appendSource_49 rfl rfl ?_
  refine s_iconst (pc2 := 52) (v := gI 3) w dX11_appendSource_51 rfl rfl ?_
  refine s_iadd (pc2 := 53) w dX11_appendSource_52 rfl ?_
  refine s_iload (pc2 := 55) w dX11_appendSource_53 rfl rfl ?_
  refine m_iastoreN (pc2 := 56) (t := 28 + 21 * n0 + 3) (N := 2234) w dX11_appendSource_55 rfl rfl rfl (by simp only [gI_nI, gI_add, gI_mul, gI_sub, gI_inc]; exact congrArg gI (by omega)) (by omega) rfl ?_
  refine s_aload_n (pc2 := 57) w dX11_appendSource_56 rfl rfl ?_
  refine m_getR (pc2 := 60) (ci := 10) (k := 0) (j2 := 190) w dX11_appendSource_57 rfl rfl rfl rfl rfl rfl ?_
  refine s_iload (pc2 := 62) w dX11_appendSource_60 rfl rfl ?_
  refine s_iconst (pc2 := 63) (v := gI 4) w dX11_appendSource_62 rfl rfl ?_
  refine s_iadd (pc2 := 64) w dX11_appendSource_63 rfl ?_
  refine s_iconst (pc2 := 65) (v := gI 0) w dX11_appendSource_64 rfl rfl ?_
  refine m_iastoreN (pc2 := 66) (t := 28 + 21 * n0 + 4) (N := 2234) w dX11_appendSource_65 rfl rfl rfl (by simp only [gI_nI, gI_add, gI_mul, gI_sub, gI_inc]; exact congrArg gI (by omega)) (by omega) rfl ?_
  refine s_aload_n (pc2 := 67) w dX11_appendSource_66 rfl rfl ?_
  refine m_getR (pc2 := 70) (ci := 10) (k := 0) (j2 := 190) w dX11_appendSource_67 rfl rfl rfl rfl rfl rfl ?_
  refine s_bipush (pc2 := 72) (v := gI 7) w dX11_appendSource_70 rfl rfl ?_
  refine s_dup2 (pc2 := 73) w dX11_appendSource_72 rfl rfl rfl ?_
  refine m_ialoadN (pc2 := 74) (t := 7) (N := 2234) w dX11_appendSource_73 rfl rfl rfl rfl (by decide) rfl ?_
  rw [gk_up_ne (show ¬ (190 = 190 ∧ 7 = 28 + 21 * n0 + 4) by omega), gk_up_ne (show ¬ (190 = 190 ∧ 7 = 28 + 21 * n0 + 3) by omega), gk_up_ne (show ¬ (190 = 190 ∧ 7 = 28 + 21 * n0 + 2) by omega), gk_up_ne (show ¬ (190 = 190 ∧ 7 = 28 + 21 * n0 + 1) by omega), gk_up_ne (show ¬ (190 = 190 ∧ 7 = 28 + 21 * n0 + 0) by omega), hp0 7 (by decide), hp1]
  refine s_iconst (pc2 := 75) (v := gI 1) w dX11_appendSource_74 rfl rfl ?_
  refine s_iadd (pc2 := 76) w dX11_appendSource_75 rfl ?_
  rw [show nI n0 + gI 1 = nI (n0 + 1) from nI_s n0]
  refine m_iastoreN (pc2 := 77) (t := 7) (N := 2234) w dX11_appendSource_76 rfl rfl rfl rfl (by decide) rfl ?_
  refine s_aload_n (pc2 := 78) w dX11_appendSource_77 rfl rfl ?_
  refine m_getR (pc2 := 81) (ci := 10) (k := 0) (j2 := 190) w dX11_appendSource_78 rfl rfl rfl rfl rfl rfl ?_
  refine s_bipush (pc2 := 83) (v := gI 7) w dX11_appendSource_81 rfl rfl ?_
  refine m_ialoadN (pc2 := 84) (t := 7) (N := 2234) w dX11_appendSource_83 rfl rfl rfl rfl (by decide) rfl ?_
  rw [gk_up_in]
  refine s_iconst (pc2 := 85) (v := gI 1) w dX11_appendSource_84 rfl rfl ?_
  refine s_isub (pc2 := 86) w dX11_appendSource_85 rfl ?_
  rw [nI_p]
  refine s_ireturn w dX11_appendSource_86 rfl rfl ?_
  exact q0 _ ((((((hp0.st (28 + 21 * n0 + 0) a).st (28 + 21 * n0 + 1) b).st (28 + 21 * n0 + 2) e).st (28 + 21 * n0 + 3) d).st (28 + 21 * n0 + 4) (gI 0)).st 7 (nI (n0 + 1))) (fun i k h => ((gk_up_ne (fun h2 => h h2.1)).trans ((gk_up_ne (fun h2 => h h2.1)).trans ((gk_up_ne (fun h2 => h h2.1)).trans ((gk_up_ne (fun h2 => h h2.1)).trans ((gk_up_ne (fun h2 => h h2.1)).trans (gk_up_ne (fun h2 => h h2.1))))))))
theorem lk_X11_appendSource {l : Launch} (hl : l.stackTraces = false) : ∀ q ∈ L_X11_appendSource, (q.2.1 < 5 → gk_Lk l RX11 gk_W1 0 q.1 q.2.1 q.2.2.1 q.2.2.2.1 q.2.2.2.2.1 q.2.2.2.2.2) := (fun _ h => absurd h List.not_mem_nil)
theorem sp_X11_appendSource : ∀ q ∈ L_X11_appendSource, gk_Sq RX11 gk_W1 0 q := (fun _ h => absurd h List.not_mem_nil)
theorem M_X11_appendSource {l : Launch} (hl : l.stackTraces = false) : gk_Mt l yX11_appendSource (.code yX11_appendSource cX11_appendSource 6 (some .int) :: gk_W1) 0 0 S_X11_appendSource := gk_meth hl gk_cw_ok (by decide +kernel) rfl m_X11_appendSource pX11_ok (gk_Sp_of sp_X11_appendSource) pX11_st (fun ci m S h => absurd h (by intro h; cases h)) (xf_X11 0) (fun idx kd ci mm cost S2 h h5 => lk_X11_appendSource hl _ (gk_lk_mem h) h5)

def S_X11_appendMicrophone : gk_S := fun as n fl x y K => ∃ (a : Int32) (b : Int32) (e : Int32) (d : Int32) (g : Nat → Int32) (n0 : Nat), as = [.ref 189, .int a, .int b, .int e, .int d] ∧ (n = 202 ∧ fl = gk_fT) ∧ (MG g x) ∧ (g 8 = nI n0) ∧ (n0 < 8) ∧ (∀ x2 : gk_X, MG (gAM g n0 a b e d) x2 → (∀ i k, i ≠ 190 → x2 i k = x i k) → K (.inl (some (.int (nI n0)))) n fl x2 y)
theorem r_X11_appendMicrophone (w : gk_W c P cs (fun _ _ => none) rt uf sc K V) {idx : Nat} {a : Int32} {b : Int32} {e : Int32} {d : Int32} {g : Nat → Int32} {n0 : Nat} (hd : decode c pc = .ok (.invokevirtual idx, 3)) (hp : pc + 3 = pc2) (hc : cs idx = some (1, 10, 5, 0, S_X11_appendMicrophone)) (h8 : Nat.ble (r.map Value.category).sum 8 = true) (hp0 : MG g x) (hp1 : g 8 = nI n0) (hp2 : n0 < 8) (kk0 : ∀ x2 : gk_X, MG (gAM g n0 a b e d) x2 → (∀ i k, i ≠ 190 → x2 i k = x i k) → V pc2 L ((.int (nI n0)) :: r) 202 gk_fT x2 y u) : V pc L (.int d :: .int e :: .int b :: .int a :: .ref 189 :: r) 202 gk_fT x y u :=
  g_callv w hd hp hc (as := [.ref 189, .int a, .int b, .int e, .int d]) rfl h8 rfl rfl rfl (Or.inr (Or.inl ⟨Or.inl rfl, _, _, rfl, (gk_kd_j rfl rfl), rfl⟩)) (Or.inl rfl) ⟨a, b, e, d, g, n0, rfl, ⟨rfl, rfl⟩, hp0, hp1, hp2, kk0⟩
def L_X11_appendMicrophone : List (Nat × gk_M0) := []
def cs_X11_appendMicrophone : Nat → Option gk_M0 := gk_lk L_X11_appendMicrophone
theorem m_X11_appendMicrophone : ∀ (as : List Value) (n : Nat) (fl : gk_F) (x : gk_X) (y : gk_Y) (K : gk_K), S_X11_appendMicrophone as n fl x y K → (gk_L0 as).length ≤ 6 ∧ ∀ V : gk_V, gk_W cX11_appendMicrophone pX11 cs_X11_appendMicrophone (fun _ _ => none) (some .int) 0 none K V → V 0 (gk_en as 6) [] n fl x y 0 := by
  intro as n fl x y K hS
  obtain ⟨a, b, e, d, g, n0, rfl, ⟨rfl, rfl⟩, hp0, hp1, hp2, q0⟩ := hS
  refine ⟨Nat.le_of_ble_eq_true rfl, fun V w => ?_⟩
  show V 0 [some (.ref 189), some (.int a), some (.int b), some (.int e), some (.int d), none] [] 202 gk_fT x y 0
  have ep : gI 154 + gI 4 * nI n0 = nI (154 + 4 * n0) := by rw [gI_nI n0, gI_mul, gI_add]; exact congrArg gI (show (154 : Int) + 4 * (n0 : Int) = ((154 + 4 * n0 : Nat) : Int) by omega)
  refine s_sipush (pc2 := 3) (v := gI 154) w dX11_appendMicrophone_0 rfl rfl ?_
  refine s_iconst (pc2 := 4) (v := gI 4) w dX11_appendMicrophone_3 rfl rfl ?_
  refine s_aload_n (pc2 := 5) w dX11_appendMicrophone_4 rfl rfl ?_
  refine m_getR (pc2 := 8) (ci := 10) (k := 0) (j2 := 190) w dX11_appendMicrophone_5 rfl rfl rfl rfl rfl rfl ?_
  refine s_bipush (pc2 := 10) (v := gI 8) w dX11_appendMicrophone_8 rfl rfl ?_
  refine m_ialoadN (pc2 := 11) (t := 8) (N := 2234) w dX11_appendMicrophone_10 rfl rfl rfl rfl (by decide) rfl ?_
  rw [hp0 8 (by decide), hp1]
  refine s_imul (pc2 := 12) w dX11_appendMicrophone_11 rfl ?_
  refine s_iadd (pc2 := 13) w dX11_appendMicrophone_12 rfl ?_
  rw [ep]
  refine s_istore (pc2 := 15) w dX11_appendMicrophone_13 rfl rfl ?_
  dsimp only [gk_s1, gk_s2, gk_cl]
  refine s_aload_n (pc2 := 16) w dX11_appendMicrophone_15 rfl rfl ?_
  refine m_getR (pc2 := 19) (ci := 10) (k := 0) (j2 := 190) w dX11_appendMicrophone_16 rfl rfl rfl rfl rfl rfl ?_
  refine s_iload (pc2 := 21) w dX11_appendMicrophone_19 rfl rfl ?_
  refine s_iconst (pc2 := 22) (v := gI 0) w dX11_appendMicrophone_21 rfl rfl ?_
  refine s_iadd (pc2 := 23) w dX11_appendMicrophone_22 rfl ?_
  refine s_iload_n (pc2 := 24) w dX11_appendMicrophone_23 rfl rfl ?_
  refine m_iastoreN (pc2 := 25) (t := 154 + 4 * n0 + 0) (N := 2234) w dX11_appendMicrophone_24 rfl rfl rfl (by simp only [gI_nI, gI_add, gI_mul, gI_sub, gI_inc]; exact congrArg gI (by omega)) (by omega) rfl ?_
  refine s_aload_n (pc2 := 26) w dX11_appendMicrophone_25 rfl rfl ?_
  refine m_getR (pc2 := 29) (ci := 10) (k := 0) (j2 := 190) w dX11_appendMicrophone_26 rfl rfl rfl rfl rfl rfl ?_
  refine s_iload (pc2 := 31) w dX11_appendMicrophone_29 rfl rfl ?_
  refine s_iconst (pc2 := 32) (v := gI 1) w dX11_appendMicrophone_31 rfl rfl ?_
  refine s_iadd (pc2 := 33) w dX11_appendMicrophone_32 rfl ?_
  refine s_iload_n (pc2 := 34) w dX11_appendMicrophone_33 rfl rfl ?_
  refine m_iastoreN (pc2 := 35) (t := 154 + 4 * n0 + 1) (N := 2234) w dX11_appendMicrophone_34 rfl rfl rfl (by simp only [gI_nI, gI_add, gI_mul, gI_sub, gI_inc]; exact congrArg gI (by omega)) (by omega) rfl ?_
  refine s_aload_n (pc2 := 36) w dX11_appendMicrophone_35 rfl rfl ?_
  refine m_getR (pc2 := 39) (ci := 10) (k := 0) (j2 := 190) w dX11_appendMicrophone_36 rfl rfl rfl rfl rfl rfl ?_
  refine s_iload (pc2 := 41) w dX11_appendMicrophone_39 rfl rfl ?_
  refine s_iconst (pc2 := 42) (v := gI 2) w dX11_appendMicrophone_41 rfl rfl ?_
  refine s_iadd (pc2 := 43) w dX11_appendMicrophone_42 rfl ?_
  refine s_iload_n (pc2 := 44) w dX11_appendMicrophone_43 rfl rfl ?_
  refine m_iastoreN (pc2 := 45) (t := 154 + 4 * n0 + 2) (N := 2234) w dX11_appendMicrophone_44 rfl rfl rfl (by simp only [gI_nI, gI_add, gI_mul, gI_sub, gI_inc]; exact congrArg gI (by omega)) (by omega) rfl ?_
  refine s_aload_n (pc2 := 46) w dX11_appendMicrophone_45 rfl rfl ?_
  refine m_getR (pc2 := 49) (ci := 10) (k := 0) (j2 := 190) w dX11_appendMicrophone_46 rfl rfl rfl rfl rfl rfl ?_
  refine s_iload (pc2 := 51) w dX11_appendMicrophone_49 rfl rfl ?_
  refine s_iconst (pc2 := 52) (v := gI 3) w dX11_appendMicrophone_51 rfl rfl ?_
  refine s_iadd (pc2 := 53) w dX11_appendMicrophone_52 rfl ?_
  refine s_iload (pc2 := 55) w dX11_appendMicrophone_53 rfl rfl ?_
  refine m_iastoreN (pc2 := 56) (t := 154 + 4 * n0 + 3) (N := 2234) w dX11_appendMicrophone_55 rfl rfl rfl (by simp only [gI_nI, gI_add, gI_mul, gI_sub, gI_inc]; exact congrArg gI (by omega)) (by omega) rfl ?_
  refine s_aload_n (pc2 := 57) w dX11_appendMicrophone_56 rfl rfl ?_
  refine m_getR (pc2 := 60) (ci := 10) (k := 0) (j2 := 190) w dX11_appendMicrophone_57 rfl rfl rfl rfl rfl rfl ?_
  refine s_bipush (pc2 := 62) (v := gI 8) w dX11_appendMicrophone_60 rfl rfl ?_
  refine s_dup2 (pc2 := 63) w dX11_appendMicrophone_62 rfl rfl rfl ?_
  refine m_ialoadN (pc2 := 64) (t := 8) (N := 2234) w dX11_appendMicrophone_63 rfl rfl rfl rfl (by decide) rfl ?_
  rw [gk_up_ne (show ¬ (190 = 190 ∧ 8 = 154 + 4 * n0 + 3) by omega), gk_up_ne (show ¬ (190 = 190 ∧ 8 = 154 + 4 * n0 + 2) by omega), gk_up_ne (show ¬ (190 = 190 ∧ 8 = 154 + 4 * n0 + 1) by omega), gk_up_ne (show ¬ (190 = 190 ∧ 8 = 154 + 4 * n0 + 0) by omega), hp0 8 (by decide), hp1]
  refine s_iconst (pc2 := 65) (v := gI 1) w dX11_appendMicrophone_64 rfl rfl ?_
  refine s_iadd (pc2 := 66) w dX11_appendMicrophone_65 rfl ?_
  rw [show nI n0 + gI 1 = nI (n0 + 1) from nI_s n0]
  refine m_iastoreN (pc2 := 67) (t := 8) (N := 2234) w dX11_appendMicrophone_66 rfl rfl rfl rfl (by decide) rfl ?_
  refine s_aload_n (pc2 := 68) w dX11_appendMicrophone_67 rfl rfl ?_
  refine m_getR (pc2 := 71) (ci := 10) (k := 0) (j2 := 190) w dX11_appendMicrophone_68 rfl rfl rfl rfl rfl rfl ?_
  refine s_bipush (pc2 := 73) (v := gI 8) w dX11_appendMicrophone_71 rfl rfl ?_
  refine m_ialoadN (pc2 := 74) (t := 8) (N := 2234) w dX11_appendMicrophone_73 rfl rfl rfl rfl (by decide) rfl ?_
  rw [gk_up_in]
  refine s_iconst (pc2 := 75) (v := gI 1) w dX11_appendMicrophone_74 rfl rfl ?_
  refine s_isub (pc2 := 76) w dX11_appendMicrophone_75 rfl ?_
  rw [nI_p]
  refine s_ireturn w dX11_appendMicrophone_76 rfl rfl ?_
  exact q0 _ (((((hp0.st (154 + 4 * n0 + 0) a).st (154 + 4 * n0 + 1) b).st (154 + 4 * n0 + 2) e).st (154 + 4 * n0 + 3) d).st 8 (nI (n0 + 1))) (fun i k h => ((gk_up_ne (fun h2 => h h2.1)).trans ((gk_up_ne (fun h2 => h h2.1)).trans ((gk_up_ne (fun h2 => h h2.1)).trans ((gk_up_ne (fun h2 => h h2.1)).trans (gk_up_ne (fun h2 => h h2.1)))))))
theorem lk_X11_appendMicrophone {l : Launch} (hl : l.stackTraces = false) : ∀ q ∈ L_X11_appendMicrophone, (q.2.1 < 5 → gk_Lk l RX11 gk_W1 0 q.1 q.2.1 q.2.2.1 q.2.2.2.1 q.2.2.2.2.1 q.2.2.2.2.2) := (fun _ h => absurd h List.not_mem_nil)
theorem sp_X11_appendMicrophone : ∀ q ∈ L_X11_appendMicrophone, gk_Sq RX11 gk_W1 0 q := (fun _ h => absurd h List.not_mem_nil)
theorem M_X11_appendMicrophone {l : Launch} (hl : l.stackTraces = false) : gk_Mt l yX11_appendMicrophone (.code yX11_appendMicrophone cX11_appendMicrophone 6 (some .int) :: gk_W1) 0 0 S_X11_appendMicrophone := gk_meth hl gk_cw_ok (by decide +kernel) rfl m_X11_appendMicrophone pX11_ok (gk_Sp_of sp_X11_appendMicrophone) pX11_st (fun ci m S h => absurd h (by intro h; cases h)) (xf_X11 0) (fun idx kd ci mm cost S2 h h5 => lk_X11_appendMicrophone hl _ (gk_lk_mem h) h5)

def S_X11_appendValue : gk_S := fun as n fl x y K => ∃ (s : Int32) (v : Int32) (g : Nat → Int32) (a : Nat) (n0 : Nat), as = [.ref 189, .int s, .int v] ∧ (n = 202 ∧ fl = gk_fT) ∧ (MG g x) ∧ (s = nI a) ∧ (a < 6) ∧ (g (28 + 21 * a + 4) = nI n0) ∧ (n0 < 16) ∧ (∀ x2 : gk_X, MG (gU (gU g (28 + 21 * a + 5 + n0) v) (28 + 21 * a + 4) (nI (n0 + 1))) x2 → (∀ i k, i ≠ 190 → x2 i k = x i k) → K (.inl (some (.int (nI (n0 + 1))))) n fl x2 y)
theorem r_X11_appendValue (w : gk_W c P cs (fun _ _ => none) rt uf sc K V) {idx : Nat} {s : Int32} {v : Int32} {g : Nat → Int32} {a : Nat} {n0 : Nat} (hd : decode c pc = .ok (.invokevirtual idx, 3)) (hp : pc + 3 = pc2) (hc : cs idx = some (1, 10, 3, 0, S_X11_appendValue)) (h8 : Nat.ble (r.map Value.category).sum 8 = true) (hp0 : MG g x) (hp1 : s = nI a) (hp2 : a < 6) (hp3 : g (28 + 21 * a + 4) = nI n0) (hp4 : n0 < 16) (kk0 : ∀ x2 : gk_X, MG (gU (gU g (28 + 21 * a + 5 + n0) v) (28 + 21 * a + 4) (nI (n0 + 1))) x2 → (∀ i k, i ≠ 190 → x2 i k = x i k) → V pc2 L ((.int (nI (n0 + 1))) :: r) 202 gk_fT x2 y u) : V pc L (.int v :: .int s :: .ref 189 :: r) 202 gk_fT x y u :=
  g_callv w hd hp hc (as := [.ref 189, .int s, .int v]) rfl h8 rfl rfl rfl (Or.inr (Or.inl ⟨Or.inl rfl, _, _, rfl, (gk_kd_j rfl rfl), rfl⟩)) (Or.inl rfl) ⟨s, v, g, a, n0, rfl, ⟨rfl, rfl⟩, hp0, hp1, hp2, hp3, hp4, kk0⟩
def L_X11_appendValue : List (Nat × gk_M0) := []
def cs_X11_appendValue : Nat → Option gk_M0 := gk_lk L_X11_appendValue
theorem m_X11_appendValue : ∀ (as : List Value) (n : Nat) (fl : gk_F) (x : gk_X) (y : gk_Y) (K : gk_K), S_X11_appendValue as n fl x y K → (gk_L0 as).length ≤ 4 ∧ ∀ V : gk_V, gk_W cX11_appendValue pX11 cs_X11_appendValue (fun _ _ => none) (some .int) 0 none K V → V 0 (gk_en as 4) [] n fl x y 0 := by
  intro as n fl x y K hS
  obtain ⟨s, v, g, a, n0, rfl, ⟨rfl, rfl⟩, hp0, hp1, hp2, hp3, hp4, q0⟩ := hS
  refine ⟨Nat.le_of_ble_eq_true rfl, fun V w => ?_⟩
  show V 0 [some (.ref 189), some (.int s), some (.int v), none] [] 202 gk_fT x y 0
  subst hp1
  have ep : gI 28 + gI 21 * nI a = nI (28 + 21 * a) := by rw [gI_nI a, gI_mul, gI_add]; exact congrArg gI (show (28 : Int) + 21 * (a : Int) = ((28 + 21 * a : Nat) : Int) by omega)
  refine s_bipush (pc2 := 2) (v := gI 28) w dX11_appendValue_0 rfl rfl ?_
  refine s_bipush (pc2 := 4) (v := gI 21) w dX11_appendValue_2 rfl rfl ?_
  refine s_iload_n (pc2 := 5) w dX11_appendValue_4 rfl rfl ?_
  refine s_imul (pc2 := 6) w dX11_appendValue_5 rfl ?_
  refine s_iadd (pc2 := 7) w dX11_appendValue_6 rfl ?_
  rw [ep]
  refine s_istore_n (pc2 := 8) (k2 := 3) w dX11_appendValue_7 rfl rfl rfl ?_
  dsimp only [gk_s1, gk_s2, gk_cl]
  refine s_aload_n (pc2 := 9) w dX11_appendValue_8 rfl rfl ?_
  refine m_getR (pc2 := 12) (ci := 10) (k := 0) (j2 := 190) w dX11_appendValue_9 rfl rfl rfl rfl rfl rfl ?_
  refine s_iload_n (pc2 := 13) w dX11_appendValue_12 rfl rfl ?_
  refine s_iconst (pc2 := 14) (v := gI 5) w dX11_appendValue_13 rfl rfl ?_
  refine s_iadd (pc2 := 15) w dX11_appendValue_14 rfl ?_
  refine s_aload_n (pc2 := 16) w dX11_appendValue_15 rfl rfl ?_
  refine m_getR (pc2 := 19) (ci := 10) (k := 0) (j2 := 190) w dX11_appendValue_16 rfl rfl rfl rfl rfl rfl ?_
  refine s_iload_n (pc2 := 20) w dX11_appendValue_19 rfl rfl ?_
  refine s_iconst (pc2 := 21) (v := gI 4) w dX11_appendValue_20 rfl rfl ?_
  refine s_iadd (pc2 := 22) w dX11_appendValue_21 rfl ?_
  refine m_ialoadN (pc2 := 23) (t := 28 + 21 * a + 4) (N := 2234) w dX11_appendValue_22 rfl rfl rfl (by simp only [gI_nI, gI_add, gI_mul, gI_sub, gI_inc]; exact congrArg gI (by omega)) (by omega) rfl ?_
  rw [hp0 (28 + 21 * a + 4) (by omega), hp3]
  refine s_iadd (pc2 := 24) w dX11_appendValue_23 rfl ?_
  refine s_iload_n (pc2 := 25) w dX11_appendValue_24 rfl rfl ?_
  refine m_iastoreN (pc2 := 26) (t := 28 + 21 * a + 5 + n0) (N := 2234) w dX11_appendValue_25 rfl rfl rfl (by simp only [gI_nI, gI_add, gI_mul, gI_sub, gI_inc]; exact congrArg gI (by omega)) (by omega) rfl ?_
  refine s_aload_n (pc2 := 27) w dX11_appendValue_26 rfl rfl ?_
  refine m_getR (pc2 := 30) (ci := 10) (k := 0) (j2 := 190) w dX11_appendValue_27 rfl rfl rfl rfl rfl rfl ?_
  refine s_iload_n (pc2 := 31) w dX11_appendValue_30 rfl rfl ?_
  refine s_iconst (pc2 := 32) (v := gI 4) w dX11_appendValue_31 rfl rfl ?_
  refine s_iadd (pc2 := 33) w dX11_appendValue_32 rfl ?_
  refine s_dup2 (pc2 := 34) w dX11_appendValue_33 rfl rfl rfl ?_
  refine m_ialoadN (pc2 := 35) (t := 28 + 21 * a + 4) (N := 2234) w dX11_appendValue_34 rfl rfl rfl (by simp only [gI_nI, gI_add, gI_mul, gI_sub, gI_inc]; exact congrArg gI (by omega)) (by omega) rfl ?_
  rw [gk_up_ne (show ¬ (190 = 190 ∧ 28 + 21 * a + 4 = 28 + 21 * a + 5 + n0) by omega), hp0 (28 + 21 * a + 4) (by omega), hp3]
  refine s_iconst (pc2 := 36) (v := gI 1) w dX11_appendValue_35 rfl rfl ?_
  refine s_iadd (pc2 := 37) w dX11_appendValue_36 rfl ?_
  rw [show nI n0 + gI 1 = nI (n0 + 1) from nI_s n0]
  refine m_iastoreN (pc2 := 38) (t := 28 + 21 * a + 4) (N := 2234) w dX11_appendValue_37 rfl rfl rfl (by simp only [gI_nI, gI_add, gI_mul, gI_sub, gI_inc]; exact congrArg gI (by omega)) (by omega) rfl ?_
  refine s_aload_n (pc2 := 39) w dX11_appendValue_38 rfl rfl ?_
  refine m_getR (pc2 := 42) (ci := 10) (k := 0) (j2 := 190) w dX11_appendValue_39 rfl rfl rfl rfl rfl rfl ?_
  refine s_iload_n (pc2 := 43) w dX11_appendValue_42 rfl rfl ?_
  refine s_iconst (pc2 := 44) (v := gI 4) w dX11_appendValue_43 rfl rfl ?_
  refine s_iadd (pc2 := 45) w dX11_appendValue_44 rfl ?_
  refine m_ialoadN (pc2 := 46) (t := 28 + 21 * a + 4) (N := 2234) w dX11_appendValue_45 rfl rfl rfl (by simp only [gI_nI, gI_add, gI_mul, gI_sub, gI_inc]; exact congrArg gI (by omega)) (by omega) rfl ?_
  rw [gk_up_in]
  refine s_ireturn w dX11_appendValue_46 rfl rfl ?_
  exact q0 _ ((hp0.st (28 + 21 * a + 5 + n0) v).st (28 + 21 * a + 4) (nI (n0 + 1))) (fun i k h => (gk_up_ne (fun h2 => h h2.1)).trans (gk_up_ne (fun h2 => h h2.1)))
theorem lk_X11_appendValue {l : Launch} (hl : l.stackTraces = false) : ∀ q ∈ L_X11_appendValue, (q.2.1 < 5 → gk_Lk l RX11 gk_W1 0 q.1 q.2.1 q.2.2.1 q.2.2.2.1 q.2.2.2.2.1 q.2.2.2.2.2) := (fun _ h => absurd h List.not_mem_nil)
theorem sp_X11_appendValue : ∀ q ∈ L_X11_appendValue, gk_Sq RX11 gk_W1 0 q := (fun _ h => absurd h List.not_mem_nil)
theorem M_X11_appendValue {l : Launch} (hl : l.stackTraces = false) : gk_Mt l yX11_appendValue (.code yX11_appendValue cX11_appendValue 4 (some .int) :: gk_W1) 0 0 S_X11_appendValue := gk_meth hl gk_cw_ok (by decide +kernel) rfl m_X11_appendValue pX11_ok (gk_Sp_of sp_X11_appendValue) pX11_st (fun ci m S h => absurd h (by intro h; cases h)) (xf_X11 0) (fun idx kd ci mm cost S2 h h5 => lk_X11_appendValue hl _ (gk_lk_mem h) h5)

def S_X11_setFocus : gk_S := fun as n fl x y K => ∃ (a : Int32) (b : Int32) (e : Int32) (d : Int32) (f : Int32), as = [.ref 189, .int a, .int b, .int e, .int d, .int f] ∧ (n = 202 ∧ fl = gk_fT) ∧ (K (.inl none) n fl (gk_up (gk_up (gk_up (gk_up (gk_up x 190 10 a) 190 11 b) 190 12 e) 190 13 d) 190 14 f) y)
theorem r_X11_setFocus (w : gk_W c P cs (fun _ _ => none) rt uf sc K V) {idx : Nat} {a : Int32} {b : Int32} {e : Int32} {d : Int32} {f : Int32} (hd : decode c pc = .ok (.invokevirtual idx, 3)) (hp : pc + 3 = pc2) (hc : cs idx = some (1, 10, 6, 0, S_X11_setFocus)) (h8 : Nat.ble (r.map Value.category).sum 8 = true) (kk0 : V pc2 L r 202 gk_fT (gk_up (gk_up (gk_up (gk_up (gk_up x 190 10 a) 190 11 b) 190 12 e) 190 13 d) 190 14 f) y u) : V pc L (.int f :: .int d :: .int e :: .int b :: .int a :: .ref 189 :: r) 202 gk_fT x y u :=
  g_callv w hd hp hc (as := [.ref 189, .int a, .int b, .int e, .int d, .int f]) rfl h8 rfl rfl rfl (Or.inr (Or.inl ⟨Or.inl rfl, _, _, rfl, (gk_kd_j rfl rfl), rfl⟩)) (Or.inl rfl) ⟨a, b, e, d, f, rfl, ⟨rfl, rfl⟩, kk0⟩
def L_X11_setFocus : List (Nat × gk_M0) := []
def cs_X11_setFocus : Nat → Option gk_M0 := gk_lk L_X11_setFocus
theorem m_X11_setFocus : ∀ (as : List Value) (n : Nat) (fl : gk_F) (x : gk_X) (y : gk_Y) (K : gk_K), S_X11_setFocus as n fl x y K → (gk_L0 as).length ≤ 6 ∧ ∀ V : gk_V, gk_W cX11_setFocus pX11 cs_X11_setFocus (fun _ _ => none) none 0 none K V → V 0 (gk_en as 6) [] n fl x y 0 := by
  intro as n fl x y K hS
  obtain ⟨a, b, e, d, f, rfl, ⟨rfl, rfl⟩, q0⟩ := hS
  refine ⟨Nat.le_of_ble_eq_true rfl, fun V w => ?_⟩
  show V 0 [some (.ref 189), some (.int a), some (.int b), some (.int e), some (.int d), some (.int f)] [] 202 gk_fT x y 0
  refine s_aload_n (pc2 := 1) w dX11_setFocus_0 rfl rfl ?_
  refine m_getR (pc2 := 4) (ci := 10) (k := 0) (j2 := 190) w dX11_setFocus_1 rfl rfl rfl rfl rfl rfl ?_
  refine s_bipush (pc2 := 6) (v := 10) w dX11_setFocus_4 rfl rfl ?_
  refine s_iload_n (pc2 := 7) w dX11_setFocus_6 rfl rfl ?_
  refine m_iastoreN (pc2 := 8) (t := 10) (N := 2234) w dX11_setFocus_7 rfl rfl rfl rfl (by decide) rfl ?_
  refine s_aload_n (pc2 := 9) w dX11_setFocus_8 rfl rfl ?_
  refine m_getR (pc2 := 12) (ci := 10) (k := 0) (j2 := 190) w dX11_setFocus_9 rfl rfl rfl rfl rfl rfl ?_
  refine s_bipush (pc2 := 14) (v := 11) w dX11_setFocus_12 rfl rfl ?_
  refine s_iload_n (pc2 := 15) w dX11_setFocus_14 rfl rfl ?_
  refine m_iastoreN (pc2 := 16) (t := 11) (N := 2234) w dX11_setFocus_15 rfl rfl rfl rfl (by decide) rfl ?_
  refine s_aload_n (pc2 := 17) w dX11_setFocus_16 rfl rfl ?_
  refine m_getR (pc2 := 20) (ci := 10) (k := 0) (j2 := 190) w dX11_setFocus_17 rfl rfl rfl rfl rfl rfl ?_
  refine s_bipush (pc2 := 22) (v := 12) w dX11_setFocus_20 rfl rfl ?_
  refine s_iload_n (pc2 := 23) w dX11_setFocus_22 rfl rfl ?_
  refine m_iastoreN (pc2 := 24) (t := 12) (N := 2234) w dX11_setFocus_23 rfl rfl rfl rfl (by decide) rfl ?_
  refine s_aload_n (pc2 := 25) w dX11_setFocus_24 rfl rfl ?_
  refine m_getR (pc2 := 28) (ci := 10) (k := 0) (j2 := 190) w dX11_setFocus_25 rfl rfl rfl rfl rfl rfl ?_
  refine s_bipush (pc2 := 30) (v := 13) w dX11_setFocus_28 rfl rfl ?_
  refine s_iload (pc2 := 32) w dX11_setFocus_30 rfl rfl ?_
  refine m_iastoreN (pc2 := 33) (t := 13) (N := 2234) w dX11_setFocus_32 rfl rfl rfl rfl (by decide) rfl ?_
  refine s_aload_n (pc2 := 34) w dX11_setFocus_33 rfl rfl ?_
  refine m_getR (pc2 := 37) (ci := 10) (k := 0) (j2 := 190) w dX11_setFocus_34 rfl rfl rfl rfl rfl rfl ?_
  refine s_bipush (pc2 := 39) (v := 14) w dX11_setFocus_37 rfl rfl ?_
  refine s_iload (pc2 := 41) w dX11_setFocus_39 rfl rfl ?_
  refine m_iastoreN (pc2 := 42) (t := 14) (N := 2234) w dX11_setFocus_41 rfl rfl rfl rfl (by decide) rfl ?_
  refine s_return w dX11_setFocus_42 rfl ?_
  exact q0
theorem lk_X11_setFocus {l : Launch} (hl : l.stackTraces = false) : ∀ q ∈ L_X11_setFocus, (q.2.1 < 5 → gk_Lk l RX11 gk_W1 0 q.1 q.2.1 q.2.2.1 q.2.2.2.1 q.2.2.2.2.1 q.2.2.2.2.2) := (fun _ h => absurd h List.not_mem_nil)
theorem sp_X11_setFocus : ∀ q ∈ L_X11_setFocus, gk_Sq RX11 gk_W1 0 q := (fun _ h => absurd h List.not_mem_nil)
theorem M_X11_setFocus {l : Launch} (hl : l.stackTraces = false) : gk_Mt l yX11_setFocus (.code yX11_setFocus cX11_setFocus 6 none :: gk_W1) 0 0 S_X11_setFocus := gk_meth hl gk_cw_ok (by decide +kernel) rfl m_X11_setFocus pX11_ok (gk_Sp_of sp_X11_setFocus) pX11_st (fun ci m S h => absurd h (by intro h; cases h)) (xf_X11 0) (fun idx kd ci mm cost S2 h h5 => lk_X11_setFocus hl _ (gk_lk_mem h) h5)

def S_X11_addVehicle : gk_S := fun as n fl x y K => ∃ (a : Int32) (b : Int32) (e : Int32) (g : Nat → Int32), as = [.ref 189, .int a, .int b, .int e] ∧ (n = 202 ∧ fl = gk_fT) ∧ (MG g x) ∧ (gOK g) ∧ (((-20000 ≤ a ∧ a ≤ 20000) ∧ (-50 ≤ b ∧ b ≤ 50) ∧ (100 ≤ e ∧ e ≤ 5000)) → (¬ g 6 = 4) → ∀ (x2 : gk_X) (y2 : gk_Y), MOk (gAV g (nV g) a b e) 0 x x2 y y2 → K (.inl (some (.int (g 6)))) n fl x2 y2) ∧ (¬ ((-20000 ≤ a ∧ a ≤ 20000) ∧ (-50 ≤ b ∧ b ≤ 50) ∧ (100 ≤ e ∧ e ≤ 5000)) → ∀ (x2 : gk_X) (y2 : gk_Y), MOk g 1 x x2 y y2 → K (.inl (some (.int 0))) n fl x2 y2) ∧ (((-20000 ≤ a ∧ a ≤ 20000) ∧ (-50 ≤ b ∧ b ≤ 50) ∧ (100 ≤ e ∧ e ≤ 5000)) → ¬ (¬ g 6 = 4) → ∀ (x2 : gk_X) (y2 : gk_Y), MOk g 2 x x2 y y2 → K (.inl (some (.int 0))) n fl x2 y2)
theorem r_X11_addVehicle (w : gk_W c P cs (fun _ _ => none) rt uf sc K V) {idx : Nat} {a : Int32} {b : Int32} {e : Int32} {g : Nat → Int32} (hd : decode c pc = .ok (.invokevirtual idx, 3)) (hp : pc + 3 = pc2) (hc : cs idx = some (1, 10, 4, 0, S_X11_addVehicle)) (h8 : Nat.ble (r.map Value.category).sum 8 = true) (hp0 : MG g x) (hp1 : gOK g) (kk0 : ((-20000 ≤ a ∧ a ≤ 20000) ∧ (-50 ≤ b ∧ b ≤ 50) ∧ (100 ≤ e ∧ e ≤ 5000)) → (¬ g 6 = 4) → ∀ (x2 : gk_X) (y2 : gk_Y), MOk (gAV g (nV g) a b e) 0 x x2 y y2 → V pc2 L ((.int (g 6)) :: r) 202 gk_fT x2 y2 u) (kk1 : ¬ ((-20000 ≤ a ∧ a ≤ 20000) ∧ (-50 ≤ b ∧ b ≤ 50) ∧ (100 ≤ e ∧ e ≤ 5000)) → ∀ (x2 : gk_X) (y2 : gk_Y), MOk g 1 x x2 y y2 → V pc2 L ((.int 0) :: r) 202 gk_fT x2 y2 u) (kk2 : ((-20000 ≤ a ∧ a ≤ 20000) ∧ (-50 ≤ b ∧ b ≤ 50) ∧ (100 ≤ e ∧ e ≤ 5000)) → ¬ (¬ g 6 = 4) → ∀ (x2 : gk_X) (y2 : gk_Y), MOk g 2 x x2 y y2 → V pc2 L ((.int 0) :: r) 202 gk_fT x2 y2 u) : V pc L (.int e :: .int b :: .int a :: .ref 189 :: r) 202 gk_fT x y u :=
  g_callv w hd hp hc (as := [.ref 189, .int a, .int b, .int e]) rfl h8 rfl rfl rfl (Or.inr (Or.inl ⟨Or.inl rfl, _, _, rfl, (gk_kd_j rfl rfl), rfl⟩)) (Or.inl rfl) ⟨a, b, e, g, rfl, ⟨rfl, rfl⟩, hp0, hp1, kk0, kk1, kk2⟩
def L_X11_addVehicle : List (Nat × gk_M0) := [(64, (1, 10, 2, 0, S_X11_fail)), (68, (0, 10, 3, 0, S_X11_isVehiclePlace)), (71, (1, 10, 4, 0, S_X11_appendVehicle))]
def cs_X11_addVehicle : Nat → Option gk_M0 := gk_lk L_X11_addVehicle
theorem m_X11_addVehicle : ∀ (as : List Value) (n : Nat) (fl : gk_F) (x : gk_X) (y : gk_Y) (K : gk_K), S_X11_addVehicle as n fl x y K → (gk_L0 as).length ≤ 4 ∧ ∀ V : gk_V, gk_W cX11_addVehicle pX11 cs_X11_addVehicle (fun _ _ => none) (some .int) 0 none K V → V 0 (gk_en as 4) [] n fl x y 0 := by
  intro as n fl x y K hS
  obtain ⟨a, b, e, g, rfl, ⟨rfl, rfl⟩, hp0, hp1, q0, q1, q2⟩ := hS
  refine ⟨Nat.le_of_ble_eq_true rfl, fun V w => ?_⟩
  show V 0 [some (.ref 189), some (.int a), some (.int b), some (.int e)] [] 202 gk_fT x y 0
  obtain ⟨nv4, ns6, nm8, z6, z7, z8⟩ := wf_n hp1.1
  have w6 : 0 ≤ (g 6).toInt := by show 0 ≤ gz g 6; omega
  have w7 : 0 ≤ (g 7).toInt := by show 0 ≤ gz g 7; omega
  have w8 : 0 ≤ (g 8).toInt := by show 0 ≤ gz g 8; omega
  refine s_aload_n (pc2 := 1) w dX11_addVehicle_0 rfl rfl ?_
  refine s_iconst (pc2 := 2) (v := 0) w dX11_addVehicle_1 rfl rfl ?_
  refine m_putI (pc2 := 5) (ci := 10) (k := 4) w dX11_addVehicle_2 rfl rfl rfl rfl rfl (by intro h; cases h) ?_
  have f0 := MOk.ini (y := y) hp0
  generalize gk_up x 189 4 0 = x0 at f0 ⊢
  refine s_iload_n (pc2 := 6) w dX11_addVehicle_5 rfl rfl ?_
  refine s_iload_n (pc2 := 7) w dX11_addVehicle_6 rfl rfl ?_
  refine s_iload_n (pc2 := 8) w dX11_addVehicle_7 rfl rfl ?_
  refine r_X11_isVehiclePlace (pc2 := 11) w dX11_addVehicle_8 rfl rfl rfl ?_
  refine s_if_ne (pc2 := 14) (tgt := 20) w dX11_addVehicle_11 rfl (by decide) (fun c11 => ?_) (fun c11 => ?_)
  · rw [g_b0, Classical.not_not] at c11
    refine s_aload_n (pc2 := 21) w dX11_addVehicle_20 rfl rfl ?_
    refine m_getR (pc2 := 24) (ci := 10) (k := 0) (j2 := 190) w dX11_addVehicle_21 rfl rfl rfl rfl rfl rfl ?_
    refine s_bipush (pc2 := 26) (v := 6) w dX11_addVehicle_24 rfl rfl ?_
    refine m_ialoadN (pc2 := 27) (t := 6) (N := 2234) w dX11_addVehicle_26 rfl rfl rfl rfl (by decide) rfl ?_
    refine s_iconst (pc2 := 28) (v := 4) w dX11_addVehicle_27 rfl rfl ?_
    rw [f0.1 6 (by decide)]
    refine s_ic_ne (pc2 := 31) (tgt := 39) w dX11_addVehicle_28 rfl (by decide) (fun c28 => ?_) (fun c28 => ?_)
    · have e6 : g 6 = nI (nV g) := (gz_I g 6).trans (congrArg gI z6)
      have n4 : nV g < 4 := ct_lt e6 nv4 rfl c28
      refine s_aload_n (pc2 := 40) w dX11_addVehicle_39 rfl rfl ?_
      refine s_iload_n (pc2 := 41) w dX11_addVehicle_40 rfl rfl ?_
      refine s_iload_n (pc2 := 42) w dX11_addVehicle_41 rfl rfl ?_
      refine s_iload_n (pc2 := 43) w dX11_addVehicle_42 rfl rfl ?_
      refine r_X11_appendVehicle (pc2 := 46) w dX11_addVehicle_43 rfl rfl rfl f0.1 e6 n4 (fun x1 hx1 hx2 => ?_)
      rw [← e6]
      refine s_ireturn w dX11_addVehicle_46 rfl rfl ?_
      exact q0 c11 c28 _ _ (f0.mg hx1 hx2)
    · refine s_aload_n (pc2 := 32) w dX11_addVehicle_31 rfl rfl ?_
      refine s_iconst (pc2 := 33) (v := 2) w dX11_addVehicle_32 rfl rfl ?_
      refine r_X11_fail (pc2 := 36) w dX11_addVehicle_33 rfl rfl rfl ?_
      refine s_goto (tgt := 46) w dX11_addVehicle_36 (by decide) ?_
      refine s_ireturn w dX11_addVehicle_46 rfl rfl ?_
      exact q2 c11 (fun hc => hc c28) _ _ (f0.fail 2)
  · refine s_aload_n (pc2 := 15) w dX11_addVehicle_14 rfl rfl ?_
    refine s_iconst (pc2 := 16) (v := 1) w dX11_addVehicle_15 rfl rfl ?_
    refine r_X11_fail (pc2 := 19) w dX11_addVehicle_16 rfl rfl rfl ?_
    refine s_ireturn w dX11_addVehicle_19 rfl rfl ?_
    rw [g_b0] at c11
    exact q1  (fun hc => c11 hc) _ _ (f0.fail 1)
theorem lk_X11_addVehicle {l : Launch} (hl : l.stackTraces = false) : ∀ q ∈ L_X11_addVehicle, (q.2.1 < 5 → gk_Lk l RX11 gk_W1 2 q.1 q.2.1 q.2.2.1 q.2.2.2.1 q.2.2.2.2.1 q.2.2.2.2.2) := (List.forall_mem_cons.mpr ⟨(fun _ => ⟨yX11_fail, cX11_fail, 2, (some .int), 0, _, M_X11_fail hl, ⟨by decide, by decide⟩, ⟨by decide, by decide, by decide +kernel⟩, ⟨(gk_wm 1342 (by decide +kernel)), (gk_wm 99 (by decide +kernel))⟩, Or.inr (Or.inr (Or.inr (Or.inl ⟨rfl, rfl, (gk_wm 1341 (by decide +kernel)), (gk_wm 32 (by decide +kernel)), gk_wm 1339 (by decide +kernel), by decide, rfl⟩)))⟩), (List.forall_mem_cons.mpr ⟨(fun _ => ⟨yX11_isVehiclePlace, cX11_isVehiclePlace, 3, (some .boolean), 1, _, M_X11_isVehiclePlace hl, ⟨by decide, by decide⟩, ⟨by decide, by decide, by decide +kernel⟩, ⟨(gk_wm 1361 (by decide +kernel)), (gk_wm 99 (by decide +kernel))⟩, Or.inl ⟨rfl, rfl, (gk_wm 1360 (by decide +kernel)), gk_wm 1359 (by decide +kernel)⟩⟩), (List.forall_mem_cons.mpr ⟨(fun _ => ⟨yX11_appendVehicle, cX11_appendVehicle, 5, (some .int), 0, _, M_X11_appendVehicle hl, ⟨by decide, by decide⟩, ⟨by decide, by decide, by decide +kernel⟩, ⟨(gk_wm 1365 (by decide +kernel)), (gk_wm 99 (by decide +kernel))⟩, Or.inr (Or.inr (Or.inr (Or.inl ⟨rfl, rfl, (gk_wm 1364 (by decide +kernel)), (gk_wm 33 (by decide +kernel)), gk_wm 1362 (by decide +kernel), by decide, rfl⟩)))⟩), (fun _ h => absurd h List.not_mem_nil)⟩)⟩)⟩)
theorem sp_X11_addVehicle : ∀ q ∈ L_X11_addVehicle, gk_Sq RX11 gk_W1 2 q := (List.forall_mem_cons.mpr ⟨⟨fun h => absurd h (by decide), fun h => absurd h (by decide), fun h => absurd h (by decide), fun h => absurd h (by decide), fun h => absurd h (by decide), fun h => absurd h (by decide)⟩, (List.forall_mem_cons.mpr ⟨⟨fun h => absurd h (by decide), fun h => absurd h (by decide), fun h => absurd h (by decide), fun h => absurd h (by decide), fun h => absurd h (by decide), fun h => absurd h (by decide)⟩, (List.forall_mem_cons.mpr ⟨⟨fun h => absurd h (by decide), fun h => absurd h (by decide), fun h => absurd h (by decide), fun h => absurd h (by decide), fun h => absurd h (by decide), fun h => absurd h (by decide)⟩, (fun _ h => absurd h List.not_mem_nil)⟩)⟩)⟩)
theorem M_X11_addVehicle {l : Launch} (hl : l.stackTraces = false) : gk_Mt l yX11_addVehicle (.code yX11_addVehicle cX11_addVehicle 4 (some .int) :: gk_W1) 2 0 S_X11_addVehicle := gk_meth hl gk_cw_ok (by decide +kernel) rfl m_X11_addVehicle pX11_ok (gk_Sp_of sp_X11_addVehicle) pX11_st (fun ci m S h => absurd h (by intro h; cases h)) (xf_X11 2) (fun idx kd ci mm cost S2 h h5 => lk_X11_addVehicle hl _ (gk_lk_mem h) h5)

def S_X11_addSource : gk_S := fun as n fl x y K => ∃ (v : Int32) (b : Int32) (e : Int32) (d : Int32) (f : Int32) (g : Nat → Int32), as = [.ref 189, .int v, .int b, .int e, .int d, .int f] ∧ (n = 202 ∧ fl = gk_fT) ∧ (MG g x) ∧ (gOK g) ∧ ((0 ≤ v ∧ v < g 6) → ((-1000 ≤ b ∧ b ≤ 1000) ∧ (0 ≤ e ∧ e ≤ 500) ∧ (1 ≤ d ∧ d ≤ 10) ∧ (-99 ≤ f ∧ f ≤ 99)) → (¬ g 7 = 6) → ∀ (x2 : gk_X) (y2 : gk_Y), MOk (gAS g (nS g) v b e d f) 0 x x2 y y2 → K (.inl (some (.int (g 7)))) n fl x2 y2) ∧ (¬ (0 ≤ v ∧ v < g 6) → ∀ (x2 : gk_X) (y2 : gk_Y), MOk g 1 x x2 y y2 → K (.inl (some (.int 0))) n fl x2 y2) ∧ ((0 ≤ v ∧ v < g 6) → ¬ ((-1000 ≤ b ∧ b ≤ 1000) ∧ (0 ≤ e ∧ e ≤ 500) ∧ (1 ≤ d ∧ d ≤ 10) ∧ (-99 ≤ f ∧ f ≤ 99)) → ∀ (x2 : gk_X) (y2 : gk_Y), MOk g 2 x x2 y y2 → K (.inl (some (.int 0))) n fl x2 y2) ∧ ((0 ≤ v ∧ v < g 6) → ((-1000 ≤ b ∧ b ≤ 1000) ∧ (0 ≤ e ∧ e ≤ 500) ∧ (1 ≤ d ∧ d ≤ 10) ∧ (-99 ≤ f ∧ f ≤ 99)) → ¬ (¬ g 7 = 6) → ∀ (x2 : gk_X) (y2 : gk_Y), MOk g 3 x x2 y y2 → K (.inl (some (.int 0))) n fl x2 y2)
theorem r_X11_addSource (w : gk_W c P cs (fun _ _ => none) rt uf sc K V) {idx : Nat} {v : Int32} {b : Int32} {e : Int32} {d : Int32} {f : Int32} {g : Nat → Int32} (hd : decode c pc = .ok (.invokevirtual idx, 3)) (hp : pc + 3 = pc2) (hc : cs idx = some (1, 10, 6, 0, S_X11_addSource)) (h8 : Nat.ble (r.map Value.category).sum 8 = true) (hp0 : MG g x) (hp1 : gOK g) (kk0 : (0 ≤ v ∧ v < g 6) → ((-1000 ≤ b ∧ b ≤ 1000) ∧ (0 ≤ e ∧ e ≤ 500) ∧ (1 ≤ d ∧ d ≤ 10) ∧ (-99 ≤ f ∧ f ≤ 99)) → (¬ g 7 = 6) → ∀ (x2 : gk_X) (y2 : gk_Y), MOk (gAS g (nS g) v b e d f) 0 x x2 y y2 → V pc2 L ((.int (g 7)) :: r) 202 gk_fT x2 y2 u) (kk1 : ¬ (0 ≤ v ∧ v < g 6) → ∀ (x2 : gk_X) (y2 : gk_Y), MOk g 1 x x2 y y2 → V pc2 L ((.int 0) :: r) 202 gk_fT x2 y2 u) (kk2 : (0 ≤ v ∧ v < g 6) → ¬ ((-1000 ≤ b ∧ b ≤ 1000) ∧ (0 ≤ e ∧ e ≤ 500) ∧ (1 ≤ d ∧ d ≤ 10) ∧ (-99 ≤ f ∧ f ≤ 99)) → ∀ (x2 : gk_X) (y2 : gk_Y), MOk g 2 x x2 y y2 → V pc2 L ((.int 0) :: r) 202 gk_fT x2 y2 u) (kk3 : (0 ≤ v ∧ v < g 6) → ((-1000 ≤ b ∧ b ≤ 1000) ∧ (0 ≤ e ∧ e ≤ 500) ∧ (1 ≤ d ∧ d ≤ 10) ∧ (-99 ≤ f ∧ f ≤ 99)) → ¬ (¬ g 7 = 6) → ∀ (x2 : gk_X) (y2 : gk_Y), MOk g 3 x x2 y y2 → V pc2 L ((.int 0) :: r) 202 gk_fT x2 y2 u) : V pc L (.int f :: .int d :: .int e :: .int b :: .int v :: .ref 189 :: r) 202 gk_fT x y u :=
  g_callv w hd hp hc (as := [.ref 189, .int v, .int b, .int e, .int d, .int f]) rfl h8 rfl rfl rfl (Or.inr (Or.inl ⟨Or.inl rfl, _, _, rfl, (gk_kd_j rfl rfl), rfl⟩)) (Or.inl rfl) ⟨v, b, e, d, f, g, rfl, ⟨rfl, rfl⟩, hp0, hp1, kk0, kk1, kk2, kk3⟩
def L_X11_addSource : List (Nat × gk_M0) := [(52, (0, 10, 3, 0, S_X11_isBetween)), (64, (1, 10, 2, 0, S_X11_fail)), (75, (1, 10, 2, 0, S_X11_isVehicle)), (78, (0, 10, 1, 0, S_X11_isOffset)), (81, (0, 10, 1, 0, S_X11_isHeight)), (84, (0, 10, 1, 0, S_X11_isValue)), (87, (1, 10, 5, 0, S_X11_appendSource)), (91, (1, 10, 3, 0, S_X11_appendValue))]
def cs_X11_addSource : Nat → Option gk_M0 := gk_lk L_X11_addSource
theorem m_X11_addSource : ∀ (as : List Value) (n : Nat) (fl : gk_F) (x : gk_X) (y : gk_Y) (K : gk_K), S_X11_addSource as n fl x y K → (gk_L0 as).length ≤ 8 ∧ ∀ V : gk_V, gk_W cX11_addSource pX11 cs_X11_addSource (fun _ _ => none) (some .int) 0 none K V → V 0 (gk_en as 8) [] n fl x y 0 := by
  intro as n fl x y K hS
  obtain ⟨v, b, e, d, f, g, rfl, ⟨rfl, rfl⟩, hp0, hp1, q0, q1, q2, q3⟩ := hS
  refine ⟨Nat.le_of_ble_eq_true rfl, fun V w => ?_⟩
  show V 0 [some (.ref 189), some (.int v), some (.int b), some (.int e), some (.int d), some (.int f), none, none] [] 202 gk_fT x y 0
  obtain ⟨nv4, ns6, nm8, z6, z7, z8⟩ := wf_n hp1.1
  have w6 : 0 ≤ (g 6).toInt := by show 0 ≤ gz g 6; omega
  have w7 : 0 ≤ (g 7).toInt := by show 0 ≤ gz g 7; omega
  have w8 : 0 ≤ (g 8).toInt := by show 0 ≤ gz g 8; omega
  refine s_aload_n (pc2 := 1) w dX11_addSource_0 rfl rfl ?_
  refine s_iconst (pc2 := 2) (v := 0) w dX11_addSource_1 rfl rfl ?_
  refine m_putI (pc2 := 5) (ci := 10) (k := 4) w dX11_addSource_2 rfl rfl rfl rfl rfl (by intro h; cases h) ?_
  have f0 := MOk.ini (y := y) hp0
  generalize gk_up x 189 4 0 = x0 at f0 ⊢
  refine s_aload_n (pc2 := 6) w dX11_addSource_5 rfl rfl ?_
  refine s_iload_n (pc2 := 7) w dX11_addSource_6 rfl rfl ?_
  refine r_X11_isVehicle (pc2 := 10) w dX11_addSource_7 rfl rfl rfl ?_
  rw [f0.1 6 (by decide), isn_e w6]
  refine s_if_ne (pc2 := 13) (tgt := 19) w dX11_addSource_10 rfl (by decide) (fun c10 => ?_) (fun c10 => ?_)
  · rw [g_b0, Classical.not_not] at c10
    refine s_iload_n (pc2 := 20) w dX11_addSource_19 rfl rfl ?_
    refine r_X11_isOffset (pc2 := 23) w dX11_addSource_20 rfl rfl rfl ?_
    refine s_if_eq (pc2 := 26) (tgt := 52) w dX11_addSource_23 rfl (by decide) (fun c23 => ?_) (fun c23 => ?_)
    · refine s_aload_n (pc2 := 53) w dX11_addSource_52 rfl rfl ?_
      refine s_iconst (pc2 := 54) (v := 2) w dX11_addSource_53 rfl rfl ?_
      refine r_X11_fail (pc2 := 57) w dX11_addSource_54 rfl rfl rfl ?_
      refine s_ireturn w dX11_addSource_57 rfl rfl ?_
      rw [g_b0] at c23
      exact q2 c10 (fun hc => c23 hc.1) _ _ (f0.fail 2)
    · rw [g_b0, Classical.not_not] at c23
      refine s_iload_n (pc2 := 27) w dX11_addSource_26 rfl rfl ?_
      refine r_X11_isHeight (pc2 := 30) w dX11_addSource_27 rfl rfl rfl ?_
      refine s_if_eq (pc2 := 33) (tgt := 52) w dX11_addSource_30 rfl (by decide) (fun c30 => ?_) (fun c30 => ?_)
      · refine s_aload_n (pc2 := 53) w dX11_addSource_52 rfl rfl ?_
        refine s_iconst (pc2 := 54) (v := 2) w dX11_addSource_53 rfl rfl ?_
        refine r_X11_fail (pc2 := 57) w dX11_addSource_54 rfl rfl rfl ?_
        refine s_ireturn w dX11_addSource_57 rfl rfl ?_
        rw [g_b0] at c30
        exact q2 c10 (fun hc => c30 hc.2.1) _ _ (f0.fail 2)
      · rw [g_b0, Classical.not_not] at c30
        refine s_iload (pc2 := 35) w dX11_addSource_33 rfl rfl ?_
        refine s_iconst (pc2 := 36) (v := 1) w dX11_addSource_35 rfl rfl ?_
        refine s_bipush (pc2 := 38) (v := 10) w dX11_addSource_36 rfl rfl ?_
        refine r_X11_isBetween (pc2 := 41) w dX11_addSource_38 rfl rfl rfl ?_
        refine s_if_eq (pc2 := 44) (tgt := 52) w dX11_addSource_41 rfl (by decide) (fun c41 => ?_) (fun c41 => ?_)
        · refine s_aload_n (pc2 := 53) w dX11_addSource_52 rfl rfl ?_
          refine s_iconst (pc2 := 54) (v := 2) w dX11_addSource_53 rfl rfl ?_
          refine r_X11_fail (pc2 := 57) w dX11_addSource_54 rfl rfl rfl ?_
          refine s_ireturn w dX11_addSource_57 rfl rfl ?_
          rw [g_b0] at c41
          exact q2 c10 (fun hc => c41 hc.2.2.1) _ _ (f0.fail 2)
        · rw [g_b0, Classical.not_not] at c41
          refine s_iload (pc2 := 46) w dX11_addSource_44 rfl rfl ?_
          refine r_X11_isValue (pc2 := 49) w dX11_addSource_46 rfl rfl rfl ?_
          refine s_if_ne (pc2 := 52) (tgt := 58) w dX11_addSource_49 rfl (by decide) (fun c49 => ?_) (fun c49 => ?_)
          · rw [g_b0, Classical.not_not] at c49
            refine s_aload_n (pc2 := 59) w dX11_addSource_58 rfl rfl ?_
            refine m_getR (pc2 := 62) (ci := 10) (k := 0) (j2 := 190) w dX11_addSource_59 rfl rfl rfl rfl rfl rfl ?_
            refine s_bipush (pc2 := 64) (v := 7) w dX11_addSource_62 rfl rfl ?_
            refine m_ialoadN (pc2 := 65) (t := 7) (N := 2234) w dX11_addSource_64 rfl rfl rfl rfl (by decide) rfl ?_
            refine s_bipush (pc2 := 67) (v := 6) w dX11_addSource_65 rfl rfl ?_
            rw [f0.1 7 (by decide)]
            refine s_ic_ne (pc2 := 70) (tgt := 76) w dX11_addSource_67 rfl (by decide) (fun c67 => ?_) (fun c67 => ?_)
            · have e7 : g 7 = nI (nS g) := (gz_I g 7).trans (congrArg gI z7)
              have n6 : nS g < 6 := ct_lt e7 ns6 rfl c67
              refine s_aload_n (pc2 := 77) w dX11_addSource_76 rfl rfl ?_
              refine s_iload_n (pc2 := 78) w dX11_addSource_77 rfl rfl ?_
              refine s_iload_n (pc2 := 79) w dX11_addSource_78 rfl rfl ?_
              refine s_iload_n (pc2 := 80) w dX11_addSource_79 rfl rfl ?_
              refine s_iload (pc2 := 82) w dX11_addSource_80 rfl rfl ?_
              refine r_X11_appendSource (pc2 := 85) w dX11_addSource_82 rfl rfl rfl f0.1 e7 n6 (fun x1 hx1 hx2 => ?_)
              refine s_istore (pc2 := 87) w dX11_addSource_85 rfl rfl ?_
              dsimp only [gk_s1, gk_s2, gk_cl]
              refine s_aload_n (pc2 := 88) w dX11_addSource_87 rfl rfl ?_
              refine s_iload (pc2 := 90) w dX11_addSource_88 rfl rfl ?_
              refine s_iload (pc2 := 92) w dX11_addSource_90 rfl rfl ?_
              refine r_X11_appendValue (pc2 := 95) (n0 := 0) w dX11_addSource_92 rfl rfl rfl hx1 rfl n6 ((gU_ne (by omega)).trans (gU_in _ _ _)) (by decide) (fun x3 hx3 hx4 => ?_)
              refine s_istore (pc2 := 97) w dX11_addSource_95 rfl rfl ?_
              dsimp only [gk_s1, gk_s2, gk_cl]
              refine s_iload (pc2 := 99) w dX11_addSource_97 rfl rfl ?_
              rw [← e7]
              refine s_ireturn w dX11_addSource_99 rfl rfl ?_
              exact q0 c10 ⟨c23, c30, c41, c49⟩ c67 _ _ ((f0.mg hx1 hx2).mg hx3 hx4)
            · refine s_aload_n (pc2 := 71) w dX11_addSource_70 rfl rfl ?_
              refine s_iconst (pc2 := 72) (v := 3) w dX11_addSource_71 rfl rfl ?_
              refine r_X11_fail (pc2 := 75) w dX11_addSource_72 rfl rfl rfl ?_
              refine s_ireturn w dX11_addSource_75 rfl rfl ?_
              exact q3 c10 ⟨c23, c30, c41, c49⟩ (fun hc => hc c67) _ _ (f0.fail 3)
          · refine s_aload_n (pc2 := 53) w dX11_addSource_52 rfl rfl ?_
            refine s_iconst (pc2 := 54) (v := 2) w dX11_addSource_53 rfl rfl ?_
            refine r_X11_fail (pc2 := 57) w dX11_addSource_54 rfl rfl rfl ?_
            refine s_ireturn w dX11_addSource_57 rfl rfl ?_
            rw [g_b0] at c49
            exact q2 c10 (fun hc => c49 hc.2.2.2) _ _ (f0.fail 2)
  · refine s_aload_n (pc2 := 14) w dX11_addSource_13 rfl rfl ?_
    refine s_iconst (pc2 := 15) (v := 1) w dX11_addSource_14 rfl rfl ?_
    refine r_X11_fail (pc2 := 18) w dX11_addSource_15 rfl rfl rfl ?_
    refine s_ireturn w dX11_addSource_18 rfl rfl ?_
    rw [g_b0] at c10
    exact q1  (fun hc => c10 hc) _ _ (f0.fail 1)
theorem lk_X11_addSource {l : Launch} (hl : l.stackTraces = false) : ∀ q ∈ L_X11_addSource, (q.2.1 < 5 → gk_Lk l RX11 gk_W1 2 q.1 q.2.1 q.2.2.1 q.2.2.2.1 q.2.2.2.2.1 q.2.2.2.2.2) := (List.forall_mem_cons.mpr ⟨(fun _ => ⟨yX11_isBetween, cX11_isBetween, 3, (some .boolean), 0, _, M_X11_isBetween hl, ⟨by decide, by decide⟩, ⟨by decide, by decide, by decide +kernel⟩, ⟨(gk_wm 1334 (by decide +kernel)), (gk_wm 99 (by decide +kernel))⟩, Or.inl ⟨rfl, rfl, (gk_wm 1333 (by decide +kernel)), gk_wm 1332 (by decide +kernel)⟩⟩), (List.forall_mem_cons.mpr ⟨(fun _ => ⟨yX11_fail, cX11_fail, 2, (some .int), 0, _, M_X11_fail hl, ⟨by decide, by decide⟩, ⟨by decide, by decide, by decide +kernel⟩, ⟨(gk_wm 1342 (by decide +kernel)), (gk_wm 99 (by decide +kernel))⟩, Or.inr (Or.inr (Or.inr (Or.inl ⟨rfl, rfl, (gk_wm 1341 (by decide +kernel)), (gk_wm 32 (by decide +kernel)), gk_wm 1339 (by decide +kernel), by decide, rfl⟩)))⟩), (List.forall_mem_cons.mpr ⟨(fun _ => ⟨yX11_isVehicle, cX11_isVehicle, 2, (some .boolean), 1, _, M_X11_isVehicle hl, ⟨by decide, by decide⟩, ⟨by decide, by decide, by decide +kernel⟩, ⟨(gk_wm 1373 (by decide +kernel)), (gk_wm 99 (by decide +kernel))⟩, Or.inr (Or.inr (Or.inr (Or.inl ⟨rfl, rfl, (gk_wm 1372 (by decide +kernel)), (gk_wm 34 (by decide +kernel)), gk_wm 1370 (by decide +kernel), by decide, rfl⟩)))⟩), (List.forall_mem_cons.mpr ⟨(fun _ => ⟨yX11_isOffset, cX11_isOffset, 1, (some .boolean), 1, _, M_X11_isOffset hl, ⟨by decide, by decide⟩, ⟨by decide, by decide, by decide +kernel⟩, ⟨(gk_wm 1376 (by decide +kernel)), (gk_wm 99 (by decide +kernel))⟩, Or.inl ⟨rfl, rfl, (gk_wm 1375 (by decide +kernel)), gk_wm 1374 (by decide +kernel)⟩⟩), (List.forall_mem_cons.mpr ⟨(fun _ => ⟨yX11_isHeight, cX11_isHeight, 1, (some .boolean), 1, _, M_X11_isHeight hl, ⟨by decide, by decide⟩, ⟨by decide, by decide, by decide +kernel⟩, ⟨(gk_wm 1379 (by decide +kernel)), (gk_wm 99 (by decide +kernel))⟩, Or.inl ⟨rfl, rfl, (gk_wm 1378 (by decide +kernel)), gk_wm 1377 (by decide +kernel)⟩⟩), (List.forall_mem_cons.mpr ⟨(fun _ => ⟨yX11_isValue, cX11_isValue, 1, (some .boolean), 1, _, M_X11_isValue hl, ⟨by decide, by decide⟩, ⟨by decide, by decide, by decide +kernel⟩, ⟨(gk_wm 1382 (by decide +kernel)), (gk_wm 99 (by decide +kernel))⟩, Or.inl ⟨rfl, rfl, (gk_wm 1381 (by decide +kernel)), gk_wm 1380 (by decide +kernel)⟩⟩), (List.forall_mem_cons.mpr ⟨(fun _ => ⟨yX11_appendSource, cX11_appendSource, 6, (some .int), 0, _, M_X11_appendSource hl, ⟨by decide, by decide⟩, ⟨by decide, by decide, by decide +kernel⟩, ⟨(gk_wm 1386 (by decide +kernel)), (gk_wm 99 (by decide +kernel))⟩, Or.inr (Or.inr (Or.inr (Or.inl ⟨rfl, rfl, (gk_wm 1385 (by decide +kernel)), (gk_wm 35 (by decide +kernel)), gk_wm 1383 (by decide +kernel), by decide, rfl⟩)))⟩), (List.forall_mem_cons.mpr ⟨(fun _ => ⟨yX11_appendValue, cX11_appendValue, 4, (some .int), 0, _, M_X11_appendValue hl, ⟨by decide, by decide⟩, ⟨by decide, by decide, by decide +kernel⟩, ⟨(gk_wm 1390 (by decide +kernel)), (gk_wm 99 (by decide +kernel))⟩, Or.inr (Or.inr (Or.inr (Or.inl ⟨rfl, rfl, (gk_wm 1389 (by decide +kernel)), (gk_wm 36 (by decide +kernel)), gk_wm 1387 (by decide +kernel), by decide, rfl⟩)))⟩), (fun _ h => absurd h List.not_mem_nil)⟩)⟩)⟩)⟩)⟩)⟩)⟩)⟩)
theorem sp_X11_addSource : ∀ q ∈ L_X11_addSource, gk_Sq RX11 gk_W1 2 q := (List.forall_mem_cons.mpr ⟨⟨fun h => absurd h (by decide), fun h => absurd h (by decide), fun h => absurd h (by decide), fun h => absurd h (by decide), fun h => absurd h (by decide), fun h => absurd h (by decide)⟩, (List.forall_mem_cons.mpr ⟨⟨fun h => absurd h (by decide), fun h => absurd h (by decide), fun h => absurd h (by decide), fun h => absurd h (by decide), fun h => absurd h (by decide), fun h => absurd h (by decide)⟩, (List.forall_mem_cons.mpr ⟨⟨fun h => absurd h (by decide), fun h => absurd h (by decide), fun h => absurd h (by decide), fun h => absurd h (by decide), fun h => absurd h (by decide), fun h => absurd h (by decide)⟩, (List.forall_mem_cons.mpr ⟨⟨fun h => absurd h (by decide), fun h => absurd h (by decide), fun h => absurd h (by decide), fun h => absurd h (by decide), fun h => absurd h (by decide), fun h => absurd h (by decide)⟩, (List.forall_mem_cons.mpr ⟨⟨fun h => absurd h (by decide), fun h => absurd h (by decide), fun h => absurd h (by decide), fun h => absurd h (by decide), fun h => absurd h (by decide), fun h => absurd h (by decide)⟩, (List.forall_mem_cons.mpr ⟨⟨fun h => absurd h (by decide), fun h => absurd h (by decide), fun h => absurd h (by decide), fun h => absurd h (by decide), fun h => absurd h (by decide), fun h => absurd h (by decide)⟩, (List.forall_mem_cons.mpr ⟨⟨fun h => absurd h (by decide), fun h => absurd h (by decide), fun h => absurd h (by decide), fun h => absurd h (by decide), fun h => absurd h (by decide), fun h => absurd h (by decide)⟩, (List.forall_mem_cons.mpr ⟨⟨fun h => absurd h (by decide), fun h => absurd h (by decide), fun h => absurd h (by decide), fun h => absurd h (by decide), fun h => absurd h (by decide), fun h => absurd h (by decide)⟩, (fun _ h => absurd h List.not_mem_nil)⟩)⟩)⟩)⟩)⟩)⟩)⟩)⟩)
theorem M_X11_addSource {l : Launch} (hl : l.stackTraces = false) : gk_Mt l yX11_addSource (.code yX11_addSource cX11_addSource 8 (some .int) :: gk_W1) 2 0 S_X11_addSource := gk_meth hl gk_cw_ok (by decide +kernel) rfl m_X11_addSource pX11_ok (gk_Sp_of sp_X11_addSource) pX11_st (fun ci m S h => absurd h (by intro h; cases h)) (xf_X11 2) (fun idx kd ci mm cost S2 h h5 => lk_X11_addSource hl _ (gk_lk_mem h) h5)

def S_X11_addValue : gk_S := fun as n fl x y K => ∃ (v : Int32) (f : Int32) (g : Nat → Int32), as = [.ref 189, .int v, .int f] ∧ (n = 202 ∧ fl = gk_fT) ∧ (MG g x) ∧ (gOK g) ∧ ((0 ≤ v ∧ v < g 7) → (-99 ≤ f ∧ f ≤ 99) → (¬ g (28 + 21 * cN v + 4) = 16) → ∀ (x2 : gk_X) (y2 : gk_Y), MOk (gVA g (cN v) f) 0 x x2 y y2 → K (.inl (some (.int (g (28 + 21 * cN v + 4) + 1)))) n fl x2 y2) ∧ (¬ (0 ≤ v ∧ v < g 7) → ∀ (x2 : gk_X) (y2 : gk_Y), MOk g 1 x x2 y y2 → K (.inl (some (.int 0))) n fl x2 y2) ∧ ((0 ≤ v ∧ v < g 7) → ¬ (-99 ≤ f ∧ f ≤ 99) → ∀ (x2 : gk_X) (y2 : gk_Y), MOk g 2 x x2 y y2 → K (.inl (some (.int 0))) n fl x2 y2) ∧ ((0 ≤ v ∧ v < g 7) → (-99 ≤ f ∧ f ≤ 99) → ¬ (¬ g (28 + 21 * cN v + 4) = 16) → ∀ (x2 : gk_X) (y2 : gk_Y), MOk g 3 x x2 y y2 → K (.inl (some (.int 0))) n fl x2 y2)
theorem r_X11_addValue (w : gk_W c P cs (fun _ _ => none) rt uf sc K V) {idx : Nat} {v : Int32} {f : Int32} {g : Nat → Int32} (hd : decode c pc = .ok (.invokevirtual idx, 3)) (hp : pc + 3 = pc2) (hc : cs idx = some (1, 10, 3, 0, S_X11_addValue)) (h8 : Nat.ble (r.map Value.category).sum 8 = true) (hp0 : MG g x) (hp1 : gOK g) (kk0 : (0 ≤ v ∧ v < g 7) → (-99 ≤ f ∧ f ≤ 99) → (¬ g (28 + 21 * cN v + 4) = 16) → ∀ (x2 : gk_X) (y2 : gk_Y), MOk (gVA g (cN v) f) 0 x x2 y y2 → V pc2 L ((.int (g (28 + 21 * cN v + 4) + 1)) :: r) 202 gk_fT x2 y2 u) (kk1 : ¬ (0 ≤ v ∧ v < g 7) → ∀ (x2 : gk_X) (y2 : gk_Y), MOk g 1 x x2 y y2 → V pc2 L ((.int 0) :: r) 202 gk_fT x2 y2 u) (kk2 : (0 ≤ v ∧ v < g 7) → ¬ (-99 ≤ f ∧ f ≤ 99) → ∀ (x2 : gk_X) (y2 : gk_Y), MOk g 2 x x2 y y2 → V pc2 L ((.int 0) :: r) 202 gk_fT x2 y2 u) (kk3 : (0 ≤ v ∧ v < g 7) → (-99 ≤ f ∧ f ≤ 99) → ¬ (¬ g (28 + 21 * cN v + 4) = 16) → ∀ (x2 : gk_X) (y2 : gk_Y), MOk g 3 x x2 y y2 → V pc2 L ((.int 0) :: r) 202 gk_fT x2 y2 u) : V pc L (.int f :: .int v :: .ref 189 :: r) 202 gk_fT x y u :=
  g_callv w hd hp hc (as := [.ref 189, .int v, .int f]) rfl h8 rfl rfl rfl (Or.inr (Or.inl ⟨Or.inl rfl, _, _, rfl, (gk_kd_j rfl rfl), rfl⟩)) (Or.inl rfl) ⟨v, f, g, rfl, ⟨rfl, rfl⟩, hp0, hp1, kk0, kk1, kk2, kk3⟩
def L_X11_addValue : List (Nat × gk_M0) := [(64, (1, 10, 2, 0, S_X11_fail)), (84, (0, 10, 1, 0, S_X11_isValue)), (91, (1, 10, 3, 0, S_X11_appendValue)), (94, (1, 10, 2, 0, S_X11_isSource)), (97, (1, 10, 3, 0, S_X11_source))]
def cs_X11_addValue : Nat → Option gk_M0 := gk_lk L_X11_addValue
theorem m_X11_addValue : ∀ (as : List Value) (n : Nat) (fl : gk_F) (x : gk_X) (y : gk_Y) (K : gk_K), S_X11_addValue as n fl x y K → (gk_L0 as).length ≤ 3 ∧ ∀ V : gk_V, gk_W cX11_addValue pX11 cs_X11_addValue (fun _ _ => none) (some .int) 0 none K V → V 0 (gk_en as 3) [] n fl x y 0 := by
  intro as n fl x y K hS
  obtain ⟨v, f, g, rfl, ⟨rfl, rfl⟩, hp0, hp1, q0, q1, q2, q3⟩ := hS
  refine ⟨Nat.le_of_ble_eq_true rfl, fun V w => ?_⟩
  show V 0 [some (.ref 189), some (.int v), some (.int f)] [] 202 gk_fT x y 0
  obtain ⟨nv4, ns6, nm8, z6, z7, z8⟩ := wf_n hp1.1
  have w6 : 0 ≤ (g 6).toInt := by show 0 ≤ gz g 6; omega
  have w7 : 0 ≤ (g 7).toInt := by show 0 ≤ gz g 7; omega
  have w8 : 0 ≤ (g 8).toInt := by show 0 ≤ gz g 8; omega
  refine s_aload_n (pc2 := 1) w dX11_addValue_0 rfl rfl ?_
  refine s_iconst (pc2 := 2) (v := 0) w dX11_addValue_1 rfl rfl ?_
  refine m_putI (pc2 := 5) (ci := 10) (k := 4) w dX11_addValue_2 rfl rfl rfl rfl rfl (by intro h; cases h) ?_
  have f0 := MOk.ini (y := y) hp0
  generalize gk_up x 189 4 0 = x0 at f0 ⊢
  refine s_aload_n (pc2 := 6) w dX11_addValue_5 rfl rfl ?_
  refine s_iload_n (pc2 := 7) w dX11_addValue_6 rfl rfl ?_
  refine r_X11_isSource (pc2 := 10) w dX11_addValue_7 rfl rfl rfl ?_
  rw [f0.1 7 (by decide), isn_e w7]
  refine s_if_ne (pc2 := 13) (tgt := 19) w dX11_addValue_10 rfl (by decide) (fun c10 => ?_) (fun c10 => ?_)
  · rw [g_b0, Classical.not_not] at c10
    refine s_iload_n (pc2 := 20) w dX11_addValue_19 rfl rfl ?_
    refine r_X11_isValue (pc2 := 23) w dX11_addValue_20 rfl rfl rfl ?_
    refine s_if_ne (pc2 := 26) (tgt := 32) w dX11_addValue_23 rfl (by decide) (fun c23 => ?_) (fun c23 => ?_)
    · rw [g_b0, Classical.not_not] at c23
      obtain ⟨a, rfl, ah⟩ := ix_n c10
      have ah : a < nS g := ah
      rw [cN_n a (by omega)] at q0 q3
      refine s_aload_n (pc2 := 33) w dX11_addValue_32 rfl rfl ?_
      refine s_iload_n (pc2 := 34) w dX11_addValue_33 rfl rfl ?_
      refine s_iconst (pc2 := 35) (v := 4) w dX11_addValue_34 rfl rfl ?_
      refine r_X11_source (pc2 := 38) (b := 4) w dX11_addValue_35 rfl rfl rfl rfl rfl (by omega) ?_
      refine s_bipush (pc2 := 40) (v := 16) w dX11_addValue_38 rfl rfl ?_
      rw [f0.1 (28 + 21 * a + 4) (by omega)]
      refine s_ic_ne (pc2 := 43) (tgt := 51) w dX11_addValue_40 rfl (by decide) (fun c40 => ?_) (fun c40 => ?_)
      · have w16 := (hp1.1.2.2.1 a ah).2.2.2.2.1
        have e4 : g (28 + 21 * a + 4) = nI (sW g a) := (gz_I g _).trans (congrArg gI (show gz g (28 + 21 * a + 4) = ((gz g (28 + 21 * a + 4)).toNat : Int) by omega))
        have n16 : sW g a < 16 := ct_lt e4 (by unfold sW; omega) rfl c40
        refine s_aload_n (pc2 := 52) w dX11_addValue_51 rfl rfl ?_
        refine s_iload_n (pc2 := 53) w dX11_addValue_52 rfl rfl ?_
        refine s_iload_n (pc2 := 54) w dX11_addValue_53 rfl rfl ?_
        refine r_X11_appendValue (pc2 := 57) w dX11_addValue_54 rfl rfl rfl f0.1 rfl (by omega) e4 n16 (fun x1 hx1 hx2 => ?_)
        rw [show nI (sW g a + 1) = g (28 + 21 * a + 4) + 1 from (nI_s (sW g a)).symm.trans (by rw [e4]; rfl)]
        refine s_ireturn w dX11_addValue_57 rfl rfl ?_
        exact q0 c10 c23 c40 _ _ (f0.mg hx1 hx2)
      · refine s_aload_n (pc2 := 44) w dX11_addValue_43 rfl rfl ?_
        refine s_iconst (pc2 := 45) (v := 3) w dX11_addValue_44 rfl rfl ?_
        refine r_X11_fail (pc2 := 48) w dX11_addValue_45 rfl rfl rfl ?_
        refine s_goto (tgt := 57) w dX11_addValue_48 (by decide) ?_
        refine s_ireturn w dX11_addValue_57 rfl rfl ?_
        exact q3 c10 c23 (fun hc => hc c40) _ _ (f0.fail 3)
    · refine s_aload_n (pc2 := 27) w dX11_addValue_26 rfl rfl ?_
      refine s_iconst (pc2 := 28) (v := 2) w dX11_addValue_27 rfl rfl ?_
      refine r_X11_fail (pc2 := 31) w dX11_addValue_28 rfl rfl rfl ?_
      refine s_ireturn w dX11_addValue_31 rfl rfl ?_
      rw [g_b0] at c23
      exact q2 c10 (fun hc => c23 hc) _ _ (f0.fail 2)
  · refine s_aload_n (pc2 := 14) w dX11_addValue_13 rfl rfl ?_
    refine s_iconst (pc2 := 15) (v := 1) w dX11_addValue_14 rfl rfl ?_
    refine r_X11_fail (pc2 := 18) w dX11_addValue_15 rfl rfl rfl ?_
    refine s_ireturn w dX11_addValue_18 rfl rfl ?_
    rw [g_b0] at c10
    exact q1  (fun hc => c10 hc) _ _ (f0.fail 1)
theorem lk_X11_addValue {l : Launch} (hl : l.stackTraces = false) : ∀ q ∈ L_X11_addValue, (q.2.1 < 5 → gk_Lk l RX11 gk_W1 2 q.1 q.2.1 q.2.2.1 q.2.2.2.1 q.2.2.2.2.1 q.2.2.2.2.2) := (List.forall_mem_cons.mpr ⟨(fun _ => ⟨yX11_fail, cX11_fail, 2, (some .int), 0, _, M_X11_fail hl, ⟨by decide, by decide⟩, ⟨by decide, by decide, by decide +kernel⟩, ⟨(gk_wm 1342 (by decide +kernel)), (gk_wm 99 (by decide +kernel))⟩, Or.inr (Or.inr (Or.inr (Or.inl ⟨rfl, rfl, (gk_wm 1341 (by decide +kernel)), (gk_wm 32 (by decide +kernel)), gk_wm 1339 (by decide +kernel), by decide, rfl⟩)))⟩), (List.forall_mem_cons.mpr ⟨(fun _ => ⟨yX11_isValue, cX11_isValue, 1, (some .boolean), 1, _, M_X11_isValue hl, ⟨by decide, by decide⟩, ⟨by decide, by decide, by decide +kernel⟩, ⟨(gk_wm 1382 (by decide +kernel)), (gk_wm 99 (by decide +kernel))⟩, Or.inl ⟨rfl, rfl, (gk_wm 1381 (by decide +kernel)), gk_wm 1380 (by decide +kernel)⟩⟩), (List.forall_mem_cons.mpr ⟨(fun _ => ⟨yX11_appendValue, cX11_appendValue, 4, (some .int), 0, _, M_X11_appendValue hl, ⟨by decide, by decide⟩, ⟨by decide, by decide, by decide +kernel⟩, ⟨(gk_wm 1390 (by decide +kernel)), (gk_wm 99 (by decide +kernel))⟩, Or.inr (Or.inr (Or.inr (Or.inl ⟨rfl, rfl, (gk_wm 1389 (by decide +kernel)), (gk_wm 36 (by decide +kernel)), gk_wm 1387 (by decide +kernel), by decide, rfl⟩)))⟩), (List.forall_mem_cons.mpr ⟨(fun _ => ⟨yX11_isSource, cX11_isSource, 2, (some .boolean), 1, _, M_X11_isSource hl, ⟨by decide, by decide⟩, ⟨by decide, by decide, by decide +kernel⟩, ⟨(gk_wm 1398 (by decide +kernel)), (gk_wm 99 (by decide +kernel))⟩, Or.inr (Or.inr (Or.inr (Or.inl ⟨rfl, rfl, (gk_wm 1397 (by decide +kernel)), (gk_wm 37 (by decide +kernel)), gk_wm 1395 (by decide +kernel), by decide, rfl⟩)))⟩), (List.forall_mem_cons.mpr ⟨(fun _ => ⟨yX11_source, cX11_source, 3, (some .int), 0, _, M_X11_source hl, ⟨by decide, by decide⟩, ⟨by decide, by decide, by decide +kernel⟩, ⟨(gk_wm 1402 (by decide +kernel)), (gk_wm 99 (by decide +kernel))⟩, Or.inr (Or.inr (Or.inr (Or.inl ⟨rfl, rfl, (gk_wm 1401 (by decide +kernel)), (gk_wm 38 (by decide +kernel)), gk_wm 1399 (by decide +kernel), by decide, rfl⟩)))⟩), (fun _ h => absurd h List.not_mem_nil)⟩)⟩)⟩)⟩)⟩)
theorem sp_X11_addValue : ∀ q ∈ L_X11_addValue, gk_Sq RX11 gk_W1 2 q := (List.forall_mem_cons.mpr ⟨⟨fun h => absurd h (by decide), fun h => absurd h (by decide), fun h => absurd h (by decide), fun h => absurd h (by decide), fun h => absurd h (by decide), fun h => absurd h (by decide)⟩, (List.forall_mem_cons.mpr ⟨⟨fun h => absurd h (by decide), fun h => absurd h (by decide), fun h => absurd h (by decide), fun h => absurd h (by decide), fun h => absurd h (by decide), fun h => absurd h (by decide)⟩, (List.forall_mem_cons.mpr ⟨⟨fun h => absurd h (by decide), fun h => absurd h (by decide), fun h => absurd h (by decide), fun h => absurd h (by decide), fun h => absurd h (by decide), fun h => absurd h (by decide)⟩, (List.forall_mem_cons.mpr ⟨⟨fun h => absurd h (by decide), fun h => absurd h (by decide), fun h => absurd h (by decide), fun h => absurd h (by decide), fun h => absurd h (by decide), fun h => absurd h (by decide)⟩, (List.forall_mem_cons.mpr ⟨⟨fun h => absurd h (by decide), fun h => absurd h (by decide), fun h => absurd h (by decide), fun h => absurd h (by decide), fun h => absurd h (by decide), fun h => absurd h (by decide)⟩, (fun _ h => absurd h List.not_mem_nil)⟩)⟩)⟩)⟩)⟩)
theorem M_X11_addValue {l : Launch} (hl : l.stackTraces = false) : gk_Mt l yX11_addValue (.code yX11_addValue cX11_addValue 3 (some .int) :: gk_W1) 2 0 S_X11_addValue := gk_meth hl gk_cw_ok (by decide +kernel) rfl m_X11_addValue pX11_ok (gk_Sp_of sp_X11_addValue) pX11_st (fun ci m S h => absurd h (by intro h; cases h)) (xf_X11 2) (fun idx kd ci mm cost S2 h h5 => lk_X11_addValue hl _ (gk_lk_mem h) h5)

def S_X11_addMicrophone : gk_S := fun as n fl x y K => ∃ (a : Int32) (b : Int32) (e : Int32) (d : Int32) (g : Nat → Int32), as = [.ref 189, .int a, .int b, .int e, .int d] ∧ (n = 202 ∧ fl = gk_fT) ∧ (MG g x) ∧ (gOK g) ∧ ((((-5000 ≤ a ∧ a ≤ 5000) ∧ (-100 ≤ b ∧ b ≤ 99) ∧ (0 ≤ e ∧ e ≤ 500)) ∧ (0 ≤ d ∧ d ≤ 9)) → (¬ g 8 = 8) → ∀ (x2 : gk_X) (y2 : gk_Y), MOk (gAM g (nM g) a b e d) 0 x x2 y y2 → K (.inl (some (.int (g 8)))) n fl x2 y2) ∧ (¬ (((-5000 ≤ a ∧ a ≤ 5000) ∧ (-100 ≤ b ∧ b ≤ 99) ∧ (0 ≤ e ∧ e ≤ 500)) ∧ (0 ≤ d ∧ d ≤ 9)) → ∀ (x2 : gk_X) (y2 : gk_Y), MOk g 1 x x2 y y2 → K (.inl (some (.int 0))) n fl x2 y2) ∧ ((((-5000 ≤ a ∧ a ≤ 5000) ∧ (-100 ≤ b ∧ b ≤ 99) ∧ (0 ≤ e ∧ e ≤ 500)) ∧ (0 ≤ d ∧ d ≤ 9)) → ¬ (¬ g 8 = 8) → ∀ (x2 : gk_X) (y2 : gk_Y), MOk g 2 x x2 y y2 → K (.inl (some (.int 0))) n fl x2 y2)
theorem r_X11_addMicrophone (w : gk_W c P cs (fun _ _ => none) rt uf sc K V) {idx : Nat} {a : Int32} {b : Int32} {e : Int32} {d : Int32} {g : Nat → Int32} (hd : decode c pc = .ok (.invokevirtual idx, 3)) (hp : pc + 3 = pc2) (hc : cs idx = some (1, 10, 5, 0, S_X11_addMicrophone)) (h8 : Nat.ble (r.map Value.category).sum 8 = true) (hp0 : MG g x) (hp1 : gOK g) (kk0 : (((-5000 ≤ a ∧ a ≤ 5000) ∧ (-100 ≤ b ∧ b ≤ 99) ∧ (0 ≤ e ∧ e ≤ 500)) ∧ (0 ≤ d ∧ d ≤ 9)) → (¬ g 8 = 8) → ∀ (x2 : gk_X) (y2 : gk_Y), MOk (gAM g (nM g) a b e d) 0 x x2 y y2 → V pc2 L ((.int (g 8)) :: r) 202 gk_fT x2 y2 u) (kk1 : ¬ (((-5000 ≤ a ∧ a ≤ 5000) ∧ (-100 ≤ b ∧ b ≤ 99) ∧ (0 ≤ e ∧ e ≤ 500)) ∧ (0 ≤ d ∧ d ≤ 9)) → ∀ (x2 : gk_X) (y2 : gk_Y), MOk g 1 x x2 y y2 → V pc2 L ((.int 0) :: r) 202 gk_fT x2 y2 u) (kk2 : (((-5000 ≤ a ∧ a ≤ 5000) ∧ (-100 ≤ b ∧ b ≤ 99) ∧ (0 ≤ e ∧ e ≤ 500)) ∧ (0 ≤ d ∧ d ≤ 9)) → ¬ (¬ g 8 = 8) → ∀ (x2 : gk_X) (y2 : gk_Y), MOk g 2 x x2 y y2 → V pc2 L ((.int 0) :: r) 202 gk_fT x2 y2 u) : V pc L (.int d :: .int e :: .int b :: .int a :: .ref 189 :: r) 202 gk_fT x y u :=
  g_callv w hd hp hc (as := [.ref 189, .int a, .int b, .int e, .int d]) rfl h8 rfl rfl rfl (Or.inr (Or.inl ⟨Or.inl rfl, _, _, rfl, (gk_kd_j rfl rfl), rfl⟩)) (Or.inl rfl) ⟨a, b, e, d, g, rfl, ⟨rfl, rfl⟩, hp0, hp1, kk0, kk1, kk2⟩
def L_X11_addMicrophone : List (Nat × gk_M0) := [(52, (0, 10, 3, 0, S_X11_isBetween)), (64, (1, 10, 2, 0, S_X11_fail)), (100, (0, 10, 3, 0, S_X11_isMicrophonePlace)), (103, (1, 10, 5, 0, S_X11_appendMicrophone))]
def cs_X11_addMicrophone : Nat → Option gk_M0 := gk_lk L_X11_addMicrophone
theorem m_X11_addMicrophone : ∀ (as : List Value) (n : Nat) (fl : gk_F) (x : gk_X) (y : gk_Y) (K : gk_K), S_X11_addMicrophone as n fl x y K → (gk_L0 as).length ≤ 5 ∧ ∀ V : gk_V, gk_W cX11_addMicrophone pX11 cs_X11_addMicrophone (fun _ _ => none) (some .int) 0 none K V → V 0 (gk_en as 5) [] n fl x y 0 := by
  intro as n fl x y K hS
  obtain ⟨a, b, e, d, g, rfl, ⟨rfl, rfl⟩, hp0, hp1, q0, q1, q2⟩ := hS
  refine ⟨Nat.le_of_ble_eq_true rfl, fun V w => ?_⟩
  show V 0 [some (.ref 189), some (.int a), some (.int b), some (.int e), some (.int d)] [] 202 gk_fT x y 0
  obtain ⟨nv4, ns6, nm8, z6, z7, z8⟩ := wf_n hp1.1
  have w6 : 0 ≤ (g 6).toInt := by show 0 ≤ gz g 6; omega
  have w7 : 0 ≤ (g 7).toInt := by show 0 ≤ gz g 7; omega
  have w8 : 0 ≤ (g 8).toInt := by show 0 ≤ gz g 8; omega
  refine s_aload_n (pc2 := 1) w dX11_addMicrophone_0 rfl rfl ?_
  refine s_iconst (pc2 := 2) (v := 0) w dX11_addMicrophone_1 rfl rfl ?_
  refine m_putI (pc2 := 5) (ci := 10) (k := 4) w dX11_addMicrophone_2 rfl rfl rfl rfl rfl (by intro h; cases h) ?_
  have f0 := MOk.ini (y := y) hp0
  generalize gk_up x 189 4 0 = x0 at f0 ⊢
  refine s_iload_n (pc2 := 6) w dX11_addMicrophone_5 rfl rfl ?_
  refine s_iload_n (pc2 := 7) w dX11_addMicrophone_6 rfl rfl ?_
  refine s_iload_n (pc2 := 8) w dX11_addMicrophone_7 rfl rfl ?_
  refine r_X11_isMicrophonePlace (pc2 := 11) w dX11_addMicrophone_8 rfl rfl rfl ?_
  refine s_if_eq (pc2 := 14) (tgt := 25) w dX11_addMicrophone_11 rfl (by decide) (fun c11 => ?_) (fun c11 => ?_)
  · refine s_aload_n (pc2 := 26) w dX11_addMicrophone_25 rfl rfl ?_
    refine s_iconst (pc2 := 27) (v := 1) w dX11_addMicrophone_26 rfl rfl ?_
    refine r_X11_fail (pc2 := 30) w dX11_addMicrophone_27 rfl rfl rfl ?_
    refine s_ireturn w dX11_addMicrophone_30 rfl rfl ?_
    rw [g_b0] at c11
    exact q1  (fun hc => c11 hc.1) _ _ (f0.fail 1)
  · rw [g_b0, Classical.not_not] at c11
    refine s_iload (pc2 := 16) w dX11_addMicrophone_14 rfl rfl ?_
    refine s_iconst (pc2 := 17) (v := 0) w dX11_addMicrophone_16 rfl rfl ?_
    refine s_bipush (pc2 := 19) (v := 9) w dX11_addMicrophone_17 rfl rfl ?_
    refine r_X11_isBetween (pc2 := 22) w dX11_addMicrophone_19 rfl rfl rfl ?_
    refine s_if_ne (pc2 := 25) (tgt := 31) w dX11_addMicrophone_22 rfl (by decide) (fun c22 => ?_) (fun c22 => ?_)
    · rw [g_b0, Classical.not_not] at c22
      refine s_aload_n (pc2 := 32) w dX11_addMicrophone_31 rfl rfl ?_
      refine m_getR (pc2 := 35) (ci := 10) (k := 0) (j2 := 190) w dX11_addMicrophone_32 rfl rfl rfl rfl rfl rfl ?_
      refine s_bipush (pc2 := 37) (v := 8) w dX11_addMicrophone_35 rfl rfl ?_
      refine m_ialoadN (pc2 := 38) (t := 8) (N := 2234) w dX11_addMicrophone_37 rfl rfl rfl rfl (by decide) rfl ?_
      refine s_bipush (pc2 := 40) (v := 8) w dX11_addMicrophone_38 rfl rfl ?_
      rw [f0.1 8 (by decide)]
      refine s_ic_ne (pc2 := 43) (tgt := 51) w dX11_addMicrophone_40 rfl (by decide) (fun c40 => ?_) (fun c40 => ?_)
      · have e8 : g 8 = nI (nM g) := (gz_I g 8).trans (congrArg gI z8)
        have n8 : nM g < 8 := ct_lt e8 nm8 rfl c40
        refine s_aload_n (pc2 := 52) w dX11_addMicrophone_51 rfl rfl ?_
        refine s_iload_n (pc2 := 53) w dX11_addMicrophone_52 rfl rfl ?_
        refine s_iload_n (pc2 := 54) w dX11_addMicrophone_53 rfl rfl ?_
        refine s_iload_n (pc2 := 55) w dX11_addMicrophone_54 rfl rfl ?_
        refine s_iload (pc2 := 57) w dX11_addMicrophone_55 rfl rfl ?_
        refine r_X11_appendMicrophone (pc2 := 60) w dX11_addMicrophone_57 rfl rfl rfl f0.1 e8 n8 (fun x1 hx1 hx2 => ?_)
        rw [← e8]
        refine s_ireturn w dX11_addMicrophone_60 rfl rfl ?_
        exact q0 ⟨c11, c22⟩ c40 _ _ (f0.mg hx1 hx2)
      · refine s_aload_n (pc2 := 44) w dX11_addMicrophone_43 rfl rfl ?_
        refine s_iconst (pc2 := 45) (v := 2) w dX11_addMicrophone_44 rfl rfl ?_
        refine r_X11_fail (pc2 := 48) w dX11_addMicrophone_45 rfl rfl rfl ?_
        refine s_goto (tgt := 60) w dX11_addMicrophone_48 (by decide) ?_
        refine s_ireturn w dX11_addMicrophone_60 rfl rfl ?_
        exact q2 ⟨c11, c22⟩ (fun hc => hc c40) _ _ (f0.fail 2)
    · refine s_aload_n (pc2 := 26) w dX11_addMicrophone_25 rfl rfl ?_
      refine s_iconst (pc2 := 27) (v := 1) w dX11_addMicrophone_26 rfl rfl ?_
      refine r_X11_fail (pc2 := 30) w dX11_addMicrophone_27 rfl rfl rfl ?_
      refine s_ireturn w dX11_addMicrophone_30 rfl rfl ?_
      rw [g_b0] at c22
      exact q1  (fun hc => c22 hc.2) _ _ (f0.fail 1)
theorem lk_X11_addMicrophone {l : Launch} (hl : l.stackTraces = false) : ∀ q ∈ L_X11_addMicrophone, (q.2.1 < 5 → gk_Lk l RX11 gk_W1 3 q.1 q.2.1 q.2.2.1 q.2.2.2.1 q.2.2.2.2.1 q.2.2.2.2.2) := (List.forall_mem_cons.mpr ⟨(fun _ => ⟨yX11_isBetween, cX11_isBetween, 3, (some .boolean), 0, _, M_X11_isBetween hl, ⟨by decide, by decide⟩, ⟨by decide, by decide, by decide +kernel⟩, ⟨(gk_wm 1334 (by decide +kernel)), (gk_wm 99 (by decide +kernel))⟩, Or.inl ⟨rfl, rfl, (gk_wm 1333 (by decide +kernel)), gk_wm 1332 (by decide +kernel)⟩⟩), (List.forall_mem_cons.mpr ⟨(fun _ => ⟨yX11_fail, cX11_fail, 2, (some .int), 0, _, M_X11_fail hl, ⟨by decide, by decide⟩, ⟨by decide, by decide, by decide +kernel⟩, ⟨(gk_wm 1342 (by decide +kernel)), (gk_wm 99 (by decide +kernel))⟩, Or.inr (Or.inr (Or.inr (Or.inl ⟨rfl, rfl, (gk_wm 1341 (by decide +kernel)), (gk_wm 32 (by decide +kernel)), gk_wm 1339 (by decide +kernel), by decide, rfl⟩)))⟩), (List.forall_mem_cons.mpr ⟨(fun _ => ⟨yX11_isMicrophonePlace, cX11_isMicrophonePlace, 3, (some .boolean), 2, _, M_X11_isMicrophonePlace hl, ⟨by decide, by decide⟩, ⟨by decide, by decide, by decide +kernel⟩, ⟨(gk_wm 1409 (by decide +kernel)), (gk_wm 99 (by decide +kernel))⟩, Or.inl ⟨rfl, rfl, (gk_wm 1408 (by decide +kernel)), gk_wm 1407 (by decide +kernel)⟩⟩), (List.forall_mem_cons.mpr ⟨(fun _ => ⟨yX11_appendMicrophone, cX11_appendMicrophone, 6, (some .int), 0, _, M_X11_appendMicrophone hl, ⟨by decide, by decide⟩, ⟨by decide, by decide, by decide +kernel⟩, ⟨(gk_wm 1413 (by decide +kernel)), (gk_wm 99 (by decide +kernel))⟩, Or.inr (Or.inr (Or.inr (Or.inl ⟨rfl, rfl, (gk_wm 1412 (by decide +kernel)), (gk_wm 39 (by decide +kernel)), gk_wm 1410 (by decide +kernel), by decide, rfl⟩)))⟩), (fun _ h => absurd h List.not_mem_nil)⟩)⟩)⟩)⟩)
theorem sp_X11_addMicrophone : ∀ q ∈ L_X11_addMicrophone, gk_Sq RX11 gk_W1 3 q := (List.forall_mem_cons.mpr ⟨⟨fun h => absurd h (by decide), fun h => absurd h (by decide), fun h => absurd h (by decide), fun h => absurd h (by decide), fun h => absurd h (by decide), fun h => absurd h (by decide)⟩, (List.forall_mem_cons.mpr ⟨⟨fun h => absurd h (by decide), fun h => absurd h (by decide), fun h => absurd h (by decide), fun h => absurd h (by decide), fun h => absurd h (by decide), fun h => absurd h (by decide)⟩, (List.forall_mem_cons.mpr ⟨⟨fun h => absurd h (by decide), fun h => absurd h (by decide), fun h => absurd h (by decide), fun h => absurd h (by decide), fun h => absurd h (by decide), fun h => absurd h (by decide)⟩, (List.forall_mem_cons.mpr ⟨⟨fun h => absurd h (by decide), fun h => absurd h (by decide), fun h => absurd h (by decide), fun h => absurd h (by decide), fun h => absurd h (by decide), fun h => absurd h (by decide)⟩, (fun _ h => absurd h List.not_mem_nil)⟩)⟩)⟩)⟩)
theorem M_X11_addMicrophone {l : Launch} (hl : l.stackTraces = false) : gk_Mt l yX11_addMicrophone (.code yX11_addMicrophone cX11_addMicrophone 5 (some .int) :: gk_W1) 3 0 S_X11_addMicrophone := gk_meth hl gk_cw_ok (by decide +kernel) rfl m_X11_addMicrophone pX11_ok (gk_Sp_of sp_X11_addMicrophone) pX11_st (fun ci m S h => absurd h (by intro h; cases h)) (xf_X11 3) (fun idx kd ci mm cost S2 h h5 => lk_X11_addMicrophone hl _ (gk_lk_mem h) h5)

def S_X11_setWeight : gk_S := fun as n fl x y K => ∃ (m : Int32) (v : Int32) (g : Nat → Int32), as = [.ref 189, .int m, .int v] ∧ (n = 202 ∧ fl = gk_fT) ∧ (MG g x) ∧ (gOK g) ∧ ((0 ≤ m ∧ m < g 8) → (0 ≤ v ∧ v ≤ 9) → ∀ (x2 : gk_X) (y2 : gk_Y), MOk (gU g (154 + 4 * cN m + 3) v) 0 x x2 y y2 → K (.inl (some (.int (g (154 + 4 * cN m + 3))))) n fl x2 y2) ∧ (¬ (0 ≤ m ∧ m < g 8) → ∀ (x2 : gk_X) (y2 : gk_Y), MOk g 1 x x2 y y2 → K (.inl (some (.int 0))) n fl x2 y2) ∧ ((0 ≤ m ∧ m < g 8) → ¬ (0 ≤ v ∧ v ≤ 9) → ∀ (x2 : gk_X) (y2 : gk_Y), MOk g 2 x x2 y y2 → K (.inl (some (.int 0))) n fl x2 y2)
theorem r_X11_setWeight (w : gk_W c P cs (fun _ _ => none) rt uf sc K V) {idx : Nat} {m : Int32} {v : Int32} {g : Nat → Int32} (hd : decode c pc = .ok (.invokevirtual idx, 3)) (hp : pc + 3 = pc2) (hc : cs idx = some (1, 10, 3, 0, S_X11_setWeight)) (h8 : Nat.ble (r.map Value.category).sum 8 = true) (hp0 : MG g x) (hp1 : gOK g) (kk0 : (0 ≤ m ∧ m < g 8) → (0 ≤ v ∧ v ≤ 9) → ∀ (x2 : gk_X) (y2 : gk_Y), MOk (gU g (154 + 4 * cN m + 3) v) 0 x x2 y y2 → V pc2 L ((.int (g (154 + 4 * cN m + 3))) :: r) 202 gk_fT x2 y2 u) (kk1 : ¬ (0 ≤ m ∧ m < g 8) → ∀ (x2 : gk_X) (y2 : gk_Y), MOk g 1 x x2 y y2 → V pc2 L ((.int 0) :: r) 202 gk_fT x2 y2 u) (kk2 : (0 ≤ m ∧ m < g 8) → ¬ (0 ≤ v ∧ v ≤ 9) → ∀ (x2 : gk_X) (y2 : gk_Y), MOk g 2 x x2 y y2 → V pc2 L ((.int 0) :: r) 202 gk_fT x2 y2 u) : V pc L (.int v :: .int m :: .ref 189 :: r) 202 gk_fT x y u :=
  g_callv w hd hp hc (as := [.ref 189, .int m, .int v]) rfl h8 rfl rfl rfl (Or.inr (Or.inl ⟨Or.inl rfl, _, _, rfl, (gk_kd_j rfl rfl), rfl⟩)) (Or.inl rfl) ⟨m, v, g, rfl, ⟨rfl, rfl⟩, hp0, hp1, kk0, kk1, kk2⟩
def L_X11_setWeight : List (Nat × gk_M0) := [(52, (0, 10, 3, 0, S_X11_isBetween)), (60, (1, 10, 3, 0, S_X11_replace)), (64, (1, 10, 2, 0, S_X11_fail)), (106, (1, 10, 2, 0, S_X11_isMicrophone))]
def cs_X11_setWeight : Nat → Option gk_M0 := gk_lk L_X11_setWeight
theorem m_X11_setWeight : ∀ (as : List Value) (n : Nat) (fl : gk_F) (x : gk_X) (y : gk_Y) (K : gk_K), S_X11_setWeight as n fl x y K → (gk_L0 as).length ≤ 3 ∧ ∀ V : gk_V, gk_W cX11_setWeight pX11 cs_X11_setWeight (fun _ _ => none) (some .int) 0 none K V → V 0 (gk_en as 3) [] n fl x y 0 := by
  intro as n fl x y K hS
  obtain ⟨m, v, g, rfl, ⟨rfl, rfl⟩, hp0, hp1, q0, q1, q2⟩ := hS
  refine ⟨Nat.le_of_ble_eq_true rfl, fun V w => ?_⟩
  show V 0 [some (.ref 189), some (.int m), some (.int v)] [] 202 gk_fT x y 0
  obtain ⟨nv4, ns6, nm8, z6, z7, z8⟩ := wf_n hp1.1
  have w6 : 0 ≤ (g 6).toInt := by show 0 ≤ gz g 6; omega
  have w7 : 0 ≤ (g 7).toInt := by show 0 ≤ gz g 7; omega
  have w8 : 0 ≤ (g 8).toInt := by show 0 ≤ gz g 8; omega
  refine s_aload_n (pc2 := 1) w dX11_setWeight_0 rfl rfl ?_
  refine s_iconst (pc2 := 2) (v := 0) w dX11_setWeight_1 rfl rfl ?_
  refine m_putI (pc2 := 5) (ci := 10) (k := 4) w dX11_setWeight_2 rfl rfl rfl rfl rfl (by intro h; cases h) ?_
  have f0 := MOk.ini (y := y) hp0
  generalize gk_up x 189 4 0 = x0 at f0 ⊢
  refine s_aload_n (pc2 := 6) w dX11_setWeight_5 rfl rfl ?_
  refine s_iload_n (pc2 := 7) w dX11_setWeight_6 rfl rfl ?_
  refine r_X11_isMicrophone (pc2 := 10) w dX11_setWeight_7 rfl rfl rfl ?_
  rw [f0.1 8 (by decide), isn_e w8]
  refine s_if_ne (pc2 := 13) (tgt := 19) w dX11_setWeight_10 rfl (by decide) (fun c10 => ?_) (fun c10 => ?_)
  · rw [g_b0, Classical.not_not] at c10
    refine s_iload_n (pc2 := 20) w dX11_setWeight_19 rfl rfl ?_
    refine s_iconst (pc2 := 21) (v := 0) w dX11_setWeight_20 rfl rfl ?_
    refine s_bipush (pc2 := 23) (v := 9) w dX11_setWeight_21 rfl rfl ?_
    refine r_X11_isBetween (pc2 := 26) w dX11_setWeight_23 rfl rfl rfl ?_
    refine s_if_eq (pc2 := 29) (tgt := 46) w dX11_setWeight_26 rfl (by decide) (fun c26 => ?_) (fun c26 => ?_)
    · refine s_aload_n (pc2 := 47) w dX11_setWeight_46 rfl rfl ?_
      refine s_iconst (pc2 := 48) (v := 2) w dX11_setWeight_47 rfl rfl ?_
      refine r_X11_fail (pc2 := 51) w dX11_setWeight_48 rfl rfl rfl ?_
      refine s_ireturn w dX11_setWeight_51 rfl rfl ?_
      rw [g_b0] at c26
      exact q2 c10 (fun hc => c26 hc) _ _ (f0.fail 2)
    · rw [g_b0, Classical.not_not] at c26
      obtain ⟨a, rfl, ah⟩ := ix_n c10
      have ah : a < nM g := ah
      rw [cN_n a (by omega)] at q0
      refine s_aload_n (pc2 := 30) w dX11_setWeight_29 rfl rfl ?_
      refine s_sipush (pc2 := 33) (v := gI 154) w dX11_setWeight_30 rfl rfl ?_
      refine s_iconst (pc2 := 34) (v := gI 4) w dX11_setWeight_33 rfl rfl ?_
      refine s_iload_n (pc2 := 35) w dX11_setWeight_34 rfl rfl ?_
      refine s_imul (pc2 := 36) w dX11_setWeight_35 rfl ?_
      refine s_iadd (pc2 := 37) w dX11_setWeight_36 rfl ?_
      refine s_iconst (pc2 := 38) (v := gI 3) w dX11_setWeight_37 rfl rfl ?_
      refine s_iadd (pc2 := 39) w dX11_setWeight_38 rfl ?_
      refine s_iload_n (pc2 := 40) w dX11_setWeight_39 rfl rfl ?_
      refine r_X11_replace (pc2 := 43) (a := 154 + 4 * a + 3) w dX11_setWeight_40 rfl rfl rfl (by simp only [gI_nI, gI_add, gI_mul]; exact congrArg gI (show (154 : Int) + 4 * (a : Int) + 3 = ((154 + 4 * a + 3 : Nat) : Int) by omega)) (by omega) ?_
      refine s_goto (tgt := 51) w dX11_setWeight_43 (by decide) ?_
      rw [f0.1 (154 + 4 * a + 3) (by omega)]
      refine s_ireturn w dX11_setWeight_51 rfl rfl ?_
      exact q0 c10 c26 _ _ (f0.st _ _)
  · refine s_aload_n (pc2 := 14) w dX11_setWeight_13 rfl rfl ?_
    refine s_iconst (pc2 := 15) (v := gI 1) w dX11_setWeight_14 rfl rfl ?_
    refine r_X11_fail (pc2 := 18) w dX11_setWeight_15 rfl rfl rfl ?_
    refine s_ireturn w dX11_setWeight_18 rfl rfl ?_
    rw [g_b0] at c10
    exact q1  (fun hc => c10 hc) _ _ (f0.fail 1)
theorem lk_X11_setWeight {l : Launch} (hl : l.stackTraces = false) : ∀ q ∈ L_X11_setWeight, (q.2.1 < 5 → gk_Lk l RX11 gk_W1 2 q.1 q.2.1 q.2.2.1 q.2.2.2.1 q.2.2.2.2.1 q.2.2.2.2.2) := (List.forall_mem_cons.mpr ⟨(fun _ => ⟨yX11_isBetween, cX11_isBetween, 3, (some .boolean), 0, _, M_X11_isBetween hl, ⟨by decide, by decide⟩, ⟨by decide, by decide, by decide +kernel⟩, ⟨(gk_wm 1334 (by decide +kernel)), (gk_wm 99 (by decide +kernel))⟩, Or.inl ⟨rfl, rfl, (gk_wm 1333 (by decide +kernel)), gk_wm 1332 (by decide +kernel)⟩⟩), (List.forall_mem_cons.mpr ⟨(fun _ => ⟨yX11_replace, cX11_replace, 4, (some .int), 0, _, M_X11_replace hl, ⟨by decide, by decide⟩, ⟨by decide, by decide, by decide +kernel⟩, ⟨(gk_wm 1338 (by decide +kernel)), (gk_wm 99 (by decide +kernel))⟩, Or.inr (Or.inr (Or.inr (Or.inl ⟨rfl, rfl, (gk_wm 1337 (by decide +kernel)), (gk_wm 31 (by decide +kernel)), gk_wm 1335 (by decide +kernel), by decide, rfl⟩)))⟩), (List.forall_mem_cons.mpr ⟨(fun _ => ⟨yX11_fail, cX11_fail, 2, (some .int), 0, _, M_X11_fail hl, ⟨by decide, by decide⟩, ⟨by decide, by decide, by decide +kernel⟩, ⟨(gk_wm 1342 (by decide +kernel)), (gk_wm 99 (by decide +kernel))⟩, Or.inr (Or.inr (Or.inr (Or.inl ⟨rfl, rfl, (gk_wm 1341 (by decide +kernel)), (gk_wm 32 (by decide +kernel)), gk_wm 1339 (by decide +kernel), by decide, rfl⟩)))⟩), (List.forall_mem_cons.mpr ⟨(fun _ => ⟨yX11_isMicrophone, cX11_isMicrophone, 2, (some .boolean), 1, _, M_X11_isMicrophone hl, ⟨by decide, by decide⟩, ⟨by decide, by decide, by decide +kernel⟩, ⟨(gk_wm 1421 (by decide +kernel)), (gk_wm 99 (by decide +kernel))⟩, Or.inr (Or.inr (Or.inr (Or.inl ⟨rfl, rfl, (gk_wm 1420 (by decide +kernel)), (gk_wm 40 (by decide +kernel)), gk_wm 1418 (by decide +kernel), by decide, rfl⟩)))⟩), (fun _ h => absurd h List.not_mem_nil)⟩)⟩)⟩)⟩)
theorem sp_X11_setWeight : ∀ q ∈ L_X11_setWeight, gk_Sq RX11 gk_W1 2 q := (List.forall_mem_cons.mpr ⟨⟨fun h => absurd h (by decide), fun h => absurd h (by decide), fun h => absurd h (by decide), fun h => absurd h (by decide), fun h => absurd h (by decide), fun h => absurd h (by decide)⟩, (List.forall_mem_cons.mpr ⟨⟨fun h => absurd h (by decide), fun h => absurd h (by decide), fun h => absurd h (by decide), fun h => absurd h (by decide), fun h => absurd h (by decide), fun h => absurd h (by decide)⟩, (List.forall_mem_cons.mpr ⟨⟨fun h => absurd h (by decide), fun h => absurd h (by decide), fun h => absurd h (by decide), fun h => absurd h (by decide), fun h => absurd h (by decide), fun h => absurd h (by decide)⟩, (List.forall_mem_cons.mpr ⟨⟨fun h => absurd h (by decide), fun h => absurd h (by decide), fun h => absurd h (by decide), fun h => absurd h (by decide), fun h => absurd h (by decide), fun h => absurd h (by decide)⟩, (fun _ h => absurd h List.not_mem_nil)⟩)⟩)⟩)⟩)
theorem M_X11_setWeight {l : Launch} (hl : l.stackTraces = false) : gk_Mt l yX11_setWeight (.code yX11_setWeight cX11_setWeight 3 (some .int) :: gk_W1) 2 0 S_X11_setWeight := gk_meth hl gk_cw_ok (by decide +kernel) rfl m_X11_setWeight pX11_ok (gk_Sp_of sp_X11_setWeight) pX11_st (fun ci m S h => absurd h (by intro h; cases h)) (xf_X11 2) (fun idx kd ci mm cost S2 h h5 => lk_X11_setWeight hl _ (gk_lk_mem h) h5)

def S_X11_focusOnVehicle : gk_S := fun as n fl x y K => ∃ (v : Int32) (b : Int32) (e : Int32) (g : Nat → Int32), as = [.ref 189, .int v, .int b, .int e] ∧ (n = 202 ∧ fl = gk_fT) ∧ (MG g x) ∧ (gOK g) ∧ ((0 ≤ v ∧ v < g 6) → ((-1000 ≤ b ∧ b ≤ 1000) ∧ (0 ≤ e ∧ e ≤ 500)) → ∀ (x2 : gk_X) (y2 : gk_Y), MOk (gFO g 0 v b 0 e) 0 x x2 y y2 → K (.inl none) n fl x2 y2) ∧ (¬ (0 ≤ v ∧ v < g 6) → ∀ (x2 : gk_X) (y2 : gk_Y), MOk g 1 x x2 y y2 → K (.inl none) n fl x2 y2) ∧ ((0 ≤ v ∧ v < g 6) → ¬ ((-1000 ≤ b ∧ b ≤ 1000) ∧ (0 ≤ e ∧ e ≤ 500)) → ∀ (x2 : gk_X) (y2 : gk_Y), MOk g 2 x x2 y y2 → K (.inl none) n fl x2 y2)
theorem r_X11_focusOnVehicle (w : gk_W c P cs (fun _ _ => none) rt uf sc K V) {idx : Nat} {v : Int32} {b : Int32} {e : Int32} {g : Nat → Int32} (hd : decode c pc = .ok (.invokevirtual idx, 3)) (hp : pc + 3 = pc2) (hc : cs idx = some (1, 10, 4, 0, S_X11_focusOnVehicle)) (h8 : Nat.ble (r.map Value.category).sum 8 = true) (hp0 : MG g x) (hp1 : gOK g) (kk0 : (0 ≤ v ∧ v < g 6) → ((-1000 ≤ b ∧ b ≤ 1000) ∧ (0 ≤ e ∧ e ≤ 500)) → ∀ (x2 : gk_X) (y2 : gk_Y), MOk (gFO g 0 v b 0 e) 0 x x2 y y2 → V pc2 L r 202 gk_fT x2 y2 u) (kk1 : ¬ (0 ≤ v ∧ v < g 6) → ∀ (x2 : gk_X) (y2 : gk_Y), MOk g 1 x x2 y y2 → V pc2 L r 202 gk_fT x2 y2 u) (kk2 : (0 ≤ v ∧ v < g 6) → ¬ ((-1000 ≤ b ∧ b ≤ 1000) ∧ (0 ≤ e ∧ e ≤ 500)) → ∀ (x2 : gk_X) (y2 : gk_Y), MOk g 2 x x2 y y2 → V pc2 L r 202 gk_fT x2 y2 u) : V pc L (.int e :: .int b :: .int v :: .ref 189 :: r) 202 gk_fT x y u :=
  g_callv w hd hp hc (as := [.ref 189, .int v, .int b, .int e]) rfl h8 rfl rfl rfl (Or.inr (Or.inl ⟨Or.inl rfl, _, _, rfl, (gk_kd_j rfl rfl), rfl⟩)) (Or.inl rfl) ⟨v, b, e, g, rfl, ⟨rfl, rfl⟩, hp0, hp1, kk0, kk1, kk2⟩
def L_X11_focusOnVehicle : List (Nat × gk_M0) := [(75, (1, 10, 2, 0, S_X11_isVehicle)), (78, (0, 10, 1, 0, S_X11_isOffset)), (81, (0, 10, 1, 0, S_X11_isHeight)), (216, (1, 10, 6, 0, S_X11_setFocus))]
def cs_X11_focusOnVehicle : Nat → Option gk_M0 := gk_lk L_X11_focusOnVehicle
theorem m_X11_focusOnVehicle : ∀ (as : List Value) (n : Nat) (fl : gk_F) (x : gk_X) (y : gk_Y) (K : gk_K), S_X11_focusOnVehicle as n fl x y K → (gk_L0 as).length ≤ 4 ∧ ∀ V : gk_V, gk_W cX11_focusOnVehicle pX11 cs_X11_focusOnVehicle (fun _ _ => none) none 0 none K V → V 0 (gk_en as 4) [] n fl x y 0 := by
  intro as n fl x y K hS
  obtain ⟨v, b, e, g, rfl, ⟨rfl, rfl⟩, hp0, hp1, q0, q1, q2⟩ := hS
  refine ⟨Nat.le_of_ble_eq_true rfl, fun V w => ?_⟩
  show V 0 [some (.ref 189), some (.int v), some (.int b), some (.int e)] [] 202 gk_fT x y 0
  obtain ⟨nv4, ns6, nm8, z6, z7, z8⟩ := wf_n hp1.1
  have w6 : 0 ≤ (g 6).toInt := by show 0 ≤ gz g 6; omega
  have w7 : 0 ≤ (g 7).toInt := by show 0 ≤ gz g 7; omega
  have w8 : 0 ≤ (g 8).toInt := by show 0 ≤ gz g 8; omega
  refine s_aload_n (pc2 := 1) w dX11_focusOnVehicle_0 rfl rfl ?_
  refine s_aload_n (pc2 := 2) w dX11_focusOnVehicle_1 rfl rfl ?_
  refine s_iload_n (pc2 := 3) w dX11_focusOnVehicle_2 rfl rfl ?_
  refine r_X11_isVehicle (pc2 := 6) w dX11_focusOnVehicle_3 rfl rfl rfl ?_
  rw [hp0 6 (by decide), isn_e w6]
  refine s_if_ne (pc2 := 9) (tgt := 13) w dX11_focusOnVehicle_6 rfl (by decide) (fun c6 => ?_) (fun c6 => ?_)
  · rw [g_b0, Classical.not_not] at c6
    refine s_iload_n (pc2 := 14) w dX11_focusOnVehicle_13 rfl rfl ?_
    refine r_X11_isOffset (pc2 := 17) w dX11_focusOnVehicle_14 rfl rfl rfl ?_
    refine s_if_eq (pc2 := 20) (tgt := 27) w dX11_focusOnVehicle_17 rfl (by decide) (fun c17 => ?_) (fun c17 => ?_)
    · refine s_iconst (pc2 := 28) (v := 2) w dX11_focusOnVehicle_27 rfl rfl ?_
      refine s_goto (tgt := 32) w dX11_focusOnVehicle_28 (by decide) ?_
      refine m_putI (pc2 := 35) (ci := 10) (k := 4) w dX11_focusOnVehicle_32 rfl rfl rfl rfl rfl (by intro h; cases h) ?_
      refine s_aload_n (pc2 := 36) w dX11_focusOnVehicle_35 rfl rfl ?_
      refine m_getI (pc2 := 39) (ci := 10) (k := 4) w dX11_focusOnVehicle_36 rfl rfl rfl rfl rfl ?_
      rw [gk_up_in]
      refine s_if_ne (pc2 := 42) (tgt := 51) w dX11_focusOnVehicle_39 rfl (by decide) (fun _ => ?_) (fun h0 => absurd h0 (by decide))
      refine s_return w dX11_focusOnVehicle_51 rfl ?_
      rw [g_b0] at c17
      exact q2 c6 (fun hc => c17 hc.1) _ _ (MOk.inj hp0 2)
    · rw [g_b0, Classical.not_not] at c17
      refine s_iload_n (pc2 := 21) w dX11_focusOnVehicle_20 rfl rfl ?_
      refine r_X11_isHeight (pc2 := 24) w dX11_focusOnVehicle_21 rfl rfl rfl ?_
      refine s_if_ne (pc2 := 27) (tgt := 31) w dX11_focusOnVehicle_24 rfl (by decide) (fun c24 => ?_) (fun c24 => ?_)
      · rw [g_b0, Classical.not_not] at c24
        refine s_iconst (pc2 := 32) (v := 0) w dX11_focusOnVehicle_31 rfl rfl ?_
        refine m_putI (pc2 := 35) (ci := 10) (k := 4) w dX11_focusOnVehicle_32 rfl rfl rfl rfl rfl (by intro h; cases h) ?_
        refine s_aload_n (pc2 := 36) w dX11_focusOnVehicle_35 rfl rfl ?_
        refine m_getI (pc2 := 39) (ci := 10) (k := 4) w dX11_focusOnVehicle_36 rfl rfl rfl rfl rfl ?_
        rw [gk_up_in]
        refine s_if_ne (pc2 := 42) (tgt := 51) w dX11_focusOnVehicle_39 rfl (by decide) (fun h0 => absurd (rfl) h0) (fun _ => ?_)
        refine s_aload_n (pc2 := 43) w dX11_focusOnVehicle_42 rfl rfl ?_
        refine s_iconst (pc2 := 44) (v := 0) w dX11_focusOnVehicle_43 rfl rfl ?_
        refine s_iload_n (pc2 := 45) w dX11_focusOnVehicle_44 rfl rfl ?_
        refine s_iload_n (pc2 := 46) w dX11_focusOnVehicle_45 rfl rfl ?_
        refine s_iconst (pc2 := 47) (v := 0) w dX11_focusOnVehicle_46 rfl rfl ?_
        refine s_iload_n (pc2 := 48) w dX11_focusOnVehicle_47 rfl rfl ?_
        refine r_X11_setFocus (pc2 := 51) w dX11_focusOnVehicle_48 rfl rfl rfl ?_
        refine s_return w dX11_focusOnVehicle_51 rfl ?_
        exact q0 c6 ⟨c17, c24⟩ _ _ ((((((MOk.inj hp0 0).st 10 0).st 11 v).st 12 b).st 13 0).st 14 e)
      · refine s_iconst (pc2 := 28) (v := 2) w dX11_focusOnVehicle_27 rfl rfl ?_
        refine s_goto (tgt := 32) w dX11_focusOnVehicle_28 (by decide) ?_
        refine m_putI (pc2 := 35) (ci := 10) (k := 4) w dX11_focusOnVehicle_32 rfl rfl rfl rfl rfl (by intro h; cases h) ?_
        refine s_aload_n (pc2 := 36) w dX11_focusOnVehicle_35 rfl rfl ?_
        refine m_getI (pc2 := 39) (ci := 10) (k := 4) w dX11_focusOnVehicle_36 rfl rfl rfl rfl rfl ?_
        rw [gk_up_in]
        refine s_if_ne (pc2 := 42) (tgt := 51) w dX11_focusOnVehicle_39 rfl (by decide) (fun _ => ?_) (fun h0 => absurd h0 (by decide))
        refine s_return w dX11_focusOnVehicle_51 rfl ?_
        rw [g_b0] at c24
        exact q2 c6 (fun hc => c24 hc.2) _ _ (MOk.inj hp0 2)
  · refine s_iconst (pc2 := 10) (v := 1) w dX11_focusOnVehicle_9 rfl rfl ?_
    refine s_goto (tgt := 32) w dX11_focusOnVehicle_10 (by decide) ?_
    refine m_putI (pc2 := 35) (ci := 10) (k := 4) w dX11_focusOnVehicle_32 rfl rfl rfl rfl rfl (by intro h; cases h) ?_
    refine s_aload_n (pc2 := 36) w dX11_focusOnVehicle_35 rfl rfl ?_
    refine m_getI (pc2 := 39) (ci := 10) (k := 4) w dX11_focusOnVehicle_36 rfl rfl rfl rfl rfl ?_
    rw [gk_up_in]
    refine s_if_ne (pc2 := 42) (tgt := 51) w dX11_focusOnVehicle_39 rfl (by decide) (fun _ => ?_) (fun h0 => absurd h0 (by decide))
    refine s_return w dX11_focusOnVehicle_51 rfl ?_
    rw [g_b0] at c6
    exact q1  (fun hc => c6 hc) _ _ (MOk.inj hp0 1)
theorem lk_X11_focusOnVehicle {l : Launch} (hl : l.stackTraces = false) : ∀ q ∈ L_X11_focusOnVehicle, (q.2.1 < 5 → gk_Lk l RX11 gk_W1 2 q.1 q.2.1 q.2.2.1 q.2.2.2.1 q.2.2.2.2.1 q.2.2.2.2.2) := (List.forall_mem_cons.mpr ⟨(fun _ => ⟨yX11_isVehicle, cX11_isVehicle, 2, (some .boolean), 1, _, M_X11_isVehicle hl, ⟨by decide, by decide⟩, ⟨by decide, by decide, by decide +kernel⟩, ⟨(gk_wm 1373 (by decide +kernel)), (gk_wm 99 (by decide +kernel))⟩, Or.inr (Or.inr (Or.inr (Or.inl ⟨rfl, rfl, (gk_wm 1372 (by decide +kernel)), (gk_wm 34 (by decide +kernel)), gk_wm 1370 (by decide +kernel), by decide, rfl⟩)))⟩), (List.forall_mem_cons.mpr ⟨(fun _ => ⟨yX11_isOffset, cX11_isOffset, 1, (some .boolean), 1, _, M_X11_isOffset hl, ⟨by decide, by decide⟩, ⟨by decide, by decide, by decide +kernel⟩, ⟨(gk_wm 1376 (by decide +kernel)), (gk_wm 99 (by decide +kernel))⟩, Or.inl ⟨rfl, rfl, (gk_wm 1375 (by decide +kernel)), gk_wm 1374 (by decide +kernel)⟩⟩), (List.forall_mem_cons.mpr ⟨(fun _ => ⟨yX11_isHeight, cX11_isHeight, 1, (some .boolean), 1, _, M_X11_isHeight hl, ⟨by decide, by decide⟩, ⟨by decide, by decide, by decide +kernel⟩, ⟨(gk_wm 1379 (by decide +kernel)), (gk_wm 99 (by decide +kernel))⟩, Or.inl ⟨rfl, rfl, (gk_wm 1378 (by decide +kernel)), gk_wm 1377 (by decide +kernel)⟩⟩), (List.forall_mem_cons.mpr ⟨(fun _ => ⟨yX11_setFocus, cX11_setFocus, 6, none, 0, _, M_X11_setFocus hl, ⟨by decide, by decide⟩, ⟨by decide, by decide, by decide +kernel⟩, ⟨(gk_wm 1585 (by decide +kernel)), (gk_wm 99 (by decide +kernel))⟩, Or.inr (Or.inr (Or.inr (Or.inl ⟨rfl, rfl, (gk_wm 1584 (by decide +kernel)), (gk_wm 62 (by decide +kernel)), gk_wm 1582 (by decide +kernel), by decide, rfl⟩)))⟩), (fun _ h => absurd h List.not_mem_nil)⟩)⟩)⟩)⟩)
theorem sp_X11_focusOnVehicle : ∀ q ∈ L_X11_focusOnVehicle, gk_Sq RX11 gk_W1 2 q := (List.forall_mem_cons.mpr ⟨⟨fun h => absurd h (by decide), fun h => absurd h (by decide), fun h => absurd h (by decide), fun h => absurd h (by decide), fun h => absurd h (by decide), fun h => absurd h (by decide)⟩, (List.forall_mem_cons.mpr ⟨⟨fun h => absurd h (by decide), fun h => absurd h (by decide), fun h => absurd h (by decide), fun h => absurd h (by decide), fun h => absurd h (by decide), fun h => absurd h (by decide)⟩, (List.forall_mem_cons.mpr ⟨⟨fun h => absurd h (by decide), fun h => absurd h (by decide), fun h => absurd h (by decide), fun h => absurd h (by decide), fun h => absurd h (by decide), fun h => absurd h (by decide)⟩, (List.forall_mem_cons.mpr ⟨⟨fun h => absurd h (by decide), fun h => absurd h (by decide), fun h => absurd h (by decide), fun h => absurd h (by decide), fun h => absurd h (by decide), fun h => absurd h (by decide)⟩, (fun _ h => absurd h List.not_mem_nil)⟩)⟩)⟩)⟩)
theorem M_X11_focusOnVehicle {l : Launch} (hl : l.stackTraces = false) : gk_Mt l yX11_focusOnVehicle (.code yX11_focusOnVehicle cX11_focusOnVehicle 4 none :: gk_W1) 2 0 S_X11_focusOnVehicle := gk_meth hl gk_cw_ok (by decide +kernel) rfl m_X11_focusOnVehicle pX11_ok (gk_Sp_of sp_X11_focusOnVehicle) pX11_st (fun ci m S h => absurd h (by intro h; cases h)) (xf_X11 2) (fun idx kd ci mm cost S2 h h5 => lk_X11_focusOnVehicle hl _ (gk_lk_mem h) h5)

def S_X11_focusOnPlace : gk_S := fun as n fl x y K => ∃ (a : Int32) (b : Int32) (e : Int32) (g : Nat → Int32), as = [.ref 189, .int a, .int b, .int e] ∧ (n = 202 ∧ fl = gk_fT) ∧ (MG g x) ∧ (gOK g) ∧ ((((-20000 ≤ a ∧ a ≤ 20000) ∧ (-50 ≤ (0 : Int32) ∧ (0 : Int32) ≤ 50) ∧ (100 ≤ b ∧ b ≤ 5000)) ∧ (0 ≤ e ∧ e ≤ 500)) → ∀ (x2 : gk_X) (y2 : gk_Y), MOk (gFO g 1 0 a b e) 0 x x2 y y2 → K (.inl none) n fl x2 y2) ∧ (¬ (((-20000 ≤ a ∧ a ≤ 20000) ∧ (-50 ≤ (0 : Int32) ∧ (0 : Int32) ≤ 50) ∧ (100 ≤ b ∧ b ≤ 5000)) ∧ (0 ≤ e ∧ e ≤ 500)) → ∀ (x2 : gk_X) (y2 : gk_Y), MOk g 1 x x2 y y2 → K (.inl none) n fl x2 y2)
theorem r_X11_focusOnPlace (w : gk_W c P cs (fun _ _ => none) rt uf sc K V) {idx : Nat} {a : Int32} {b : Int32} {e : Int32} {g : Nat → Int32} (hd : decode c pc = .ok (.invokevirtual idx, 3)) (hp : pc + 3 = pc2) (hc : cs idx = some (1, 10, 4, 0, S_X11_focusOnPlace)) (h8 : Nat.ble (r.map Value.category).sum 8 = true) (hp0 : MG g x) (hp1 : gOK g) (kk0 : (((-20000 ≤ a ∧ a ≤ 20000) ∧ (-50 ≤ (0 : Int32) ∧ (0 : Int32) ≤ 50) ∧ (100 ≤ b ∧ b ≤ 5000)) ∧ (0 ≤ e ∧ e ≤ 500)) → ∀ (x2 : gk_X) (y2 : gk_Y), MOk (gFO g 1 0 a b e) 0 x x2 y y2 → V pc2 L r 202 gk_fT x2 y2 u) (kk1 : ¬ (((-20000 ≤ a ∧ a ≤ 20000) ∧ (-50 ≤ (0 : Int32) ∧ (0 : Int32) ≤ 50) ∧ (100 ≤ b ∧ b ≤ 5000)) ∧ (0 ≤ e ∧ e ≤ 500)) → ∀ (x2 : gk_X) (y2 : gk_Y), MOk g 1 x x2 y y2 → V pc2 L r 202 gk_fT x2 y2 u) : V pc L (.int e :: .int b :: .int a :: .ref 189 :: r) 202 gk_fT x y u :=
  g_callv w hd hp hc (as := [.ref 189, .int a, .int b, .int e]) rfl h8 rfl rfl rfl (Or.inr (Or.inl ⟨Or.inl rfl, _, _, rfl, (gk_kd_j rfl rfl), rfl⟩)) (Or.inl rfl) ⟨a, b, e, g, rfl, ⟨rfl, rfl⟩, hp0, hp1, kk0, kk1⟩
def L_X11_focusOnPlace : List (Nat × gk_M0) := [(68, (0, 10, 3, 0, S_X11_isVehiclePlace)), (81, (0, 10, 1, 0, S_X11_isHeight)), (216, (1, 10, 6, 0, S_X11_setFocus))]
def cs_X11_focusOnPlace : Nat → Option gk_M0 := gk_lk L_X11_focusOnPlace
theorem m_X11_focusOnPlace : ∀ (as : List Value) (n : Nat) (fl : gk_F) (x : gk_X) (y : gk_Y) (K : gk_K), S_X11_focusOnPlace as n fl x y K → (gk_L0 as).length ≤ 4 ∧ ∀ V : gk_V, gk_W cX11_focusOnPlace pX11 cs_X11_focusOnPlace (fun _ _ => none) none 0 none K V → V 0 (gk_en as 4) [] n fl x y 0 := by
  intro as n fl x y K hS
  obtain ⟨a, b, e, g, rfl, ⟨rfl, rfl⟩, hp0, hp1, q0, q1⟩ := hS
  refine ⟨Nat.le_of_ble_eq_true rfl, fun V w => ?_⟩
  show V 0 [some (.ref 189), some (.int a), some (.int b), some (.int e)] [] 202 gk_fT x y 0
  obtain ⟨nv4, ns6, nm8, z6, z7, z8⟩ := wf_n hp1.1
  have w6 : 0 ≤ (g 6).toInt := by show 0 ≤ gz g 6; omega
  have w7 : 0 ≤ (g 7).toInt := by show 0 ≤ gz g 7; omega
  have w8 : 0 ≤ (g 8).toInt := by show 0 ≤ gz g 8; omega
  refine s_aload_n (pc2 := 1) w dX11_focusOnPlace_0 rfl rfl ?_
  refine s_iload_n (pc2 := 2) w dX11_focusOnPlace_1 rfl rfl ?_
  refine s_iconst (pc2 := 3) (v := 0) w dX11_focusOnPlace_2 rfl rfl ?_
  refine s_iload_n (pc2 := 4) w dX11_focusOnPlace_3 rfl rfl ?_
  refine r_X11_isVehiclePlace (pc2 := 7) w dX11_focusOnPlace_4 rfl rfl rfl ?_
  refine s_if_eq (pc2 := 10) (tgt := 21) w dX11_focusOnPlace_7 rfl (by decide) (fun c7 => ?_) (fun c7 => ?_)
  · refine s_iconst (pc2 := 22) (v := 1) w dX11_focusOnPlace_21 rfl rfl ?_
    refine m_putI (pc2 := 25) (ci := 10) (k := 4) w dX11_focusOnPlace_22 rfl rfl rfl rfl rfl (by intro h; cases h) ?_
    refine s_aload_n (pc2 := 26) w dX11_focusOnPlace_25 rfl rfl ?_
    refine m_getI (pc2 := 29) (ci := 10) (k := 4) w dX11_focusOnPlace_26 rfl rfl rfl rfl rfl ?_
    rw [gk_up_in]
    refine s_if_ne (pc2 := 32) (tgt := 41) w dX11_focusOnPlace_29 rfl (by decide) (fun _ => ?_) (fun h0 => absurd h0 (by decide))
    refine s_return w dX11_focusOnPlace_41 rfl ?_
    rw [g_b0] at c7
    exact q1  (fun hc => c7 hc.1) _ _ (MOk.inj hp0 1)
  · rw [g_b0, Classical.not_not] at c7
    refine s_iload_n (pc2 := 11) w dX11_focusOnPlace_10 rfl rfl ?_
    refine r_X11_isHeight (pc2 := 14) w dX11_focusOnPlace_11 rfl rfl rfl ?_
    refine s_if_eq (pc2 := 17) (tgt := 21) w dX11_focusOnPlace_14 rfl (by decide) (fun c14 => ?_) (fun c14 => ?_)
    · refine s_iconst (pc2 := 22) (v := 1) w dX11_focusOnPlace_21 rfl rfl ?_
      refine m_putI (pc2 := 25) (ci := 10) (k := 4) w dX11_focusOnPlace_22 rfl rfl rfl rfl rfl (by intro h; cases h) ?_
      refine s_aload_n (pc2 := 26) w dX11_focusOnPlace_25 rfl rfl ?_
      refine m_getI (pc2 := 29) (ci := 10) (k := 4) w dX11_focusOnPlace_26 rfl rfl rfl rfl rfl ?_
      rw [gk_up_in]
      refine s_if_ne (pc2 := 32) (tgt := 41) w dX11_focusOnPlace_29 rfl (by decide) (fun _ => ?_) (fun h0 => absurd h0 (by decide))
      refine s_return w dX11_focusOnPlace_41 rfl ?_
      rw [g_b0] at c14
      exact q1  (fun hc => c14 hc.2) _ _ (MOk.inj hp0 1)
    · rw [g_b0, Classical.not_not] at c14
      refine s_iconst (pc2 := 18) (v := 0) w dX11_focusOnPlace_17 rfl rfl ?_
      refine s_goto (tgt := 22) w dX11_focusOnPlace_18 (by decide) ?_
      refine m_putI (pc2 := 25) (ci := 10) (k := 4) w dX11_focusOnPlace_22 rfl rfl rfl rfl rfl (by intro h; cases h) ?_
      refine s_aload_n (pc2 := 26) w dX11_focusOnPlace_25 rfl rfl ?_
      refine m_getI (pc2 := 29) (ci := 10) (k := 4) w dX11_focusOnPlace_26 rfl rfl rfl rfl rfl ?_
      rw [gk_up_in]
      refine s_if_ne (pc2 := 32) (tgt := 41) w dX11_focusOnPlace_29 rfl (by decide) (fun h0 => absurd (rfl) h0) (fun _ => ?_)
      refine s_aload_n (pc2 := 33) w dX11_focusOnPlace_32 rfl rfl ?_
      refine s_iconst (pc2 := 34) (v := 1) w dX11_focusOnPlace_33 rfl rfl ?_
      refine s_iconst (pc2 := 35) (v := 0) w dX11_focusOnPlace_34 rfl rfl ?_
      refine s_iload_n (pc2 := 36) w dX11_focusOnPlace_35 rfl rfl ?_
      refine s_iload_n (pc2 := 37) w dX11_focusOnPlace_36 rfl rfl ?_
      refine s_iload_n (pc2 := 38) w dX11_focusOnPlace_37 rfl rfl ?_
      refine r_X11_setFocus (pc2 := 41) w dX11_focusOnPlace_38 rfl rfl rfl ?_
      refine s_return w dX11_focusOnPlace_41 rfl ?_
      exact q0 ⟨c7, c14⟩ _ _ ((((((MOk.inj hp0 0).st 10 1).st 11 0).st 12 a).st 13 b).st 14 e)
theorem lk_X11_focusOnPlace {l : Launch} (hl : l.stackTraces = false) : ∀ q ∈ L_X11_focusOnPlace, (q.2.1 < 5 → gk_Lk l RX11 gk_W1 2 q.1 q.2.1 q.2.2.1 q.2.2.2.1 q.2.2.2.2.1 q.2.2.2.2.2) := (List.forall_mem_cons.mpr ⟨(fun _ => ⟨yX11_isVehiclePlace, cX11_isVehiclePlace, 3, (some .boolean), 1, _, M_X11_isVehiclePlace hl, ⟨by decide, by decide⟩, ⟨by decide, by decide, by decide +kernel⟩, ⟨(gk_wm 1361 (by decide +kernel)), (gk_wm 99 (by decide +kernel))⟩, Or.inl ⟨rfl, rfl, (gk_wm 1360 (by decide +kernel)), gk_wm 1359 (by decide +kernel)⟩⟩), (List.forall_mem_cons.mpr ⟨(fun _ => ⟨yX11_isHeight, cX11_isHeight, 1, (some .boolean), 1, _, M_X11_isHeight hl, ⟨by decide, by decide⟩, ⟨by decide, by decide, by decide +kernel⟩, ⟨(gk_wm 1379 (by decide +kernel)), (gk_wm 99 (by decide +kernel))⟩, Or.inl ⟨rfl, rfl, (gk_wm 1378 (by decide +kernel)), gk_wm 1377 (by decide +kernel)⟩⟩), (List.forall_mem_cons.mpr ⟨(fun _ => ⟨yX11_setFocus, cX11_setFocus, 6, none, 0, _, M_X11_setFocus hl, ⟨by decide, by decide⟩, ⟨by decide, by decide, by decide +kernel⟩, ⟨(gk_wm 1585 (by decide +kernel)), (gk_wm 99 (by decide +kernel))⟩, Or.inr (Or.inr (Or.inr (Or.inl ⟨rfl, rfl, (gk_wm 1584 (by decide +kernel)), (gk_wm 62 (by decide +kernel)), gk_wm 1582 (by decide +kernel), by decide, rfl⟩)))⟩), (fun _ h => absurd h List.not_mem_nil)⟩)⟩)⟩)
theorem sp_X11_focusOnPlace : ∀ q ∈ L_X11_focusOnPlace, gk_Sq RX11 gk_W1 2 q := (List.forall_mem_cons.mpr ⟨⟨fun h => absurd h (by decide), fun h => absurd h (by decide), fun h => absurd h (by decide), fun h => absurd h (by decide), fun h => absurd h (by decide), fun h => absurd h (by decide)⟩, (List.forall_mem_cons.mpr ⟨⟨fun h => absurd h (by decide), fun h => absurd h (by decide), fun h => absurd h (by decide), fun h => absurd h (by decide), fun h => absurd h (by decide), fun h => absurd h (by decide)⟩, (List.forall_mem_cons.mpr ⟨⟨fun h => absurd h (by decide), fun h => absurd h (by decide), fun h => absurd h (by decide), fun h => absurd h (by decide), fun h => absurd h (by decide), fun h => absurd h (by decide)⟩, (fun _ h => absurd h List.not_mem_nil)⟩)⟩)⟩)
theorem M_X11_focusOnPlace {l : Launch} (hl : l.stackTraces = false) : gk_Mt l yX11_focusOnPlace (.code yX11_focusOnPlace cX11_focusOnPlace 4 none :: gk_W1) 2 0 S_X11_focusOnPlace := gk_meth hl gk_cw_ok (by decide +kernel) rfl m_X11_focusOnPlace pX11_ok (gk_Sp_of sp_X11_focusOnPlace) pX11_st (fun ci m S h => absurd h (by intro h; cases h)) (xf_X11 2) (fun idx kd ci mm cost S2 h h5 => lk_X11_focusOnPlace hl _ (gk_lk_mem h) h5)

def S_X11_focusOnDirection : gk_S := fun as n fl x y K => ∃ (a : Int32) (g : Nat → Int32), as = [.ref 189, .int a] ∧ (n = 202 ∧ fl = gk_fT) ∧ (MG g x) ∧ (gOK g) ∧ ((-100 ≤ a ∧ a ≤ 100) → ∀ (x2 : gk_X) (y2 : gk_Y), MOk (gFO g 2 0 a 0 0) 0 x x2 y y2 → K (.inl none) n fl x2 y2) ∧ (¬ (-100 ≤ a ∧ a ≤ 100) → ∀ (x2 : gk_X) (y2 : gk_Y), MOk g 1 x x2 y y2 → K (.inl none) n fl x2 y2)
theorem r_X11_focusOnDirection (w : gk_W c P cs (fun _ _ => none) rt uf sc K V) {idx : Nat} {a : Int32} {g : Nat → Int32} (hd : decode c pc = .ok (.invokevirtual idx, 3)) (hp : pc + 3 = pc2) (hc : cs idx = some (1, 10, 2, 0, S_X11_focusOnDirection)) (h8 : Nat.ble (r.map Value.category).sum 8 = true) (hp0 : MG g x) (hp1 : gOK g) (kk0 : (-100 ≤ a ∧ a ≤ 100) → ∀ (x2 : gk_X) (y2 : gk_Y), MOk (gFO g 2 0 a 0 0) 0 x x2 y y2 → V pc2 L r 202 gk_fT x2 y2 u) (kk1 : ¬ (-100 ≤ a ∧ a ≤ 100) → ∀ (x2 : gk_X) (y2 : gk_Y), MOk g 1 x x2 y y2 → V pc2 L r 202 gk_fT x2 y2 u) : V pc L (.int a :: .ref 189 :: r) 202 gk_fT x y u :=
  g_callv w hd hp hc (as := [.ref 189, .int a]) rfl h8 rfl rfl rfl (Or.inr (Or.inl ⟨Or.inl rfl, _, _, rfl, (gk_kd_j rfl rfl), rfl⟩)) (Or.inl rfl) ⟨a, g, rfl, ⟨rfl, rfl⟩, hp0, hp1, kk0, kk1⟩
def L_X11_focusOnDirection : List (Nat × gk_M0) := [(52, (0, 10, 3, 0, S_X11_isBetween)), (216, (1, 10, 6, 0, S_X11_setFocus))]
def cs_X11_focusOnDirection : Nat → Option gk_M0 := gk_lk L_X11_focusOnDirection
theorem m_X11_focusOnDirection : ∀ (as : List Value) (n : Nat) (fl : gk_F) (x : gk_X) (y : gk_Y) (K : gk_K), S_X11_focusOnDirection as n fl x y K → (gk_L0 as).length ≤ 2 ∧ ∀ V : gk_V, gk_W cX11_focusOnDirection pX11 cs_X11_focusOnDirection (fun _ _ => none) none 0 none K V → V 0 (gk_en as 2) [] n fl x y 0 := by
  intro as n fl x y K hS
  obtain ⟨a, g, rfl, ⟨rfl, rfl⟩, hp0, hp1, q0, q1⟩ := hS
  refine ⟨Nat.le_of_ble_eq_true rfl, fun V w => ?_⟩
  show V 0 [some (.ref 189), some (.int a)] [] 202 gk_fT x y 0
  obtain ⟨nv4, ns6, nm8, z6, z7, z8⟩ := wf_n hp1.1
  have w6 : 0 ≤ (g 6).toInt := by show 0 ≤ gz g 6; omega
  have w7 : 0 ≤ (g 7).toInt := by show 0 ≤ gz g 7; omega
  have w8 : 0 ≤ (g 8).toInt := by show 0 ≤ gz g 8; omega
  refine s_aload_n (pc2 := 1) w dX11_focusOnDirection_0 rfl rfl ?_
  refine s_iload_n (pc2 := 2) w dX11_focusOnDirection_1 rfl rfl ?_
  refine s_bipush (pc2 := 4) (v := (-100)) w dX11_focusOnDirection_2 rfl rfl ?_
  refine s_bipush (pc2 := 6) (v := 100) w dX11_focusOnDirection_4 rfl rfl ?_
  refine r_X11_isBetween (pc2 := 9) w dX11_focusOnDirection_6 rfl rfl rfl ?_
  refine s_if_eq (pc2 := 12) (tgt := 16) w dX11_focusOnDirection_9 rfl (by decide) (fun c9 => ?_) (fun c9 => ?_)
  · refine s_iconst (pc2 := 17) (v := 1) w dX11_focusOnDirection_16 rfl rfl ?_
    refine m_putI (pc2 := 20) (ci := 10) (k := 4) w dX11_focusOnDirection_17 rfl rfl rfl rfl rfl (by intro h; cases h) ?_
    refine s_aload_n (pc2 := 21) w dX11_focusOnDirection_20 rfl rfl ?_
    refine m_getI (pc2 := 24) (ci := 10) (k := 4) w dX11_focusOnDirection_21 rfl rfl rfl rfl rfl ?_
    rw [gk_up_in]
    refine s_if_ne (pc2 := 27) (tgt := 36) w dX11_focusOnDirection_24 rfl (by decide) (fun _ => ?_) (fun h0 => absurd h0 (by decide))
    refine s_return w dX11_focusOnDirection_36 rfl ?_
    rw [g_b0] at c9
    exact q1  (fun hc => c9 hc) _ _ (MOk.inj hp0 1)
  · rw [g_b0, Classical.not_not] at c9
    refine s_iconst (pc2 := 13) (v := 0) w dX11_focusOnDirection_12 rfl rfl ?_
    refine s_goto (tgt := 17) w dX11_focusOnDirection_13 (by decide) ?_
    refine m_putI (pc2 := 20) (ci := 10) (k := 4) w dX11_focusOnDirection_17 rfl rfl rfl rfl rfl (by intro h; cases h) ?_
    refine s_aload_n (pc2 := 21) w dX11_focusOnDirection_20 rfl rfl ?_
    refine m_getI (pc2 := 24) (ci := 10) (k := 4) w dX11_focusOnDirection_21 rfl rfl rfl rfl rfl ?_
    rw [gk_up_in]
    refine s_if_ne (pc2 := 27) (tgt := 36) w dX11_focusOnDirection_24 rfl (by decide) (fun h0 => absurd (rfl) h0) (fun _ => ?_)
    refine s_aload_n (pc2 := 28) w dX11_focusOnDirection_27 rfl rfl ?_
    refine s_iconst (pc2 := 29) (v := 2) w dX11_focusOnDirection_28 rfl rfl ?_
    refine s_iconst (pc2 := 30) (v := 0) w dX11_focusOnDirection_29 rfl rfl ?_
    refine s_iload_n (pc2 := 31) w dX11_focusOnDirection_30 rfl rfl ?_
    refine s_iconst (pc2 := 32) (v := 0) w dX11_focusOnDirection_31 rfl rfl ?_
    refine s_iconst (pc2 := 33) (v := 0) w dX11_focusOnDirection_32 rfl rfl ?_
    refine r_X11_setFocus (pc2 := 36) w dX11_focusOnDirection_33 rfl rfl rfl ?_
    refine s_return w dX11_focusOnDirection_36 rfl ?_
    exact q0 c9 _ _ ((((((MOk.inj hp0 0).st 10 2).st 11 0).st 12 a).st 13 0).st 14 0)
theorem lk_X11_focusOnDirection {l : Launch} (hl : l.stackTraces = false) : ∀ q ∈ L_X11_focusOnDirection, (q.2.1 < 5 → gk_Lk l RX11 gk_W1 1 q.1 q.2.1 q.2.2.1 q.2.2.2.1 q.2.2.2.2.1 q.2.2.2.2.2) := (List.forall_mem_cons.mpr ⟨(fun _ => ⟨yX11_isBetween, cX11_isBetween, 3, (some .boolean), 0, _, M_X11_isBetween hl, ⟨by decide, by decide⟩, ⟨by decide, by decide, by decide +kernel⟩, ⟨(gk_wm 1334 (by decide +kernel)), (gk_wm 99 (by decide +kernel))⟩, Or.inl ⟨rfl, rfl, (gk_wm 1333 (by decide +kernel)), gk_wm 1332 (by decide +kernel)⟩⟩), (List.forall_mem_cons.mpr ⟨(fun _ => ⟨yX11_setFocus, cX11_setFocus, 6, none, 0, _, M_X11_setFocus hl, ⟨by decide, by decide⟩, ⟨by decide, by decide, by decide +kernel⟩, ⟨(gk_wm 1585 (by decide +kernel)), (gk_wm 99 (by decide +kernel))⟩, Or.inr (Or.inr (Or.inr (Or.inl ⟨rfl, rfl, (gk_wm 1584 (by decide +kernel)), (gk_wm 62 (by decide +kernel)), gk_wm 1582 (by decide +kernel), by decide, rfl⟩)))⟩), (fun _ h => absurd h List.not_mem_nil)⟩)⟩)
theorem sp_X11_focusOnDirection : ∀ q ∈ L_X11_focusOnDirection, gk_Sq RX11 gk_W1 1 q := (List.forall_mem_cons.mpr ⟨⟨fun h => absurd h (by decide), fun h => absurd h (by decide), fun h => absurd h (by decide), fun h => absurd h (by decide), fun h => absurd h (by decide), fun h => absurd h (by decide)⟩, (List.forall_mem_cons.mpr ⟨⟨fun h => absurd h (by decide), fun h => absurd h (by decide), fun h => absurd h (by decide), fun h => absurd h (by decide), fun h => absurd h (by decide), fun h => absurd h (by decide)⟩, (fun _ h => absurd h List.not_mem_nil)⟩)⟩)
theorem M_X11_focusOnDirection {l : Launch} (hl : l.stackTraces = false) : gk_Mt l yX11_focusOnDirection (.code yX11_focusOnDirection cX11_focusOnDirection 2 none :: gk_W1) 1 0 S_X11_focusOnDirection := gk_meth hl gk_cw_ok (by decide +kernel) rfl m_X11_focusOnDirection pX11_ok (gk_Sp_of sp_X11_focusOnDirection) pX11_st (fun ci m S h => absurd h (by intro h; cases h)) (xf_X11 1) (fun idx kd ci mm cost S2 h h5 => lk_X11_focusOnDirection hl _ (gk_lk_mem h) h5)

def S_X11_setNoise : gk_S := fun as n fl x y K => ∃ (a : Int32) (b : Int32) (g : Nat → Int32), as = [.ref 189, .int a, .int b] ∧ (n = 202 ∧ fl = gk_fT) ∧ (MG g x) ∧ (gOK g) ∧ (((0 ≤ a) ∧ (0 ≤ b ∧ b ≤ 99)) → ∀ (x2 : gk_X) (y2 : gk_Y), MOk (gU (gU g 3 a) 4 b) 0 x x2 y y2 → K (.inl none) n fl x2 y2) ∧ (¬ ((0 ≤ a) ∧ (0 ≤ b ∧ b ≤ 99)) → ∀ (x2 : gk_X) (y2 : gk_Y), MOk g 1 x x2 y y2 → K (.inl none) n fl x2 y2)
theorem r_X11_setNoise (w : gk_W c P cs (fun _ _ => none) rt uf sc K V) {idx : Nat} {a : Int32} {b : Int32} {g : Nat → Int32} (hd : decode c pc = .ok (.invokevirtual idx, 3)) (hp : pc + 3 = pc2) (hc : cs idx = some (1, 10, 3, 0, S_X11_setNoise)) (h8 : Nat.ble (r.map Value.category).sum 8 = true) (hp0 : MG g x) (hp1 : gOK g) (kk0 : ((0 ≤ a) ∧ (0 ≤ b ∧ b ≤ 99)) → ∀ (x2 : gk_X) (y2 : gk_Y), MOk (gU (gU g 3 a) 4 b) 0 x x2 y y2 → V pc2 L r 202 gk_fT x2 y2 u) (kk1 : ¬ ((0 ≤ a) ∧ (0 ≤ b ∧ b ≤ 99)) → ∀ (x2 : gk_X) (y2 : gk_Y), MOk g 1 x x2 y y2 → V pc2 L r 202 gk_fT x2 y2 u) : V pc L (.int b :: .int a :: .ref 189 :: r) 202 gk_fT x y u :=
  g_callv w hd hp hc (as := [.ref 189, .int a, .int b]) rfl h8 rfl rfl rfl (Or.inr (Or.inl ⟨Or.inl rfl, _, _, rfl, (gk_kd_j rfl rfl), rfl⟩)) (Or.inl rfl) ⟨a, b, g, rfl, ⟨rfl, rfl⟩, hp0, hp1, kk0, kk1⟩
def L_X11_setNoise : List (Nat × gk_M0) := [(52, (0, 10, 3, 0, S_X11_isBetween))]
def cs_X11_setNoise : Nat → Option gk_M0 := gk_lk L_X11_setNoise
theorem m_X11_setNoise : ∀ (as : List Value) (n : Nat) (fl : gk_F) (x : gk_X) (y : gk_Y) (K : gk_K), S_X11_setNoise as n fl x y K → (gk_L0 as).length ≤ 3 ∧ ∀ V : gk_V, gk_W cX11_setNoise pX11 cs_X11_setNoise (fun _ _ => none) none 0 none K V → V 0 (gk_en as 3) [] n fl x y 0 := by
  intro as n fl x y K hS
  obtain ⟨a, b, g, rfl, ⟨rfl, rfl⟩, hp0, hp1, q0, q1⟩ := hS
  refine ⟨Nat.le_of_ble_eq_true rfl, fun V w => ?_⟩
  show V 0 [some (.ref 189), some (.int a), some (.int b)] [] 202 gk_fT x y 0
  refine s_aload_n (pc2 := 1) w dX11_setNoise_0 rfl rfl ?_
  refine s_iload_n (pc2 := 2) w dX11_setNoise_1 rfl rfl ?_
  refine s_if_lt (pc2 := 5) (tgt := 15) w dX11_setNoise_2 rfl (by decide) (fun c2 => ?_) (fun c2 => ?_)
  · refine s_iconst (pc2 := 16) (v := 1) w dX11_setNoise_15 rfl rfl ?_
    refine s_goto (tgt := 20) w dX11_setNoise_16 (by decide) ?_
    refine m_putI (pc2 := 23) (ci := 10) (k := 4) w dX11_setNoise_20 rfl rfl rfl rfl rfl (by intro h; cases h) ?_
    refine s_aload_n (pc2 := 24) w dX11_setNoise_23 rfl rfl ?_
    refine m_getI (pc2 := 27) (ci := 10) (k := 4) w dX11_setNoise_24 rfl rfl rfl rfl rfl ?_
    rw [gk_up_in]
    refine s_if_ne (pc2 := 30) (tgt := 44) w dX11_setNoise_27 rfl (by decide) (fun _ => ?_) (fun h0 => absurd h0 (by decide))
    refine s_return w dX11_setNoise_44 rfl ?_
    exact q1 (fun hc => absurd c2 (g_nlt.mpr hc.1)) _ _ (MOk.inj hp0 1)
  · refine s_iload_n (pc2 := 6) w dX11_setNoise_5 rfl rfl ?_
    refine s_iconst (pc2 := 7) (v := 0) w dX11_setNoise_6 rfl rfl ?_
    refine s_bipush (pc2 := 9) (v := 99) w dX11_setNoise_7 rfl rfl ?_
    refine r_X11_isBetween (pc2 := 12) w dX11_setNoise_9 rfl rfl rfl ?_
    refine s_if_ne (pc2 := 15) (tgt := 19) w dX11_setNoise_12 rfl (by decide) (fun c12 => ?_) (fun c12 => ?_)
    · rw [g_b0, Classical.not_not] at c12
      refine s_iconst (pc2 := 20) (v := 0) w dX11_setNoise_19 rfl rfl ?_
      refine m_putI (pc2 := 23) (ci := 10) (k := 4) w dX11_setNoise_20 rfl rfl rfl rfl rfl (by intro h; cases h) ?_
      refine s_aload_n (pc2 := 24) w dX11_setNoise_23 rfl rfl ?_
      refine m_getI (pc2 := 27) (ci := 10) (k := 4) w dX11_setNoise_24 rfl rfl rfl rfl rfl ?_
      rw [gk_up_in]
      refine s_if_ne (pc2 := 30) (tgt := 44) w dX11_setNoise_27 rfl (by decide) (fun h0 => absurd (rfl) h0) (fun _ => ?_)
      refine s_aload_n (pc2 := 31) w dX11_setNoise_30 rfl rfl ?_
      refine m_getR (pc2 := 34) (ci := 10) (k := 0) (j2 := 190) w dX11_setNoise_31 rfl rfl rfl rfl rfl rfl ?_
      refine s_iconst (pc2 := 35) (v := 3) w dX11_setNoise_34 rfl rfl ?_
      refine s_iload_n (pc2 := 36) w dX11_setNoise_35 rfl rfl ?_
      refine m_iastoreN (pc2 := 37) (t := 3) (N := 2234) w dX11_setNoise_36 rfl rfl rfl rfl (by decide) rfl ?_
      refine s_aload_n (pc2 := 38) w dX11_setNoise_37 rfl rfl ?_
      refine m_getR (pc2 := 41) (ci := 10) (k := 0) (j2 := 190) w dX11_setNoise_38 rfl rfl rfl rfl rfl rfl ?_
      refine s_iconst (pc2 := 42) (v := 4) w dX11_setNoise_41 rfl rfl ?_
      refine s_iload_n (pc2 := 43) w dX11_setNoise_42 rfl rfl ?_
      refine m_iastoreN (pc2 := 44) (t := 4) (N := 2234) w dX11_setNoise_43 rfl rfl rfl rfl (by decide) rfl ?_
      refine s_return w dX11_setNoise_44 rfl ?_
      exact q0 ⟨g_nlt.mp c2, c12⟩ _ _ (((MOk.inj hp0 0).st 3 a).st 4 b)
    · refine s_iconst (pc2 := 16) (v := 1) w dX11_setNoise_15 rfl rfl ?_
      refine s_goto (tgt := 20) w dX11_setNoise_16 (by decide) ?_
      refine m_putI (pc2 := 23) (ci := 10) (k := 4) w dX11_setNoise_20 rfl rfl rfl rfl rfl (by intro h; cases h) ?_
      refine s_aload_n (pc2 := 24) w dX11_setNoise_23 rfl rfl ?_
      refine m_getI (pc2 := 27) (ci := 10) (k := 4) w dX11_setNoise_24 rfl rfl rfl rfl rfl ?_
      rw [gk_up_in]
      refine s_if_ne (pc2 := 30) (tgt := 44) w dX11_setNoise_27 rfl (by decide) (fun _ => ?_) (fun h0 => absurd h0 (by decide))
      refine s_return w dX11_setNoise_44 rfl ?_
      rw [g_b0] at c12
      exact q1 (fun hc => c12 hc.2) _ _ (MOk.inj hp0 1)
theorem lk_X11_setNoise {l : Launch} (hl : l.stackTraces = false) : ∀ q ∈ L_X11_setNoise, (q.2.1 < 5 → gk_Lk l RX11 gk_W1 1 q.1 q.2.1 q.2.2.1 q.2.2.2.1 q.2.2.2.2.1 q.2.2.2.2.2) := (List.forall_mem_cons.mpr ⟨(fun _ => ⟨yX11_isBetween, cX11_isBetween, 3, (some .boolean), 0, _, M_X11_isBetween hl, ⟨by decide, by decide⟩, ⟨by decide, by decide, by decide +kernel⟩, ⟨(gk_wm 1334 (by decide +kernel)), (gk_wm 99 (by decide +kernel))⟩, Or.inl ⟨rfl, rfl, (gk_wm 1333 (by decide +kernel)), gk_wm 1332 (by decide +kernel)⟩⟩), (fun _ h => absurd h List.not_mem_nil)⟩)
theorem sp_X11_setNoise : ∀ q ∈ L_X11_setNoise, gk_Sq RX11 gk_W1 1 q := (List.forall_mem_cons.mpr ⟨⟨fun h => absurd h (by decide), fun h => absurd h (by decide), fun h => absurd h (by decide), fun h => absurd h (by decide), fun h => absurd h (by decide), fun h => absurd h (by decide)⟩, (fun _ h => absurd h List.not_mem_nil)⟩)
theorem M_X11_setNoise {l : Launch} (hl : l.stackTraces = false) : gk_Mt l yX11_setNoise (.code yX11_setNoise cX11_setNoise 3 none :: gk_W1) 1 0 S_X11_setNoise := gk_meth hl gk_cw_ok (by decide +kernel) rfl m_X11_setNoise pX11_ok (gk_Sp_of sp_X11_setNoise) pX11_st (fun ci m S h => absurd h (by intro h; cases h)) (xf_X11 1) (fun idx kd ci mm cost S2 h h5 => lk_X11_setNoise hl _ (gk_lk_mem h) h5)

def S_X11_setSpreading : gk_S := fun as n fl x y K => ∃ (v : Int32) (g : Nat → Int32), as = [.ref 189, .int v] ∧ (n = 202 ∧ fl = gk_fT) ∧ (MG g x) ∧ (gOK g) ∧ (v = 0 ∨ v = 1) ∧ (∀ (x2 : gk_X) (y2 : gk_Y), MOk (gU g 2 v) 0 x x2 y y2 → K (.inl (some (.int (g 2)))) n fl x2 y2)
theorem r_X11_setSpreading (w : gk_W c P cs (fun _ _ => none) rt uf sc K V) {idx : Nat} {v : Int32} {g : Nat → Int32} (hd : decode c pc = .ok (.invokevirtual idx, 3)) (hp : pc + 3 = pc2) (hc : cs idx = some (1, 10, 2, 0, S_X11_setSpreading)) (h8 : Nat.ble (r.map Value.category).sum 8 = true) (hp0 : MG g x) (hp1 : gOK g) (hp2 : v = 0 ∨ v = 1) (kk0 : ∀ (x2 : gk_X) (y2 : gk_Y), MOk (gU g 2 v) 0 x x2 y y2 → V pc2 L ((.int (g 2)) :: r) 202 gk_fT x2 y2 u) : V pc L (.int v :: .ref 189 :: r) 202 gk_fT x y u :=
  g_callv w hd hp hc (as := [.ref 189, .int v]) rfl h8 rfl rfl rfl (Or.inr (Or.inl ⟨Or.inl rfl, _, _, rfl, (gk_kd_j rfl rfl), rfl⟩)) (Or.inl rfl) ⟨v, g, rfl, ⟨rfl, rfl⟩, hp0, hp1, hp2, kk0⟩
def L_X11_setSpreading : List (Nat × gk_M0) := [(60, (1, 10, 3, 0, S_X11_replace))]
def cs_X11_setSpreading : Nat → Option gk_M0 := gk_lk L_X11_setSpreading
theorem m_X11_setSpreading : ∀ (as : List Value) (n : Nat) (fl : gk_F) (x : gk_X) (y : gk_Y) (K : gk_K), S_X11_setSpreading as n fl x y K → (gk_L0 as).length ≤ 2 ∧ ∀ V : gk_V, gk_W cX11_setSpreading pX11 cs_X11_setSpreading (fun _ _ => none) (some .boolean) 0 none K V → V 0 (gk_en as 2) [] n fl x y 0 := by
  intro as n fl x y K hS
  obtain ⟨v, g, rfl, ⟨rfl, rfl⟩, hp0, hp1, hp2, q0⟩ := hS
  refine ⟨Nat.le_of_ble_eq_true rfl, fun V w => ?_⟩
  show V 0 [some (.ref 189), some (.int v)] [] 202 gk_fT x y 0
  have h01 : g 2 = 0 ∨ g 2 = 1 := hp1.1.1.2.2.1
  have f0 := MOk.ini (y := y) hp0
  rcases hp2 with rfl | rfl
  · refine s_aload_n (pc2 := 1) w dX11_setSpreading_0 rfl rfl ?_
    refine s_iconst (pc2 := 2) (v := 0) w dX11_setSpreading_1 rfl rfl ?_
    refine m_putI (pc2 := 5) (ci := 10) (k := 4) w dX11_setSpreading_2 rfl rfl rfl rfl rfl (by intro h; cases h) ?_
    generalize gk_up x 189 4 0 = x0 at f0 ⊢
    refine s_aload_n (pc2 := 6) w dX11_setSpreading_5 rfl rfl ?_
    refine s_iconst (pc2 := 7) (v := 2) w dX11_setSpreading_6 rfl rfl ?_
    refine s_iload_n (pc2 := 8) w dX11_setSpreading_7 rfl rfl ?_
    refine s_if_eq (pc2 := 11) (tgt := 15) w dX11_setSpreading_8 rfl (by decide) (fun _ => ?_) (fun h0 => absurd (rfl) h0)
    refine s_iconst (pc2 := 16) (v := 0) w dX11_setSpreading_15 rfl rfl ?_
    refine r_X11_replace (pc2 := 19) (a := 2) w dX11_setSpreading_16 rfl rfl rfl rfl (by decide) ?_
    refine s_iconst (pc2 := 20) (v := 1) w dX11_setSpreading_19 rfl rfl ?_
    rw [f0.1 2 (by decide)]
    refine s_ic_ne (pc2 := 23) (tgt := 27) w dX11_setSpreading_20 rfl (by decide) (fun c20 => ?_) (fun c20 => ?_)
    · refine s_iconst (pc2 := 28) (v := 0) w dX11_setSpreading_27 rfl rfl ?_
      refine s_ireturn w dX11_setSpreading_28 rfl (by first | rfl | decide) ?_
      rw [show g 2 = 0 from h01.resolve_right c20] at q0
      exact q0 _ _ (f0.st 2 0)
    · refine s_iconst (pc2 := 24) (v := 1) w dX11_setSpreading_23 rfl rfl ?_
      refine s_goto (tgt := 28) w dX11_setSpreading_24 (by decide) ?_
      refine s_ireturn w dX11_setSpreading_28 rfl (by first | rfl | decide) ?_
      rw [show g 2 = 1 from c20] at q0
      exact q0 _ _ (f0.st 2 0)
  · refine s_aload_n (pc2 := 1) w dX11_setSpreading_0 rfl rfl ?_
    refine s_iconst (pc2 := 2) (v := 0) w dX11_setSpreading_1 rfl rfl ?_
    refine m_putI (pc2 := 5) (ci := 10) (k := 4) w dX11_setSpreading_2 rfl rfl rfl rfl rfl (by intro h; cases h) ?_
    generalize gk_up x 189 4 0 = x0 at f0 ⊢
    refine s_aload_n (pc2 := 6) w dX11_setSpreading_5 rfl rfl ?_
    refine s_iconst (pc2 := 7) (v := 2) w dX11_setSpreading_6 rfl rfl ?_
    refine s_iload_n (pc2 := 8) w dX11_setSpreading_7 rfl rfl ?_
    refine s_if_eq (pc2 := 11) (tgt := 15) w dX11_setSpreading_8 rfl (by decide) (fun h0 => absurd h0 (by decide)) (fun _ => ?_)
    refine s_iconst (pc2 := 12) (v := 1) w dX11_setSpreading_11 rfl rfl ?_
    refine s_goto (tgt := 16) w dX11_setSpreading_12 (by decide) ?_
    refine r_X11_replace (pc2 := 19) (a := 2) w dX11_setSpreading_16 rfl rfl rfl rfl (by decide) ?_
    refine s_iconst (pc2 := 20) (v := 1) w dX11_setSpreading_19 rfl rfl ?_
    rw [f0.1 2 (by decide)]
    refine s_ic_ne (pc2 := 23) (tgt := 27) w dX11_setSpreading_20 rfl (by decide) (fun c20 => ?_) (fun c20 => ?_)
    · refine s_iconst (pc2 := 28) (v := 0) w dX11_setSpreading_27 rfl rfl ?_
      refine s_ireturn w dX11_setSpreading_28 rfl (by first | rfl | decide) ?_
      rw [show g 2 = 0 from h01.resolve_right c20] at q0
      exact q0 _ _ (f0.st 2 1)
    · refine s_iconst (pc2 := 24) (v := 1) w dX11_setSpreading_23 rfl rfl ?_
      refine s_goto (tgt := 28) w dX11_setSpreading_24 (by decide) ?_
      refine s_ireturn w dX11_setSpreading_28 rfl (by first | rfl | decide) ?_
      rw [show g 2 = 1 from c20] at q0
      exact q0 _ _ (f0.st 2 1)
theorem lk_X11_setSpreading {l : Launch} (hl : l.stackTraces = false) : ∀ q ∈ L_X11_setSpreading, (q.2.1 < 5 → gk_Lk l RX11 gk_W1 1 q.1 q.2.1 q.2.2.1 q.2.2.2.1 q.2.2.2.2.1 q.2.2.2.2.2) := (List.forall_mem_cons.mpr ⟨(fun _ => ⟨yX11_replace, cX11_replace, 4, (some .int), 0, _, M_X11_replace hl, ⟨by decide, by decide⟩, ⟨by decide, by decide, by decide +kernel⟩, ⟨(gk_wm 1338 (by decide +kernel)), (gk_wm 99 (by decide +kernel))⟩, Or.inr (Or.inr (Or.inr (Or.inl ⟨rfl, rfl, (gk_wm 1337 (by decide +kernel)), (gk_wm 31 (by decide +kernel)), gk_wm 1335 (by decide +kernel), by decide, rfl⟩)))⟩), (fun _ h => absurd h List.not_mem_nil)⟩)
theorem sp_X11_setSpreading : ∀ q ∈ L_X11_setSpreading, gk_Sq RX11 gk_W1 1 q := (List.forall_mem_cons.mpr ⟨⟨fun h => absurd h (by decide), fun h => absurd h (by decide), fun h => absurd h (by decide), fun h => absurd h (by decide), fun h => absurd h (by decide), fun h => absurd h (by decide)⟩, (fun _ h => absurd h List.not_mem_nil)⟩)
theorem M_X11_setSpreading {l : Launch} (hl : l.stackTraces = false) : gk_Mt l yX11_setSpreading (.code yX11_setSpreading cX11_setSpreading 2 (some .boolean) :: gk_W1) 1 0 S_X11_setSpreading := gk_meth hl gk_cw_ok (by decide +kernel) rfl m_X11_setSpreading pX11_ok (gk_Sp_of sp_X11_setSpreading) pX11_st (fun ci m S h => absurd h (by intro h; cases h)) (xf_X11 1) (fun idx kd ci mm cost S2 h h5 => lk_X11_setSpreading hl _ (gk_lk_mem h) h5)

def S_X11_setCut : gk_S := fun as n fl x y K => ∃ (v : Int32) (g : Nat → Int32), as = [.ref 189, .int v] ∧ (n = 202 ∧ fl = gk_fT) ∧ (MG g x) ∧ (gOK g) ∧ (v = 0 ∨ v = 1) ∧ (∀ (x2 : gk_X) (y2 : gk_Y), MOk (gU g 5 v) 0 x x2 y y2 → K (.inl (some (.int (g 5)))) n fl x2 y2)
theorem r_X11_setCut (w : gk_W c P cs (fun _ _ => none) rt uf sc K V) {idx : Nat} {v : Int32} {g : Nat → Int32} (hd : decode c pc = .ok (.invokevirtual idx, 3)) (hp : pc + 3 = pc2) (hc : cs idx = some (1, 10, 2, 0, S_X11_setCut)) (h8 : Nat.ble (r.map Value.category).sum 8 = true) (hp0 : MG g x) (hp1 : gOK g) (hp2 : v = 0 ∨ v = 1) (kk0 : ∀ (x2 : gk_X) (y2 : gk_Y), MOk (gU g 5 v) 0 x x2 y y2 → V pc2 L ((.int (g 5)) :: r) 202 gk_fT x2 y2 u) : V pc L (.int v :: .ref 189 :: r) 202 gk_fT x y u :=
  g_callv w hd hp hc (as := [.ref 189, .int v]) rfl h8 rfl rfl rfl (Or.inr (Or.inl ⟨Or.inl rfl, _, _, rfl, (gk_kd_j rfl rfl), rfl⟩)) (Or.inl rfl) ⟨v, g, rfl, ⟨rfl, rfl⟩, hp0, hp1, hp2, kk0⟩
def L_X11_setCut : List (Nat × gk_M0) := [(60, (1, 10, 3, 0, S_X11_replace))]
def cs_X11_setCut : Nat → Option gk_M0 := gk_lk L_X11_setCut
theorem m_X11_setCut : ∀ (as : List Value) (n : Nat) (fl : gk_F) (x : gk_X) (y : gk_Y) (K : gk_K), S_X11_setCut as n fl x y K → (gk_L0 as).length ≤ 2 ∧ ∀ V : gk_V, gk_W cX11_setCut pX11 cs_X11_setCut (fun _ _ => none) (some .boolean) 0 none K V → V 0 (gk_en as 2) [] n fl x y 0 := by
  intro as n fl x y K hS
  obtain ⟨v, g, rfl, ⟨rfl, rfl⟩, hp0, hp1, hp2, q0⟩ := hS
  refine ⟨Nat.le_of_ble_eq_true rfl, fun V w => ?_⟩
  show V 0 [some (.ref 189), some (.int v)] [] 202 gk_fT x y 0
  have h01 : g 5 = 0 ∨ g 5 = 1 := hp1.1.1.2.2.2.2.2.1
  have f0 := MOk.ini (y := y) hp0
  rcases hp2 with rfl | rfl
  · refine s_aload_n (pc2 := 1) w dX11_setCut_0 rfl rfl ?_
    refine s_iconst (pc2 := 2) (v := 0) w dX11_setCut_1 rfl rfl ?_
    refine m_putI (pc2 := 5) (ci := 10) (k := 4) w dX11_setCut_2 rfl rfl rfl rfl rfl (by intro h; cases h) ?_
    generalize gk_up x 189 4 0 = x0 at f0 ⊢
    refine s_aload_n (pc2 := 6) w dX11_setCut_5 rfl rfl ?_
    refine s_iconst (pc2 := 7) (v := 5) w dX11_setCut_6 rfl rfl ?_
    refine s_iload_n (pc2 := 8) w dX11_setCut_7 rfl rfl ?_
    refine s_if_eq (pc2 := 11) (tgt := 15) w dX11_setCut_8 rfl (by decide) (fun _ => ?_) (fun h0 => absurd (rfl) h0)
    refine s_iconst (pc2 := 16) (v := 0) w dX11_setCut_15 rfl rfl ?_
    refine r_X11_replace (pc2 := 19) (a := 5) w dX11_setCut_16 rfl rfl rfl rfl (by decide) ?_
    refine s_iconst (pc2 := 20) (v := 1) w dX11_setCut_19 rfl rfl ?_
    rw [f0.1 5 (by decide)]
    refine s_ic_ne (pc2 := 23) (tgt := 27) w dX11_setCut_20 rfl (by decide) (fun c20 => ?_) (fun c20 => ?_)
    · refine s_iconst (pc2 := 28) (v := 0) w dX11_setCut_27 rfl rfl ?_
      refine s_ireturn w dX11_setCut_28 rfl (by first | rfl | decide) ?_
      rw [show g 5 = 0 from h01.resolve_right c20] at q0
      exact q0 _ _ (f0.st 5 0)
    · refine s_iconst (pc2 := 24) (v := 1) w dX11_setCut_23 rfl rfl ?_
      refine s_goto (tgt := 28) w dX11_setCut_24 (by decide) ?_
      refine s_ireturn w dX11_setCut_28 rfl (by first | rfl | decide) ?_
      rw [show g 5 = 1 from c20] at q0
      exact q0 _ _ (f0.st 5 0)
  · refine s_aload_n (pc2 := 1) w dX11_setCut_0 rfl rfl ?_
    refine s_iconst (pc2 := 2) (v := 0) w dX11_setCut_1 rfl rfl ?_
    refine m_putI (pc2 := 5) (ci := 10) (k := 4) w dX11_setCut_2 rfl rfl rfl rfl rfl (by intro h; cases h) ?_
    generalize gk_up x 189 4 0 = x0 at f0 ⊢
    refine s_aload_n (pc2 := 6) w dX11_setCut_5 rfl rfl ?_
    refine s_iconst (pc2 := 7) (v := 5) w dX11_setCut_6 rfl rfl ?_
    refine s_iload_n (pc2 := 8) w dX11_setCut_7 rfl rfl ?_
    refine s_if_eq (pc2 := 11) (tgt := 15) w dX11_setCut_8 rfl (by decide) (fun h0 => absurd h0 (by decide)) (fun _ => ?_)
    refine s_iconst (pc2 := 12) (v := 1) w dX11_setCut_11 rfl rfl ?_
    refine s_goto (tgt := 16) w dX11_setCut_12 (by decide) ?_
    refine r_X11_replace (pc2 := 19) (a := 5) w dX11_setCut_16 rfl rfl rfl rfl (by decide) ?_
    refine s_iconst (pc2 := 20) (v := 1) w dX11_setCut_19 rfl rfl ?_
    rw [f0.1 5 (by decide)]
    refine s_ic_ne (pc2 := 23) (tgt := 27) w dX11_setCut_20 rfl (by decide) (fun c20 => ?_) (fun c20 => ?_)
    · refine s_iconst (pc2 := 28) (v := 0) w dX11_setCut_27 rfl rfl ?_
      refine s_ireturn w dX11_setCut_28 rfl (by first | rfl | decide) ?_
      rw [show g 5 = 0 from h01.resolve_right c20] at q0
      exact q0 _ _ (f0.st 5 1)
    · refine s_iconst (pc2 := 24) (v := 1) w dX11_setCut_23 rfl rfl ?_
      refine s_goto (tgt := 28) w dX11_setCut_24 (by decide) ?_
      refine s_ireturn w dX11_setCut_28 rfl (by first | rfl | decide) ?_
      rw [show g 5 = 1 from c20] at q0
      exact q0 _ _ (f0.st 5 1)
theorem lk_X11_setCut {l : Launch} (hl : l.stackTraces = false) : ∀ q ∈ L_X11_setCut, (q.2.1 < 5 → gk_Lk l RX11 gk_W1 1 q.1 q.2.1 q.2.2.1 q.2.2.2.1 q.2.2.2.2.1 q.2.2.2.2.2) := (List.forall_mem_cons.mpr ⟨(fun _ => ⟨yX11_replace, cX11_replace, 4, (some .int), 0, _, M_X11_replace hl, ⟨by decide, by decide⟩, ⟨by decide, by decide, by decide +kernel⟩, ⟨(gk_wm 1338 (by decide +kernel)), (gk_wm 99 (by decide +kernel))⟩, Or.inr (Or.inr (Or.inr (Or.inl ⟨rfl, rfl, (gk_wm 1337 (by decide +kernel)), (gk_wm 31 (by decide +kernel)), gk_wm 1335 (by decide +kernel), by decide, rfl⟩)))⟩), (fun _ h => absurd h List.not_mem_nil)⟩)
theorem sp_X11_setCut : ∀ q ∈ L_X11_setCut, gk_Sq RX11 gk_W1 1 q := (List.forall_mem_cons.mpr ⟨⟨fun h => absurd h (by decide), fun h => absurd h (by decide), fun h => absurd h (by decide), fun h => absurd h (by decide), fun h => absurd h (by decide), fun h => absurd h (by decide)⟩, (fun _ h => absurd h List.not_mem_nil)⟩)
theorem M_X11_setCut {l : Launch} (hl : l.stackTraces = false) : gk_Mt l yX11_setCut (.code yX11_setCut cX11_setCut 2 (some .boolean) :: gk_W1) 1 0 S_X11_setCut := gk_meth hl gk_cw_ok (by decide +kernel) rfl m_X11_setCut pX11_ok (gk_Sp_of sp_X11_setCut) pX11_st (fun ci m S h => absurd h (by intro h; cases h)) (xf_X11 1) (fun idx kd ci mm cost S2 h h5 => lk_X11_setCut hl _ (gk_lk_mem h) h5)

end GKV

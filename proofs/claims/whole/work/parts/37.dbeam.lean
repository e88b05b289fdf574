/-! THE METHODS, 18: beams in a direction -/
section GKV
variable {c : ByteArray} {P : gk_C} {cs : Nat → Option gk_M0} {rt : Option FieldType} {uf : Nat} {sc : Option Nat} {K : gk_K} {V : gk_V}
variable {L : List (Option Value)} {r : List Value} {n : Nat} {fl : gk_F} {x : gk_X} {y : gk_Y} {u pc pc2 : Nat}
def gk_sh (g : Nat → Int32) (m : Nat) (D : Int) : Int := gz g (154 + 4 * m + 0) * D / (100 * gz g 0)
def gk_dp (g : Nat → Int32) (m : Nat) (D : Int) (k : Nat) : Int32 := gk_at (fun i => g (186 + 256 * m + i)) (nI k + gI (gk_sh g m D))
def gk_db (g : Nat → Int32) (D : Int) : Nat → Nat → Int32
  | 0, _ => 0
  | m + 1, k => gk_db g D m k + g (154 + 4 * m + 3) * gk_dp g m D k
theorem gk_at_cg {r s : Nat → Int32} {v : Int32} (h : ∀ k, k < 256 → r k = s k) : gk_at r v = gk_at s v := by
  unfold gk_at
  split
  · rename_i hv
    refine h _ ?_
    obtain ⟨a, rfl, ha⟩ := gI_ex v
    rw [show (0 : Int32) = gI 0 from rfl, show (255 : Int32) = gI 255 from rfl, gI_le ⟨by decide, by decide⟩ ha, gI_le ha ⟨by decide, by decide⟩] at hv
    show (gI a).toInt.toNat < 256
    rw [gI_of ha]
    omega
  · rfl
def S_X11_layDirectedBeam : gk_S := fun as n fl x y K => ∃ (d : Int32) (g : Nat → Int32) (D : Int), as = [.ref 189, .int d] ∧ (n = 202 ∧ fl = gk_fT) ∧ (∀ k, k < 2234 → x 190 k = g k) ∧ (gWf g) ∧ (d = gI D) ∧ (-3000 ≤ D ∧ D ≤ 3000) ∧ (∀ x2 : gk_X, (∀ i k, i ≠ 197 → x2 i k = gk_ur x 196 (gk_db g D (nM g)) 256 i k) → K (.inl none) n fl x2 y)
theorem r_X11_layDirectedBeam (w : gk_W c P cs (fun _ _ => none) rt uf sc K V) {idx : Nat} {d : Int32} {g : Nat → Int32} {D : Int} (hd : decode c pc = .ok (.invokevirtual idx, 3)) (hp : pc + 3 = pc2) (hc : cs idx = some (1, 10, 2, 0, S_X11_layDirectedBeam)) (h8 : Nat.ble (r.map Value.category).sum 8 = true) (hp0 : ∀ k, k < 2234 → x 190 k = g k) (hp1 : gWf g) (hp2 : d = gI D) (hp3 : -3000 ≤ D ∧ D ≤ 3000) (kk0 : ∀ x2 : gk_X, (∀ i k, i ≠ 197 → x2 i k = gk_ur x 196 (gk_db g D (nM g)) 256 i k) → V pc2 L r 202 gk_fT x2 y u) : V pc L (.int d :: .ref 189 :: r) 202 gk_fT x y u :=
  g_callv w hd hp hc (as := [.ref 189, .int d]) rfl h8 rfl rfl rfl (Or.inr (Or.inl ⟨Or.inl rfl, _, _, rfl, (gk_kd_j rfl rfl), rfl⟩)) (Or.inl rfl) ⟨d, g, D, rfl, ⟨rfl, rfl⟩, hp0, hp1, hp2, hp3, kk0⟩
def L_X11_layDirectedBeam : List (Nat × gk_M0) := [(226, (1, 10, 3, 0, S_X11_layDirectedParts)), (244, (1, 10, 1, 0, S_X11_clearSignal)), (247, (1, 10, 2, 0, S_X11_addParts))]
def cs_X11_layDirectedBeam : Nat → Option gk_M0 := gk_lk L_X11_layDirectedBeam
theorem m_X11_layDirectedBeam : ∀ (as : List Value) (n : Nat) (fl : gk_F) (x : gk_X) (y : gk_Y) (K : gk_K), S_X11_layDirectedBeam as n fl x y K → (gk_L0 as).length ≤ 3 ∧ ∀ V : gk_V, gk_W cX11_layDirectedBeam pX11 cs_X11_layDirectedBeam (fun _ _ => none) none 0 none K V → V 0 (gk_en as 3) [] n fl x y 0 := by
  intro as n fl x y K hS
  obtain ⟨d, g, D, rfl, ⟨rfl, rfl⟩, hp0, hp1, hp2, hp3, q0⟩ := hS
  refine ⟨Nat.le_of_ble_eq_true rfl, fun V w => ?_⟩
  show V 0 [some (.ref 189), some (.int d), none] [] 202 gk_fT x y 0
  subst hp2
  have w0 := hp1.1
  have n8 : gz g 8 = (nM g : Int) := by unfold nM; have := hp1.1; unfold wf0 at this; omega
  have n8l : nM g ≤ 8 := by have := hp1.1; unfold wf0 at this; omega
  have lo : ∀ (m : Nat) (xm : gk_X), (∀ i k, i ≠ 197 → xm i k = gk_ur x 196 (gk_db g D m) 256 i k) → ∀ k, k < 2234 → xm 190 k = g k := fun m xm h k hk => (h 190 k (by decide)).trans ((gk_ur_ne (by decide)).trans (hp0 k hk))
  have key : ∀ (k m : Nat), m + k = nM g → ∀ xm : gk_X, (∀ i k, i ≠ 197 → xm i k = gk_ur x 196 (gk_db g D m) 256 i k) → V 6 [some (.ref 189), some (.int (gI D)), some (.int (nI m))] [] 202 gk_fT xm y 0 := by
    intro k
    induction k with
    | zero =>
      intro m ht xm hxm
      obtain rfl : m = nM g := by omega
      refine s_iload_n (pc2 := 7) w dX11_layDirectedBeam_6 rfl rfl ?_
      refine s_aload_n (pc2 := 8) w dX11_layDirectedBeam_7 rfl rfl ?_
      refine m_getR (pc2 := 11) (ci := 10) (k := 0) (j2 := 190) w dX11_layDirectedBeam_8 rfl rfl rfl rfl rfl rfl ?_
      refine s_bipush (pc2 := 13) (v := gI 8) w dX11_layDirectedBeam_11 rfl rfl ?_
      refine m_ialoadN (pc2 := 14) (t := 8) (N := 2234) w dX11_layDirectedBeam_13 rfl rfl rfl rfl (by decide) rfl ?_
      rw [lo _ xm hxm 8 (by decide), gz_I g 8, n8]
      refine s_ic_ge (pc2 := 17) (tgt := 34) w dX11_layDirectedBeam_14 rfl (by decide) (fun _ => ?_) (fun h0 => absurd ((Int32.le_refl _)) h0)
      refine s_return w dX11_layDirectedBeam_34 rfl ?_
      exact q0 xm hxm
    | succ k ih =>
      intro m ht xm hxm
      have hm : m < nM g := by omega
      have hl := lo m xm hxm
      have hmw := hp1.2.2.2.1 m hm
      refine s_iload_n (pc2 := 7) w dX11_layDirectedBeam_6 rfl rfl ?_
      refine s_aload_n (pc2 := 8) w dX11_layDirectedBeam_7 rfl rfl ?_
      refine m_getR (pc2 := 11) (ci := 10) (k := 0) (j2 := 190) w dX11_layDirectedBeam_8 rfl rfl rfl rfl rfl rfl ?_
      refine s_bipush (pc2 := 13) (v := gI 8) w dX11_layDirectedBeam_11 rfl rfl ?_
      refine m_ialoadN (pc2 := 14) (t := 8) (N := 2234) w dX11_layDirectedBeam_13 rfl rfl rfl rfl (by decide) rfl ?_
      rw [lo _ xm hxm 8 (by decide), gz_I g 8, n8]
      refine s_ic_ge (pc2 := 17) (tgt := 34) w dX11_layDirectedBeam_14 rfl (by decide) (fun h0 => absurd h0 (by rw [gI_nI, gI_le ⟨by omega, by omega⟩ ⟨by omega, by omega⟩]; omega)) (fun _ => ?_)
      refine s_aload_n (pc2 := 18) w dX11_layDirectedBeam_17 rfl rfl ?_
      refine s_iload_n (pc2 := 19) w dX11_layDirectedBeam_18 rfl rfl ?_
      refine s_iload_n (pc2 := 20) w dX11_layDirectedBeam_19 rfl rfl ?_
      refine r_X11_layDirectedParts (pc2 := 23) w dX11_layDirectedBeam_20 rfl rfl rfl rfl (by omega) ((hl _ (by omega)).trans (gz_I g _)) hmw.1 rfl hp3 ((hl 0 (by decide)).trans (gz_I g 0)) w0.1 ?_
      refine s_aload_n (pc2 := 24) w dX11_layDirectedBeam_23 rfl rfl ?_
      refine s_iload_n (pc2 := 25) w dX11_layDirectedBeam_24 rfl rfl ?_
      refine r_X11_addParts (pc2 := 28) w dX11_layDirectedBeam_25 rfl rfl rfl rfl (by omega) ?_
      refine s_iinc (pc2 := 31) w dX11_layDirectedBeam_28 rfl rfl rfl rfl ?_
      dsimp only [gk_s1, gk_s2, gk_cl]
      rw [nI_s]
      refine s_goto (tgt := 6) w dX11_layDirectedBeam_31 (by decide) ?_
      refine ih (m + 1) (by omega) _ (fun i k h1 => ?_)
      unfold gk_ur
      by_cases hk : i = 196 ∧ k < 256
      · rw [if_pos hk, if_pos hk]
        obtain ⟨rfl, hk⟩ := hk
        show (if _ then _ else _) + (if _ then _ else _) * (if _ then _ else _) = _
        rw [if_neg (show ¬ (196 = 197 ∧ k < 256) by omega), if_neg (show ¬ (190 = 197 ∧ 154 + 4 * m + 3 < 256) by omega), if_pos (show 197 = 197 ∧ k < 256 from ⟨rfl, hk⟩), hxm 196 k (by decide), gk_ur_in hk, hl _ (by omega)]
        show _ = gk_db g D m k + g (154 + 4 * m + 3) * gk_dp g m D k
        unfold gk_dp gk_sh
        exact congrArg (fun z => gk_db g D m k + g (154 + 4 * m + 3) * z) (gk_at_cg (fun k hk => hl (186 + 256 * m + k) (by omega)))
      · rw [if_neg hk, if_neg hk, if_neg (fun h9 => h1 h9.1), hxm i k h1]
        exact if_neg hk
  refine s_aload_n (pc2 := 1) w dX11_layDirectedBeam_0 rfl rfl ?_
  refine r_X11_clearSignal (pc2 := 4) w dX11_layDirectedBeam_1 rfl rfl rfl ?_
  refine s_iconst (pc2 := 5) (v := gI 0) w dX11_layDirectedBeam_4 rfl rfl ?_
  refine s_istore_n (pc2 := 6) (k2 := 2) w dX11_layDirectedBeam_5 rfl rfl rfl ?_
  dsimp only [gk_s1, gk_s2, gk_cl]
  exact key (nM g) 0 (by omega) _ (fun i k _ => rfl)
theorem lk_X11_layDirectedBeam {l : Launch} (hl : l.stackTraces = false) : ∀ q ∈ L_X11_layDirectedBeam, (q.2.1 < 5 → gk_Lk l RX11 gk_W1 4 q.1 q.2.1 q.2.2.1 q.2.2.2.1 q.2.2.2.2.1 q.2.2.2.2.2) := (List.forall_mem_cons.mpr ⟨(fun _ => ⟨yX11_layDirectedParts, cX11_layDirectedParts, 5, none, 3, _, M_X11_layDirectedParts hl, ⟨by decide, by decide⟩, ⟨by decide, by decide, by decide +kernel⟩, ⟨(gk_wm 1626 (by decide +kernel)), (gk_wm 99 (by decide +kernel))⟩, Or.inr (Or.inr (Or.inr (Or.inl ⟨rfl, rfl, (gk_wm 1625 (by decide +kernel)), (gk_wm 67 (by decide +kernel)), gk_wm 1623 (by decide +kernel), by decide, rfl⟩)))⟩), (List.forall_mem_cons.mpr ⟨(fun _ => ⟨yX11_clearSignal, cX11_clearSignal, 2, none, 0, _, M_X11_clearSignal hl, ⟨by decide, by decide⟩, ⟨by decide, by decide, by decide +kernel⟩, ⟨(gk_wm 1644 (by decide +kernel)), (gk_wm 99 (by decide +kernel))⟩, Or.inr (Or.inr (Or.inr (Or.inl ⟨rfl, rfl, (gk_wm 1643 (by decide +kernel)), (gk_wm 70 (by decide +kernel)), gk_wm 1641 (by decide +kernel), by decide, rfl⟩)))⟩), (List.forall_mem_cons.mpr ⟨(fun _ => ⟨yX11_addParts, cX11_addParts, 3, none, 1, _, M_X11_addParts hl, ⟨by decide, by decide⟩, ⟨by decide, by decide, by decide +kernel⟩, ⟨(gk_wm 1648 (by decide +kernel)), (gk_wm 99 (by decide +kernel))⟩, Or.inr (Or.inr (Or.inr (Or.inl ⟨rfl, rfl, (gk_wm 1647 (by decide +kernel)), (gk_wm 71 (by decide +kernel)), gk_wm 1645 (by decide +kernel), by decide, rfl⟩)))⟩), (fun _ h => absurd h List.not_mem_nil)⟩)⟩)⟩)
theorem sp_X11_layDirectedBeam : ∀ q ∈ L_X11_layDirectedBeam, gk_Sq RX11 gk_W1 4 q := (List.forall_mem_cons.mpr ⟨⟨fun h => absurd h (by decide), fun h => absurd h (by decide), fun h => absurd h (by decide), fun h => absurd h (by decide), fun h => absurd h (by decide), fun h => absurd h (by decide)⟩, (List.forall_mem_cons.mpr ⟨⟨fun h => absurd h (by decide), fun h => absurd h (by decide), fun h => absurd h (by decide), fun h => absurd h (by decide), fun h => absurd h (by decide), fun h => absurd h (by decide)⟩, (List.forall_mem_cons.mpr ⟨⟨fun h => absurd h (by decide), fun h => absurd h (by decide), fun h => absurd h (by decide), fun h => absurd h (by decide), fun h => absurd h (by decide), fun h => absurd h (by decide)⟩, (fun _ h => absurd h List.not_mem_nil)⟩)⟩)⟩)
theorem M_X11_layDirectedBeam {l : Launch} (hl : l.stackTraces = false) : gk_Mt l yX11_layDirectedBeam (.code yX11_layDirectedBeam cX11_layDirectedBeam 3 none :: gk_W1) 4 0 S_X11_layDirectedBeam := gk_meth hl gk_cw_ok (by decide +kernel) rfl m_X11_layDirectedBeam pX11_ok (gk_Sp_of sp_X11_layDirectedBeam) pX11_st (fun ci m S h => absurd h (by intro h; cases h)) (xf_X11 4) (fun idx kd ci mm cost S2 h h5 => lk_X11_layDirectedBeam hl _ (gk_lk_mem h) h5)

def S_X0_formDirectionBeam : gk_S := fun as n fl x y K => ∃ (d : Int32) (f : Int32) (l : Int32) (g : Nat → Int32) (D : Int) (a : Nat) (b : Nat), as = [.ref 90, .ref 1, .int d, .int f, .int l] ∧ (n = 202 ∧ fl = gk_fT) ∧ (gWf g) ∧ (rs0 1 g x) ∧ (rsm 1 g x) ∧ (rsq 1 g x) ∧ (d = gI D) ∧ (-3000 ≤ D ∧ D ≤ 3000) ∧ (f = nI a) ∧ (l = nI b) ∧ (a ≤ b) ∧ (b < 256) ∧ (∀ x2 : gk_X, (∀ i k, i ≠ 92 → x2 i k = gk_ur x 91 (fun k => if a ≤ k ∧ k ≤ b then gk_db g D (nM g) k else 0) 256 i k) → K (.inl (some (.ref 91))) n fl x2 y)
theorem r_X0_formDirectionBeam (w : gk_W c P cs (fun _ _ => none) rt uf sc K V) {idx : Nat} {d : Int32} {f : Int32} {l : Int32} {g : Nat → Int32} {D : Int} {a : Nat} {b : Nat} (hd : decode c pc = .ok (.invokevirtual idx, 3)) (hp : pc + 3 = pc2) (hc : cs idx = some (1, 0, 5, 0, S_X0_formDirectionBeam)) (h8 : Nat.ble (r.map Value.category).sum 8 = true) (hp0 : gWf g) (hp1 : rs0 1 g x) (hp2 : rsm 1 g x) (hp3 : rsq 1 g x) (hp4 : d = gI D) (hp5 : -3000 ≤ D ∧ D ≤ 3000) (hp6 : f = nI a) (hp7 : l = nI b) (hp8 : a ≤ b) (hp9 : b < 256) (kk0 : ∀ x2 : gk_X, (∀ i k, i ≠ 92 → x2 i k = gk_ur x 91 (fun k => if a ≤ k ∧ k ≤ b then gk_db g D (nM g) k else 0) 256 i k) → V pc2 L ((.ref 91) :: r) 202 gk_fT x2 y u) : V pc L (.int l :: .int f :: .int d :: .ref 1 :: .ref 90 :: r) 202 gk_fT x y u :=
  g_callv w hd hp hc (as := [.ref 90, .ref 1, .int d, .int f, .int l]) rfl h8 rfl rfl rfl (Or.inr (Or.inl ⟨Or.inl rfl, _, _, rfl, (gk_kd_j rfl rfl), rfl⟩)) (Or.inl rfl) ⟨d, f, l, g, D, a, b, rfl, ⟨rfl, rfl⟩, hp0, hp1, hp2, hp3, hp4, hp5, hp6, hp7, hp8, hp9, kk0⟩
def L_X0_formDirectionBeam : List (Nat × gk_M0) := [(42, (0, 0, 2, 0, S_J7_fill_53178)), (64, (1, 0, 4, 0, S_X0_addParts)), (68, (1, 0, 6, 0, S_X0_takeDirectionParts))]
def cs_X0_formDirectionBeam : Nat → Option gk_M0 := gk_lk L_X0_formDirectionBeam
theorem m_X0_formDirectionBeam : ∀ (as : List Value) (n : Nat) (fl : gk_F) (x : gk_X) (y : gk_Y) (K : gk_K), S_X0_formDirectionBeam as n fl x y K → (gk_L0 as).length ≤ 7 ∧ ∀ V : gk_V, gk_W cX0_formDirectionBeam pX0 cs_X0_formDirectionBeam (fun _ _ => none) (some (.array .int)) 0 none K V → V 0 (gk_en as 7) [] n fl x y 0 := by
  intro as n fl x y K hS
  obtain ⟨d, f, l, g, D, a, b, rfl, ⟨rfl, rfl⟩, hp0, hp1, hp2, hp3, hp4, hp5, hp6, hp7, hp8, hp9, q0⟩ := hS
  refine ⟨Nat.le_of_ble_eq_true rfl, fun V w => ?_⟩
  show V 0 [some (.ref 90), some (.ref 1), some (.int d), some (.int f), some (.int l), none, none] [] 202 gk_fT x y 0
  subst hp4 hp6 hp7
  have w0 := hp0.1
  have n8 : gz g 8 = (nM g : Int) := by unfold nM; have := hp0.1; unfold wf0 at this; omega
  have n8l : nM g ≤ 8 := by have := hp0.1; unfold wf0 at this; omega
  have lo : ∀ (m : Nat) (xm : gk_X), (∀ i k, i ≠ 92 → xm i k = (gk_ur x 91 (fun k => if a ≤ k ∧ k ≤ b then gk_db g D (m) k else 0) 256) i k) → ∀ i k, i < 44 → xm i k = x i k := fun m xm h i k hi => (h i k (by omega)).trans (gk_ur_ne (by omega))
  have key : ∀ (k m : Nat) (l6 : Option Value), m + k = nM g → ∀ xm : gk_X, (∀ i k, i ≠ 92 → xm i k = (gk_ur x 91 (fun k => if a ≤ k ∧ k ≤ b then gk_db g D (m) k else 0) 256) i k) → V 11 [some (.ref 90), some (.ref 1), some (.int (gI D)), some (.int (nI a)), some (.int (nI b)), some (.int (nI m)), l6] [] 202 gk_fT xm y 0 := by
    intro k
    induction k with
    | zero =>
      intro m l6 ht xm hxm
      obtain rfl : m = nM g := by omega
      refine s_iload (pc2 := 13) w dX0_formDirectionBeam_11 rfl rfl ?_
      refine s_aload_n (pc2 := 14) w dX0_formDirectionBeam_13 rfl rfl ?_
      refine m_getI (pc2 := 17) (ci := 4) (k := 6) w dX0_formDirectionBeam_14 rfl rfl rfl rfl rfl ?_
      rw [lo _ xm hxm 1 6 (by decide), hp1.1.2.2, gz_I g 8, n8]
      refine s_ic_ge (pc2 := 20) (tgt := 58) w dX0_formDirectionBeam_17 rfl (by decide) (fun _ => ?_) (fun h0 => absurd ((Int32.le_refl _)) h0)
      refine s_aload_n (pc2 := 59) w dX0_formDirectionBeam_58 rfl rfl ?_
      refine m_getR (pc2 := 62) (ci := 0) (k := 0) (j2 := 91) w dX0_formDirectionBeam_59 rfl rfl rfl rfl rfl rfl ?_
      refine s_areturn w dX0_formDirectionBeam_62 rfl (Or.inr ⟨_, rfl⟩) ?_
      exact q0 xm hxm
    | succ k ih =>
      intro m l6 ht xm hxm
      have hm : m < nM g := by omega
      obtain ⟨j1, j2, j3⟩ := kd_m (show m < 8 by omega)
      have hl := lo m xm hxm
      have hmw := hp0.2.2.2.1 m hm
      obtain ⟨e1, e2, e3, e4⟩ := hp2 m hm
      refine s_iload (pc2 := 13) w dX0_formDirectionBeam_11 rfl rfl ?_
      refine s_aload_n (pc2 := 14) w dX0_formDirectionBeam_13 rfl rfl ?_
      refine m_getI (pc2 := 17) (ci := 4) (k := 6) w dX0_formDirectionBeam_14 rfl rfl rfl rfl rfl ?_
      rw [lo _ xm hxm 1 6 (by decide), hp1.1.2.2, gz_I g 8, n8]
      refine s_ic_ge (pc2 := 20) (tgt := 58) w dX0_formDirectionBeam_17 rfl (by decide) (fun h0 => absurd h0 (by rw [gI_nI, gI_le ⟨by omega, by omega⟩ ⟨by omega, by omega⟩]; omega)) (fun _ => ?_)
      refine s_aload_n (pc2 := 21) w dX0_formDirectionBeam_20 rfl rfl ?_
      refine m_getR (pc2 := 24) (ci := 4) (k := 2) (j2 := 4) w dX0_formDirectionBeam_21 rfl rfl rfl rfl rfl rfl ?_
      refine s_iload (pc2 := 26) w dX0_formDirectionBeam_24 rfl rfl ?_
      refine m_aaloadN (pc2 := 27) (t := m) (kd := 26) (j2 := (2 * m + 28)) (N := 8) w dX0_formDirectionBeam_26 rfl rfl rfl rfl rfl rfl (by omega) rfl (by show 4 + (24 + 2 * m) = 2 * m + 28; omega) ?_
      refine s_astore (pc2 := 29) w dX0_formDirectionBeam_27 rfl rfl ?_
      dsimp only [gk_s1, gk_s2, gk_cl]
      refine s_aload_n (pc2 := 30) w dX0_formDirectionBeam_29 rfl rfl ?_
      refine s_aload_n (pc2 := 31) w dX0_formDirectionBeam_30 rfl rfl ?_
      refine s_aload (pc2 := 33) w dX0_formDirectionBeam_31 rfl rfl ?_
      refine s_iload_n (pc2 := 34) w dX0_formDirectionBeam_33 rfl rfl ?_
      refine s_iload_n (pc2 := 35) w dX0_formDirectionBeam_34 rfl rfl ?_
      refine s_iload (pc2 := 37) w dX0_formDirectionBeam_35 rfl rfl ?_
      refine r_X0_takeDirectionParts (pc2 := 40) w dX0_formDirectionBeam_37 rfl rfl rfl j1 ((hl 1 7 (by decide)).trans (hp1.2.1.trans (gz_I g 0))) w0.1 ((hl (2 * m + 28) 1 (by omega)).trans (e1.trans (gz_I g _))) hmw.1 rfl hp5 j2 j3 (by omega) rfl rfl hp8 hp9 ?_
      refine s_aload_n (pc2 := 41) w dX0_formDirectionBeam_40 rfl rfl ?_
      refine s_aload (pc2 := 43) w dX0_formDirectionBeam_41 rfl rfl ?_
      refine m_getI (pc2 := 46) (ci := 1) (k := 4) w dX0_formDirectionBeam_43 rfl rfl j1 rfl rfl ?_
      refine s_iload_n (pc2 := 47) w dX0_formDirectionBeam_46 rfl rfl ?_
      refine s_iload (pc2 := 49) w dX0_formDirectionBeam_47 rfl rfl ?_
      refine r_X0_addParts (pc2 := 52) w dX0_formDirectionBeam_49 rfl rfl rfl rfl rfl hp8 hp9 ?_
      refine s_iinc (pc2 := 55) w dX0_formDirectionBeam_52 rfl rfl rfl rfl ?_
      dsimp only [gk_s1, gk_s2, gk_cl]
      rw [nI_s]
      refine s_goto (tgt := 11) w dX0_formDirectionBeam_55 (by decide) ?_
      refine ih (m + 1) _ (by omega) _ (fun i k h1 => ?_)
      unfold gk_rg
      by_cases hk : i = 91 ∧ a ≤ k ∧ k < a + (b + 1 - a)
      · rw [if_pos hk]
        obtain ⟨rfl, h3, h4⟩ := hk
        obtain ⟨e, rfl⟩ : ∃ e, k = a + e := ⟨k - a, by omega⟩
        rw [Nat.add_sub_cancel_left]
        show (if _ then _ else _) + (if _ then _ else _) * (if _ then _ else _) = _
        rw [if_neg (show ¬ (91 = 92 ∧ a ≤ a + e ∧ a + e < a + (b + 1 - a)) by omega), if_neg (show ¬ (2 * m + 28 = 92 ∧ a ≤ 4 ∧ 4 < a + (b + 1 - a)) by omega), if_pos (show 92 = 92 ∧ a ≤ a + e ∧ a + e < a + (b + 1 - a) from ⟨rfl, h3, h4⟩), Nat.add_sub_cancel_left, hxm 91 (a + e) (by decide), gk_ur_in (by omega), gk_ur_in (by omega), if_pos (by omega), if_pos (by omega), hl _ _ (by omega), e4]
        show _ = gk_db g D m (a + e) + g (154 + 4 * m + 3) * gk_dp g m D (a + e)
        unfold gk_dp gk_sh
        exact congrArg (fun z => gk_db g D m (a + e) + g (154 + 4 * m + 3) * z) (gk_at_cg (fun k hk => (hl (2 * m + 29) k (by omega)).trans (hp3 m hm k hk)))
      · rw [if_neg hk, if_neg (fun h9 => h1 h9.1), hxm i k h1]
        unfold gk_ur
        by_cases h5 : i = 91 ∧ k < 256
        · rw [if_pos h5, if_pos h5]
          exact (if_neg (by omega)).trans (if_neg (by omega)).symm
        · rw [if_neg h5, if_neg h5]
  refine s_aload_n (pc2 := 1) w dX0_formDirectionBeam_0 rfl rfl ?_
  refine m_getR (pc2 := 4) (ci := 0) (k := 0) (j2 := 91) w dX0_formDirectionBeam_1 rfl rfl rfl rfl rfl rfl ?_
  refine s_iconst (pc2 := 5) (v := gI 0) w dX0_formDirectionBeam_4 rfl rfl ?_
  refine r_J7_fill_53178 (pc2 := 8) w dX0_formDirectionBeam_5 rfl rfl rfl rfl rfl ?_
  refine s_iconst (pc2 := 9) (v := gI 0) w dX0_formDirectionBeam_8 rfl rfl ?_
  refine s_istore (pc2 := 11) w dX0_formDirectionBeam_9 rfl rfl ?_
  dsimp only [gk_s1, gk_s2, gk_cl]
  refine key (nM g) 0 none (by omega) _ (fun i k _ => ?_)
  rw [gk_ur_cg (h := fun k => if a ≤ k ∧ k ≤ b then gk_db g D 0 k else 0) _ _ _ (fun k _ => by show (gI 0 : Int32) = _; split <;> rfl)]
theorem lk_X0_formDirectionBeam {l : Launch} (hl : l.stackTraces = false) : ∀ q ∈ L_X0_formDirectionBeam, (q.2.1 < 5 → gk_Lk l RX0 gk_W1 3 q.1 q.2.1 q.2.2.1 q.2.2.2.1 q.2.2.2.2.1 q.2.2.2.2.2) := (List.forall_mem_cons.mpr ⟨(fun _ => ⟨yJ7_fill_53178, cJ7_fill_53178, 4, none, 0, _, M_J7_fill_53178 hl, ⟨by decide, by decide⟩, ⟨by decide, by decide, by decide +kernel⟩, ⟨(gk_wm 645 (by decide +kernel)), (gk_wm 106 (by decide +kernel))⟩, Or.inl ⟨rfl, rfl, (gk_wm 644 (by decide +kernel)), gk_wm 1135 (by decide +kernel)⟩⟩), (List.forall_mem_cons.mpr ⟨(fun _ => ⟨yX0_addParts, cX0_addParts, 5, none, 0, _, M_X0_addParts hl, ⟨by decide, by decide⟩, ⟨by decide, by decide, by decide +kernel⟩, ⟨(gk_wm 1139 (by decide +kernel)), (gk_wm 95 (by decide +kernel))⟩, Or.inr (Or.inr (Or.inr (Or.inl ⟨rfl, rfl, (gk_wm 1138 (by decide +kernel)), (gk_wm 29 (by decide +kernel)), gk_wm 1136 (by decide +kernel), by decide, rfl⟩)))⟩), (List.forall_mem_cons.mpr ⟨(fun _ => ⟨yX0_takeDirectionParts, cX0_takeDirectionParts, 8, none, 2, _, M_X0_takeDirectionParts hl, ⟨by decide, by decide⟩, ⟨by decide, by decide, by decide +kernel⟩, ⟨(gk_wm 1102 (by decide +kernel)), (gk_wm 95 (by decide +kernel))⟩, Or.inr (Or.inr (Or.inr (Or.inl ⟨rfl, rfl, (gk_wm 1101 (by decide +kernel)), (gk_wm 25 (by decide +kernel)), gk_wm 1099 (by decide +kernel), by decide, rfl⟩)))⟩), (fun _ h => absurd h List.not_mem_nil)⟩)⟩)⟩)
theorem sp_X0_formDirectionBeam : ∀ q ∈ L_X0_formDirectionBeam, gk_Sq RX0 gk_W1 3 q := (List.forall_mem_cons.mpr ⟨⟨fun h => absurd h (by decide), fun h => absurd h (by decide), fun h => absurd h (by decide), fun h => absurd h (by decide), fun h => absurd h (by decide), fun h => absurd h (by decide)⟩, (List.forall_mem_cons.mpr ⟨⟨fun h => absurd h (by decide), fun h => absurd h (by decide), fun h => absurd h (by decide), fun h => absurd h (by decide), fun h => absurd h (by decide), fun h => absurd h (by decide)⟩, (List.forall_mem_cons.mpr ⟨⟨fun h => absurd h (by decide), fun h => absurd h (by decide), fun h => absurd h (by decide), fun h => absurd h (by decide), fun h => absurd h (by decide), fun h => absurd h (by decide)⟩, (fun _ h => absurd h List.not_mem_nil)⟩)⟩)⟩)
theorem M_X0_formDirectionBeam {l : Launch} (hl : l.stackTraces = false) : gk_Mt l yX0_formDirectionBeam (.code yX0_formDirectionBeam cX0_formDirectionBeam 7 (some (.array .int)) :: gk_W1) 3 0 S_X0_formDirectionBeam := gk_meth hl gk_cw_ok (by decide +kernel) rfl m_X0_formDirectionBeam pX0_ok (gk_Sp_of sp_X0_formDirectionBeam) pX0_st (fun ci m S h => absurd h (by intro h; cases h)) (xf_X0 3) (fun idx kd ci mm cost S2 h h5 => lk_X0_formDirectionBeam hl _ (gk_lk_mem h) h5)

end GKV

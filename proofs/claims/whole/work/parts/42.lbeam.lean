/-! THE METHODS, 23: the reference, beams -/
section GKV
variable {c : ByteArray} {P : gk_C} {cs : Nat → Option gk_M0} {rt : Option FieldType} {uf : Nat} {sc : Option Nat} {K : gk_K} {V : gk_V}
variable {L : List (Option Value)} {r : List Value} {n : Nat} {fl : gk_F} {x : gk_X} {y : gk_Y} {u pc pc2 : Nat}
def gk_bb (g : Nat → Int32) (by_ : Int) : Nat → Nat → Int32
  | 0, _ => 0
  | m + 1, k => gk_bb g by_ m k + g (154 + 4 * m + 3) * gk_pp g m by_ k
def S_X11_layBeam : gk_S := fun as n fl x y K => ∃ (b : Int32) (g : Nat → Int32) (B : Int), as = [.ref 189, .int b] ∧ (n = 202 ∧ fl = gk_fT) ∧ (∀ k, k < 2234 → x 190 k = g k) ∧ (gWf g) ∧ (gWr g) ∧ (b = gI B) ∧ (-2000 ≤ B ∧ B ≤ 2000) ∧ (∀ x2 : gk_X, (∀ i k, i ≠ 194 → i ≠ 195 → i ≠ 197 → x2 i k = gk_ur x 196 (gk_bb g B (nM g)) 256 i k) → K (.inl none) n fl x2 y)
theorem r_X11_layBeam (w : gk_W c P cs (fun _ _ => none) rt uf sc K V) {idx : Nat} {b : Int32} {g : Nat → Int32} {B : Int} (hd : decode c pc = .ok (.invokevirtual idx, 3)) (hp : pc + 3 = pc2) (hc : cs idx = some (1, 10, 2, 0, S_X11_layBeam)) (h8 : Nat.ble (r.map Value.category).sum 8 = true) (hp0 : ∀ k, k < 2234 → x 190 k = g k) (hp1 : gWf g) (hp2 : gWr g) (hp3 : b = gI B) (hp4 : -2000 ≤ B ∧ B ≤ 2000) (kk0 : ∀ x2 : gk_X, (∀ i k, i ≠ 194 → i ≠ 195 → i ≠ 197 → x2 i k = gk_ur x 196 (gk_bb g B (nM g)) 256 i k) → V pc2 L r 202 gk_fT x2 y u) : V pc L (.int b :: .ref 189 :: r) 202 gk_fT x y u :=
  g_callv w hd hp hc (as := [.ref 189, .int b]) rfl h8 rfl rfl rfl (Or.inr (Or.inl ⟨Or.inl rfl, _, _, rfl, (gk_kd_j rfl rfl), rfl⟩)) (Or.inl rfl) ⟨b, g, B, rfl, ⟨rfl, rfl⟩, hp0, hp1, hp2, hp3, hp4, kk0⟩
def L_X11_layBeam : List (Nat × gk_M0) := [(241, (1, 10, 3, 0, S_X11_layParts)), (244, (1, 10, 1, 0, S_X11_clearSignal)), (247, (1, 10, 2, 0, S_X11_addParts))]
def cs_X11_layBeam : Nat → Option gk_M0 := gk_lk L_X11_layBeam
theorem m_X11_layBeam : ∀ (as : List Value) (n : Nat) (fl : gk_F) (x : gk_X) (y : gk_Y) (K : gk_K), S_X11_layBeam as n fl x y K → (gk_L0 as).length ≤ 3 ∧ ∀ V : gk_V, gk_W cX11_layBeam pX11 cs_X11_layBeam (fun _ _ => none) none 0 none K V → V 0 (gk_en as 3) [] n fl x y 0 := by
  intro as n fl x y K hS
  obtain ⟨b, g, B, rfl, ⟨rfl, rfl⟩, hp0, hp1, hp2, hp3, hp4, q0⟩ := hS
  refine ⟨Nat.le_of_ble_eq_true rfl, fun V w => ?_⟩
  show V 0 [some (.ref 189), some (.int b), none] [] 202 gk_fT x y 0
  subst hp3
  have n8 : gz g 8 = (nM g : Int) := by unfold nM; have := hp1.1; unfold wf0 at this; omega
  have n8l : nM g ≤ 8 := by have := hp1.1; unfold wf0 at this; omega
  have lo : ∀ (m : Nat) (xm : gk_X), (∀ i k, i ≠ 194 → i ≠ 195 → i ≠ 197 → xm i k = gk_ur x 196 (gk_bb g B m) 256 i k) → ∀ k, k < 2234 → xm 190 k = g k := fun m xm h k hk => (h 190 k (by decide) (by decide) (by decide)).trans ((gk_ur_ne (by decide)).trans (hp0 k hk))
  have key : ∀ (k m : Nat), m + k = nM g → ∀ xm : gk_X, (∀ i k, i ≠ 194 → i ≠ 195 → i ≠ 197 → xm i k = gk_ur x 196 (gk_bb g B m) 256 i k) → V 6 [some (.ref 189), some (.int (gI B)), some (.int (nI m))] [] 202 gk_fT xm y 0 := by
    intro k
    induction k with
    | zero =>
      intro m ht xm hxm
      obtain rfl : m = nM g := by omega
      refine s_iload_n (pc2 := 7) w dX11_layBeam_6 rfl rfl ?_
      refine s_aload_n (pc2 := 8) w dX11_layBeam_7 rfl rfl ?_
      refine m_getR (pc2 := 11) (ci := 10) (k := 0) (j2 := 190) w dX11_layBeam_8 rfl rfl rfl rfl rfl rfl ?_
      refine s_bipush (pc2 := 13) (v := gI 8) w dX11_layBeam_11 rfl rfl ?_
      refine m_ialoadN (pc2 := 14) (t := 8) (N := 2234) w dX11_layBeam_13 rfl rfl rfl rfl (by decide) rfl ?_
      rw [lo _ xm hxm 8 (by decide), gz_I g 8, n8]
      refine s_ic_ge (pc2 := 17) (tgt := 34) w dX11_layBeam_14 rfl (by decide) (fun _ => ?_) (fun h0 => absurd ((Int32.le_refl _)) h0)
      refine s_return w dX11_layBeam_34 rfl ?_
      exact q0 xm hxm
    | succ k ih =>
      intro m ht xm hxm
      have hm : m < nM g := by omega
      have hl := lo m xm hxm
      refine s_iload_n (pc2 := 7) w dX11_layBeam_6 rfl rfl ?_
      refine s_aload_n (pc2 := 8) w dX11_layBeam_7 rfl rfl ?_
      refine m_getR (pc2 := 11) (ci := 10) (k := 0) (j2 := 190) w dX11_layBeam_8 rfl rfl rfl rfl rfl rfl ?_
      refine s_bipush (pc2 := 13) (v := gI 8) w dX11_layBeam_11 rfl rfl ?_
      refine m_ialoadN (pc2 := 14) (t := 8) (N := 2234) w dX11_layBeam_13 rfl rfl rfl rfl (by decide) rfl ?_
      rw [lo _ xm hxm 8 (by decide), gz_I g 8, n8]
      refine s_ic_ge (pc2 := 17) (tgt := 34) w dX11_layBeam_14 rfl (by decide) (fun h0 => absurd h0 (by rw [gI_nI, gI_le ⟨by omega, by omega⟩ ⟨by omega, by omega⟩]; omega)) (fun _ => ?_)
      refine s_aload_n (pc2 := 18) w dX11_layBeam_17 rfl rfl ?_
      refine s_iload_n (pc2 := 19) w dX11_layBeam_18 rfl rfl ?_
      refine s_iload_n (pc2 := 20) w dX11_layBeam_19 rfl rfl ?_
      refine r_X11_layParts (pc2 := 23) w dX11_layBeam_20 rfl rfl rfl hl hp1 hp2 rfl hm rfl hp4 (fun x2 hx2 => ?_)
      refine s_aload_n (pc2 := 24) w dX11_layBeam_23 rfl rfl ?_
      refine s_iload_n (pc2 := 25) w dX11_layBeam_24 rfl rfl ?_
      refine r_X11_addParts (pc2 := 28) w dX11_layBeam_25 rfl rfl rfl rfl (by omega) ?_
      refine s_iinc (pc2 := 31) w dX11_layBeam_28 rfl rfl rfl rfl ?_
      dsimp only [gk_s1, gk_s2, gk_cl]
      rw [nI_s]
      refine s_goto (tgt := 6) w dX11_layBeam_31 (by decide) ?_
      refine ih (m + 1) (by omega) _ (fun i k h1 h2 h3 => ?_)
      by_cases hk : i = 196 ∧ k < 256
      · obtain ⟨rfl, hk⟩ := hk
        rw [gk_ur_in hk, gk_ur_in hk]
        show x2 196 k + x2 190 (154 + 4 * m + 3) * x2 197 k = gk_bb g B m k + g (154 + 4 * m + 3) * gk_pp g m B k
        rw [hx2 196 k (by decide) (by decide), hx2 190 _ (by decide) (by decide), hx2 197 k (by decide) (by decide), gk_ur_in hk, gk_ur_ne (show 196 ≠ 197 by decide), gk_ur_ne (show 190 ≠ 197 by decide), hl _ (by omega), hxm 196 k (by decide) (by decide) (by decide), gk_ur_in hk]
      · refine (if_neg hk).trans (((hx2 i k h1 h2).trans ((gk_ur_ne h3).trans (hxm i k h1 h2 h3))).trans ?_)
        exact (if_neg hk).trans (if_neg hk).symm
  refine s_aload_n (pc2 := 1) w dX11_layBeam_0 rfl rfl ?_
  refine r_X11_clearSignal (pc2 := 4) w dX11_layBeam_1 rfl rfl rfl ?_
  refine s_iconst (pc2 := 5) (v := gI 0) w dX11_layBeam_4 rfl rfl ?_
  refine s_istore_n (pc2 := 6) (k2 := 2) w dX11_layBeam_5 rfl rfl rfl ?_
  dsimp only [gk_s1, gk_s2, gk_cl]
  exact key (nM g) 0 (by omega) _ (fun i k _ _ _ => rfl)
theorem lk_X11_layBeam {l : Launch} (hl : l.stackTraces = false) : ∀ q ∈ L_X11_layBeam, (q.2.1 < 5 → gk_Lk l RX11 gk_W1 5 q.1 q.2.1 q.2.2.1 q.2.2.2.1 q.2.2.2.2.1 q.2.2.2.2.2) := (List.forall_mem_cons.mpr ⟨(fun _ => ⟨yX11_layParts, cX11_layParts, 5, none, 4, _, M_X11_layParts hl, ⟨by decide, by decide⟩, ⟨by decide, by decide, by decide +kernel⟩, ⟨(gk_wm 1622 (by decide +kernel)), (gk_wm 99 (by decide +kernel))⟩, Or.inr (Or.inr (Or.inr (Or.inl ⟨rfl, rfl, (gk_wm 1621 (by decide +kernel)), (gk_wm 66 (by decide +kernel)), gk_wm 1619 (by decide +kernel), by decide, rfl⟩)))⟩), (List.forall_mem_cons.mpr ⟨(fun _ => ⟨yX11_clearSignal, cX11_clearSignal, 2, none, 0, _, M_X11_clearSignal hl, ⟨by decide, by decide⟩, ⟨by decide, by decide, by decide +kernel⟩, ⟨(gk_wm 1644 (by decide +kernel)), (gk_wm 99 (by decide +kernel))⟩, Or.inr (Or.inr (Or.inr (Or.inl ⟨rfl, rfl, (gk_wm 1643 (by decide +kernel)), (gk_wm 70 (by decide +kernel)), gk_wm 1641 (by decide +kernel), by decide, rfl⟩)))⟩), (List.forall_mem_cons.mpr ⟨(fun _ => ⟨yX11_addParts, cX11_addParts, 3, none, 1, _, M_X11_addParts hl, ⟨by decide, by decide⟩, ⟨by decide, by decide, by decide +kernel⟩, ⟨(gk_wm 1648 (by decide +kernel)), (gk_wm 99 (by decide +kernel))⟩, Or.inr (Or.inr (Or.inr (Or.inl ⟨rfl, rfl, (gk_wm 1647 (by decide +kernel)), (gk_wm 71 (by decide +kernel)), gk_wm 1645 (by decide +kernel), by decide, rfl⟩)))⟩), (fun _ h => absurd h List.not_mem_nil)⟩)⟩)⟩)
theorem sp_X11_layBeam : ∀ q ∈ L_X11_layBeam, gk_Sq RX11 gk_W1 5 q := (List.forall_mem_cons.mpr ⟨⟨fun h => absurd h (by decide), fun h => absurd h (by decide), fun h => absurd h (by decide), fun h => absurd h (by decide), fun h => absurd h (by decide), fun h => absurd h (by decide)⟩, (List.forall_mem_cons.mpr ⟨⟨fun h => absurd h (by decide), fun h => absurd h (by decide), fun h => absurd h (by decide), fun h => absurd h (by decide), fun h => absurd h (by decide), fun h => absurd h (by decide)⟩, (List.forall_mem_cons.mpr ⟨⟨fun h => absurd h (by decide), fun h => absurd h (by decide), fun h => absurd h (by decide), fun h => absurd h (by decide), fun h => absurd h (by decide), fun h => absurd h (by decide)⟩, (fun _ h => absurd h List.not_mem_nil)⟩)⟩)⟩)
theorem M_X11_layBeam {l : Launch} (hl : l.stackTraces = false) : gk_Mt l yX11_layBeam (.code yX11_layBeam cX11_layBeam 3 none :: gk_W1) 5 0 S_X11_layBeam := gk_meth hl gk_cw_ok (by decide +kernel) rfl m_X11_layBeam pX11_ok (gk_Sp_of sp_X11_layBeam) pX11_st (fun ci m S h => absurd h (by intro h; cases h)) (xf_X11 5) (fun idx kd ci mm cost S2 h h5 => lk_X11_layBeam hl _ (gk_lk_mem h) h5)

end GKV

/-! THE METHODS, 19: the focus (the reference) -/
section GKV
variable {c : ByteArray} {P : gk_C} {cs : Nat → Option gk_M0} {rt : Option FieldType} {uf : Nat} {sc : Option Nat} {K : gk_K} {V : gk_V}
variable {L : List (Option Value)} {r : List Value} {n : Nat} {fl : gk_F} {x : gk_X} {y : gk_Y} {u pc pc2 : Nat}
/-- the focus: where it is at the time 0, its speed, what lies beside it -/
def fV (g : Nat → Int32) : Nat := (gz g 11).toNat
def fP (g : Nat → Int32) (by_ : Int) : Int := (if g 10 = 0 then gz g (16 + 3 * fV g + 0) + gz g 12 else gz g 12) + by_
def fS (g : Nat → Int32) : Int := if g 10 = 0 then gz g (16 + 3 * fV g + 1) else 0
def fY (g : Nat → Int32) : Int := if g 10 = 0 then gz g (16 + 3 * fV g + 2) else gz g 13
def fA (g : Nat → Int32) (m : Nat) (by_ : Int) : Int := fP g by_ - gz g (154 + 4 * m + 0)
def fBe (g : Nat → Int32) (m : Nat) (rf : Bool) : Int := gk_be (fY g) (gz g 14) (gz g (154 + 4 * m + 1)) (gz g (154 + 4 * m + 2)) rf
theorem wf_focus {g : Nat → Int32} (hw : gWf g) (h2 : ¬ g 10 = 2) {m : Nat} (hm : m < nM g) {by_ : Int} (hb : -2000 ≤ by_ ∧ by_ ≤ 2000) : (-23000 ≤ fP g by_ ∧ fP g by_ ≤ 23000) ∧ (-50 ≤ fS g ∧ fS g ≤ 50) ∧ (100 ≤ fY g ∧ fY g ≤ 5000) ∧ (0 ≤ gz g 14 ∧ gz g 14 ≤ 500) ∧ (g 10 = 0 → fV g < 4 ∧ gz g 11 = (fV g : Int)) ∧ m < 8 ∧ ∀ rf, gk_PB (fA g m by_) (fS g) (fBe g m rf) := by
  obtain ⟨⟨-, -, -, -, -, -, c6, -, c8⟩, hv, -, hmm, hf⟩ := hw
  obtain ⟨m1, m2, m3, -⟩ := hmm m hm
  have h8 : m < 8 := by unfold nM at hm; omega
  have key : (-23000 ≤ fP g by_ ∧ fP g by_ ≤ 23000) ∧ (-50 ≤ fS g ∧ fS g ≤ 50) ∧ (100 ≤ fY g ∧ fY g ≤ 5000) ∧ (0 ≤ gz g 14 ∧ gz g 14 ≤ 500) ∧ (g 10 = 0 → fV g < 4 ∧ gz g 11 = (fV g : Int)) := by
    rcases hf with ⟨e, f1, f2, f3⟩ | ⟨e, f1, f2, f3⟩ | ⟨e, -⟩
    · have e9 : gz g 11 = (fV g : Int) := by unfold fV; omega
      obtain ⟨v1, v2, v3⟩ := hv (fV g) (by unfold nV; omega)
      unfold fP fS fY
      rw [if_pos e, if_pos e, if_pos e]
      exact ⟨by omega, by omega, by omega, by omega, fun _ => ⟨by omega, e9⟩⟩
    · have ne : ¬ g 10 = 0 := fun h => by rw [h] at e; exact absurd e (by decide)
      unfold fP fS fY
      rw [if_neg ne, if_neg ne, if_neg ne]
      exact ⟨by omega, by omega, by omega, by omega, fun h => absurd h ne⟩
    · exact absurd e h2
  obtain ⟨k1, k2, k3, k4, k5⟩ := key
  refine ⟨k1, k2, k3, k4, k5, h8, fun rf => ?_⟩
  have hb2 := gk_be_b (py := fY g) (ph := gz g 14) (my := gz g (154 + 4 * m + 1)) (mh := gz g (154 + 4 * m + 2)) (rf := rf) (by omega) (by omega) (by omega) (by omega) (by omega) (by omega) (by omega) (by omega)
  unfold gk_PB fA fBe
  omega
def S_X11_layFocus : gk_S := fun as n fl x y K => ∃ (m : Int32) (b : Int32) (mm : Nat) (B : Int) (g : Nat → Int32), as = [.ref 189, .int m, .int b] ∧ (n = 202 ∧ fl = gk_fT) ∧ (∀ k, k < 186 → x 190 k = g k) ∧ (gWf g) ∧ (¬ g 10 = 2) ∧ (m = nI mm) ∧ (mm < nM g) ∧ (b = gI B) ∧ (-2000 ≤ B ∧ B ≤ 2000) ∧ (K (.inl none) n fl (gk_ur (gk_ur x 194 (fun t => gI (gk_dl (fA g mm B) (fS g) (fBe g mm false) t)) 256) 195 (fun t => gI (gk_dl (fA g mm B) (fS g) (fBe g mm true) t)) 256) y)
theorem r_X11_layFocus (w : gk_W c P cs (fun _ _ => none) rt uf sc K V) {idx : Nat} {m : Int32} {b : Int32} {mm : Nat} {B : Int} {g : Nat → Int32} (hd : decode c pc = .ok (.invokevirtual idx, 3)) (hp : pc + 3 = pc2) (hc : cs idx = some (1, 10, 3, 0, S_X11_layFocus)) (h8 : Nat.ble (r.map Value.category).sum 8 = true) (hp0 : ∀ k, k < 186 → x 190 k = g k) (hp1 : gWf g) (hp2 : ¬ g 10 = 2) (hp3 : m = nI mm) (hp4 : mm < nM g) (hp5 : b = gI B) (hp6 : -2000 ≤ B ∧ B ≤ 2000) (kk0 : V pc2 L r 202 gk_fT (gk_ur (gk_ur x 194 (fun t => gI (gk_dl (fA g mm B) (fS g) (fBe g mm false) t)) 256) 195 (fun t => gI (gk_dl (fA g mm B) (fS g) (fBe g mm true) t)) 256) y u) : V pc L (.int b :: .int m :: .ref 189 :: r) 202 gk_fT x y u :=
  g_callv w hd hp hc (as := [.ref 189, .int m, .int b]) rfl h8 rfl rfl rfl (Or.inr (Or.inl ⟨Or.inl rfl, _, _, rfl, (gk_kd_j rfl rfl), rfl⟩)) (Or.inl rfl) ⟨m, b, mm, B, g, rfl, ⟨rfl, rfl⟩, hp0, hp1, hp2, hp3, hp4, hp5, hp6, kk0⟩
def L_X11_layFocus : List (Nat × gk_M0) := [(109, (1, 10, 3, 0, S_X11_vehicle)), (129, (1, 10, 6, 0, S_X11_layDistances))]
def cs_X11_layFocus : Nat → Option gk_M0 := gk_lk L_X11_layFocus
theorem m_X11_layFocus : ∀ (as : List Value) (n : Nat) (fl : gk_F) (x : gk_X) (y : gk_Y) (K : gk_K), S_X11_layFocus as n fl x y K → (gk_L0 as).length ≤ 6 ∧ ∀ V : gk_V, gk_W cX11_layFocus pX11 cs_X11_layFocus (fun _ _ => none) none 0 none K V → V 0 (gk_en as 6) [] n fl x y 0 := by
  intro as n fl x y K hS
  obtain ⟨m, b, mm, B, g, rfl, ⟨rfl, rfl⟩, hp0, hp1, hp2, hp3, hp4, hp5, hp6, q0⟩ := hS
  refine ⟨Nat.le_of_ble_eq_true rfl, fun V w => ?_⟩
  show V 0 [some (.ref 189), some (.int m), some (.int b), none, none, none] [] 202 gk_fT x y 0
  subst hp3 hp5
  obtain ⟨k1, k2, k3, k4, k5, h8, hpb⟩ := wf_focus hp1 hp2 hp4 hp6
  have hmm := hp1.2.2.2.1 mm hp4
  have hpb0 := hpb false
  have em : ∀ k, k < 32 → x 190 (154 + k) = gI (gz g (154 + k)) := fun k hk => (hp0 _ (by omega)).trans (gz_I g _)
  by_cases hz0 : g 10 = 0
  · obtain ⟨q1, q2⟩ := k5 hz0
    have eP : fP g B = gz g (16 + 3 * fV g + 0) + (gz g 12 + B) := by unfold fP; rw [if_pos hz0]; omega
    have eS : fS g = gz g (16 + 3 * fV g + 1) := if_pos hz0
    have eY : fY g = gz g (16 + 3 * fV g + 2) := if_pos hz0
    refine s_aload_n (pc2 := 1) w dX11_layFocus_0 rfl rfl ?_
    refine m_getR (pc2 := 4) (ci := 10) (k := 0) (j2 := 190) w dX11_layFocus_1 rfl rfl rfl rfl rfl rfl ?_
    refine s_bipush (pc2 := 6) (v := gI 10) w dX11_layFocus_4 rfl rfl ?_
    refine m_ialoadN (pc2 := 7) (t := 10) (N := 2234) w dX11_layFocus_6 rfl rfl rfl rfl (by decide) rfl ?_
    refine s_if_ne (pc2 := 10) (tgt := 14) w dX11_layFocus_7 rfl (by decide) (fun h0 => absurd ((hp0 10 (by decide)).trans hz0) h0) (fun _ => ?_)
    refine s_iconst (pc2 := 11) (v := gI 1) w dX11_layFocus_10 rfl rfl ?_
    refine s_goto (tgt := 15) w dX11_layFocus_11 (by decide) ?_
    refine s_istore_n (pc2 := 16) (k2 := 3) w dX11_layFocus_15 rfl rfl rfl ?_
    dsimp only [gk_s1, gk_s2, gk_cl]
    refine s_iload_n (pc2 := 17) w dX11_layFocus_16 rfl rfl ?_
    refine s_if_eq (pc2 := 20) (tgt := 30) w dX11_layFocus_17 rfl (by decide) (fun h0 => absurd h0 (by decide)) (fun _ => ?_)
    refine s_aload_n (pc2 := 21) w dX11_layFocus_20 rfl rfl ?_
    refine m_getR (pc2 := 24) (ci := 10) (k := 0) (j2 := 190) w dX11_layFocus_21 rfl rfl rfl rfl rfl rfl ?_
    refine s_bipush (pc2 := 26) (v := gI 11) w dX11_layFocus_24 rfl rfl ?_
    refine m_ialoadN (pc2 := 27) (t := 11) (N := 2234) w dX11_layFocus_26 rfl rfl rfl rfl (by decide) rfl ?_
    rw [hp0 11 (by decide), gz_I g 11, q2]
    refine s_goto (tgt := 31) w dX11_layFocus_27 (by decide) ?_
    refine s_istore (pc2 := 33) w dX11_layFocus_31 rfl rfl ?_
    dsimp only [gk_s1, gk_s2, gk_cl]
    refine s_iload_n (pc2 := 34) w dX11_layFocus_33 rfl rfl ?_
    refine s_if_eq (pc2 := 37) (tgt := 47) w dX11_layFocus_34 rfl (by decide) (fun h0 => absurd h0 (by decide)) (fun _ => ?_)
    refine s_aload_n (pc2 := 38) w dX11_layFocus_37 rfl rfl ?_
    refine s_iload (pc2 := 40) w dX11_layFocus_38 rfl rfl ?_
    refine s_iconst (pc2 := 41) (v := gI 2) w dX11_layFocus_40 rfl rfl ?_
    refine r_X11_vehicle (pc2 := 44) (b := 2) w dX11_layFocus_41 rfl rfl rfl rfl rfl (by omega) ?_
    rw [hp0 _ (by omega), gz_I g (16 + 3 * fV g + 2), ← eY]
    refine s_goto (tgt := 54) w dX11_layFocus_44 (by decide) ?_
    refine s_istore (pc2 := 56) w dX11_layFocus_54 rfl rfl ?_
    dsimp only [gk_s1, gk_s2, gk_cl]
    refine s_aload_n (pc2 := 57) w dX11_layFocus_56 rfl rfl ?_
    refine s_iload_n (pc2 := 58) w dX11_layFocus_57 rfl rfl ?_
    refine s_iload (pc2 := 60) w dX11_layFocus_58 rfl rfl ?_
    refine s_aload_n (pc2 := 61) w dX11_layFocus_60 rfl rfl ?_
    refine m_getR (pc2 := 64) (ci := 10) (k := 0) (j2 := 190) w dX11_layFocus_61 rfl rfl rfl rfl rfl rfl ?_
    refine s_bipush (pc2 := 66) (v := gI 12) w dX11_layFocus_64 rfl rfl ?_
    refine m_ialoadN (pc2 := 67) (t := 12) (N := 2234) w dX11_layFocus_66 rfl rfl rfl rfl (by decide) rfl ?_
    rw [hp0 12 (by decide), gz_I g 12]
    refine s_iload_n (pc2 := 68) w dX11_layFocus_67 rfl rfl ?_
    refine s_iadd (pc2 := 69) w dX11_layFocus_68 rfl ?_
    rw [gI_add]
    refine s_iload (pc2 := 71) w dX11_layFocus_69 rfl rfl ?_
    refine s_aload_n (pc2 := 72) w dX11_layFocus_71 rfl rfl ?_
    refine m_getR (pc2 := 75) (ci := 10) (k := 0) (j2 := 190) w dX11_layFocus_72 rfl rfl rfl rfl rfl rfl ?_
    refine s_bipush (pc2 := 77) (v := gI 14) w dX11_layFocus_75 rfl rfl ?_
    refine m_ialoadN (pc2 := 78) (t := 14) (N := 2234) w dX11_layFocus_77 rfl rfl rfl rfl (by decide) rfl ?_
    rw [hp0 14 (by decide), gz_I g 14]
    refine r_X11_layDistances (pc2 := 81) (PX := fP g B) (SX := fS g) (Y := fY g) w dX11_layFocus_78 rfl rfl rfl rfl h8 rfl rfl rfl (by rw [hp0 _ (by omega)]; exact gz_I g _) (by rw [hp0 _ (by omega)]; exact gz_I g _) (by rw [hp0 _ (by omega)]; exact gz_I g _) (Or.inr ⟨fV g, gz g (16 + 3 * fV g + 0), rfl, q1, by rw [hp0 _ (by omega)]; exact gz_I g _, by rw [hp0 _ (by omega), eS]; exact gz_I g _, eP⟩) (by have := hpb0; unfold gk_PB fA at this; unfold gk_PB; omega) (by omega) (by omega) (by omega) ?_
    refine s_return w dX11_layFocus_81 rfl ?_
    exact q0
  · have eP : fP g B = gz g 12 + B := by unfold fP; rw [if_neg hz0]
    have eS : fS g = 0 := if_neg hz0
    have eY : fY g = gz g 13 := if_neg hz0
    refine s_aload_n (pc2 := 1) w dX11_layFocus_0 rfl rfl ?_
    refine m_getR (pc2 := 4) (ci := 10) (k := 0) (j2 := 190) w dX11_layFocus_1 rfl rfl rfl rfl rfl rfl ?_
    refine s_bipush (pc2 := 6) (v := gI 10) w dX11_layFocus_4 rfl rfl ?_
    refine m_ialoadN (pc2 := 7) (t := 10) (N := 2234) w dX11_layFocus_6 rfl rfl rfl rfl (by decide) rfl ?_
    refine s_if_ne (pc2 := 10) (tgt := 14) w dX11_layFocus_7 rfl (by decide) (fun _ => ?_) (fun h0 => absurd h0 (fun h => hz0 ((hp0 10 (by decide)).symm.trans h)))
    refine s_iconst (pc2 := 15) (v := gI 0) w dX11_layFocus_14 rfl rfl ?_
    refine s_istore_n (pc2 := 16) (k2 := 3) w dX11_layFocus_15 rfl rfl rfl ?_
    dsimp only [gk_s1, gk_s2, gk_cl]
    refine s_iload_n (pc2 := 17) w dX11_layFocus_16 rfl rfl ?_
    refine s_if_eq (pc2 := 20) (tgt := 30) w dX11_layFocus_17 rfl (by decide) (fun _ => ?_) (fun h0 => absurd (rfl) h0)
    refine s_iconst (pc2 := 31) (v := gI (-1)) w dX11_layFocus_30 rfl rfl ?_
    refine s_istore (pc2 := 33) w dX11_layFocus_31 rfl rfl ?_
    dsimp only [gk_s1, gk_s2, gk_cl]
    refine s_iload_n (pc2 := 34) w dX11_layFocus_33 rfl rfl ?_
    refine s_if_eq (pc2 := 37) (tgt := 47) w dX11_layFocus_34 rfl (by decide) (fun _ => ?_) (fun h0 => absurd (rfl) h0)
    refine s_aload_n (pc2 := 48) w dX11_layFocus_47 rfl rfl ?_
    refine m_getR (pc2 := 51) (ci := 10) (k := 0) (j2 := 190) w dX11_layFocus_48 rfl rfl rfl rfl rfl rfl ?_
    refine s_bipush (pc2 := 53) (v := gI 13) w dX11_layFocus_51 rfl rfl ?_
    refine m_ialoadN (pc2 := 54) (t := 13) (N := 2234) w dX11_layFocus_53 rfl rfl rfl rfl (by decide) rfl ?_
    rw [hp0 13 (by decide), gz_I g 13, ← eY]
    refine s_istore (pc2 := 56) w dX11_layFocus_54 rfl rfl ?_
    dsimp only [gk_s1, gk_s2, gk_cl]
    refine s_aload_n (pc2 := 57) w dX11_layFocus_56 rfl rfl ?_
    refine s_iload_n (pc2 := 58) w dX11_layFocus_57 rfl rfl ?_
    refine s_iload (pc2 := 60) w dX11_layFocus_58 rfl rfl ?_
    refine s_aload_n (pc2 := 61) w dX11_layFocus_60 rfl rfl ?_
    refine m_getR (pc2 := 64) (ci := 10) (k := 0) (j2 := 190) w dX11_layFocus_61 rfl rfl rfl rfl rfl rfl ?_
    refine s_bipush (pc2 := 66) (v := gI 12) w dX11_layFocus_64 rfl rfl ?_
    refine m_ialoadN (pc2 := 67) (t := 12) (N := 2234) w dX11_layFocus_66 rfl rfl rfl rfl (by decide) rfl ?_
    rw [hp0 12 (by decide), gz_I g 12]
    refine s_iload_n (pc2 := 68) w dX11_layFocus_67 rfl rfl ?_
    refine s_iadd (pc2 := 69) w dX11_layFocus_68 rfl ?_
    rw [gI_add]
    refine s_iload (pc2 := 71) w dX11_layFocus_69 rfl rfl ?_
    refine s_aload_n (pc2 := 72) w dX11_layFocus_71 rfl rfl ?_
    refine m_getR (pc2 := 75) (ci := 10) (k := 0) (j2 := 190) w dX11_layFocus_72 rfl rfl rfl rfl rfl rfl ?_
    refine s_bipush (pc2 := 77) (v := gI 14) w dX11_layFocus_75 rfl rfl ?_
    refine m_ialoadN (pc2 := 78) (t := 14) (N := 2234) w dX11_layFocus_77 rfl rfl rfl rfl (by decide) rfl ?_
    rw [hp0 14 (by decide), gz_I g 14]
    refine r_X11_layDistances (pc2 := 81) (PX := fP g B) (SX := fS g) (Y := fY g) w dX11_layFocus_78 rfl rfl rfl rfl h8 rfl rfl rfl (by rw [hp0 _ (by omega)]; exact gz_I g _) (by rw [hp0 _ (by omega)]; exact gz_I g _) (by rw [hp0 _ (by omega)]; exact gz_I g _) (Or.inl ⟨rfl, eP, eS⟩) (by have := hpb0; unfold gk_PB fA at this; unfold gk_PB; omega) (by omega) (by omega) (by omega) ?_
    refine s_return w dX11_layFocus_81 rfl ?_
    exact q0
theorem lk_X11_layFocus {l : Launch} (hl : l.stackTraces = false) : ∀ q ∈ L_X11_layFocus, (q.2.1 < 5 → gk_Lk l RX11 gk_W1 3 q.1 q.2.1 q.2.2.1 q.2.2.2.1 q.2.2.2.2.1 q.2.2.2.2.2) := (List.forall_mem_cons.mpr ⟨(fun _ => ⟨yX11_vehicle, cX11_vehicle, 3, (some .int), 0, _, M_X11_vehicle hl, ⟨by decide, by decide⟩, ⟨by decide, by decide, by decide +kernel⟩, ⟨(gk_wm 1448 (by decide +kernel)), (gk_wm 99 (by decide +kernel))⟩, Or.inr (Or.inr (Or.inr (Or.inl ⟨rfl, rfl, (gk_wm 1447 (by decide +kernel)), (gk_wm 43 (by decide +kernel)), gk_wm 1445 (by decide +kernel), by decide, rfl⟩)))⟩), (List.forall_mem_cons.mpr ⟨(fun _ => ⟨yX11_layDistances, cX11_layDistances, 8, none, 2, _, M_X11_layDistances hl, ⟨by decide, by decide⟩, ⟨by decide, by decide, by decide +kernel⟩, ⟨(gk_wm 1452 (by decide +kernel)), (gk_wm 99 (by decide +kernel))⟩, Or.inr (Or.inr (Or.inr (Or.inl ⟨rfl, rfl, (gk_wm 1451 (by decide +kernel)), (gk_wm 44 (by decide +kernel)), gk_wm 1449 (by decide +kernel), by decide, rfl⟩)))⟩), (fun _ h => absurd h List.not_mem_nil)⟩)⟩)
theorem sp_X11_layFocus : ∀ q ∈ L_X11_layFocus, gk_Sq RX11 gk_W1 3 q := (List.forall_mem_cons.mpr ⟨⟨fun h => absurd h (by decide), fun h => absurd h (by decide), fun h => absurd h (by decide), fun h => absurd h (by decide), fun h => absurd h (by decide), fun h => absurd h (by decide)⟩, (List.forall_mem_cons.mpr ⟨⟨fun h => absurd h (by decide), fun h => absurd h (by decide), fun h => absurd h (by decide), fun h => absurd h (by decide), fun h => absurd h (by decide), fun h => absurd h (by decide)⟩, (fun _ h => absurd h List.not_mem_nil)⟩)⟩)
theorem M_X11_layFocus {l : Launch} (hl : l.stackTraces = false) : gk_Mt l yX11_layFocus (.code yX11_layFocus cX11_layFocus 6 none :: gk_W1) 3 0 S_X11_layFocus := gk_meth hl gk_cw_ok (by decide +kernel) rfl m_X11_layFocus pX11_ok (gk_Sp_of sp_X11_layFocus) pX11_st (fun ci m S h => absurd h (by intro h; cases h)) (xf_X11 3) (fun idx kd ci mm cost S2 h h5 => lk_X11_layFocus hl _ (gk_lk_mem h) h5)

end GKV

/-! THE METHODS, 29: the reference, its searches, 2 -/
section GKV
variable {c : ByteArray} {P : gk_C} {cs : Nat → Option gk_M0} {rt : Option FieldType} {uf : Nat} {sc : Option Nat} {K : gk_K} {V : gk_V}
variable {L : List (Option Value)} {r : List Value} {n : Nat} {fl : gk_F} {x : gk_X} {y : gk_Y} {u pc pc2 : Nat}
def LMIN : Int64 := -9223372036854775808
theorem mx_t2 {E : Nat → Int64} {lb : Nat → Int32} {s : Int32 × Int64} {n : Nat} {a : Int32} {v : Int64} (hE : E n = v) (hL : lb n = a) (h : ¬ lg_cmp v (gk_mx E lb s n).2 ≤ 0) : gk_mx E lb s (n + 1) = (a, v) := by
  subst hE; subst hL; exact mx_t h
theorem mx_f2 {E : Nat → Int64} {lb : Nat → Int32} {s : Int32 × Int64} {n : Nat} {v : Int64} (hE : E n = v) (h : lg_cmp v (gk_mx E lb s n).2 ≤ 0) : gk_mx E lb s (n + 1) = gk_mx E lb s n := by
  subst hE; exact mx_f h
theorem mx_min2 {E : Nat → Int64} {lb : Nat → Int32} {a : Int32} {v : Int64} (h : lb 0 = a) (hE : E 0 = v) : gk_mx E lb (a, LMIN) 1 = (a, v) := by
  subst hE; exact mx_min h
theorem mx_12 {E : Nat → Int64} {lb : Nat → Int32} {s : Int32 × Int64} {a : Int32} {v : Int64} (hE : E 0 = v) (hL : lb 0 = a) (h : s.2 < v) : gk_mx E lb s 1 = (a, v) := by
  subst hE; subst hL; exact mx_1 h
def S_X11_bestDirection : gk_S := fun as n fl x y K => ∃ (v : Int32) (f : Int32) (l : Int32) (g : Nat → Int32), as = [.ref 189, .int v, .int f, .int l] ∧ (n = 202 ∧ fl = gk_fT) ∧ (MG g x) ∧ (gOK g) ∧ (((1 ≤ v ∧ v ≤ 100) ∧ (0 ≤ f ∧ f ≤ l ∧ l ≤ 255)) → ∀ (x2 : gk_X) (y2 : gk_Y), MOk g 0 x x2 y y2 → K (.inl (some (.int ((gk_mx (fun n => gL (gE (gD g (-100 + (n : Int) * ((cN v : Nat) : Int))) (cN f) (cN l))) (fun n => gI (-100 + (n : Int) * ((cN v : Nat) : Int))) (-100, -1) (200 / cN v + 1)).1)))) n fl x2 y2) ∧ (¬ ((1 ≤ v ∧ v ≤ 100) ∧ (0 ≤ f ∧ f ≤ l ∧ l ≤ 255)) → ∀ (x2 : gk_X) (y2 : gk_Y), MOk g 1 x x2 y y2 → K (.inl (some (.int 0))) n fl x2 y2)
theorem r_X11_bestDirection (w : gk_W c P cs (fun _ _ => none) rt uf sc K V) {idx : Nat} {v : Int32} {f : Int32} {l : Int32} {g : Nat → Int32} (hd : decode c pc = .ok (.invokevirtual idx, 3)) (hp : pc + 3 = pc2) (hc : cs idx = some (1, 10, 4, 0, S_X11_bestDirection)) (h8 : Nat.ble (r.map Value.category).sum 8 = true) (hp0 : MG g x) (hp1 : gOK g) (kk0 : ((1 ≤ v ∧ v ≤ 100) ∧ (0 ≤ f ∧ f ≤ l ∧ l ≤ 255)) → ∀ (x2 : gk_X) (y2 : gk_Y), MOk g 0 x x2 y y2 → V pc2 L ((.int ((gk_mx (fun n => gL (gE (gD g (-100 + (n : Int) * ((cN v : Nat) : Int))) (cN f) (cN l))) (fun n => gI (-100 + (n : Int) * ((cN v : Nat) : Int))) (-100, -1) (200 / cN v + 1)).1)) :: r) 202 gk_fT x2 y2 u) (kk1 : ¬ ((1 ≤ v ∧ v ≤ 100) ∧ (0 ≤ f ∧ f ≤ l ∧ l ≤ 255)) → ∀ (x2 : gk_X) (y2 : gk_Y), MOk g 1 x x2 y y2 → V pc2 L ((.int 0) :: r) 202 gk_fT x2 y2 u) : V pc L (.int l :: .int f :: .int v :: .ref 189 :: r) 202 gk_fT x y u :=
  g_callv w hd hp hc (as := [.ref 189, .int v, .int f, .int l]) rfl h8 rfl rfl rfl (Or.inr (Or.inl ⟨Or.inl rfl, _, _, rfl, (gk_kd_j rfl rfl), rfl⟩)) (Or.inl rfl) ⟨v, f, l, g, rfl, ⟨rfl, rfl⟩, hp0, hp1, kk0, kk1⟩
def L_X11_bestDirection : List (Nat × gk_M0) := [(52, (0, 10, 3, 0, S_X11_isBetween)), (64, (1, 10, 2, 0, S_X11_fail)), (184, (1, 10, 3, 0, S_X11_energyOf)), (200, (0, 10, 2, 0, S_X11_isWindow)), (265, (1, 10, 2, 0, S_X11_layDirectedBeam))]
def cs_X11_bestDirection : Nat → Option gk_M0 := gk_lk L_X11_bestDirection
theorem m_X11_bestDirection : ∀ (as : List Value) (n : Nat) (fl : gk_F) (x : gk_X) (y : gk_Y) (K : gk_K), S_X11_bestDirection as n fl x y K → (gk_L0 as).length ≤ 10 ∧ ∀ V : gk_V, gk_W cX11_bestDirection pX11 cs_X11_bestDirection (fun _ _ => none) (some .int) 0 none K V → V 0 (gk_en as 10) [] n fl x y 0 := by
  intro as n fl x y K hS
  obtain ⟨v, f, l, g, rfl, ⟨rfl, rfl⟩, hp0, hp1, q0, q1⟩ := hS
  refine ⟨Nat.le_of_ble_eq_true rfl, fun V w => ?_⟩
  show V 0 [some (.ref 189), some (.int v), some (.int f), some (.int l), none, none, none, none, none, none] [] 202 gk_fT x y 0
  obtain ⟨nv4, ns6, nm8, z6, z7, z8⟩ := wf_n hp1.1
  have w6 : 0 ≤ (g 6).toInt := by show 0 ≤ gz g 6; omega
  have w7 : 0 ≤ (g 7).toInt := by show 0 ≤ gz g 7; omega
  have w8 : 0 ≤ (g 8).toInt := by show 0 ≤ gz g 8; omega
  refine s_aload_n (pc2 := 1) w dX11_bestDirection_0 rfl rfl ?_
  refine s_iconst (pc2 := 2) (v := 0) w dX11_bestDirection_1 rfl rfl ?_
  refine m_putI (pc2 := 5) (ci := 10) (k := 4) w dX11_bestDirection_2 rfl rfl rfl rfl rfl (by intro h; cases h) ?_
  have f0 := MOk.ini (y := y) hp0
  generalize gk_up x 189 4 0 = x0 at f0 ⊢
  refine s_iload_n (pc2 := 6) w dX11_bestDirection_5 rfl rfl ?_
  refine s_iconst (pc2 := 7) (v := 1) w dX11_bestDirection_6 rfl rfl ?_
  refine s_bipush (pc2 := 9) (v := 100) w dX11_bestDirection_7 rfl rfl ?_
  refine r_X11_isBetween (pc2 := 12) w dX11_bestDirection_9 rfl rfl rfl ?_
  refine s_if_eq (pc2 := 15) (tgt := 23) w dX11_bestDirection_12 rfl (by decide) (fun c12 => ?_) (fun c12 => ?_)
  · refine s_aload_n (pc2 := 24) w dX11_bestDirection_23 rfl rfl ?_
    refine s_iconst (pc2 := 25) (v := 1) w dX11_bestDirection_24 rfl rfl ?_
    refine r_X11_fail (pc2 := 28) w dX11_bestDirection_25 rfl rfl rfl ?_
    refine s_ireturn w dX11_bestDirection_28 rfl rfl ?_
    rw [g_b0] at c12
    exact q1  (fun hc => c12 hc.1) _ _ (f0.fail 1)
  · rw [g_b0, Classical.not_not] at c12
    refine s_iload_n (pc2 := 16) w dX11_bestDirection_15 rfl rfl ?_
    refine s_iload_n (pc2 := 17) w dX11_bestDirection_16 rfl rfl ?_
    refine r_X11_isWindow (pc2 := 20) w dX11_bestDirection_17 rfl rfl rfl ?_
    refine s_if_ne (pc2 := 23) (tgt := 29) w dX11_bestDirection_20 rfl (by decide) (fun c20 => ?_) (fun c20 => ?_)
    · rw [g_b0, Classical.not_not] at c20
      obtain ⟨sn, rfl, sh1, sh2⟩ := ix_h c12
      obtain ⟨b, e, rfl, rfl, be, eh⟩ := ix_w c20
      rw [cN_n sn (by omega), cN_n b (by omega), cN_n e (by omega)] at q0
      refine s_iconst (pc2 := 30) (v := 0) w dX11_bestDirection_29 rfl rfl ?_
      refine s_istore (pc2 := 32) w dX11_bestDirection_30 rfl rfl ?_
      dsimp only [gk_s1, gk_s2, gk_cl]
      refine s_ldc2_w (pc2 := 35) (v := (-1)) w dX11_bestDirection_32 rfl rfl ?_
      refine s_lstore (pc2 := 37) w dX11_bestDirection_35 rfl rfl ?_
      dsimp only [gk_s1, gk_s2, gk_cl]
      refine s_bipush (pc2 := 39) (v := (-100)) w dX11_bestDirection_37 rfl rfl ?_
      refine s_istore (pc2 := 41) w dX11_bestDirection_39 rfl rfl ?_
      dsimp only [gk_s1, gk_s2, gk_cl]
      have key : ∀ (k n : Nat) (l8 l9 : Option Value) (xh : gk_X) (fh : MOk g 0 x xh y y), n + k = 200 / sn + 1 → V 41 [some (.ref 189), some (.int (nI sn)), some (.int (nI b)), some (.int (nI e)), some (.int (gk_mx (fun n => gL (gE (gD g (-100 + (n : Int) * ((sn : Nat) : Int))) b e)) (fun n => gI (-100 + (n : Int) * ((sn : Nat) : Int))) (0, -1) n).1), some (.long (gk_mx (fun n => gL (gE (gD g (-100 + (n : Int) * ((sn : Nat) : Int))) b e)) (fun n => gI (-100 + (n : Int) * ((sn : Nat) : Int))) (0, -1) n).2), none, some (.int (gI (-100 + (n : Int) * (sn : Int)))), l8, l9] [] 202 gk_fT xh y 0 := by
        intro k
        induction k with
        | zero =>
          intro n l8 l9 xh fh ht
          obtain rfl : n = 200 / sn + 1 := by omega
          have hk : 200 < (200 / sn + 1) * sn ∧ (200 / sn + 1) * sn ≤ 400 := by
            have h1 := Nat.div_add_mod 200 sn
            have h2 := Nat.mod_lt 200 (show sn > 0 by omega)
            rw [Nat.add_mul, Nat.mul_comm (200 / sn) sn]
            omega
          have hk2 : (((200 / sn + 1 : Nat) : Int)) * (sn : Int) = (((200 / sn + 1) * sn : Nat) : Int) := (Int.natCast_mul _ _).symm
          refine s_iload (pc2 := 43) w dX11_bestDirection_41 rfl rfl ?_
          refine s_bipush (pc2 := 45) (v := gI 100) w dX11_bestDirection_43 rfl rfl ?_
          refine s_ic_gt (pc2 := 48) (tgt := 87) w dX11_bestDirection_45 rfl (by decide) (fun _ => ?_) (fun h0 => absurd (by rw [gI_lt ⟨by omega, by omega⟩ ⟨by omega, by omega⟩]; omega) h0)
          refine s_iload (pc2 := 89) w dX11_bestDirection_87 rfl rfl ?_
          refine s_ireturn w dX11_bestDirection_89 rfl rfl ?_
          have e0 : (-1 : Int64) < (fun n => gL (gE (gD g (-100 + (n : Int) * ((sn : Nat) : Int))) b e)) 0 := gD_p hp1.1 hp1.2.1 _ eh
          rw [mx_s (E := (fun n => gL (gE (gD g (-100 + (n : Int) * ((sn : Nat) : Int))) b e))) (lb := (fun n => gI (-100 + (n : Int) * ((sn : Nat) : Int)))) (s := (0, -1)) (s2 := (-100, -1)) e0 e0]
          exact q0 ⟨c12, c20⟩ _ _ fh
        | succ k ih =>
          intro n l8 l9 xh fh ht
          have hk : n * sn ≤ 200 := (Nat.le_div_iff_mul_le (by omega)).mp (show n ≤ 200 / sn by omega)
          have hk2 : (n : Int) * (sn : Int) = ((n * sn : Nat) : Int) := (Int.natCast_mul _ _).symm
          refine s_iload (pc2 := 43) w dX11_bestDirection_41 rfl rfl ?_
          refine s_bipush (pc2 := 45) (v := gI 100) w dX11_bestDirection_43 rfl rfl ?_
          refine s_ic_gt (pc2 := 48) (tgt := 87) w dX11_bestDirection_45 rfl (by decide) (fun h0 => absurd h0 (by rw [gI_lt ⟨by omega, by omega⟩ ⟨by omega, by omega⟩]; omega)) (fun _ => ?_)
          refine s_aload_n (pc2 := 49) w dX11_bestDirection_48 rfl rfl ?_
          refine s_iload (pc2 := 51) w dX11_bestDirection_49 rfl rfl ?_
          refine r_X11_layDirectedBeam (pc2 := 54) w dX11_bestDirection_51 rfl rfl rfl fh.1 hp1.1 rfl (by omega) (fun x1 hx1 => ?_)
          have f1 : MOk g 0 x x1 y y := fh.ge (fun i k h => (hx1 i k (by omega)).trans (gk_ur_ne (by omega)))
          have hr : ∀ k, k < 256 → x1 196 k = gD g (-100 + (n : Int) * (sn : Int)) k := fun k hk => (hx1 196 k (by decide)).trans (gk_ur_in hk)
          refine s_aload_n (pc2 := 55) w dX11_bestDirection_54 rfl rfl ?_
          refine s_iload_n (pc2 := 56) w dX11_bestDirection_55 rfl rfl ?_
          refine s_iload_n (pc2 := 57) w dX11_bestDirection_56 rfl rfl ?_
          refine r_X11_energyOf (pc2 := 60) w dX11_bestDirection_57 rfl rfl rfl rfl rfl (by omega) eh ?_
          rw [row_eI hr (a := b) (b := e) eh]
          refine s_lstore (pc2 := 62) w dX11_bestDirection_60 rfl rfl ?_
          dsimp only [gk_s1, gk_s2, gk_cl]
          refine s_lload (pc2 := 64) w dX11_bestDirection_62 rfl rfl ?_
          refine s_lload (pc2 := 66) w dX11_bestDirection_64 rfl rfl ?_
          refine s_lcmp (pc2 := 67) w dX11_bestDirection_66 rfl ?_
          refine s_if_le (pc2 := 70) (tgt := 78) w dX11_bestDirection_67 rfl (by decide) (fun c67 => ?_) (fun c67 => ?_)
          · refine s_iload (pc2 := 80) w dX11_bestDirection_78 rfl rfl ?_
            refine s_iload_n (pc2 := 81) w dX11_bestDirection_80 rfl rfl ?_
            refine s_iadd (pc2 := 82) w dX11_bestDirection_81 rfl ?_
            rw [show gI (-100 + (n : Int) * (sn : Int)) + nI sn = gI (-100 + ((n + 1 : Nat) : Int) * (sn : Int)) by rw [gI_nI, gI_add, Int.natCast_succ, Int.add_mul, Int.one_mul]; exact congrArg gI (by omega)]
            refine s_istore (pc2 := 84) w dX11_bestDirection_82 rfl rfl ?_
            dsimp only [gk_s1, gk_s2, gk_cl]
            refine s_goto (tgt := 41) w dX11_bestDirection_84 (by decide) ?_
            have ih9 := ih (n + 1) (some (.long (gL (gE (gD g (-100 + (n : Int) * (sn : Int))) b e)))) none x1 f1 (by omega)
            rw [mx_f c67] at ih9
            exact ih9
          · refine s_iload (pc2 := 72) w dX11_bestDirection_70 rfl rfl ?_
            refine s_istore (pc2 := 74) w dX11_bestDirection_72 rfl rfl ?_
            dsimp only [gk_s1, gk_s2, gk_cl]
            refine s_lload (pc2 := 76) w dX11_bestDirection_74 rfl rfl ?_
            refine s_lstore (pc2 := 78) w dX11_bestDirection_76 rfl rfl ?_
            dsimp only [gk_s1, gk_s2, gk_cl]
            refine s_iload (pc2 := 80) w dX11_bestDirection_78 rfl rfl ?_
            refine s_iload_n (pc2 := 81) w dX11_bestDirection_80 rfl rfl ?_
            refine s_iadd (pc2 := 82) w dX11_bestDirection_81 rfl ?_
            rw [show gI (-100 + (n : Int) * (sn : Int)) + nI sn = gI (-100 + ((n + 1 : Nat) : Int) * (sn : Int)) by rw [gI_nI, gI_add, Int.natCast_succ, Int.add_mul, Int.one_mul]; exact congrArg gI (by omega)]
            refine s_istore (pc2 := 84) w dX11_bestDirection_82 rfl rfl ?_
            dsimp only [gk_s1, gk_s2, gk_cl]
            refine s_goto (tgt := 41) w dX11_bestDirection_84 (by decide) ?_
            have ih9 := ih (n + 1) (some (.long (gL (gE (gD g (-100 + (n : Int) * (sn : Int))) b e)))) none x1 f1 (by omega)
            rw [mx_t c67] at ih9
            exact ih9
      have h := key (200 / sn + 1) 0 none none x0 f0 (by omega)
      rw [show -100 + ((0 : Nat) : Int) * (sn : Int) = -100 by omega] at h
      exact h
    · refine s_aload_n (pc2 := 24) w dX11_bestDirection_23 rfl rfl ?_
      refine s_iconst (pc2 := 25) (v := gI 1) w dX11_bestDirection_24 rfl rfl ?_
      refine r_X11_fail (pc2 := 28) w dX11_bestDirection_25 rfl rfl rfl ?_
      refine s_ireturn w dX11_bestDirection_28 rfl rfl ?_
      rw [g_b0] at c20
      exact q1  (fun hc => c20 hc.2) _ _ (f0.fail 1)
theorem lk_X11_bestDirection {l : Launch} (hl : l.stackTraces = false) : ∀ q ∈ L_X11_bestDirection, (q.2.1 < 5 → gk_Lk l RX11 gk_W1 5 q.1 q.2.1 q.2.2.1 q.2.2.2.1 q.2.2.2.2.1 q.2.2.2.2.2) := (List.forall_mem_cons.mpr ⟨(fun _ => ⟨yX11_isBetween, cX11_isBetween, 3, (some .boolean), 0, _, M_X11_isBetween hl, ⟨by decide, by decide⟩, ⟨by decide, by decide, by decide +kernel⟩, ⟨(gk_wm 1334 (by decide +kernel)), (gk_wm 99 (by decide +kernel))⟩, Or.inl ⟨rfl, rfl, (gk_wm 1333 (by decide +kernel)), gk_wm 1332 (by decide +kernel)⟩⟩), (List.forall_mem_cons.mpr ⟨(fun _ => ⟨yX11_fail, cX11_fail, 2, (some .int), 0, _, M_X11_fail hl, ⟨by decide, by decide⟩, ⟨by decide, by decide, by decide +kernel⟩, ⟨(gk_wm 1342 (by decide +kernel)), (gk_wm 99 (by decide +kernel))⟩, Or.inr (Or.inr (Or.inr (Or.inl ⟨rfl, rfl, (gk_wm 1341 (by decide +kernel)), (gk_wm 32 (by decide +kernel)), gk_wm 1339 (by decide +kernel), by decide, rfl⟩)))⟩), (List.forall_mem_cons.mpr ⟨(fun _ => ⟨yX11_energyOf, cX11_energyOf, 6, (some .long), 0, _, M_X11_energyOf hl, ⟨by decide, by decide⟩, ⟨by decide, by decide, by decide +kernel⟩, ⟨(gk_wm 1537 (by decide +kernel)), (gk_wm 99 (by decide +kernel))⟩, Or.inr (Or.inr (Or.inr (Or.inl ⟨rfl, rfl, (gk_wm 1536 (by decide +kernel)), (gk_wm 57 (by decide +kernel)), gk_wm 1534 (by decide +kernel), by decide, rfl⟩)))⟩), (List.forall_mem_cons.mpr ⟨(fun _ => ⟨yX11_isWindow, cX11_isWindow, 2, (some .boolean), 2, _, M_X11_isWindow hl, ⟨by decide, by decide⟩, ⟨by decide, by decide, by decide +kernel⟩, ⟨(gk_wm 1525 (by decide +kernel)), (gk_wm 99 (by decide +kernel))⟩, Or.inl ⟨rfl, rfl, (gk_wm 1524 (by decide +kernel)), gk_wm 1523 (by decide +kernel)⟩⟩), (List.forall_mem_cons.mpr ⟨(fun _ => ⟨yX11_layDirectedBeam, cX11_layDirectedBeam, 3, none, 4, _, M_X11_layDirectedBeam hl, ⟨by decide, by decide⟩, ⟨by decide, by decide, by decide +kernel⟩, ⟨(gk_wm 1691 (by decide +kernel)), (gk_wm 99 (by decide +kernel))⟩, Or.inr (Or.inr (Or.inr (Or.inl ⟨rfl, rfl, (gk_wm 1690 (by decide +kernel)), (gk_wm 75 (by decide +kernel)), gk_wm 1688 (by decide +kernel), by decide, rfl⟩)))⟩), (fun _ h => absurd h List.not_mem_nil)⟩)⟩)⟩)⟩)⟩)
theorem sp_X11_bestDirection : ∀ q ∈ L_X11_bestDirection, gk_Sq RX11 gk_W1 5 q := (List.forall_mem_cons.mpr ⟨⟨fun h => absurd h (by decide), fun h => absurd h (by decide), fun h => absurd h (by decide), fun h => absurd h (by decide), fun h => absurd h (by decide), fun h => absurd h (by decide)⟩, (List.forall_mem_cons.mpr ⟨⟨fun h => absurd h (by decide), fun h => absurd h (by decide), fun h => absurd h (by decide), fun h => absurd h (by decide), fun h => absurd h (by decide), fun h => absurd h (by decide)⟩, (List.forall_mem_cons.mpr ⟨⟨fun h => absurd h (by decide), fun h => absurd h (by decide), fun h => absurd h (by decide), fun h => absurd h (by decide), fun h => absurd h (by decide), fun h => absurd h (by decide)⟩, (List.forall_mem_cons.mpr ⟨⟨fun h => absurd h (by decide), fun h => absurd h (by decide), fun h => absurd h (by decide), fun h => absurd h (by decide), fun h => absurd h (by decide), fun h => absurd h (by decide)⟩, (List.forall_mem_cons.mpr ⟨⟨fun h => absurd h (by decide), fun h => absurd h (by decide), fun h => absurd h (by decide), fun h => absurd h (by decide), fun h => absurd h (by decide), fun h => absurd h (by decide)⟩, (fun _ h => absurd h List.not_mem_nil)⟩)⟩)⟩)⟩)⟩)
theorem M_X11_bestDirection {l : Launch} (hl : l.stackTraces = false) : gk_Mt l yX11_bestDirection (.code yX11_bestDirection cX11_bestDirection 10 (some .int) :: gk_W1) 5 0 S_X11_bestDirection := gk_meth hl gk_cw_ok (by decide +kernel) rfl m_X11_bestDirection pX11_ok (gk_Sp_of sp_X11_bestDirection) pX11_st (fun ci m S h => absurd h (by intro h; cases h)) (xf_X11 5) (fun idx kd ci mm cost S2 h h5 => lk_X11_bestDirection hl _ (gk_lk_mem h) h5)

def S_X11_bestPeriod : gk_S := fun as n fl x y K => ∃ (v : Int32) (f : Int32) (l : Int32) (g : Nat → Int32), as = [.ref 189, .int v, .int f, .int l] ∧ (n = 202 ∧ fl = gk_fT) ∧ (MG g x) ∧ (gOK g) ∧ (((1 ≤ v ∧ v ≤ 64) ∧ (0 ≤ f ∧ f ≤ l ∧ l ≤ 255)) → ∀ (x2 : gk_X) (y2 : gk_Y), MOk g 0 x x2 y y2 → K (.inl (some (.int ((gk_mx (fun n => gS (gB g 0) (cN f) (cN l) (n + 1)) (fun n => nI (n + 1)) (1, -1) (cN v)).1)))) n fl x2 y2) ∧ (¬ ((1 ≤ v ∧ v ≤ 64) ∧ (0 ≤ f ∧ f ≤ l ∧ l ≤ 255)) → ∀ (x2 : gk_X) (y2 : gk_Y), MOk g 1 x x2 y y2 → K (.inl (some (.int 0))) n fl x2 y2)
theorem r_X11_bestPeriod (w : gk_W c P cs (fun _ _ => none) rt uf sc K V) {idx : Nat} {v : Int32} {f : Int32} {l : Int32} {g : Nat → Int32} (hd : decode c pc = .ok (.invokevirtual idx, 3)) (hp : pc + 3 = pc2) (hc : cs idx = some (1, 10, 4, 0, S_X11_bestPeriod)) (h8 : Nat.ble (r.map Value.category).sum 8 = true) (hp0 : MG g x) (hp1 : gOK g) (kk0 : ((1 ≤ v ∧ v ≤ 64) ∧ (0 ≤ f ∧ f ≤ l ∧ l ≤ 255)) → ∀ (x2 : gk_X) (y2 : gk_Y), MOk g 0 x x2 y y2 → V pc2 L ((.int ((gk_mx (fun n => gS (gB g 0) (cN f) (cN l) (n + 1)) (fun n => nI (n + 1)) (1, -1) (cN v)).1)) :: r) 202 gk_fT x2 y2 u) (kk1 : ¬ ((1 ≤ v ∧ v ≤ 64) ∧ (0 ≤ f ∧ f ≤ l ∧ l ≤ 255)) → ∀ (x2 : gk_X) (y2 : gk_Y), MOk g 1 x x2 y y2 → V pc2 L ((.int 0) :: r) 202 gk_fT x2 y2 u) : V pc L (.int l :: .int f :: .int v :: .ref 189 :: r) 202 gk_fT x y u :=
  g_callv w hd hp hc (as := [.ref 189, .int v, .int f, .int l]) rfl h8 rfl rfl rfl (Or.inr (Or.inl ⟨Or.inl rfl, _, _, rfl, (gk_kd_j rfl rfl), rfl⟩)) (Or.inl rfl) ⟨v, f, l, g, rfl, ⟨rfl, rfl⟩, hp0, hp1, kk0, kk1⟩
def L_X11_bestPeriod : List (Nat × gk_M0) := [(64, (1, 10, 2, 0, S_X11_fail)), (200, (0, 10, 2, 0, S_X11_isWindow)), (250, (1, 10, 2, 0, S_X11_layBeam)), (256, (0, 10, 1, 0, S_X11_isPeriod)), (259, (1, 10, 4, 0, S_X11_strengthOf))]
def cs_X11_bestPeriod : Nat → Option gk_M0 := gk_lk L_X11_bestPeriod
theorem m_X11_bestPeriod : ∀ (as : List Value) (n : Nat) (fl : gk_F) (x : gk_X) (y : gk_Y) (K : gk_K), S_X11_bestPeriod as n fl x y K → (gk_L0 as).length ≤ 6 ∧ ∀ V : gk_V, gk_W cX11_bestPeriod pX11 cs_X11_bestPeriod (fun _ _ => none) (some .int) 0 none K V → V 0 (gk_en as 6) [] n fl x y 0 := by
  intro as n fl x y K hS
  obtain ⟨v, f, l, g, rfl, ⟨rfl, rfl⟩, hp0, hp1, q0, q1⟩ := hS
  refine ⟨Nat.le_of_ble_eq_true rfl, fun V w => ?_⟩
  show V 0 [some (.ref 189), some (.int v), some (.int f), some (.int l), none, none] [] 202 gk_fT x y 0
  obtain ⟨nv4, ns6, nm8, z6, z7, z8⟩ := wf_n hp1.1
  have w6 : 0 ≤ (g 6).toInt := by show 0 ≤ gz g 6; omega
  have w7 : 0 ≤ (g 7).toInt := by show 0 ≤ gz g 7; omega
  have w8 : 0 ≤ (g 8).toInt := by show 0 ≤ gz g 8; omega
  refine s_aload_n (pc2 := 1) w dX11_bestPeriod_0 rfl rfl ?_
  refine s_iconst (pc2 := 2) (v := 0) w dX11_bestPeriod_1 rfl rfl ?_
  refine m_putI (pc2 := 5) (ci := 10) (k := 4) w dX11_bestPeriod_2 rfl rfl rfl rfl rfl (by intro h; cases h) ?_
  have f0 := MOk.ini (y := y) hp0
  generalize gk_up x 189 4 0 = x0 at f0 ⊢
  refine s_iload_n (pc2 := 6) w dX11_bestPeriod_5 rfl rfl ?_
  refine r_X11_isPeriod (pc2 := 9) w dX11_bestPeriod_6 rfl rfl rfl ?_
  refine s_if_eq (pc2 := 12) (tgt := 20) w dX11_bestPeriod_9 rfl (by decide) (fun c9 => ?_) (fun c9 => ?_)
  · refine s_aload_n (pc2 := 21) w dX11_bestPeriod_20 rfl rfl ?_
    refine s_iconst (pc2 := 22) (v := 1) w dX11_bestPeriod_21 rfl rfl ?_
    refine r_X11_fail (pc2 := 25) w dX11_bestPeriod_22 rfl rfl rfl ?_
    refine s_ireturn w dX11_bestPeriod_25 rfl rfl ?_
    rw [g_b0] at c9
    exact q1  (fun hc => c9 hc.1) _ _ (f0.fail 1)
  · rw [g_b0, Classical.not_not] at c9
    refine s_iload_n (pc2 := 13) w dX11_bestPeriod_12 rfl rfl ?_
    refine s_iload_n (pc2 := 14) w dX11_bestPeriod_13 rfl rfl ?_
    refine r_X11_isWindow (pc2 := 17) w dX11_bestPeriod_14 rfl rfl rfl ?_
    refine s_if_ne (pc2 := 20) (tgt := 26) w dX11_bestPeriod_17 rfl (by decide) (fun c17 => ?_) (fun c17 => ?_)
    · rw [g_b0, Classical.not_not] at c17
      obtain ⟨p, rfl, ph1, ph2⟩ := ix_p c9
      obtain ⟨b, e, rfl, rfl, beh, eh⟩ := ix_w c17
      rw [cN_n p (by omega), cN_n b (by omega), cN_n e (by omega)] at q0
      refine s_aload_n (pc2 := 27) w dX11_bestPeriod_26 rfl rfl ?_
      refine s_iconst (pc2 := 28) (v := 0) w dX11_bestPeriod_27 rfl rfl ?_
      refine r_X11_layBeam (pc2 := 31) (B := 0) w dX11_bestPeriod_28 rfl rfl rfl f0.1 hp1.1 hp1.2.1 rfl (by omega) (fun x1 hx1 => ?_)
      have f1 : MOk g 0 x x1 y y := f0.ge (fun i k h => (hx1 i k (by omega) (by omega) (by omega)).trans (gk_ur_ne (by omega)))
      have hr : ∀ k, k < 256 → x1 196 k = gB g 0 k := fun k hk => (hx1 196 k (by decide) (by decide) (by decide)).trans (gk_ur_in hk)
      refine s_iconst (pc2 := 32) (v := 1) w dX11_bestPeriod_31 rfl rfl ?_
      refine s_istore (pc2 := 34) w dX11_bestPeriod_32 rfl rfl ?_
      dsimp only [gk_s1, gk_s2, gk_cl]
      refine s_iconst (pc2 := 35) (v := 2) w dX11_bestPeriod_34 rfl rfl ?_
      refine s_istore (pc2 := 37) w dX11_bestPeriod_35 rfl rfl ?_
      dsimp only [gk_s1, gk_s2, gk_cl]
      have key : ∀ (k n : Nat) (be : Int32) (yh : gk_Y) (fh : MOk g 0 x x1 y yh), n + k = p → (∃ q : Nat, 1 ≤ q ∧ q ≤ 64 ∧ be = nI q ∧ (gk_mx (fun n => gS (gB g 0) b e (n + 1)) (fun n => nI (n + 1)) (1, -1) (n)) = (nI q, gS (gB g 0) b e q)) → V 37 [some (.ref 189), some (.int (nI p)), some (.int (nI b)), some (.int (nI e)), some (.int be), some (.int (nI (n + 1)))] [] 202 gk_fT x1 yh 0 := by
        intro k
        induction k with
        | zero =>
          intro n be yh fh ht hi -- ht
          have hnp : n = p := by omega
          subst hnp
          refine s_iload (pc2 := 39) w dX11_bestPeriod_37 rfl rfl ?_
          refine s_iload_n (pc2 := 40) w dX11_bestPeriod_39 rfl rfl ?_
          refine s_ic_gt (pc2 := 43) (tgt := 78) w dX11_bestPeriod_40 rfl (by decide) (fun _ => ?_) (fun h0 => absurd (by rw [gI_nI, gI_nI, gI_lt ⟨by omega, by omega⟩ ⟨by omega, by omega⟩]; omega) h0)
          refine s_iload (pc2 := 80) w dX11_bestPeriod_78 rfl rfl ?_
          refine s_ireturn w dX11_bestPeriod_80 rfl rfl ?_
          obtain ⟨q, q1, q2, rfl, q4⟩ := hi
          rw [q4] at q0
          exact q0 ⟨c9, c17⟩ _ _ fh
        | succ k ih =>
          intro n be yh fh ht hi -- ht
          obtain ⟨q, q1, q2, rfl, q4⟩ := hi
          refine s_iload (pc2 := 39) w dX11_bestPeriod_37 rfl rfl ?_
          refine s_iload_n (pc2 := 40) w dX11_bestPeriod_39 rfl rfl ?_
          refine s_ic_gt (pc2 := 43) (tgt := 78) w dX11_bestPeriod_40 rfl (by decide) (fun h0 => absurd h0 (by rw [gI_nI, gI_nI, gI_lt ⟨by omega, by omega⟩ ⟨by omega, by omega⟩]; omega)) (fun _ => ?_)
          refine s_aload_n (pc2 := 44) w dX11_bestPeriod_43 rfl rfl ?_
          refine s_iload (pc2 := 46) w dX11_bestPeriod_44 rfl rfl ?_
          refine s_iload_n (pc2 := 47) w dX11_bestPeriod_46 rfl rfl ?_
          refine s_iload_n (pc2 := 48) w dX11_bestPeriod_47 rfl rfl ?_
          refine r_X11_strengthOf (pc2 := 51) w dX11_bestPeriod_48 rfl rfl rfl rfl ⟨by omega, by omega⟩ rfl rfl beh eh ?_
          refine s_aload_n (pc2 := 52) w dX11_bestPeriod_51 rfl rfl ?_
          refine s_iload (pc2 := 54) w dX11_bestPeriod_52 rfl rfl ?_
          refine s_iload_n (pc2 := 55) w dX11_bestPeriod_54 rfl rfl ?_
          refine s_iload_n (pc2 := 56) w dX11_bestPeriod_55 rfl rfl ?_
          refine r_X11_strengthOf (pc2 := 59) w dX11_bestPeriod_56 rfl rfl rfl rfl ⟨by omega, by omega⟩ rfl rfl beh eh ?_
          refine s_lcmp (pc2 := 60) w dX11_bestPeriod_59 rfl ?_
          refine s_if_le (pc2 := 63) (tgt := 68) w dX11_bestPeriod_60 rfl (by decide) (fun c60 => ?_) (fun c60 => ?_)
          · refine s_iload (pc2 := 70) w dX11_bestPeriod_68 rfl rfl ?_
            refine s_istore (pc2 := 72) w dX11_bestPeriod_70 rfl rfl ?_
            dsimp only [gk_s1, gk_s2, gk_cl]
            refine s_iinc (pc2 := 75) w dX11_bestPeriod_72 rfl rfl rfl rfl ?_
            dsimp only [gk_s1, gk_s2, gk_cl]
            rw [nI_s]
            refine s_goto (tgt := 37) w dX11_bestPeriod_75 (by decide) ?_
            rw [row_pw hr eh, row_pw hr eh] at c60
            have ep := mx_f (E := fun n => gS (gB g 0) b e (n + 1)) (lb := fun n => nI (n + 1)) (s := (1, -1)) (n := n) (by rw [q4]; exact c60)
            exact ih (n + 1) _ _ ((fh.yr (fun i k h => if_neg (fun h2 => h h2.1))).yr (fun i k h => if_neg (fun h2 => h h2.1))) (by omega) ⟨q, q1, q2, rfl, by rw [ep]; exact q4⟩
          · refine s_iload (pc2 := 65) w dX11_bestPeriod_63 rfl rfl ?_
            refine s_goto (tgt := 70) w dX11_bestPeriod_65 (by decide) ?_
            refine s_istore (pc2 := 72) w dX11_bestPeriod_70 rfl rfl ?_
            dsimp only [gk_s1, gk_s2, gk_cl]
            refine s_iinc (pc2 := 75) w dX11_bestPeriod_72 rfl rfl rfl rfl ?_
            dsimp only [gk_s1, gk_s2, gk_cl]
            rw [nI_s]
            refine s_goto (tgt := 37) w dX11_bestPeriod_75 (by decide) ?_
            rw [row_pw hr eh, row_pw hr eh] at c60
            have ep := mx_t (E := fun n => gS (gB g 0) b e (n + 1)) (lb := fun n => nI (n + 1)) (s := (1, -1)) (n := n) (by rw [q4]; exact c60)
            exact ih (n + 1) _ _ ((fh.yr (fun i k h => if_neg (fun h2 => h h2.1))).yr (fun i k h => if_neg (fun h2 => h h2.1))) (by omega) ⟨n + 1, by omega, by omega, rfl, by rw [ep]⟩
      exact key (p - 1) 1 (nI 1) y f1 (by omega) ⟨1, by decide, by decide, rfl, mx_1 (gS_p (fun k hk => gB_b hp1.1 hp1.2.1 (by omega) hk) beh eh)⟩
    · refine s_aload_n (pc2 := 21) w dX11_bestPeriod_20 rfl rfl ?_
      refine s_iconst (pc2 := 22) (v := gI 1) w dX11_bestPeriod_21 rfl rfl ?_
      refine r_X11_fail (pc2 := 25) w dX11_bestPeriod_22 rfl rfl rfl ?_
      refine s_ireturn w dX11_bestPeriod_25 rfl rfl ?_
      rw [g_b0] at c17
      exact q1  (fun hc => c17 hc.2) _ _ (f0.fail 1)
theorem lk_X11_bestPeriod {l : Launch} (hl : l.stackTraces = false) : ∀ q ∈ L_X11_bestPeriod, (q.2.1 < 5 → gk_Lk l RX11 gk_W1 6 q.1 q.2.1 q.2.2.1 q.2.2.2.1 q.2.2.2.2.1 q.2.2.2.2.2) := (List.forall_mem_cons.mpr ⟨(fun _ => ⟨yX11_fail, cX11_fail, 2, (some .int), 0, _, M_X11_fail hl, ⟨by decide, by decide⟩, ⟨by decide, by decide, by decide +kernel⟩, ⟨(gk_wm 1342 (by decide +kernel)), (gk_wm 99 (by decide +kernel))⟩, Or.inr (Or.inr (Or.inr (Or.inl ⟨rfl, rfl, (gk_wm 1341 (by decide +kernel)), (gk_wm 32 (by decide +kernel)), gk_wm 1339 (by decide +kernel), by decide, rfl⟩)))⟩), (List.forall_mem_cons.mpr ⟨(fun _ => ⟨yX11_isWindow, cX11_isWindow, 2, (some .boolean), 2, _, M_X11_isWindow hl, ⟨by decide, by decide⟩, ⟨by decide, by decide, by decide +kernel⟩, ⟨(gk_wm 1525 (by decide +kernel)), (gk_wm 99 (by decide +kernel))⟩, Or.inl ⟨rfl, rfl, (gk_wm 1524 (by decide +kernel)), gk_wm 1523 (by decide +kernel)⟩⟩), (List.forall_mem_cons.mpr ⟨(fun _ => ⟨yX11_layBeam, cX11_layBeam, 3, none, 5, _, M_X11_layBeam hl, ⟨by decide, by decide⟩, ⟨by decide, by decide, by decide +kernel⟩, ⟨(gk_wm 1640 (by decide +kernel)), (gk_wm 99 (by decide +kernel))⟩, Or.inr (Or.inr (Or.inr (Or.inl ⟨rfl, rfl, (gk_wm 1639 (by decide +kernel)), (gk_wm 69 (by decide +kernel)), gk_wm 1637 (by decide +kernel), by decide, rfl⟩)))⟩), (List.forall_mem_cons.mpr ⟨(fun _ => ⟨yX11_isPeriod, cX11_isPeriod, 1, (some .boolean), 1, _, M_X11_isPeriod hl, ⟨by decide, by decide⟩, ⟨by decide, by decide, by decide +kernel⟩, ⟨(gk_wm 1659 (by decide +kernel)), (gk_wm 99 (by decide +kernel))⟩, Or.inl ⟨rfl, rfl, (gk_wm 1658 (by decide +kernel)), gk_wm 1657 (by decide +kernel)⟩⟩), (List.forall_mem_cons.mpr ⟨(fun _ => ⟨yX11_strengthOf, cX11_strengthOf, 4, (some .long), 1, _, M_X11_strengthOf hl, ⟨by decide, by decide⟩, ⟨by decide, by decide, by decide +kernel⟩, ⟨(gk_wm 1671 (by decide +kernel)), (gk_wm 99 (by decide +kernel))⟩, Or.inr (Or.inr (Or.inr (Or.inl ⟨rfl, rfl, (gk_wm 1670 (by decide +kernel)), (gk_wm 73 (by decide +kernel)), gk_wm 1668 (by decide +kernel), by decide, rfl⟩)))⟩), (fun _ h => absurd h List.not_mem_nil)⟩)⟩)⟩)⟩)⟩)
theorem sp_X11_bestPeriod : ∀ q ∈ L_X11_bestPeriod, gk_Sq RX11 gk_W1 6 q := (List.forall_mem_cons.mpr ⟨⟨fun h => absurd h (by decide), fun h => absurd h (by decide), fun h => absurd h (by decide), fun h => absurd h (by decide), fun h => absurd h (by decide), fun h => absurd h (by decide)⟩, (List.forall_mem_cons.mpr ⟨⟨fun h => absurd h (by decide), fun h => absurd h (by decide), fun h => absurd h (by decide), fun h => absurd h (by decide), fun h => absurd h (by decide), fun h => absurd h (by decide)⟩, (List.forall_mem_cons.mpr ⟨⟨fun h => absurd h (by decide), fun h => absurd h (by decide), fun h => absurd h (by decide), fun h => absurd h (by decide), fun h => absurd h (by decide), fun h => absurd h (by decide)⟩, (List.forall_mem_cons.mpr ⟨⟨fun h => absurd h (by decide), fun h => absurd h (by decide), fun h => absurd h (by decide), fun h => absurd h (by decide), fun h => absurd h (by decide), fun h => absurd h (by decide)⟩, (List.forall_mem_cons.mpr ⟨⟨fun h => absurd h (by decide), fun h => absurd h (by decide), fun h => absurd h (by decide), fun h => absurd h (by decide), fun h => absurd h (by decide), fun h => absurd h (by decide)⟩, (fun _ h => absurd h List.not_mem_nil)⟩)⟩)⟩)⟩)⟩)
theorem M_X11_bestPeriod {l : Launch} (hl : l.stackTraces = false) : gk_Mt l yX11_bestPeriod (.code yX11_bestPeriod cX11_bestPeriod 6 (some .int) :: gk_W1) 6 0 S_X11_bestPeriod := gk_meth hl gk_cw_ok (by decide +kernel) rfl m_X11_bestPeriod pX11_ok (gk_Sp_of sp_X11_bestPeriod) pX11_st (fun ci m S h => absurd h (by intro h; cases h)) (xf_X11 6) (fun idx kd ci mm cost S2 h h5 => lk_X11_bestPeriod hl _ (gk_lk_mem h) h5)

def S_X11_bestLag : gk_S := fun as n fl x y K => ∃ (m : Int32) (o : Int32) (v : Int32) (g : Nat → Int32), as = [.ref 189, .int m, .int o, .int v] ∧ (n = 202 ∧ fl = gk_fT) ∧ (MG g x) ∧ (gOK g) ∧ (((0 ≤ m ∧ m < g 8) ∧ (0 ≤ o ∧ o < g 8)) → (0 ≤ v ∧ v ≤ 255) → ∀ (x2 : gk_X) (y2 : gk_Y), MOk g 0 x x2 y y2 → K (.inl (some (.int ((gk_mx (fun n => gL (gk_cv (gC g (cN m)) (gC g (cN o)) (gI (ow (n + 1))) 256)) (fun n => gI (ow (n + 1))) (0, LMIN) (2 * cN v + 1)).1)))) n fl x2 y2) ∧ (¬ ((0 ≤ m ∧ m < g 8) ∧ (0 ≤ o ∧ o < g 8)) → ∀ (x2 : gk_X) (y2 : gk_Y), MOk g 1 x x2 y y2 → K (.inl (some (.int 0))) n fl x2 y2) ∧ (((0 ≤ m ∧ m < g 8) ∧ (0 ≤ o ∧ o < g 8)) → ¬ (0 ≤ v ∧ v ≤ 255) → ∀ (x2 : gk_X) (y2 : gk_Y), MOk g 2 x x2 y y2 → K (.inl (some (.int 0))) n fl x2 y2)
theorem r_X11_bestLag (w : gk_W c P cs (fun _ _ => none) rt uf sc K V) {idx : Nat} {m : Int32} {o : Int32} {v : Int32} {g : Nat → Int32} (hd : decode c pc = .ok (.invokevirtual idx, 3)) (hp : pc + 3 = pc2) (hc : cs idx = some (1, 10, 4, 0, S_X11_bestLag)) (h8 : Nat.ble (r.map Value.category).sum 8 = true) (hp0 : MG g x) (hp1 : gOK g) (kk0 : ((0 ≤ m ∧ m < g 8) ∧ (0 ≤ o ∧ o < g 8)) → (0 ≤ v ∧ v ≤ 255) → ∀ (x2 : gk_X) (y2 : gk_Y), MOk g 0 x x2 y y2 → V pc2 L ((.int ((gk_mx (fun n => gL (gk_cv (gC g (cN m)) (gC g (cN o)) (gI (ow (n + 1))) 256)) (fun n => gI (ow (n + 1))) (0, LMIN) (2 * cN v + 1)).1)) :: r) 202 gk_fT x2 y2 u) (kk1 : ¬ ((0 ≤ m ∧ m < g 8) ∧ (0 ≤ o ∧ o < g 8)) → ∀ (x2 : gk_X) (y2 : gk_Y), MOk g 1 x x2 y y2 → V pc2 L ((.int 0) :: r) 202 gk_fT x2 y2 u) (kk2 : ((0 ≤ m ∧ m < g 8) ∧ (0 ≤ o ∧ o < g 8)) → ¬ (0 ≤ v ∧ v ≤ 255) → ∀ (x2 : gk_X) (y2 : gk_Y), MOk g 2 x x2 y y2 → V pc2 L ((.int 0) :: r) 202 gk_fT x2 y2 u) : V pc L (.int v :: .int o :: .int m :: .ref 189 :: r) 202 gk_fT x y u :=
  g_callv w hd hp hc (as := [.ref 189, .int m, .int o, .int v]) rfl h8 rfl rfl rfl (Or.inr (Or.inl ⟨Or.inl rfl, _, _, rfl, (gk_kd_j rfl rfl), rfl⟩)) (Or.inl rfl) ⟨m, o, v, g, rfl, ⟨rfl, rfl⟩, hp0, hp1, kk0, kk1, kk2⟩
def L_X11_bestLag : List (Nat × gk_M0) := [(56, (0, 10, 1, 0, S_X11_isTime)), (64, (1, 10, 2, 0, S_X11_fail)), (106, (1, 10, 2, 0, S_X11_isMicrophone)), (213, (1, 10, 4, 0, S_X11_correlationOf))]
def cs_X11_bestLag : Nat → Option gk_M0 := gk_lk L_X11_bestLag
theorem m_X11_bestLag : ∀ (as : List Value) (n : Nat) (fl : gk_F) (x : gk_X) (y : gk_Y) (K : gk_K), S_X11_bestLag as n fl x y K → (gk_L0 as).length ≤ 11 ∧ ∀ V : gk_V, gk_W cX11_bestLag pX11 cs_X11_bestLag (fun _ _ => none) (some .int) 0 none K V → V 0 (gk_en as 11) [] n fl x y 0 := by
  intro as n fl x y K hS
  obtain ⟨m, o, v, g, rfl, ⟨rfl, rfl⟩, hp0, hp1, q0, q1, q2⟩ := hS
  refine ⟨Nat.le_of_ble_eq_true rfl, fun V w => ?_⟩
  show V 0 [some (.ref 189), some (.int m), some (.int o), some (.int v), none, none, none, none, none, none, none] [] 202 gk_fT x y 0
  obtain ⟨nv4, ns6, nm8, z6, z7, z8⟩ := wf_n hp1.1
  have w6 : 0 ≤ (g 6).toInt := by show 0 ≤ gz g 6; omega
  have w7 : 0 ≤ (g 7).toInt := by show 0 ≤ gz g 7; omega
  have w8 : 0 ≤ (g 8).toInt := by show 0 ≤ gz g 8; omega
  refine s_aload_n (pc2 := 1) w dX11_bestLag_0 rfl rfl ?_
  refine s_iconst (pc2 := 2) (v := 0) w dX11_bestLag_1 rfl rfl ?_
  refine m_putI (pc2 := 5) (ci := 10) (k := 4) w dX11_bestLag_2 rfl rfl rfl rfl rfl (by intro h; cases h) ?_
  have f0 := MOk.ini (y := y) hp0
  generalize gk_up x 189 4 0 = x0 at f0 ⊢
  refine s_aload_n (pc2 := 6) w dX11_bestLag_5 rfl rfl ?_
  refine s_iload_n (pc2 := 7) w dX11_bestLag_6 rfl rfl ?_
  refine r_X11_isMicrophone (pc2 := 10) w dX11_bestLag_7 rfl rfl rfl ?_
  rw [f0.1 8 (by decide), isn_e w8]
  refine s_if_eq (pc2 := 13) (tgt := 21) w dX11_bestLag_10 rfl (by decide) (fun c10 => ?_) (fun c10 => ?_)
  · refine s_aload_n (pc2 := 22) w dX11_bestLag_21 rfl rfl ?_
    refine s_iconst (pc2 := 23) (v := 1) w dX11_bestLag_22 rfl rfl ?_
    refine r_X11_fail (pc2 := 26) w dX11_bestLag_23 rfl rfl rfl ?_
    refine s_ireturn w dX11_bestLag_26 rfl rfl ?_
    rw [g_b0] at c10
    exact q1  (fun hc => c10 hc.1) _ _ (f0.fail 1)
  · rw [g_b0, Classical.not_not] at c10
    refine s_aload_n (pc2 := 14) w dX11_bestLag_13 rfl rfl ?_
    refine s_iload_n (pc2 := 15) w dX11_bestLag_14 rfl rfl ?_
    refine r_X11_isMicrophone (pc2 := 18) w dX11_bestLag_15 rfl rfl rfl ?_
    rw [f0.1 8 (by decide), isn_e w8]
    refine s_if_ne (pc2 := 21) (tgt := 27) w dX11_bestLag_18 rfl (by decide) (fun c18 => ?_) (fun c18 => ?_)
    · rw [g_b0, Classical.not_not] at c18
      refine s_iload_n (pc2 := 28) w dX11_bestLag_27 rfl rfl ?_
      refine r_X11_isTime (pc2 := 31) w dX11_bestLag_28 rfl rfl rfl ?_
      refine s_if_ne (pc2 := 34) (tgt := 40) w dX11_bestLag_31 rfl (by decide) (fun c31 => ?_) (fun c31 => ?_)
      · rw [g_b0, Classical.not_not] at c31
        obtain ⟨a, rfl, ah⟩ := ix_n c10
        have ah : a < nM g := ah
        obtain ⟨b, rfl, bh⟩ := ix_n c18
        have bh : b < nM g := bh
        obtain ⟨gn, rfl, gnh⟩ := ix_t c31
        rw [cN_n a (by omega), cN_n b (by omega), cN_n gn (by omega)] at q0
        refine s_iconst (pc2 := 41) (v := 0) w dX11_bestLag_40 rfl rfl ?_
        refine s_istore (pc2 := 43) w dX11_bestLag_41 rfl rfl ?_
        dsimp only [gk_s1, gk_s2, gk_cl]
        refine s_aload_n (pc2 := 44) w dX11_bestLag_43 rfl rfl ?_
        refine s_iload_n (pc2 := 45) w dX11_bestLag_44 rfl rfl ?_
        refine s_iload_n (pc2 := 46) w dX11_bestLag_45 rfl rfl ?_
        refine s_iconst (pc2 := 47) (v := 0) w dX11_bestLag_46 rfl rfl ?_
        refine r_X11_correlationOf (pc2 := 50) w dX11_bestLag_47 rfl rfl rfl rfl (by omega) rfl (by omega) ?_
        rw [cv_cg (r2 := gC g a) (s2 := gC g b) (fun k hk => f0.1 _ (by omega)) (fun k hk => f0.1 _ (by omega)) 256 (Nat.le_refl _)]
        refine s_lstore (pc2 := 52) w dX11_bestLag_50 rfl rfl ?_
        dsimp only [gk_s1, gk_s2, gk_cl]
        refine s_iconst (pc2 := 53) (v := 1) w dX11_bestLag_52 rfl rfl ?_
        refine s_istore (pc2 := 55) w dX11_bestLag_53 rfl rfl ?_
        dsimp only [gk_s1, gk_s2, gk_cl]
        have key : ∀ (k s : Nat) (l8 l9 l10 : Option Value), s + 1 + k = gn + 1 → V 55 [some (.ref 189), some (.int (nI a)), some (.int (nI b)), some (.int (nI gn)), some (.int (gk_mx (fun n => gL (gk_cv (gC g a) (gC g b) (gI (ow (n + 1))) 256)) (fun n => gI (ow (n + 1))) (0, LMIN) (2 * s + 1)).1), some (.long (gk_mx (fun n => gL (gk_cv (gC g a) (gC g b) (gI (ow (n + 1))) 256)) (fun n => gI (ow (n + 1))) (0, LMIN) (2 * s + 1)).2), none, some (.int (nI (s + 1))), l8, l9, l10] [] 202 gk_fT x0 y 0 := by
          intro k
          induction k with
          | zero =>
            intro s l8 l9 l10 ht
            obtain rfl : s = gn := by omega
            refine s_iload (pc2 := 57) w dX11_bestLag_55 rfl rfl ?_
            refine s_iload_n (pc2 := 58) w dX11_bestLag_57 rfl rfl ?_
            refine s_ic_gt (pc2 := 61) (tgt := 117) w dX11_bestLag_58 rfl (by decide) (fun _ => ?_) (fun h0 => absurd (by rw [gI_nI, gI_nI, gI_lt ⟨by omega, by omega⟩ ⟨by omega, by omega⟩]; omega) h0)
            refine s_iload (pc2 := 119) w dX11_bestLag_117 rfl rfl ?_
            refine s_ireturn w dX11_bestLag_119 rfl rfl ?_
            exact q0 ⟨c10, c18⟩ c31 _ _ f0
          | succ k ih =>
            intro s l8 l9 l10 ht
            have w3 : ∀ (l9 l10 : Option Value), V 66 [some (.ref 189), some (.int (nI a)), some (.int (nI b)), some (.int (nI gn)), some (.int (gk_mx (fun n => gL (gk_cv (gC g a) (gC g b) (gI (ow (n + 1))) 256)) (fun n => gI (ow (n + 1))) (0, LMIN) (2 * (s + 1) + 1)).1), some (.long (gk_mx (fun n => gL (gk_cv (gC g a) (gC g b) (gI (ow (n + 1))) 256)) (fun n => gI (ow (n + 1))) (0, LMIN) (2 * (s + 1) + 1)).2), none, some (.int (nI (s + 1))), some (.int (gI (3 * ((s + 1 : Nat) : Int)))), l9, l10] [] 202 gk_fT x0 y 0 := by
              intro l9 l10
              refine s_iload (pc2 := 68) w dX11_bestLag_66 rfl rfl ?_
              refine s_iload (pc2 := 70) w dX11_bestLag_68 rfl rfl ?_
              refine s_ic_gt (pc2 := 73) (tgt := 111) w dX11_bestLag_70 rfl (by decide) (fun _ => ?_) (fun h0 => absurd (by rw [gI_nI, gI_lt ⟨by omega, by omega⟩ ⟨by omega, by omega⟩]; omega) h0)
              refine s_iinc (pc2 := 114) w dX11_bestLag_111 rfl rfl rfl rfl ?_
              dsimp only [gk_s1, gk_s2, gk_cl]
              rw [nI_s]
              refine s_goto (tgt := 55) w dX11_bestLag_114 (by decide) ?_
              exact ih (s + 1) _ _ _ (by omega)
            have w2 : ∀ (l9 l10 : Option Value), V 66 [some (.ref 189), some (.int (nI a)), some (.int (nI b)), some (.int (nI gn)), some (.int (gk_mx (fun n => gL (gk_cv (gC g a) (gC g b) (gI (ow (n + 1))) 256)) (fun n => gI (ow (n + 1))) (0, LMIN) (2 * (s + 1))).1), some (.long (gk_mx (fun n => gL (gk_cv (gC g a) (gC g b) (gI (ow (n + 1))) 256)) (fun n => gI (ow (n + 1))) (0, LMIN) (2 * (s + 1))).2), none, some (.int (nI (s + 1))), some (.int (gI (((s + 1 : Nat) : Int)))), l9, l10] [] 202 gk_fT x0 y 0 := by
              intro l9 l10
              have eE : (fun n => gL (gk_cv (gC g a) (gC g b) (gI (ow (n + 1))) 256)) (2 * (s + 1)) = gL (gk_cv (gC g a) (gC g b) (gI (((s + 1 : Nat) : Int))) 256) := congrArg (fun z => gL (gk_cv (gC g a) (gC g b) (gI z) 256)) (ow_o (s + 1))
              have eL : (fun n => gI (ow (n + 1))) (2 * (s + 1)) = gI (((s + 1 : Nat) : Int)) := congrArg gI (ow_o (s + 1))
              refine s_iload (pc2 := 68) w dX11_bestLag_66 rfl rfl ?_
              refine s_iload (pc2 := 70) w dX11_bestLag_68 rfl rfl ?_
              refine s_ic_gt (pc2 := 73) (tgt := 111) w dX11_bestLag_70 rfl (by decide) (fun h0 => absurd h0 (by rw [gI_nI, gI_lt ⟨by omega, by omega⟩ ⟨by omega, by omega⟩]; omega)) (fun _ => ?_)
              refine s_aload_n (pc2 := 74) w dX11_bestLag_73 rfl rfl ?_
              refine s_iload_n (pc2 := 75) w dX11_bestLag_74 rfl rfl ?_
              refine s_iload_n (pc2 := 76) w dX11_bestLag_75 rfl rfl ?_
              refine s_iload (pc2 := 78) w dX11_bestLag_76 rfl rfl ?_
              refine r_X11_correlationOf (pc2 := 81) w dX11_bestLag_78 rfl rfl rfl rfl (by omega) rfl (by omega) ?_
              rw [cv_cg (r2 := gC g a) (s2 := gC g b) (fun k hk => f0.1 _ (by omega)) (fun k hk => f0.1 _ (by omega)) 256 (Nat.le_refl _)]
              refine s_lstore (pc2 := 83) w dX11_bestLag_81 rfl rfl ?_
              dsimp only [gk_s1, gk_s2, gk_cl]
              refine s_lload (pc2 := 85) w dX11_bestLag_83 rfl rfl ?_
              refine s_lload (pc2 := 87) w dX11_bestLag_85 rfl rfl ?_
              refine s_lcmp (pc2 := 88) w dX11_bestLag_87 rfl ?_
              refine s_if_le (pc2 := 91) (tgt := 99) w dX11_bestLag_88 rfl (by decide) (fun c88 => ?_) (fun c88 => ?_)
              · refine s_iload (pc2 := 101) w dX11_bestLag_99 rfl rfl ?_
                refine s_iconst (pc2 := 102) (v := gI 2) w dX11_bestLag_101 rfl rfl ?_
                refine s_iload (pc2 := 104) w dX11_bestLag_102 rfl rfl ?_
                refine s_imul (pc2 := 105) w dX11_bestLag_104 rfl ?_
                rw [gI_nI (s + 1)]
                rw [gI_mul]
                refine s_iadd (pc2 := 106) w dX11_bestLag_105 rfl ?_
                rw [gI_add, show ((s + 1 : Nat) : Int) + 2 * ((s + 1 : Nat) : Int) = 3 * ((s + 1 : Nat) : Int) by omega]
                refine s_istore (pc2 := 108) w dX11_bestLag_106 rfl rfl ?_
                dsimp only [gk_s1, gk_s2, gk_cl]
                refine s_goto (tgt := 66) w dX11_bestLag_108 (by decide) ?_
                have ep := mx_f2 (E := (fun n => gL (gk_cv (gC g a) (gC g b) (gI (ow (n + 1))) 256))) (lb := (fun n => gI (ow (n + 1)))) (s := (0, LMIN)) (n := 2 * (s + 1)) eE c88
                have h9 := w3 (some (.long (gL (gk_cv (gC g a) (gC g b) (gI (((s + 1 : Nat) : Int))) 256)))) none
                rw [ep] at h9
                exact h9
              · refine s_iload (pc2 := 93) w dX11_bestLag_91 rfl rfl ?_
                refine s_istore (pc2 := 95) w dX11_bestLag_93 rfl rfl ?_
                dsimp only [gk_s1, gk_s2, gk_cl]
                refine s_lload (pc2 := 97) w dX11_bestLag_95 rfl rfl ?_
                refine s_lstore (pc2 := 99) w dX11_bestLag_97 rfl rfl ?_
                dsimp only [gk_s1, gk_s2, gk_cl]
                refine s_iload (pc2 := 101) w dX11_bestLag_99 rfl rfl ?_
                refine s_iconst (pc2 := 102) (v := gI 2) w dX11_bestLag_101 rfl rfl ?_
                refine s_iload (pc2 := 104) w dX11_bestLag_102 rfl rfl ?_
                refine s_imul (pc2 := 105) w dX11_bestLag_104 rfl ?_
                rw [gI_nI (s + 1)]
                rw [gI_mul]
                refine s_iadd (pc2 := 106) w dX11_bestLag_105 rfl ?_
                rw [gI_add, show ((s + 1 : Nat) : Int) + 2 * ((s + 1 : Nat) : Int) = 3 * ((s + 1 : Nat) : Int) by omega]
                refine s_istore (pc2 := 108) w dX11_bestLag_106 rfl rfl ?_
                dsimp only [gk_s1, gk_s2, gk_cl]
                refine s_goto (tgt := 66) w dX11_bestLag_108 (by decide) ?_
                have ep := mx_t2 (E := (fun n => gL (gk_cv (gC g a) (gC g b) (gI (ow (n + 1))) 256))) (lb := (fun n => gI (ow (n + 1)))) (s := (0, LMIN)) (n := 2 * (s + 1)) eE eL c88
                have h9 := w3 (some (.long (gL (gk_cv (gC g a) (gC g b) (gI (((s + 1 : Nat) : Int))) 256)))) none
                rw [ep] at h9
                exact h9
            have w1 : ∀ (l9 l10 : Option Value), V 66 [some (.ref 189), some (.int (nI a)), some (.int (nI b)), some (.int (nI gn)), some (.int (gk_mx (fun n => gL (gk_cv (gC g a) (gC g b) (gI (ow (n + 1))) 256)) (fun n => gI (ow (n + 1))) (0, LMIN) (2 * s + 1)).1), some (.long (gk_mx (fun n => gL (gk_cv (gC g a) (gC g b) (gI (ow (n + 1))) 256)) (fun n => gI (ow (n + 1))) (0, LMIN) (2 * s + 1)).2), none, some (.int (nI (s + 1))), some (.int (gI (-((s + 1 : Nat) : Int)))), l9, l10] [] 202 gk_fT x0 y 0 := by
              intro l9 l10
              have eE : (fun n => gL (gk_cv (gC g a) (gC g b) (gI (ow (n + 1))) 256)) (2 * s + 1) = gL (gk_cv (gC g a) (gC g b) (gI (-((s + 1 : Nat) : Int))) 256) := congrArg (fun z => gL (gk_cv (gC g a) (gC g b) (gI z) 256)) (ow_e (s + 1))
              have eL : (fun n => gI (ow (n + 1))) (2 * s + 1) = gI (-((s + 1 : Nat) : Int)) := congrArg gI (ow_e (s + 1))
              refine s_iload (pc2 := 68) w dX11_bestLag_66 rfl rfl ?_
              refine s_iload (pc2 := 70) w dX11_bestLag_68 rfl rfl ?_
              refine s_ic_gt (pc2 := 73) (tgt := 111) w dX11_bestLag_70 rfl (by decide) (fun h0 => absurd h0 (by rw [gI_nI, gI_lt ⟨by omega, by omega⟩ ⟨by omega, by omega⟩]; omega)) (fun _ => ?_)
              refine s_aload_n (pc2 := 74) w dX11_bestLag_73 rfl rfl ?_
              refine s_iload_n (pc2 := 75) w dX11_bestLag_74 rfl rfl ?_
              refine s_iload_n (pc2 := 76) w dX11_bestLag_75 rfl rfl ?_
              refine s_iload (pc2 := 78) w dX11_bestLag_76 rfl rfl ?_
              refine r_X11_correlationOf (pc2 := 81) w dX11_bestLag_78 rfl rfl rfl rfl (by omega) rfl (by omega) ?_
              rw [cv_cg (r2 := gC g a) (s2 := gC g b) (fun k hk => f0.1 _ (by omega)) (fun k hk => f0.1 _ (by omega)) 256 (Nat.le_refl _)]
              refine s_lstore (pc2 := 83) w dX11_bestLag_81 rfl rfl ?_
              dsimp only [gk_s1, gk_s2, gk_cl]
              refine s_lload (pc2 := 85) w dX11_bestLag_83 rfl rfl ?_
              refine s_lload (pc2 := 87) w dX11_bestLag_85 rfl rfl ?_
              refine s_lcmp (pc2 := 88) w dX11_bestLag_87 rfl ?_
              refine s_if_le (pc2 := 91) (tgt := 99) w dX11_bestLag_88 rfl (by decide) (fun c88 => ?_) (fun c88 => ?_)
              · refine s_iload (pc2 := 101) w dX11_bestLag_99 rfl rfl ?_
                refine s_iconst (pc2 := 102) (v := gI 2) w dX11_bestLag_101 rfl rfl ?_
                refine s_iload (pc2 := 104) w dX11_bestLag_102 rfl rfl ?_
                refine s_imul (pc2 := 105) w dX11_bestLag_104 rfl ?_
                rw [gI_nI (s + 1)]
                rw [gI_mul]
                refine s_iadd (pc2 := 106) w dX11_bestLag_105 rfl ?_
                rw [gI_add, show -((s + 1 : Nat) : Int) + 2 * ((s + 1 : Nat) : Int) = ((s + 1 : Nat) : Int) by omega]
                refine s_istore (pc2 := 108) w dX11_bestLag_106 rfl rfl ?_
                dsimp only [gk_s1, gk_s2, gk_cl]
                refine s_goto (tgt := 66) w dX11_bestLag_108 (by decide) ?_
                have ep := mx_f2 (E := (fun n => gL (gk_cv (gC g a) (gC g b) (gI (ow (n + 1))) 256))) (lb := (fun n => gI (ow (n + 1)))) (s := (0, LMIN)) (n := 2 * s + 1) eE c88
                have h9 := w2 (some (.long (gL (gk_cv (gC g a) (gC g b) (gI (-((s + 1 : Nat) : Int))) 256)))) none
                rw [show 2 * (s + 1) = 2 * s + 1 + 1 by omega, ep] at h9
                exact h9
              · refine s_iload (pc2 := 93) w dX11_bestLag_91 rfl rfl ?_
                refine s_istore (pc2 := 95) w dX11_bestLag_93 rfl rfl ?_
                dsimp only [gk_s1, gk_s2, gk_cl]
                refine s_lload (pc2 := 97) w dX11_bestLag_95 rfl rfl ?_
                refine s_lstore (pc2 := 99) w dX11_bestLag_97 rfl rfl ?_
                dsimp only [gk_s1, gk_s2, gk_cl]
                refine s_iload (pc2 := 101) w dX11_bestLag_99 rfl rfl ?_
                refine s_iconst (pc2 := 102) (v := gI 2) w dX11_bestLag_101 rfl rfl ?_
                refine s_iload (pc2 := 104) w dX11_bestLag_102 rfl rfl ?_
                refine s_imul (pc2 := 105) w dX11_bestLag_104 rfl ?_
                rw [gI_nI (s + 1)]
                rw [gI_mul]
                refine s_iadd (pc2 := 106) w dX11_bestLag_105 rfl ?_
                rw [gI_add, show -((s + 1 : Nat) : Int) + 2 * ((s + 1 : Nat) : Int) = ((s + 1 : Nat) : Int) by omega]
                refine s_istore (pc2 := 108) w dX11_bestLag_106 rfl rfl ?_
                dsimp only [gk_s1, gk_s2, gk_cl]
                refine s_goto (tgt := 66) w dX11_bestLag_108 (by decide) ?_
                have ep := mx_t2 (E := (fun n => gL (gk_cv (gC g a) (gC g b) (gI (ow (n + 1))) 256))) (lb := (fun n => gI (ow (n + 1)))) (s := (0, LMIN)) (n := 2 * s + 1) eE eL c88
                have h9 := w2 (some (.long (gL (gk_cv (gC g a) (gC g b) (gI (-((s + 1 : Nat) : Int))) 256)))) none
                rw [show 2 * (s + 1) = 2 * s + 1 + 1 by omega, ep] at h9
                exact h9
            refine s_iload (pc2 := 57) w dX11_bestLag_55 rfl rfl ?_
            refine s_iload_n (pc2 := 58) w dX11_bestLag_57 rfl rfl ?_
            refine s_ic_gt (pc2 := 61) (tgt := 117) w dX11_bestLag_58 rfl (by decide) (fun h0 => absurd h0 (by rw [gI_nI, gI_nI, gI_lt ⟨by omega, by omega⟩ ⟨by omega, by omega⟩]; omega)) (fun _ => ?_)
            refine s_iload (pc2 := 63) w dX11_bestLag_61 rfl rfl ?_
            refine s_ineg (pc2 := 64) w dX11_bestLag_63 rfl ?_
            rw [gI_nI (s + 1), gI_neg]
            rw [← gI_nI (s + 1)]
            refine s_istore (pc2 := 66) w dX11_bestLag_64 rfl rfl ?_
            dsimp only [gk_s1, gk_s2, gk_cl]
            have h9 := w1 l9 l10
            exact h9
        have h9 := key gn 0 none none none (by omega)
        rw [show 2 * 0 + 1 = 1 from rfl, mx_min2 (E := (fun n => gL (gk_cv (gC g a) (gC g b) (gI (ow (n + 1))) 256))) (lb := (fun n => gI (ow (n + 1)))) (a := 0) (v := gL (gk_cv (gC g a) (gC g b) 0 256)) rfl rfl] at h9
        exact h9
      · refine s_aload_n (pc2 := 35) w dX11_bestLag_34 rfl rfl ?_
        refine s_iconst (pc2 := 36) (v := gI 2) w dX11_bestLag_35 rfl rfl ?_
        refine r_X11_fail (pc2 := 39) w dX11_bestLag_36 rfl rfl rfl ?_
        refine s_ireturn w dX11_bestLag_39 rfl rfl ?_
        rw [g_b0] at c31
        exact q2 ⟨c10, c18⟩ (fun hc => c31 hc) _ _ (f0.fail 2)
    · refine s_aload_n (pc2 := 22) w dX11_bestLag_21 rfl rfl ?_
      refine s_iconst (pc2 := 23) (v := gI 1) w dX11_bestLag_22 rfl rfl ?_
      refine r_X11_fail (pc2 := 26) w dX11_bestLag_23 rfl rfl rfl ?_
      refine s_ireturn w dX11_bestLag_26 rfl rfl ?_
      rw [g_b0] at c18
      exact q1  (fun hc => c18 hc.2) _ _ (f0.fail 1)
theorem lk_X11_bestLag {l : Launch} (hl : l.stackTraces = false) : ∀ q ∈ L_X11_bestLag, (q.2.1 < 5 → gk_Lk l RX11 gk_W1 4 q.1 q.2.1 q.2.2.1 q.2.2.2.1 q.2.2.2.2.1 q.2.2.2.2.2) := (List.forall_mem_cons.mpr ⟨(fun _ => ⟨yX11_isTime, cX11_isTime, 1, (some .boolean), 1, _, M_X11_isTime hl, ⟨by decide, by decide⟩, ⟨by decide, by decide, by decide +kernel⟩, ⟨(gk_wm 1432 (by decide +kernel)), (gk_wm 99 (by decide +kernel))⟩, Or.inl ⟨rfl, rfl, (gk_wm 1431 (by decide +kernel)), gk_wm 1430 (by decide +kernel)⟩⟩), (List.forall_mem_cons.mpr ⟨(fun _ => ⟨yX11_fail, cX11_fail, 2, (some .int), 0, _, M_X11_fail hl, ⟨by decide, by decide⟩, ⟨by decide, by decide, by decide +kernel⟩, ⟨(gk_wm 1342 (by decide +kernel)), (gk_wm 99 (by decide +kernel))⟩, Or.inr (Or.inr (Or.inr (Or.inl ⟨rfl, rfl, (gk_wm 1341 (by decide +kernel)), (gk_wm 32 (by decide +kernel)), gk_wm 1339 (by decide +kernel), by decide, rfl⟩)))⟩), (List.forall_mem_cons.mpr ⟨(fun _ => ⟨yX11_isMicrophone, cX11_isMicrophone, 2, (some .boolean), 1, _, M_X11_isMicrophone hl, ⟨by decide, by decide⟩, ⟨by decide, by decide, by decide +kernel⟩, ⟨(gk_wm 1421 (by decide +kernel)), (gk_wm 99 (by decide +kernel))⟩, Or.inr (Or.inr (Or.inr (Or.inl ⟨rfl, rfl, (gk_wm 1420 (by decide +kernel)), (gk_wm 40 (by decide +kernel)), gk_wm 1418 (by decide +kernel), by decide, rfl⟩)))⟩), (List.forall_mem_cons.mpr ⟨(fun _ => ⟨yX11_correlationOf, cX11_correlationOf, 7, (some .long), 3, _, M_X11_correlationOf hl, ⟨by decide, by decide⟩, ⟨by decide, by decide, by decide +kernel⟩, ⟨(gk_wm 1573 (by decide +kernel)), (gk_wm 99 (by decide +kernel))⟩, Or.inr (Or.inr (Or.inr (Or.inl ⟨rfl, rfl, (gk_wm 1572 (by decide +kernel)), (gk_wm 61 (by decide +kernel)), gk_wm 1570 (by decide +kernel), by decide, rfl⟩)))⟩), (fun _ h => absurd h List.not_mem_nil)⟩)⟩)⟩)⟩)
theorem sp_X11_bestLag : ∀ q ∈ L_X11_bestLag, gk_Sq RX11 gk_W1 4 q := (List.forall_mem_cons.mpr ⟨⟨fun h => absurd h (by decide), fun h => absurd h (by decide), fun h => absurd h (by decide), fun h => absurd h (by decide), fun h => absurd h (by decide), fun h => absurd h (by decide)⟩, (List.forall_mem_cons.mpr ⟨⟨fun h => absurd h (by decide), fun h => absurd h (by decide), fun h => absurd h (by decide), fun h => absurd h (by decide), fun h => absurd h (by decide), fun h => absurd h (by decide)⟩, (List.forall_mem_cons.mpr ⟨⟨fun h => absurd h (by decide), fun h => absurd h (by decide), fun h => absurd h (by decide), fun h => absurd h (by decide), fun h => absurd h (by decide), fun h => absurd h (by decide)⟩, (List.forall_mem_cons.mpr ⟨⟨fun h => absurd h (by decide), fun h => absurd h (by decide), fun h => absurd h (by decide), fun h => absurd h (by decide), fun h => absurd h (by decide), fun h => absurd h (by decide)⟩, (fun _ h => absurd h List.not_mem_nil)⟩)⟩)⟩)⟩)
theorem M_X11_bestLag {l : Launch} (hl : l.stackTraces = false) : gk_Mt l yX11_bestLag (.code yX11_bestLag cX11_bestLag 11 (some .int) :: gk_W1) 4 0 S_X11_bestLag := gk_meth hl gk_cw_ok (by decide +kernel) rfl m_X11_bestLag pX11_ok (gk_Sp_of sp_X11_bestLag) pX11_st (fun ci m S h => absurd h (by intro h; cases h)) (xf_X11 4) (fun idx kd ci mm cost S2 h h5 => lk_X11_bestLag hl _ (gk_lk_mem h) h5)

def S_X11_scan : gk_S := fun as n fl x y K => ∃ (v : Int32) (o : Int32) (f : Int32) (l : Int32) (g : Nat → Int32), as = [.ref 189, .int v, .int o, .int f, .int l] ∧ (n = 202 ∧ fl = gk_fT) ∧ (MG g x) ∧ (gOK g) ∧ (((1 ≤ v ∧ v ≤ 100) ∧ (0 ≤ o ∧ o ≤ 20) ∧ (0 ≤ f ∧ f ≤ l ∧ l ≤ 255)) → ∀ (x2 : gk_X) (y2 : gk_Y), MOk g 0 x x2 y y2 → K (.inl (some (.int ((gk_mx (fun n => gL (gE (gB g (ow (n + 1) * ((cN v : Nat) : Int))) (cN f) (cN l))) (fun n => gI (ow (n + 1))) (0, -1) (2 * cN o + 1)).1)))) n fl x2 y2) ∧ (¬ ((1 ≤ v ∧ v ≤ 100) ∧ (0 ≤ o ∧ o ≤ 20) ∧ (0 ≤ f ∧ f ≤ l ∧ l ≤ 255)) → ∀ (x2 : gk_X) (y2 : gk_Y), MOk g 1 x x2 y y2 → K (.inl (some (.int 0))) n fl x2 y2)
theorem r_X11_scan (w : gk_W c P cs (fun _ _ => none) rt uf sc K V) {idx : Nat} {v : Int32} {o : Int32} {f : Int32} {l : Int32} {g : Nat → Int32} (hd : decode c pc = .ok (.invokevirtual idx, 3)) (hp : pc + 3 = pc2) (hc : cs idx = some (1, 10, 5, 0, S_X11_scan)) (h8 : Nat.ble (r.map Value.category).sum 8 = true) (hp0 : MG g x) (hp1 : gOK g) (kk0 : ((1 ≤ v ∧ v ≤ 100) ∧ (0 ≤ o ∧ o ≤ 20) ∧ (0 ≤ f ∧ f ≤ l ∧ l ≤ 255)) → ∀ (x2 : gk_X) (y2 : gk_Y), MOk g 0 x x2 y y2 → V pc2 L ((.int ((gk_mx (fun n => gL (gE (gB g (ow (n + 1) * ((cN v : Nat) : Int))) (cN f) (cN l))) (fun n => gI (ow (n + 1))) (0, -1) (2 * cN o + 1)).1)) :: r) 202 gk_fT x2 y2 u) (kk1 : ¬ ((1 ≤ v ∧ v ≤ 100) ∧ (0 ≤ o ∧ o ≤ 20) ∧ (0 ≤ f ∧ f ≤ l ∧ l ≤ 255)) → ∀ (x2 : gk_X) (y2 : gk_Y), MOk g 1 x x2 y y2 → V pc2 L ((.int 0) :: r) 202 gk_fT x2 y2 u) : V pc L (.int l :: .int f :: .int o :: .int v :: .ref 189 :: r) 202 gk_fT x y u :=
  g_callv w hd hp hc (as := [.ref 189, .int v, .int o, .int f, .int l]) rfl h8 rfl rfl rfl (Or.inr (Or.inl ⟨Or.inl rfl, _, _, rfl, (gk_kd_j rfl rfl), rfl⟩)) (Or.inl rfl) ⟨v, o, f, l, g, rfl, ⟨rfl, rfl⟩, hp0, hp1, kk0, kk1⟩
def L_X11_scan : List (Nat × gk_M0) := [(52, (0, 10, 3, 0, S_X11_isBetween)), (64, (1, 10, 2, 0, S_X11_fail)), (200, (0, 10, 2, 0, S_X11_isWindow)), (262, (1, 10, 4, 0, S_X11_energyWith))]
def cs_X11_scan : Nat → Option gk_M0 := gk_lk L_X11_scan
theorem m_X11_scan : ∀ (as : List Value) (n : Nat) (fl : gk_F) (x : gk_X) (y : gk_Y) (K : gk_K), S_X11_scan as n fl x y K → (gk_L0 as).length ≤ 12 ∧ ∀ V : gk_V, gk_W cX11_scan pX11 cs_X11_scan (fun _ _ => none) (some .int) 0 none K V → V 0 (gk_en as 12) [] n fl x y 0 := by
  intro as n fl x y K hS
  obtain ⟨v, o, f, l, g, rfl, ⟨rfl, rfl⟩, hp0, hp1, q0, q1⟩ := hS
  refine ⟨Nat.le_of_ble_eq_true rfl, fun V w => ?_⟩
  show V 0 [some (.ref 189), some (.int v), some (.int o), some (.int f), some (.int l), none, none, none, none, none, none, none] [] 202 gk_fT x y 0
  obtain ⟨nv4, ns6, nm8, z6, z7, z8⟩ := wf_n hp1.1
  have w6 : 0 ≤ (g 6).toInt := by show 0 ≤ gz g 6; omega
  have w7 : 0 ≤ (g 7).toInt := by show 0 ≤ gz g 7; omega
  have w8 : 0 ≤ (g 8).toInt := by show 0 ≤ gz g 8; omega
  refine s_aload_n (pc2 := 1) w dX11_scan_0 rfl rfl ?_
  refine s_iconst (pc2 := 2) (v := 0) w dX11_scan_1 rfl rfl ?_
  refine m_putI (pc2 := 5) (ci := 10) (k := 4) w dX11_scan_2 rfl rfl rfl rfl rfl (by intro h; cases h) ?_
  have f0 := MOk.ini (y := y) hp0
  generalize gk_up x 189 4 0 = x0 at f0 ⊢
  refine s_iload_n (pc2 := 6) w dX11_scan_5 rfl rfl ?_
  refine s_iconst (pc2 := 7) (v := 1) w dX11_scan_6 rfl rfl ?_
  refine s_bipush (pc2 := 9) (v := 100) w dX11_scan_7 rfl rfl ?_
  refine r_X11_isBetween (pc2 := 12) w dX11_scan_9 rfl rfl rfl ?_
  refine s_if_eq (pc2 := 15) (tgt := 34) w dX11_scan_12 rfl (by decide) (fun c12 => ?_) (fun c12 => ?_)
  · refine s_aload_n (pc2 := 35) w dX11_scan_34 rfl rfl ?_
    refine s_iconst (pc2 := 36) (v := 1) w dX11_scan_35 rfl rfl ?_
    refine r_X11_fail (pc2 := 39) w dX11_scan_36 rfl rfl rfl ?_
    refine s_ireturn w dX11_scan_39 rfl rfl ?_
    rw [g_b0] at c12
    exact q1  (fun hc => c12 hc.1) _ _ (f0.fail 1)
  · rw [g_b0, Classical.not_not] at c12
    refine s_iload_n (pc2 := 16) w dX11_scan_15 rfl rfl ?_
    refine s_iconst (pc2 := 17) (v := 0) w dX11_scan_16 rfl rfl ?_
    refine s_bipush (pc2 := 19) (v := 20) w dX11_scan_17 rfl rfl ?_
    refine r_X11_isBetween (pc2 := 22) w dX11_scan_19 rfl rfl rfl ?_
    refine s_if_eq (pc2 := 25) (tgt := 34) w dX11_scan_22 rfl (by decide) (fun c22 => ?_) (fun c22 => ?_)
    · refine s_aload_n (pc2 := 35) w dX11_scan_34 rfl rfl ?_
      refine s_iconst (pc2 := 36) (v := 1) w dX11_scan_35 rfl rfl ?_
      refine r_X11_fail (pc2 := 39) w dX11_scan_36 rfl rfl rfl ?_
      refine s_ireturn w dX11_scan_39 rfl rfl ?_
      rw [g_b0] at c22
      exact q1  (fun hc => c22 hc.2.1) _ _ (f0.fail 1)
    · rw [g_b0, Classical.not_not] at c22
      refine s_iload_n (pc2 := 26) w dX11_scan_25 rfl rfl ?_
      refine s_iload (pc2 := 28) w dX11_scan_26 rfl rfl ?_
      refine r_X11_isWindow (pc2 := 31) w dX11_scan_28 rfl rfl rfl ?_
      refine s_if_ne (pc2 := 34) (tgt := 40) w dX11_scan_31 rfl (by decide) (fun c31 => ?_) (fun c31 => ?_)
      · rw [g_b0, Classical.not_not] at c31
        obtain ⟨sn, rfl, sh1, sh2⟩ := ix_h c12
        obtain ⟨gn, rfl, gnh⟩ := ix_b (b := 20) (by decide) c22
        obtain ⟨b, e, rfl, rfl, beh, eh⟩ := ix_w c31
        rw [cN_n sn (by omega), cN_n gn (by omega), cN_n b (by omega), cN_n e (by omega)] at q0
        refine s_iconst (pc2 := 41) (v := 0) w dX11_scan_40 rfl rfl ?_
        refine s_istore (pc2 := 43) w dX11_scan_41 rfl rfl ?_
        dsimp only [gk_s1, gk_s2, gk_cl]
        refine s_aload_n (pc2 := 44) w dX11_scan_43 rfl rfl ?_
        refine s_iconst (pc2 := 45) (v := 0) w dX11_scan_44 rfl rfl ?_
        refine s_iload_n (pc2 := 46) w dX11_scan_45 rfl rfl ?_
        refine s_iload (pc2 := 48) w dX11_scan_46 rfl rfl ?_
        refine r_X11_energyWith (pc2 := 51) (B := 0) w dX11_scan_48 rfl rfl rfl f0.1 hp1 rfl (by omega) rfl rfl beh eh (fun x1 hx1 => ?_)
        refine s_lstore (pc2 := 53) w dX11_scan_51 rfl rfl ?_
        dsimp only [gk_s1, gk_s2, gk_cl]
        refine s_iconst (pc2 := 54) (v := 1) w dX11_scan_53 rfl rfl ?_
        refine s_istore (pc2 := 56) w dX11_scan_54 rfl rfl ?_
        dsimp only [gk_s1, gk_s2, gk_cl]
        have key : ∀ (k s : Nat) (l9 l10 l11 : Option Value) (xh : gk_X) (fh : MOk g 0 x xh y y), s + 1 + k = gn + 1 → V 56 [some (.ref 189), some (.int (nI sn)), some (.int (nI gn)), some (.int (nI b)), some (.int (nI e)), some (.int (gk_mx (fun n => gL (gE (gB g (ow (n + 1) * ((sn : Nat) : Int))) b e)) (fun n => gI (ow (n + 1))) (0, -1) (2 * s + 1)).1), some (.long (gk_mx (fun n => gL (gE (gB g (ow (n + 1) * ((sn : Nat) : Int))) b e)) (fun n => gI (ow (n + 1))) (0, -1) (2 * s + 1)).2), none, some (.int (nI (s + 1))), l9, l10, l11] [] 202 gk_fT xh y 0 := by
          intro k
          induction k with
          | zero =>
            intro s l9 l10 l11 xh fh ht
            obtain rfl : s = gn := by omega
            refine s_iload (pc2 := 58) w dX11_scan_56 rfl rfl ?_
            refine s_iload_n (pc2 := 59) w dX11_scan_58 rfl rfl ?_
            refine s_ic_gt (pc2 := 62) (tgt := 121) w dX11_scan_59 rfl (by decide) (fun _ => ?_) (fun h0 => absurd (by rw [gI_nI, gI_nI, gI_lt ⟨by omega, by omega⟩ ⟨by omega, by omega⟩]; omega) h0)
            refine s_iload (pc2 := 123) w dX11_scan_121 rfl rfl ?_
            refine s_ireturn w dX11_scan_123 rfl rfl ?_
            exact q0 ⟨c12, c22, c31⟩ _ _ fh
          | succ k ih =>
            intro s l9 l10 l11 xh fh ht
            have w3 : ∀ (l10 l11 : Option Value) (xh : gk_X) (fh : MOk g 0 x xh y y), V 67 [some (.ref 189), some (.int (nI sn)), some (.int (nI gn)), some (.int (nI b)), some (.int (nI e)), some (.int (gk_mx (fun n => gL (gE (gB g (ow (n + 1) * ((sn : Nat) : Int))) b e)) (fun n => gI (ow (n + 1))) (0, -1) (2 * (s + 1) + 1)).1), some (.long (gk_mx (fun n => gL (gE (gB g (ow (n + 1) * ((sn : Nat) : Int))) b e)) (fun n => gI (ow (n + 1))) (0, -1) (2 * (s + 1) + 1)).2), none, some (.int (nI (s + 1))), some (.int (gI (3 * ((s + 1 : Nat) : Int)))), l10, l11] [] 202 gk_fT xh y 0 := by
              intro l10 l11 xh fh
              refine s_iload (pc2 := 69) w dX11_scan_67 rfl rfl ?_
              refine s_iload (pc2 := 71) w dX11_scan_69 rfl rfl ?_
              refine s_ic_gt (pc2 := 74) (tgt := 115) w dX11_scan_71 rfl (by decide) (fun _ => ?_) (fun h0 => absurd (by rw [gI_nI, gI_lt ⟨by omega, by omega⟩ ⟨by omega, by omega⟩]; omega) h0)
              refine s_iinc (pc2 := 118) w dX11_scan_115 rfl rfl rfl rfl ?_
              dsimp only [gk_s1, gk_s2, gk_cl]
              rw [nI_s]
              refine s_goto (tgt := 56) w dX11_scan_118 (by decide) ?_
              exact ih (s + 1) _ _ _ xh fh (by omega)
            have w2 : ∀ (l10 l11 : Option Value) (xh : gk_X) (fh : MOk g 0 x xh y y), V 67 [some (.ref 189), some (.int (nI sn)), some (.int (nI gn)), some (.int (nI b)), some (.int (nI e)), some (.int (gk_mx (fun n => gL (gE (gB g (ow (n + 1) * ((sn : Nat) : Int))) b e)) (fun n => gI (ow (n + 1))) (0, -1) (2 * (s + 1))).1), some (.long (gk_mx (fun n => gL (gE (gB g (ow (n + 1) * ((sn : Nat) : Int))) b e)) (fun n => gI (ow (n + 1))) (0, -1) (2 * (s + 1))).2), none, some (.int (nI (s + 1))), some (.int (gI (((s + 1 : Nat) : Int)))), l10, l11] [] 202 gk_fT xh y 0 := by
              intro l10 l11 xh fh
              have eE : (fun n => gL (gE (gB g (ow (n + 1) * ((sn : Nat) : Int))) b e)) (2 * (s + 1)) = gL (gE (gB g ((((s + 1 : Nat) : Int)) * (sn : Int))) b e) := congrArg (fun z => gL (gE (gB g (z * (sn : Int))) b e)) (ow_o (s + 1))
              have eL : (fun n => gI (ow (n + 1))) (2 * (s + 1)) = gI (((s + 1 : Nat) : Int)) := congrArg gI (ow_o (s + 1))
              have hmb := gk_mulb (a := ((s + 1 : Nat) : Int)) (b := (sn : Int)) (A := 20) (B := 100) (by omega) (by omega) (by omega) (by omega)
              refine s_iload (pc2 := 69) w dX11_scan_67 rfl rfl ?_
              refine s_iload (pc2 := 71) w dX11_scan_69 rfl rfl ?_
              refine s_ic_gt (pc2 := 74) (tgt := 115) w dX11_scan_71 rfl (by decide) (fun h0 => absurd h0 (by rw [gI_nI, gI_lt ⟨by omega, by omega⟩ ⟨by omega, by omega⟩]; omega)) (fun _ => ?_)
              refine s_aload_n (pc2 := 75) w dX11_scan_74 rfl rfl ?_
              refine s_iload (pc2 := 77) w dX11_scan_75 rfl rfl ?_
              refine s_iload_n (pc2 := 78) w dX11_scan_77 rfl rfl ?_
              refine s_imul (pc2 := 79) w dX11_scan_78 rfl ?_
              rw [gI_nI sn, gI_mul]
              rw [← gI_nI sn]
              refine s_iload_n (pc2 := 80) w dX11_scan_79 rfl rfl ?_
              refine s_iload (pc2 := 82) w dX11_scan_80 rfl rfl ?_
              refine r_X11_energyWith (pc2 := 85) w dX11_scan_82 rfl rfl rfl fh.1 hp1 rfl (by omega) rfl rfl beh eh (fun x1 hx1 => ?_)
              refine s_lstore (pc2 := 87) w dX11_scan_85 rfl rfl ?_
              dsimp only [gk_s1, gk_s2, gk_cl]
              refine s_lload (pc2 := 89) w dX11_scan_87 rfl rfl ?_
              refine s_lload (pc2 := 91) w dX11_scan_89 rfl rfl ?_
              refine s_lcmp (pc2 := 92) w dX11_scan_91 rfl ?_
              refine s_if_le (pc2 := 95) (tgt := 103) w dX11_scan_92 rfl (by decide) (fun c92 => ?_) (fun c92 => ?_)
              · refine s_iload (pc2 := 105) w dX11_scan_103 rfl rfl ?_
                refine s_iconst (pc2 := 106) (v := gI 2) w dX11_scan_105 rfl rfl ?_
                refine s_iload (pc2 := 108) w dX11_scan_106 rfl rfl ?_
                refine s_imul (pc2 := 109) w dX11_scan_108 rfl ?_
                rw [gI_nI (s + 1)]
                rw [gI_mul]
                refine s_iadd (pc2 := 110) w dX11_scan_109 rfl ?_
                rw [gI_add, show ((s + 1 : Nat) : Int) + 2 * ((s + 1 : Nat) : Int) = 3 * ((s + 1 : Nat) : Int) by omega]
                rw [← gI_nI (s + 1)]
                refine s_istore (pc2 := 112) w dX11_scan_110 rfl rfl ?_
                dsimp only [gk_s1, gk_s2, gk_cl]
                refine s_goto (tgt := 67) w dX11_scan_112 (by decide) ?_
                have ep := mx_f2 (E := (fun n => gL (gE (gB g (ow (n + 1) * ((sn : Nat) : Int))) b e))) (lb := (fun n => gI (ow (n + 1)))) (s := (0, -1)) (n := 2 * (s + 1)) eE c92
                have h9 := w3 (some (.long (gL (gE (gB g ((((s + 1 : Nat) : Int)) * (sn : Int))) b e)))) none x1 (fh.ge hx1)
                rw [ep] at h9
                exact h9
              · refine s_iload (pc2 := 97) w dX11_scan_95 rfl rfl ?_
                refine s_istore (pc2 := 99) w dX11_scan_97 rfl rfl ?_
                dsimp only [gk_s1, gk_s2, gk_cl]
                refine s_lload (pc2 := 101) w dX11_scan_99 rfl rfl ?_
                refine s_lstore (pc2 := 103) w dX11_scan_101 rfl rfl ?_
                dsimp only [gk_s1, gk_s2, gk_cl]
                refine s_iload (pc2 := 105) w dX11_scan_103 rfl rfl ?_
                refine s_iconst (pc2 := 106) (v := gI 2) w dX11_scan_105 rfl rfl ?_
                refine s_iload (pc2 := 108) w dX11_scan_106 rfl rfl ?_
                refine s_imul (pc2 := 109) w dX11_scan_108 rfl ?_
                rw [gI_nI (s + 1)]
                rw [gI_mul]
                refine s_iadd (pc2 := 110) w dX11_scan_109 rfl ?_
                rw [gI_add, show ((s + 1 : Nat) : Int) + 2 * ((s + 1 : Nat) : Int) = 3 * ((s + 1 : Nat) : Int) by omega]
                rw [← gI_nI (s + 1)]
                refine s_istore (pc2 := 112) w dX11_scan_110 rfl rfl ?_
                dsimp only [gk_s1, gk_s2, gk_cl]
                refine s_goto (tgt := 67) w dX11_scan_112 (by decide) ?_
                have ep := mx_t2 (E := (fun n => gL (gE (gB g (ow (n + 1) * ((sn : Nat) : Int))) b e))) (lb := (fun n => gI (ow (n + 1)))) (s := (0, -1)) (n := 2 * (s + 1)) eE eL c92
                have h9 := w3 (some (.long (gL (gE (gB g ((((s + 1 : Nat) : Int)) * (sn : Int))) b e)))) none x1 (fh.ge hx1)
                rw [ep] at h9
                exact h9
            have w1 : ∀ (l10 l11 : Option Value) (xh : gk_X) (fh : MOk g 0 x xh y y), V 67 [some (.ref 189), some (.int (nI sn)), some (.int (nI gn)), some (.int (nI b)), some (.int (nI e)), some (.int (gk_mx (fun n => gL (gE (gB g (ow (n + 1) * ((sn : Nat) : Int))) b e)) (fun n => gI (ow (n + 1))) (0, -1) (2 * s + 1)).1), some (.long (gk_mx (fun n => gL (gE (gB g (ow (n + 1) * ((sn : Nat) : Int))) b e)) (fun n => gI (ow (n + 1))) (0, -1) (2 * s + 1)).2), none, some (.int (nI (s + 1))), some (.int (gI (-((s + 1 : Nat) : Int)))), l10, l11] [] 202 gk_fT xh y 0 := by
              intro l10 l11 xh fh
              have eE : (fun n => gL (gE (gB g (ow (n + 1) * ((sn : Nat) : Int))) b e)) (2 * s + 1) = gL (gE (gB g ((-((s + 1 : Nat) : Int)) * (sn : Int))) b e) := congrArg (fun z => gL (gE (gB g (z * (sn : Int))) b e)) (ow_e (s + 1))
              have eL : (fun n => gI (ow (n + 1))) (2 * s + 1) = gI (-((s + 1 : Nat) : Int)) := congrArg gI (ow_e (s + 1))
              have hmb := gk_mulb (a := -((s + 1 : Nat) : Int)) (b := (sn : Int)) (A := 20) (B := 100) (by omega) (by omega) (by omega) (by omega)
              refine s_iload (pc2 := 69) w dX11_scan_67 rfl rfl ?_
              refine s_iload (pc2 := 71) w dX11_scan_69 rfl rfl ?_
              refine s_ic_gt (pc2 := 74) (tgt := 115) w dX11_scan_71 rfl (by decide) (fun h0 => absurd h0 (by rw [gI_nI, gI_lt ⟨by omega, by omega⟩ ⟨by omega, by omega⟩]; omega)) (fun _ => ?_)
              refine s_aload_n (pc2 := 75) w dX11_scan_74 rfl rfl ?_
              refine s_iload (pc2 := 77) w dX11_scan_75 rfl rfl ?_
              refine s_iload_n (pc2 := 78) w dX11_scan_77 rfl rfl ?_
              refine s_imul (pc2 := 79) w dX11_scan_78 rfl ?_
              rw [gI_nI sn, gI_mul]
              rw [← gI_nI sn]
              refine s_iload_n (pc2 := 80) w dX11_scan_79 rfl rfl ?_
              refine s_iload (pc2 := 82) w dX11_scan_80 rfl rfl ?_
              refine r_X11_energyWith (pc2 := 85) w dX11_scan_82 rfl rfl rfl fh.1 hp1 rfl (by omega) rfl rfl beh eh (fun x1 hx1 => ?_)
              refine s_lstore (pc2 := 87) w dX11_scan_85 rfl rfl ?_
              dsimp only [gk_s1, gk_s2, gk_cl]
              refine s_lload (pc2 := 89) w dX11_scan_87 rfl rfl ?_
              refine s_lload (pc2 := 91) w dX11_scan_89 rfl rfl ?_
              refine s_lcmp (pc2 := 92) w dX11_scan_91 rfl ?_
              refine s_if_le (pc2 := 95) (tgt := 103) w dX11_scan_92 rfl (by decide) (fun c92 => ?_) (fun c92 => ?_)
              · refine s_iload (pc2 := 105) w dX11_scan_103 rfl rfl ?_
                refine s_iconst (pc2 := 106) (v := gI 2) w dX11_scan_105 rfl rfl ?_
                refine s_iload (pc2 := 108) w dX11_scan_106 rfl rfl ?_
                refine s_imul (pc2 := 109) w dX11_scan_108 rfl ?_
                rw [gI_nI (s + 1)]
                rw [gI_mul]
                refine s_iadd (pc2 := 110) w dX11_scan_109 rfl ?_
                rw [gI_add, show -((s + 1 : Nat) : Int) + 2 * ((s + 1 : Nat) : Int) = ((s + 1 : Nat) : Int) by omega]
                rw [← gI_nI (s + 1)]
                refine s_istore (pc2 := 112) w dX11_scan_110 rfl rfl ?_
                dsimp only [gk_s1, gk_s2, gk_cl]
                refine s_goto (tgt := 67) w dX11_scan_112 (by decide) ?_
                have ep := mx_f2 (E := (fun n => gL (gE (gB g (ow (n + 1) * ((sn : Nat) : Int))) b e))) (lb := (fun n => gI (ow (n + 1)))) (s := (0, -1)) (n := 2 * s + 1) eE c92
                have h9 := w2 (some (.long (gL (gE (gB g ((-((s + 1 : Nat) : Int)) * (sn : Int))) b e)))) none x1 (fh.ge hx1)
                rw [show 2 * (s + 1) = 2 * s + 1 + 1 by omega, ep] at h9
                exact h9
              · refine s_iload (pc2 := 97) w dX11_scan_95 rfl rfl ?_
                refine s_istore (pc2 := 99) w dX11_scan_97 rfl rfl ?_
                dsimp only [gk_s1, gk_s2, gk_cl]
                refine s_lload (pc2 := 101) w dX11_scan_99 rfl rfl ?_
                refine s_lstore (pc2 := 103) w dX11_scan_101 rfl rfl ?_
                dsimp only [gk_s1, gk_s2, gk_cl]
                refine s_iload (pc2 := 105) w dX11_scan_103 rfl rfl ?_
                refine s_iconst (pc2 := 106) (v := gI 2) w dX11_scan_105 rfl rfl ?_
                refine s_iload (pc2 := 108) w dX11_scan_106 rfl rfl ?_
                refine s_imul (pc2 := 109) w dX11_scan_108 rfl ?_
                rw [gI_nI (s + 1)]
                rw [gI_mul]
                refine s_iadd (pc2 := 110) w dX11_scan_109 rfl ?_
                rw [gI_add, show -((s + 1 : Nat) : Int) + 2 * ((s + 1 : Nat) : Int) = ((s + 1 : Nat) : Int) by omega]
                rw [← gI_nI (s + 1)]
                refine s_istore (pc2 := 112) w dX11_scan_110 rfl rfl ?_
                dsimp only [gk_s1, gk_s2, gk_cl]
                refine s_goto (tgt := 67) w dX11_scan_112 (by decide) ?_
                have ep := mx_t2 (E := (fun n => gL (gE (gB g (ow (n + 1) * ((sn : Nat) : Int))) b e))) (lb := (fun n => gI (ow (n + 1)))) (s := (0, -1)) (n := 2 * s + 1) eE eL c92
                have h9 := w2 (some (.long (gL (gE (gB g ((-((s + 1 : Nat) : Int)) * (sn : Int))) b e)))) none x1 (fh.ge hx1)
                rw [show 2 * (s + 1) = 2 * s + 1 + 1 by omega, ep] at h9
                exact h9
            refine s_iload (pc2 := 58) w dX11_scan_56 rfl rfl ?_
            refine s_iload_n (pc2 := 59) w dX11_scan_58 rfl rfl ?_
            refine s_ic_gt (pc2 := 62) (tgt := 121) w dX11_scan_59 rfl (by decide) (fun h0 => absurd h0 (by rw [gI_nI, gI_nI, gI_lt ⟨by omega, by omega⟩ ⟨by omega, by omega⟩]; omega)) (fun _ => ?_)
            refine s_iload (pc2 := 64) w dX11_scan_62 rfl rfl ?_
            refine s_ineg (pc2 := 65) w dX11_scan_64 rfl ?_
            rw [gI_nI (s + 1), gI_neg]
            rw [← gI_nI (s + 1)]
            refine s_istore (pc2 := 67) w dX11_scan_65 rfl rfl ?_
            dsimp only [gk_s1, gk_s2, gk_cl]
            exact w1 l10 l11 xh fh
        have h9 := key gn 0 none none none x1 (f0.ge hx1) (by omega)
        rw [show 2 * 0 + 1 = 1 from rfl, mx_12 (E := (fun n => gL (gE (gB g (ow (n + 1) * ((sn : Nat) : Int))) b e))) (lb := (fun n => gI (ow (n + 1)))) (s := (0, -1)) (a := 0) (v := gL (gE (gB g 0) b e)) (congrArg (fun z => gL (gE (gB g z) b e)) (Int.zero_mul _)) rfl (gB_p hp1.1 hp1.2.1 (by omega) eh)] at h9
        exact h9
      · refine s_aload_n (pc2 := 35) w dX11_scan_34 rfl rfl ?_
        refine s_iconst (pc2 := 36) (v := gI 1) w dX11_scan_35 rfl rfl ?_
        refine r_X11_fail (pc2 := 39) w dX11_scan_36 rfl rfl rfl ?_
        refine s_ireturn w dX11_scan_39 rfl rfl ?_
        rw [g_b0] at c31
        exact q1  (fun hc => c31 hc.2.2) _ _ (f0.fail 1)
theorem lk_X11_scan {l : Launch} (hl : l.stackTraces = false) : ∀ q ∈ L_X11_scan, (q.2.1 < 5 → gk_Lk l RX11 gk_W1 7 q.1 q.2.1 q.2.2.1 q.2.2.2.1 q.2.2.2.2.1 q.2.2.2.2.2) := (List.forall_mem_cons.mpr ⟨(fun _ => ⟨yX11_isBetween, cX11_isBetween, 3, (some .boolean), 0, _, M_X11_isBetween hl, ⟨by decide, by decide⟩, ⟨by decide, by decide, by decide +kernel⟩, ⟨(gk_wm 1334 (by decide +kernel)), (gk_wm 99 (by decide +kernel))⟩, Or.inl ⟨rfl, rfl, (gk_wm 1333 (by decide +kernel)), gk_wm 1332 (by decide +kernel)⟩⟩), (List.forall_mem_cons.mpr ⟨(fun _ => ⟨yX11_fail, cX11_fail, 2, (some .int), 0, _, M_X11_fail hl, ⟨by decide, by decide⟩, ⟨by decide, by decide, by decide +kernel⟩, ⟨(gk_wm 1342 (by decide +kernel)), (gk_wm 99 (by decide +kernel))⟩, Or.inr (Or.inr (Or.inr (Or.inl ⟨rfl, rfl, (gk_wm 1341 (by decide +kernel)), (gk_wm 32 (by decide +kernel)), gk_wm 1339 (by decide +kernel), by decide, rfl⟩)))⟩), (List.forall_mem_cons.mpr ⟨(fun _ => ⟨yX11_isWindow, cX11_isWindow, 2, (some .boolean), 2, _, M_X11_isWindow hl, ⟨by decide, by decide⟩, ⟨by decide, by decide, by decide +kernel⟩, ⟨(gk_wm 1525 (by decide +kernel)), (gk_wm 99 (by decide +kernel))⟩, Or.inl ⟨rfl, rfl, (gk_wm 1524 (by decide +kernel)), gk_wm 1523 (by decide +kernel)⟩⟩), (List.forall_mem_cons.mpr ⟨(fun _ => ⟨yX11_energyWith, cX11_energyWith, 4, (some .long), 6, _, M_X11_energyWith hl, ⟨by decide, by decide⟩, ⟨by decide, by decide, by decide +kernel⟩, ⟨(gk_wm 1679 (by decide +kernel)), (gk_wm 99 (by decide +kernel))⟩, Or.inr (Or.inr (Or.inr (Or.inl ⟨rfl, rfl, (gk_wm 1678 (by decide +kernel)), (gk_wm 74 (by decide +kernel)), gk_wm 1676 (by decide +kernel), by decide, rfl⟩)))⟩), (fun _ h => absurd h List.not_mem_nil)⟩)⟩)⟩)⟩)
theorem sp_X11_scan : ∀ q ∈ L_X11_scan, gk_Sq RX11 gk_W1 7 q := (List.forall_mem_cons.mpr ⟨⟨fun h => absurd h (by decide), fun h => absurd h (by decide), fun h => absurd h (by decide), fun h => absurd h (by decide), fun h => absurd h (by decide), fun h => absurd h (by decide)⟩, (List.forall_mem_cons.mpr ⟨⟨fun h => absurd h (by decide), fun h => absurd h (by decide), fun h => absurd h (by decide), fun h => absurd h (by decide), fun h => absurd h (by decide), fun h => absurd h (by decide)⟩, (List.forall_mem_cons.mpr ⟨⟨fun h => absurd h (by decide), fun h => absurd h (by decide), fun h => absurd h (by decide), fun h => absurd h (by decide), fun h => absurd h (by decide), fun h => absurd h (by decide)⟩, (List.forall_mem_cons.mpr ⟨⟨fun h => absurd h (by decide), fun h => absurd h (by decide), fun h => absurd h (by decide), fun h => absurd h (by decide), fun h => absurd h (by decide), fun h => absurd h (by decide)⟩, (fun _ h => absurd h List.not_mem_nil)⟩)⟩)⟩)⟩)
theorem M_X11_scan {l : Launch} (hl : l.stackTraces = false) : gk_Mt l yX11_scan (.code yX11_scan cX11_scan 12 (some .int) :: gk_W1) 7 0 S_X11_scan := gk_meth hl gk_cw_ok (by decide +kernel) rfl m_X11_scan pX11_ok (gk_Sp_of sp_X11_scan) pX11_st (fun ci m S h => absurd h (by intro h; cases h)) (xf_X11 7) (fun idx kd ci mm cost S2 h h5 => lk_X11_scan hl _ (gk_lk_mem h) h5)

def S_X11_passTime : gk_S := fun as n fl x y K => ∃ (v : Int32) (m : Int32) (g : Nat → Int32), as = [.ref 189, .int v, .int m] ∧ (n = 202 ∧ fl = gk_fT) ∧ (MG g x) ∧ (gOK g) ∧ (((0 ≤ v ∧ v < g 6) ∧ (0 ≤ m ∧ m < g 8)) → ∀ (x2 : gk_X) (y2 : gk_Y), MOk g 0 x x2 y y2 → K (.inl (some (.int ((gk_mn (dP g (cN v) (cN m)) (0, 2147483647) 256).1)))) n fl x2 y2) ∧ (¬ ((0 ≤ v ∧ v < g 6) ∧ (0 ≤ m ∧ m < g 8)) → ∀ (x2 : gk_X) (y2 : gk_Y), MOk g 1 x x2 y y2 → K (.inl (some (.int 0))) n fl x2 y2)
theorem r_X11_passTime (w : gk_W c P cs (fun _ _ => none) rt uf sc K V) {idx : Nat} {v : Int32} {m : Int32} {g : Nat → Int32} (hd : decode c pc = .ok (.invokevirtual idx, 3)) (hp : pc + 3 = pc2) (hc : cs idx = some (1, 10, 3, 0, S_X11_passTime)) (h8 : Nat.ble (r.map Value.category).sum 8 = true) (hp0 : MG g x) (hp1 : gOK g) (kk0 : ((0 ≤ v ∧ v < g 6) ∧ (0 ≤ m ∧ m < g 8)) → ∀ (x2 : gk_X) (y2 : gk_Y), MOk g 0 x x2 y y2 → V pc2 L ((.int ((gk_mn (dP g (cN v) (cN m)) (0, 2147483647) 256).1)) :: r) 202 gk_fT x2 y2 u) (kk1 : ¬ ((0 ≤ v ∧ v < g 6) ∧ (0 ≤ m ∧ m < g 8)) → ∀ (x2 : gk_X) (y2 : gk_Y), MOk g 1 x x2 y y2 → V pc2 L ((.int 0) :: r) 202 gk_fT x2 y2 u) : V pc L (.int m :: .int v :: .ref 189 :: r) 202 gk_fT x y u :=
  g_callv w hd hp hc (as := [.ref 189, .int v, .int m]) rfl h8 rfl rfl rfl (Or.inr (Or.inl ⟨Or.inl rfl, _, _, rfl, (gk_kd_j rfl rfl), rfl⟩)) (Or.inl rfl) ⟨v, m, g, rfl, ⟨rfl, rfl⟩, hp0, hp1, kk0, kk1⟩
def L_X11_passTime : List (Nat × gk_M0) := [(64, (1, 10, 2, 0, S_X11_fail)), (75, (1, 10, 2, 0, S_X11_isVehicle)), (106, (1, 10, 2, 0, S_X11_isMicrophone)), (116, (1, 10, 3, 0, S_X11_microphone)), (123, (1, 10, 4, 0, S_X11_placeX)), (147, (7, 0, 0, 0, fun _ _ _ _ _ _ => False))]
def cs_X11_passTime : Nat → Option gk_M0 := gk_lk L_X11_passTime
theorem m_X11_passTime : ∀ (as : List Value) (n : Nat) (fl : gk_F) (x : gk_X) (y : gk_Y) (K : gk_K), S_X11_passTime as n fl x y K → (gk_L0 as).length ≤ 7 ∧ ∀ V : gk_V, gk_W cX11_passTime pX11 cs_X11_passTime (fun _ _ => none) (some .int) 0 none K V → V 0 (gk_en as 7) [] n fl x y 0 := by
  intro as n fl x y K hS
  obtain ⟨v, m, g, rfl, ⟨rfl, rfl⟩, hp0, hp1, q0, q1⟩ := hS
  refine ⟨Nat.le_of_ble_eq_true rfl, fun V w => ?_⟩
  show V 0 [some (.ref 189), some (.int v), some (.int m), none, none, none, none] [] 202 gk_fT x y 0
  obtain ⟨nv4, ns6, nm8, z6, z7, z8⟩ := wf_n hp1.1
  have w6 : 0 ≤ (g 6).toInt := by show 0 ≤ gz g 6; omega
  have w7 : 0 ≤ (g 7).toInt := by show 0 ≤ gz g 7; omega
  have w8 : 0 ≤ (g 8).toInt := by show 0 ≤ gz g 8; omega
  refine s_aload_n (pc2 := 1) w dX11_passTime_0 rfl rfl ?_
  refine s_iconst (pc2 := 2) (v := 0) w dX11_passTime_1 rfl rfl ?_
  refine m_putI (pc2 := 5) (ci := 10) (k := 4) w dX11_passTime_2 rfl rfl rfl rfl rfl (by intro h; cases h) ?_
  have f0 := MOk.ini (y := y) hp0
  generalize gk_up x 189 4 0 = x0 at f0 ⊢
  refine s_aload_n (pc2 := 6) w dX11_passTime_5 rfl rfl ?_
  refine s_iload_n (pc2 := 7) w dX11_passTime_6 rfl rfl ?_
  refine r_X11_isVehicle (pc2 := 10) w dX11_passTime_7 rfl rfl rfl ?_
  rw [f0.1 6 (by decide), isn_e w6]
  refine s_if_eq (pc2 := 13) (tgt := 21) w dX11_passTime_10 rfl (by decide) (fun c10 => ?_) (fun c10 => ?_)
  · refine s_aload_n (pc2 := 22) w dX11_passTime_21 rfl rfl ?_
    refine s_iconst (pc2 := 23) (v := 1) w dX11_passTime_22 rfl rfl ?_
    refine r_X11_fail (pc2 := 26) w dX11_passTime_23 rfl rfl rfl ?_
    refine s_ireturn w dX11_passTime_26 rfl rfl ?_
    rw [g_b0] at c10
    exact q1  (fun hc => c10 hc.1) _ _ (f0.fail 1)
  · rw [g_b0, Classical.not_not] at c10
    refine s_aload_n (pc2 := 14) w dX11_passTime_13 rfl rfl ?_
    refine s_iload_n (pc2 := 15) w dX11_passTime_14 rfl rfl ?_
    refine r_X11_isMicrophone (pc2 := 18) w dX11_passTime_15 rfl rfl rfl ?_
    rw [f0.1 8 (by decide), isn_e w8]
    refine s_if_ne (pc2 := 21) (tgt := 27) w dX11_passTime_18 rfl (by decide) (fun c18 => ?_) (fun c18 => ?_)
    · rw [g_b0, Classical.not_not] at c18
      obtain ⟨v2, rfl, vh⟩ := ix_n c10
      have vh : v2 < nV g := vh
      obtain ⟨a, rfl, ah⟩ := ix_n c18
      have ah : a < nM g := ah
      rw [cN_n v2 (by omega), cN_n a (by omega)] at q0
      refine s_iconst (pc2 := 28) (v := 0) w dX11_passTime_27 rfl rfl ?_
      refine s_istore_n (pc2 := 29) (k2 := 3) w dX11_passTime_28 rfl rfl rfl ?_
      dsimp only [gk_s1, gk_s2, gk_cl]
      refine s_iconst (pc2 := 30) (v := 0) w dX11_passTime_29 rfl rfl ?_
      refine s_istore (pc2 := 32) w dX11_passTime_30 rfl rfl ?_
      dsimp only [gk_s1, gk_s2, gk_cl]
      refine s_iconst (pc2 := 33) (v := 0) w dX11_passTime_32 rfl rfl ?_
      refine s_istore (pc2 := 35) w dX11_passTime_33 rfl rfl ?_
      dsimp only [gk_s1, gk_s2, gk_cl]
      have key : ∀ (k n : Nat) (be le : Int32) (l6 : Option Value), n + k = 256 → ((n = 0 ∧ be = 0) ∨ (0 < n ∧ be = (gk_mn (dP g v2 a) (0, 2147483647) (n)).1 ∧ le = (gk_mn (dP g v2 a) (0, 2147483647) (n)).2)) → V 35 [some (.ref 189), some (.int (nI v2)), some (.int (nI a)), some (.int be), some (.int le), some (.int (nI n)), l6] [] 202 gk_fT x0 y 0 := by
        intro k
        induction k with
        | zero =>
          intro n be le l6 ht hi -- ht
          have hn : n = 256 := by omega
          subst hn
          refine s_iload (pc2 := 37) w dX11_passTime_35 rfl rfl ?_
          refine s_sipush (pc2 := 40) (v := gI 256) w dX11_passTime_37 rfl rfl ?_
          refine s_ic_ge (pc2 := 43) (tgt := 88) w dX11_passTime_40 rfl (by decide) (fun _ => ?_) (fun h0 => absurd (by rw [gI_nI, gI_le ⟨by omega, by omega⟩ ⟨by omega, by omega⟩]; omega) h0)
          refine s_iload_n (pc2 := 89) w dX11_passTime_88 rfl rfl ?_
          refine s_ireturn w dX11_passTime_89 rfl rfl ?_
          have er : be = (gk_mn (dP g v2 a) (0, 2147483647) (256)).1 := by
            rcases hi with ⟨h1, -⟩ | ⟨-, h1, -⟩
            · omega
            · exact h1
          rw [er]
          exact q0 ⟨c10, c18⟩ _ _ f0
        | succ k ih =>
          intro n be le l6 ht hi -- ht
          refine s_iload (pc2 := 37) w dX11_passTime_35 rfl rfl ?_
          refine s_sipush (pc2 := 40) (v := gI 256) w dX11_passTime_37 rfl rfl ?_
          refine s_ic_ge (pc2 := 43) (tgt := 88) w dX11_passTime_40 rfl (by decide) (fun h0 => absurd h0 (by rw [gI_nI, gI_le ⟨by omega, by omega⟩ ⟨by omega, by omega⟩]; omega)) (fun _ => ?_)
          refine s_aload_n (pc2 := 44) w dX11_passTime_43 rfl rfl ?_
          refine s_iload_n (pc2 := 45) w dX11_passTime_44 rfl rfl ?_
          refine s_iconst (pc2 := 46) (v := gI 0) w dX11_passTime_45 rfl rfl ?_
          refine s_iload (pc2 := 48) w dX11_passTime_46 rfl rfl ?_
          refine r_X11_placeX (pc2 := 51) (X := 0) (PX := gz g (16 + 3 * v2 + 0)) (SX := gz g (16 + 3 * v2 + 1)) (tt := (n : Int)) w dX11_passTime_48 rfl rfl rfl rfl (Or.inr ⟨v2, gz g (16 + 3 * v2 + 0), rfl, by omega, (f0.1 _ (by omega)).trans (gz_I g _), (f0.1 _ (by omega)).trans (gz_I g _), (Int.add_zero _).symm⟩) rfl ?_
          refine s_aload_n (pc2 := 52) w dX11_passTime_51 rfl rfl ?_
          refine s_iload_n (pc2 := 53) w dX11_passTime_52 rfl rfl ?_
          refine s_iconst (pc2 := 54) (v := gI 0) w dX11_passTime_53 rfl rfl ?_
          refine r_X11_microphone (pc2 := 57) (b := 0) w dX11_passTime_54 rfl rfl rfl rfl rfl (by omega) ?_
          rw [f0.1 (154 + 4 * a + 0) (by omega), gz_I g (154 + 4 * a + 0)]
          refine s_isub (pc2 := 58) w dX11_passTime_57 rfl ?_
          rw [gI_sub]
          refine s_abs (pc2 := 61) w dX11_passTime_58 rfl rfl rfl ?_
          show V _ _ (.int (dP g v2 a n) :: _) _ _ _ _ _
          refine s_istore (pc2 := 63) w dX11_passTime_61 rfl rfl ?_
          dsimp only [gk_s1, gk_s2, gk_cl]
          refine s_iload (pc2 := 65) w dX11_passTime_63 rfl rfl ?_
          refine s_if_eq (pc2 := 68) (tgt := 75) w dX11_passTime_65 rfl (by decide) (fun c65 => ?_) (fun c65 => ?_)
          · refine s_iload (pc2 := 77) w dX11_passTime_75 rfl rfl ?_
            refine s_istore_n (pc2 := 78) (k2 := 3) w dX11_passTime_77 rfl rfl rfl ?_
            dsimp only [gk_s1, gk_s2, gk_cl]
            refine s_iload (pc2 := 80) w dX11_passTime_78 rfl rfl ?_
            refine s_istore (pc2 := 82) w dX11_passTime_80 rfl rfl ?_
            dsimp only [gk_s1, gk_s2, gk_cl]
            refine s_iinc (pc2 := 85) w dX11_passTime_82 rfl rfl rfl rfl ?_
            dsimp only [gk_s1, gk_s2, gk_cl]
            rw [nI_s]
            refine s_goto (tgt := 35) w dX11_passTime_85 (by decide) ?_
            have hn : n = 0 := by
              rw [gI_nI, show (0 : Int32) = gI 0 from rfl, gI_eq ⟨by omega, by omega⟩ ⟨by omega, by omega⟩] at c65
              omega
            subst hn
            have ep : gk_mn (dP g v2 a) (0, 2147483647) 1 = (nI 0, dP g v2 a 0) := if_pos (dP_0 hp1.1 vh ah)
            exact ih 1 _ _ _ (by omega) (Or.inr ⟨by decide, by rw [ep], by rw [ep]⟩)
          · refine s_iload (pc2 := 70) w dX11_passTime_68 rfl rfl ?_
            refine s_iload (pc2 := 72) w dX11_passTime_70 rfl rfl ?_
            refine s_ic_ge (pc2 := 75) (tgt := 82) w dX11_passTime_72 rfl (by decide) (fun c72 => ?_) (fun c72 => ?_)
            · refine s_iinc (pc2 := 85) w dX11_passTime_82 rfl rfl rfl rfl ?_
              dsimp only [gk_s1, gk_s2, gk_cl]
              rw [nI_s]
              refine s_goto (tgt := 35) w dX11_passTime_85 (by decide) ?_
              obtain ⟨-, h1, h2⟩ : 0 < n ∧ _ := by
                rcases hi with ⟨h1, -⟩ | h1
                · subst h1; exact absurd rfl c65
                · exact h1
              rw [h2] at c72
              have ep := mn_f c72
              exact ih (n + 1) _ _ _ (by omega) (Or.inr ⟨Nat.succ_pos n, by rw [ep]; exact h1, by rw [ep]; exact h2⟩)
            · refine s_iload (pc2 := 77) w dX11_passTime_75 rfl rfl ?_
              refine s_istore_n (pc2 := 78) (k2 := 3) w dX11_passTime_77 rfl rfl rfl ?_
              dsimp only [gk_s1, gk_s2, gk_cl]
              refine s_iload (pc2 := 80) w dX11_passTime_78 rfl rfl ?_
              refine s_istore (pc2 := 82) w dX11_passTime_80 rfl rfl ?_
              dsimp only [gk_s1, gk_s2, gk_cl]
              refine s_iinc (pc2 := 85) w dX11_passTime_82 rfl rfl rfl rfl ?_
              dsimp only [gk_s1, gk_s2, gk_cl]
              rw [nI_s]
              refine s_goto (tgt := 35) w dX11_passTime_85 (by decide) ?_
              obtain ⟨-, h1, h2⟩ : 0 < n ∧ _ := by
                rcases hi with ⟨h1, -⟩ | h1
                · subst h1; exact absurd rfl c65
                · exact h1
              rw [h2] at c72
              have ep := mn_t c72
              exact ih (n + 1) _ _ _ (by omega) (Or.inr ⟨Nat.succ_pos n, by rw [ep], by rw [ep]⟩)
      exact key 256 0 0 0 none (by omega) (Or.inl ⟨rfl, rfl⟩)
    · refine s_aload_n (pc2 := 22) w dX11_passTime_21 rfl rfl ?_
      refine s_iconst (pc2 := 23) (v := gI 1) w dX11_passTime_22 rfl rfl ?_
      refine r_X11_fail (pc2 := 26) w dX11_passTime_23 rfl rfl rfl ?_
      refine s_ireturn w dX11_passTime_26 rfl rfl ?_
      rw [g_b0] at c18
      exact q1  (fun hc => c18 hc.2) _ _ (f0.fail 1)
theorem lk_X11_passTime {l : Launch} (hl : l.stackTraces = false) : ∀ q ∈ L_X11_passTime, (q.2.1 < 5 → gk_Lk l RX11 gk_W1 2 q.1 q.2.1 q.2.2.1 q.2.2.2.1 q.2.2.2.2.1 q.2.2.2.2.2) := (List.forall_mem_cons.mpr ⟨(fun _ => ⟨yX11_fail, cX11_fail, 2, (some .int), 0, _, M_X11_fail hl, ⟨by decide, by decide⟩, ⟨by decide, by decide, by decide +kernel⟩, ⟨(gk_wm 1342 (by decide +kernel)), (gk_wm 99 (by decide +kernel))⟩, Or.inr (Or.inr (Or.inr (Or.inl ⟨rfl, rfl, (gk_wm 1341 (by decide +kernel)), (gk_wm 32 (by decide +kernel)), gk_wm 1339 (by decide +kernel), by decide, rfl⟩)))⟩), (List.forall_mem_cons.mpr ⟨(fun _ => ⟨yX11_isVehicle, cX11_isVehicle, 2, (some .boolean), 1, _, M_X11_isVehicle hl, ⟨by decide, by decide⟩, ⟨by decide, by decide, by decide +kernel⟩, ⟨(gk_wm 1373 (by decide +kernel)), (gk_wm 99 (by decide +kernel))⟩, Or.inr (Or.inr (Or.inr (Or.inl ⟨rfl, rfl, (gk_wm 1372 (by decide +kernel)), (gk_wm 34 (by decide +kernel)), gk_wm 1370 (by decide +kernel), by decide, rfl⟩)))⟩), (List.forall_mem_cons.mpr ⟨(fun _ => ⟨yX11_isMicrophone, cX11_isMicrophone, 2, (some .boolean), 1, _, M_X11_isMicrophone hl, ⟨by decide, by decide⟩, ⟨by decide, by decide, by decide +kernel⟩, ⟨(gk_wm 1421 (by decide +kernel)), (gk_wm 99 (by decide +kernel))⟩, Or.inr (Or.inr (Or.inr (Or.inl ⟨rfl, rfl, (gk_wm 1420 (by decide +kernel)), (gk_wm 40 (by decide +kernel)), gk_wm 1418 (by decide +kernel), by decide, rfl⟩)))⟩), (List.forall_mem_cons.mpr ⟨(fun _ => ⟨yX11_microphone, cX11_microphone, 3, (some .int), 0, _, M_X11_microphone hl, ⟨by decide, by decide⟩, ⟨by decide, by decide, by decide +kernel⟩, ⟨(gk_wm 1464 (by decide +kernel)), (gk_wm 99 (by decide +kernel))⟩, Or.inr (Or.inr (Or.inr (Or.inl ⟨rfl, rfl, (gk_wm 1463 (by decide +kernel)), (gk_wm 47 (by decide +kernel)), gk_wm 1461 (by decide +kernel), by decide, rfl⟩)))⟩), (List.forall_mem_cons.mpr ⟨(fun _ => ⟨yX11_placeX, cX11_placeX, 4, (some .int), 1, _, M_X11_placeX hl, ⟨by decide, by decide⟩, ⟨by decide, by decide, by decide +kernel⟩, ⟨(gk_wm 1456 (by decide +kernel)), (gk_wm 99 (by decide +kernel))⟩, Or.inr (Or.inr (Or.inr (Or.inl ⟨rfl, rfl, (gk_wm 1455 (by decide +kernel)), (gk_wm 45 (by decide +kernel)), gk_wm 1453 (by decide +kernel), by decide, rfl⟩)))⟩), (List.forall_mem_cons.mpr ⟨(fun h => absurd h (by decide)), (fun _ h => absurd h List.not_mem_nil)⟩)⟩)⟩)⟩)⟩)⟩)
theorem sp_X11_passTime : ∀ q ∈ L_X11_passTime, gk_Sq RX11 gk_W1 2 q := (List.forall_mem_cons.mpr ⟨⟨fun h => absurd h (by decide), fun h => absurd h (by decide), fun h => absurd h (by decide), fun h => absurd h (by decide), fun h => absurd h (by decide), fun h => absurd h (by decide)⟩, (List.forall_mem_cons.mpr ⟨⟨fun h => absurd h (by decide), fun h => absurd h (by decide), fun h => absurd h (by decide), fun h => absurd h (by decide), fun h => absurd h (by decide), fun h => absurd h (by decide)⟩, (List.forall_mem_cons.mpr ⟨⟨fun h => absurd h (by decide), fun h => absurd h (by decide), fun h => absurd h (by decide), fun h => absurd h (by decide), fun h => absurd h (by decide), fun h => absurd h (by decide)⟩, (List.forall_mem_cons.mpr ⟨⟨fun h => absurd h (by decide), fun h => absurd h (by decide), fun h => absurd h (by decide), fun h => absurd h (by decide), fun h => absurd h (by decide), fun h => absurd h (by decide)⟩, (List.forall_mem_cons.mpr ⟨⟨fun h => absurd h (by decide), fun h => absurd h (by decide), fun h => absurd h (by decide), fun h => absurd h (by decide), fun h => absurd h (by decide), fun h => absurd h (by decide)⟩, (List.forall_mem_cons.mpr ⟨⟨fun h => absurd h (by decide), fun h => absurd h (by decide), fun _ => ⟨by decide, gk_wm 1486 (by decide +kernel), (gk_wm 960 (by decide +kernel)), (gk_wm 107 (by decide +kernel)), gk_wm 961 (by decide +kernel)⟩, fun h => absurd h (by decide), fun h => absurd h (by decide), fun h => absurd h (by decide)⟩, (fun _ h => absurd h List.not_mem_nil)⟩)⟩)⟩)⟩)⟩)⟩)
theorem M_X11_passTime {l : Launch} (hl : l.stackTraces = false) : gk_Mt l yX11_passTime (.code yX11_passTime cX11_passTime 7 (some .int) :: gk_W1) 2 0 S_X11_passTime := gk_meth hl gk_cw_ok (by decide +kernel) rfl m_X11_passTime pX11_ok (gk_Sp_of sp_X11_passTime) pX11_st (fun ci m S h => absurd h (by intro h; cases h)) (xf_X11 2) (fun idx kd ci mm cost S2 h h5 => lk_X11_passTime hl _ (gk_lk_mem h) h5)

end GKV

/-! THE METHODS, 4: the reference, distances -/
section GKV
variable {c : ByteArray} {P : gk_C} {cs : Nat → Option gk_M0} {rt : Option FieldType} {uf : Nat} {sc : Option Nat} {K : gk_K} {V : gk_V}
variable {L : List (Option Value)} {r : List Value} {n : Nat} {fl : gk_F} {x : gk_X} {y : gk_Y} {u pc pc2 : Nat}
theorem nI_s (t : Nat) : nI t + Int32.ofInt 1 = nI (t + 1) := gI_add t 1
def S_X11_root : gk_S := fun as n fl x y K => ∃ (v : Int64) (s : Int), as = [.long v] ∧ (n = 202 ∧ fl = gk_fT) ∧ (v = gL s) ∧ (0 ≤ s) ∧ (s < 4294967296) ∧ (K (.inl (some (.int (gI (gk_rt s))))) n fl x y)
theorem r_X11_root (w : gk_W c P cs (fun _ _ => none) rt uf sc K V) {idx : Nat} {v : Int64} {s : Int} (hd : decode c pc = .ok (.invokestatic idx, 3)) (hp : pc + 3 = pc2) (hc : cs idx = some (0, 10, 1, 0, S_X11_root)) (h8 : Nat.ble (r.map Value.category).sum 8 = true) (hp0 : v = gL s) (hp1 : 0 ≤ s) (hp2 : s < 4294967296) (kk0 : V pc2 L ((.int (gI (gk_rt s))) :: r) 202 gk_fT x y u) : V pc L (.long v :: r) 202 gk_fT x y u :=
  g_calls w hd hp hc (as := [.long v]) rfl h8 rfl rfl rfl (Or.inl rfl) (Or.inl rfl) ⟨v, s, rfl, ⟨rfl, rfl⟩, hp0, hp1, hp2, kk0⟩
def L_X11_root : List (Nat × gk_M0) := []
def cs_X11_root : Nat → Option gk_M0 := gk_lk L_X11_root
theorem m_X11_root : ∀ (as : List Value) (n : Nat) (fl : gk_F) (x : gk_X) (y : gk_Y) (K : gk_K), S_X11_root as n fl x y K → (gk_L0 as).length ≤ 8 ∧ ∀ V : gk_V, gk_W cX11_root pX11 cs_X11_root (fun _ _ => none) (some .int) 0 none K V → V 0 (gk_en as 8) [] n fl x y 0 := by
  intro as n fl x y K hS
  obtain ⟨v, s, rfl, ⟨rfl, rfl⟩, hp0, hp1, hp2, q0⟩ := hS
  refine ⟨Nat.le_of_ble_eq_true rfl, fun V w => ?_⟩
  show V 0 [some (.long v), none, none, none, none, none, none, none] [] 202 gk_fT x y 0
  subst hp0
  have hr := gk_rt_s hp1
  have hrn := gk_rt_nn s
  have hrl : gk_rt s < 65536 := gk_rt_lt (by decide) (by omega)
  generalize gk_rt s = q at hr hrn hrl q0
  have key : ∀ (n : Nat) (lo hi : Int) (m6 : Option Value), hi - lo ≤ n → 0 ≤ lo → lo ≤ q → q ≤ hi → hi ≤ 70000 → V 7 [some (.long (gL s)), none, some (.long (gL lo)), none, some (.long (gL hi)), none, m6, none] [] 202 gk_fT x y 0 := by
    intro n
    induction n with
    | zero =>
      intro lo hi m6 h1 h2 h3 h4 h5
      have h6 : lo = q := by omega
      have h7 : hi = q := by omega
      subst h6
      subst h7
      refine s_lload_n (pc2 := 8) w dX11_root_7 rfl rfl ?_
      refine s_lload (pc2 := 10) w dX11_root_8 rfl rfl ?_
      refine s_lcmp (pc2 := 11) w dX11_root_10 rfl ?_
      refine s_if_ge (pc2 := 14) (tgt := 51) w dX11_root_11 rfl (by decide) (fun _ => ?_) (fun h0 => absurd ((lc_ge _ _).mpr (Int64.le_refl _)) h0)
      refine s_lload_n (pc2 := 52) w dX11_root_51 rfl rfl ?_
      refine s_l2i (pc2 := 53) w dX11_root_52 rfl ?_
      refine s_ireturn w dX11_root_53 rfl rfl ?_
      rw [gLI]
      exact q0
    | succ n ih =>
      intro lo hi m6 h1 h2 h3 h4 h5
      refine s_lload_n (pc2 := 8) w dX11_root_7 rfl rfl ?_
      refine s_lload (pc2 := 10) w dX11_root_8 rfl rfl ?_
      refine s_lcmp (pc2 := 11) w dX11_root_10 rfl ?_
      refine s_if_ge (pc2 := 14) (tgt := 51) w dX11_root_11 rfl (by decide) (fun c11 => ?_) (fun c11 => ?_)
      · refine s_lload_n (pc2 := 52) w dX11_root_51 rfl rfl ?_
        refine s_l2i (pc2 := 53) w dX11_root_52 rfl ?_
        refine s_ireturn w dX11_root_53 rfl rfl ?_
        rw [gLI]
        rw [lc_ge, gL_le ⟨by omega, by omega⟩ ⟨by omega, by omega⟩] at c11
        have h6 : lo = q := by omega
        subst h6
        exact q0
      · refine s_lload_n (pc2 := 15) w dX11_root_14 rfl rfl ?_
        refine s_lload (pc2 := 17) w dX11_root_15 rfl rfl ?_
        refine s_ladd (pc2 := 18) w dX11_root_17 rfl ?_
        refine s_lconst (pc2 := 19) (v := gL 1) w dX11_root_18 rfl rfl ?_
        refine s_ladd (pc2 := 20) w dX11_root_19 rfl ?_
        refine s_ldc2_w (pc2 := 23) (v := 2) w dX11_root_20 rfl rfl ?_
        refine s_ldiv (pc2 := 24) w dX11_root_23 rfl (by rw [show (0 : Int64) = gL 0 from rfl, show (2 : Int64) = gL 2 from rfl, gL_eq ⟨by omega, by omega⟩ ⟨by omega, by omega⟩]; omega) ?_
        rw [gL_add, gL_add, show (2 : Int64) = gL 2 from rfl, gL_div ⟨by omega, by omega⟩ ⟨by omega, by omega⟩, Int.tdiv_eq_ediv_of_nonneg (by omega)]
        obtain ⟨m, hm⟩ : ∃ m, m = (lo + hi + 1) / 2 := ⟨_, rfl⟩
        rw [← hm]
        rw [lc_ge, gL_le ⟨by omega, by omega⟩ ⟨by omega, by omega⟩] at c11
        have hq2 := gk_sqb (a := m) (A := 70000) (by omega) (by omega)
        refine s_lstore (pc2 := 26) w dX11_root_24 rfl rfl ?_
        dsimp only [gk_s1, gk_s2, gk_cl]
        refine s_lload (pc2 := 28) w dX11_root_26 rfl rfl ?_
        refine s_lload (pc2 := 30) w dX11_root_28 rfl rfl ?_
        refine s_lmul (pc2 := 31) w dX11_root_30 rfl ?_
        rw [gL_mul]
        refine s_lload_n (pc2 := 32) w dX11_root_31 rfl rfl ?_
        refine s_lcmp (pc2 := 33) w dX11_root_32 rfl ?_
        refine s_if_gt (pc2 := 36) (tgt := 42) w dX11_root_33 rfl (by decide) (fun c33 => ?_) (fun c33 => ?_)
        · refine s_lload (pc2 := 44) w dX11_root_42 rfl rfl ?_
          refine s_lconst (pc2 := 45) (v := gL 1) w dX11_root_44 rfl rfl ?_
          refine s_lsub (pc2 := 46) w dX11_root_45 rfl ?_
          rw [gL_sub]
          refine s_lstore (pc2 := 48) w dX11_root_46 rfl rfl ?_
          dsimp only [gk_s1, gk_s2, gk_cl]
          refine s_goto (tgt := 7) w dX11_root_48 (by decide) ?_
          rw [lc_gt, gL_lt ⟨by omega, by omega⟩ ⟨by omega, by omega⟩] at c33
          refine ih lo (m - 1) _ (by omega) h2 h3 ?_ (by omega)
          rcases Int.lt_or_le q m with h8 | h8
          · omega
          · have := Int.mul_le_mul h8 h8 (by omega) (by omega); omega
        · refine s_lload (pc2 := 38) w dX11_root_36 rfl rfl ?_
          refine s_lstore_n (pc2 := 39) (k2 := 2) w dX11_root_38 rfl rfl rfl ?_
          dsimp only [gk_s1, gk_s2, gk_cl]
          refine s_goto (tgt := 48) w dX11_root_39 (by decide) ?_
          refine s_goto (tgt := 7) w dX11_root_48 (by decide) ?_
          rw [lc_gt, gL_lt ⟨by omega, by omega⟩ ⟨by omega, by omega⟩] at c33
          refine ih m hi _ (by omega) (by omega) ?_ h4 h5
          rcases Int.lt_or_le q m with h8 | h8
          · have := Int.mul_le_mul (show q + 1 ≤ m by omega) (show q + 1 ≤ m by omega) (by omega) (by omega); omega
          · exact h8
  refine s_lconst (pc2 := 1) (v := 0) w dX11_root_0 rfl rfl ?_
  refine s_lstore_n (pc2 := 2) (k2 := 2) w dX11_root_1 rfl rfl rfl ?_
  dsimp only [gk_s1, gk_s2, gk_cl]
  refine s_ldc2_w (pc2 := 5) (v := 70000) w dX11_root_2 rfl rfl ?_
  refine s_lstore (pc2 := 7) w dX11_root_5 rfl rfl ?_
  dsimp only [gk_s1, gk_s2, gk_cl]
  exact key 70000 0 70000 none (by decide) (by decide) hrn (by omega) (by decide)
theorem lk_X11_root {l : Launch} (hl : l.stackTraces = false) : ∀ q ∈ L_X11_root, (q.2.1 < 5 → gk_Lk l RX11 gk_W1 0 q.1 q.2.1 q.2.2.1 q.2.2.2.1 q.2.2.2.2.1 q.2.2.2.2.2) := (fun _ h => absurd h List.not_mem_nil)
theorem sp_X11_root : ∀ q ∈ L_X11_root, gk_Sq RX11 gk_W1 0 q := (fun _ h => absurd h List.not_mem_nil)
theorem M_X11_root {l : Launch} (hl : l.stackTraces = false) : gk_Mt l yX11_root (.code yX11_root cX11_root 8 (some .int) :: gk_W1) 0 0 S_X11_root := gk_meth hl gk_cw_ok (by decide +kernel) rfl m_X11_root pX11_ok (gk_Sp_of sp_X11_root) pX11_st (fun ci m S h => absurd h (by intro h; cases h)) (xf_X11 0) (fun idx kd ci mm cost S2 h h5 => lk_X11_root hl _ (gk_lk_mem h) h5)

def S_X11_distanceTo : gk_S := fun as n fl x y K => ∃ (m : Int32) (xv : Int32) (yv : Int32) (hv : Int32) (mm : Nat) (X : Int) (Y : Int) (H : Int) (mx : Int) (my : Int) (mh : Int), as = [.ref 189, .int m, .int xv, .int yv, .int hv] ∧ (n = 202 ∧ fl = gk_fT) ∧ (m = nI mm) ∧ (mm < 8) ∧ (xv = gI X) ∧ (yv = gI Y) ∧ (hv = gI H) ∧ (x 190 (154 + 4 * mm + 0) = gI mx) ∧ (x 190 (154 + 4 * mm + 1) = gI my) ∧ (x 190 (154 + 4 * mm + 2) = gI mh) ∧ (-42800 ≤ X - mx ∧ X - mx ≤ 42800) ∧ (-5100 ≤ Y - my ∧ Y - my ≤ 5100) ∧ (-1000 ≤ H - mh ∧ H - mh ≤ 1000) ∧ (K (.inl (some (.int (gI (gk_rt ((X - mx) * (X - mx) + (Y - my) * (Y - my) + (H - mh) * (H - mh))))))) n fl x y)
theorem r_X11_distanceTo (w : gk_W c P cs (fun _ _ => none) rt uf sc K V) {idx : Nat} {m : Int32} {xv : Int32} {yv : Int32} {hv : Int32} {mm : Nat} {X : Int} {Y : Int} {H : Int} {mx : Int} {my : Int} {mh : Int} (hd : decode c pc = .ok (.invokevirtual idx, 3)) (hp : pc + 3 = pc2) (hc : cs idx = some (1, 10, 5, 0, S_X11_distanceTo)) (h8 : Nat.ble (r.map Value.category).sum 8 = true) (hp0 : m = nI mm) (hp1 : mm < 8) (hp2 : xv = gI X) (hp3 : yv = gI Y) (hp4 : hv = gI H) (hp5 : x 190 (154 + 4 * mm + 0) = gI mx) (hp6 : x 190 (154 + 4 * mm + 1) = gI my) (hp7 : x 190 (154 + 4 * mm + 2) = gI mh) (hp8 : -42800 ≤ X - mx ∧ X - mx ≤ 42800) (hp9 : -5100 ≤ Y - my ∧ Y - my ≤ 5100) (hp10 : -1000 ≤ H - mh ∧ H - mh ≤ 1000) (kk0 : V pc2 L ((.int (gI (gk_rt ((X - mx) * (X - mx) + (Y - my) * (Y - my) + (H - mh) * (H - mh))))) :: r) 202 gk_fT x y u) : V pc L (.int hv :: .int yv :: .int xv :: .int m :: .ref 189 :: r) 202 gk_fT x y u :=
  g_callv w hd hp hc (as := [.ref 189, .int m, .int xv, .int yv, .int hv]) rfl h8 rfl rfl rfl (Or.inr (Or.inl ⟨Or.inl rfl, _, _, rfl, (gk_kd_j rfl rfl), rfl⟩)) (Or.inl rfl) ⟨m, xv, yv, hv, mm, X, Y, H, mx, my, mh, rfl, ⟨rfl, rfl⟩, hp0, hp1, hp2, hp3, hp4, hp5, hp6, hp7, hp8, hp9, hp10, kk0⟩
def L_X11_distanceTo : List (Nat × gk_M0) := [(116, (1, 10, 3, 0, S_X11_microphone)), (119, (0, 10, 1, 0, S_X11_root))]
def cs_X11_distanceTo : Nat → Option gk_M0 := gk_lk L_X11_distanceTo
theorem m_X11_distanceTo : ∀ (as : List Value) (n : Nat) (fl : gk_F) (x : gk_X) (y : gk_Y) (K : gk_K), S_X11_distanceTo as n fl x y K → (gk_L0 as).length ≤ 11 ∧ ∀ V : gk_V, gk_W cX11_distanceTo pX11 cs_X11_distanceTo (fun _ _ => none) (some .int) 0 none K V → V 0 (gk_en as 11) [] n fl x y 0 := by
  intro as n fl x y K hS
  obtain ⟨m, xv, yv, hv, mm, X, Y, H, mx, my, mh, rfl, ⟨rfl, rfl⟩, hp0, hp1, hp2, hp3, hp4, hp5, hp6, hp7, hp8, hp9, hp10, q0⟩ := hS
  refine ⟨Nat.le_of_ble_eq_true rfl, fun V w => ?_⟩
  show V 0 [some (.ref 189), some (.int m), some (.int xv), some (.int yv), some (.int hv), none, none, none, none, none, none] [] 202 gk_fT x y 0
  subst hp0 hp2 hp3 hp4
  have b1 := gk_sqb hp8.1 hp8.2
  have b2 := gk_sqb hp9.1 hp9.2
  have b3 := gk_sqb hp10.1 hp10.2
  refine s_iload_n (pc2 := 1) w dX11_distanceTo_0 rfl rfl ?_
  refine s_aload_n (pc2 := 2) w dX11_distanceTo_1 rfl rfl ?_
  refine s_iload_n (pc2 := 3) w dX11_distanceTo_2 rfl rfl ?_
  refine s_iconst (pc2 := 4) (v := gI 0) w dX11_distanceTo_3 rfl rfl ?_
  refine r_X11_microphone (pc2 := 7) (b := 0) w dX11_distanceTo_4 rfl rfl rfl rfl rfl (by omega) ?_
  rw [hp5]
  refine s_isub (pc2 := 8) w dX11_distanceTo_7 rfl ?_
  refine s_i2l (pc2 := 9) w dX11_distanceTo_8 rfl ?_
  rw [gI_sub, gIL ⟨by omega, by omega⟩]
  refine s_lstore (pc2 := 11) w dX11_distanceTo_9 rfl rfl ?_
  dsimp only [gk_s1, gk_s2, gk_cl]
  refine s_iload_n (pc2 := 12) w dX11_distanceTo_11 rfl rfl ?_
  refine s_aload_n (pc2 := 13) w dX11_distanceTo_12 rfl rfl ?_
  refine s_iload_n (pc2 := 14) w dX11_distanceTo_13 rfl rfl ?_
  refine s_iconst (pc2 := 15) (v := gI 1) w dX11_distanceTo_14 rfl rfl ?_
  refine r_X11_microphone (pc2 := 18) (b := 1) w dX11_distanceTo_15 rfl rfl rfl rfl rfl (by omega) ?_
  rw [hp6]
  refine s_isub (pc2 := 19) w dX11_distanceTo_18 rfl ?_
  refine s_i2l (pc2 := 20) w dX11_distanceTo_19 rfl ?_
  rw [gI_sub, gIL ⟨by omega, by omega⟩]
  refine s_lstore (pc2 := 22) w dX11_distanceTo_20 rfl rfl ?_
  dsimp only [gk_s1, gk_s2, gk_cl]
  refine s_iload (pc2 := 24) w dX11_distanceTo_22 rfl rfl ?_
  refine s_aload_n (pc2 := 25) w dX11_distanceTo_24 rfl rfl ?_
  refine s_iload_n (pc2 := 26) w dX11_distanceTo_25 rfl rfl ?_
  refine s_iconst (pc2 := 27) (v := gI 2) w dX11_distanceTo_26 rfl rfl ?_
  refine r_X11_microphone (pc2 := 30) (b := 2) w dX11_distanceTo_27 rfl rfl rfl rfl rfl (by omega) ?_
  rw [hp7]
  refine s_isub (pc2 := 31) w dX11_distanceTo_30 rfl ?_
  refine s_i2l (pc2 := 32) w dX11_distanceTo_31 rfl ?_
  rw [gI_sub, gIL ⟨by omega, by omega⟩]
  refine s_lstore (pc2 := 34) w dX11_distanceTo_32 rfl rfl ?_
  dsimp only [gk_s1, gk_s2, gk_cl]
  refine s_lload (pc2 := 36) w dX11_distanceTo_34 rfl rfl ?_
  refine s_lload (pc2 := 38) w dX11_distanceTo_36 rfl rfl ?_
  refine s_lmul (pc2 := 39) w dX11_distanceTo_38 rfl ?_
  refine s_lload (pc2 := 41) w dX11_distanceTo_39 rfl rfl ?_
  refine s_lload (pc2 := 43) w dX11_distanceTo_41 rfl rfl ?_
  refine s_lmul (pc2 := 44) w dX11_distanceTo_43 rfl ?_
  refine s_ladd (pc2 := 45) w dX11_distanceTo_44 rfl ?_
  refine s_lload (pc2 := 47) w dX11_distanceTo_45 rfl rfl ?_
  refine s_lload (pc2 := 49) w dX11_distanceTo_47 rfl rfl ?_
  refine s_lmul (pc2 := 50) w dX11_distanceTo_49 rfl ?_
  refine s_ladd (pc2 := 51) w dX11_distanceTo_50 rfl ?_
  rw [gL_mul, gL_mul, gL_mul, gL_add, gL_add]
  refine r_X11_root (pc2 := 54) w dX11_distanceTo_51 rfl rfl rfl rfl (by omega) (by omega) ?_
  refine s_ireturn w dX11_distanceTo_54 rfl rfl ?_
  exact q0
theorem lk_X11_distanceTo {l : Launch} (hl : l.stackTraces = false) : ∀ q ∈ L_X11_distanceTo, (q.2.1 < 5 → gk_Lk l RX11 gk_W1 1 q.1 q.2.1 q.2.2.1 q.2.2.2.1 q.2.2.2.2.1 q.2.2.2.2.2) := (List.forall_mem_cons.mpr ⟨(fun _ => ⟨yX11_microphone, cX11_microphone, 3, (some .int), 0, _, M_X11_microphone hl, ⟨by decide, by decide⟩, ⟨by decide, by decide, by decide +kernel⟩, ⟨(gk_wm 1464 (by decide +kernel)), (gk_wm 99 (by decide +kernel))⟩, Or.inr (Or.inr (Or.inr (Or.inl ⟨rfl, rfl, (gk_wm 1463 (by decide +kernel)), (gk_wm 47 (by decide +kernel)), gk_wm 1461 (by decide +kernel), by decide, rfl⟩)))⟩), (List.forall_mem_cons.mpr ⟨(fun _ => ⟨yX11_root, cX11_root, 8, (some .int), 0, _, M_X11_root hl, ⟨by decide, by decide⟩, ⟨by decide, by decide, by decide +kernel⟩, ⟨(gk_wm 1467 (by decide +kernel)), (gk_wm 99 (by decide +kernel))⟩, Or.inl ⟨rfl, rfl, (gk_wm 1466 (by decide +kernel)), gk_wm 1465 (by decide +kernel)⟩⟩), (fun _ h => absurd h List.not_mem_nil)⟩)⟩)
theorem sp_X11_distanceTo : ∀ q ∈ L_X11_distanceTo, gk_Sq RX11 gk_W1 1 q := (List.forall_mem_cons.mpr ⟨⟨fun h => absurd h (by decide), fun h => absurd h (by decide), fun h => absurd h (by decide), fun h => absurd h (by decide), fun h => absurd h (by decide), fun h => absurd h (by decide)⟩, (List.forall_mem_cons.mpr ⟨⟨fun h => absurd h (by decide), fun h => absurd h (by decide), fun h => absurd h (by decide), fun h => absurd h (by decide), fun h => absurd h (by decide), fun h => absurd h (by decide)⟩, (fun _ h => absurd h List.not_mem_nil)⟩)⟩)
theorem M_X11_distanceTo {l : Launch} (hl : l.stackTraces = false) : gk_Mt l yX11_distanceTo (.code yX11_distanceTo cX11_distanceTo 11 (some .int) :: gk_W1) 1 0 S_X11_distanceTo := gk_meth hl gk_cw_ok (by decide +kernel) rfl m_X11_distanceTo pX11_ok (gk_Sp_of sp_X11_distanceTo) pX11_st (fun ci m S h => absurd h (by intro h; cases h)) (xf_X11 1) (fun idx kd ci mm cost S2 h h5 => lk_X11_distanceTo hl _ (gk_lk_mem h) h5)

/-- where something is at the time 0, and its speed: without a vehicle; on one -/
def gk_VP (x : gk_X) (ve : Int32) (X PX SX : Int) : Prop := (ve = -1 ∧ PX = X ∧ SX = 0) ∨ ∃ (v : Nat) (a : Int), ve = nI v ∧ v < 4 ∧ x 190 (16 + 3 * v + 0) = gI a ∧ x 190 (16 + 3 * v + 1) = gI SX ∧ PX = a + X
def S_X11_placeX : gk_S := fun as n fl x y K => ∃ (ve : Int32) (xv : Int32) (t : Int32) (X : Int) (PX : Int) (SX : Int) (tt : Int), as = [.ref 189, .int ve, .int xv, .int t] ∧ (n = 202 ∧ fl = gk_fT) ∧ (xv = gI X) ∧ (gk_VP x ve X PX SX) ∧ (t = gI tt) ∧ (K (.inl (some (.int (gI (PX + SX * tt))))) n fl x y)
theorem r_X11_placeX (w : gk_W c P cs (fun _ _ => none) rt uf sc K V) {idx : Nat} {ve : Int32} {xv : Int32} {t : Int32} {X : Int} {PX : Int} {SX : Int} {tt : Int} (hd : decode c pc = .ok (.invokevirtual idx, 3)) (hp : pc + 3 = pc2) (hc : cs idx = some (1, 10, 4, 0, S_X11_placeX)) (h8 : Nat.ble (r.map Value.category).sum 8 = true) (hp0 : xv = gI X) (hp1 : gk_VP x ve X PX SX) (hp2 : t = gI tt) (kk0 : V pc2 L ((.int (gI (PX + SX * tt))) :: r) 202 gk_fT x y u) : V pc L (.int t :: .int xv :: .int ve :: .ref 189 :: r) 202 gk_fT x y u :=
  g_callv w hd hp hc (as := [.ref 189, .int ve, .int xv, .int t]) rfl h8 rfl rfl rfl (Or.inr (Or.inl ⟨Or.inl rfl, _, _, rfl, (gk_kd_j rfl rfl), rfl⟩)) (Or.inl rfl) ⟨ve, xv, t, X, PX, SX, tt, rfl, ⟨rfl, rfl⟩, hp0, hp1, hp2, kk0⟩
def L_X11_placeX : List (Nat × gk_M0) := [(109, (1, 10, 3, 0, S_X11_vehicle))]
def cs_X11_placeX : Nat → Option gk_M0 := gk_lk L_X11_placeX
theorem m_X11_placeX : ∀ (as : List Value) (n : Nat) (fl : gk_F) (x : gk_X) (y : gk_Y) (K : gk_K), S_X11_placeX as n fl x y K → (gk_L0 as).length ≤ 4 ∧ ∀ V : gk_V, gk_W cX11_placeX pX11 cs_X11_placeX (fun _ _ => none) (some .int) 0 none K V → V 0 (gk_en as 4) [] n fl x y 0 := by
  intro as n fl x y K hS
  obtain ⟨ve, xv, t, X, PX, SX, tt, rfl, ⟨rfl, rfl⟩, hp0, hp1, hp2, q0⟩ := hS
  refine ⟨Nat.le_of_ble_eq_true rfl, fun V w => ?_⟩
  show V 0 [some (.ref 189), some (.int ve), some (.int xv), some (.int t)] [] 202 gk_fT x y 0
  subst hp0 hp2
  rcases hp1 with ⟨rfl, rfl, rfl⟩ | ⟨v, a, rfl, hv, e0, e1, rfl⟩
  · refine s_iload_n (pc2 := 1) w dX11_placeX_0 rfl rfl ?_
    refine s_iconst (pc2 := 2) (v := gI (-1)) w dX11_placeX_1 rfl rfl ?_
    refine s_ic_ne (pc2 := 5) (tgt := 9) w dX11_placeX_2 rfl (by decide) (fun h0 => absurd (rfl) h0) (fun _ => ?_)
    refine s_iload_n (pc2 := 6) w dX11_placeX_5 rfl rfl ?_
    refine s_goto (tgt := 26) w dX11_placeX_6 (by decide) ?_
    refine s_ireturn w dX11_placeX_26 rfl rfl ?_
    rw [show PX + 0 * tt = PX by omega] at q0
    exact q0
  · refine s_iload_n (pc2 := 1) w dX11_placeX_0 rfl rfl ?_
    refine s_iconst (pc2 := 2) (v := gI (-1)) w dX11_placeX_1 rfl rfl ?_
    refine s_ic_ne (pc2 := 5) (tgt := 9) w dX11_placeX_2 rfl (by decide) (fun _ => ?_) (fun h0 => absurd h0 (by rw [gI_nI, gI_eq ⟨by omega, by omega⟩ ⟨by omega, by omega⟩]; omega))
    refine s_aload_n (pc2 := 10) w dX11_placeX_9 rfl rfl ?_
    refine s_iload_n (pc2 := 11) w dX11_placeX_10 rfl rfl ?_
    refine s_iconst (pc2 := 12) (v := gI 0) w dX11_placeX_11 rfl rfl ?_
    refine r_X11_vehicle (pc2 := 15) (b := 0) w dX11_placeX_12 rfl rfl rfl rfl rfl (by omega) ?_
    rw [e0]
    refine s_aload_n (pc2 := 16) w dX11_placeX_15 rfl rfl ?_
    refine s_iload_n (pc2 := 17) w dX11_placeX_16 rfl rfl ?_
    refine s_iconst (pc2 := 18) (v := gI 1) w dX11_placeX_17 rfl rfl ?_
    refine r_X11_vehicle (pc2 := 21) (b := 1) w dX11_placeX_18 rfl rfl rfl rfl rfl (by omega) ?_
    rw [e1]
    refine s_iload_n (pc2 := 22) w dX11_placeX_21 rfl rfl ?_
    refine s_imul (pc2 := 23) w dX11_placeX_22 rfl ?_
    refine s_iadd (pc2 := 24) w dX11_placeX_23 rfl ?_
    refine s_iload_n (pc2 := 25) w dX11_placeX_24 rfl rfl ?_
    refine s_iadd (pc2 := 26) w dX11_placeX_25 rfl ?_
    rw [gI_mul, gI_add, gI_add, show a + SX * tt + X = a + X + SX * tt by omega]
    refine s_ireturn w dX11_placeX_26 rfl rfl ?_
    exact q0
theorem lk_X11_placeX {l : Launch} (hl : l.stackTraces = false) : ∀ q ∈ L_X11_placeX, (q.2.1 < 5 → gk_Lk l RX11 gk_W1 1 q.1 q.2.1 q.2.2.1 q.2.2.2.1 q.2.2.2.2.1 q.2.2.2.2.2) := (List.forall_mem_cons.mpr ⟨(fun _ => ⟨yX11_vehicle, cX11_vehicle, 3, (some .int), 0, _, M_X11_vehicle hl, ⟨by decide, by decide⟩, ⟨by decide, by decide, by decide +kernel⟩, ⟨(gk_wm 1448 (by decide +kernel)), (gk_wm 99 (by decide +kernel))⟩, Or.inr (Or.inr (Or.inr (Or.inl ⟨rfl, rfl, (gk_wm 1447 (by decide +kernel)), (gk_wm 43 (by decide +kernel)), gk_wm 1445 (by decide +kernel), by decide, rfl⟩)))⟩), (fun _ h => absurd h List.not_mem_nil)⟩)
theorem sp_X11_placeX : ∀ q ∈ L_X11_placeX, gk_Sq RX11 gk_W1 1 q := (List.forall_mem_cons.mpr ⟨⟨fun h => absurd h (by decide), fun h => absurd h (by decide), fun h => absurd h (by decide), fun h => absurd h (by decide), fun h => absurd h (by decide), fun h => absurd h (by decide)⟩, (fun _ h => absurd h List.not_mem_nil)⟩)
theorem M_X11_placeX {l : Launch} (hl : l.stackTraces = false) : gk_Mt l yX11_placeX (.code yX11_placeX cX11_placeX 4 (some .int) :: gk_W1) 1 0 S_X11_placeX := gk_meth hl gk_cw_ok (by decide +kernel) rfl m_X11_placeX pX11_ok (gk_Sp_of sp_X11_placeX) pX11_st (fun ci m S h => absurd h (by intro h; cases h)) (xf_X11 1) (fun idx kd ci mm cost S2 h h5 => lk_X11_placeX hl _ (gk_lk_mem h) h5)

def S_X11_layDistances : gk_S := fun as n fl x y K => ∃ (m : Int32) (ve : Int32) (xv : Int32) (yv : Int32) (hv : Int32) (mm : Nat) (X : Int) (PX : Int) (SX : Int) (Y : Int) (H : Int) (mx : Int) (my : Int) (mh : Int), as = [.ref 189, .int m, .int ve, .int xv, .int yv, .int hv] ∧ (n = 202 ∧ fl = gk_fT) ∧ (m = nI mm) ∧ (mm < 8) ∧ (xv = gI X) ∧ (yv = gI Y) ∧ (hv = gI H) ∧ (x 190 (154 + 4 * mm + 0) = gI mx) ∧ (x 190 (154 + 4 * mm + 1) = gI my) ∧ (x 190 (154 + 4 * mm + 2) = gI mh) ∧ (gk_VP x ve X PX SX) ∧ (gk_PB (PX - mx) SX 0) ∧ (-5100 ≤ Y - my ∧ Y - my ≤ 5100) ∧ (-500 ≤ H ∧ H ≤ 500) ∧ (0 ≤ mh ∧ mh ≤ 500) ∧ (K (.inl none) n fl (gk_ur (gk_ur x 194 (fun t => gI (gk_dl (PX - mx) SX (gk_be Y H my mh false) t)) 256) 195 (fun t => gI (gk_dl (PX - mx) SX (gk_be Y H my mh true) t)) 256) y)
theorem r_X11_layDistances (w : gk_W c P cs (fun _ _ => none) rt uf sc K V) {idx : Nat} {m : Int32} {ve : Int32} {xv : Int32} {yv : Int32} {hv : Int32} {mm : Nat} {X : Int} {PX : Int} {SX : Int} {Y : Int} {H : Int} {mx : Int} {my : Int} {mh : Int} (hd : decode c pc = .ok (.invokevirtual idx, 3)) (hp : pc + 3 = pc2) (hc : cs idx = some (1, 10, 6, 0, S_X11_layDistances)) (h8 : Nat.ble (r.map Value.category).sum 8 = true) (hp0 : m = nI mm) (hp1 : mm < 8) (hp2 : xv = gI X) (hp3 : yv = gI Y) (hp4 : hv = gI H) (hp5 : x 190 (154 + 4 * mm + 0) = gI mx) (hp6 : x 190 (154 + 4 * mm + 1) = gI my) (hp7 : x 190 (154 + 4 * mm + 2) = gI mh) (hp8 : gk_VP x ve X PX SX) (hp9 : gk_PB (PX - mx) SX 0) (hp10 : -5100 ≤ Y - my ∧ Y - my ≤ 5100) (hp11 : -500 ≤ H ∧ H ≤ 500) (hp12 : 0 ≤ mh ∧ mh ≤ 500) (kk0 : V pc2 L r 202 gk_fT (gk_ur (gk_ur x 194 (fun t => gI (gk_dl (PX - mx) SX (gk_be Y H my mh false) t)) 256) 195 (fun t => gI (gk_dl (PX - mx) SX (gk_be Y H my mh true) t)) 256) y u) : V pc L (.int hv :: .int yv :: .int xv :: .int ve :: .int m :: .ref 189 :: r) 202 gk_fT x y u :=
  g_callv w hd hp hc (as := [.ref 189, .int m, .int ve, .int xv, .int yv, .int hv]) rfl h8 rfl rfl rfl (Or.inr (Or.inl ⟨Or.inl rfl, _, _, rfl, (gk_kd_j rfl rfl), rfl⟩)) (Or.inl rfl) ⟨m, ve, xv, yv, hv, mm, X, PX, SX, Y, H, mx, my, mh, rfl, ⟨rfl, rfl⟩, hp0, hp1, hp2, hp3, hp4, hp5, hp6, hp7, hp8, hp9, hp10, hp11, hp12, kk0⟩
def L_X11_layDistances : List (Nat × gk_M0) := [(123, (1, 10, 4, 0, S_X11_placeX)), (126, (1, 10, 5, 0, S_X11_distanceTo))]
def cs_X11_layDistances : Nat → Option gk_M0 := gk_lk L_X11_layDistances
theorem m_X11_layDistances : ∀ (as : List Value) (n : Nat) (fl : gk_F) (x : gk_X) (y : gk_Y) (K : gk_K), S_X11_layDistances as n fl x y K → (gk_L0 as).length ≤ 8 ∧ ∀ V : gk_V, gk_W cX11_layDistances pX11 cs_X11_layDistances (fun _ _ => none) none 0 none K V → V 0 (gk_en as 8) [] n fl x y 0 := by
  intro as n fl x y K hS
  obtain ⟨m, ve, xv, yv, hv, mm, X, PX, SX, Y, H, mx, my, mh, rfl, ⟨rfl, rfl⟩, hp0, hp1, hp2, hp3, hp4, hp5, hp6, hp7, hp8, hp9, hp10, hp11, hp12, q0⟩ := hS
  refine ⟨Nat.le_of_ble_eq_true rfl, fun V w => ?_⟩
  show V 0 [some (.ref 189), some (.int m), some (.int ve), some (.int xv), some (.int yv), some (.int hv), none, none] [] 202 gk_fT x y 0
  subst hp0 hp2 hp3 hp4
  obtain ⟨f1, hf1⟩ : ∃ f1 : Nat → Int32, f1 = fun t : Nat => gI (gk_dl (PX - mx) SX (gk_be Y H my mh false) t) := ⟨_, rfl⟩
  obtain ⟨f2, hf2⟩ : ∃ f2 : Nat → Int32, f2 = fun t : Nat => gI (gk_dl (PX - mx) SX (gk_be Y H my mh true) t) := ⟨_, rfl⟩
  rw [← hf1, ← hf2] at q0
  have key : ∀ (k t : Nat) (m7 : Option Value), t + k = 256 → V 3 [some (.ref 189), some (.int (nI mm)), some (.int ve), some (.int (gI X)), some (.int (gI Y)), some (.int (gI H)), some (.int (nI t)), gk_cl m7] [] 202 gk_fT (gk_ur (gk_ur x 194 f1 t) 195 f2 t) y 0 := by
    intro k
    induction k with
    | zero =>
      intro t m7 ht
      have ht2 : t = 256 := by omega
      subst ht2
      refine s_iload (pc2 := 5) w dX11_layDistances_3 rfl rfl ?_
      refine s_sipush (pc2 := 8) (v := gI 256) w dX11_layDistances_5 rfl rfl ?_
      refine s_ic_ge (pc2 := 11) (tgt := 64) w dX11_layDistances_8 rfl (by decide) (fun _ => ?_) (fun h0 => absurd ((Int32.le_refl _)) h0)
      refine s_return w dX11_layDistances_64 rfl ?_
      exact q0
    | succ k ih =>
      intro t m7 ht
      have hb := gk_PBs hp9 (t := (t : Int)) (by omega) (by omega)
      obtain ⟨z1, z2, z3, z4, z5, z6⟩ := hp9
      have ev : gk_VP (gk_ur (gk_ur x 194 f1 t) 195 f2 t) ve X PX SX := hp8
      refine s_iload (pc2 := 5) w dX11_layDistances_3 rfl rfl ?_
      refine s_sipush (pc2 := 8) (v := gI 256) w dX11_layDistances_5 rfl rfl ?_
      refine s_ic_ge (pc2 := 11) (tgt := 64) w dX11_layDistances_8 rfl (by decide) (fun h0 => absurd h0 (by rw [gI_nI, gI_le ⟨by omega, by omega⟩ ⟨by omega, by omega⟩]; omega)) (fun _ => ?_)
      refine s_aload_n (pc2 := 12) w dX11_layDistances_11 rfl rfl ?_
      refine s_iload_n (pc2 := 13) w dX11_layDistances_12 rfl rfl ?_
      refine s_iload_n (pc2 := 14) w dX11_layDistances_13 rfl rfl ?_
      refine s_iload (pc2 := 16) w dX11_layDistances_14 rfl rfl ?_
      refine r_X11_placeX (pc2 := 19) (tt := (t : Int)) w dX11_layDistances_16 rfl rfl rfl rfl ev rfl ?_
      refine s_istore (pc2 := 21) w dX11_layDistances_19 rfl rfl ?_
      dsimp only [gk_s1, gk_s2, gk_cl]
      refine s_aload_n (pc2 := 22) w dX11_layDistances_21 rfl rfl ?_
      refine m_getR (pc2 := 25) (ci := 10) (k := 5) (j2 := 194) w dX11_layDistances_22 rfl rfl (by first | assumption | rfl) rfl rfl rfl ?_
      refine s_iload (pc2 := 27) w dX11_layDistances_25 rfl rfl ?_
      refine s_aload_n (pc2 := 28) w dX11_layDistances_27 rfl rfl ?_
      refine s_iload_n (pc2 := 29) w dX11_layDistances_28 rfl rfl ?_
      refine s_iload (pc2 := 31) w dX11_layDistances_29 rfl rfl ?_
      refine s_iload (pc2 := 33) w dX11_layDistances_31 rfl rfl ?_
      refine s_iload (pc2 := 35) w dX11_layDistances_33 rfl rfl ?_
      refine r_X11_distanceTo (pc2 := 38) w dX11_layDistances_35 rfl rfl rfl rfl hp1 rfl rfl rfl hp5 hp6 hp7 (by omega) hp10 (by omega) ?_
      have e1 : gI (gk_rt ((PX + SX * ↑t - mx) * (PX + SX * ↑t - mx) + (Y - my) * (Y - my) + (H - mh) * (H - mh))) = f1 t := by
        rw [hf1, show PX + SX * (t : Int) - mx = PX - mx + SX * (t : Int) by omega, Int.add_assoc]
        rfl
      rw [e1]
      refine m_iastoreN (pc2 := 39) (t := t) (N := 256) w dX11_layDistances_38 rfl (by first | assumption | rfl) rfl rfl (by omega) rfl ?_
      refine s_aload_n (pc2 := 40) w dX11_layDistances_39 rfl rfl ?_
      refine m_getR (pc2 := 43) (ci := 10) (k := 6) (j2 := 195) w dX11_layDistances_40 rfl rfl (by first | assumption | rfl) rfl rfl rfl ?_
      refine s_iload (pc2 := 45) w dX11_layDistances_43 rfl rfl ?_
      refine s_aload_n (pc2 := 46) w dX11_layDistances_45 rfl rfl ?_
      refine s_iload_n (pc2 := 47) w dX11_layDistances_46 rfl rfl ?_
      refine s_iload (pc2 := 49) w dX11_layDistances_47 rfl rfl ?_
      refine s_iload (pc2 := 51) w dX11_layDistances_49 rfl rfl ?_
      refine s_iload (pc2 := 53) w dX11_layDistances_51 rfl rfl ?_
      refine s_ineg (pc2 := 54) w dX11_layDistances_53 rfl ?_
      rw [gI_neg]
      refine r_X11_distanceTo (pc2 := 57) w dX11_layDistances_54 rfl rfl rfl rfl hp1 rfl rfl rfl hp5 hp6 hp7 (by omega) hp10 (by omega) ?_
      have e2 : gI (gk_rt ((PX + SX * ↑t - mx) * (PX + SX * ↑t - mx) + (Y - my) * (Y - my) + (-H - mh) * (-H - mh))) = f2 t := by
        rw [hf2, show PX + SX * (t : Int) - mx = PX - mx + SX * (t : Int) by omega, Int.add_assoc]
        rfl
      rw [e2]
      refine m_iastoreN (pc2 := 58) (t := t) (N := 256) w dX11_layDistances_57 rfl (by first | assumption | rfl) rfl rfl (by omega) rfl ?_
      refine s_iinc (pc2 := 61) w dX11_layDistances_58 rfl rfl rfl rfl ?_
      dsimp only [gk_s1, gk_s2, gk_cl]
      rw [nI_s]
      refine s_goto (tgt := 3) w dX11_layDistances_61 (by decide) ?_
      have h := ih (t + 1) (some (.int (gI (PX + SX * ↑t)))) (by omega)
      rw [← gk_ur_s x 194, ← gk_ur_s, ← gk_ur_up (by decide)] at h
      exact h
  refine s_iconst (pc2 := 1) (v := gI 0) w dX11_layDistances_0 rfl rfl ?_
  refine s_istore (pc2 := 3) w dX11_layDistances_1 rfl rfl ?_
  dsimp only [gk_s1, gk_s2, gk_cl]
  have h := key 256 0 none rfl
  rw [gk_ur_0, gk_ur_0] at h
  exact h
theorem lk_X11_layDistances {l : Launch} (hl : l.stackTraces = false) : ∀ q ∈ L_X11_layDistances, (q.2.1 < 5 → gk_Lk l RX11 gk_W1 2 q.1 q.2.1 q.2.2.1 q.2.2.2.1 q.2.2.2.2.1 q.2.2.2.2.2) := (List.forall_mem_cons.mpr ⟨(fun _ => ⟨yX11_placeX, cX11_placeX, 4, (some .int), 1, _, M_X11_placeX hl, ⟨by decide, by decide⟩, ⟨by decide, by decide, by decide +kernel⟩, ⟨(gk_wm 1456 (by decide +kernel)), (gk_wm 99 (by decide +kernel))⟩, Or.inr (Or.inr (Or.inr (Or.inl ⟨rfl, rfl, (gk_wm 1455 (by decide +kernel)), (gk_wm 45 (by decide +kernel)), gk_wm 1453 (by decide +kernel), by decide, rfl⟩)))⟩), (List.forall_mem_cons.mpr ⟨(fun _ => ⟨yX11_distanceTo, cX11_distanceTo, 11, (some .int), 1, _, M_X11_distanceTo hl, ⟨by decide, by decide⟩, ⟨by decide, by decide, by decide +kernel⟩, ⟨(gk_wm 1460 (by decide +kernel)), (gk_wm 99 (by decide +kernel))⟩, Or.inr (Or.inr (Or.inr (Or.inl ⟨rfl, rfl, (gk_wm 1459 (by decide +kernel)), (gk_wm 46 (by decide +kernel)), gk_wm 1457 (by decide +kernel), by decide, rfl⟩)))⟩), (fun _ h => absurd h List.not_mem_nil)⟩)⟩)
theorem sp_X11_layDistances : ∀ q ∈ L_X11_layDistances, gk_Sq RX11 gk_W1 2 q := (List.forall_mem_cons.mpr ⟨⟨fun h => absurd h (by decide), fun h => absurd h (by decide), fun h => absurd h (by decide), fun h => absurd h (by decide), fun h => absurd h (by decide), fun h => absurd h (by decide)⟩, (List.forall_mem_cons.mpr ⟨⟨fun h => absurd h (by decide), fun h => absurd h (by decide), fun h => absurd h (by decide), fun h => absurd h (by decide), fun h => absurd h (by decide), fun h => absurd h (by decide)⟩, (fun _ h => absurd h List.not_mem_nil)⟩)⟩)
theorem M_X11_layDistances {l : Launch} (hl : l.stackTraces = false) : gk_Mt l yX11_layDistances (.code yX11_layDistances cX11_layDistances 8 none :: gk_W1) 2 0 S_X11_layDistances := gk_meth hl gk_cw_ok (by decide +kernel) rfl m_X11_layDistances pX11_ok (gk_Sp_of sp_X11_layDistances) pX11_st (fun ci m S h => absurd h (by intro h; cases h)) (xf_X11 2) (fun idx kd ci mm cost S2 h h5 => lk_X11_layDistances hl _ (gk_lk_mem h) h5)

end GKV

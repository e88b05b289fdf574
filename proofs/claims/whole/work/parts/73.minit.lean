/-! THE METHODS, 42: the reference made anew -/
section GKV
variable {c : ByteArray} {P : gk_C} {cs : Nat → Option gk_M0} {rt : Option FieldType} {uf : Nat} {sc : Option Nat} {K : gk_K} {V : gk_V}
variable {L : List (Option Value)} {r : List Value} {n : Nat} {fl : gk_F} {x : gk_X} {y : gk_Y} {u pc pc2 : Nat}
theorem fk_10 : ∀ k, k < 20 → gk_fk 10 k = 2 → k = 0 ∨ k = 1 ∨ k = 2 ∨ k = 3 ∨ k = 5 ∨ k = 6 ∨ k = 7 ∨ k = 8 ∨ k = 9 ∨ k = 10 := by decide
theorem fe_X11n (fl : gk_F) : gk_fe (gk_uf (gk_f0 (gk_uf (gk_f0 (gk_uf (gk_f0 (gk_uf (gk_f0 (gk_uf (gk_f0 (gk_uf (gk_f0 (gk_uf (gk_f0 (gk_uf (gk_f0 (gk_uf (gk_f0 (gk_uf (gk_f0 fl 190) 189 0) 191) 189 1) 192) 189 2) 193) 189 3) 194) 189 5) 195) 189 6) 196) 189 7) 197) 189 8) 198) 189 9) 199) 189 10) (fr fl 189 200) 200 := by
  refine fe_obj (by decide) (fun i k h => by rw [uf_ne (by omega), f0_ne (by omega), uf_ne (by omega), f0_ne (by omega), uf_ne (by omega), f0_ne (by omega), uf_ne (by omega), f0_ne (by omega), uf_ne (by omega), f0_ne (by omega), uf_ne (by omega), f0_ne (by omega), uf_ne (by omega), f0_ne (by omega), uf_ne (by omega), f0_ne (by omega), uf_ne (by omega), f0_ne (by omega), uf_ne (by omega), f0_ne (by omega)]) (fun i h1 h2 k => ?_) (fun k a b => ?_)
  · have hc : i = 190 ∨ i = 191 ∨ i = 192 ∨ i = 193 ∨ i = 194 ∨ i = 195 ∨ i = 196 ∨ i = 197 ∨ i = 198 ∨ i = 199 := by omega
    rcases hc with rfl | rfl | rfl | rfl | rfl | rfl | rfl | rfl | rfl | rfl <;> exact ⟨fun a _ _ => absurd a (by decide), fun a _ => absurd a (by decide)⟩
  · rcases fk_10 k a b with rfl | rfl | rfl | rfl | rfl | rfl | rfl | rfl | rfl | rfl
    · rw [uf_ne (by omega), f0_ne (by omega), uf_ne (by omega), f0_ne (by omega), uf_ne (by omega), f0_ne (by omega), uf_ne (by omega), f0_ne (by omega), uf_ne (by omega), f0_ne (by omega), uf_ne (by omega), f0_ne (by omega), uf_ne (by omega), f0_ne (by omega), uf_ne (by omega), f0_ne (by omega), uf_ne (by omega), f0_ne (by omega), uf_in]
    · rw [uf_ne (by omega), f0_ne (by omega), uf_ne (by omega), f0_ne (by omega), uf_ne (by omega), f0_ne (by omega), uf_ne (by omega), f0_ne (by omega), uf_ne (by omega), f0_ne (by omega), uf_ne (by omega), f0_ne (by omega), uf_ne (by omega), f0_ne (by omega), uf_ne (by omega), f0_ne (by omega), uf_in]
    · rw [uf_ne (by omega), f0_ne (by omega), uf_ne (by omega), f0_ne (by omega), uf_ne (by omega), f0_ne (by omega), uf_ne (by omega), f0_ne (by omega), uf_ne (by omega), f0_ne (by omega), uf_ne (by omega), f0_ne (by omega), uf_ne (by omega), f0_ne (by omega), uf_in]
    · rw [uf_ne (by omega), f0_ne (by omega), uf_ne (by omega), f0_ne (by omega), uf_ne (by omega), f0_ne (by omega), uf_ne (by omega), f0_ne (by omega), uf_ne (by omega), f0_ne (by omega), uf_ne (by omega), f0_ne (by omega), uf_in]
    · rw [uf_ne (by omega), f0_ne (by omega), uf_ne (by omega), f0_ne (by omega), uf_ne (by omega), f0_ne (by omega), uf_ne (by omega), f0_ne (by omega), uf_ne (by omega), f0_ne (by omega), uf_in]
    · rw [uf_ne (by omega), f0_ne (by omega), uf_ne (by omega), f0_ne (by omega), uf_ne (by omega), f0_ne (by omega), uf_ne (by omega), f0_ne (by omega), uf_in]
    · rw [uf_ne (by omega), f0_ne (by omega), uf_ne (by omega), f0_ne (by omega), uf_ne (by omega), f0_ne (by omega), uf_in]
    · rw [uf_ne (by omega), f0_ne (by omega), uf_ne (by omega), f0_ne (by omega), uf_in]
    · rw [uf_ne (by omega), f0_ne (by omega), uf_in]
    · rw [uf_in]
def S_X11_initr : gk_S := fun as n fl x y K => as = [.ref 189] ∧ (n = 190) ∧ (K (.inl none) 200 (gk_uf (gk_f0 (gk_uf (gk_f0 (gk_uf (gk_f0 (gk_uf (gk_f0 (gk_uf (gk_f0 (gk_uf (gk_f0 (gk_uf (gk_f0 (gk_uf (gk_f0 (gk_uf (gk_f0 (gk_uf (gk_f0 fl 190) 189 0) 191) 189 1) 192) 189 2) 193) 189 3) 194) 189 5) 195) 189 6) 196) 189 7) 197) 189 8) 198) 189 9) 199) 189 10) (gk_up (gk_up (gk_up (gk_up (gk_rg (gk_up (zr x 190 200) 189 18 (-1)) 190 0 2234 (fun _ => 0)) 190 0 340) 190 3 1) 190 10 1) 190 13 100) (zy y 190 200))
def L_X11_initr : List (Nat × gk_M0) := [(0, (99, 10, 0, 0, fun _ _ _ _ _ _ => False)), (1, (9, 0, 0, 0, fun _ _ _ _ _ _ => False)), (46, (1, 10, 1, 0, S_X11_clear))]
def cs_X11_initr : Nat → Option gk_M0 := gk_lk L_X11_initr
theorem m_X11_initr : ∀ (as : List Value) (n : Nat) (fl : gk_F) (x : gk_X) (y : gk_Y) (K : gk_K), S_X11_initr as n fl x y K → (gk_L0 as).length ≤ 1 ∧ ∀ V : gk_V, gk_W cX11_init pX11 cs_X11_initr (fun _ _ => none) none 10536 none K V → V 0 (gk_en as 1) [] n fl x y 0 := by
  intro as n fl x y K hS
  obtain ⟨rfl, hp0, q0⟩ := hS
  refine ⟨Nat.le_of_ble_eq_true rfl, fun V w => ?_⟩
  show V 0 [some (.ref 189)] [] n fl x y 0
  subst hp0
  refine s_aload_n (pc2 := 1) w dX11_init_0 rfl rfl ?_
  refine s_obj (pc2 := 4) w dX11_init_1 rfl rfl rfl ?_
  refine s_aload_n (pc2 := 5) w dX11_init_4 rfl rfl ?_
  refine s_sipush (pc2 := 8) (v := 2234) w dX11_init_5 rfl rfl ?_
  refine g_newarray (pc2 := 10) w dX11_init_8 rfl (by decide) rfl (by decide) (by decide) rfl (Nat.le_of_ble_eq_true rfl) ?_
  rw [zr_1, zy_1]
  refine g_putR (pc2 := 13) (ci := 10) (k := 0) w dX11_init_10 rfl rfl (by decide) rfl rfl rfl rfl (by decide) ⟨_, _, rfl⟩ ?_
  refine s_aload_n (pc2 := 14) w dX11_init_13 rfl rfl ?_
  refine s_sipush (pc2 := 17) (v := 2234) w dX11_init_14 rfl rfl ?_
  refine g_newarray (pc2 := 19) w dX11_init_17 rfl (by decide) rfl (by decide) (by decide) rfl (Nat.le_of_ble_eq_true rfl) ?_
  rw [zr_1, zy_1, zr_s (by omega) (by omega), zy_s (by omega) (by omega)]
  refine g_putR (pc2 := 22) (ci := 10) (k := 1) w dX11_init_19 rfl rfl (by decide) rfl rfl rfl rfl (by decide) ⟨_, _, rfl⟩ ?_
  refine s_aload_n (pc2 := 23) w dX11_init_22 rfl rfl ?_
  refine s_sipush (pc2 := 26) (v := 4468) w dX11_init_23 rfl rfl ?_
  refine g_newarray (pc2 := 28) w dX11_init_26 rfl (by decide) rfl (by decide) (by decide) rfl (Nat.le_of_ble_eq_true rfl) ?_
  rw [zr_1, zy_1, zr_s (by omega) (by omega), zy_s (by omega) (by omega)]
  refine g_putR (pc2 := 31) (ci := 10) (k := 2) w dX11_init_28 rfl rfl (by decide) rfl rfl rfl rfl (by decide) ⟨_, _, rfl⟩ ?_
  refine s_aload_n (pc2 := 32) w dX11_init_31 rfl rfl ?_
  refine s_iconst (pc2 := 33) (v := 2) w dX11_init_32 rfl rfl ?_
  refine g_newarray (pc2 := 35) w dX11_init_33 rfl (by decide) rfl (by decide) (by decide) rfl (Nat.le_of_ble_eq_true rfl) ?_
  rw [zr_1, zy_1, zr_s (by omega) (by omega), zy_s (by omega) (by omega)]
  refine g_putR (pc2 := 38) (ci := 10) (k := 3) w dX11_init_35 rfl rfl (by decide) rfl rfl rfl rfl (by decide) ⟨_, _, rfl⟩ ?_
  refine s_aload_n (pc2 := 39) w dX11_init_38 rfl rfl ?_
  refine s_sipush (pc2 := 42) (v := 256) w dX11_init_39 rfl rfl ?_
  refine g_newarray (pc2 := 44) w dX11_init_42 rfl (by decide) rfl (by decide) (by decide) rfl (Nat.le_of_ble_eq_true rfl) ?_
  rw [zr_1, zy_1, zr_s (by omega) (by omega), zy_s (by omega) (by omega)]
  refine g_putR (pc2 := 47) (ci := 10) (k := 5) w dX11_init_44 rfl rfl (by decide) rfl rfl rfl rfl (by decide) ⟨_, _, rfl⟩ ?_
  refine s_aload_n (pc2 := 48) w dX11_init_47 rfl rfl ?_
  refine s_sipush (pc2 := 51) (v := 256) w dX11_init_48 rfl rfl ?_
  refine g_newarray (pc2 := 53) w dX11_init_51 rfl (by decide) rfl (by decide) (by decide) rfl (Nat.le_of_ble_eq_true rfl) ?_
  rw [zr_1, zy_1, zr_s (by omega) (by omega), zy_s (by omega) (by omega)]
  refine g_putR (pc2 := 56) (ci := 10) (k := 6) w dX11_init_53 rfl rfl (by decide) rfl rfl rfl rfl (by decide) ⟨_, _, rfl⟩ ?_
  refine s_aload_n (pc2 := 57) w dX11_init_56 rfl rfl ?_
  refine s_sipush (pc2 := 60) (v := 256) w dX11_init_57 rfl rfl ?_
  refine g_newarray (pc2 := 62) w dX11_init_60 rfl (by decide) rfl (by decide) (by decide) rfl (Nat.le_of_ble_eq_true rfl) ?_
  rw [zr_1, zy_1, zr_s (by omega) (by omega), zy_s (by omega) (by omega)]
  refine g_putR (pc2 := 65) (ci := 10) (k := 7) w dX11_init_62 rfl rfl (by decide) rfl rfl rfl rfl (by decide) ⟨_, _, rfl⟩ ?_
  refine s_aload_n (pc2 := 66) w dX11_init_65 rfl rfl ?_
  refine s_sipush (pc2 := 69) (v := 256) w dX11_init_66 rfl rfl ?_
  refine g_newarray (pc2 := 71) w dX11_init_69 rfl (by decide) rfl (by decide) (by decide) rfl (Nat.le_of_ble_eq_true rfl) ?_
  rw [zr_1, zy_1, zr_s (by omega) (by omega), zy_s (by omega) (by omega)]
  refine g_putR (pc2 := 74) (ci := 10) (k := 8) w dX11_init_71 rfl rfl (by decide) rfl rfl rfl rfl (by decide) ⟨_, _, rfl⟩ ?_
  refine s_aload_n (pc2 := 75) w dX11_init_74 rfl rfl ?_
  refine s_bipush (pc2 := 77) (v := 64) w dX11_init_75 rfl rfl ?_
  refine g_newarray (pc2 := 79) w dX11_init_77 rfl (by decide) rfl (by decide) (by decide) rfl (Nat.le_of_ble_eq_true rfl) ?_
  rw [zr_1, zy_1, zr_s (by omega) (by omega), zy_s (by omega) (by omega)]
  refine g_putR (pc2 := 82) (ci := 10) (k := 9) w dX11_init_79 rfl rfl (by decide) rfl rfl rfl rfl (by decide) ⟨_, _, rfl⟩ ?_
  refine s_aload_n (pc2 := 83) w dX11_init_82 rfl rfl ?_
  refine s_sipush (pc2 := 86) (v := 500) w dX11_init_83 rfl rfl ?_
  refine g_newarray (pc2 := 88) w dX11_init_86 rfl (by decide) rfl (by decide) (by decide) rfl (Nat.le_of_ble_eq_true rfl) ?_
  rw [zr_1, zy_1, zr_s (by omega) (by omega), zy_s (by omega) (by omega)]
  refine g_putR (pc2 := 91) (ci := 10) (k := 10) w dX11_init_88 rfl rfl (by decide) rfl rfl rfl rfl (by decide) ⟨_, _, rfl⟩ ?_
  refine s_aload_n (pc2 := 92) w dX11_init_91 rfl rfl ?_
  refine s_iconst (pc2 := 93) (v := (-1)) w dX11_init_92 rfl rfl ?_
  refine g_putI (pc2 := 96) (ci := 10) (k := 18) w dX11_init_93 rfl rfl (by decide) rfl rfl rfl (by intro h; cases h) ?_
  refine s_aload_n (pc2 := 97) w dX11_init_96 rfl rfl ?_
  refine r_X11_clear (pc2 := 100) w dX11_init_97 rfl rfl rfl (by decide) (by decide) (by rw [uf_ne (by omega), f0_ne (by omega), uf_ne (by omega), f0_ne (by omega), uf_ne (by omega), f0_ne (by omega), uf_ne (by omega), f0_ne (by omega), uf_ne (by omega), f0_ne (by omega), uf_ne (by omega), f0_ne (by omega), uf_ne (by omega), f0_ne (by omega), uf_ne (by omega), f0_ne (by omega), uf_ne (by omega), f0_ne (by omega), uf_in]) ?_
  refine s_return w dX11_init_100 rfl ?_
  exact q0
theorem lk_X11_initr {l : Launch} (hl : l.stackTraces = false) : ∀ q ∈ L_X11_initr, (q.2.1 < 5 → gk_Lk l RX11 gk_W1 1 q.1 q.2.1 q.2.2.1 q.2.2.2.1 q.2.2.2.2.1 q.2.2.2.2.2) := (List.forall_mem_cons.mpr ⟨(fun h => absurd h (by decide)), (List.forall_mem_cons.mpr ⟨(fun h => absurd h (by decide)), (List.forall_mem_cons.mpr ⟨(fun _ => ⟨yX11_clear, cX11_clear, 2, none, 0, _, M_X11_clear hl, ⟨by decide, by decide⟩, ⟨by decide, by decide, by decide +kernel⟩, ⟨(gk_wm 1261 (by decide +kernel)), (gk_wm 99 (by decide +kernel))⟩, Or.inr (Or.inr (Or.inr (Or.inl ⟨rfl, rfl, (gk_wm 1260 (by decide +kernel)), (gk_wm 30 (by decide +kernel)), gk_wm 1258 (by decide +kernel), by decide, rfl⟩)))⟩), (fun _ h => absurd h List.not_mem_nil)⟩)⟩)⟩)
theorem sp_X11_initr : ∀ q ∈ L_X11_initr, gk_Sq RX11 gk_W1 1 q := (List.forall_mem_cons.mpr ⟨⟨fun h => absurd h (by decide), fun h => absurd h (by decide), fun h => absurd h (by decide), fun h => absurd h (by decide), fun h => absurd h (by decide), fun _ => rfl⟩, (List.forall_mem_cons.mpr ⟨⟨fun h => absurd h (by decide), fun h => absurd h (by decide), fun h => absurd h (by decide), fun h => absurd h (by decide), fun _ => ⟨by decide, gk_wm 1257 (by decide +kernel), (gk_wm 120 (by decide +kernel)), gk_wm 121 (by decide +kernel)⟩, fun h => absurd h (by decide)⟩, (List.forall_mem_cons.mpr ⟨⟨fun h => absurd h (by decide), fun h => absurd h (by decide), fun h => absurd h (by decide), fun h => absurd h (by decide), fun h => absurd h (by decide), fun h => absurd h (by decide)⟩, (fun _ h => absurd h List.not_mem_nil)⟩)⟩)⟩)
theorem M_X11_initr {l : Launch} (hl : l.stackTraces = false) : gk_Mt l yX11_init (.code yX11_init cX11_init 1 none :: gk_W1) 1 10536 S_X11_initr := gk_meth hl gk_cw_ok (by decide +kernel) rfl m_X11_initr pX11_ok (gk_Sp_of sp_X11_initr) pX11_st (fun ci m S h => rfl) (xf_X11 1) (fun idx kd ci mm cost S2 h h5 => lk_X11_initr hl _ (gk_lk_mem h) h5)

def S_X11_init : gk_S := fun as n fl x y K => as = [.ref 189] ∧ (189 < n) ∧ (n = 190) ∧ (K (.inl none) 200 (fr fl 189 200) (gk_up (gk_up (gk_up (gk_up (gk_rg (gk_up (zr x 190 200) 189 18 (-1)) 190 0 2234 (fun _ => 0)) 190 0 340) 190 3 1) 190 10 1) 190 13 100) (zy y 190 200))
theorem r_X11_init (w : gk_W c P cs (fun _ _ => none) rt uf sc K V) {idx : Nat}  (hd : decode c pc = .ok (.invokespecial idx, 3)) (hp : pc + 3 = pc2) (hc : cs idx = some (2, 10, 1, 10536, S_X11_init)) (h8 : Nat.ble (r.map Value.category).sum 8 = true) (hu : u + 10536 ≤ uf) (hp0 : 189 < n) (hp1 : n = 190) (kk0 : V pc2 L r 200 (fr fl 189 200) (gk_up (gk_up (gk_up (gk_up (gk_rg (gk_up (zr x 190 200) 189 18 (-1)) 190 0 2234 (fun _ => 0)) 190 0 340) 190 3 1) 190 10 1) 190 13 100) (zy y 190 200) (u + 10536)) : V pc L (.ref 189 :: r) n fl x y u :=
  g_calli w hd hp hc (as := [.ref 189]) rfl h8 rfl rfl rfl (Or.inr (Or.inl ⟨Or.inr rfl, _, _, rfl, hp0, rfl⟩)) (Or.inr hu) ⟨rfl, hp0, hp1, kk0⟩
theorem nt_X11_init : gk_nt S_X11_init := fun _ _ _ _ _ _ ⟨e0, e1, e2, e3⟩ => ⟨e0, e1, e2, e3⟩
theorem M_X11_init {l : Launch} (hl : l.stackTraces = false) : gk_Mt l yX11_init (.code yX11_init cX11_init 1 none :: gk_W1) 1 10536 S_X11_init := gk_Mt_fl (M_X11_initr hl) (fun as n fl x y K ⟨e0, _, hp1, q0⟩ => ⟨e0, hp1, ⟨_, fe_X11n fl, q0⟩⟩)
end GKV

/-! THE LAW, 2: a round of the loop, case by case -/
section GKV
variable {c : ByteArray} {P : gk_C} {cs : Nat → Option gk_M0} {rt : Option FieldType} {uf : Nat} {sc : Option Nat} {K : gk_K} {V : gk_V}
variable {L : List (Option Value)} {r : List Value} {n : Nat} {fl : gk_F} {x : gk_X} {y : gk_Y} {u pc pc2 : Nat}
variable {Ls : Nat} {sv : Nat → Int32} {i : Int32} {q6 q7 q8 : Option Value}
theorem r_X11_setSound (w : gk_W c P cs (fun _ _ => none) rt uf sc K V) {idx : Nat} {v : Int32} (hd : decode c pc = .ok (.invokevirtual idx, 3)) (hp : pc + 3 = pc2) (hc : cs idx = some (1, 10, 2, 0, S_X11_setSound)) (h8 : Nat.ble (r.map Value.category).sum 8 = true) (kk0 : (100 ≤ v ∧ v ≤ 1000) → V pc2 L ((.int (x 190 0)) :: r) 202 gk_fT (gk_up (gk_up x 189 4 0) 190 0 v) y u) (kk1 : ¬ (100 ≤ v ∧ v ≤ 1000) → V pc2 L ((.int 0) :: r) 202 gk_fT (gk_up (gk_up x 189 4 0) 189 4 1) y u) : V pc L (.int v :: .ref 189 :: r) 202 gk_fT x y u :=
  g_callv w hd hp hc (as := [.ref 189, .int v]) rfl h8 rfl rfl rfl (Or.inr (Or.inl ⟨Or.inl rfl, _, _, rfl, (gk_kd_j rfl rfl), rfl⟩)) (Or.inl rfl) ⟨v, rfl, ⟨rfl, rfl⟩, kk0, kk1⟩
theorem r_X11_setGround (w : gk_W c P cs (fun _ _ => none) rt uf sc K V) {idx : Nat} {v : Int32} (hd : decode c pc = .ok (.invokevirtual idx, 3)) (hp : pc + 3 = pc2) (hc : cs idx = some (1, 10, 2, 0, S_X11_setGround)) (h8 : Nat.ble (r.map Value.category).sum 8 = true) (kk0 : (-90 ≤ v ∧ v ≤ 90) → V pc2 L ((.int (x 190 1)) :: r) 202 gk_fT (gk_up (gk_up x 189 4 0) 190 1 v) y u) (kk1 : ¬ (-90 ≤ v ∧ v ≤ 90) → V pc2 L ((.int 0) :: r) 202 gk_fT (gk_up (gk_up x 189 4 0) 189 4 1) y u) : V pc L (.int v :: .ref 189 :: r) 202 gk_fT x y u :=
  g_callv w hd hp hc (as := [.ref 189, .int v]) rfl h8 rfl rfl rfl (Or.inr (Or.inl ⟨Or.inl rfl, _, _, rfl, (gk_kd_j rfl rfl), rfl⟩)) (Or.inl rfl) ⟨v, rfl, ⟨rfl, rfl⟩, kk0, kk1⟩
theorem rM_setSound (w : gk_W c P cs (fun _ _ => none) rt uf sc K V) {idx : Nat} {v : Int32} {g : Nat → Int32} (hd : decode c pc = .ok (.invokevirtual idx, 3)) (hp : pc + 3 = pc2) (hc : cs idx = some (1, 10, 2, 0, S_X11_setSound)) (h8 : Nat.ble (r.map Value.category).sum 8 = true) (hM : MG g x) (kk0 : (100 ≤ v ∧ v ≤ 1000) → ∀ (x2 : gk_X) (y2 : gk_Y), MOk (gU g 0 v) 0 x x2 y y2 → V pc2 L (.int (g 0) :: r) 202 gk_fT x2 y2 u) (kk1 : ¬ (100 ≤ v ∧ v ≤ 1000) → ∀ (x2 : gk_X) (y2 : gk_Y), MOk g 1 x x2 y y2 → V pc2 L (.int 0 :: r) 202 gk_fT x2 y2 u) : V pc L (.int v :: .ref 189 :: r) 202 gk_fT x y u :=
  r_X11_setSound w hd hp hc h8 (fun h => by rw [hM 0 (by decide)]; exact kk0 h _ _ ((MOk.ini hM).st 0 v)) (fun h => kk1 h _ _ ((MOk.ini hM).fail 1))
theorem rM_setGround (w : gk_W c P cs (fun _ _ => none) rt uf sc K V) {idx : Nat} {v : Int32} {g : Nat → Int32} (hd : decode c pc = .ok (.invokevirtual idx, 3)) (hp : pc + 3 = pc2) (hc : cs idx = some (1, 10, 2, 0, S_X11_setGround)) (h8 : Nat.ble (r.map Value.category).sum 8 = true) (hM : MG g x) (kk0 : (-90 ≤ v ∧ v ≤ 90) → ∀ (x2 : gk_X) (y2 : gk_Y), MOk (gU g 1 v) 0 x x2 y y2 → V pc2 L (.int (g 1) :: r) 202 gk_fT x2 y2 u) (kk1 : ¬ (-90 ≤ v ∧ v ≤ 90) → ∀ (x2 : gk_X) (y2 : gk_Y), MOk g 1 x x2 y y2 → V pc2 L (.int 0 :: r) 202 gk_fT x2 y2 u) : V pc L (.int v :: .ref 189 :: r) 202 gk_fT x y u :=
  r_X11_setGround w hd hp hc h8 (fun h => by rw [hM 1 (by decide)]; exact kk0 h _ _ ((MOk.ini hM).st 1 v)) (fun h => kk1 h _ _ ((MOk.ini hM).fail 1))
theorem lc_0 (w : gk_W cL_law pL cs (fun _ _ => none) rt uf (some Ls) K V) (hc1 : cs 146 = some (0, 0, 3, 1, S_L_setSound)) (hc2 : cs 151 = some (1, 10, 2, 0, S_X11_setSound)) (hc3 : cs 152 = some (1, 10, 1, 0, S_X11_thrown)) {a1 : Int32} (h1 : vp_in (i + 1) Ls) (e1 : sv (i + 1).toNatClampNeg = a1) (hu : u + 6 ≤ uf) (hI : LI sv x y) (kk : ∀ (x2 : gk_X) (y2 : gk_Y) (q6 q7 q8 : Option Value) (u2 : Nat), u2 ≤ u + 6 → LI sv x2 y2 → V 3095 [some (.ref 5000), some (.ref 0), some (.ref 189), some (.ref 200), some (.ref 201), some (.int i), q6, q7, q8] [] 202 gk_fT x2 y2 u2) : V 236 [some (.ref 5000), some (.ref 0), some (.ref 189), some (.ref 200), some (.ref 201), some (.int i), q6, q7, q8] [] 202 gk_fT x y u := by
  obtain ⟨sc, hT, g, hM, hR, hok⟩ := hI
  refine s_aload_n (pc2 := 237) w dL_law_236 rfl rfl ?_
  refine s_aload_n (pc2 := 238) w dL_law_237 rfl rfl ?_
  refine s_iload (pc2 := 240) w dL_law_238 rfl rfl ?_
  refine s_iconst (pc2 := 241) (v := 1) w dL_law_240 rfl rfl ?_
  refine s_iadd (pc2 := 242) w dL_law_241 rfl ?_
  refine g_ialoadS (pc2 := 243) w dL_law_242 rfl rfl h1 ?_
  rw [sc _, e1]
  refine s_aload_n (pc2 := 244) w dL_law_243 rfl rfl ?_
  refine r_L_setSound (pc2 := 247) w dL_law_244 rfl hc1 rfl (by omega) hR hok ?_ ?_
  · intro b0 x2 y2 b1
    have sc2 := sc.cx b1.2.1
    refine s_istore (pc2 := 249) w dL_law_247 rfl rfl ?_
    dsimp only [gk_s1, gk_s2, gk_cl]
    refine s_aload_n (pc2 := 250) w dL_law_249 rfl rfl ?_
    refine s_aload_n (pc2 := 251) w dL_law_250 rfl rfl ?_
    refine s_iload (pc2 := 253) w dL_law_251 rfl rfl ?_
    refine s_iconst (pc2 := 254) (v := 1) w dL_law_253 rfl rfl ?_
    refine s_iadd (pc2 := 255) w dL_law_254 rfl ?_
    refine g_ialoadS (pc2 := 256) w dL_law_255 rfl rfl h1 ?_
    rw [sc2 _, e1]
    refine rM_setSound (pc2 := 259) w dL_law_256 rfl hc2 rfl (hM.cx b1.2.1) ?_ ?_
    · intro d0 x3 y3 d1
      refine s_istore (pc2 := 261) w dL_law_259 rfl rfl ?_
      dsimp only [gk_s1, gk_s2, gk_cl]
      refine s_aload_n (pc2 := 262) w dL_law_261 rfl rfl ?_
      refine r_X11_thrown (pc2 := 265) w dL_law_262 rfl hc3 rfl ?_
      rw [d1.2.1]
      refine s_iload (pc2 := 267) w dL_law_265 rfl rfl ?_
      refine s_ic_eq (pc2 := 270) (tgt := 272) w dL_law_267 rfl (by decide) (fun _ => ?_) (fun h0 => absurd (rfl) h0)
      refine s_iload (pc2 := 274) w dL_law_272 rfl rfl ?_
      refine s_if_ne (pc2 := 277) (tgt := 289) w dL_law_274 rfl (by decide) (fun h0 => absurd (rfl) h0) (fun _ => ?_)
      refine s_aload_n (pc2 := 278) w dL_law_277 rfl rfl ?_
      refine s_iconst (pc2 := 279) (v := 0) w dL_law_278 rfl rfl ?_
      refine m_laloadN (pc2 := 280) (t := 0) (N := 1) w dL_law_279 rfl rfl rfl rfl (by decide) rfl ?_
      rw [(d1.2.2.2 200 0 (by decide)).trans (gk_uy_in _ _ _ _)]
      refine s_iload (pc2 := 282) w dL_law_280 rfl rfl ?_
      refine s_i2l (pc2 := 283) w dL_law_282 rfl ?_
      refine s_lcmp (pc2 := 284) w dL_law_283 rfl ?_
      refine s_if_eq (pc2 := 287) (tgt := 289) w dL_law_284 rfl (by decide) (fun _ => ?_) (fun h0 => absurd (lcm_self _) h0)
      refine s_goto (tgt := 3095) w dL_law_289 (by decide) ?_
      exact kk _ _ _ _ _ _ (by omega) (LI.st sc hT b1 (uy_out (Or.inl rfl)) d1 (gOK_0 hok b0))
    · intro d0 x3 y3 d1
      exact absurd b0 d0
  · intro b0 x2 y2 b1
    have sc2 := sc.cx b1.2.1
    refine s_istore (pc2 := 249) w dL_law_247 rfl rfl ?_
    dsimp only [gk_s1, gk_s2, gk_cl]
    refine s_aload_n (pc2 := 250) w dL_law_249 rfl rfl ?_
    refine s_aload_n (pc2 := 251) w dL_law_250 rfl rfl ?_
    refine s_iload (pc2 := 253) w dL_law_251 rfl rfl ?_
    refine s_iconst (pc2 := 254) (v := 1) w dL_law_253 rfl rfl ?_
    refine s_iadd (pc2 := 255) w dL_law_254 rfl ?_
    refine g_ialoadS (pc2 := 256) w dL_law_255 rfl rfl h1 ?_
    rw [sc2 _, e1]
    refine rM_setSound (pc2 := 259) w dL_law_256 rfl hc2 rfl (hM.cx b1.2.1) ?_ ?_
    · intro d0 x3 y3 d1
      exact absurd d0 b0
    · intro d0 x3 y3 d1
      refine s_istore (pc2 := 261) w dL_law_259 rfl rfl ?_
      dsimp only [gk_s1, gk_s2, gk_cl]
      refine s_aload_n (pc2 := 262) w dL_law_261 rfl rfl ?_
      refine r_X11_thrown (pc2 := 265) w dL_law_262 rfl hc3 rfl ?_
      rw [d1.2.1]
      refine s_iload (pc2 := 267) w dL_law_265 rfl rfl ?_
      refine s_ic_eq (pc2 := 270) (tgt := 272) w dL_law_267 rfl (by decide) (fun _ => ?_) (fun h0 => absurd (rfl) h0)
      refine s_iload (pc2 := 274) w dL_law_272 rfl rfl ?_
      refine s_if_ne (pc2 := 277) (tgt := 289) w dL_law_274 rfl (by decide) (fun _ => ?_) (fun h0 => absurd h0 (by decide))
      refine s_goto (tgt := 3095) w dL_law_289 (by decide) ?_
      exact kk _ _ _ _ _ _ (by omega) (LI.st sc hT b1 (fun _ _ _ _ => rfl) d1 hok)

theorem lc_1 (w : gk_W cL_law pL cs (fun _ _ => none) rt uf (some Ls) K V) (hc1 : cs 156 = some (0, 0, 3, 1, S_L_setGround)) (hc2 : cs 158 = some (1, 10, 2, 0, S_X11_setGround)) (hc3 : cs 152 = some (1, 10, 1, 0, S_X11_thrown)) {a1 : Int32} (h1 : vp_in (i + 1) Ls) (e1 : sv (i + 1).toNatClampNeg = a1) (hu : u + 6 ≤ uf) (hI : LI sv x y) (kk : ∀ (x2 : gk_X) (y2 : gk_Y) (q6 q7 q8 : Option Value) (u2 : Nat), u2 ≤ u + 6 → LI sv x2 y2 → V 3095 [some (.ref 5000), some (.ref 0), some (.ref 189), some (.ref 200), some (.ref 201), some (.int i), q6, q7, q8] [] 202 gk_fT x2 y2 u2) : V 292 [some (.ref 5000), some (.ref 0), some (.ref 189), some (.ref 200), some (.ref 201), some (.int i), q6, q7, q8] [] 202 gk_fT x y u := by
  obtain ⟨sc, hT, g, hM, hR, hok⟩ := hI
  refine s_aload_n (pc2 := 293) w dL_law_292 rfl rfl ?_
  refine s_aload_n (pc2 := 294) w dL_law_293 rfl rfl ?_
  refine s_iload (pc2 := 296) w dL_law_294 rfl rfl ?_
  refine s_iconst (pc2 := 297) (v := 1) w dL_law_296 rfl rfl ?_
  refine s_iadd (pc2 := 298) w dL_law_297 rfl ?_
  refine g_ialoadS (pc2 := 299) w dL_law_298 rfl rfl h1 ?_
  rw [sc _, e1]
  refine s_aload_n (pc2 := 300) w dL_law_299 rfl rfl ?_
  refine r_L_setGround (pc2 := 303) w dL_law_300 rfl hc1 rfl (by omega) hR hok ?_ ?_
  · intro b0 x2 y2 b1
    have sc2 := sc.cx b1.2.1
    refine s_istore (pc2 := 305) w dL_law_303 rfl rfl ?_
    dsimp only [gk_s1, gk_s2, gk_cl]
    refine s_aload_n (pc2 := 306) w dL_law_305 rfl rfl ?_
    refine s_aload_n (pc2 := 307) w dL_law_306 rfl rfl ?_
    refine s_iload (pc2 := 309) w dL_law_307 rfl rfl ?_
    refine s_iconst (pc2 := 310) (v := 1) w dL_law_309 rfl rfl ?_
    refine s_iadd (pc2 := 311) w dL_law_310 rfl ?_
    refine g_ialoadS (pc2 := 312) w dL_law_311 rfl rfl h1 ?_
    rw [sc2 _, e1]
    refine rM_setGround (pc2 := 315) w dL_law_312 rfl hc2 rfl (hM.cx b1.2.1) ?_ ?_
    · intro d0 x3 y3 d1
      refine s_istore (pc2 := 317) w dL_law_315 rfl rfl ?_
      dsimp only [gk_s1, gk_s2, gk_cl]
      refine s_aload_n (pc2 := 318) w dL_law_317 rfl rfl ?_
      refine r_X11_thrown (pc2 := 321) w dL_law_318 rfl hc3 rfl ?_
      rw [d1.2.1]
      refine s_iload (pc2 := 323) w dL_law_321 rfl rfl ?_
      refine s_ic_eq (pc2 := 326) (tgt := 328) w dL_law_323 rfl (by decide) (fun _ => ?_) (fun h0 => absurd (rfl) h0)
      refine s_iload (pc2 := 330) w dL_law_328 rfl rfl ?_
      refine s_if_ne (pc2 := 333) (tgt := 345) w dL_law_330 rfl (by decide) (fun h0 => absurd (rfl) h0) (fun _ => ?_)
      refine s_aload_n (pc2 := 334) w dL_law_333 rfl rfl ?_
      refine s_iconst (pc2 := 335) (v := 0) w dL_law_334 rfl rfl ?_
      refine m_laloadN (pc2 := 336) (t := 0) (N := 1) w dL_law_335 rfl rfl rfl rfl (by decide) rfl ?_
      rw [(d1.2.2.2 200 0 (by decide)).trans (gk_uy_in _ _ _ _)]
      refine s_iload (pc2 := 338) w dL_law_336 rfl rfl ?_
      refine s_i2l (pc2 := 339) w dL_law_338 rfl ?_
      refine s_lcmp (pc2 := 340) w dL_law_339 rfl ?_
      refine s_if_eq (pc2 := 343) (tgt := 345) w dL_law_340 rfl (by decide) (fun _ => ?_) (fun h0 => absurd (lcm_self _) h0)
      refine s_goto (tgt := 3095) w dL_law_345 (by decide) ?_
      exact kk _ _ _ _ _ _ (by omega) (LI.st sc hT b1 (uy_out (Or.inl rfl)) d1 (gOK_1 hok b0))
    · intro d0 x3 y3 d1
      exact absurd b0 d0
  · intro b0 x2 y2 b1
    have sc2 := sc.cx b1.2.1
    refine s_istore (pc2 := 305) w dL_law_303 rfl rfl ?_
    dsimp only [gk_s1, gk_s2, gk_cl]
    refine s_aload_n (pc2 := 306) w dL_law_305 rfl rfl ?_
    refine s_aload_n (pc2 := 307) w dL_law_306 rfl rfl ?_
    refine s_iload (pc2 := 309) w dL_law_307 rfl rfl ?_
    refine s_iconst (pc2 := 310) (v := 1) w dL_law_309 rfl rfl ?_
    refine s_iadd (pc2 := 311) w dL_law_310 rfl ?_
    refine g_ialoadS (pc2 := 312) w dL_law_311 rfl rfl h1 ?_
    rw [sc2 _, e1]
    refine rM_setGround (pc2 := 315) w dL_law_312 rfl hc2 rfl (hM.cx b1.2.1) ?_ ?_
    · intro d0 x3 y3 d1
      exact absurd d0 b0
    · intro d0 x3 y3 d1
      refine s_istore (pc2 := 317) w dL_law_315 rfl rfl ?_
      dsimp only [gk_s1, gk_s2, gk_cl]
      refine s_aload_n (pc2 := 318) w dL_law_317 rfl rfl ?_
      refine r_X11_thrown (pc2 := 321) w dL_law_318 rfl hc3 rfl ?_
      rw [d1.2.1]
      refine s_iload (pc2 := 323) w dL_law_321 rfl rfl ?_
      refine s_ic_eq (pc2 := 326) (tgt := 328) w dL_law_323 rfl (by decide) (fun _ => ?_) (fun h0 => absurd (rfl) h0)
      refine s_iload (pc2 := 330) w dL_law_328 rfl rfl ?_
      refine s_if_ne (pc2 := 333) (tgt := 345) w dL_law_330 rfl (by decide) (fun _ => ?_) (fun h0 => absurd h0 (by decide))
      refine s_goto (tgt := 3095) w dL_law_345 (by decide) ?_
      exact kk _ _ _ _ _ _ (by omega) (LI.st sc hT b1 (fun _ _ _ _ => rfl) d1 hok)

theorem lc_3 (w : gk_W cL_law pL cs (fun _ _ => none) rt uf (some Ls) K V) (hc1 : cs 164 = some (0, 0, 3, 2, S_L_setNoise)) (hc2 : cs 167 = some (1, 10, 3, 0, S_X11_setNoise)) (hc3 : cs 152 = some (1, 10, 1, 0, S_X11_thrown)) {a1 a2 : Int32} (h1 : vp_in (i + 1) Ls) (e1 : sv (i + 1).toNatClampNeg = a1) (h2 : vp_in (i + 2) Ls) (e2 : sv (i + 2).toNatClampNeg = a2) (hu : u + 6 ≤ uf) (hI : LI sv x y) (kk : ∀ (x2 : gk_X) (y2 : gk_Y) (q6 q7 q8 : Option Value) (u2 : Nat), u2 ≤ u + 6 → LI sv x2 y2 → V 3095 [some (.ref 5000), some (.ref 0), some (.ref 189), some (.ref 200), some (.ref 201), some (.int i), q6, q7, q8] [] 202 gk_fT x2 y2 u2) : V 389 [some (.ref 5000), some (.ref 0), some (.ref 189), some (.ref 200), some (.ref 201), some (.int i), q6, q7, q8] [] 202 gk_fT x y u := by
  obtain ⟨sc, hT, g, hM, hR, hok⟩ := hI
  refine s_aload_n (pc2 := 390) w dL_law_389 rfl rfl ?_
  refine s_aload_n (pc2 := 391) w dL_law_390 rfl rfl ?_
  refine s_iload (pc2 := 393) w dL_law_391 rfl rfl ?_
  refine s_iconst (pc2 := 394) (v := 1) w dL_law_393 rfl rfl ?_
  refine s_iadd (pc2 := 395) w dL_law_394 rfl ?_
  refine g_ialoadS (pc2 := 396) w dL_law_395 rfl rfl h1 ?_
  rw [sc _, e1]
  refine s_aload_n (pc2 := 397) w dL_law_396 rfl rfl ?_
  refine s_iload (pc2 := 399) w dL_law_397 rfl rfl ?_
  refine s_iconst (pc2 := 400) (v := 2) w dL_law_399 rfl rfl ?_
  refine s_iadd (pc2 := 401) w dL_law_400 rfl ?_
  refine g_ialoadS (pc2 := 402) w dL_law_401 rfl rfl h2 ?_
  rw [sc _, e2]
  refine r_L_setNoise (pc2 := 405) w dL_law_402 rfl hc1 rfl (by omega) hR hok ?_ ?_
  · intro b0 x2 y2 b1
    have sc2 := sc.cx b1.2.1
    refine s_istore (pc2 := 407) w dL_law_405 rfl rfl ?_
    dsimp only [gk_s1, gk_s2, gk_cl]
    refine s_aload_n (pc2 := 408) w dL_law_407 rfl rfl ?_
    refine s_aload_n (pc2 := 409) w dL_law_408 rfl rfl ?_
    refine s_iload (pc2 := 411) w dL_law_409 rfl rfl ?_
    refine s_iconst (pc2 := 412) (v := 1) w dL_law_411 rfl rfl ?_
    refine s_iadd (pc2 := 413) w dL_law_412 rfl ?_
    refine g_ialoadS (pc2 := 414) w dL_law_413 rfl rfl h1 ?_
    rw [sc2 _, e1]
    refine s_aload_n (pc2 := 415) w dL_law_414 rfl rfl ?_
    refine s_iload (pc2 := 417) w dL_law_415 rfl rfl ?_
    refine s_iconst (pc2 := 418) (v := 2) w dL_law_417 rfl rfl ?_
    refine s_iadd (pc2 := 419) w dL_law_418 rfl ?_
    refine g_ialoadS (pc2 := 420) w dL_law_419 rfl rfl h2 ?_
    rw [sc2 _, e2]
    refine r_X11_setNoise (pc2 := 423) w dL_law_420 rfl hc2 rfl (hM.cx b1.2.1) hok ?_ ?_
    · intro d0 x3 y3 d1
      refine s_aload_n (pc2 := 424) w dL_law_423 rfl rfl ?_
      refine r_X11_thrown (pc2 := 427) w dL_law_424 rfl hc3 rfl ?_
      rw [d1.2.1]
      refine s_iload (pc2 := 429) w dL_law_427 rfl rfl ?_
      refine s_ic_eq (pc2 := 432) (tgt := 434) w dL_law_429 rfl (by decide) (fun _ => ?_) (fun h0 => absurd (rfl) h0)
      refine s_goto (tgt := 3095) w dL_law_434 (by decide) ?_
      exact kk _ _ _ _ _ _ (by omega) (LI.st sc hT b1 (fun _ _ _ _ => rfl) d1 (gOK_4 (gOK_3 hok b0.1) b0.2))
    · intro d0 x3 y3 d1
      exact absurd b0 d0
  · intro b0 x2 y2 b1
    have sc2 := sc.cx b1.2.1
    refine s_istore (pc2 := 407) w dL_law_405 rfl rfl ?_
    dsimp only [gk_s1, gk_s2, gk_cl]
    refine s_aload_n (pc2 := 408) w dL_law_407 rfl rfl ?_
    refine s_aload_n (pc2 := 409) w dL_law_408 rfl rfl ?_
    refine s_iload (pc2 := 411) w dL_law_409 rfl rfl ?_
    refine s_iconst (pc2 := 412) (v := 1) w dL_law_411 rfl rfl ?_
    refine s_iadd (pc2 := 413) w dL_law_412 rfl ?_
    refine g_ialoadS (pc2 := 414) w dL_law_413 rfl rfl h1 ?_
    rw [sc2 _, e1]
    refine s_aload_n (pc2 := 415) w dL_law_414 rfl rfl ?_
    refine s_iload (pc2 := 417) w dL_law_415 rfl rfl ?_
    refine s_iconst (pc2 := 418) (v := 2) w dL_law_417 rfl rfl ?_
    refine s_iadd (pc2 := 419) w dL_law_418 rfl ?_
    refine g_ialoadS (pc2 := 420) w dL_law_419 rfl rfl h2 ?_
    rw [sc2 _, e2]
    refine r_X11_setNoise (pc2 := 423) w dL_law_420 rfl hc2 rfl (hM.cx b1.2.1) hok ?_ ?_
    · intro d0 x3 y3 d1
      exact absurd d0 b0
    · intro d0 x3 y3 d1
      refine s_aload_n (pc2 := 424) w dL_law_423 rfl rfl ?_
      refine r_X11_thrown (pc2 := 427) w dL_law_424 rfl hc3 rfl ?_
      rw [d1.2.1]
      refine s_iload (pc2 := 429) w dL_law_427 rfl rfl ?_
      refine s_ic_eq (pc2 := 432) (tgt := 434) w dL_law_429 rfl (by decide) (fun _ => ?_) (fun h0 => absurd (rfl) h0)
      refine s_goto (tgt := 3095) w dL_law_434 (by decide) ?_
      exact kk _ _ _ _ _ _ (by omega) (LI.st sc hT b1 (fun _ _ _ _ => rfl) d1 hok)

theorem lc_4 (w : gk_W cL_law pL cs (fun _ _ => none) rt uf (some Ls) K V) (hc1 : cs 168 = some (0, 0, 5, 4, S_L_addVehicle)) (hc2 : cs 171 = some (1, 10, 4, 0, S_X11_addVehicle)) (hc3 : cs 152 = some (1, 10, 1, 0, S_X11_thrown)) {a1 a2 a3 : Int32} (h1 : vp_in (i + 1) Ls) (e1 : sv (i + 1).toNatClampNeg = a1) (h2 : vp_in (i + 2) Ls) (e2 : sv (i + 2).toNatClampNeg = a2) (h3 : vp_in (i + 3) Ls) (e3 : sv (i + 3).toNatClampNeg = a3) (hu : u + 6 ≤ uf) (hI : LI sv x y) (kk : ∀ (x2 : gk_X) (y2 : gk_Y) (q6 q7 q8 : Option Value) (u2 : Nat), u2 ≤ u + 6 → LI sv x2 y2 → V 3095 [some (.ref 5000), some (.ref 0), some (.ref 189), some (.ref 200), some (.ref 201), some (.int i), q6, q7, q8] [] 202 gk_fT x2 y2 u2) : V 437 [some (.ref 5000), some (.ref 0), some (.ref 189), some (.ref 200), some (.ref 201), some (.int i), q6, q7, q8] [] 202 gk_fT x y u := by
  obtain ⟨sc, hT, g, hM, hR, hok⟩ := hI
  refine s_aload_n (pc2 := 438) w dL_law_437 rfl rfl ?_
  refine s_aload_n (pc2 := 439) w dL_law_438 rfl rfl ?_
  refine s_iload (pc2 := 441) w dL_law_439 rfl rfl ?_
  refine s_iconst (pc2 := 442) (v := 1) w dL_law_441 rfl rfl ?_
  refine s_iadd (pc2 := 443) w dL_law_442 rfl ?_
  refine g_ialoadS (pc2 := 444) w dL_law_443 rfl rfl h1 ?_
  rw [sc _, e1]
  refine s_aload_n (pc2 := 445) w dL_law_444 rfl rfl ?_
  refine s_iload (pc2 := 447) w dL_law_445 rfl rfl ?_
  refine s_iconst (pc2 := 448) (v := 2) w dL_law_447 rfl rfl ?_
  refine s_iadd (pc2 := 449) w dL_law_448 rfl ?_
  refine g_ialoadS (pc2 := 450) w dL_law_449 rfl rfl h2 ?_
  rw [sc _, e2]
  refine s_aload_n (pc2 := 451) w dL_law_450 rfl rfl ?_
  refine s_iload (pc2 := 453) w dL_law_451 rfl rfl ?_
  refine s_iconst (pc2 := 454) (v := 3) w dL_law_453 rfl rfl ?_
  refine s_iadd (pc2 := 455) w dL_law_454 rfl ?_
  refine g_ialoadS (pc2 := 456) w dL_law_455 rfl rfl h3 ?_
  rw [sc _, e3]
  refine s_aload_n (pc2 := 457) w dL_law_456 rfl rfl ?_
  refine r_L_addVehicle (pc2 := 460) w dL_law_457 rfl hc1 rfl (by omega) hR hok ?_ ?_ ?_
  · intro b0 b1 x2 y2 b2
    have sc2 := sc.cx b2.2.1
    refine s_istore (pc2 := 462) w dL_law_460 rfl rfl ?_
    dsimp only [gk_s1, gk_s2, gk_cl]
    refine s_aload_n (pc2 := 463) w dL_law_462 rfl rfl ?_
    refine s_aload_n (pc2 := 464) w dL_law_463 rfl rfl ?_
    refine s_iload (pc2 := 466) w dL_law_464 rfl rfl ?_
    refine s_iconst (pc2 := 467) (v := 1) w dL_law_466 rfl rfl ?_
    refine s_iadd (pc2 := 468) w dL_law_467 rfl ?_
    refine g_ialoadS (pc2 := 469) w dL_law_468 rfl rfl h1 ?_
    rw [sc2 _, e1]
    refine s_aload_n (pc2 := 470) w dL_law_469 rfl rfl ?_
    refine s_iload (pc2 := 472) w dL_law_470 rfl rfl ?_
    refine s_iconst (pc2 := 473) (v := 2) w dL_law_472 rfl rfl ?_
    refine s_iadd (pc2 := 474) w dL_law_473 rfl ?_
    refine g_ialoadS (pc2 := 475) w dL_law_474 rfl rfl h2 ?_
    rw [sc2 _, e2]
    refine s_aload_n (pc2 := 476) w dL_law_475 rfl rfl ?_
    refine s_iload (pc2 := 478) w dL_law_476 rfl rfl ?_
    refine s_iconst (pc2 := 479) (v := 3) w dL_law_478 rfl rfl ?_
    refine s_iadd (pc2 := 480) w dL_law_479 rfl ?_
    refine g_ialoadS (pc2 := 481) w dL_law_480 rfl rfl h3 ?_
    rw [sc2 _, e3]
    refine r_X11_addVehicle (pc2 := 484) w dL_law_481 rfl hc2 rfl (hM.cx b2.2.1) hok ?_ ?_ ?_
    · intro d0 d1 x3 y3 d2
      refine s_istore (pc2 := 486) w dL_law_484 rfl rfl ?_
      dsimp only [gk_s1, gk_s2, gk_cl]
      refine s_aload_n (pc2 := 487) w dL_law_486 rfl rfl ?_
      refine r_X11_thrown (pc2 := 490) w dL_law_487 rfl hc3 rfl ?_
      rw [d2.2.1]
      refine s_iload (pc2 := 492) w dL_law_490 rfl rfl ?_
      refine s_ic_eq (pc2 := 495) (tgt := 497) w dL_law_492 rfl (by decide) (fun _ => ?_) (fun h0 => absurd (rfl) h0)
      refine s_iload (pc2 := 499) w dL_law_497 rfl rfl ?_
      refine s_if_ne (pc2 := 502) (tgt := 514) w dL_law_499 rfl (by decide) (fun h0 => absurd (rfl) h0) (fun _ => ?_)
      refine s_aload_n (pc2 := 503) w dL_law_502 rfl rfl ?_
      refine s_iconst (pc2 := 504) (v := 0) w dL_law_503 rfl rfl ?_
      refine m_laloadN (pc2 := 505) (t := 0) (N := 1) w dL_law_504 rfl rfl rfl rfl (by decide) rfl ?_
      rw [(d2.2.2.2 200 0 (by decide)).trans (gk_uy_in _ _ _ _)]
      refine s_iload (pc2 := 507) w dL_law_505 rfl rfl ?_
      refine s_i2l (pc2 := 508) w dL_law_507 rfl ?_
      refine s_lcmp (pc2 := 509) w dL_law_508 rfl ?_
      refine s_if_eq (pc2 := 512) (tgt := 514) w dL_law_509 rfl (by decide) (fun _ => ?_) (fun h0 => absurd (lcm_self _) h0)
      refine s_goto (tgt := 3095) w dL_law_514 (by decide) ?_
      exact kk _ _ _ _ _ _ (by omega) (LI.st sc hT b2 (uy_out (Or.inl rfl)) d2 (ok_AV hok b0 b1))
    · intro d0 x3 y3 d1
      exact absurd b0 d0
    · intro d0 d1 x3 y3 d2
      exact absurd b1 d1
  · intro b0 x2 y2 b1
    have sc2 := sc.cx b1.2.1
    refine s_istore (pc2 := 462) w dL_law_460 rfl rfl ?_
    dsimp only [gk_s1, gk_s2, gk_cl]
    refine s_aload_n (pc2 := 463) w dL_law_462 rfl rfl ?_
    refine s_aload_n (pc2 := 464) w dL_law_463 rfl rfl ?_
    refine s_iload (pc2 := 466) w dL_law_464 rfl rfl ?_
    refine s_iconst (pc2 := 467) (v := 1) w dL_law_466 rfl rfl ?_
    refine s_iadd (pc2 := 468) w dL_law_467 rfl ?_
    refine g_ialoadS (pc2 := 469) w dL_law_468 rfl rfl h1 ?_
    rw [sc2 _, e1]
    refine s_aload_n (pc2 := 470) w dL_law_469 rfl rfl ?_
    refine s_iload (pc2 := 472) w dL_law_470 rfl rfl ?_
    refine s_iconst (pc2 := 473) (v := 2) w dL_law_472 rfl rfl ?_
    refine s_iadd (pc2 := 474) w dL_law_473 rfl ?_
    refine g_ialoadS (pc2 := 475) w dL_law_474 rfl rfl h2 ?_
    rw [sc2 _, e2]
    refine s_aload_n (pc2 := 476) w dL_law_475 rfl rfl ?_
    refine s_iload (pc2 := 478) w dL_law_476 rfl rfl ?_
    refine s_iconst (pc2 := 479) (v := 3) w dL_law_478 rfl rfl ?_
    refine s_iadd (pc2 := 480) w dL_law_479 rfl ?_
    refine g_ialoadS (pc2 := 481) w dL_law_480 rfl rfl h3 ?_
    rw [sc2 _, e3]
    refine r_X11_addVehicle (pc2 := 484) w dL_law_481 rfl hc2 rfl (hM.cx b1.2.1) hok ?_ ?_ ?_
    · intro d0 d1 x3 y3 d2
      exact absurd d0 b0
    · intro d0 x3 y3 d1
      refine s_istore (pc2 := 486) w dL_law_484 rfl rfl ?_
      dsimp only [gk_s1, gk_s2, gk_cl]
      refine s_aload_n (pc2 := 487) w dL_law_486 rfl rfl ?_
      refine r_X11_thrown (pc2 := 490) w dL_law_487 rfl hc3 rfl ?_
      rw [d1.2.1]
      refine s_iload (pc2 := 492) w dL_law_490 rfl rfl ?_
      refine s_ic_eq (pc2 := 495) (tgt := 497) w dL_law_492 rfl (by decide) (fun _ => ?_) (fun h0 => absurd (rfl) h0)
      refine s_iload (pc2 := 499) w dL_law_497 rfl rfl ?_
      refine s_if_ne (pc2 := 502) (tgt := 514) w dL_law_499 rfl (by decide) (fun _ => ?_) (fun h0 => absurd h0 (by decide))
      refine s_goto (tgt := 3095) w dL_law_514 (by decide) ?_
      exact kk _ _ _ _ _ _ (by omega) (LI.st sc hT b1 (fun _ _ _ _ => rfl) d1 hok)
    · intro d0 d1 x3 y3 d2
      exact absurd d0 b0
  · intro b0 b1 x2 y2 b2
    have sc2 := sc.cx b2.2.1
    refine s_istore (pc2 := 462) w dL_law_460 rfl rfl ?_
    dsimp only [gk_s1, gk_s2, gk_cl]
    refine s_aload_n (pc2 := 463) w dL_law_462 rfl rfl ?_
    refine s_aload_n (pc2 := 464) w dL_law_463 rfl rfl ?_
    refine s_iload (pc2 := 466) w dL_law_464 rfl rfl ?_
    refine s_iconst (pc2 := 467) (v := 1) w dL_law_466 rfl rfl ?_
    refine s_iadd (pc2 := 468) w dL_law_467 rfl ?_
    refine g_ialoadS (pc2 := 469) w dL_law_468 rfl rfl h1 ?_
    rw [sc2 _, e1]
    refine s_aload_n (pc2 := 470) w dL_law_469 rfl rfl ?_
    refine s_iload (pc2 := 472) w dL_law_470 rfl rfl ?_
    refine s_iconst (pc2 := 473) (v := 2) w dL_law_472 rfl rfl ?_
    refine s_iadd (pc2 := 474) w dL_law_473 rfl ?_
    refine g_ialoadS (pc2 := 475) w dL_law_474 rfl rfl h2 ?_
    rw [sc2 _, e2]
    refine s_aload_n (pc2 := 476) w dL_law_475 rfl rfl ?_
    refine s_iload (pc2 := 478) w dL_law_476 rfl rfl ?_
    refine s_iconst (pc2 := 479) (v := 3) w dL_law_478 rfl rfl ?_
    refine s_iadd (pc2 := 480) w dL_law_479 rfl ?_
    refine g_ialoadS (pc2 := 481) w dL_law_480 rfl rfl h3 ?_
    rw [sc2 _, e3]
    refine r_X11_addVehicle (pc2 := 484) w dL_law_481 rfl hc2 rfl (hM.cx b2.2.1) hok ?_ ?_ ?_
    · intro d0 d1 x3 y3 d2
      exact absurd d1 b1
    · intro d0 x3 y3 d1
      exact absurd b0 d0
    · intro d0 d1 x3 y3 d2
      refine s_istore (pc2 := 486) w dL_law_484 rfl rfl ?_
      dsimp only [gk_s1, gk_s2, gk_cl]
      refine s_aload_n (pc2 := 487) w dL_law_486 rfl rfl ?_
      refine r_X11_thrown (pc2 := 490) w dL_law_487 rfl hc3 rfl ?_
      rw [d2.2.1]
      refine s_iload (pc2 := 492) w dL_law_490 rfl rfl ?_
      refine s_ic_eq (pc2 := 495) (tgt := 497) w dL_law_492 rfl (by decide) (fun _ => ?_) (fun h0 => absurd (rfl) h0)
      refine s_iload (pc2 := 499) w dL_law_497 rfl rfl ?_
      refine s_if_ne (pc2 := 502) (tgt := 514) w dL_law_499 rfl (by decide) (fun _ => ?_) (fun h0 => absurd h0 (by decide))
      refine s_goto (tgt := 3095) w dL_law_514 (by decide) ?_
      exact kk _ _ _ _ _ _ (by omega) (LI.st sc hT b2 (fun _ _ _ _ => rfl) d2 hok)

theorem lc_5 (w : gk_W cL_law pL cs (fun _ _ => none) rt uf (some Ls) K V) (hc1 : cs 172 = some (0, 0, 7, 6, S_L_addSource)) (hc2 : cs 175 = some (1, 10, 6, 0, S_X11_addSource)) (hc3 : cs 152 = some (1, 10, 1, 0, S_X11_thrown)) {a1 a2 a3 a4 a5 : Int32} (h1 : vp_in (i + 1) Ls) (e1 : sv (i + 1).toNatClampNeg = a1) (h2 : vp_in (i + 2) Ls) (e2 : sv (i + 2).toNatClampNeg = a2) (h3 : vp_in (i + 3) Ls) (e3 : sv (i + 3).toNatClampNeg = a3) (h4 : vp_in (i + 4) Ls) (e4 : sv (i + 4).toNatClampNeg = a4) (h5 : vp_in (i + 5) Ls) (e5 : sv (i + 5).toNatClampNeg = a5) (hu : u + 6 ≤ uf) (hI : LI sv x y) (kk : ∀ (x2 : gk_X) (y2 : gk_Y) (q6 q7 q8 : Option Value) (u2 : Nat), u2 ≤ u + 6 → LI sv x2 y2 → V 3095 [some (.ref 5000), some (.ref 0), some (.ref 189), some (.ref 200), some (.ref 201), some (.int i), q6, q7, q8] [] 202 gk_fT x2 y2 u2) : V 517 [some (.ref 5000), some (.ref 0), some (.ref 189), some (.ref 200), some (.ref 201), some (.int i), q6, q7, q8] [] 202 gk_fT x y u := by
  obtain ⟨sc, hT, g, hM, hR, hok⟩ := hI
  refine s_aload_n (pc2 := 518) w dL_law_517 rfl rfl ?_
  refine s_aload_n (pc2 := 519) w dL_law_518 rfl rfl ?_
  refine s_iload (pc2 := 521) w dL_law_519 rfl rfl ?_
  refine s_iconst (pc2 := 522) (v := 1) w dL_law_521 rfl rfl ?_
  refine s_iadd (pc2 := 523) w dL_law_522 rfl ?_
  refine g_ialoadS (pc2 := 524) w dL_law_523 rfl rfl h1 ?_
  rw [sc _, e1]
  refine s_aload_n (pc2 := 525) w dL_law_524 rfl rfl ?_
  refine s_iload (pc2 := 527) w dL_law_525 rfl rfl ?_
  refine s_iconst (pc2 := 528) (v := 2) w dL_law_527 rfl rfl ?_
  refine s_iadd (pc2 := 529) w dL_law_528 rfl ?_
  refine g_ialoadS (pc2 := 530) w dL_law_529 rfl rfl h2 ?_
  rw [sc _, e2]
  refine s_aload_n (pc2 := 531) w dL_law_530 rfl rfl ?_
  refine s_iload (pc2 := 533) w dL_law_531 rfl rfl ?_
  refine s_iconst (pc2 := 534) (v := 3) w dL_law_533 rfl rfl ?_
  refine s_iadd (pc2 := 535) w dL_law_534 rfl ?_
  refine g_ialoadS (pc2 := 536) w dL_law_535 rfl rfl h3 ?_
  rw [sc _, e3]
  refine s_aload_n (pc2 := 537) w dL_law_536 rfl rfl ?_
  refine s_iload (pc2 := 539) w dL_law_537 rfl rfl ?_
  refine s_iconst (pc2 := 540) (v := 4) w dL_law_539 rfl rfl ?_
  refine s_iadd (pc2 := 541) w dL_law_540 rfl ?_
  refine g_ialoadS (pc2 := 542) w dL_law_541 rfl rfl h4 ?_
  rw [sc _, e4]
  refine s_aload_n (pc2 := 543) w dL_law_542 rfl rfl ?_
  refine s_iload (pc2 := 545) w dL_law_543 rfl rfl ?_
  refine s_iconst (pc2 := 546) (v := 5) w dL_law_545 rfl rfl ?_
  refine s_iadd (pc2 := 547) w dL_law_546 rfl ?_
  refine g_ialoadS (pc2 := 548) w dL_law_547 rfl rfl h5 ?_
  rw [sc _, e5]
  refine s_aload_n (pc2 := 549) w dL_law_548 rfl rfl ?_
  refine r_L_addSource (pc2 := 552) w dL_law_549 rfl hc1 rfl (by omega) hR hok ?_ ?_ ?_ ?_
  · intro b0 b1 b2 x2 y2 b3
    have sc2 := sc.cx b3.2.1
    refine s_istore (pc2 := 554) w dL_law_552 rfl rfl ?_
    dsimp only [gk_s1, gk_s2, gk_cl]
    refine s_aload_n (pc2 := 555) w dL_law_554 rfl rfl ?_
    refine s_aload_n (pc2 := 556) w dL_law_555 rfl rfl ?_
    refine s_iload (pc2 := 558) w dL_law_556 rfl rfl ?_
    refine s_iconst (pc2 := 559) (v := 1) w dL_law_558 rfl rfl ?_
    refine s_iadd (pc2 := 560) w dL_law_559 rfl ?_
    refine g_ialoadS (pc2 := 561) w dL_law_560 rfl rfl h1 ?_
    rw [sc2 _, e1]
    refine s_aload_n (pc2 := 562) w dL_law_561 rfl rfl ?_
    refine s_iload (pc2 := 564) w dL_law_562 rfl rfl ?_
    refine s_iconst (pc2 := 565) (v := 2) w dL_law_564 rfl rfl ?_
    refine s_iadd (pc2 := 566) w dL_law_565 rfl ?_
    refine g_ialoadS (pc2 := 567) w dL_law_566 rfl rfl h2 ?_
    rw [sc2 _, e2]
    refine s_aload_n (pc2 := 568) w dL_law_567 rfl rfl ?_
    refine s_iload (pc2 := 570) w dL_law_568 rfl rfl ?_
    refine s_iconst (pc2 := 571) (v := 3) w dL_law_570 rfl rfl ?_
    refine s_iadd (pc2 := 572) w dL_law_571 rfl ?_
    refine g_ialoadS (pc2 := 573) w dL_law_572 rfl rfl h3 ?_
    rw [sc2 _, e3]
    refine s_aload_n (pc2 := 574) w dL_law_573 rfl rfl ?_
    refine s_iload (pc2 := 576) w dL_law_574 rfl rfl ?_
    refine s_iconst (pc2 := 577) (v := 4) w dL_law_576 rfl rfl ?_
    refine s_iadd (pc2 := 578) w dL_law_577 rfl ?_
    refine g_ialoadS (pc2 := 579) w dL_law_578 rfl rfl h4 ?_
    rw [sc2 _, e4]
    refine s_aload_n (pc2 := 580) w dL_law_579 rfl rfl ?_
    refine s_iload (pc2 := 582) w dL_law_580 rfl rfl ?_
    refine s_iconst (pc2 := 583) (v := 5) w dL_law_582 rfl rfl ?_
    refine s_iadd (pc2 := 584) w dL_law_583 rfl ?_
    refine g_ialoadS (pc2 := 585) w dL_law_584 rfl rfl h5 ?_
    rw [sc2 _, e5]
    refine r_X11_addSource (pc2 := 588) w dL_law_585 rfl hc2 rfl (hM.cx b3.2.1) hok ?_ ?_ ?_ ?_
    · intro d0 d1 d2 x3 y3 d3
      refine s_istore (pc2 := 590) w dL_law_588 rfl rfl ?_
      dsimp only [gk_s1, gk_s2, gk_cl]
      refine s_aload_n (pc2 := 591) w dL_law_590 rfl rfl ?_
      refine r_X11_thrown (pc2 := 594) w dL_law_591 rfl hc3 rfl ?_
      rw [d3.2.1]
      refine s_iload (pc2 := 596) w dL_law_594 rfl rfl ?_
      refine s_ic_eq (pc2 := 599) (tgt := 601) w dL_law_596 rfl (by decide) (fun _ => ?_) (fun h0 => absurd (rfl) h0)
      refine s_iload (pc2 := 603) w dL_law_601 rfl rfl ?_
      refine s_if_ne (pc2 := 606) (tgt := 618) w dL_law_603 rfl (by decide) (fun h0 => absurd (rfl) h0) (fun _ => ?_)
      refine s_aload_n (pc2 := 607) w dL_law_606 rfl rfl ?_
      refine s_iconst (pc2 := 608) (v := 0) w dL_law_607 rfl rfl ?_
      refine m_laloadN (pc2 := 609) (t := 0) (N := 1) w dL_law_608 rfl rfl rfl rfl (by decide) rfl ?_
      rw [(d3.2.2.2 200 0 (by decide)).trans (gk_uy_in _ _ _ _)]
      refine s_iload (pc2 := 611) w dL_law_609 rfl rfl ?_
      refine s_i2l (pc2 := 612) w dL_law_611 rfl ?_
      refine s_lcmp (pc2 := 613) w dL_law_612 rfl ?_
      refine s_if_eq (pc2 := 616) (tgt := 618) w dL_law_613 rfl (by decide) (fun _ => ?_) (fun h0 => absurd (lcm_self _) h0)
      refine s_goto (tgt := 3095) w dL_law_618 (by decide) ?_
      exact kk _ _ _ _ _ _ (by omega) (LI.st sc hT b3 (uy_out (Or.inl rfl)) d3 (ok_AS hok b0 b1 b2))
    · intro d0 x3 y3 d1
      exact absurd b0 d0
    · intro d0 d1 x3 y3 d2
      exact absurd b1 d1
    · intro d0 d1 d2 x3 y3 d3
      exact absurd b2 d2
  · intro b0 x2 y2 b1
    have sc2 := sc.cx b1.2.1
    refine s_istore (pc2 := 554) w dL_law_552 rfl rfl ?_
    dsimp only [gk_s1, gk_s2, gk_cl]
    refine s_aload_n (pc2 := 555) w dL_law_554 rfl rfl ?_
    refine s_aload_n (pc2 := 556) w dL_law_555 rfl rfl ?_
    refine s_iload (pc2 := 558) w dL_law_556 rfl rfl ?_
    refine s_iconst (pc2 := 559) (v := 1) w dL_law_558 rfl rfl ?_
    refine s_iadd (pc2 := 560) w dL_law_559 rfl ?_
    refine g_ialoadS (pc2 := 561) w dL_law_560 rfl rfl h1 ?_
    rw [sc2 _, e1]
    refine s_aload_n (pc2 := 562) w dL_law_561 rfl rfl ?_
    refine s_iload (pc2 := 564) w dL_law_562 rfl rfl ?_
    refine s_iconst (pc2 := 565) (v := 2) w dL_law_564 rfl rfl ?_
    refine s_iadd (pc2 := 566) w dL_law_565 rfl ?_
    refine g_ialoadS (pc2 := 567) w dL_law_566 rfl rfl h2 ?_
    rw [sc2 _, e2]
    refine s_aload_n (pc2 := 568) w dL_law_567 rfl rfl ?_
    refine s_iload (pc2 := 570) w dL_law_568 rfl rfl ?_
    refine s_iconst (pc2 := 571) (v := 3) w dL_law_570 rfl rfl ?_
    refine s_iadd (pc2 := 572) w dL_law_571 rfl ?_
    refine g_ialoadS (pc2 := 573) w dL_law_572 rfl rfl h3 ?_
    rw [sc2 _, e3]
    refine s_aload_n (pc2 := 574) w dL_law_573 rfl rfl ?_
    refine s_iload (pc2 := 576) w dL_law_574 rfl rfl ?_
    refine s_iconst (pc2 := 577) (v := 4) w dL_law_576 rfl rfl ?_
    refine s_iadd (pc2 := 578) w dL_law_577 rfl ?_
    refine g_ialoadS (pc2 := 579) w dL_law_578 rfl rfl h4 ?_
    rw [sc2 _, e4]
    refine s_aload_n (pc2 := 580) w dL_law_579 rfl rfl ?_
    refine s_iload (pc2 := 582) w dL_law_580 rfl rfl ?_
    refine s_iconst (pc2 := 583) (v := 5) w dL_law_582 rfl rfl ?_
    refine s_iadd (pc2 := 584) w dL_law_583 rfl ?_
    refine g_ialoadS (pc2 := 585) w dL_law_584 rfl rfl h5 ?_
    rw [sc2 _, e5]
    refine r_X11_addSource (pc2 := 588) w dL_law_585 rfl hc2 rfl (hM.cx b1.2.1) hok ?_ ?_ ?_ ?_
    · intro d0 d1 d2 x3 y3 d3
      exact absurd d0 b0
    · intro d0 x3 y3 d1
      refine s_istore (pc2 := 590) w dL_law_588 rfl rfl ?_
      dsimp only [gk_s1, gk_s2, gk_cl]
      refine s_aload_n (pc2 := 591) w dL_law_590 rfl rfl ?_
      refine r_X11_thrown (pc2 := 594) w dL_law_591 rfl hc3 rfl ?_
      rw [d1.2.1]
      refine s_iload (pc2 := 596) w dL_law_594 rfl rfl ?_
      refine s_ic_eq (pc2 := 599) (tgt := 601) w dL_law_596 rfl (by decide) (fun _ => ?_) (fun h0 => absurd (rfl) h0)
      refine s_iload (pc2 := 603) w dL_law_601 rfl rfl ?_
      refine s_if_ne (pc2 := 606) (tgt := 618) w dL_law_603 rfl (by decide) (fun _ => ?_) (fun h0 => absurd h0 (by decide))
      refine s_goto (tgt := 3095) w dL_law_618 (by decide) ?_
      exact kk _ _ _ _ _ _ (by omega) (LI.st sc hT b1 (fun _ _ _ _ => rfl) d1 hok)
    · intro d0 d1 x3 y3 d2
      exact absurd d0 b0
    · intro d0 d1 d2 x3 y3 d3
      exact absurd d0 b0
  · intro b0 b1 x2 y2 b2
    have sc2 := sc.cx b2.2.1
    refine s_istore (pc2 := 554) w dL_law_552 rfl rfl ?_
    dsimp only [gk_s1, gk_s2, gk_cl]
    refine s_aload_n (pc2 := 555) w dL_law_554 rfl rfl ?_
    refine s_aload_n (pc2 := 556) w dL_law_555 rfl rfl ?_
    refine s_iload (pc2 := 558) w dL_law_556 rfl rfl ?_
    refine s_iconst (pc2 := 559) (v := 1) w dL_law_558 rfl rfl ?_
    refine s_iadd (pc2 := 560) w dL_law_559 rfl ?_
    refine g_ialoadS (pc2 := 561) w dL_law_560 rfl rfl h1 ?_
    rw [sc2 _, e1]
    refine s_aload_n (pc2 := 562) w dL_law_561 rfl rfl ?_
    refine s_iload (pc2 := 564) w dL_law_562 rfl rfl ?_
    refine s_iconst (pc2 := 565) (v := 2) w dL_law_564 rfl rfl ?_
    refine s_iadd (pc2 := 566) w dL_law_565 rfl ?_
    refine g_ialoadS (pc2 := 567) w dL_law_566 rfl rfl h2 ?_
    rw [sc2 _, e2]
    refine s_aload_n (pc2 := 568) w dL_law_567 rfl rfl ?_
    refine s_iload (pc2 := 570) w dL_law_568 rfl rfl ?_
    refine s_iconst (pc2 := 571) (v := 3) w dL_law_570 rfl rfl ?_
    refine s_iadd (pc2 := 572) w dL_law_571 rfl ?_
    refine g_ialoadS (pc2 := 573) w dL_law_572 rfl rfl h3 ?_
    rw [sc2 _, e3]
    refine s_aload_n (pc2 := 574) w dL_law_573 rfl rfl ?_
    refine s_iload (pc2 := 576) w dL_law_574 rfl rfl ?_
    refine s_iconst (pc2 := 577) (v := 4) w dL_law_576 rfl rfl ?_
    refine s_iadd (pc2 := 578) w dL_law_577 rfl ?_
    refine g_ialoadS (pc2 := 579) w dL_law_578 rfl rfl h4 ?_
    rw [sc2 _, e4]
    refine s_aload_n (pc2 := 580) w dL_law_579 rfl rfl ?_
    refine s_iload (pc2 := 582) w dL_law_580 rfl rfl ?_
    refine s_iconst (pc2 := 583) (v := 5) w dL_law_582 rfl rfl ?_
    refine s_iadd (pc2 := 584) w dL_law_583 rfl ?_
    refine g_ialoadS (pc2 := 585) w dL_law_584 rfl rfl h5 ?_
    rw [sc2 _, e5]
    refine r_X11_addSource (pc2 := 588) w dL_law_585 rfl hc2 rfl (hM.cx b2.2.1) hok ?_ ?_ ?_ ?_
    · intro d0 d1 d2 x3 y3 d3
      exact absurd d1 b1
    · intro d0 x3 y3 d1
      exact absurd b0 d0
    · intro d0 d1 x3 y3 d2
      refine s_istore (pc2 := 590) w dL_law_588 rfl rfl ?_
      dsimp only [gk_s1, gk_s2, gk_cl]
      refine s_aload_n (pc2 := 591) w dL_law_590 rfl rfl ?_
      refine r_X11_thrown (pc2 := 594) w dL_law_591 rfl hc3 rfl ?_
      rw [d2.2.1]
      refine s_iload (pc2 := 596) w dL_law_594 rfl rfl ?_
      refine s_ic_eq (pc2 := 599) (tgt := 601) w dL_law_596 rfl (by decide) (fun _ => ?_) (fun h0 => absurd (rfl) h0)
      refine s_iload (pc2 := 603) w dL_law_601 rfl rfl ?_
      refine s_if_ne (pc2 := 606) (tgt := 618) w dL_law_603 rfl (by decide) (fun _ => ?_) (fun h0 => absurd h0 (by decide))
      refine s_goto (tgt := 3095) w dL_law_618 (by decide) ?_
      exact kk _ _ _ _ _ _ (by omega) (LI.st sc hT b2 (fun _ _ _ _ => rfl) d2 hok)
    · intro d0 d1 d2 x3 y3 d3
      exact absurd d1 b1
  · intro b0 b1 b2 x2 y2 b3
    have sc2 := sc.cx b3.2.1
    refine s_istore (pc2 := 554) w dL_law_552 rfl rfl ?_
    dsimp only [gk_s1, gk_s2, gk_cl]
    refine s_aload_n (pc2 := 555) w dL_law_554 rfl rfl ?_
    refine s_aload_n (pc2 := 556) w dL_law_555 rfl rfl ?_
    refine s_iload (pc2 := 558) w dL_law_556 rfl rfl ?_
    refine s_iconst (pc2 := 559) (v := 1) w dL_law_558 rfl rfl ?_
    refine s_iadd (pc2 := 560) w dL_law_559 rfl ?_
    refine g_ialoadS (pc2 := 561) w dL_law_560 rfl rfl h1 ?_
    rw [sc2 _, e1]
    refine s_aload_n (pc2 := 562) w dL_law_561 rfl rfl ?_
    refine s_iload (pc2 := 564) w dL_law_562 rfl rfl ?_
    refine s_iconst (pc2 := 565) (v := 2) w dL_law_564 rfl rfl ?_
    refine s_iadd (pc2 := 566) w dL_law_565 rfl ?_
    refine g_ialoadS (pc2 := 567) w dL_law_566 rfl rfl h2 ?_
    rw [sc2 _, e2]
    refine s_aload_n (pc2 := 568) w dL_law_567 rfl rfl ?_
    refine s_iload (pc2 := 570) w dL_law_568 rfl rfl ?_
    refine s_iconst (pc2 := 571) (v := 3) w dL_law_570 rfl rfl ?_
    refine s_iadd (pc2 := 572) w dL_law_571 rfl ?_
    refine g_ialoadS (pc2 := 573) w dL_law_572 rfl rfl h3 ?_
    rw [sc2 _, e3]
    refine s_aload_n (pc2 := 574) w dL_law_573 rfl rfl ?_
    refine s_iload (pc2 := 576) w dL_law_574 rfl rfl ?_
    refine s_iconst (pc2 := 577) (v := 4) w dL_law_576 rfl rfl ?_
    refine s_iadd (pc2 := 578) w dL_law_577 rfl ?_
    refine g_ialoadS (pc2 := 579) w dL_law_578 rfl rfl h4 ?_
    rw [sc2 _, e4]
    refine s_aload_n (pc2 := 580) w dL_law_579 rfl rfl ?_
    refine s_iload (pc2 := 582) w dL_law_580 rfl rfl ?_
    refine s_iconst (pc2 := 583) (v := 5) w dL_law_582 rfl rfl ?_
    refine s_iadd (pc2 := 584) w dL_law_583 rfl ?_
    refine g_ialoadS (pc2 := 585) w dL_law_584 rfl rfl h5 ?_
    rw [sc2 _, e5]
    refine r_X11_addSource (pc2 := 588) w dL_law_585 rfl hc2 rfl (hM.cx b3.2.1) hok ?_ ?_ ?_ ?_
    · intro d0 d1 d2 x3 y3 d3
      exact absurd d2 b2
    · intro d0 x3 y3 d1
      exact absurd b0 d0
    · intro d0 d1 x3 y3 d2
      exact absurd b1 d1
    · intro d0 d1 d2 x3 y3 d3
      refine s_istore (pc2 := 590) w dL_law_588 rfl rfl ?_
      dsimp only [gk_s1, gk_s2, gk_cl]
      refine s_aload_n (pc2 := 591) w dL_law_590 rfl rfl ?_
      refine r_X11_thrown (pc2 := 594) w dL_law_591 rfl hc3 rfl ?_
      rw [d3.2.1]
      refine s_iload (pc2 := 596) w dL_law_594 rfl rfl ?_
      refine s_ic_eq (pc2 := 599) (tgt := 601) w dL_law_596 rfl (by decide) (fun _ => ?_) (fun h0 => absurd (rfl) h0)
      refine s_iload (pc2 := 603) w dL_law_601 rfl rfl ?_
      refine s_if_ne (pc2 := 606) (tgt := 618) w dL_law_603 rfl (by decide) (fun _ => ?_) (fun h0 => absurd h0 (by decide))
      refine s_goto (tgt := 3095) w dL_law_618 (by decide) ?_
      exact kk _ _ _ _ _ _ (by omega) (LI.st sc hT b3 (fun _ _ _ _ => rfl) d3 hok)

theorem lc_6 (w : gk_W cL_law pL cs (fun _ _ => none) rt uf (some Ls) K V) (hc1 : cs 176 = some (0, 0, 4, 3, S_L_addValue)) (hc2 : cs 179 = some (1, 10, 3, 0, S_X11_addValue)) (hc3 : cs 152 = some (1, 10, 1, 0, S_X11_thrown)) {a1 a2 : Int32} (h1 : vp_in (i + 1) Ls) (e1 : sv (i + 1).toNatClampNeg = a1) (h2 : vp_in (i + 2) Ls) (e2 : sv (i + 2).toNatClampNeg = a2) (hu : u + 6 ≤ uf) (hI : LI sv x y) (kk : ∀ (x2 : gk_X) (y2 : gk_Y) (q6 q7 q8 : Option Value) (u2 : Nat), u2 ≤ u + 6 → LI sv x2 y2 → V 3095 [some (.ref 5000), some (.ref 0), some (.ref 189), some (.ref 200), some (.ref 201), some (.int i), q6, q7, q8] [] 202 gk_fT x2 y2 u2) : V 621 [some (.ref 5000), some (.ref 0), some (.ref 189), some (.ref 200), some (.ref 201), some (.int i), q6, q7, q8] [] 202 gk_fT x y u := by
  obtain ⟨sc, hT, g, hM, hR, hok⟩ := hI
  refine s_aload_n (pc2 := 622) w dL_law_621 rfl rfl ?_
  refine s_aload_n (pc2 := 623) w dL_law_622 rfl rfl ?_
  refine s_iload (pc2 := 625) w dL_law_623 rfl rfl ?_
  refine s_iconst (pc2 := 626) (v := 1) w dL_law_625 rfl rfl ?_
  refine s_iadd (pc2 := 627) w dL_law_626 rfl ?_
  refine g_ialoadS (pc2 := 628) w dL_law_627 rfl rfl h1 ?_
  rw [sc _, e1]
  refine s_aload_n (pc2 := 629) w dL_law_628 rfl rfl ?_
  refine s_iload (pc2 := 631) w dL_law_629 rfl rfl ?_
  refine s_iconst (pc2 := 632) (v := 2) w dL_law_631 rfl rfl ?_
  refine s_iadd (pc2 := 633) w dL_law_632 rfl ?_
  refine g_ialoadS (pc2 := 634) w dL_law_633 rfl rfl h2 ?_
  rw [sc _, e2]
  refine s_aload_n (pc2 := 635) w dL_law_634 rfl rfl ?_
  refine r_L_addValue (pc2 := 638) w dL_law_635 rfl hc1 rfl (by omega) hR hok ?_ ?_ ?_ ?_
  · intro b0 b1 b2 x2 y2 b3
    have sc2 := sc.cx b3.2.1
    refine s_istore (pc2 := 640) w dL_law_638 rfl rfl ?_
    dsimp only [gk_s1, gk_s2, gk_cl]
    refine s_aload_n (pc2 := 641) w dL_law_640 rfl rfl ?_
    refine s_aload_n (pc2 := 642) w dL_law_641 rfl rfl ?_
    refine s_iload (pc2 := 644) w dL_law_642 rfl rfl ?_
    refine s_iconst (pc2 := 645) (v := 1) w dL_law_644 rfl rfl ?_
    refine s_iadd (pc2 := 646) w dL_law_645 rfl ?_
    refine g_ialoadS (pc2 := 647) w dL_law_646 rfl rfl h1 ?_
    rw [sc2 _, e1]
    refine s_aload_n (pc2 := 648) w dL_law_647 rfl rfl ?_
    refine s_iload (pc2 := 650) w dL_law_648 rfl rfl ?_
    refine s_iconst (pc2 := 651) (v := 2) w dL_law_650 rfl rfl ?_
    refine s_iadd (pc2 := 652) w dL_law_651 rfl ?_
    refine g_ialoadS (pc2 := 653) w dL_law_652 rfl rfl h2 ?_
    rw [sc2 _, e2]
    refine r_X11_addValue (pc2 := 656) w dL_law_653 rfl hc2 rfl (hM.cx b3.2.1) hok ?_ ?_ ?_ ?_
    · intro d0 d1 d2 x3 y3 d3
      refine s_istore (pc2 := 658) w dL_law_656 rfl rfl ?_
      dsimp only [gk_s1, gk_s2, gk_cl]
      refine s_aload_n (pc2 := 659) w dL_law_658 rfl rfl ?_
      refine r_X11_thrown (pc2 := 662) w dL_law_659 rfl hc3 rfl ?_
      rw [d3.2.1]
      refine s_iload (pc2 := 664) w dL_law_662 rfl rfl ?_
      refine s_ic_eq (pc2 := 667) (tgt := 669) w dL_law_664 rfl (by decide) (fun _ => ?_) (fun h0 => absurd (rfl) h0)
      refine s_iload (pc2 := 671) w dL_law_669 rfl rfl ?_
      refine s_if_ne (pc2 := 674) (tgt := 686) w dL_law_671 rfl (by decide) (fun h0 => absurd (rfl) h0) (fun _ => ?_)
      refine s_aload_n (pc2 := 675) w dL_law_674 rfl rfl ?_
      refine s_iconst (pc2 := 676) (v := 0) w dL_law_675 rfl rfl ?_
      refine m_laloadN (pc2 := 677) (t := 0) (N := 1) w dL_law_676 rfl rfl rfl rfl (by decide) rfl ?_
      rw [(d3.2.2.2 200 0 (by decide)).trans (gk_uy_in _ _ _ _)]
      refine s_iload (pc2 := 679) w dL_law_677 rfl rfl ?_
      refine s_i2l (pc2 := 680) w dL_law_679 rfl ?_
      refine s_lcmp (pc2 := 681) w dL_law_680 rfl ?_
      refine s_if_eq (pc2 := 684) (tgt := 686) w dL_law_681 rfl (by decide) (fun _ => ?_) (fun h0 => absurd (lcm_self _) h0)
      refine s_goto (tgt := 3095) w dL_law_686 (by decide) ?_
      exact kk _ _ _ _ _ _ (by omega) (LI.st sc hT b3 (uy_out (Or.inl rfl)) d3 (ok_VA hok b0 b1 b2))
    · intro d0 x3 y3 d1
      exact absurd b0 d0
    · intro d0 d1 x3 y3 d2
      exact absurd b1 d1
    · intro d0 d1 d2 x3 y3 d3
      exact absurd b2 d2
  · intro b0 x2 y2 b1
    have sc2 := sc.cx b1.2.1
    refine s_istore (pc2 := 640) w dL_law_638 rfl rfl ?_
    dsimp only [gk_s1, gk_s2, gk_cl]
    refine s_aload_n (pc2 := 641) w dL_law_640 rfl rfl ?_
    refine s_aload_n (pc2 := 642) w dL_law_641 rfl rfl ?_
    refine s_iload (pc2 := 644) w dL_law_642 rfl rfl ?_
    refine s_iconst (pc2 := 645) (v := 1) w dL_law_644 rfl rfl ?_
    refine s_iadd (pc2 := 646) w dL_law_645 rfl ?_
    refine g_ialoadS (pc2 := 647) w dL_law_646 rfl rfl h1 ?_
    rw [sc2 _, e1]
    refine s_aload_n (pc2 := 648) w dL_law_647 rfl rfl ?_
    refine s_iload (pc2 := 650) w dL_law_648 rfl rfl ?_
    refine s_iconst (pc2 := 651) (v := 2) w dL_law_650 rfl rfl ?_
    refine s_iadd (pc2 := 652) w dL_law_651 rfl ?_
    refine g_ialoadS (pc2 := 653) w dL_law_652 rfl rfl h2 ?_
    rw [sc2 _, e2]
    refine r_X11_addValue (pc2 := 656) w dL_law_653 rfl hc2 rfl (hM.cx b1.2.1) hok ?_ ?_ ?_ ?_
    · intro d0 d1 d2 x3 y3 d3
      exact absurd d0 b0
    · intro d0 x3 y3 d1
      refine s_istore (pc2 := 658) w dL_law_656 rfl rfl ?_
      dsimp only [gk_s1, gk_s2, gk_cl]
      refine s_aload_n (pc2 := 659) w dL_law_658 rfl rfl ?_
      refine r_X11_thrown (pc2 := 662) w dL_law_659 rfl hc3 rfl ?_
      rw [d1.2.1]
      refine s_iload (pc2 := 664) w dL_law_662 rfl rfl ?_
      refine s_ic_eq (pc2 := 667) (tgt := 669) w dL_law_664 rfl (by decide) (fun _ => ?_) (fun h0 => absurd (rfl) h0)
      refine s_iload (pc2 := 671) w dL_law_669 rfl rfl ?_
      refine s_if_ne (pc2 := 674) (tgt := 686) w dL_law_671 rfl (by decide) (fun _ => ?_) (fun h0 => absurd h0 (by decide))
      refine s_goto (tgt := 3095) w dL_law_686 (by decide) ?_
      exact kk _ _ _ _ _ _ (by omega) (LI.st sc hT b1 (fun _ _ _ _ => rfl) d1 hok)
    · intro d0 d1 x3 y3 d2
      exact absurd d0 b0
    · intro d0 d1 d2 x3 y3 d3
      exact absurd d0 b0
  · intro b0 b1 x2 y2 b2
    have sc2 := sc.cx b2.2.1
    refine s_istore (pc2 := 640) w dL_law_638 rfl rfl ?_
    dsimp only [gk_s1, gk_s2, gk_cl]
    refine s_aload_n (pc2 := 641) w dL_law_640 rfl rfl ?_
    refine s_aload_n (pc2 := 642) w dL_law_641 rfl rfl ?_
    refine s_iload (pc2 := 644) w dL_law_642 rfl rfl ?_
    refine s_iconst (pc2 := 645) (v := 1) w dL_law_644 rfl rfl ?_
    refine s_iadd (pc2 := 646) w dL_law_645 rfl ?_
    refine g_ialoadS (pc2 := 647) w dL_law_646 rfl rfl h1 ?_
    rw [sc2 _, e1]
    refine s_aload_n (pc2 := 648) w dL_law_647 rfl rfl ?_
    refine s_iload (pc2 := 650) w dL_law_648 rfl rfl ?_
    refine s_iconst (pc2 := 651) (v := 2) w dL_law_650 rfl rfl ?_
    refine s_iadd (pc2 := 652) w dL_law_651 rfl ?_
    refine g_ialoadS (pc2 := 653) w dL_law_652 rfl rfl h2 ?_
    rw [sc2 _, e2]
    refine r_X11_addValue (pc2 := 656) w dL_law_653 rfl hc2 rfl (hM.cx b2.2.1) hok ?_ ?_ ?_ ?_
    · intro d0 d1 d2 x3 y3 d3
      exact absurd d1 b1
    · intro d0 x3 y3 d1
      exact absurd b0 d0
    · intro d0 d1 x3 y3 d2
      refine s_istore (pc2 := 658) w dL_law_656 rfl rfl ?_
      dsimp only [gk_s1, gk_s2, gk_cl]
      refine s_aload_n (pc2 := 659) w dL_law_658 rfl rfl ?_
      refine r_X11_thrown (pc2 := 662) w dL_law_659 rfl hc3 rfl ?_
      rw [d2.2.1]
      refine s_iload (pc2 := 664) w dL_law_662 rfl rfl ?_
      refine s_ic_eq (pc2 := 667) (tgt := 669) w dL_law_664 rfl (by decide) (fun _ => ?_) (fun h0 => absurd (rfl) h0)
      refine s_iload (pc2 := 671) w dL_law_669 rfl rfl ?_
      refine s_if_ne (pc2 := 674) (tgt := 686) w dL_law_671 rfl (by decide) (fun _ => ?_) (fun h0 => absurd h0 (by decide))
      refine s_goto (tgt := 3095) w dL_law_686 (by decide) ?_
      exact kk _ _ _ _ _ _ (by omega) (LI.st sc hT b2 (fun _ _ _ _ => rfl) d2 hok)
    · intro d0 d1 d2 x3 y3 d3
      exact absurd d1 b1
  · intro b0 b1 b2 x2 y2 b3
    have sc2 := sc.cx b3.2.1
    refine s_istore (pc2 := 640) w dL_law_638 rfl rfl ?_
    dsimp only [gk_s1, gk_s2, gk_cl]
    refine s_aload_n (pc2 := 641) w dL_law_640 rfl rfl ?_
    refine s_aload_n (pc2 := 642) w dL_law_641 rfl rfl ?_
    refine s_iload (pc2 := 644) w dL_law_642 rfl rfl ?_
    refine s_iconst (pc2 := 645) (v := 1) w dL_law_644 rfl rfl ?_
    refine s_iadd (pc2 := 646) w dL_law_645 rfl ?_
    refine g_ialoadS (pc2 := 647) w dL_law_646 rfl rfl h1 ?_
    rw [sc2 _, e1]
    refine s_aload_n (pc2 := 648) w dL_law_647 rfl rfl ?_
    refine s_iload (pc2 := 650) w dL_law_648 rfl rfl ?_
    refine s_iconst (pc2 := 651) (v := 2) w dL_law_650 rfl rfl ?_
    refine s_iadd (pc2 := 652) w dL_law_651 rfl ?_
    refine g_ialoadS (pc2 := 653) w dL_law_652 rfl rfl h2 ?_
    rw [sc2 _, e2]
    refine r_X11_addValue (pc2 := 656) w dL_law_653 rfl hc2 rfl (hM.cx b3.2.1) hok ?_ ?_ ?_ ?_
    · intro d0 d1 d2 x3 y3 d3
      exact absurd d2 b2
    · intro d0 x3 y3 d1
      exact absurd b0 d0
    · intro d0 d1 x3 y3 d2
      exact absurd b1 d1
    · intro d0 d1 d2 x3 y3 d3
      refine s_istore (pc2 := 658) w dL_law_656 rfl rfl ?_
      dsimp only [gk_s1, gk_s2, gk_cl]
      refine s_aload_n (pc2 := 659) w dL_law_658 rfl rfl ?_
      refine r_X11_thrown (pc2 := 662) w dL_law_659 rfl hc3 rfl ?_
      rw [d3.2.1]
      refine s_iload (pc2 := 664) w dL_law_662 rfl rfl ?_
      refine s_ic_eq (pc2 := 667) (tgt := 669) w dL_law_664 rfl (by decide) (fun _ => ?_) (fun h0 => absurd (rfl) h0)
      refine s_iload (pc2 := 671) w dL_law_669 rfl rfl ?_
      refine s_if_ne (pc2 := 674) (tgt := 686) w dL_law_671 rfl (by decide) (fun _ => ?_) (fun h0 => absurd h0 (by decide))
      refine s_goto (tgt := 3095) w dL_law_686 (by decide) ?_
      exact kk _ _ _ _ _ _ (by omega) (LI.st sc hT b3 (fun _ _ _ _ => rfl) d3 hok)

theorem lc_7 (w : gk_W cL_law pL cs (fun _ _ => none) rt uf (some Ls) K V) (hc1 : cs 180 = some (0, 0, 6, 5, S_L_addMicrophone)) (hc2 : cs 183 = some (1, 10, 5, 0, S_X11_addMicrophone)) (hc3 : cs 152 = some (1, 10, 1, 0, S_X11_thrown)) {a1 a2 a3 a4 : Int32} (h1 : vp_in (i + 1) Ls) (e1 : sv (i + 1).toNatClampNeg = a1) (h2 : vp_in (i + 2) Ls) (e2 : sv (i + 2).toNatClampNeg = a2) (h3 : vp_in (i + 3) Ls) (e3 : sv (i + 3).toNatClampNeg = a3) (h4 : vp_in (i + 4) Ls) (e4 : sv (i + 4).toNatClampNeg = a4) (hu : u + 6 ≤ uf) (hI : LI sv x y) (kk : ∀ (x2 : gk_X) (y2 : gk_Y) (q6 q7 q8 : Option Value) (u2 : Nat), u2 ≤ u + 6 → LI sv x2 y2 → V 3095 [some (.ref 5000), some (.ref 0), some (.ref 189), some (.ref 200), some (.ref 201), some (.int i), q6, q7, q8] [] 202 gk_fT x2 y2 u2) : V 689 [some (.ref 5000), some (.ref 0), some (.ref 189), some (.ref 200), some (.ref 201), some (.int i), q6, q7, q8] [] 202 gk_fT x y u := by
  obtain ⟨sc, hT, g, hM, hR, hok⟩ := hI
  refine s_aload_n (pc2 := 690) w dL_law_689 rfl rfl ?_
  refine s_aload_n (pc2 := 691) w dL_law_690 rfl rfl ?_
  refine s_iload (pc2 := 693) w dL_law_691 rfl rfl ?_
  refine s_iconst (pc2 := 694) (v := 1) w dL_law_693 rfl rfl ?_
  refine s_iadd (pc2 := 695) w dL_law_694 rfl ?_
  refine g_ialoadS (pc2 := 696) w dL_law_695 rfl rfl h1 ?_
  rw [sc _, e1]
  refine s_aload_n (pc2 := 697) w dL_law_696 rfl rfl ?_
  refine s_iload (pc2 := 699) w dL_law_697 rfl rfl ?_
  refine s_iconst (pc2 := 700) (v := 2) w dL_law_699 rfl rfl ?_
  refine s_iadd (pc2 := 701) w dL_law_700 rfl ?_
  refine g_ialoadS (pc2 := 702) w dL_law_701 rfl rfl h2 ?_
  rw [sc _, e2]
  refine s_aload_n (pc2 := 703) w dL_law_702 rfl rfl ?_
  refine s_iload (pc2 := 705) w dL_law_703 rfl rfl ?_
  refine s_iconst (pc2 := 706) (v := 3) w dL_law_705 rfl rfl ?_
  refine s_iadd (pc2 := 707) w dL_law_706 rfl ?_
  refine g_ialoadS (pc2 := 708) w dL_law_707 rfl rfl h3 ?_
  rw [sc _, e3]
  refine s_aload_n (pc2 := 709) w dL_law_708 rfl rfl ?_
  refine s_iload (pc2 := 711) w dL_law_709 rfl rfl ?_
  refine s_iconst (pc2 := 712) (v := 4) w dL_law_711 rfl rfl ?_
  refine s_iadd (pc2 := 713) w dL_law_712 rfl ?_
  refine g_ialoadS (pc2 := 714) w dL_law_713 rfl rfl h4 ?_
  rw [sc _, e4]
  refine s_aload_n (pc2 := 715) w dL_law_714 rfl rfl ?_
  refine r_L_addMicrophone (pc2 := 718) w dL_law_715 rfl hc1 rfl (by omega) hR hok ?_ ?_ ?_
  · intro b0 b1 x2 y2 b2
    have sc2 := sc.cx b2.2.1
    refine s_istore (pc2 := 720) w dL_law_718 rfl rfl ?_
    dsimp only [gk_s1, gk_s2, gk_cl]
    refine s_aload_n (pc2 := 721) w dL_law_720 rfl rfl ?_
    refine s_aload_n (pc2 := 722) w dL_law_721 rfl rfl ?_
    refine s_iload (pc2 := 724) w dL_law_722 rfl rfl ?_
    refine s_iconst (pc2 := 725) (v := 1) w dL_law_724 rfl rfl ?_
    refine s_iadd (pc2 := 726) w dL_law_725 rfl ?_
    refine g_ialoadS (pc2 := 727) w dL_law_726 rfl rfl h1 ?_
    rw [sc2 _, e1]
    refine s_aload_n (pc2 := 728) w dL_law_727 rfl rfl ?_
    refine s_iload (pc2 := 730) w dL_law_728 rfl rfl ?_
    refine s_iconst (pc2 := 731) (v := 2) w dL_law_730 rfl rfl ?_
    refine s_iadd (pc2 := 732) w dL_law_731 rfl ?_
    refine g_ialoadS (pc2 := 733) w dL_law_732 rfl rfl h2 ?_
    rw [sc2 _, e2]
    refine s_aload_n (pc2 := 734) w dL_law_733 rfl rfl ?_
    refine s_iload (pc2 := 736) w dL_law_734 rfl rfl ?_
    refine s_iconst (pc2 := 737) (v := 3) w dL_law_736 rfl rfl ?_
    refine s_iadd (pc2 := 738) w dL_law_737 rfl ?_
    refine g_ialoadS (pc2 := 739) w dL_law_738 rfl rfl h3 ?_
    rw [sc2 _, e3]
    refine s_aload_n (pc2 := 740) w dL_law_739 rfl rfl ?_
    refine s_iload (pc2 := 742) w dL_law_740 rfl rfl ?_
    refine s_iconst (pc2 := 743) (v := 4) w dL_law_742 rfl rfl ?_
    refine s_iadd (pc2 := 744) w dL_law_743 rfl ?_
    refine g_ialoadS (pc2 := 745) w dL_law_744 rfl rfl h4 ?_
    rw [sc2 _, e4]
    refine r_X11_addMicrophone (pc2 := 748) w dL_law_745 rfl hc2 rfl (hM.cx b2.2.1) hok ?_ ?_ ?_
    · intro d0 d1 x3 y3 d2
      refine s_istore (pc2 := 750) w dL_law_748 rfl rfl ?_
      dsimp only [gk_s1, gk_s2, gk_cl]
      refine s_aload_n (pc2 := 751) w dL_law_750 rfl rfl ?_
      refine r_X11_thrown (pc2 := 754) w dL_law_751 rfl hc3 rfl ?_
      rw [d2.2.1]
      refine s_iload (pc2 := 756) w dL_law_754 rfl rfl ?_
      refine s_ic_eq (pc2 := 759) (tgt := 761) w dL_law_756 rfl (by decide) (fun _ => ?_) (fun h0 => absurd (rfl) h0)
      refine s_iload (pc2 := 763) w dL_law_761 rfl rfl ?_
      refine s_if_ne (pc2 := 766) (tgt := 778) w dL_law_763 rfl (by decide) (fun h0 => absurd (rfl) h0) (fun _ => ?_)
      refine s_aload_n (pc2 := 767) w dL_law_766 rfl rfl ?_
      refine s_iconst (pc2 := 768) (v := 0) w dL_law_767 rfl rfl ?_
      refine m_laloadN (pc2 := 769) (t := 0) (N := 1) w dL_law_768 rfl rfl rfl rfl (by decide) rfl ?_
      rw [(d2.2.2.2 200 0 (by decide)).trans (gk_uy_in _ _ _ _)]
      refine s_iload (pc2 := 771) w dL_law_769 rfl rfl ?_
      refine s_i2l (pc2 := 772) w dL_law_771 rfl ?_
      refine s_lcmp (pc2 := 773) w dL_law_772 rfl ?_
      refine s_if_eq (pc2 := 776) (tgt := 778) w dL_law_773 rfl (by decide) (fun _ => ?_) (fun h0 => absurd (lcm_self _) h0)
      refine s_goto (tgt := 3095) w dL_law_778 (by decide) ?_
      exact kk _ _ _ _ _ _ (by omega) (LI.st sc hT b2 (uy_out (Or.inl rfl)) d2 (ok_AM hok b0 b1))
    · intro d0 x3 y3 d1
      exact absurd b0 d0
    · intro d0 d1 x3 y3 d2
      exact absurd b1 d1
  · intro b0 x2 y2 b1
    have sc2 := sc.cx b1.2.1
    refine s_istore (pc2 := 720) w dL_law_718 rfl rfl ?_
    dsimp only [gk_s1, gk_s2, gk_cl]
    refine s_aload_n (pc2 := 721) w dL_law_720 rfl rfl ?_
    refine s_aload_n (pc2 := 722) w dL_law_721 rfl rfl ?_
    refine s_iload (pc2 := 724) w dL_law_722 rfl rfl ?_
    refine s_iconst (pc2 := 725) (v := 1) w dL_law_724 rfl rfl ?_
    refine s_iadd (pc2 := 726) w dL_law_725 rfl ?_
    refine g_ialoadS (pc2 := 727) w dL_law_726 rfl rfl h1 ?_
    rw [sc2 _, e1]
    refine s_aload_n (pc2 := 728) w dL_law_727 rfl rfl ?_
    refine s_iload (pc2 := 730) w dL_law_728 rfl rfl ?_
    refine s_iconst (pc2 := 731) (v := 2) w dL_law_730 rfl rfl ?_
    refine s_iadd (pc2 := 732) w dL_law_731 rfl ?_
    refine g_ialoadS (pc2 := 733) w dL_law_732 rfl rfl h2 ?_
    rw [sc2 _, e2]
    refine s_aload_n (pc2 := 734) w dL_law_733 rfl rfl ?_
    refine s_iload (pc2 := 736) w dL_law_734 rfl rfl ?_
    refine s_iconst (pc2 := 737) (v := 3) w dL_law_736 rfl rfl ?_
    refine s_iadd (pc2 := 738) w dL_law_737 rfl ?_
    refine g_ialoadS (pc2 := 739) w dL_law_738 rfl rfl h3 ?_
    rw [sc2 _, e3]
    refine s_aload_n (pc2 := 740) w dL_law_739 rfl rfl ?_
    refine s_iload (pc2 := 742) w dL_law_740 rfl rfl ?_
    refine s_iconst (pc2 := 743) (v := 4) w dL_law_742 rfl rfl ?_
    refine s_iadd (pc2 := 744) w dL_law_743 rfl ?_
    refine g_ialoadS (pc2 := 745) w dL_law_744 rfl rfl h4 ?_
    rw [sc2 _, e4]
    refine r_X11_addMicrophone (pc2 := 748) w dL_law_745 rfl hc2 rfl (hM.cx b1.2.1) hok ?_ ?_ ?_
    · intro d0 d1 x3 y3 d2
      exact absurd d0 b0
    · intro d0 x3 y3 d1
      refine s_istore (pc2 := 750) w dL_law_748 rfl rfl ?_
      dsimp only [gk_s1, gk_s2, gk_cl]
      refine s_aload_n (pc2 := 751) w dL_law_750 rfl rfl ?_
      refine r_X11_thrown (pc2 := 754) w dL_law_751 rfl hc3 rfl ?_
      rw [d1.2.1]
      refine s_iload (pc2 := 756) w dL_law_754 rfl rfl ?_
      refine s_ic_eq (pc2 := 759) (tgt := 761) w dL_law_756 rfl (by decide) (fun _ => ?_) (fun h0 => absurd (rfl) h0)
      refine s_iload (pc2 := 763) w dL_law_761 rfl rfl ?_
      refine s_if_ne (pc2 := 766) (tgt := 778) w dL_law_763 rfl (by decide) (fun _ => ?_) (fun h0 => absurd h0 (by decide))
      refine s_goto (tgt := 3095) w dL_law_778 (by decide) ?_
      exact kk _ _ _ _ _ _ (by omega) (LI.st sc hT b1 (fun _ _ _ _ => rfl) d1 hok)
    · intro d0 d1 x3 y3 d2
      exact absurd d0 b0
  · intro b0 b1 x2 y2 b2
    have sc2 := sc.cx b2.2.1
    refine s_istore (pc2 := 720) w dL_law_718 rfl rfl ?_
    dsimp only [gk_s1, gk_s2, gk_cl]
    refine s_aload_n (pc2 := 721) w dL_law_720 rfl rfl ?_
    refine s_aload_n (pc2 := 722) w dL_law_721 rfl rfl ?_
    refine s_iload (pc2 := 724) w dL_law_722 rfl rfl ?_
    refine s_iconst (pc2 := 725) (v := 1) w dL_law_724 rfl rfl ?_
    refine s_iadd (pc2 := 726) w dL_law_725 rfl ?_
    refine g_ialoadS (pc2 := 727) w dL_law_726 rfl rfl h1 ?_
    rw [sc2 _, e1]
    refine s_aload_n (pc2 := 728) w dL_law_727 rfl rfl ?_
    refine s_iload (pc2 := 730) w dL_law_728 rfl rfl ?_
    refine s_iconst (pc2 := 731) (v := 2) w dL_law_730 rfl rfl ?_
    refine s_iadd (pc2 := 732) w dL_law_731 rfl ?_
    refine g_ialoadS (pc2 := 733) w dL_law_732 rfl rfl h2 ?_
    rw [sc2 _, e2]
    refine s_aload_n (pc2 := 734) w dL_law_733 rfl rfl ?_
    refine s_iload (pc2 := 736) w dL_law_734 rfl rfl ?_
    refine s_iconst (pc2 := 737) (v := 3) w dL_law_736 rfl rfl ?_
    refine s_iadd (pc2 := 738) w dL_law_737 rfl ?_
    refine g_ialoadS (pc2 := 739) w dL_law_738 rfl rfl h3 ?_
    rw [sc2 _, e3]
    refine s_aload_n (pc2 := 740) w dL_law_739 rfl rfl ?_
    refine s_iload (pc2 := 742) w dL_law_740 rfl rfl ?_
    refine s_iconst (pc2 := 743) (v := 4) w dL_law_742 rfl rfl ?_
    refine s_iadd (pc2 := 744) w dL_law_743 rfl ?_
    refine g_ialoadS (pc2 := 745) w dL_law_744 rfl rfl h4 ?_
    rw [sc2 _, e4]
    refine r_X11_addMicrophone (pc2 := 748) w dL_law_745 rfl hc2 rfl (hM.cx b2.2.1) hok ?_ ?_ ?_
    · intro d0 d1 x3 y3 d2
      exact absurd d1 b1
    · intro d0 x3 y3 d1
      exact absurd b0 d0
    · intro d0 d1 x3 y3 d2
      refine s_istore (pc2 := 750) w dL_law_748 rfl rfl ?_
      dsimp only [gk_s1, gk_s2, gk_cl]
      refine s_aload_n (pc2 := 751) w dL_law_750 rfl rfl ?_
      refine r_X11_thrown (pc2 := 754) w dL_law_751 rfl hc3 rfl ?_
      rw [d2.2.1]
      refine s_iload (pc2 := 756) w dL_law_754 rfl rfl ?_
      refine s_ic_eq (pc2 := 759) (tgt := 761) w dL_law_756 rfl (by decide) (fun _ => ?_) (fun h0 => absurd (rfl) h0)
      refine s_iload (pc2 := 763) w dL_law_761 rfl rfl ?_
      refine s_if_ne (pc2 := 766) (tgt := 778) w dL_law_763 rfl (by decide) (fun _ => ?_) (fun h0 => absurd h0 (by decide))
      refine s_goto (tgt := 3095) w dL_law_778 (by decide) ?_
      exact kk _ _ _ _ _ _ (by omega) (LI.st sc hT b2 (fun _ _ _ _ => rfl) d2 hok)

theorem lc_8 (w : gk_W cL_law pL cs (fun _ _ => none) rt uf (some Ls) K V) (hc1 : cs 184 = some (0, 0, 4, 2, S_L_setWeight)) (hc2 : cs 186 = some (1, 10, 3, 0, S_X11_setWeight)) (hc3 : cs 152 = some (1, 10, 1, 0, S_X11_thrown)) {a1 a2 : Int32} (h1 : vp_in (i + 1) Ls) (e1 : sv (i + 1).toNatClampNeg = a1) (h2 : vp_in (i + 2) Ls) (e2 : sv (i + 2).toNatClampNeg = a2) (hu : u + 6 ≤ uf) (hI : LI sv x y) (kk : ∀ (x2 : gk_X) (y2 : gk_Y) (q6 q7 q8 : Option Value) (u2 : Nat), u2 ≤ u + 6 → LI sv x2 y2 → V 3095 [some (.ref 5000), some (.ref 0), some (.ref 189), some (.ref 200), some (.ref 201), some (.int i), q6, q7, q8] [] 202 gk_fT x2 y2 u2) : V 781 [some (.ref 5000), some (.ref 0), some (.ref 189), some (.ref 200), some (.ref 201), some (.int i), q6, q7, q8] [] 202 gk_fT x y u := by
  obtain ⟨sc, hT, g, hM, hR, hok⟩ := hI
  refine s_aload_n (pc2 := 782) w dL_law_781 rfl rfl ?_
  refine s_aload_n (pc2 := 783) w dL_law_782 rfl rfl ?_
  refine s_iload (pc2 := 785) w dL_law_783 rfl rfl ?_
  refine s_iconst (pc2 := 786) (v := 1) w dL_law_785 rfl rfl ?_
  refine s_iadd (pc2 := 787) w dL_law_786 rfl ?_
  refine g_ialoadS (pc2 := 788) w dL_law_787 rfl rfl h1 ?_
  rw [sc _, e1]
  refine s_aload_n (pc2 := 789) w dL_law_788 rfl rfl ?_
  refine s_iload (pc2 := 791) w dL_law_789 rfl rfl ?_
  refine s_iconst (pc2 := 792) (v := 2) w dL_law_791 rfl rfl ?_
  refine s_iadd (pc2 := 793) w dL_law_792 rfl ?_
  refine g_ialoadS (pc2 := 794) w dL_law_793 rfl rfl h2 ?_
  rw [sc _, e2]
  refine s_aload_n (pc2 := 795) w dL_law_794 rfl rfl ?_
  refine r_L_setWeight (pc2 := 798) w dL_law_795 rfl hc1 rfl (by omega) hR hok ?_ ?_ ?_
  · intro b0 b1 x2 y2 b2
    have sc2 := sc.cx b2.2.1
    refine s_istore (pc2 := 800) w dL_law_798 rfl rfl ?_
    dsimp only [gk_s1, gk_s2, gk_cl]
    refine s_aload_n (pc2 := 801) w dL_law_800 rfl rfl ?_
    refine s_aload_n (pc2 := 802) w dL_law_801 rfl rfl ?_
    refine s_iload (pc2 := 804) w dL_law_802 rfl rfl ?_
    refine s_iconst (pc2 := 805) (v := 1) w dL_law_804 rfl rfl ?_
    refine s_iadd (pc2 := 806) w dL_law_805 rfl ?_
    refine g_ialoadS (pc2 := 807) w dL_law_806 rfl rfl h1 ?_
    rw [sc2 _, e1]
    refine s_aload_n (pc2 := 808) w dL_law_807 rfl rfl ?_
    refine s_iload (pc2 := 810) w dL_law_808 rfl rfl ?_
    refine s_iconst (pc2 := 811) (v := 2) w dL_law_810 rfl rfl ?_
    refine s_iadd (pc2 := 812) w dL_law_811 rfl ?_
    refine g_ialoadS (pc2 := 813) w dL_law_812 rfl rfl h2 ?_
    rw [sc2 _, e2]
    refine r_X11_setWeight (pc2 := 816) w dL_law_813 rfl hc2 rfl (hM.cx b2.2.1) hok ?_ ?_ ?_
    · intro d0 d1 x3 y3 d2
      refine s_istore (pc2 := 818) w dL_law_816 rfl rfl ?_
      dsimp only [gk_s1, gk_s2, gk_cl]
      refine s_aload_n (pc2 := 819) w dL_law_818 rfl rfl ?_
      refine r_X11_thrown (pc2 := 822) w dL_law_819 rfl hc3 rfl ?_
      rw [d2.2.1]
      refine s_iload (pc2 := 824) w dL_law_822 rfl rfl ?_
      refine s_ic_eq (pc2 := 827) (tgt := 829) w dL_law_824 rfl (by decide) (fun _ => ?_) (fun h0 => absurd (rfl) h0)
      refine s_iload (pc2 := 831) w dL_law_829 rfl rfl ?_
      refine s_if_ne (pc2 := 834) (tgt := 846) w dL_law_831 rfl (by decide) (fun h0 => absurd (rfl) h0) (fun _ => ?_)
      refine s_aload_n (pc2 := 835) w dL_law_834 rfl rfl ?_
      refine s_iconst (pc2 := 836) (v := 0) w dL_law_835 rfl rfl ?_
      refine m_laloadN (pc2 := 837) (t := 0) (N := 1) w dL_law_836 rfl rfl rfl rfl (by decide) rfl ?_
      rw [(d2.2.2.2 200 0 (by decide)).trans (gk_uy_in _ _ _ _)]
      refine s_iload (pc2 := 839) w dL_law_837 rfl rfl ?_
      refine s_i2l (pc2 := 840) w dL_law_839 rfl ?_
      refine s_lcmp (pc2 := 841) w dL_law_840 rfl ?_
      refine s_if_eq (pc2 := 844) (tgt := 846) w dL_law_841 rfl (by decide) (fun _ => ?_) (fun h0 => absurd (lcm_self _) h0)
      refine s_goto (tgt := 3095) w dL_law_846 (by decide) ?_
      exact kk _ _ _ _ _ _ (by omega) (LI.st sc hT b2 (uy_out (Or.inl rfl)) d2 (ok_W hok b0 b1))
    · intro d0 x3 y3 d1
      exact absurd b0 d0
    · intro d0 d1 x3 y3 d2
      exact absurd b1 d1
  · intro b0 x2 y2 b1
    have sc2 := sc.cx b1.2.1
    refine s_istore (pc2 := 800) w dL_law_798 rfl rfl ?_
    dsimp only [gk_s1, gk_s2, gk_cl]
    refine s_aload_n (pc2 := 801) w dL_law_800 rfl rfl ?_
    refine s_aload_n (pc2 := 802) w dL_law_801 rfl rfl ?_
    refine s_iload (pc2 := 804) w dL_law_802 rfl rfl ?_
    refine s_iconst (pc2 := 805) (v := 1) w dL_law_804 rfl rfl ?_
    refine s_iadd (pc2 := 806) w dL_law_805 rfl ?_
    refine g_ialoadS (pc2 := 807) w dL_law_806 rfl rfl h1 ?_
    rw [sc2 _, e1]
    refine s_aload_n (pc2 := 808) w dL_law_807 rfl rfl ?_
    refine s_iload (pc2 := 810) w dL_law_808 rfl rfl ?_
    refine s_iconst (pc2 := 811) (v := 2) w dL_law_810 rfl rfl ?_
    refine s_iadd (pc2 := 812) w dL_law_811 rfl ?_
    refine g_ialoadS (pc2 := 813) w dL_law_812 rfl rfl h2 ?_
    rw [sc2 _, e2]
    refine r_X11_setWeight (pc2 := 816) w dL_law_813 rfl hc2 rfl (hM.cx b1.2.1) hok ?_ ?_ ?_
    · intro d0 d1 x3 y3 d2
      exact absurd d0 b0
    · intro d0 x3 y3 d1
      refine s_istore (pc2 := 818) w dL_law_816 rfl rfl ?_
      dsimp only [gk_s1, gk_s2, gk_cl]
      refine s_aload_n (pc2 := 819) w dL_law_818 rfl rfl ?_
      refine r_X11_thrown (pc2 := 822) w dL_law_819 rfl hc3 rfl ?_
      rw [d1.2.1]
      refine s_iload (pc2 := 824) w dL_law_822 rfl rfl ?_
      refine s_ic_eq (pc2 := 827) (tgt := 829) w dL_law_824 rfl (by decide) (fun _ => ?_) (fun h0 => absurd (rfl) h0)
      refine s_iload (pc2 := 831) w dL_law_829 rfl rfl ?_
      refine s_if_ne (pc2 := 834) (tgt := 846) w dL_law_831 rfl (by decide) (fun _ => ?_) (fun h0 => absurd h0 (by decide))
      refine s_goto (tgt := 3095) w dL_law_846 (by decide) ?_
      exact kk _ _ _ _ _ _ (by omega) (LI.st sc hT b1 (fun _ _ _ _ => rfl) d1 hok)
    · intro d0 d1 x3 y3 d2
      exact absurd d0 b0
  · intro b0 b1 x2 y2 b2
    have sc2 := sc.cx b2.2.1
    refine s_istore (pc2 := 800) w dL_law_798 rfl rfl ?_
    dsimp only [gk_s1, gk_s2, gk_cl]
    refine s_aload_n (pc2 := 801) w dL_law_800 rfl rfl ?_
    refine s_aload_n (pc2 := 802) w dL_law_801 rfl rfl ?_
    refine s_iload (pc2 := 804) w dL_law_802 rfl rfl ?_
    refine s_iconst (pc2 := 805) (v := 1) w dL_law_804 rfl rfl ?_
    refine s_iadd (pc2 := 806) w dL_law_805 rfl ?_
    refine g_ialoadS (pc2 := 807) w dL_law_806 rfl rfl h1 ?_
    rw [sc2 _, e1]
    refine s_aload_n (pc2 := 808) w dL_law_807 rfl rfl ?_
    refine s_iload (pc2 := 810) w dL_law_808 rfl rfl ?_
    refine s_iconst (pc2 := 811) (v := 2) w dL_law_810 rfl rfl ?_
    refine s_iadd (pc2 := 812) w dL_law_811 rfl ?_
    refine g_ialoadS (pc2 := 813) w dL_law_812 rfl rfl h2 ?_
    rw [sc2 _, e2]
    refine r_X11_setWeight (pc2 := 816) w dL_law_813 rfl hc2 rfl (hM.cx b2.2.1) hok ?_ ?_ ?_
    · intro d0 d1 x3 y3 d2
      exact absurd d1 b1
    · intro d0 x3 y3 d1
      exact absurd b0 d0
    · intro d0 d1 x3 y3 d2
      refine s_istore (pc2 := 818) w dL_law_816 rfl rfl ?_
      dsimp only [gk_s1, gk_s2, gk_cl]
      refine s_aload_n (pc2 := 819) w dL_law_818 rfl rfl ?_
      refine r_X11_thrown (pc2 := 822) w dL_law_819 rfl hc3 rfl ?_
      rw [d2.2.1]
      refine s_iload (pc2 := 824) w dL_law_822 rfl rfl ?_
      refine s_ic_eq (pc2 := 827) (tgt := 829) w dL_law_824 rfl (by decide) (fun _ => ?_) (fun h0 => absurd (rfl) h0)
      refine s_iload (pc2 := 831) w dL_law_829 rfl rfl ?_
      refine s_if_ne (pc2 := 834) (tgt := 846) w dL_law_831 rfl (by decide) (fun _ => ?_) (fun h0 => absurd h0 (by decide))
      refine s_goto (tgt := 3095) w dL_law_846 (by decide) ?_
      exact kk _ _ _ _ _ _ (by omega) (LI.st sc hT b2 (fun _ _ _ _ => rfl) d2 hok)

theorem lc_9 (w : gk_W cL_law pL cs (fun _ _ => none) rt uf (some Ls) K V) (hc1 : cs 187 = some (0, 0, 3, 1, S_L_count)) (hc2 : cs 189 = some (1, 10, 2, 0, S_X11_count)) (hc3 : cs 152 = some (1, 10, 1, 0, S_X11_thrown)) {a1 : Int32} (h1 : vp_in (i + 1) Ls) (e1 : sv (i + 1).toNatClampNeg = a1) (hu : u + 6 ≤ uf) (hI : LI sv x y) (kk : ∀ (x2 : gk_X) (y2 : gk_Y) (q6 q7 q8 : Option Value) (u2 : Nat), u2 ≤ u + 6 → LI sv x2 y2 → V 3095 [some (.ref 5000), some (.ref 0), some (.ref 189), some (.ref 200), some (.ref 201), some (.int i), q6, q7, q8] [] 202 gk_fT x2 y2 u2) : V 849 [some (.ref 5000), some (.ref 0), some (.ref 189), some (.ref 200), some (.ref 201), some (.int i), q6, q7, q8] [] 202 gk_fT x y u := by
  obtain ⟨sc, hT, g, hM, hR, hok⟩ := hI
  refine s_aload_n (pc2 := 850) w dL_law_849 rfl rfl ?_
  refine s_aload_n (pc2 := 851) w dL_law_850 rfl rfl ?_
  refine s_iload (pc2 := 853) w dL_law_851 rfl rfl ?_
  refine s_iconst (pc2 := 854) (v := 1) w dL_law_853 rfl rfl ?_
  refine s_iadd (pc2 := 855) w dL_law_854 rfl ?_
  refine g_ialoadS (pc2 := 856) w dL_law_855 rfl rfl h1 ?_
  rw [sc _, e1]
  refine s_aload_n (pc2 := 857) w dL_law_856 rfl rfl ?_
  refine r_L_count (pc2 := 860) w dL_law_857 rfl hc1 rfl (by omega) hR hok ?_ ?_
  · intro b0 x2 y2 b1
    have sc2 := sc.cx b1.2.1
    refine s_istore (pc2 := 862) w dL_law_860 rfl rfl ?_
    dsimp only [gk_s1, gk_s2, gk_cl]
    refine s_aload_n (pc2 := 863) w dL_law_862 rfl rfl ?_
    refine s_aload_n (pc2 := 864) w dL_law_863 rfl rfl ?_
    refine s_iload (pc2 := 866) w dL_law_864 rfl rfl ?_
    refine s_iconst (pc2 := 867) (v := 1) w dL_law_866 rfl rfl ?_
    refine s_iadd (pc2 := 868) w dL_law_867 rfl ?_
    refine g_ialoadS (pc2 := 869) w dL_law_868 rfl rfl h1 ?_
    rw [sc2 _, e1]
    refine r_X11_count (pc2 := 872) w dL_law_869 rfl hc2 rfl (hM.cx b1.2.1) hok ?_ ?_
    · intro d0 x3 y3 d1
      refine s_istore (pc2 := 874) w dL_law_872 rfl rfl ?_
      dsimp only [gk_s1, gk_s2, gk_cl]
      refine s_aload_n (pc2 := 875) w dL_law_874 rfl rfl ?_
      refine r_X11_thrown (pc2 := 878) w dL_law_875 rfl hc3 rfl ?_
      rw [d1.2.1]
      refine s_iload (pc2 := 880) w dL_law_878 rfl rfl ?_
      refine s_ic_eq (pc2 := 883) (tgt := 885) w dL_law_880 rfl (by decide) (fun _ => ?_) (fun h0 => absurd (rfl) h0)
      refine s_iload (pc2 := 887) w dL_law_885 rfl rfl ?_
      refine s_if_ne (pc2 := 890) (tgt := 902) w dL_law_887 rfl (by decide) (fun h0 => absurd (rfl) h0) (fun _ => ?_)
      refine s_aload_n (pc2 := 891) w dL_law_890 rfl rfl ?_
      refine s_iconst (pc2 := 892) (v := 0) w dL_law_891 rfl rfl ?_
      refine m_laloadN (pc2 := 893) (t := 0) (N := 1) w dL_law_892 rfl rfl rfl rfl (by decide) rfl ?_
      rw [(d1.2.2.2 200 0 (by decide)).trans (gk_uy_in _ _ _ _)]
      refine s_iload (pc2 := 895) w dL_law_893 rfl rfl ?_
      refine s_i2l (pc2 := 896) w dL_law_895 rfl ?_
      refine s_lcmp (pc2 := 897) w dL_law_896 rfl ?_
      refine s_if_eq (pc2 := 900) (tgt := 902) w dL_law_897 rfl (by decide) (fun _ => ?_) (fun h0 => absurd (lcm_self _) h0)
      refine s_goto (tgt := 3095) w dL_law_902 (by decide) ?_
      exact kk _ _ _ _ _ _ (by omega) (LI.st sc hT b1 (uy_out (Or.inl rfl)) d1 hok)
    · intro d0 x3 y3 d1
      exact absurd b0 d0
  · intro b0 x2 y2 b1
    have sc2 := sc.cx b1.2.1
    refine s_istore (pc2 := 862) w dL_law_860 rfl rfl ?_
    dsimp only [gk_s1, gk_s2, gk_cl]
    refine s_aload_n (pc2 := 863) w dL_law_862 rfl rfl ?_
    refine s_aload_n (pc2 := 864) w dL_law_863 rfl rfl ?_
    refine s_iload (pc2 := 866) w dL_law_864 rfl rfl ?_
    refine s_iconst (pc2 := 867) (v := 1) w dL_law_866 rfl rfl ?_
    refine s_iadd (pc2 := 868) w dL_law_867 rfl ?_
    refine g_ialoadS (pc2 := 869) w dL_law_868 rfl rfl h1 ?_
    rw [sc2 _, e1]
    refine r_X11_count (pc2 := 872) w dL_law_869 rfl hc2 rfl (hM.cx b1.2.1) hok ?_ ?_
    · intro d0 x3 y3 d1
      exact absurd d0 b0
    · intro d0 x3 y3 d1
      refine s_istore (pc2 := 874) w dL_law_872 rfl rfl ?_
      dsimp only [gk_s1, gk_s2, gk_cl]
      refine s_aload_n (pc2 := 875) w dL_law_874 rfl rfl ?_
      refine r_X11_thrown (pc2 := 878) w dL_law_875 rfl hc3 rfl ?_
      rw [d1.2.1]
      refine s_iload (pc2 := 880) w dL_law_878 rfl rfl ?_
      refine s_ic_eq (pc2 := 883) (tgt := 885) w dL_law_880 rfl (by decide) (fun _ => ?_) (fun h0 => absurd (rfl) h0)
      refine s_iload (pc2 := 887) w dL_law_885 rfl rfl ?_
      refine s_if_ne (pc2 := 890) (tgt := 902) w dL_law_887 rfl (by decide) (fun _ => ?_) (fun h0 => absurd h0 (by decide))
      refine s_goto (tgt := 3095) w dL_law_902 (by decide) ?_
      exact kk _ _ _ _ _ _ (by omega) (LI.st sc hT b1 (fun _ _ _ _ => rfl) d1 hok)

theorem lc_10 (w : gk_W cL_law pL cs (fun _ _ => none) rt uf (some Ls) K V) (hc1 : cs 190 = some (0, 0, 4, 2, S_L_emitted)) (hc2 : cs 192 = some (1, 10, 3, 0, S_X11_emitted)) (hc3 : cs 152 = some (1, 10, 1, 0, S_X11_thrown)) {a1 a2 : Int32} (h1 : vp_in (i + 1) Ls) (e1 : sv (i + 1).toNatClampNeg = a1) (h2 : vp_in (i + 2) Ls) (e2 : sv (i + 2).toNatClampNeg = a2) (hu : u + 6 ≤ uf) (hI : LI sv x y) (kk : ∀ (x2 : gk_X) (y2 : gk_Y) (q6 q7 q8 : Option Value) (u2 : Nat), u2 ≤ u + 6 → LI sv x2 y2 → V 3095 [some (.ref 5000), some (.ref 0), some (.ref 189), some (.ref 200), some (.ref 201), some (.int i), q6, q7, q8] [] 202 gk_fT x2 y2 u2) : V 905 [some (.ref 5000), some (.ref 0), some (.ref 189), some (.ref 200), some (.ref 201), some (.int i), q6, q7, q8] [] 202 gk_fT x y u := by
  obtain ⟨sc, hT, g, hM, hR, hok⟩ := hI
  refine s_aload_n (pc2 := 906) w dL_law_905 rfl rfl ?_
  refine s_aload_n (pc2 := 907) w dL_law_906 rfl rfl ?_
  refine s_iload (pc2 := 909) w dL_law_907 rfl rfl ?_
  refine s_iconst (pc2 := 910) (v := 1) w dL_law_909 rfl rfl ?_
  refine s_iadd (pc2 := 911) w dL_law_910 rfl ?_
  refine g_ialoadS (pc2 := 912) w dL_law_911 rfl rfl h1 ?_
  rw [sc _, e1]
  refine s_aload_n (pc2 := 913) w dL_law_912 rfl rfl ?_
  refine s_iload (pc2 := 915) w dL_law_913 rfl rfl ?_
  refine s_iconst (pc2 := 916) (v := 2) w dL_law_915 rfl rfl ?_
  refine s_iadd (pc2 := 917) w dL_law_916 rfl ?_
  refine g_ialoadS (pc2 := 918) w dL_law_917 rfl rfl h2 ?_
  rw [sc _, e2]
  refine s_aload_n (pc2 := 919) w dL_law_918 rfl rfl ?_
  refine r_L_emitted (pc2 := 922) w dL_law_919 rfl hc1 rfl (by omega) hR hok ?_ ?_ ?_
  · intro b0 b1 x2 y2 b2
    have sc2 := sc.cx b2.2.1
    refine s_istore (pc2 := 924) w dL_law_922 rfl rfl ?_
    dsimp only [gk_s1, gk_s2, gk_cl]
    refine s_aload_n (pc2 := 925) w dL_law_924 rfl rfl ?_
    refine s_aload_n (pc2 := 926) w dL_law_925 rfl rfl ?_
    refine s_iload (pc2 := 928) w dL_law_926 rfl rfl ?_
    refine s_iconst (pc2 := 929) (v := 1) w dL_law_928 rfl rfl ?_
    refine s_iadd (pc2 := 930) w dL_law_929 rfl ?_
    refine g_ialoadS (pc2 := 931) w dL_law_930 rfl rfl h1 ?_
    rw [sc2 _, e1]
    refine s_aload_n (pc2 := 932) w dL_law_931 rfl rfl ?_
    refine s_iload (pc2 := 934) w dL_law_932 rfl rfl ?_
    refine s_iconst (pc2 := 935) (v := 2) w dL_law_934 rfl rfl ?_
    refine s_iadd (pc2 := 936) w dL_law_935 rfl ?_
    refine g_ialoadS (pc2 := 937) w dL_law_936 rfl rfl h2 ?_
    rw [sc2 _, e2]
    refine r_X11_emitted (pc2 := 940) w dL_law_937 rfl hc2 rfl (hM.cx b2.2.1) hok ?_ ?_ ?_
    · intro d0 d1 x3 y3 d2
      refine s_istore (pc2 := 942) w dL_law_940 rfl rfl ?_
      dsimp only [gk_s1, gk_s2, gk_cl]
      refine s_aload_n (pc2 := 943) w dL_law_942 rfl rfl ?_
      refine r_X11_thrown (pc2 := 946) w dL_law_943 rfl hc3 rfl ?_
      rw [d2.2.1]
      refine s_iload (pc2 := 948) w dL_law_946 rfl rfl ?_
      refine s_ic_eq (pc2 := 951) (tgt := 953) w dL_law_948 rfl (by decide) (fun _ => ?_) (fun h0 => absurd (rfl) h0)
      refine s_iload (pc2 := 955) w dL_law_953 rfl rfl ?_
      refine s_if_ne (pc2 := 958) (tgt := 970) w dL_law_955 rfl (by decide) (fun h0 => absurd (rfl) h0) (fun _ => ?_)
      refine s_aload_n (pc2 := 959) w dL_law_958 rfl rfl ?_
      refine s_iconst (pc2 := 960) (v := 0) w dL_law_959 rfl rfl ?_
      refine m_laloadN (pc2 := 961) (t := 0) (N := 1) w dL_law_960 rfl rfl rfl rfl (by decide) rfl ?_
      rw [(d2.2.2.2 200 0 (by decide)).trans (gk_uy_in _ _ _ _)]
      refine s_iload (pc2 := 963) w dL_law_961 rfl rfl ?_
      refine s_i2l (pc2 := 964) w dL_law_963 rfl ?_
      refine s_lcmp (pc2 := 965) w dL_law_964 rfl ?_
      refine s_if_eq (pc2 := 968) (tgt := 970) w dL_law_965 rfl (by decide) (fun _ => ?_) (fun h0 => absurd (lcm_self _) h0)
      refine s_goto (tgt := 3095) w dL_law_970 (by decide) ?_
      exact kk _ _ _ _ _ _ (by omega) (LI.st sc hT b2 (uy_out (Or.inl rfl)) d2 hok)
    · intro d0 x3 y3 d1
      exact absurd b0 d0
    · intro d0 d1 x3 y3 d2
      exact absurd b1 d1
  · intro b0 x2 y2 b1
    have sc2 := sc.cx b1.2.1
    refine s_istore (pc2 := 924) w dL_law_922 rfl rfl ?_
    dsimp only [gk_s1, gk_s2, gk_cl]
    refine s_aload_n (pc2 := 925) w dL_law_924 rfl rfl ?_
    refine s_aload_n (pc2 := 926) w dL_law_925 rfl rfl ?_
    refine s_iload (pc2 := 928) w dL_law_926 rfl rfl ?_
    refine s_iconst (pc2 := 929) (v := 1) w dL_law_928 rfl rfl ?_
    refine s_iadd (pc2 := 930) w dL_law_929 rfl ?_
    refine g_ialoadS (pc2 := 931) w dL_law_930 rfl rfl h1 ?_
    rw [sc2 _, e1]
    refine s_aload_n (pc2 := 932) w dL_law_931 rfl rfl ?_
    refine s_iload (pc2 := 934) w dL_law_932 rfl rfl ?_
    refine s_iconst (pc2 := 935) (v := 2) w dL_law_934 rfl rfl ?_
    refine s_iadd (pc2 := 936) w dL_law_935 rfl ?_
    refine g_ialoadS (pc2 := 937) w dL_law_936 rfl rfl h2 ?_
    rw [sc2 _, e2]
    refine r_X11_emitted (pc2 := 940) w dL_law_937 rfl hc2 rfl (hM.cx b1.2.1) hok ?_ ?_ ?_
    · intro d0 d1 x3 y3 d2
      exact absurd d0 b0
    · intro d0 x3 y3 d1
      refine s_istore (pc2 := 942) w dL_law_940 rfl rfl ?_
      dsimp only [gk_s1, gk_s2, gk_cl]
      refine s_aload_n (pc2 := 943) w dL_law_942 rfl rfl ?_
      refine r_X11_thrown (pc2 := 946) w dL_law_943 rfl hc3 rfl ?_
      rw [d1.2.1]
      refine s_iload (pc2 := 948) w dL_law_946 rfl rfl ?_
      refine s_ic_eq (pc2 := 951) (tgt := 953) w dL_law_948 rfl (by decide) (fun _ => ?_) (fun h0 => absurd (rfl) h0)
      refine s_iload (pc2 := 955) w dL_law_953 rfl rfl ?_
      refine s_if_ne (pc2 := 958) (tgt := 970) w dL_law_955 rfl (by decide) (fun _ => ?_) (fun h0 => absurd h0 (by decide))
      refine s_goto (tgt := 3095) w dL_law_970 (by decide) ?_
      exact kk _ _ _ _ _ _ (by omega) (LI.st sc hT b1 (fun _ _ _ _ => rfl) d1 hok)
    · intro d0 d1 x3 y3 d2
      exact absurd d0 b0
  · intro b0 b1 x2 y2 b2
    have sc2 := sc.cx b2.2.1
    refine s_istore (pc2 := 924) w dL_law_922 rfl rfl ?_
    dsimp only [gk_s1, gk_s2, gk_cl]
    refine s_aload_n (pc2 := 925) w dL_law_924 rfl rfl ?_
    refine s_aload_n (pc2 := 926) w dL_law_925 rfl rfl ?_
    refine s_iload (pc2 := 928) w dL_law_926 rfl rfl ?_
    refine s_iconst (pc2 := 929) (v := 1) w dL_law_928 rfl rfl ?_
    refine s_iadd (pc2 := 930) w dL_law_929 rfl ?_
    refine g_ialoadS (pc2 := 931) w dL_law_930 rfl rfl h1 ?_
    rw [sc2 _, e1]
    refine s_aload_n (pc2 := 932) w dL_law_931 rfl rfl ?_
    refine s_iload (pc2 := 934) w dL_law_932 rfl rfl ?_
    refine s_iconst (pc2 := 935) (v := 2) w dL_law_934 rfl rfl ?_
    refine s_iadd (pc2 := 936) w dL_law_935 rfl ?_
    refine g_ialoadS (pc2 := 937) w dL_law_936 rfl rfl h2 ?_
    rw [sc2 _, e2]
    refine r_X11_emitted (pc2 := 940) w dL_law_937 rfl hc2 rfl (hM.cx b2.2.1) hok ?_ ?_ ?_
    · intro d0 d1 x3 y3 d2
      exact absurd d1 b1
    · intro d0 x3 y3 d1
      exact absurd b0 d0
    · intro d0 d1 x3 y3 d2
      refine s_istore (pc2 := 942) w dL_law_940 rfl rfl ?_
      dsimp only [gk_s1, gk_s2, gk_cl]
      refine s_aload_n (pc2 := 943) w dL_law_942 rfl rfl ?_
      refine r_X11_thrown (pc2 := 946) w dL_law_943 rfl hc3 rfl ?_
      rw [d2.2.1]
      refine s_iload (pc2 := 948) w dL_law_946 rfl rfl ?_
      refine s_ic_eq (pc2 := 951) (tgt := 953) w dL_law_948 rfl (by decide) (fun _ => ?_) (fun h0 => absurd (rfl) h0)
      refine s_iload (pc2 := 955) w dL_law_953 rfl rfl ?_
      refine s_if_ne (pc2 := 958) (tgt := 970) w dL_law_955 rfl (by decide) (fun _ => ?_) (fun h0 => absurd h0 (by decide))
      refine s_goto (tgt := 3095) w dL_law_970 (by decide) ?_
      exact kk _ _ _ _ _ _ (by omega) (LI.st sc hT b2 (fun _ _ _ _ => rfl) d2 hok)

theorem lc_11 (w : gk_W cL_law pL cs (fun _ _ => none) rt uf (some Ls) K V) (hc1 : cs 193 = some (0, 0, 6, 3, S_L_distance)) (hc2 : cs 196 = some (1, 10, 5, 0, S_X11_distance)) (hc3 : cs 152 = some (1, 10, 1, 0, S_X11_thrown)) {a1 a2 a3 a4 : Int32} (h1 : vp_in (i + 1) Ls) (e1 : sv (i + 1).toNatClampNeg = a1) (h2 : vp_in (i + 2) Ls) (e2 : sv (i + 2).toNatClampNeg = a2) (h3 : vp_in (i + 3) Ls) (e3 : sv (i + 3).toNatClampNeg = a3) (h4 : vp_in (i + 4) Ls) (e4 : sv (i + 4).toNatClampNeg = a4) (hu : u + 6 ≤ uf) (hI : LI sv x y) (kk : ∀ (x2 : gk_X) (y2 : gk_Y) (q6 q7 q8 : Option Value) (u2 : Nat), u2 ≤ u + 6 → LI sv x2 y2 → V 3095 [some (.ref 5000), some (.ref 0), some (.ref 189), some (.ref 200), some (.ref 201), some (.int i), q6, q7, q8] [] 202 gk_fT x2 y2 u2) : V 973 [some (.ref 5000), some (.ref 0), some (.ref 189), some (.ref 200), some (.ref 201), some (.int i), q6, q7, q8] [] 202 gk_fT x y u := by
  obtain ⟨sc, hT, g, hM, hR, hok⟩ := hI
  refine s_aload_n (pc2 := 974) w dL_law_973 rfl rfl ?_
  refine s_aload_n (pc2 := 975) w dL_law_974 rfl rfl ?_
  refine s_iload (pc2 := 977) w dL_law_975 rfl rfl ?_
  refine s_iconst (pc2 := 978) (v := 1) w dL_law_977 rfl rfl ?_
  refine s_iadd (pc2 := 979) w dL_law_978 rfl ?_
  refine g_ialoadS (pc2 := 980) w dL_law_979 rfl rfl h1 ?_
  rw [sc _, e1]
  refine s_aload_n (pc2 := 981) w dL_law_980 rfl rfl ?_
  refine s_iload (pc2 := 983) w dL_law_981 rfl rfl ?_
  refine s_iconst (pc2 := 984) (v := 2) w dL_law_983 rfl rfl ?_
  refine s_iadd (pc2 := 985) w dL_law_984 rfl ?_
  refine g_ialoadS (pc2 := 986) w dL_law_985 rfl rfl h2 ?_
  rw [sc _, e2]
  refine s_aload_n (pc2 := 987) w dL_law_986 rfl rfl ?_
  refine s_iload (pc2 := 989) w dL_law_987 rfl rfl ?_
  refine s_iconst (pc2 := 990) (v := 3) w dL_law_989 rfl rfl ?_
  refine s_iadd (pc2 := 991) w dL_law_990 rfl ?_
  refine g_ialoadS (pc2 := 992) w dL_law_991 rfl rfl h3 ?_
  rw [sc _, e3]
  refine s_aload_n (pc2 := 993) w dL_law_992 rfl rfl ?_
  refine s_iload (pc2 := 995) w dL_law_993 rfl rfl ?_
  refine s_iconst (pc2 := 996) (v := 4) w dL_law_995 rfl rfl ?_
  refine s_iadd (pc2 := 997) w dL_law_996 rfl ?_
  refine g_ialoadS (pc2 := 998) w dL_law_997 rfl rfl h4 ?_
  rw [sc _, e4]
  refine s_if_eq (pc2 := 1001) (tgt := 1005) w dL_law_998 rfl (by decide) (fun c998 => ?_) (fun c998 => ?_)
  · refine s_iconst (pc2 := 1006) (v := 0) w dL_law_1005 rfl rfl ?_
    refine s_aload_n (pc2 := 1007) w dL_law_1006 rfl rfl ?_
    refine r_L_distance (pc2 := 1010) (rf := false) w dL_law_1007 rfl hc1 rfl (by omega) hR hok rfl ?_ ?_ ?_
    · intro b0 b1 x2 y2 b2
      have sc2 := sc.cx b2.2.1
      refine s_istore (pc2 := 1012) w dL_law_1010 rfl rfl ?_
      dsimp only [gk_s1, gk_s2, gk_cl]
      refine s_aload_n (pc2 := 1013) w dL_law_1012 rfl rfl ?_
      refine s_aload_n (pc2 := 1014) w dL_law_1013 rfl rfl ?_
      refine s_iload (pc2 := 1016) w dL_law_1014 rfl rfl ?_
      refine s_iconst (pc2 := 1017) (v := 1) w dL_law_1016 rfl rfl ?_
      refine s_iadd (pc2 := 1018) w dL_law_1017 rfl ?_
      refine g_ialoadS (pc2 := 1019) w dL_law_1018 rfl rfl h1 ?_
      rw [sc2 _, e1]
      refine s_aload_n (pc2 := 1020) w dL_law_1019 rfl rfl ?_
      refine s_iload (pc2 := 1022) w dL_law_1020 rfl rfl ?_
      refine s_iconst (pc2 := 1023) (v := 2) w dL_law_1022 rfl rfl ?_
      refine s_iadd (pc2 := 1024) w dL_law_1023 rfl ?_
      refine g_ialoadS (pc2 := 1025) w dL_law_1024 rfl rfl h2 ?_
      rw [sc2 _, e2]
      refine s_aload_n (pc2 := 1026) w dL_law_1025 rfl rfl ?_
      refine s_iload (pc2 := 1028) w dL_law_1026 rfl rfl ?_
      refine s_iconst (pc2 := 1029) (v := 3) w dL_law_1028 rfl rfl ?_
      refine s_iadd (pc2 := 1030) w dL_law_1029 rfl ?_
      refine g_ialoadS (pc2 := 1031) w dL_law_1030 rfl rfl h3 ?_
      rw [sc2 _, e3]
      refine s_aload_n (pc2 := 1032) w dL_law_1031 rfl rfl ?_
      refine s_iload (pc2 := 1034) w dL_law_1032 rfl rfl ?_
      refine s_iconst (pc2 := 1035) (v := 4) w dL_law_1034 rfl rfl ?_
      refine s_iadd (pc2 := 1036) w dL_law_1035 rfl ?_
      refine g_ialoadS (pc2 := 1037) w dL_law_1036 rfl rfl h4 ?_
      rw [sc2 _, e4]
      refine s_if_eq (pc2 := 1040) (tgt := 1044) w dL_law_1037 rfl (by decide) (fun _ => ?_) (fun h0 => absurd (c998) h0)
      refine s_iconst (pc2 := 1045) (v := 0) w dL_law_1044 rfl rfl ?_
      refine r_X11_distance (pc2 := 1048) (rf := false) w dL_law_1045 rfl hc2 rfl (hM.cx b2.2.1) hok rfl ?_ ?_ ?_
      · intro d0 d1 x3 y3 d2
        refine s_istore (pc2 := 1050) w dL_law_1048 rfl rfl ?_
        dsimp only [gk_s1, gk_s2, gk_cl]
        refine s_aload_n (pc2 := 1051) w dL_law_1050 rfl rfl ?_
        refine r_X11_thrown (pc2 := 1054) w dL_law_1051 rfl hc3 rfl ?_
        rw [d2.2.1]
        refine s_iload (pc2 := 1056) w dL_law_1054 rfl rfl ?_
        refine s_ic_eq (pc2 := 1059) (tgt := 1061) w dL_law_1056 rfl (by decide) (fun _ => ?_) (fun h0 => absurd (rfl) h0)
        refine s_iload (pc2 := 1063) w dL_law_1061 rfl rfl ?_
        refine s_if_ne (pc2 := 1066) (tgt := 1078) w dL_law_1063 rfl (by decide) (fun h0 => absurd (rfl) h0) (fun _ => ?_)
        refine s_aload_n (pc2 := 1067) w dL_law_1066 rfl rfl ?_
        refine s_iconst (pc2 := 1068) (v := 0) w dL_law_1067 rfl rfl ?_
        refine m_laloadN (pc2 := 1069) (t := 0) (N := 1) w dL_law_1068 rfl rfl rfl rfl (by decide) rfl ?_
        rw [(d2.2.2.2 200 0 (by decide)).trans (gk_uy_in _ _ _ _)]
        refine s_iload (pc2 := 1071) w dL_law_1069 rfl rfl ?_
        refine s_i2l (pc2 := 1072) w dL_law_1071 rfl ?_
        refine s_lcmp (pc2 := 1073) w dL_law_1072 rfl ?_
        refine s_if_eq (pc2 := 1076) (tgt := 1078) w dL_law_1073 rfl (by decide) (fun _ => ?_) (fun h0 => absurd (lcm_self _) h0)
        refine s_goto (tgt := 3095) w dL_law_1078 (by decide) ?_
        exact kk _ _ _ _ _ _ (by omega) (LI.st sc hT b2 (uy_out (Or.inl rfl)) d2 hok)
      · intro d0 x3 y3 d1
        exact absurd b0 d0
      · intro d0 d1 x3 y3 d2
        exact absurd b1 d1
    · intro b0 x2 y2 b1
      have sc2 := sc.cx b1.2.1
      refine s_istore (pc2 := 1012) w dL_law_1010 rfl rfl ?_
      dsimp only [gk_s1, gk_s2, gk_cl]
      refine s_aload_n (pc2 := 1013) w dL_law_1012 rfl rfl ?_
      refine s_aload_n (pc2 := 1014) w dL_law_1013 rfl rfl ?_
      refine s_iload (pc2 := 1016) w dL_law_1014 rfl rfl ?_
      refine s_iconst (pc2 := 1017) (v := 1) w dL_law_1016 rfl rfl ?_
      refine s_iadd (pc2 := 1018) w dL_law_1017 rfl ?_
      refine g_ialoadS (pc2 := 1019) w dL_law_1018 rfl rfl h1 ?_
      rw [sc2 _, e1]
      refine s_aload_n (pc2 := 1020) w dL_law_1019 rfl rfl ?_
      refine s_iload (pc2 := 1022) w dL_law_1020 rfl rfl ?_
      refine s_iconst (pc2 := 1023) (v := 2) w dL_law_1022 rfl rfl ?_
      refine s_iadd (pc2 := 1024) w dL_law_1023 rfl ?_
      refine g_ialoadS (pc2 := 1025) w dL_law_1024 rfl rfl h2 ?_
      rw [sc2 _, e2]
      refine s_aload_n (pc2 := 1026) w dL_law_1025 rfl rfl ?_
      refine s_iload (pc2 := 1028) w dL_law_1026 rfl rfl ?_
      refine s_iconst (pc2 := 1029) (v := 3) w dL_law_1028 rfl rfl ?_
      refine s_iadd (pc2 := 1030) w dL_law_1029 rfl ?_
      refine g_ialoadS (pc2 := 1031) w dL_law_1030 rfl rfl h3 ?_
      rw [sc2 _, e3]
      refine s_aload_n (pc2 := 1032) w dL_law_1031 rfl rfl ?_
      refine s_iload (pc2 := 1034) w dL_law_1032 rfl rfl ?_
      refine s_iconst (pc2 := 1035) (v := 4) w dL_law_1034 rfl rfl ?_
      refine s_iadd (pc2 := 1036) w dL_law_1035 rfl ?_
      refine g_ialoadS (pc2 := 1037) w dL_law_1036 rfl rfl h4 ?_
      rw [sc2 _, e4]
      refine s_if_eq (pc2 := 1040) (tgt := 1044) w dL_law_1037 rfl (by decide) (fun _ => ?_) (fun h0 => absurd (c998) h0)
      refine s_iconst (pc2 := 1045) (v := 0) w dL_law_1044 rfl rfl ?_
      refine r_X11_distance (pc2 := 1048) (rf := false) w dL_law_1045 rfl hc2 rfl (hM.cx b1.2.1) hok rfl ?_ ?_ ?_
      · intro d0 d1 x3 y3 d2
        exact absurd d0 b0
      · intro d0 x3 y3 d1
        refine s_istore (pc2 := 1050) w dL_law_1048 rfl rfl ?_
        dsimp only [gk_s1, gk_s2, gk_cl]
        refine s_aload_n (pc2 := 1051) w dL_law_1050 rfl rfl ?_
        refine r_X11_thrown (pc2 := 1054) w dL_law_1051 rfl hc3 rfl ?_
        rw [d1.2.1]
        refine s_iload (pc2 := 1056) w dL_law_1054 rfl rfl ?_
        refine s_ic_eq (pc2 := 1059) (tgt := 1061) w dL_law_1056 rfl (by decide) (fun _ => ?_) (fun h0 => absurd (rfl) h0)
        refine s_iload (pc2 := 1063) w dL_law_1061 rfl rfl ?_
        refine s_if_ne (pc2 := 1066) (tgt := 1078) w dL_law_1063 rfl (by decide) (fun _ => ?_) (fun h0 => absurd h0 (by decide))
        refine s_goto (tgt := 3095) w dL_law_1078 (by decide) ?_
        exact kk _ _ _ _ _ _ (by omega) (LI.st sc hT b1 (fun _ _ _ _ => rfl) d1 hok)
      · intro d0 d1 x3 y3 d2
        exact absurd d0 b0
    · intro b0 b1 x2 y2 b2
      have sc2 := sc.cx b2.2.1
      refine s_istore (pc2 := 1012) w dL_law_1010 rfl rfl ?_
      dsimp only [gk_s1, gk_s2, gk_cl]
      refine s_aload_n (pc2 := 1013) w dL_law_1012 rfl rfl ?_
      refine s_aload_n (pc2 := 1014) w dL_law_1013 rfl rfl ?_
      refine s_iload (pc2 := 1016) w dL_law_1014 rfl rfl ?_
      refine s_iconst (pc2 := 1017) (v := 1) w dL_law_1016 rfl rfl ?_
      refine s_iadd (pc2 := 1018) w dL_law_1017 rfl ?_
      refine g_ialoadS (pc2 := 1019) w dL_law_1018 rfl rfl h1 ?_
      rw [sc2 _, e1]
      refine s_aload_n (pc2 := 1020) w dL_law_1019 rfl rfl ?_
      refine s_iload (pc2 := 1022) w dL_law_1020 rfl rfl ?_
      refine s_iconst (pc2 := 1023) (v := 2) w dL_law_1022 rfl rfl ?_
      refine s_iadd (pc2 := 1024) w dL_law_1023 rfl ?_
      refine g_ialoadS (pc2 := 1025) w dL_law_1024 rfl rfl h2 ?_
      rw [sc2 _, e2]
      refine s_aload_n (pc2 := 1026) w dL_law_1025 rfl rfl ?_
      refine s_iload (pc2 := 1028) w dL_law_1026 rfl rfl ?_
      refine s_iconst (pc2 := 1029) (v := 3) w dL_law_1028 rfl rfl ?_
      refine s_iadd (pc2 := 1030) w dL_law_1029 rfl ?_
      refine g_ialoadS (pc2 := 1031) w dL_law_1030 rfl rfl h3 ?_
      rw [sc2 _, e3]
      refine s_aload_n (pc2 := 1032) w dL_law_1031 rfl rfl ?_
      refine s_iload (pc2 := 1034) w dL_law_1032 rfl rfl ?_
      refine s_iconst (pc2 := 1035) (v := 4) w dL_law_1034 rfl rfl ?_
      refine s_iadd (pc2 := 1036) w dL_law_1035 rfl ?_
      refine g_ialoadS (pc2 := 1037) w dL_law_1036 rfl rfl h4 ?_
      rw [sc2 _, e4]
      refine s_if_eq (pc2 := 1040) (tgt := 1044) w dL_law_1037 rfl (by decide) (fun _ => ?_) (fun h0 => absurd (c998) h0)
      refine s_iconst (pc2 := 1045) (v := 0) w dL_law_1044 rfl rfl ?_
      refine r_X11_distance (pc2 := 1048) (rf := false) w dL_law_1045 rfl hc2 rfl (hM.cx b2.2.1) hok rfl ?_ ?_ ?_
      · intro d0 d1 x3 y3 d2
        exact absurd d1 b1
      · intro d0 x3 y3 d1
        exact absurd b0 d0
      · intro d0 d1 x3 y3 d2
        refine s_istore (pc2 := 1050) w dL_law_1048 rfl rfl ?_
        dsimp only [gk_s1, gk_s2, gk_cl]
        refine s_aload_n (pc2 := 1051) w dL_law_1050 rfl rfl ?_
        refine r_X11_thrown (pc2 := 1054) w dL_law_1051 rfl hc3 rfl ?_
        rw [d2.2.1]
        refine s_iload (pc2 := 1056) w dL_law_1054 rfl rfl ?_
        refine s_ic_eq (pc2 := 1059) (tgt := 1061) w dL_law_1056 rfl (by decide) (fun _ => ?_) (fun h0 => absurd (rfl) h0)
        refine s_iload (pc2 := 1063) w dL_law_1061 rfl rfl ?_
        refine s_if_ne (pc2 := 1066) (tgt := 1078) w dL_law_1063 rfl (by decide) (fun _ => ?_) (fun h0 => absurd h0 (by decide))
        refine s_goto (tgt := 3095) w dL_law_1078 (by decide) ?_
        exact kk _ _ _ _ _ _ (by omega) (LI.st sc hT b2 (fun _ _ _ _ => rfl) d2 hok)
  · refine s_iconst (pc2 := 1002) (v := 1) w dL_law_1001 rfl rfl ?_
    refine s_goto (tgt := 1006) w dL_law_1002 (by decide) ?_
    refine s_aload_n (pc2 := 1007) w dL_law_1006 rfl rfl ?_
    refine r_L_distance (pc2 := 1010) (rf := true) w dL_law_1007 rfl hc1 rfl (by omega) hR hok rfl ?_ ?_ ?_
    · intro b0 b1 x2 y2 b2
      have sc2 := sc.cx b2.2.1
      refine s_istore (pc2 := 1012) w dL_law_1010 rfl rfl ?_
      dsimp only [gk_s1, gk_s2, gk_cl]
      refine s_aload_n (pc2 := 1013) w dL_law_1012 rfl rfl ?_
      refine s_aload_n (pc2 := 1014) w dL_law_1013 rfl rfl ?_
      refine s_iload (pc2 := 1016) w dL_law_1014 rfl rfl ?_
      refine s_iconst (pc2 := 1017) (v := 1) w dL_law_1016 rfl rfl ?_
      refine s_iadd (pc2 := 1018) w dL_law_1017 rfl ?_
      refine g_ialoadS (pc2 := 1019) w dL_law_1018 rfl rfl h1 ?_
      rw [sc2 _, e1]
      refine s_aload_n (pc2 := 1020) w dL_law_1019 rfl rfl ?_
      refine s_iload (pc2 := 1022) w dL_law_1020 rfl rfl ?_
      refine s_iconst (pc2 := 1023) (v := 2) w dL_law_1022 rfl rfl ?_
      refine s_iadd (pc2 := 1024) w dL_law_1023 rfl ?_
      refine g_ialoadS (pc2 := 1025) w dL_law_1024 rfl rfl h2 ?_
      rw [sc2 _, e2]
      refine s_aload_n (pc2 := 1026) w dL_law_1025 rfl rfl ?_
      refine s_iload (pc2 := 1028) w dL_law_1026 rfl rfl ?_
      refine s_iconst (pc2 := 1029) (v := 3) w dL_law_1028 rfl rfl ?_
      refine s_iadd (pc2 := 1030) w dL_law_1029 rfl ?_
      refine g_ialoadS (pc2 := 1031) w dL_law_1030 rfl rfl h3 ?_
      rw [sc2 _, e3]
      refine s_aload_n (pc2 := 1032) w dL_law_1031 rfl rfl ?_
      refine s_iload (pc2 := 1034) w dL_law_1032 rfl rfl ?_
      refine s_iconst (pc2 := 1035) (v := 4) w dL_law_1034 rfl rfl ?_
      refine s_iadd (pc2 := 1036) w dL_law_1035 rfl ?_
      refine g_ialoadS (pc2 := 1037) w dL_law_1036 rfl rfl h4 ?_
      rw [sc2 _, e4]
      refine s_if_eq (pc2 := 1040) (tgt := 1044) w dL_law_1037 rfl (by decide) (fun h0 => absurd h0 (c998)) (fun _ => ?_)
      refine s_iconst (pc2 := 1041) (v := 1) w dL_law_1040 rfl rfl ?_
      refine s_goto (tgt := 1045) w dL_law_1041 (by decide) ?_
      refine r_X11_distance (pc2 := 1048) (rf := true) w dL_law_1045 rfl hc2 rfl (hM.cx b2.2.1) hok rfl ?_ ?_ ?_
      · intro d0 d1 x3 y3 d2
        refine s_istore (pc2 := 1050) w dL_law_1048 rfl rfl ?_
        dsimp only [gk_s1, gk_s2, gk_cl]
        refine s_aload_n (pc2 := 1051) w dL_law_1050 rfl rfl ?_
        refine r_X11_thrown (pc2 := 1054) w dL_law_1051 rfl hc3 rfl ?_
        rw [d2.2.1]
        refine s_iload (pc2 := 1056) w dL_law_1054 rfl rfl ?_
        refine s_ic_eq (pc2 := 1059) (tgt := 1061) w dL_law_1056 rfl (by decide) (fun _ => ?_) (fun h0 => absurd (rfl) h0)
        refine s_iload (pc2 := 1063) w dL_law_1061 rfl rfl ?_
        refine s_if_ne (pc2 := 1066) (tgt := 1078) w dL_law_1063 rfl (by decide) (fun h0 => absurd (rfl) h0) (fun _ => ?_)
        refine s_aload_n (pc2 := 1067) w dL_law_1066 rfl rfl ?_
        refine s_iconst (pc2 := 1068) (v := 0) w dL_law_1067 rfl rfl ?_
        refine m_laloadN (pc2 := 1069) (t := 0) (N := 1) w dL_law_1068 rfl rfl rfl rfl (by decide) rfl ?_
        rw [(d2.2.2.2 200 0 (by decide)).trans (gk_uy_in _ _ _ _)]
        refine s_iload (pc2 := 1071) w dL_law_1069 rfl rfl ?_
        refine s_i2l (pc2 := 1072) w dL_law_1071 rfl ?_
        refine s_lcmp (pc2 := 1073) w dL_law_1072 rfl ?_
        refine s_if_eq (pc2 := 1076) (tgt := 1078) w dL_law_1073 rfl (by decide) (fun _ => ?_) (fun h0 => absurd (lcm_self _) h0)
        refine s_goto (tgt := 3095) w dL_law_1078 (by decide) ?_
        exact kk _ _ _ _ _ _ (by omega) (LI.st sc hT b2 (uy_out (Or.inl rfl)) d2 hok)
      · intro d0 x3 y3 d1
        exact absurd b0 d0
      · intro d0 d1 x3 y3 d2
        exact absurd b1 d1
    · intro b0 x2 y2 b1
      have sc2 := sc.cx b1.2.1
      refine s_istore (pc2 := 1012) w dL_law_1010 rfl rfl ?_
      dsimp only [gk_s1, gk_s2, gk_cl]
      refine s_aload_n (pc2 := 1013) w dL_law_1012 rfl rfl ?_
      refine s_aload_n (pc2 := 1014) w dL_law_1013 rfl rfl ?_
      refine s_iload (pc2 := 1016) w dL_law_1014 rfl rfl ?_
      refine s_iconst (pc2 := 1017) (v := 1) w dL_law_1016 rfl rfl ?_
      refine s_iadd (pc2 := 1018) w dL_law_1017 rfl ?_
      refine g_ialoadS (pc2 := 1019) w dL_law_1018 rfl rfl h1 ?_
      rw [sc2 _, e1]
      refine s_aload_n (pc2 := 1020) w dL_law_1019 rfl rfl ?_
      refine s_iload (pc2 := 1022) w dL_law_1020 rfl rfl ?_
      refine s_iconst (pc2 := 1023) (v := 2) w dL_law_1022 rfl rfl ?_
      refine s_iadd (pc2 := 1024) w dL_law_1023 rfl ?_
      refine g_ialoadS (pc2 := 1025) w dL_law_1024 rfl rfl h2 ?_
      rw [sc2 _, e2]
      refine s_aload_n (pc2 := 1026) w dL_law_1025 rfl rfl ?_
      refine s_iload (pc2 := 1028) w dL_law_1026 rfl rfl ?_
      refine s_iconst (pc2 := 1029) (v := 3) w dL_law_1028 rfl rfl ?_
      refine s_iadd (pc2 := 1030) w dL_law_1029 rfl ?_
      refine g_ialoadS (pc2 := 1031) w dL_law_1030 rfl rfl h3 ?_
      rw [sc2 _, e3]
      refine s_aload_n (pc2 := 1032) w dL_law_1031 rfl rfl ?_
      refine s_iload (pc2 := 1034) w dL_law_1032 rfl rfl ?_
      refine s_iconst (pc2 := 1035) (v := 4) w dL_law_1034 rfl rfl ?_
      refine s_iadd (pc2 := 1036) w dL_law_1035 rfl ?_
      refine g_ialoadS (pc2 := 1037) w dL_law_1036 rfl rfl h4 ?_
      rw [sc2 _, e4]
      refine s_if_eq (pc2 := 1040) (tgt := 1044) w dL_law_1037 rfl (by decide) (fun h0 => absurd h0 (c998)) (fun _ => ?_)
      refine s_iconst (pc2 := 1041) (v := 1) w dL_law_1040 rfl rfl ?_
      refine s_goto (tgt := 1045) w dL_law_1041 (by decide) ?_
      refine r_X11_distance (pc2 := 1048) (rf := true) w dL_law_1045 rfl hc2 rfl (hM.cx b1.2.1) hok rfl ?_ ?_ ?_
      · intro d0 d1 x3 y3 d2
        exact absurd d0 b0
      · intro d0 x3 y3 d1
        refine s_istore (pc2 := 1050) w dL_law_1048 rfl rfl ?_
        dsimp only [gk_s1, gk_s2, gk_cl]
        refine s_aload_n (pc2 := 1051) w dL_law_1050 rfl rfl ?_
        refine r_X11_thrown (pc2 := 1054) w dL_law_1051 rfl hc3 rfl ?_
        rw [d1.2.1]
        refine s_iload (pc2 := 1056) w dL_law_1054 rfl rfl ?_
        refine s_ic_eq (pc2 := 1059) (tgt := 1061) w dL_law_1056 rfl (by decide) (fun _ => ?_) (fun h0 => absurd (rfl) h0)
        refine s_iload (pc2 := 1063) w dL_law_1061 rfl rfl ?_
        refine s_if_ne (pc2 := 1066) (tgt := 1078) w dL_law_1063 rfl (by decide) (fun _ => ?_) (fun h0 => absurd h0 (by decide))
        refine s_goto (tgt := 3095) w dL_law_1078 (by decide) ?_
        exact kk _ _ _ _ _ _ (by omega) (LI.st sc hT b1 (fun _ _ _ _ => rfl) d1 hok)
      · intro d0 d1 x3 y3 d2
        exact absurd d0 b0
    · intro b0 b1 x2 y2 b2
      have sc2 := sc.cx b2.2.1
      refine s_istore (pc2 := 1012) w dL_law_1010 rfl rfl ?_
      dsimp only [gk_s1, gk_s2, gk_cl]
      refine s_aload_n (pc2 := 1013) w dL_law_1012 rfl rfl ?_
      refine s_aload_n (pc2 := 1014) w dL_law_1013 rfl rfl ?_
      refine s_iload (pc2 := 1016) w dL_law_1014 rfl rfl ?_
      refine s_iconst (pc2 := 1017) (v := 1) w dL_law_1016 rfl rfl ?_
      refine s_iadd (pc2 := 1018) w dL_law_1017 rfl ?_
      refine g_ialoadS (pc2 := 1019) w dL_law_1018 rfl rfl h1 ?_
      rw [sc2 _, e1]
      refine s_aload_n (pc2 := 1020) w dL_law_1019 rfl rfl ?_
      refine s_iload (pc2 := 1022) w dL_law_1020 rfl rfl ?_
      refine s_iconst (pc2 := 1023) (v := 2) w dL_law_1022 rfl rfl ?_
      refine s_iadd (pc2 := 1024) w dL_law_1023 rfl ?_
      refine g_ialoadS (pc2 := 1025) w dL_law_1024 rfl rfl h2 ?_
      rw [sc2 _, e2]
      refine s_aload_n (pc2 := 1026) w dL_law_1025 rfl rfl ?_
      refine s_iload (pc2 := 1028) w dL_law_1026 rfl rfl ?_
      refine s_iconst (pc2 := 1029) (v := 3) w dL_law_1028 rfl rfl ?_
      refine s_iadd (pc2 := 1030) w dL_law_1029 rfl ?_
      refine g_ialoadS (pc2 := 1031) w dL_law_1030 rfl rfl h3 ?_
      rw [sc2 _, e3]
      refine s_aload_n (pc2 := 1032) w dL_law_1031 rfl rfl ?_
      refine s_iload (pc2 := 1034) w dL_law_1032 rfl rfl ?_
      refine s_iconst (pc2 := 1035) (v := 4) w dL_law_1034 rfl rfl ?_
      refine s_iadd (pc2 := 1036) w dL_law_1035 rfl ?_
      refine g_ialoadS (pc2 := 1037) w dL_law_1036 rfl rfl h4 ?_
      rw [sc2 _, e4]
      refine s_if_eq (pc2 := 1040) (tgt := 1044) w dL_law_1037 rfl (by decide) (fun h0 => absurd h0 (c998)) (fun _ => ?_)
      refine s_iconst (pc2 := 1041) (v := 1) w dL_law_1040 rfl rfl ?_
      refine s_goto (tgt := 1045) w dL_law_1041 (by decide) ?_
      refine r_X11_distance (pc2 := 1048) (rf := true) w dL_law_1045 rfl hc2 rfl (hM.cx b2.2.1) hok rfl ?_ ?_ ?_
      · intro d0 d1 x3 y3 d2
        exact absurd d1 b1
      · intro d0 x3 y3 d1
        exact absurd b0 d0
      · intro d0 d1 x3 y3 d2
        refine s_istore (pc2 := 1050) w dL_law_1048 rfl rfl ?_
        dsimp only [gk_s1, gk_s2, gk_cl]
        refine s_aload_n (pc2 := 1051) w dL_law_1050 rfl rfl ?_
        refine r_X11_thrown (pc2 := 1054) w dL_law_1051 rfl hc3 rfl ?_
        rw [d2.2.1]
        refine s_iload (pc2 := 1056) w dL_law_1054 rfl rfl ?_
        refine s_ic_eq (pc2 := 1059) (tgt := 1061) w dL_law_1056 rfl (by decide) (fun _ => ?_) (fun h0 => absurd (rfl) h0)
        refine s_iload (pc2 := 1063) w dL_law_1061 rfl rfl ?_
        refine s_if_ne (pc2 := 1066) (tgt := 1078) w dL_law_1063 rfl (by decide) (fun _ => ?_) (fun h0 => absurd h0 (by decide))
        refine s_goto (tgt := 3095) w dL_law_1078 (by decide) ?_
        exact kk _ _ _ _ _ _ (by omega) (LI.st sc hT b2 (fun _ _ _ _ => rfl) d2 hok)

theorem lc_12 (w : gk_W cL_law pL cs (fun _ _ => none) rt uf (some Ls) K V) (hc1 : cs 197 = some (0, 0, 6, 3, S_L_emissionTime)) (hc2 : cs 199 = some (1, 10, 5, 0, S_X11_emissionTime)) (hc3 : cs 152 = some (1, 10, 1, 0, S_X11_thrown)) {a1 a2 a3 a4 : Int32} (h1 : vp_in (i + 1) Ls) (e1 : sv (i + 1).toNatClampNeg = a1) (h2 : vp_in (i + 2) Ls) (e2 : sv (i + 2).toNatClampNeg = a2) (h3 : vp_in (i + 3) Ls) (e3 : sv (i + 3).toNatClampNeg = a3) (h4 : vp_in (i + 4) Ls) (e4 : sv (i + 4).toNatClampNeg = a4) (hu : u + 6 ≤ uf) (hI : LI sv x y) (kk : ∀ (x2 : gk_X) (y2 : gk_Y) (q6 q7 q8 : Option Value) (u2 : Nat), u2 ≤ u + 6 → LI sv x2 y2 → V 3095 [some (.ref 5000), some (.ref 0), some (.ref 189), some (.ref 200), some (.ref 201), some (.int i), q6, q7, q8] [] 202 gk_fT x2 y2 u2) : V 1081 [some (.ref 5000), some (.ref 0), some (.ref 189), some (.ref 200), some (.ref 201), some (.int i), q6, q7, q8] [] 202 gk_fT x y u := by
  obtain ⟨sc, hT, g, hM, hR, hok⟩ := hI
  refine s_aload_n (pc2 := 1082) w dL_law_1081 rfl rfl ?_
  refine s_aload_n (pc2 := 1083) w dL_law_1082 rfl rfl ?_
  refine s_iload (pc2 := 1085) w dL_law_1083 rfl rfl ?_
  refine s_iconst (pc2 := 1086) (v := 1) w dL_law_1085 rfl rfl ?_
  refine s_iadd (pc2 := 1087) w dL_law_1086 rfl ?_
  refine g_ialoadS (pc2 := 1088) w dL_law_1087 rfl rfl h1 ?_
  rw [sc _, e1]
  refine s_aload_n (pc2 := 1089) w dL_law_1088 rfl rfl ?_
  refine s_iload (pc2 := 1091) w dL_law_1089 rfl rfl ?_
  refine s_iconst (pc2 := 1092) (v := 2) w dL_law_1091 rfl rfl ?_
  refine s_iadd (pc2 := 1093) w dL_law_1092 rfl ?_
  refine g_ialoadS (pc2 := 1094) w dL_law_1093 rfl rfl h2 ?_
  rw [sc _, e2]
  refine s_aload_n (pc2 := 1095) w dL_law_1094 rfl rfl ?_
  refine s_iload (pc2 := 1097) w dL_law_1095 rfl rfl ?_
  refine s_iconst (pc2 := 1098) (v := 3) w dL_law_1097 rfl rfl ?_
  refine s_iadd (pc2 := 1099) w dL_law_1098 rfl ?_
  refine g_ialoadS (pc2 := 1100) w dL_law_1099 rfl rfl h3 ?_
  rw [sc _, e3]
  refine s_aload_n (pc2 := 1101) w dL_law_1100 rfl rfl ?_
  refine s_iload (pc2 := 1103) w dL_law_1101 rfl rfl ?_
  refine s_iconst (pc2 := 1104) (v := 4) w dL_law_1103 rfl rfl ?_
  refine s_iadd (pc2 := 1105) w dL_law_1104 rfl ?_
  refine g_ialoadS (pc2 := 1106) w dL_law_1105 rfl rfl h4 ?_
  rw [sc _, e4]
  refine s_if_eq (pc2 := 1109) (tgt := 1113) w dL_law_1106 rfl (by decide) (fun c1106 => ?_) (fun c1106 => ?_)
  · refine s_iconst (pc2 := 1114) (v := 0) w dL_law_1113 rfl rfl ?_
    refine s_aload_n (pc2 := 1115) w dL_law_1114 rfl rfl ?_
    refine r_L_emissionTime (pc2 := 1118) (rf := false) w dL_law_1115 rfl hc1 rfl (by omega) hR hok rfl ?_ ?_ ?_
    · intro b0 b1 x2 y2 b2
      have sc2 := sc.cx b2.2.1
      refine s_istore (pc2 := 1120) w dL_law_1118 rfl rfl ?_
      dsimp only [gk_s1, gk_s2, gk_cl]
      refine s_aload_n (pc2 := 1121) w dL_law_1120 rfl rfl ?_
      refine s_aload_n (pc2 := 1122) w dL_law_1121 rfl rfl ?_
      refine s_iload (pc2 := 1124) w dL_law_1122 rfl rfl ?_
      refine s_iconst (pc2 := 1125) (v := 1) w dL_law_1124 rfl rfl ?_
      refine s_iadd (pc2 := 1126) w dL_law_1125 rfl ?_
      refine g_ialoadS (pc2 := 1127) w dL_law_1126 rfl rfl h1 ?_
      rw [sc2 _, e1]
      refine s_aload_n (pc2 := 1128) w dL_law_1127 rfl rfl ?_
      refine s_iload (pc2 := 1130) w dL_law_1128 rfl rfl ?_
      refine s_iconst (pc2 := 1131) (v := 2) w dL_law_1130 rfl rfl ?_
      refine s_iadd (pc2 := 1132) w dL_law_1131 rfl ?_
      refine g_ialoadS (pc2 := 1133) w dL_law_1132 rfl rfl h2 ?_
      rw [sc2 _, e2]
      refine s_aload_n (pc2 := 1134) w dL_law_1133 rfl rfl ?_
      refine s_iload (pc2 := 1136) w dL_law_1134 rfl rfl ?_
      refine s_iconst (pc2 := 1137) (v := 3) w dL_law_1136 rfl rfl ?_
      refine s_iadd (pc2 := 1138) w dL_law_1137 rfl ?_
      refine g_ialoadS (pc2 := 1139) w dL_law_1138 rfl rfl h3 ?_
      rw [sc2 _, e3]
      refine s_aload_n (pc2 := 1140) w dL_law_1139 rfl rfl ?_
      refine s_iload (pc2 := 1142) w dL_law_1140 rfl rfl ?_
      refine s_iconst (pc2 := 1143) (v := 4) w dL_law_1142 rfl rfl ?_
      refine s_iadd (pc2 := 1144) w dL_law_1143 rfl ?_
      refine g_ialoadS (pc2 := 1145) w dL_law_1144 rfl rfl h4 ?_
      rw [sc2 _, e4]
      refine s_if_eq (pc2 := 1148) (tgt := 1152) w dL_law_1145 rfl (by decide) (fun _ => ?_) (fun h0 => absurd (c1106) h0)
      refine s_iconst (pc2 := 1153) (v := 0) w dL_law_1152 rfl rfl ?_
      refine r_X11_emissionTime (pc2 := 1156) (rf := false) w dL_law_1153 rfl hc2 rfl (hM.cx b2.2.1) hok rfl ?_ ?_ ?_
      · intro d0 d1 x3 y3 d2
        refine s_istore (pc2 := 1158) w dL_law_1156 rfl rfl ?_
        dsimp only [gk_s1, gk_s2, gk_cl]
        refine s_aload_n (pc2 := 1159) w dL_law_1158 rfl rfl ?_
        refine r_X11_thrown (pc2 := 1162) w dL_law_1159 rfl hc3 rfl ?_
        rw [d2.2.1]
        refine s_iload (pc2 := 1164) w dL_law_1162 rfl rfl ?_
        refine s_ic_eq (pc2 := 1167) (tgt := 1169) w dL_law_1164 rfl (by decide) (fun _ => ?_) (fun h0 => absurd (rfl) h0)
        refine s_iload (pc2 := 1171) w dL_law_1169 rfl rfl ?_
        refine s_if_ne (pc2 := 1174) (tgt := 1186) w dL_law_1171 rfl (by decide) (fun h0 => absurd (rfl) h0) (fun _ => ?_)
        refine s_aload_n (pc2 := 1175) w dL_law_1174 rfl rfl ?_
        refine s_iconst (pc2 := 1176) (v := 0) w dL_law_1175 rfl rfl ?_
        refine m_laloadN (pc2 := 1177) (t := 0) (N := 1) w dL_law_1176 rfl rfl rfl rfl (by decide) rfl ?_
        rw [(d2.2.2.2 200 0 (by decide)).trans (gk_uy_in _ _ _ _)]
        refine s_iload (pc2 := 1179) w dL_law_1177 rfl rfl ?_
        refine s_i2l (pc2 := 1180) w dL_law_1179 rfl ?_
        refine s_lcmp (pc2 := 1181) w dL_law_1180 rfl ?_
        refine s_if_eq (pc2 := 1184) (tgt := 1186) w dL_law_1181 rfl (by decide) (fun _ => ?_) (fun h0 => absurd (lcm_self _) h0)
        refine s_goto (tgt := 3095) w dL_law_1186 (by decide) ?_
        exact kk _ _ _ _ _ _ (by omega) (LI.st sc hT b2 (uy_out (Or.inl rfl)) d2 hok)
      · intro d0 x3 y3 d1
        exact absurd b0 d0
      · intro d0 d1 x3 y3 d2
        exact absurd b1 d1
    · intro b0 x2 y2 b1
      have sc2 := sc.cx b1.2.1
      refine s_istore (pc2 := 1120) w dL_law_1118 rfl rfl ?_
      dsimp only [gk_s1, gk_s2, gk_cl]
      refine s_aload_n (pc2 := 1121) w dL_law_1120 rfl rfl ?_
      refine s_aload_n (pc2 := 1122) w dL_law_1121 rfl rfl ?_
      refine s_iload (pc2 := 1124) w dL_law_1122 rfl rfl ?_
      refine s_iconst (pc2 := 1125) (v := 1) w dL_law_1124 rfl rfl ?_
      refine s_iadd (pc2 := 1126) w dL_law_1125 rfl ?_
      refine g_ialoadS (pc2 := 1127) w dL_law_1126 rfl rfl h1 ?_
      rw [sc2 _, e1]
      refine s_aload_n (pc2 := 1128) w dL_law_1127 rfl rfl ?_
      refine s_iload (pc2 := 1130) w dL_law_1128 rfl rfl ?_
      refine s_iconst (pc2 := 1131) (v := 2) w dL_law_1130 rfl rfl ?_
      refine s_iadd (pc2 := 1132) w dL_law_1131 rfl ?_
      refine g_ialoadS (pc2 := 1133) w dL_law_1132 rfl rfl h2 ?_
      rw [sc2 _, e2]
      refine s_aload_n (pc2 := 1134) w dL_law_1133 rfl rfl ?_
      refine s_iload (pc2 := 1136) w dL_law_1134 rfl rfl ?_
      refine s_iconst (pc2 := 1137) (v := 3) w dL_law_1136 rfl rfl ?_
      refine s_iadd (pc2 := 1138) w dL_law_1137 rfl ?_
      refine g_ialoadS (pc2 := 1139) w dL_law_1138 rfl rfl h3 ?_
      rw [sc2 _, e3]
      refine s_aload_n (pc2 := 1140) w dL_law_1139 rfl rfl ?_
      refine s_iload (pc2 := 1142) w dL_law_1140 rfl rfl ?_
      refine s_iconst (pc2 := 1143) (v := 4) w dL_law_1142 rfl rfl ?_
      refine s_iadd (pc2 := 1144) w dL_law_1143 rfl ?_
      refine g_ialoadS (pc2 := 1145) w dL_law_1144 rfl rfl h4 ?_
      rw [sc2 _, e4]
      refine s_if_eq (pc2 := 1148) (tgt := 1152) w dL_law_1145 rfl (by decide) (fun _ => ?_) (fun h0 => absurd (c1106) h0)
      refine s_iconst (pc2 := 1153) (v := 0) w dL_law_1152 rfl rfl ?_
      refine r_X11_emissionTime (pc2 := 1156) (rf := false) w dL_law_1153 rfl hc2 rfl (hM.cx b1.2.1) hok rfl ?_ ?_ ?_
      · intro d0 d1 x3 y3 d2
        exact absurd d0 b0
      · intro d0 x3 y3 d1
        refine s_istore (pc2 := 1158) w dL_law_1156 rfl rfl ?_
        dsimp only [gk_s1, gk_s2, gk_cl]
        refine s_aload_n (pc2 := 1159) w dL_law_1158 rfl rfl ?_
        refine r_X11_thrown (pc2 := 1162) w dL_law_1159 rfl hc3 rfl ?_
        rw [d1.2.1]
        refine s_iload (pc2 := 1164) w dL_law_1162 rfl rfl ?_
        refine s_ic_eq (pc2 := 1167) (tgt := 1169) w dL_law_1164 rfl (by decide) (fun _ => ?_) (fun h0 => absurd (rfl) h0)
        refine s_iload (pc2 := 1171) w dL_law_1169 rfl rfl ?_
        refine s_if_ne (pc2 := 1174) (tgt := 1186) w dL_law_1171 rfl (by decide) (fun _ => ?_) (fun h0 => absurd h0 (by decide))
        refine s_goto (tgt := 3095) w dL_law_1186 (by decide) ?_
        exact kk _ _ _ _ _ _ (by omega) (LI.st sc hT b1 (fun _ _ _ _ => rfl) d1 hok)
      · intro d0 d1 x3 y3 d2
        exact absurd d0 b0
    · intro b0 b1 x2 y2 b2
      have sc2 := sc.cx b2.2.1
      refine s_istore (pc2 := 1120) w dL_law_1118 rfl rfl ?_
      dsimp only [gk_s1, gk_s2, gk_cl]
      refine s_aload_n (pc2 := 1121) w dL_law_1120 rfl rfl ?_
      refine s_aload_n (pc2 := 1122) w dL_law_1121 rfl rfl ?_
      refine s_iload (pc2 := 1124) w dL_law_1122 rfl rfl ?_
      refine s_iconst (pc2 := 1125) (v := 1) w dL_law_1124 rfl rfl ?_
      refine s_iadd (pc2 := 1126) w dL_law_1125 rfl ?_
      refine g_ialoadS (pc2 := 1127) w dL_law_1126 rfl rfl h1 ?_
      rw [sc2 _, e1]
      refine s_aload_n (pc2 := 1128) w dL_law_1127 rfl rfl ?_
      refine s_iload (pc2 := 1130) w dL_law_1128 rfl rfl ?_
      refine s_iconst (pc2 := 1131) (v := 2) w dL_law_1130 rfl rfl ?_
      refine s_iadd (pc2 := 1132) w dL_law_1131 rfl ?_
      refine g_ialoadS (pc2 := 1133) w dL_law_1132 rfl rfl h2 ?_
      rw [sc2 _, e2]
      refine s_aload_n (pc2 := 1134) w dL_law_1133 rfl rfl ?_
      refine s_iload (pc2 := 1136) w dL_law_1134 rfl rfl ?_
      refine s_iconst (pc2 := 1137) (v := 3) w dL_law_1136 rfl rfl ?_
      refine s_iadd (pc2 := 1138) w dL_law_1137 rfl ?_
      refine g_ialoadS (pc2 := 1139) w dL_law_1138 rfl rfl h3 ?_
      rw [sc2 _, e3]
      refine s_aload_n (pc2 := 1140) w dL_law_1139 rfl rfl ?_
      refine s_iload (pc2 := 1142) w dL_law_1140 rfl rfl ?_
      refine s_iconst (pc2 := 1143) (v := 4) w dL_law_1142 rfl rfl ?_
      refine s_iadd (pc2 := 1144) w dL_law_1143 rfl ?_
      refine g_ialoadS (pc2 := 1145) w dL_law_1144 rfl rfl h4 ?_
      rw [sc2 _, e4]
      refine s_if_eq (pc2 := 1148) (tgt := 1152) w dL_law_1145 rfl (by decide) (fun _ => ?_) (fun h0 => absurd (c1106) h0)
      refine s_iconst (pc2 := 1153) (v := 0) w dL_law_1152 rfl rfl ?_
      refine r_X11_emissionTime (pc2 := 1156) (rf := false) w dL_law_1153 rfl hc2 rfl (hM.cx b2.2.1) hok rfl ?_ ?_ ?_
      · intro d0 d1 x3 y3 d2
        exact absurd d1 b1
      · intro d0 x3 y3 d1
        exact absurd b0 d0
      · intro d0 d1 x3 y3 d2
        refine s_istore (pc2 := 1158) w dL_law_1156 rfl rfl ?_
        dsimp only [gk_s1, gk_s2, gk_cl]
        refine s_aload_n (pc2 := 1159) w dL_law_1158 rfl rfl ?_
        refine r_X11_thrown (pc2 := 1162) w dL_law_1159 rfl hc3 rfl ?_
        rw [d2.2.1]
        refine s_iload (pc2 := 1164) w dL_law_1162 rfl rfl ?_
        refine s_ic_eq (pc2 := 1167) (tgt := 1169) w dL_law_1164 rfl (by decide) (fun _ => ?_) (fun h0 => absurd (rfl) h0)
        refine s_iload (pc2 := 1171) w dL_law_1169 rfl rfl ?_
        refine s_if_ne (pc2 := 1174) (tgt := 1186) w dL_law_1171 rfl (by decide) (fun _ => ?_) (fun h0 => absurd h0 (by decide))
        refine s_goto (tgt := 3095) w dL_law_1186 (by decide) ?_
        exact kk _ _ _ _ _ _ (by omega) (LI.st sc hT b2 (fun _ _ _ _ => rfl) d2 hok)
  · refine s_iconst (pc2 := 1110) (v := 1) w dL_law_1109 rfl rfl ?_
    refine s_goto (tgt := 1114) w dL_law_1110 (by decide) ?_
    refine s_aload_n (pc2 := 1115) w dL_law_1114 rfl rfl ?_
    refine r_L_emissionTime (pc2 := 1118) (rf := true) w dL_law_1115 rfl hc1 rfl (by omega) hR hok rfl ?_ ?_ ?_
    · intro b0 b1 x2 y2 b2
      have sc2 := sc.cx b2.2.1
      refine s_istore (pc2 := 1120) w dL_law_1118 rfl rfl ?_
      dsimp only [gk_s1, gk_s2, gk_cl]
      refine s_aload_n (pc2 := 1121) w dL_law_1120 rfl rfl ?_
      refine s_aload_n (pc2 := 1122) w dL_law_1121 rfl rfl ?_
      refine s_iload (pc2 := 1124) w dL_law_1122 rfl rfl ?_
      refine s_iconst (pc2 := 1125) (v := 1) w dL_law_1124 rfl rfl ?_
      refine s_iadd (pc2 := 1126) w dL_law_1125 rfl ?_
      refine g_ialoadS (pc2 := 1127) w dL_law_1126 rfl rfl h1 ?_
      rw [sc2 _, e1]
      refine s_aload_n (pc2 := 1128) w dL_law_1127 rfl rfl ?_
      refine s_iload (pc2 := 1130) w dL_law_1128 rfl rfl ?_
      refine s_iconst (pc2 := 1131) (v := 2) w dL_law_1130 rfl rfl ?_
      refine s_iadd (pc2 := 1132) w dL_law_1131 rfl ?_
      refine g_ialoadS (pc2 := 1133) w dL_law_1132 rfl rfl h2 ?_
      rw [sc2 _, e2]
      refine s_aload_n (pc2 := 1134) w dL_law_1133 rfl rfl ?_
      refine s_iload (pc2 := 1136) w dL_law_1134 rfl rfl ?_
      refine s_iconst (pc2 := 1137) (v := 3) w dL_law_1136 rfl rfl ?_
      refine s_iadd (pc2 := 1138) w dL_law_1137 rfl ?_
      refine g_ialoadS (pc2 := 1139) w dL_law_1138 rfl rfl h3 ?_
      rw [sc2 _, e3]
      refine s_aload_n (pc2 := 1140) w dL_law_1139 rfl rfl ?_
      refine s_iload (pc2 := 1142) w dL_law_1140 rfl rfl ?_
      refine s_iconst (pc2 := 1143) (v := 4) w dL_law_1142 rfl rfl ?_
      refine s_iadd (pc2 := 1144) w dL_law_1143 rfl ?_
      refine g_ialoadS (pc2 := 1145) w dL_law_1144 rfl rfl h4 ?_
      rw [sc2 _, e4]
      refine s_if_eq (pc2 := 1148) (tgt := 1152) w dL_law_1145 rfl (by decide) (fun h0 => absurd h0 (c1106)) (fun _ => ?_)
      refine s_iconst (pc2 := 1149) (v := 1) w dL_law_1148 rfl rfl ?_
      refine s_goto (tgt := 1153) w dL_law_1149 (by decide) ?_
      refine r_X11_emissionTime (pc2 := 1156) (rf := true) w dL_law_1153 rfl hc2 rfl (hM.cx b2.2.1) hok rfl ?_ ?_ ?_
      · intro d0 d1 x3 y3 d2
        refine s_istore (pc2 := 1158) w dL_law_1156 rfl rfl ?_
        dsimp only [gk_s1, gk_s2, gk_cl]
        refine s_aload_n (pc2 := 1159) w dL_law_1158 rfl rfl ?_
        refine r_X11_thrown (pc2 := 1162) w dL_law_1159 rfl hc3 rfl ?_
        rw [d2.2.1]
        refine s_iload (pc2 := 1164) w dL_law_1162 rfl rfl ?_
        refine s_ic_eq (pc2 := 1167) (tgt := 1169) w dL_law_1164 rfl (by decide) (fun _ => ?_) (fun h0 => absurd (rfl) h0)
        refine s_iload (pc2 := 1171) w dL_law_1169 rfl rfl ?_
        refine s_if_ne (pc2 := 1174) (tgt := 1186) w dL_law_1171 rfl (by decide) (fun h0 => absurd (rfl) h0) (fun _ => ?_)
        refine s_aload_n (pc2 := 1175) w dL_law_1174 rfl rfl ?_
        refine s_iconst (pc2 := 1176) (v := 0) w dL_law_1175 rfl rfl ?_
        refine m_laloadN (pc2 := 1177) (t := 0) (N := 1) w dL_law_1176 rfl rfl rfl rfl (by decide) rfl ?_
        rw [(d2.2.2.2 200 0 (by decide)).trans (gk_uy_in _ _ _ _)]
        refine s_iload (pc2 := 1179) w dL_law_1177 rfl rfl ?_
        refine s_i2l (pc2 := 1180) w dL_law_1179 rfl ?_
        refine s_lcmp (pc2 := 1181) w dL_law_1180 rfl ?_
        refine s_if_eq (pc2 := 1184) (tgt := 1186) w dL_law_1181 rfl (by decide) (fun _ => ?_) (fun h0 => absurd (lcm_self _) h0)
        refine s_goto (tgt := 3095) w dL_law_1186 (by decide) ?_
        exact kk _ _ _ _ _ _ (by omega) (LI.st sc hT b2 (uy_out (Or.inl rfl)) d2 hok)
      · intro d0 x3 y3 d1
        exact absurd b0 d0
      · intro d0 d1 x3 y3 d2
        exact absurd b1 d1
    · intro b0 x2 y2 b1
      have sc2 := sc.cx b1.2.1
      refine s_istore (pc2 := 1120) w dL_law_1118 rfl rfl ?_
      dsimp only [gk_s1, gk_s2, gk_cl]
      refine s_aload_n (pc2 := 1121) w dL_law_1120 rfl rfl ?_
      refine s_aload_n (pc2 := 1122) w dL_law_1121 rfl rfl ?_
      refine s_iload (pc2 := 1124) w dL_law_1122 rfl rfl ?_
      refine s_iconst (pc2 := 1125) (v := 1) w dL_law_1124 rfl rfl ?_
      refine s_iadd (pc2 := 1126) w dL_law_1125 rfl ?_
      refine g_ialoadS (pc2 := 1127) w dL_law_1126 rfl rfl h1 ?_
      rw [sc2 _, e1]
      refine s_aload_n (pc2 := 1128) w dL_law_1127 rfl rfl ?_
      refine s_iload (pc2 := 1130) w dL_law_1128 rfl rfl ?_
      refine s_iconst (pc2 := 1131) (v := 2) w dL_law_1130 rfl rfl ?_
      refine s_iadd (pc2 := 1132) w dL_law_1131 rfl ?_
      refine g_ialoadS (pc2 := 1133) w dL_law_1132 rfl rfl h2 ?_
      rw [sc2 _, e2]
      refine s_aload_n (pc2 := 1134) w dL_law_1133 rfl rfl ?_
      refine s_iload (pc2 := 1136) w dL_law_1134 rfl rfl ?_
      refine s_iconst (pc2 := 1137) (v := 3) w dL_law_1136 rfl rfl ?_
      refine s_iadd (pc2 := 1138) w dL_law_1137 rfl ?_
      refine g_ialoadS (pc2 := 1139) w dL_law_1138 rfl rfl h3 ?_
      rw [sc2 _, e3]
      refine s_aload_n (pc2 := 1140) w dL_law_1139 rfl rfl ?_
      refine s_iload (pc2 := 1142) w dL_law_1140 rfl rfl ?_
      refine s_iconst (pc2 := 1143) (v := 4) w dL_law_1142 rfl rfl ?_
      refine s_iadd (pc2 := 1144) w dL_law_1143 rfl ?_
      refine g_ialoadS (pc2 := 1145) w dL_law_1144 rfl rfl h4 ?_
      rw [sc2 _, e4]
      refine s_if_eq (pc2 := 1148) (tgt := 1152) w dL_law_1145 rfl (by decide) (fun h0 => absurd h0 (c1106)) (fun _ => ?_)
      refine s_iconst (pc2 := 1149) (v := 1) w dL_law_1148 rfl rfl ?_
      refine s_goto (tgt := 1153) w dL_law_1149 (by decide) ?_
      refine r_X11_emissionTime (pc2 := 1156) (rf := true) w dL_law_1153 rfl hc2 rfl (hM.cx b1.2.1) hok rfl ?_ ?_ ?_
      · intro d0 d1 x3 y3 d2
        exact absurd d0 b0
      · intro d0 x3 y3 d1
        refine s_istore (pc2 := 1158) w dL_law_1156 rfl rfl ?_
        dsimp only [gk_s1, gk_s2, gk_cl]
        refine s_aload_n (pc2 := 1159) w dL_law_1158 rfl rfl ?_
        refine r_X11_thrown (pc2 := 1162) w dL_law_1159 rfl hc3 rfl ?_
        rw [d1.2.1]
        refine s_iload (pc2 := 1164) w dL_law_1162 rfl rfl ?_
        refine s_ic_eq (pc2 := 1167) (tgt := 1169) w dL_law_1164 rfl (by decide) (fun _ => ?_) (fun h0 => absurd (rfl) h0)
        refine s_iload (pc2 := 1171) w dL_law_1169 rfl rfl ?_
        refine s_if_ne (pc2 := 1174) (tgt := 1186) w dL_law_1171 rfl (by decide) (fun _ => ?_) (fun h0 => absurd h0 (by decide))
        refine s_goto (tgt := 3095) w dL_law_1186 (by decide) ?_
        exact kk _ _ _ _ _ _ (by omega) (LI.st sc hT b1 (fun _ _ _ _ => rfl) d1 hok)
      · intro d0 d1 x3 y3 d2
        exact absurd d0 b0
    · intro b0 b1 x2 y2 b2
      have sc2 := sc.cx b2.2.1
      refine s_istore (pc2 := 1120) w dL_law_1118 rfl rfl ?_
      dsimp only [gk_s1, gk_s2, gk_cl]
      refine s_aload_n (pc2 := 1121) w dL_law_1120 rfl rfl ?_
      refine s_aload_n (pc2 := 1122) w dL_law_1121 rfl rfl ?_
      refine s_iload (pc2 := 1124) w dL_law_1122 rfl rfl ?_
      refine s_iconst (pc2 := 1125) (v := 1) w dL_law_1124 rfl rfl ?_
      refine s_iadd (pc2 := 1126) w dL_law_1125 rfl ?_
      refine g_ialoadS (pc2 := 1127) w dL_law_1126 rfl rfl h1 ?_
      rw [sc2 _, e1]
      refine s_aload_n (pc2 := 1128) w dL_law_1127 rfl rfl ?_
      refine s_iload (pc2 := 1130) w dL_law_1128 rfl rfl ?_
      refine s_iconst (pc2 := 1131) (v := 2) w dL_law_1130 rfl rfl ?_
      refine s_iadd (pc2 := 1132) w dL_law_1131 rfl ?_
      refine g_ialoadS (pc2 := 1133) w dL_law_1132 rfl rfl h2 ?_
      rw [sc2 _, e2]
      refine s_aload_n (pc2 := 1134) w dL_law_1133 rfl rfl ?_
      refine s_iload (pc2 := 1136) w dL_law_1134 rfl rfl ?_
      refine s_iconst (pc2 := 1137) (v := 3) w dL_law_1136 rfl rfl ?_
      refine s_iadd (pc2 := 1138) w dL_law_1137 rfl ?_
      refine g_ialoadS (pc2 := 1139) w dL_law_1138 rfl rfl h3 ?_
      rw [sc2 _, e3]
      refine s_aload_n (pc2 := 1140) w dL_law_1139 rfl rfl ?_
      refine s_iload (pc2 := 1142) w dL_law_1140 rfl rfl ?_
      refine s_iconst (pc2 := 1143) (v := 4) w dL_law_1142 rfl rfl ?_
      refine s_iadd (pc2 := 1144) w dL_law_1143 rfl ?_
      refine g_ialoadS (pc2 := 1145) w dL_law_1144 rfl rfl h4 ?_
      rw [sc2 _, e4]
      refine s_if_eq (pc2 := 1148) (tgt := 1152) w dL_law_1145 rfl (by decide) (fun h0 => absurd h0 (c1106)) (fun _ => ?_)
      refine s_iconst (pc2 := 1149) (v := 1) w dL_law_1148 rfl rfl ?_
      refine s_goto (tgt := 1153) w dL_law_1149 (by decide) ?_
      refine r_X11_emissionTime (pc2 := 1156) (rf := true) w dL_law_1153 rfl hc2 rfl (hM.cx b2.2.1) hok rfl ?_ ?_ ?_
      · intro d0 d1 x3 y3 d2
        exact absurd d1 b1
      · intro d0 x3 y3 d1
        exact absurd b0 d0
      · intro d0 d1 x3 y3 d2
        refine s_istore (pc2 := 1158) w dL_law_1156 rfl rfl ?_
        dsimp only [gk_s1, gk_s2, gk_cl]
        refine s_aload_n (pc2 := 1159) w dL_law_1158 rfl rfl ?_
        refine r_X11_thrown (pc2 := 1162) w dL_law_1159 rfl hc3 rfl ?_
        rw [d2.2.1]
        refine s_iload (pc2 := 1164) w dL_law_1162 rfl rfl ?_
        refine s_ic_eq (pc2 := 1167) (tgt := 1169) w dL_law_1164 rfl (by decide) (fun _ => ?_) (fun h0 => absurd (rfl) h0)
        refine s_iload (pc2 := 1171) w dL_law_1169 rfl rfl ?_
        refine s_if_ne (pc2 := 1174) (tgt := 1186) w dL_law_1171 rfl (by decide) (fun _ => ?_) (fun h0 => absurd h0 (by decide))
        refine s_goto (tgt := 3095) w dL_law_1186 (by decide) ?_
        exact kk _ _ _ _ _ _ (by omega) (LI.st sc hT b2 (fun _ _ _ _ => rfl) d2 hok)

theorem lc_13 (w : gk_W cL_law pL cs (fun _ _ => none) rt uf (some Ls) K V) (hc1 : cs 200 = some (0, 0, 4, 2, S_L_passTime)) (hc2 : cs 202 = some (1, 10, 3, 0, S_X11_passTime)) (hc3 : cs 152 = some (1, 10, 1, 0, S_X11_thrown)) {a1 a2 : Int32} (h1 : vp_in (i + 1) Ls) (e1 : sv (i + 1).toNatClampNeg = a1) (h2 : vp_in (i + 2) Ls) (e2 : sv (i + 2).toNatClampNeg = a2) (hu : u + 6 ≤ uf) (hI : LI sv x y) (kk : ∀ (x2 : gk_X) (y2 : gk_Y) (q6 q7 q8 : Option Value) (u2 : Nat), u2 ≤ u + 6 → LI sv x2 y2 → V 3095 [some (.ref 5000), some (.ref 0), some (.ref 189), some (.ref 200), some (.ref 201), some (.int i), q6, q7, q8] [] 202 gk_fT x2 y2 u2) : V 1189 [some (.ref 5000), some (.ref 0), some (.ref 189), some (.ref 200), some (.ref 201), some (.int i), q6, q7, q8] [] 202 gk_fT x y u := by
  obtain ⟨sc, hT, g, hM, hR, hok⟩ := hI
  refine s_aload_n (pc2 := 1190) w dL_law_1189 rfl rfl ?_
  refine s_aload_n (pc2 := 1191) w dL_law_1190 rfl rfl ?_
  refine s_iload (pc2 := 1193) w dL_law_1191 rfl rfl ?_
  refine s_iconst (pc2 := 1194) (v := 1) w dL_law_1193 rfl rfl ?_
  refine s_iadd (pc2 := 1195) w dL_law_1194 rfl ?_
  refine g_ialoadS (pc2 := 1196) w dL_law_1195 rfl rfl h1 ?_
  rw [sc _, e1]
  refine s_aload_n (pc2 := 1197) w dL_law_1196 rfl rfl ?_
  refine s_iload (pc2 := 1199) w dL_law_1197 rfl rfl ?_
  refine s_iconst (pc2 := 1200) (v := 2) w dL_law_1199 rfl rfl ?_
  refine s_iadd (pc2 := 1201) w dL_law_1200 rfl ?_
  refine g_ialoadS (pc2 := 1202) w dL_law_1201 rfl rfl h2 ?_
  rw [sc _, e2]
  refine s_aload_n (pc2 := 1203) w dL_law_1202 rfl rfl ?_
  refine r_L_passTime (pc2 := 1206) w dL_law_1203 rfl hc1 rfl (by omega) hR hok ?_ ?_
  · intro b0 x2 y2 b1
    have sc2 := sc.cx b1.2.1
    refine s_istore (pc2 := 1208) w dL_law_1206 rfl rfl ?_
    dsimp only [gk_s1, gk_s2, gk_cl]
    refine s_aload_n (pc2 := 1209) w dL_law_1208 rfl rfl ?_
    refine s_aload_n (pc2 := 1210) w dL_law_1209 rfl rfl ?_
    refine s_iload (pc2 := 1212) w dL_law_1210 rfl rfl ?_
    refine s_iconst (pc2 := 1213) (v := 1) w dL_law_1212 rfl rfl ?_
    refine s_iadd (pc2 := 1214) w dL_law_1213 rfl ?_
    refine g_ialoadS (pc2 := 1215) w dL_law_1214 rfl rfl h1 ?_
    rw [sc2 _, e1]
    refine s_aload_n (pc2 := 1216) w dL_law_1215 rfl rfl ?_
    refine s_iload (pc2 := 1218) w dL_law_1216 rfl rfl ?_
    refine s_iconst (pc2 := 1219) (v := 2) w dL_law_1218 rfl rfl ?_
    refine s_iadd (pc2 := 1220) w dL_law_1219 rfl ?_
    refine g_ialoadS (pc2 := 1221) w dL_law_1220 rfl rfl h2 ?_
    rw [sc2 _, e2]
    refine r_X11_passTime (pc2 := 1224) w dL_law_1221 rfl hc2 rfl (hM.cx b1.2.1) hok ?_ ?_
    · intro d0 x3 y3 d1
      refine s_istore (pc2 := 1226) w dL_law_1224 rfl rfl ?_
      dsimp only [gk_s1, gk_s2, gk_cl]
      refine s_aload_n (pc2 := 1227) w dL_law_1226 rfl rfl ?_
      refine r_X11_thrown (pc2 := 1230) w dL_law_1227 rfl hc3 rfl ?_
      rw [d1.2.1]
      refine s_iload (pc2 := 1232) w dL_law_1230 rfl rfl ?_
      refine s_ic_eq (pc2 := 1235) (tgt := 1237) w dL_law_1232 rfl (by decide) (fun _ => ?_) (fun h0 => absurd (rfl) h0)
      refine s_iload (pc2 := 1239) w dL_law_1237 rfl rfl ?_
      refine s_if_ne (pc2 := 1242) (tgt := 1254) w dL_law_1239 rfl (by decide) (fun h0 => absurd (rfl) h0) (fun _ => ?_)
      refine s_aload_n (pc2 := 1243) w dL_law_1242 rfl rfl ?_
      refine s_iconst (pc2 := 1244) (v := 0) w dL_law_1243 rfl rfl ?_
      refine m_laloadN (pc2 := 1245) (t := 0) (N := 1) w dL_law_1244 rfl rfl rfl rfl (by decide) rfl ?_
      rw [(d1.2.2.2 200 0 (by decide)).trans (gk_uy_in _ _ _ _)]
      refine s_iload (pc2 := 1247) w dL_law_1245 rfl rfl ?_
      refine s_i2l (pc2 := 1248) w dL_law_1247 rfl ?_
      refine s_lcmp (pc2 := 1249) w dL_law_1248 rfl ?_
      refine s_if_eq (pc2 := 1252) (tgt := 1254) w dL_law_1249 rfl (by decide) (fun _ => ?_) (fun h0 => absurd (lcm_self _) h0)
      refine s_goto (tgt := 3095) w dL_law_1254 (by decide) ?_
      exact kk _ _ _ _ _ _ (by omega) (LI.st sc hT b1 (uy_out (Or.inl rfl)) d1 hok)
    · intro d0 x3 y3 d1
      exact absurd b0 d0
  · intro b0 x2 y2 b1
    have sc2 := sc.cx b1.2.1
    refine s_istore (pc2 := 1208) w dL_law_1206 rfl rfl ?_
    dsimp only [gk_s1, gk_s2, gk_cl]
    refine s_aload_n (pc2 := 1209) w dL_law_1208 rfl rfl ?_
    refine s_aload_n (pc2 := 1210) w dL_law_1209 rfl rfl ?_
    refine s_iload (pc2 := 1212) w dL_law_1210 rfl rfl ?_
    refine s_iconst (pc2 := 1213) (v := 1) w dL_law_1212 rfl rfl ?_
    refine s_iadd (pc2 := 1214) w dL_law_1213 rfl ?_
    refine g_ialoadS (pc2 := 1215) w dL_law_1214 rfl rfl h1 ?_
    rw [sc2 _, e1]
    refine s_aload_n (pc2 := 1216) w dL_law_1215 rfl rfl ?_
    refine s_iload (pc2 := 1218) w dL_law_1216 rfl rfl ?_
    refine s_iconst (pc2 := 1219) (v := 2) w dL_law_1218 rfl rfl ?_
    refine s_iadd (pc2 := 1220) w dL_law_1219 rfl ?_
    refine g_ialoadS (pc2 := 1221) w dL_law_1220 rfl rfl h2 ?_
    rw [sc2 _, e2]
    refine r_X11_passTime (pc2 := 1224) w dL_law_1221 rfl hc2 rfl (hM.cx b1.2.1) hok ?_ ?_
    · intro d0 x3 y3 d1
      exact absurd d0 b0
    · intro d0 x3 y3 d1
      refine s_istore (pc2 := 1226) w dL_law_1224 rfl rfl ?_
      dsimp only [gk_s1, gk_s2, gk_cl]
      refine s_aload_n (pc2 := 1227) w dL_law_1226 rfl rfl ?_
      refine r_X11_thrown (pc2 := 1230) w dL_law_1227 rfl hc3 rfl ?_
      rw [d1.2.1]
      refine s_iload (pc2 := 1232) w dL_law_1230 rfl rfl ?_
      refine s_ic_eq (pc2 := 1235) (tgt := 1237) w dL_law_1232 rfl (by decide) (fun _ => ?_) (fun h0 => absurd (rfl) h0)
      refine s_iload (pc2 := 1239) w dL_law_1237 rfl rfl ?_
      refine s_if_ne (pc2 := 1242) (tgt := 1254) w dL_law_1239 rfl (by decide) (fun _ => ?_) (fun h0 => absurd h0 (by decide))
      refine s_goto (tgt := 3095) w dL_law_1254 (by decide) ?_
      exact kk _ _ _ _ _ _ (by omega) (LI.st sc hT b1 (fun _ _ _ _ => rfl) d1 hok)

theorem lc_15 (w : gk_W cL_law pL cs (fun _ _ => none) rt uf (some Ls) K V) (hc1 : cs 207 = some (0, 0, 4, 2, S_L_sample)) (hc2 : cs 209 = some (1, 10, 3, 0, S_X11_sample)) (hc3 : cs 152 = some (1, 10, 1, 0, S_X11_thrown)) {a1 a2 : Int32} (h1 : vp_in (i + 1) Ls) (e1 : sv (i + 1).toNatClampNeg = a1) (h2 : vp_in (i + 2) Ls) (e2 : sv (i + 2).toNatClampNeg = a2) (hu : u + 6 ≤ uf) (hI : LI sv x y) (kk : ∀ (x2 : gk_X) (y2 : gk_Y) (q6 q7 q8 : Option Value) (u2 : Nat), u2 ≤ u + 6 → LI sv x2 y2 → V 3095 [some (.ref 5000), some (.ref 0), some (.ref 189), some (.ref 200), some (.ref 201), some (.int i), q6, q7, q8] [] 202 gk_fT x2 y2 u2) : V 1270 [some (.ref 5000), some (.ref 0), some (.ref 189), some (.ref 200), some (.ref 201), some (.int i), q6, q7, q8] [] 202 gk_fT x y u := by
  obtain ⟨sc, hT, g, hM, hR, hok⟩ := hI
  refine s_aload_n (pc2 := 1271) w dL_law_1270 rfl rfl ?_
  refine s_aload_n (pc2 := 1272) w dL_law_1271 rfl rfl ?_
  refine s_iload (pc2 := 1274) w dL_law_1272 rfl rfl ?_
  refine s_iconst (pc2 := 1275) (v := 1) w dL_law_1274 rfl rfl ?_
  refine s_iadd (pc2 := 1276) w dL_law_1275 rfl ?_
  refine g_ialoadS (pc2 := 1277) w dL_law_1276 rfl rfl h1 ?_
  rw [sc _, e1]
  refine s_aload_n (pc2 := 1278) w dL_law_1277 rfl rfl ?_
  refine s_iload (pc2 := 1280) w dL_law_1278 rfl rfl ?_
  refine s_iconst (pc2 := 1281) (v := 2) w dL_law_1280 rfl rfl ?_
  refine s_iadd (pc2 := 1282) w dL_law_1281 rfl ?_
  refine g_ialoadS (pc2 := 1283) w dL_law_1282 rfl rfl h2 ?_
  rw [sc _, e2]
  refine s_aload_n (pc2 := 1284) w dL_law_1283 rfl rfl ?_
  refine r_L_sample (pc2 := 1287) w dL_law_1284 rfl hc1 rfl (by omega) hR hok ?_ ?_ ?_
  · intro b0 b1 x2 y2 b2
    have sc2 := sc.cx b2.2.1
    refine s_istore (pc2 := 1289) w dL_law_1287 rfl rfl ?_
    dsimp only [gk_s1, gk_s2, gk_cl]
    refine s_aload_n (pc2 := 1290) w dL_law_1289 rfl rfl ?_
    refine s_aload_n (pc2 := 1291) w dL_law_1290 rfl rfl ?_
    refine s_iload (pc2 := 1293) w dL_law_1291 rfl rfl ?_
    refine s_iconst (pc2 := 1294) (v := 1) w dL_law_1293 rfl rfl ?_
    refine s_iadd (pc2 := 1295) w dL_law_1294 rfl ?_
    refine g_ialoadS (pc2 := 1296) w dL_law_1295 rfl rfl h1 ?_
    rw [sc2 _, e1]
    refine s_aload_n (pc2 := 1297) w dL_law_1296 rfl rfl ?_
    refine s_iload (pc2 := 1299) w dL_law_1297 rfl rfl ?_
    refine s_iconst (pc2 := 1300) (v := 2) w dL_law_1299 rfl rfl ?_
    refine s_iadd (pc2 := 1301) w dL_law_1300 rfl ?_
    refine g_ialoadS (pc2 := 1302) w dL_law_1301 rfl rfl h2 ?_
    rw [sc2 _, e2]
    refine r_X11_sample (pc2 := 1305) w dL_law_1302 rfl hc2 rfl (hM.cx b2.2.1) hok ?_ ?_ ?_
    · intro d0 d1 x3 y3 d2
      refine s_istore (pc2 := 1307) w dL_law_1305 rfl rfl ?_
      dsimp only [gk_s1, gk_s2, gk_cl]
      refine s_aload_n (pc2 := 1308) w dL_law_1307 rfl rfl ?_
      refine r_X11_thrown (pc2 := 1311) w dL_law_1308 rfl hc3 rfl ?_
      rw [d2.2.1]
      refine s_iload (pc2 := 1313) w dL_law_1311 rfl rfl ?_
      refine s_ic_eq (pc2 := 1316) (tgt := 1318) w dL_law_1313 rfl (by decide) (fun _ => ?_) (fun h0 => absurd (rfl) h0)
      refine s_iload (pc2 := 1320) w dL_law_1318 rfl rfl ?_
      refine s_if_ne (pc2 := 1323) (tgt := 1335) w dL_law_1320 rfl (by decide) (fun h0 => absurd (rfl) h0) (fun _ => ?_)
      refine s_aload_n (pc2 := 1324) w dL_law_1323 rfl rfl ?_
      refine s_iconst (pc2 := 1325) (v := 0) w dL_law_1324 rfl rfl ?_
      refine m_laloadN (pc2 := 1326) (t := 0) (N := 1) w dL_law_1325 rfl rfl rfl rfl (by decide) rfl ?_
      rw [(d2.2.2.2 200 0 (by decide)).trans (gk_uy_in _ _ _ _)]
      refine s_iload (pc2 := 1328) w dL_law_1326 rfl rfl ?_
      refine s_i2l (pc2 := 1329) w dL_law_1328 rfl ?_
      refine s_lcmp (pc2 := 1330) w dL_law_1329 rfl ?_
      refine s_if_eq (pc2 := 1333) (tgt := 1335) w dL_law_1330 rfl (by decide) (fun _ => ?_) (fun h0 => absurd (lcm_self _) h0)
      refine s_goto (tgt := 3095) w dL_law_1335 (by decide) ?_
      exact kk _ _ _ _ _ _ (by omega) (LI.st sc hT b2 (uy_out (Or.inl rfl)) d2 hok)
    · intro d0 x3 y3 d1
      exact absurd b0 d0
    · intro d0 d1 x3 y3 d2
      exact absurd b1 d1
  · intro b0 x2 y2 b1
    have sc2 := sc.cx b1.2.1
    refine s_istore (pc2 := 1289) w dL_law_1287 rfl rfl ?_
    dsimp only [gk_s1, gk_s2, gk_cl]
    refine s_aload_n (pc2 := 1290) w dL_law_1289 rfl rfl ?_
    refine s_aload_n (pc2 := 1291) w dL_law_1290 rfl rfl ?_
    refine s_iload (pc2 := 1293) w dL_law_1291 rfl rfl ?_
    refine s_iconst (pc2 := 1294) (v := 1) w dL_law_1293 rfl rfl ?_
    refine s_iadd (pc2 := 1295) w dL_law_1294 rfl ?_
    refine g_ialoadS (pc2 := 1296) w dL_law_1295 rfl rfl h1 ?_
    rw [sc2 _, e1]
    refine s_aload_n (pc2 := 1297) w dL_law_1296 rfl rfl ?_
    refine s_iload (pc2 := 1299) w dL_law_1297 rfl rfl ?_
    refine s_iconst (pc2 := 1300) (v := 2) w dL_law_1299 rfl rfl ?_
    refine s_iadd (pc2 := 1301) w dL_law_1300 rfl ?_
    refine g_ialoadS (pc2 := 1302) w dL_law_1301 rfl rfl h2 ?_
    rw [sc2 _, e2]
    refine r_X11_sample (pc2 := 1305) w dL_law_1302 rfl hc2 rfl (hM.cx b1.2.1) hok ?_ ?_ ?_
    · intro d0 d1 x3 y3 d2
      exact absurd d0 b0
    · intro d0 x3 y3 d1
      refine s_istore (pc2 := 1307) w dL_law_1305 rfl rfl ?_
      dsimp only [gk_s1, gk_s2, gk_cl]
      refine s_aload_n (pc2 := 1308) w dL_law_1307 rfl rfl ?_
      refine r_X11_thrown (pc2 := 1311) w dL_law_1308 rfl hc3 rfl ?_
      rw [d1.2.1]
      refine s_iload (pc2 := 1313) w dL_law_1311 rfl rfl ?_
      refine s_ic_eq (pc2 := 1316) (tgt := 1318) w dL_law_1313 rfl (by decide) (fun _ => ?_) (fun h0 => absurd (rfl) h0)
      refine s_iload (pc2 := 1320) w dL_law_1318 rfl rfl ?_
      refine s_if_ne (pc2 := 1323) (tgt := 1335) w dL_law_1320 rfl (by decide) (fun _ => ?_) (fun h0 => absurd h0 (by decide))
      refine s_goto (tgt := 3095) w dL_law_1335 (by decide) ?_
      exact kk _ _ _ _ _ _ (by omega) (LI.st sc hT b1 (fun _ _ _ _ => rfl) d1 hok)
    · intro d0 d1 x3 y3 d2
      exact absurd d0 b0
  · intro b0 b1 x2 y2 b2
    have sc2 := sc.cx b2.2.1
    refine s_istore (pc2 := 1289) w dL_law_1287 rfl rfl ?_
    dsimp only [gk_s1, gk_s2, gk_cl]
    refine s_aload_n (pc2 := 1290) w dL_law_1289 rfl rfl ?_
    refine s_aload_n (pc2 := 1291) w dL_law_1290 rfl rfl ?_
    refine s_iload (pc2 := 1293) w dL_law_1291 rfl rfl ?_
    refine s_iconst (pc2 := 1294) (v := 1) w dL_law_1293 rfl rfl ?_
    refine s_iadd (pc2 := 1295) w dL_law_1294 rfl ?_
    refine g_ialoadS (pc2 := 1296) w dL_law_1295 rfl rfl h1 ?_
    rw [sc2 _, e1]
    refine s_aload_n (pc2 := 1297) w dL_law_1296 rfl rfl ?_
    refine s_iload (pc2 := 1299) w dL_law_1297 rfl rfl ?_
    refine s_iconst (pc2 := 1300) (v := 2) w dL_law_1299 rfl rfl ?_
    refine s_iadd (pc2 := 1301) w dL_law_1300 rfl ?_
    refine g_ialoadS (pc2 := 1302) w dL_law_1301 rfl rfl h2 ?_
    rw [sc2 _, e2]
    refine r_X11_sample (pc2 := 1305) w dL_law_1302 rfl hc2 rfl (hM.cx b2.2.1) hok ?_ ?_ ?_
    · intro d0 d1 x3 y3 d2
      exact absurd d1 b1
    · intro d0 x3 y3 d1
      exact absurd b0 d0
    · intro d0 d1 x3 y3 d2
      refine s_istore (pc2 := 1307) w dL_law_1305 rfl rfl ?_
      dsimp only [gk_s1, gk_s2, gk_cl]
      refine s_aload_n (pc2 := 1308) w dL_law_1307 rfl rfl ?_
      refine r_X11_thrown (pc2 := 1311) w dL_law_1308 rfl hc3 rfl ?_
      rw [d2.2.1]
      refine s_iload (pc2 := 1313) w dL_law_1311 rfl rfl ?_
      refine s_ic_eq (pc2 := 1316) (tgt := 1318) w dL_law_1313 rfl (by decide) (fun _ => ?_) (fun h0 => absurd (rfl) h0)
      refine s_iload (pc2 := 1320) w dL_law_1318 rfl rfl ?_
      refine s_if_ne (pc2 := 1323) (tgt := 1335) w dL_law_1320 rfl (by decide) (fun _ => ?_) (fun h0 => absurd h0 (by decide))
      refine s_goto (tgt := 3095) w dL_law_1335 (by decide) ?_
      exact kk _ _ _ _ _ _ (by omega) (LI.st sc hT b2 (fun _ _ _ _ => rfl) d2 hok)

theorem lc_16 (w : gk_W cL_law pL cs (fun _ _ => none) rt uf (some Ls) K V) (hc1 : cs 210 = some (0, 0, 6, 4, S_L_measureRecord)) (hc2 : cs 212 = some (1, 10, 5, 0, S_X11_measureRecord)) (hc3 : cs 152 = some (1, 10, 1, 0, S_X11_thrown)) {a1 a2 a3 a4 : Int32} (h1 : vp_in (i + 1) Ls) (e1 : sv (i + 1).toNatClampNeg = a1) (h2 : vp_in (i + 2) Ls) (e2 : sv (i + 2).toNatClampNeg = a2) (h3 : vp_in (i + 3) Ls) (e3 : sv (i + 3).toNatClampNeg = a3) (h4 : vp_in (i + 4) Ls) (e4 : sv (i + 4).toNatClampNeg = a4) (hu : u + 6 ≤ uf) (hI : LI sv x y) (kk : ∀ (x2 : gk_X) (y2 : gk_Y) (q6 q7 q8 : Option Value) (u2 : Nat), u2 ≤ u + 6 → LI sv x2 y2 → V 3095 [some (.ref 5000), some (.ref 0), some (.ref 189), some (.ref 200), some (.ref 201), some (.int i), q6, q7, q8] [] 202 gk_fT x2 y2 u2) : V 1338 [some (.ref 5000), some (.ref 0), some (.ref 189), some (.ref 200), some (.ref 201), some (.int i), q6, q7, q8] [] 202 gk_fT x y u := by
  obtain ⟨sc, hT, g, hM, hR, hok⟩ := hI
  refine s_aload_n (pc2 := 1339) w dL_law_1338 rfl rfl ?_
  refine s_aload_n (pc2 := 1340) w dL_law_1339 rfl rfl ?_
  refine s_iload (pc2 := 1342) w dL_law_1340 rfl rfl ?_
  refine s_iconst (pc2 := 1343) (v := 1) w dL_law_1342 rfl rfl ?_
  refine s_iadd (pc2 := 1344) w dL_law_1343 rfl ?_
  refine g_ialoadS (pc2 := 1345) w dL_law_1344 rfl rfl h1 ?_
  rw [sc _, e1]
  refine s_aload_n (pc2 := 1346) w dL_law_1345 rfl rfl ?_
  refine s_iload (pc2 := 1348) w dL_law_1346 rfl rfl ?_
  refine s_iconst (pc2 := 1349) (v := 2) w dL_law_1348 rfl rfl ?_
  refine s_iadd (pc2 := 1350) w dL_law_1349 rfl ?_
  refine g_ialoadS (pc2 := 1351) w dL_law_1350 rfl rfl h2 ?_
  rw [sc _, e2]
  refine s_aload_n (pc2 := 1352) w dL_law_1351 rfl rfl ?_
  refine s_iload (pc2 := 1354) w dL_law_1352 rfl rfl ?_
  refine s_iconst (pc2 := 1355) (v := 3) w dL_law_1354 rfl rfl ?_
  refine s_iadd (pc2 := 1356) w dL_law_1355 rfl ?_
  refine g_ialoadS (pc2 := 1357) w dL_law_1356 rfl rfl h3 ?_
  rw [sc _, e3]
  refine s_aload_n (pc2 := 1358) w dL_law_1357 rfl rfl ?_
  refine s_iload (pc2 := 1360) w dL_law_1358 rfl rfl ?_
  refine s_iconst (pc2 := 1361) (v := 4) w dL_law_1360 rfl rfl ?_
  refine s_iadd (pc2 := 1362) w dL_law_1361 rfl ?_
  refine g_ialoadS (pc2 := 1363) w dL_law_1362 rfl rfl h4 ?_
  rw [sc _, e4]
  refine s_aload_n (pc2 := 1364) w dL_law_1363 rfl rfl ?_
  refine r_L_measureRecord (pc2 := 1367) w dL_law_1364 rfl hc1 rfl (by omega) hR hok ?_ ?_ ?_
  · intro b0 b1 x2 y2 b2
    have sc2 := sc.cx b2.2.1
    refine s_istore (pc2 := 1369) w dL_law_1367 rfl rfl ?_
    dsimp only [gk_s1, gk_s2, gk_cl]
    refine s_aload_n (pc2 := 1370) w dL_law_1369 rfl rfl ?_
    refine s_aload_n (pc2 := 1371) w dL_law_1370 rfl rfl ?_
    refine s_iload (pc2 := 1373) w dL_law_1371 rfl rfl ?_
    refine s_iconst (pc2 := 1374) (v := 1) w dL_law_1373 rfl rfl ?_
    refine s_iadd (pc2 := 1375) w dL_law_1374 rfl ?_
    refine g_ialoadS (pc2 := 1376) w dL_law_1375 rfl rfl h1 ?_
    rw [sc2 _, e1]
    refine s_aload_n (pc2 := 1377) w dL_law_1376 rfl rfl ?_
    refine s_iload (pc2 := 1379) w dL_law_1377 rfl rfl ?_
    refine s_iconst (pc2 := 1380) (v := 2) w dL_law_1379 rfl rfl ?_
    refine s_iadd (pc2 := 1381) w dL_law_1380 rfl ?_
    refine g_ialoadS (pc2 := 1382) w dL_law_1381 rfl rfl h2 ?_
    rw [sc2 _, e2]
    refine s_aload_n (pc2 := 1383) w dL_law_1382 rfl rfl ?_
    refine s_iload (pc2 := 1385) w dL_law_1383 rfl rfl ?_
    refine s_iconst (pc2 := 1386) (v := 3) w dL_law_1385 rfl rfl ?_
    refine s_iadd (pc2 := 1387) w dL_law_1386 rfl ?_
    refine g_ialoadS (pc2 := 1388) w dL_law_1387 rfl rfl h3 ?_
    rw [sc2 _, e3]
    refine s_aload_n (pc2 := 1389) w dL_law_1388 rfl rfl ?_
    refine s_iload (pc2 := 1391) w dL_law_1389 rfl rfl ?_
    refine s_iconst (pc2 := 1392) (v := 4) w dL_law_1391 rfl rfl ?_
    refine s_iadd (pc2 := 1393) w dL_law_1392 rfl ?_
    refine g_ialoadS (pc2 := 1394) w dL_law_1393 rfl rfl h4 ?_
    rw [sc2 _, e4]
    refine r_X11_measureRecord (pc2 := 1397) w dL_law_1394 rfl hc2 rfl (hM.cx b2.2.1) hok ?_ ?_ ?_
    · intro d0 d1 x3 y3 d2
      refine s_lstore (pc2 := 1399) w dL_law_1397 rfl rfl ?_
      dsimp only [gk_s1, gk_s2, gk_cl]
      refine s_aload_n (pc2 := 1400) w dL_law_1399 rfl rfl ?_
      refine r_X11_thrown (pc2 := 1403) w dL_law_1400 rfl hc3 rfl ?_
      rw [d2.2.1]
      refine s_iload (pc2 := 1405) w dL_law_1403 rfl rfl ?_
      refine s_ic_eq (pc2 := 1408) (tgt := 1410) w dL_law_1405 rfl (by decide) (fun _ => ?_) (fun h0 => absurd (rfl) h0)
      refine s_iload (pc2 := 1412) w dL_law_1410 rfl rfl ?_
      refine s_if_ne (pc2 := 1415) (tgt := 1426) w dL_law_1412 rfl (by decide) (fun h0 => absurd (rfl) h0) (fun _ => ?_)
      refine s_aload_n (pc2 := 1416) w dL_law_1415 rfl rfl ?_
      refine s_iconst (pc2 := 1417) (v := 0) w dL_law_1416 rfl rfl ?_
      refine m_laloadN (pc2 := 1418) (t := 0) (N := 1) w dL_law_1417 rfl rfl rfl rfl (by decide) rfl ?_
      rw [(d2.2.2.2 200 0 (by decide)).trans (gk_uy_in _ _ _ _)]
      refine s_lload (pc2 := 1420) w dL_law_1418 rfl rfl ?_
      refine s_lcmp (pc2 := 1421) w dL_law_1420 rfl ?_
      refine s_if_eq (pc2 := 1424) (tgt := 1426) w dL_law_1421 rfl (by decide) (fun _ => ?_) (fun h0 => absurd (lcm_self _) h0)
      refine s_goto (tgt := 3095) w dL_law_1426 (by decide) ?_
      exact kk _ _ _ _ _ _ (by omega) (LI.st sc hT b2 (uy_out (Or.inl rfl)) d2 hok)
    · intro d0 x3 y3 d1
      exact absurd b0 d0
    · intro d0 d1 x3 y3 d2
      exact absurd b1 d1
  · intro b0 x2 y2 b1
    have sc2 := sc.cx b1.2.1
    refine s_istore (pc2 := 1369) w dL_law_1367 rfl rfl ?_
    dsimp only [gk_s1, gk_s2, gk_cl]
    refine s_aload_n (pc2 := 1370) w dL_law_1369 rfl rfl ?_
    refine s_aload_n (pc2 := 1371) w dL_law_1370 rfl rfl ?_
    refine s_iload (pc2 := 1373) w dL_law_1371 rfl rfl ?_
    refine s_iconst (pc2 := 1374) (v := 1) w dL_law_1373 rfl rfl ?_
    refine s_iadd (pc2 := 1375) w dL_law_1374 rfl ?_
    refine g_ialoadS (pc2 := 1376) w dL_law_1375 rfl rfl h1 ?_
    rw [sc2 _, e1]
    refine s_aload_n (pc2 := 1377) w dL_law_1376 rfl rfl ?_
    refine s_iload (pc2 := 1379) w dL_law_1377 rfl rfl ?_
    refine s_iconst (pc2 := 1380) (v := 2) w dL_law_1379 rfl rfl ?_
    refine s_iadd (pc2 := 1381) w dL_law_1380 rfl ?_
    refine g_ialoadS (pc2 := 1382) w dL_law_1381 rfl rfl h2 ?_
    rw [sc2 _, e2]
    refine s_aload_n (pc2 := 1383) w dL_law_1382 rfl rfl ?_
    refine s_iload (pc2 := 1385) w dL_law_1383 rfl rfl ?_
    refine s_iconst (pc2 := 1386) (v := 3) w dL_law_1385 rfl rfl ?_
    refine s_iadd (pc2 := 1387) w dL_law_1386 rfl ?_
    refine g_ialoadS (pc2 := 1388) w dL_law_1387 rfl rfl h3 ?_
    rw [sc2 _, e3]
    refine s_aload_n (pc2 := 1389) w dL_law_1388 rfl rfl ?_
    refine s_iload (pc2 := 1391) w dL_law_1389 rfl rfl ?_
    refine s_iconst (pc2 := 1392) (v := 4) w dL_law_1391 rfl rfl ?_
    refine s_iadd (pc2 := 1393) w dL_law_1392 rfl ?_
    refine g_ialoadS (pc2 := 1394) w dL_law_1393 rfl rfl h4 ?_
    rw [sc2 _, e4]
    refine r_X11_measureRecord (pc2 := 1397) w dL_law_1394 rfl hc2 rfl (hM.cx b1.2.1) hok ?_ ?_ ?_
    · intro d0 d1 x3 y3 d2
      exact absurd d0 b0
    · intro d0 x3 y3 d1
      refine s_lstore (pc2 := 1399) w dL_law_1397 rfl rfl ?_
      dsimp only [gk_s1, gk_s2, gk_cl]
      refine s_aload_n (pc2 := 1400) w dL_law_1399 rfl rfl ?_
      refine r_X11_thrown (pc2 := 1403) w dL_law_1400 rfl hc3 rfl ?_
      rw [d1.2.1]
      refine s_iload (pc2 := 1405) w dL_law_1403 rfl rfl ?_
      refine s_ic_eq (pc2 := 1408) (tgt := 1410) w dL_law_1405 rfl (by decide) (fun _ => ?_) (fun h0 => absurd (rfl) h0)
      refine s_iload (pc2 := 1412) w dL_law_1410 rfl rfl ?_
      refine s_if_ne (pc2 := 1415) (tgt := 1426) w dL_law_1412 rfl (by decide) (fun _ => ?_) (fun h0 => absurd h0 (by decide))
      refine s_goto (tgt := 3095) w dL_law_1426 (by decide) ?_
      exact kk _ _ _ _ _ _ (by omega) (LI.st sc hT b1 (fun _ _ _ _ => rfl) d1 hok)
    · intro d0 d1 x3 y3 d2
      exact absurd d0 b0
  · intro b0 b1 x2 y2 b2
    have sc2 := sc.cx b2.2.1
    refine s_istore (pc2 := 1369) w dL_law_1367 rfl rfl ?_
    dsimp only [gk_s1, gk_s2, gk_cl]
    refine s_aload_n (pc2 := 1370) w dL_law_1369 rfl rfl ?_
    refine s_aload_n (pc2 := 1371) w dL_law_1370 rfl rfl ?_
    refine s_iload (pc2 := 1373) w dL_law_1371 rfl rfl ?_
    refine s_iconst (pc2 := 1374) (v := 1) w dL_law_1373 rfl rfl ?_
    refine s_iadd (pc2 := 1375) w dL_law_1374 rfl ?_
    refine g_ialoadS (pc2 := 1376) w dL_law_1375 rfl rfl h1 ?_
    rw [sc2 _, e1]
    refine s_aload_n (pc2 := 1377) w dL_law_1376 rfl rfl ?_
    refine s_iload (pc2 := 1379) w dL_law_1377 rfl rfl ?_
    refine s_iconst (pc2 := 1380) (v := 2) w dL_law_1379 rfl rfl ?_
    refine s_iadd (pc2 := 1381) w dL_law_1380 rfl ?_
    refine g_ialoadS (pc2 := 1382) w dL_law_1381 rfl rfl h2 ?_
    rw [sc2 _, e2]
    refine s_aload_n (pc2 := 1383) w dL_law_1382 rfl rfl ?_
    refine s_iload (pc2 := 1385) w dL_law_1383 rfl rfl ?_
    refine s_iconst (pc2 := 1386) (v := 3) w dL_law_1385 rfl rfl ?_
    refine s_iadd (pc2 := 1387) w dL_law_1386 rfl ?_
    refine g_ialoadS (pc2 := 1388) w dL_law_1387 rfl rfl h3 ?_
    rw [sc2 _, e3]
    refine s_aload_n (pc2 := 1389) w dL_law_1388 rfl rfl ?_
    refine s_iload (pc2 := 1391) w dL_law_1389 rfl rfl ?_
    refine s_iconst (pc2 := 1392) (v := 4) w dL_law_1391 rfl rfl ?_
    refine s_iadd (pc2 := 1393) w dL_law_1392 rfl ?_
    refine g_ialoadS (pc2 := 1394) w dL_law_1393 rfl rfl h4 ?_
    rw [sc2 _, e4]
    refine r_X11_measureRecord (pc2 := 1397) w dL_law_1394 rfl hc2 rfl (hM.cx b2.2.1) hok ?_ ?_ ?_
    · intro d0 d1 x3 y3 d2
      exact absurd d1 b1
    · intro d0 x3 y3 d1
      exact absurd b0 d0
    · intro d0 d1 x3 y3 d2
      refine s_lstore (pc2 := 1399) w dL_law_1397 rfl rfl ?_
      dsimp only [gk_s1, gk_s2, gk_cl]
      refine s_aload_n (pc2 := 1400) w dL_law_1399 rfl rfl ?_
      refine r_X11_thrown (pc2 := 1403) w dL_law_1400 rfl hc3 rfl ?_
      rw [d2.2.1]
      refine s_iload (pc2 := 1405) w dL_law_1403 rfl rfl ?_
      refine s_ic_eq (pc2 := 1408) (tgt := 1410) w dL_law_1405 rfl (by decide) (fun _ => ?_) (fun h0 => absurd (rfl) h0)
      refine s_iload (pc2 := 1412) w dL_law_1410 rfl rfl ?_
      refine s_if_ne (pc2 := 1415) (tgt := 1426) w dL_law_1412 rfl (by decide) (fun _ => ?_) (fun h0 => absurd h0 (by decide))
      refine s_goto (tgt := 3095) w dL_law_1426 (by decide) ?_
      exact kk _ _ _ _ _ _ (by omega) (LI.st sc hT b2 (fun _ _ _ _ => rfl) d2 hok)

theorem lc_17 (w : gk_W cL_law pL cs (fun _ _ => none) rt uf (some Ls) K V) (hc1 : cs 213 = some (0, 0, 4, 2, S_L_loudestMicrophone)) (hc2 : cs 215 = some (1, 10, 3, 0, S_X11_loudestMicrophone)) (hc3 : cs 152 = some (1, 10, 1, 0, S_X11_thrown)) {a1 a2 : Int32} (h1 : vp_in (i + 1) Ls) (e1 : sv (i + 1).toNatClampNeg = a1) (h2 : vp_in (i + 2) Ls) (e2 : sv (i + 2).toNatClampNeg = a2) (hu : u + 6 ≤ uf) (hI : LI sv x y) (kk : ∀ (x2 : gk_X) (y2 : gk_Y) (q6 q7 q8 : Option Value) (u2 : Nat), u2 ≤ u + 6 → LI sv x2 y2 → V 3095 [some (.ref 5000), some (.ref 0), some (.ref 189), some (.ref 200), some (.ref 201), some (.int i), q6, q7, q8] [] 202 gk_fT x2 y2 u2) : V 1429 [some (.ref 5000), some (.ref 0), some (.ref 189), some (.ref 200), some (.ref 201), some (.int i), q6, q7, q8] [] 202 gk_fT x y u := by
  obtain ⟨sc, hT, g, hM, hR, hok⟩ := hI
  refine s_aload_n (pc2 := 1430) w dL_law_1429 rfl rfl ?_
  refine s_aload_n (pc2 := 1431) w dL_law_1430 rfl rfl ?_
  refine s_iload (pc2 := 1433) w dL_law_1431 rfl rfl ?_
  refine s_iconst (pc2 := 1434) (v := 1) w dL_law_1433 rfl rfl ?_
  refine s_iadd (pc2 := 1435) w dL_law_1434 rfl ?_
  refine g_ialoadS (pc2 := 1436) w dL_law_1435 rfl rfl h1 ?_
  rw [sc _, e1]
  refine s_aload_n (pc2 := 1437) w dL_law_1436 rfl rfl ?_
  refine s_iload (pc2 := 1439) w dL_law_1437 rfl rfl ?_
  refine s_iconst (pc2 := 1440) (v := 2) w dL_law_1439 rfl rfl ?_
  refine s_iadd (pc2 := 1441) w dL_law_1440 rfl ?_
  refine g_ialoadS (pc2 := 1442) w dL_law_1441 rfl rfl h2 ?_
  rw [sc _, e2]
  refine s_aload_n (pc2 := 1443) w dL_law_1442 rfl rfl ?_
  refine r_L_loudestMicrophone (pc2 := 1446) w dL_law_1443 rfl hc1 rfl (by omega) hR hok ?_ ?_
  · intro b0 x2 y2 b1
    have sc2 := sc.cx b1.2.1
    refine s_istore (pc2 := 1448) w dL_law_1446 rfl rfl ?_
    dsimp only [gk_s1, gk_s2, gk_cl]
    refine s_aload_n (pc2 := 1449) w dL_law_1448 rfl rfl ?_
    refine s_aload_n (pc2 := 1450) w dL_law_1449 rfl rfl ?_
    refine s_iload (pc2 := 1452) w dL_law_1450 rfl rfl ?_
    refine s_iconst (pc2 := 1453) (v := 1) w dL_law_1452 rfl rfl ?_
    refine s_iadd (pc2 := 1454) w dL_law_1453 rfl ?_
    refine g_ialoadS (pc2 := 1455) w dL_law_1454 rfl rfl h1 ?_
    rw [sc2 _, e1]
    refine s_aload_n (pc2 := 1456) w dL_law_1455 rfl rfl ?_
    refine s_iload (pc2 := 1458) w dL_law_1456 rfl rfl ?_
    refine s_iconst (pc2 := 1459) (v := 2) w dL_law_1458 rfl rfl ?_
    refine s_iadd (pc2 := 1460) w dL_law_1459 rfl ?_
    refine g_ialoadS (pc2 := 1461) w dL_law_1460 rfl rfl h2 ?_
    rw [sc2 _, e2]
    refine r_X11_loudestMicrophone (pc2 := 1464) w dL_law_1461 rfl hc2 rfl (hM.cx b1.2.1) hok ?_ ?_
    · intro d0 x3 y3 d1
      refine s_istore (pc2 := 1466) w dL_law_1464 rfl rfl ?_
      dsimp only [gk_s1, gk_s2, gk_cl]
      refine s_aload_n (pc2 := 1467) w dL_law_1466 rfl rfl ?_
      refine r_X11_thrown (pc2 := 1470) w dL_law_1467 rfl hc3 rfl ?_
      rw [d1.2.1]
      refine s_iload (pc2 := 1472) w dL_law_1470 rfl rfl ?_
      refine s_ic_eq (pc2 := 1475) (tgt := 1477) w dL_law_1472 rfl (by decide) (fun _ => ?_) (fun h0 => absurd (rfl) h0)
      refine s_iload (pc2 := 1479) w dL_law_1477 rfl rfl ?_
      refine s_if_ne (pc2 := 1482) (tgt := 1494) w dL_law_1479 rfl (by decide) (fun h0 => absurd (rfl) h0) (fun _ => ?_)
      refine s_aload_n (pc2 := 1483) w dL_law_1482 rfl rfl ?_
      refine s_iconst (pc2 := 1484) (v := 0) w dL_law_1483 rfl rfl ?_
      refine m_laloadN (pc2 := 1485) (t := 0) (N := 1) w dL_law_1484 rfl rfl rfl rfl (by decide) rfl ?_
      rw [(d1.2.2.2 200 0 (by decide)).trans (gk_uy_in _ _ _ _)]
      refine s_iload (pc2 := 1487) w dL_law_1485 rfl rfl ?_
      refine s_i2l (pc2 := 1488) w dL_law_1487 rfl ?_
      refine s_lcmp (pc2 := 1489) w dL_law_1488 rfl ?_
      refine s_if_eq (pc2 := 1492) (tgt := 1494) w dL_law_1489 rfl (by decide) (fun _ => ?_) (fun h0 => absurd (lcm_self _) h0)
      refine s_goto (tgt := 3095) w dL_law_1494 (by decide) ?_
      exact kk _ _ _ _ _ _ (by omega) (LI.st sc hT b1 (uy_out (Or.inl rfl)) d1 hok)
    · intro d0 x3 y3 d1
      exact absurd b0 d0
  · intro b0 x2 y2 b1
    have sc2 := sc.cx b1.2.1
    refine s_istore (pc2 := 1448) w dL_law_1446 rfl rfl ?_
    dsimp only [gk_s1, gk_s2, gk_cl]
    refine s_aload_n (pc2 := 1449) w dL_law_1448 rfl rfl ?_
    refine s_aload_n (pc2 := 1450) w dL_law_1449 rfl rfl ?_
    refine s_iload (pc2 := 1452) w dL_law_1450 rfl rfl ?_
    refine s_iconst (pc2 := 1453) (v := 1) w dL_law_1452 rfl rfl ?_
    refine s_iadd (pc2 := 1454) w dL_law_1453 rfl ?_
    refine g_ialoadS (pc2 := 1455) w dL_law_1454 rfl rfl h1 ?_
    rw [sc2 _, e1]
    refine s_aload_n (pc2 := 1456) w dL_law_1455 rfl rfl ?_
    refine s_iload (pc2 := 1458) w dL_law_1456 rfl rfl ?_
    refine s_iconst (pc2 := 1459) (v := 2) w dL_law_1458 rfl rfl ?_
    refine s_iadd (pc2 := 1460) w dL_law_1459 rfl ?_
    refine g_ialoadS (pc2 := 1461) w dL_law_1460 rfl rfl h2 ?_
    rw [sc2 _, e2]
    refine r_X11_loudestMicrophone (pc2 := 1464) w dL_law_1461 rfl hc2 rfl (hM.cx b1.2.1) hok ?_ ?_
    · intro d0 x3 y3 d1
      exact absurd d0 b0
    · intro d0 x3 y3 d1
      refine s_istore (pc2 := 1466) w dL_law_1464 rfl rfl ?_
      dsimp only [gk_s1, gk_s2, gk_cl]
      refine s_aload_n (pc2 := 1467) w dL_law_1466 rfl rfl ?_
      refine r_X11_thrown (pc2 := 1470) w dL_law_1467 rfl hc3 rfl ?_
      rw [d1.2.1]
      refine s_iload (pc2 := 1472) w dL_law_1470 rfl rfl ?_
      refine s_ic_eq (pc2 := 1475) (tgt := 1477) w dL_law_1472 rfl (by decide) (fun _ => ?_) (fun h0 => absurd (rfl) h0)
      refine s_iload (pc2 := 1479) w dL_law_1477 rfl rfl ?_
      refine s_if_ne (pc2 := 1482) (tgt := 1494) w dL_law_1479 rfl (by decide) (fun _ => ?_) (fun h0 => absurd h0 (by decide))
      refine s_goto (tgt := 3095) w dL_law_1494 (by decide) ?_
      exact kk _ _ _ _ _ _ (by omega) (LI.st sc hT b1 (fun _ _ _ _ => rfl) d1 hok)

theorem lc_18 (w : gk_W cL_law pL cs (fun _ _ => none) rt uf (some Ls) K V) (hc1 : cs 216 = some (0, 0, 4, 2, S_L_loudestWindow)) (hc2 : cs 218 = some (1, 10, 3, 0, S_X11_loudestWindow)) (hc3 : cs 152 = some (1, 10, 1, 0, S_X11_thrown)) {a1 a2 : Int32} (h1 : vp_in (i + 1) Ls) (e1 : sv (i + 1).toNatClampNeg = a1) (h2 : vp_in (i + 2) Ls) (e2 : sv (i + 2).toNatClampNeg = a2) (hu : u + 6 ≤ uf) (hI : LI sv x y) (kk : ∀ (x2 : gk_X) (y2 : gk_Y) (q6 q7 q8 : Option Value) (u2 : Nat), u2 ≤ u + 6 → LI sv x2 y2 → V 3095 [some (.ref 5000), some (.ref 0), some (.ref 189), some (.ref 200), some (.ref 201), some (.int i), q6, q7, q8] [] 202 gk_fT x2 y2 u2) : V 1497 [some (.ref 5000), some (.ref 0), some (.ref 189), some (.ref 200), some (.ref 201), some (.int i), q6, q7, q8] [] 202 gk_fT x y u := by
  obtain ⟨sc, hT, g, hM, hR, hok⟩ := hI
  refine s_aload_n (pc2 := 1498) w dL_law_1497 rfl rfl ?_
  refine s_aload_n (pc2 := 1499) w dL_law_1498 rfl rfl ?_
  refine s_iload (pc2 := 1501) w dL_law_1499 rfl rfl ?_
  refine s_iconst (pc2 := 1502) (v := 1) w dL_law_1501 rfl rfl ?_
  refine s_iadd (pc2 := 1503) w dL_law_1502 rfl ?_
  refine g_ialoadS (pc2 := 1504) w dL_law_1503 rfl rfl h1 ?_
  rw [sc _, e1]
  refine s_aload_n (pc2 := 1505) w dL_law_1504 rfl rfl ?_
  refine s_iload (pc2 := 1507) w dL_law_1505 rfl rfl ?_
  refine s_iconst (pc2 := 1508) (v := 2) w dL_law_1507 rfl rfl ?_
  refine s_iadd (pc2 := 1509) w dL_law_1508 rfl ?_
  refine g_ialoadS (pc2 := 1510) w dL_law_1509 rfl rfl h2 ?_
  rw [sc _, e2]
  refine s_aload_n (pc2 := 1511) w dL_law_1510 rfl rfl ?_
  refine r_L_loudestWindow (pc2 := 1514) w dL_law_1511 rfl hc1 rfl (by omega) hR hok ?_ ?_ ?_
  · intro b0 b1 x2 y2 b2
    have sc2 := sc.cx b2.2.1
    refine s_istore (pc2 := 1516) w dL_law_1514 rfl rfl ?_
    dsimp only [gk_s1, gk_s2, gk_cl]
    refine s_aload_n (pc2 := 1517) w dL_law_1516 rfl rfl ?_
    refine s_aload_n (pc2 := 1518) w dL_law_1517 rfl rfl ?_
    refine s_iload (pc2 := 1520) w dL_law_1518 rfl rfl ?_
    refine s_iconst (pc2 := 1521) (v := 1) w dL_law_1520 rfl rfl ?_
    refine s_iadd (pc2 := 1522) w dL_law_1521 rfl ?_
    refine g_ialoadS (pc2 := 1523) w dL_law_1522 rfl rfl h1 ?_
    rw [sc2 _, e1]
    refine s_aload_n (pc2 := 1524) w dL_law_1523 rfl rfl ?_
    refine s_iload (pc2 := 1526) w dL_law_1524 rfl rfl ?_
    refine s_iconst (pc2 := 1527) (v := 2) w dL_law_1526 rfl rfl ?_
    refine s_iadd (pc2 := 1528) w dL_law_1527 rfl ?_
    refine g_ialoadS (pc2 := 1529) w dL_law_1528 rfl rfl h2 ?_
    rw [sc2 _, e2]
    refine r_X11_loudestWindow (pc2 := 1532) w dL_law_1529 rfl hc2 rfl (hM.cx b2.2.1) hok ?_ ?_ ?_
    · intro d0 d1 x3 y3 d2
      refine s_istore (pc2 := 1534) w dL_law_1532 rfl rfl ?_
      dsimp only [gk_s1, gk_s2, gk_cl]
      refine s_aload_n (pc2 := 1535) w dL_law_1534 rfl rfl ?_
      refine r_X11_thrown (pc2 := 1538) w dL_law_1535 rfl hc3 rfl ?_
      rw [d2.2.1]
      refine s_iload (pc2 := 1540) w dL_law_1538 rfl rfl ?_
      refine s_ic_eq (pc2 := 1543) (tgt := 1545) w dL_law_1540 rfl (by decide) (fun _ => ?_) (fun h0 => absurd (rfl) h0)
      refine s_iload (pc2 := 1547) w dL_law_1545 rfl rfl ?_
      refine s_if_ne (pc2 := 1550) (tgt := 1562) w dL_law_1547 rfl (by decide) (fun h0 => absurd (rfl) h0) (fun _ => ?_)
      refine s_aload_n (pc2 := 1551) w dL_law_1550 rfl rfl ?_
      refine s_iconst (pc2 := 1552) (v := 0) w dL_law_1551 rfl rfl ?_
      refine m_laloadN (pc2 := 1553) (t := 0) (N := 1) w dL_law_1552 rfl rfl rfl rfl (by decide) rfl ?_
      rw [(d2.2.2.2 200 0 (by decide)).trans (gk_uy_in _ _ _ _)]
      refine s_iload (pc2 := 1555) w dL_law_1553 rfl rfl ?_
      refine s_i2l (pc2 := 1556) w dL_law_1555 rfl ?_
      refine s_lcmp (pc2 := 1557) w dL_law_1556 rfl ?_
      refine s_if_eq (pc2 := 1560) (tgt := 1562) w dL_law_1557 rfl (by decide) (fun _ => ?_) (fun h0 => absurd (lcm_self _) h0)
      refine s_goto (tgt := 3095) w dL_law_1562 (by decide) ?_
      exact kk _ _ _ _ _ _ (by omega) (LI.st sc hT b2 (uy_out (Or.inl rfl)) d2 hok)
    · intro d0 x3 y3 d1
      exact absurd b0 d0
    · intro d0 d1 x3 y3 d2
      exact absurd b1 d1
  · intro b0 x2 y2 b1
    have sc2 := sc.cx b1.2.1
    refine s_istore (pc2 := 1516) w dL_law_1514 rfl rfl ?_
    dsimp only [gk_s1, gk_s2, gk_cl]
    refine s_aload_n (pc2 := 1517) w dL_law_1516 rfl rfl ?_
    refine s_aload_n (pc2 := 1518) w dL_law_1517 rfl rfl ?_
    refine s_iload (pc2 := 1520) w dL_law_1518 rfl rfl ?_
    refine s_iconst (pc2 := 1521) (v := 1) w dL_law_1520 rfl rfl ?_
    refine s_iadd (pc2 := 1522) w dL_law_1521 rfl ?_
    refine g_ialoadS (pc2 := 1523) w dL_law_1522 rfl rfl h1 ?_
    rw [sc2 _, e1]
    refine s_aload_n (pc2 := 1524) w dL_law_1523 rfl rfl ?_
    refine s_iload (pc2 := 1526) w dL_law_1524 rfl rfl ?_
    refine s_iconst (pc2 := 1527) (v := 2) w dL_law_1526 rfl rfl ?_
    refine s_iadd (pc2 := 1528) w dL_law_1527 rfl ?_
    refine g_ialoadS (pc2 := 1529) w dL_law_1528 rfl rfl h2 ?_
    rw [sc2 _, e2]
    refine r_X11_loudestWindow (pc2 := 1532) w dL_law_1529 rfl hc2 rfl (hM.cx b1.2.1) hok ?_ ?_ ?_
    · intro d0 d1 x3 y3 d2
      exact absurd d0 b0
    · intro d0 x3 y3 d1
      refine s_istore (pc2 := 1534) w dL_law_1532 rfl rfl ?_
      dsimp only [gk_s1, gk_s2, gk_cl]
      refine s_aload_n (pc2 := 1535) w dL_law_1534 rfl rfl ?_
      refine r_X11_thrown (pc2 := 1538) w dL_law_1535 rfl hc3 rfl ?_
      rw [d1.2.1]
      refine s_iload (pc2 := 1540) w dL_law_1538 rfl rfl ?_
      refine s_ic_eq (pc2 := 1543) (tgt := 1545) w dL_law_1540 rfl (by decide) (fun _ => ?_) (fun h0 => absurd (rfl) h0)
      refine s_iload (pc2 := 1547) w dL_law_1545 rfl rfl ?_
      refine s_if_ne (pc2 := 1550) (tgt := 1562) w dL_law_1547 rfl (by decide) (fun _ => ?_) (fun h0 => absurd h0 (by decide))
      refine s_goto (tgt := 3095) w dL_law_1562 (by decide) ?_
      exact kk _ _ _ _ _ _ (by omega) (LI.st sc hT b1 (fun _ _ _ _ => rfl) d1 hok)
    · intro d0 d1 x3 y3 d2
      exact absurd d0 b0
  · intro b0 b1 x2 y2 b2
    have sc2 := sc.cx b2.2.1
    refine s_istore (pc2 := 1516) w dL_law_1514 rfl rfl ?_
    dsimp only [gk_s1, gk_s2, gk_cl]
    refine s_aload_n (pc2 := 1517) w dL_law_1516 rfl rfl ?_
    refine s_aload_n (pc2 := 1518) w dL_law_1517 rfl rfl ?_
    refine s_iload (pc2 := 1520) w dL_law_1518 rfl rfl ?_
    refine s_iconst (pc2 := 1521) (v := 1) w dL_law_1520 rfl rfl ?_
    refine s_iadd (pc2 := 1522) w dL_law_1521 rfl ?_
    refine g_ialoadS (pc2 := 1523) w dL_law_1522 rfl rfl h1 ?_
    rw [sc2 _, e1]
    refine s_aload_n (pc2 := 1524) w dL_law_1523 rfl rfl ?_
    refine s_iload (pc2 := 1526) w dL_law_1524 rfl rfl ?_
    refine s_iconst (pc2 := 1527) (v := 2) w dL_law_1526 rfl rfl ?_
    refine s_iadd (pc2 := 1528) w dL_law_1527 rfl ?_
    refine g_ialoadS (pc2 := 1529) w dL_law_1528 rfl rfl h2 ?_
    rw [sc2 _, e2]
    refine r_X11_loudestWindow (pc2 := 1532) w dL_law_1529 rfl hc2 rfl (hM.cx b2.2.1) hok ?_ ?_ ?_
    · intro d0 d1 x3 y3 d2
      exact absurd d1 b1
    · intro d0 x3 y3 d1
      exact absurd b0 d0
    · intro d0 d1 x3 y3 d2
      refine s_istore (pc2 := 1534) w dL_law_1532 rfl rfl ?_
      dsimp only [gk_s1, gk_s2, gk_cl]
      refine s_aload_n (pc2 := 1535) w dL_law_1534 rfl rfl ?_
      refine r_X11_thrown (pc2 := 1538) w dL_law_1535 rfl hc3 rfl ?_
      rw [d2.2.1]
      refine s_iload (pc2 := 1540) w dL_law_1538 rfl rfl ?_
      refine s_ic_eq (pc2 := 1543) (tgt := 1545) w dL_law_1540 rfl (by decide) (fun _ => ?_) (fun h0 => absurd (rfl) h0)
      refine s_iload (pc2 := 1547) w dL_law_1545 rfl rfl ?_
      refine s_if_ne (pc2 := 1550) (tgt := 1562) w dL_law_1547 rfl (by decide) (fun _ => ?_) (fun h0 => absurd h0 (by decide))
      refine s_goto (tgt := 3095) w dL_law_1562 (by decide) ?_
      exact kk _ _ _ _ _ _ (by omega) (LI.st sc hT b2 (fun _ _ _ _ => rfl) d2 hok)

theorem lc_19 (w : gk_W cL_law pL cs (fun _ _ => none) rt uf (some Ls) K V) (hc1 : cs 219 = some (0, 0, 5, 3, S_L_correlation)) (hc2 : cs 221 = some (1, 10, 4, 0, S_X11_correlation)) (hc3 : cs 152 = some (1, 10, 1, 0, S_X11_thrown)) {a1 a2 a3 : Int32} (h1 : vp_in (i + 1) Ls) (e1 : sv (i + 1).toNatClampNeg = a1) (h2 : vp_in (i + 2) Ls) (e2 : sv (i + 2).toNatClampNeg = a2) (h3 : vp_in (i + 3) Ls) (e3 : sv (i + 3).toNatClampNeg = a3) (hu : u + 6 ≤ uf) (hI : LI sv x y) (kk : ∀ (x2 : gk_X) (y2 : gk_Y) (q6 q7 q8 : Option Value) (u2 : Nat), u2 ≤ u + 6 → LI sv x2 y2 → V 3095 [some (.ref 5000), some (.ref 0), some (.ref 189), some (.ref 200), some (.ref 201), some (.int i), q6, q7, q8] [] 202 gk_fT x2 y2 u2) : V 1565 [some (.ref 5000), some (.ref 0), some (.ref 189), some (.ref 200), some (.ref 201), some (.int i), q6, q7, q8] [] 202 gk_fT x y u := by
  obtain ⟨sc, hT, g, hM, hR, hok⟩ := hI
  refine s_aload_n (pc2 := 1566) w dL_law_1565 rfl rfl ?_
  refine s_aload_n (pc2 := 1567) w dL_law_1566 rfl rfl ?_
  refine s_iload (pc2 := 1569) w dL_law_1567 rfl rfl ?_
  refine s_iconst (pc2 := 1570) (v := 1) w dL_law_1569 rfl rfl ?_
  refine s_iadd (pc2 := 1571) w dL_law_1570 rfl ?_
  refine g_ialoadS (pc2 := 1572) w dL_law_1571 rfl rfl h1 ?_
  rw [sc _, e1]
  refine s_aload_n (pc2 := 1573) w dL_law_1572 rfl rfl ?_
  refine s_iload (pc2 := 1575) w dL_law_1573 rfl rfl ?_
  refine s_iconst (pc2 := 1576) (v := 2) w dL_law_1575 rfl rfl ?_
  refine s_iadd (pc2 := 1577) w dL_law_1576 rfl ?_
  refine g_ialoadS (pc2 := 1578) w dL_law_1577 rfl rfl h2 ?_
  rw [sc _, e2]
  refine s_aload_n (pc2 := 1579) w dL_law_1578 rfl rfl ?_
  refine s_iload (pc2 := 1581) w dL_law_1579 rfl rfl ?_
  refine s_iconst (pc2 := 1582) (v := 3) w dL_law_1581 rfl rfl ?_
  refine s_iadd (pc2 := 1583) w dL_law_1582 rfl ?_
  refine g_ialoadS (pc2 := 1584) w dL_law_1583 rfl rfl h3 ?_
  rw [sc _, e3]
  refine s_aload_n (pc2 := 1585) w dL_law_1584 rfl rfl ?_
  refine r_L_correlation (pc2 := 1588) w dL_law_1585 rfl hc1 rfl (by omega) hR hok ?_ ?_ ?_
  · intro b0 b1 x2 y2 b2
    have sc2 := sc.cx b2.2.1
    refine s_istore (pc2 := 1590) w dL_law_1588 rfl rfl ?_
    dsimp only [gk_s1, gk_s2, gk_cl]
    refine s_aload_n (pc2 := 1591) w dL_law_1590 rfl rfl ?_
    refine s_aload_n (pc2 := 1592) w dL_law_1591 rfl rfl ?_
    refine s_iload (pc2 := 1594) w dL_law_1592 rfl rfl ?_
    refine s_iconst (pc2 := 1595) (v := 1) w dL_law_1594 rfl rfl ?_
    refine s_iadd (pc2 := 1596) w dL_law_1595 rfl ?_
    refine g_ialoadS (pc2 := 1597) w dL_law_1596 rfl rfl h1 ?_
    rw [sc2 _, e1]
    refine s_aload_n (pc2 := 1598) w dL_law_1597 rfl rfl ?_
    refine s_iload (pc2 := 1600) w dL_law_1598 rfl rfl ?_
    refine s_iconst (pc2 := 1601) (v := 2) w dL_law_1600 rfl rfl ?_
    refine s_iadd (pc2 := 1602) w dL_law_1601 rfl ?_
    refine g_ialoadS (pc2 := 1603) w dL_law_1602 rfl rfl h2 ?_
    rw [sc2 _, e2]
    refine s_aload_n (pc2 := 1604) w dL_law_1603 rfl rfl ?_
    refine s_iload (pc2 := 1606) w dL_law_1604 rfl rfl ?_
    refine s_iconst (pc2 := 1607) (v := 3) w dL_law_1606 rfl rfl ?_
    refine s_iadd (pc2 := 1608) w dL_law_1607 rfl ?_
    refine g_ialoadS (pc2 := 1609) w dL_law_1608 rfl rfl h3 ?_
    rw [sc2 _, e3]
    refine r_X11_correlation (pc2 := 1612) w dL_law_1609 rfl hc2 rfl (hM.cx b2.2.1) hok ?_ ?_ ?_
    · intro d0 d1 x3 y3 d2
      refine s_lstore (pc2 := 1614) w dL_law_1612 rfl rfl ?_
      dsimp only [gk_s1, gk_s2, gk_cl]
      refine s_aload_n (pc2 := 1615) w dL_law_1614 rfl rfl ?_
      refine r_X11_thrown (pc2 := 1618) w dL_law_1615 rfl hc3 rfl ?_
      rw [d2.2.1]
      refine s_iload (pc2 := 1620) w dL_law_1618 rfl rfl ?_
      refine s_ic_eq (pc2 := 1623) (tgt := 1625) w dL_law_1620 rfl (by decide) (fun _ => ?_) (fun h0 => absurd (rfl) h0)
      refine s_iload (pc2 := 1627) w dL_law_1625 rfl rfl ?_
      refine s_if_ne (pc2 := 1630) (tgt := 1641) w dL_law_1627 rfl (by decide) (fun h0 => absurd (rfl) h0) (fun _ => ?_)
      refine s_aload_n (pc2 := 1631) w dL_law_1630 rfl rfl ?_
      refine s_iconst (pc2 := 1632) (v := 0) w dL_law_1631 rfl rfl ?_
      refine m_laloadN (pc2 := 1633) (t := 0) (N := 1) w dL_law_1632 rfl rfl rfl rfl (by decide) rfl ?_
      rw [(d2.2.2.2 200 0 (by decide)).trans (gk_uy_in _ _ _ _)]
      refine s_lload (pc2 := 1635) w dL_law_1633 rfl rfl ?_
      refine s_lcmp (pc2 := 1636) w dL_law_1635 rfl ?_
      refine s_if_eq (pc2 := 1639) (tgt := 1641) w dL_law_1636 rfl (by decide) (fun _ => ?_) (fun h0 => absurd (lcm_self _) h0)
      refine s_goto (tgt := 3095) w dL_law_1641 (by decide) ?_
      exact kk _ _ _ _ _ _ (by omega) (LI.st sc hT b2 (uy_out (Or.inl rfl)) d2 hok)
    · intro d0 x3 y3 d1
      exact absurd b0 d0
    · intro d0 d1 x3 y3 d2
      exact absurd b1 d1
  · intro b0 x2 y2 b1
    have sc2 := sc.cx b1.2.1
    refine s_istore (pc2 := 1590) w dL_law_1588 rfl rfl ?_
    dsimp only [gk_s1, gk_s2, gk_cl]
    refine s_aload_n (pc2 := 1591) w dL_law_1590 rfl rfl ?_
    refine s_aload_n (pc2 := 1592) w dL_law_1591 rfl rfl ?_
    refine s_iload (pc2 := 1594) w dL_law_1592 rfl rfl ?_
    refine s_iconst (pc2 := 1595) (v := 1) w dL_law_1594 rfl rfl ?_
    refine s_iadd (pc2 := 1596) w dL_law_1595 rfl ?_
    refine g_ialoadS (pc2 := 1597) w dL_law_1596 rfl rfl h1 ?_
    rw [sc2 _, e1]
    refine s_aload_n (pc2 := 1598) w dL_law_1597 rfl rfl ?_
    refine s_iload (pc2 := 1600) w dL_law_1598 rfl rfl ?_
    refine s_iconst (pc2 := 1601) (v := 2) w dL_law_1600 rfl rfl ?_
    refine s_iadd (pc2 := 1602) w dL_law_1601 rfl ?_
    refine g_ialoadS (pc2 := 1603) w dL_law_1602 rfl rfl h2 ?_
    rw [sc2 _, e2]
    refine s_aload_n (pc2 := 1604) w dL_law_1603 rfl rfl ?_
    refine s_iload (pc2 := 1606) w dL_law_1604 rfl rfl ?_
    refine s_iconst (pc2 := 1607) (v := 3) w dL_law_1606 rfl rfl ?_
    refine s_iadd (pc2 := 1608) w dL_law_1607 rfl ?_
    refine g_ialoadS (pc2 := 1609) w dL_law_1608 rfl rfl h3 ?_
    rw [sc2 _, e3]
    refine r_X11_correlation (pc2 := 1612) w dL_law_1609 rfl hc2 rfl (hM.cx b1.2.1) hok ?_ ?_ ?_
    · intro d0 d1 x3 y3 d2
      exact absurd d0 b0
    · intro d0 x3 y3 d1
      refine s_lstore (pc2 := 1614) w dL_law_1612 rfl rfl ?_
      dsimp only [gk_s1, gk_s2, gk_cl]
      refine s_aload_n (pc2 := 1615) w dL_law_1614 rfl rfl ?_
      refine r_X11_thrown (pc2 := 1618) w dL_law_1615 rfl hc3 rfl ?_
      rw [d1.2.1]
      refine s_iload (pc2 := 1620) w dL_law_1618 rfl rfl ?_
      refine s_ic_eq (pc2 := 1623) (tgt := 1625) w dL_law_1620 rfl (by decide) (fun _ => ?_) (fun h0 => absurd (rfl) h0)
      refine s_iload (pc2 := 1627) w dL_law_1625 rfl rfl ?_
      refine s_if_ne (pc2 := 1630) (tgt := 1641) w dL_law_1627 rfl (by decide) (fun _ => ?_) (fun h0 => absurd h0 (by decide))
      refine s_goto (tgt := 3095) w dL_law_1641 (by decide) ?_
      exact kk _ _ _ _ _ _ (by omega) (LI.st sc hT b1 (fun _ _ _ _ => rfl) d1 hok)
    · intro d0 d1 x3 y3 d2
      exact absurd d0 b0
  · intro b0 b1 x2 y2 b2
    have sc2 := sc.cx b2.2.1
    refine s_istore (pc2 := 1590) w dL_law_1588 rfl rfl ?_
    dsimp only [gk_s1, gk_s2, gk_cl]
    refine s_aload_n (pc2 := 1591) w dL_law_1590 rfl rfl ?_
    refine s_aload_n (pc2 := 1592) w dL_law_1591 rfl rfl ?_
    refine s_iload (pc2 := 1594) w dL_law_1592 rfl rfl ?_
    refine s_iconst (pc2 := 1595) (v := 1) w dL_law_1594 rfl rfl ?_
    refine s_iadd (pc2 := 1596) w dL_law_1595 rfl ?_
    refine g_ialoadS (pc2 := 1597) w dL_law_1596 rfl rfl h1 ?_
    rw [sc2 _, e1]
    refine s_aload_n (pc2 := 1598) w dL_law_1597 rfl rfl ?_
    refine s_iload (pc2 := 1600) w dL_law_1598 rfl rfl ?_
    refine s_iconst (pc2 := 1601) (v := 2) w dL_law_1600 rfl rfl ?_
    refine s_iadd (pc2 := 1602) w dL_law_1601 rfl ?_
    refine g_ialoadS (pc2 := 1603) w dL_law_1602 rfl rfl h2 ?_
    rw [sc2 _, e2]
    refine s_aload_n (pc2 := 1604) w dL_law_1603 rfl rfl ?_
    refine s_iload (pc2 := 1606) w dL_law_1604 rfl rfl ?_
    refine s_iconst (pc2 := 1607) (v := 3) w dL_law_1606 rfl rfl ?_
    refine s_iadd (pc2 := 1608) w dL_law_1607 rfl ?_
    refine g_ialoadS (pc2 := 1609) w dL_law_1608 rfl rfl h3 ?_
    rw [sc2 _, e3]
    refine r_X11_correlation (pc2 := 1612) w dL_law_1609 rfl hc2 rfl (hM.cx b2.2.1) hok ?_ ?_ ?_
    · intro d0 d1 x3 y3 d2
      exact absurd d1 b1
    · intro d0 x3 y3 d1
      exact absurd b0 d0
    · intro d0 d1 x3 y3 d2
      refine s_lstore (pc2 := 1614) w dL_law_1612 rfl rfl ?_
      dsimp only [gk_s1, gk_s2, gk_cl]
      refine s_aload_n (pc2 := 1615) w dL_law_1614 rfl rfl ?_
      refine r_X11_thrown (pc2 := 1618) w dL_law_1615 rfl hc3 rfl ?_
      rw [d2.2.1]
      refine s_iload (pc2 := 1620) w dL_law_1618 rfl rfl ?_
      refine s_ic_eq (pc2 := 1623) (tgt := 1625) w dL_law_1620 rfl (by decide) (fun _ => ?_) (fun h0 => absurd (rfl) h0)
      refine s_iload (pc2 := 1627) w dL_law_1625 rfl rfl ?_
      refine s_if_ne (pc2 := 1630) (tgt := 1641) w dL_law_1627 rfl (by decide) (fun _ => ?_) (fun h0 => absurd h0 (by decide))
      refine s_goto (tgt := 3095) w dL_law_1641 (by decide) ?_
      exact kk _ _ _ _ _ _ (by omega) (LI.st sc hT b2 (fun _ _ _ _ => rfl) d2 hok)

theorem lc_20 (w : gk_W cL_law pL cs (fun _ _ => none) rt uf (some Ls) K V) (hc1 : cs 222 = some (0, 0, 5, 3, S_L_bestLag)) (hc2 : cs 224 = some (1, 10, 4, 0, S_X11_bestLag)) (hc3 : cs 152 = some (1, 10, 1, 0, S_X11_thrown)) {a1 a2 a3 : Int32} (h1 : vp_in (i + 1) Ls) (e1 : sv (i + 1).toNatClampNeg = a1) (h2 : vp_in (i + 2) Ls) (e2 : sv (i + 2).toNatClampNeg = a2) (h3 : vp_in (i + 3) Ls) (e3 : sv (i + 3).toNatClampNeg = a3) (hu : u + 6 ≤ uf) (hI : LI sv x y) (kk : ∀ (x2 : gk_X) (y2 : gk_Y) (q6 q7 q8 : Option Value) (u2 : Nat), u2 ≤ u + 6 → LI sv x2 y2 → V 3095 [some (.ref 5000), some (.ref 0), some (.ref 189), some (.ref 200), some (.ref 201), some (.int i), q6, q7, q8] [] 202 gk_fT x2 y2 u2) : V 1644 [some (.ref 5000), some (.ref 0), some (.ref 189), some (.ref 200), some (.ref 201), some (.int i), q6, q7, q8] [] 202 gk_fT x y u := by
  obtain ⟨sc, hT, g, hM, hR, hok⟩ := hI
  refine s_aload_n (pc2 := 1645) w dL_law_1644 rfl rfl ?_
  refine s_aload_n (pc2 := 1646) w dL_law_1645 rfl rfl ?_
  refine s_iload (pc2 := 1648) w dL_law_1646 rfl rfl ?_
  refine s_iconst (pc2 := 1649) (v := 1) w dL_law_1648 rfl rfl ?_
  refine s_iadd (pc2 := 1650) w dL_law_1649 rfl ?_
  refine g_ialoadS (pc2 := 1651) w dL_law_1650 rfl rfl h1 ?_
  rw [sc _, e1]
  refine s_aload_n (pc2 := 1652) w dL_law_1651 rfl rfl ?_
  refine s_iload (pc2 := 1654) w dL_law_1652 rfl rfl ?_
  refine s_iconst (pc2 := 1655) (v := 2) w dL_law_1654 rfl rfl ?_
  refine s_iadd (pc2 := 1656) w dL_law_1655 rfl ?_
  refine g_ialoadS (pc2 := 1657) w dL_law_1656 rfl rfl h2 ?_
  rw [sc _, e2]
  refine s_aload_n (pc2 := 1658) w dL_law_1657 rfl rfl ?_
  refine s_iload (pc2 := 1660) w dL_law_1658 rfl rfl ?_
  refine s_iconst (pc2 := 1661) (v := 3) w dL_law_1660 rfl rfl ?_
  refine s_iadd (pc2 := 1662) w dL_law_1661 rfl ?_
  refine g_ialoadS (pc2 := 1663) w dL_law_1662 rfl rfl h3 ?_
  rw [sc _, e3]
  refine s_aload_n (pc2 := 1664) w dL_law_1663 rfl rfl ?_
  refine r_L_bestLag (pc2 := 1667) w dL_law_1664 rfl hc1 rfl (by omega) hR hok ?_ ?_ ?_
  · intro b0 b1 x2 y2 b2
    have sc2 := sc.cx b2.2.1
    refine s_istore (pc2 := 1669) w dL_law_1667 rfl rfl ?_
    dsimp only [gk_s1, gk_s2, gk_cl]
    refine s_aload_n (pc2 := 1670) w dL_law_1669 rfl rfl ?_
    refine s_aload_n (pc2 := 1671) w dL_law_1670 rfl rfl ?_
    refine s_iload (pc2 := 1673) w dL_law_1671 rfl rfl ?_
    refine s_iconst (pc2 := 1674) (v := 1) w dL_law_1673 rfl rfl ?_
    refine s_iadd (pc2 := 1675) w dL_law_1674 rfl ?_
    refine g_ialoadS (pc2 := 1676) w dL_law_1675 rfl rfl h1 ?_
    rw [sc2 _, e1]
    refine s_aload_n (pc2 := 1677) w dL_law_1676 rfl rfl ?_
    refine s_iload (pc2 := 1679) w dL_law_1677 rfl rfl ?_
    refine s_iconst (pc2 := 1680) (v := 2) w dL_law_1679 rfl rfl ?_
    refine s_iadd (pc2 := 1681) w dL_law_1680 rfl ?_
    refine g_ialoadS (pc2 := 1682) w dL_law_1681 rfl rfl h2 ?_
    rw [sc2 _, e2]
    refine s_aload_n (pc2 := 1683) w dL_law_1682 rfl rfl ?_
    refine s_iload (pc2 := 1685) w dL_law_1683 rfl rfl ?_
    refine s_iconst (pc2 := 1686) (v := 3) w dL_law_1685 rfl rfl ?_
    refine s_iadd (pc2 := 1687) w dL_law_1686 rfl ?_
    refine g_ialoadS (pc2 := 1688) w dL_law_1687 rfl rfl h3 ?_
    rw [sc2 _, e3]
    refine r_X11_bestLag (pc2 := 1691) w dL_law_1688 rfl hc2 rfl (hM.cx b2.2.1) hok ?_ ?_ ?_
    · intro d0 d1 x3 y3 d2
      refine s_istore (pc2 := 1693) w dL_law_1691 rfl rfl ?_
      dsimp only [gk_s1, gk_s2, gk_cl]
      refine s_aload_n (pc2 := 1694) w dL_law_1693 rfl rfl ?_
      refine r_X11_thrown (pc2 := 1697) w dL_law_1694 rfl hc3 rfl ?_
      rw [d2.2.1]
      refine s_iload (pc2 := 1699) w dL_law_1697 rfl rfl ?_
      refine s_ic_eq (pc2 := 1702) (tgt := 1704) w dL_law_1699 rfl (by decide) (fun _ => ?_) (fun h0 => absurd (rfl) h0)
      refine s_iload (pc2 := 1706) w dL_law_1704 rfl rfl ?_
      refine s_if_ne (pc2 := 1709) (tgt := 1721) w dL_law_1706 rfl (by decide) (fun h0 => absurd (rfl) h0) (fun _ => ?_)
      refine s_aload_n (pc2 := 1710) w dL_law_1709 rfl rfl ?_
      refine s_iconst (pc2 := 1711) (v := 0) w dL_law_1710 rfl rfl ?_
      refine m_laloadN (pc2 := 1712) (t := 0) (N := 1) w dL_law_1711 rfl rfl rfl rfl (by decide) rfl ?_
      rw [(d2.2.2.2 200 0 (by decide)).trans (gk_uy_in _ _ _ _)]
      refine s_iload (pc2 := 1714) w dL_law_1712 rfl rfl ?_
      refine s_i2l (pc2 := 1715) w dL_law_1714 rfl ?_
      refine s_lcmp (pc2 := 1716) w dL_law_1715 rfl ?_
      refine s_if_eq (pc2 := 1719) (tgt := 1721) w dL_law_1716 rfl (by decide) (fun _ => ?_) (fun h0 => absurd (lcm_self _) h0)
      refine s_goto (tgt := 3095) w dL_law_1721 (by decide) ?_
      exact kk _ _ _ _ _ _ (by omega) (LI.st sc hT b2 (uy_out (Or.inl rfl)) d2 hok)
    · intro d0 x3 y3 d1
      exact absurd b0 d0
    · intro d0 d1 x3 y3 d2
      exact absurd b1 d1
  · intro b0 x2 y2 b1
    have sc2 := sc.cx b1.2.1
    refine s_istore (pc2 := 1669) w dL_law_1667 rfl rfl ?_
    dsimp only [gk_s1, gk_s2, gk_cl]
    refine s_aload_n (pc2 := 1670) w dL_law_1669 rfl rfl ?_
    refine s_aload_n (pc2 := 1671) w dL_law_1670 rfl rfl ?_
    refine s_iload (pc2 := 1673) w dL_law_1671 rfl rfl ?_
    refine s_iconst (pc2 := 1674) (v := 1) w dL_law_1673 rfl rfl ?_
    refine s_iadd (pc2 := 1675) w dL_law_1674 rfl ?_
    refine g_ialoadS (pc2 := 1676) w dL_law_1675 rfl rfl h1 ?_
    rw [sc2 _, e1]
    refine s_aload_n (pc2 := 1677) w dL_law_1676 rfl rfl ?_
    refine s_iload (pc2 := 1679) w dL_law_1677 rfl rfl ?_
    refine s_iconst (pc2 := 1680) (v := 2) w dL_law_1679 rfl rfl ?_
    refine s_iadd (pc2 := 1681) w dL_law_1680 rfl ?_
    refine g_ialoadS (pc2 := 1682) w dL_law_1681 rfl rfl h2 ?_
    rw [sc2 _, e2]
    refine s_aload_n (pc2 := 1683) w dL_law_1682 rfl rfl ?_
    refine s_iload (pc2 := 1685) w dL_law_1683 rfl rfl ?_
    refine s_iconst (pc2 := 1686) (v := 3) w dL_law_1685 rfl rfl ?_
    refine s_iadd (pc2 := 1687) w dL_law_1686 rfl ?_
    refine g_ialoadS (pc2 := 1688) w dL_law_1687 rfl rfl h3 ?_
    rw [sc2 _, e3]
    refine r_X11_bestLag (pc2 := 1691) w dL_law_1688 rfl hc2 rfl (hM.cx b1.2.1) hok ?_ ?_ ?_
    · intro d0 d1 x3 y3 d2
      exact absurd d0 b0
    · intro d0 x3 y3 d1
      refine s_istore (pc2 := 1693) w dL_law_1691 rfl rfl ?_
      dsimp only [gk_s1, gk_s2, gk_cl]
      refine s_aload_n (pc2 := 1694) w dL_law_1693 rfl rfl ?_
      refine r_X11_thrown (pc2 := 1697) w dL_law_1694 rfl hc3 rfl ?_
      rw [d1.2.1]
      refine s_iload (pc2 := 1699) w dL_law_1697 rfl rfl ?_
      refine s_ic_eq (pc2 := 1702) (tgt := 1704) w dL_law_1699 rfl (by decide) (fun _ => ?_) (fun h0 => absurd (rfl) h0)
      refine s_iload (pc2 := 1706) w dL_law_1704 rfl rfl ?_
      refine s_if_ne (pc2 := 1709) (tgt := 1721) w dL_law_1706 rfl (by decide) (fun _ => ?_) (fun h0 => absurd h0 (by decide))
      refine s_goto (tgt := 3095) w dL_law_1721 (by decide) ?_
      exact kk _ _ _ _ _ _ (by omega) (LI.st sc hT b1 (fun _ _ _ _ => rfl) d1 hok)
    · intro d0 d1 x3 y3 d2
      exact absurd d0 b0
  · intro b0 b1 x2 y2 b2
    have sc2 := sc.cx b2.2.1
    refine s_istore (pc2 := 1669) w dL_law_1667 rfl rfl ?_
    dsimp only [gk_s1, gk_s2, gk_cl]
    refine s_aload_n (pc2 := 1670) w dL_law_1669 rfl rfl ?_
    refine s_aload_n (pc2 := 1671) w dL_law_1670 rfl rfl ?_
    refine s_iload (pc2 := 1673) w dL_law_1671 rfl rfl ?_
    refine s_iconst (pc2 := 1674) (v := 1) w dL_law_1673 rfl rfl ?_
    refine s_iadd (pc2 := 1675) w dL_law_1674 rfl ?_
    refine g_ialoadS (pc2 := 1676) w dL_law_1675 rfl rfl h1 ?_
    rw [sc2 _, e1]
    refine s_aload_n (pc2 := 1677) w dL_law_1676 rfl rfl ?_
    refine s_iload (pc2 := 1679) w dL_law_1677 rfl rfl ?_
    refine s_iconst (pc2 := 1680) (v := 2) w dL_law_1679 rfl rfl ?_
    refine s_iadd (pc2 := 1681) w dL_law_1680 rfl ?_
    refine g_ialoadS (pc2 := 1682) w dL_law_1681 rfl rfl h2 ?_
    rw [sc2 _, e2]
    refine s_aload_n (pc2 := 1683) w dL_law_1682 rfl rfl ?_
    refine s_iload (pc2 := 1685) w dL_law_1683 rfl rfl ?_
    refine s_iconst (pc2 := 1686) (v := 3) w dL_law_1685 rfl rfl ?_
    refine s_iadd (pc2 := 1687) w dL_law_1686 rfl ?_
    refine g_ialoadS (pc2 := 1688) w dL_law_1687 rfl rfl h3 ?_
    rw [sc2 _, e3]
    refine r_X11_bestLag (pc2 := 1691) w dL_law_1688 rfl hc2 rfl (hM.cx b2.2.1) hok ?_ ?_ ?_
    · intro d0 d1 x3 y3 d2
      exact absurd d1 b1
    · intro d0 x3 y3 d1
      exact absurd b0 d0
    · intro d0 d1 x3 y3 d2
      refine s_istore (pc2 := 1693) w dL_law_1691 rfl rfl ?_
      dsimp only [gk_s1, gk_s2, gk_cl]
      refine s_aload_n (pc2 := 1694) w dL_law_1693 rfl rfl ?_
      refine r_X11_thrown (pc2 := 1697) w dL_law_1694 rfl hc3 rfl ?_
      rw [d2.2.1]
      refine s_iload (pc2 := 1699) w dL_law_1697 rfl rfl ?_
      refine s_ic_eq (pc2 := 1702) (tgt := 1704) w dL_law_1699 rfl (by decide) (fun _ => ?_) (fun h0 => absurd (rfl) h0)
      refine s_iload (pc2 := 1706) w dL_law_1704 rfl rfl ?_
      refine s_if_ne (pc2 := 1709) (tgt := 1721) w dL_law_1706 rfl (by decide) (fun _ => ?_) (fun h0 => absurd h0 (by decide))
      refine s_goto (tgt := 3095) w dL_law_1721 (by decide) ?_
      exact kk _ _ _ _ _ _ (by omega) (LI.st sc hT b2 (fun _ _ _ _ => rfl) d2 hok)

theorem lc_21 (w : gk_W cL_law pL cs (fun _ _ => none) rt uf (some Ls) K V) (hc1 : cs 225 = some (0, 0, 4, 3, S_L_focusOnVehicle)) (hc2 : cs 228 = some (1, 10, 4, 0, S_X11_focusOnVehicle)) (hc3 : cs 152 = some (1, 10, 1, 0, S_X11_thrown)) {a1 a2 a3 : Int32} (h1 : vp_in (i + 1) Ls) (e1 : sv (i + 1).toNatClampNeg = a1) (h2 : vp_in (i + 2) Ls) (e2 : sv (i + 2).toNatClampNeg = a2) (h3 : vp_in (i + 3) Ls) (e3 : sv (i + 3).toNatClampNeg = a3) (hu : u + 6 ≤ uf) (hI : LI sv x y) (kk : ∀ (x2 : gk_X) (y2 : gk_Y) (q6 q7 q8 : Option Value) (u2 : Nat), u2 ≤ u + 6 → LI sv x2 y2 → V 3095 [some (.ref 5000), some (.ref 0), some (.ref 189), some (.ref 200), some (.ref 201), some (.int i), q6, q7, q8] [] 202 gk_fT x2 y2 u2) : V 1724 [some (.ref 5000), some (.ref 0), some (.ref 189), some (.ref 200), some (.ref 201), some (.int i), q6, q7, q8] [] 202 gk_fT x y u := by
  obtain ⟨sc, hT, g, hM, hR, hok⟩ := hI
  refine s_aload_n (pc2 := 1725) w dL_law_1724 rfl rfl ?_
  refine s_aload_n (pc2 := 1726) w dL_law_1725 rfl rfl ?_
  refine s_iload (pc2 := 1728) w dL_law_1726 rfl rfl ?_
  refine s_iconst (pc2 := 1729) (v := 1) w dL_law_1728 rfl rfl ?_
  refine s_iadd (pc2 := 1730) w dL_law_1729 rfl ?_
  refine g_ialoadS (pc2 := 1731) w dL_law_1730 rfl rfl h1 ?_
  rw [sc _, e1]
  refine s_aload_n (pc2 := 1732) w dL_law_1731 rfl rfl ?_
  refine s_iload (pc2 := 1734) w dL_law_1732 rfl rfl ?_
  refine s_iconst (pc2 := 1735) (v := 2) w dL_law_1734 rfl rfl ?_
  refine s_iadd (pc2 := 1736) w dL_law_1735 rfl ?_
  refine g_ialoadS (pc2 := 1737) w dL_law_1736 rfl rfl h2 ?_
  rw [sc _, e2]
  refine s_aload_n (pc2 := 1738) w dL_law_1737 rfl rfl ?_
  refine s_iload (pc2 := 1740) w dL_law_1738 rfl rfl ?_
  refine s_iconst (pc2 := 1741) (v := 3) w dL_law_1740 rfl rfl ?_
  refine s_iadd (pc2 := 1742) w dL_law_1741 rfl ?_
  refine g_ialoadS (pc2 := 1743) w dL_law_1742 rfl rfl h3 ?_
  rw [sc _, e3]
  refine r_L_focusOnVehicle (pc2 := 1746) w dL_law_1743 rfl hc1 rfl (by omega) hR hok ?_ ?_ ?_
  · intro b0 b1 x2 y2 b2
    have sc2 := sc.cx b2.2.1
    refine s_istore (pc2 := 1748) w dL_law_1746 rfl rfl ?_
    dsimp only [gk_s1, gk_s2, gk_cl]
    refine s_aload_n (pc2 := 1749) w dL_law_1748 rfl rfl ?_
    refine s_aload_n (pc2 := 1750) w dL_law_1749 rfl rfl ?_
    refine s_iload (pc2 := 1752) w dL_law_1750 rfl rfl ?_
    refine s_iconst (pc2 := 1753) (v := 1) w dL_law_1752 rfl rfl ?_
    refine s_iadd (pc2 := 1754) w dL_law_1753 rfl ?_
    refine g_ialoadS (pc2 := 1755) w dL_law_1754 rfl rfl h1 ?_
    rw [sc2 _, e1]
    refine s_aload_n (pc2 := 1756) w dL_law_1755 rfl rfl ?_
    refine s_iload (pc2 := 1758) w dL_law_1756 rfl rfl ?_
    refine s_iconst (pc2 := 1759) (v := 2) w dL_law_1758 rfl rfl ?_
    refine s_iadd (pc2 := 1760) w dL_law_1759 rfl ?_
    refine g_ialoadS (pc2 := 1761) w dL_law_1760 rfl rfl h2 ?_
    rw [sc2 _, e2]
    refine s_aload_n (pc2 := 1762) w dL_law_1761 rfl rfl ?_
    refine s_iload (pc2 := 1764) w dL_law_1762 rfl rfl ?_
    refine s_iconst (pc2 := 1765) (v := 3) w dL_law_1764 rfl rfl ?_
    refine s_iadd (pc2 := 1766) w dL_law_1765 rfl ?_
    refine g_ialoadS (pc2 := 1767) w dL_law_1766 rfl rfl h3 ?_
    rw [sc2 _, e3]
    refine r_X11_focusOnVehicle (pc2 := 1770) w dL_law_1767 rfl hc2 rfl (hM.cx b2.2.1) hok ?_ ?_ ?_
    · intro d0 d1 x3 y3 d2
      refine s_aload_n (pc2 := 1771) w dL_law_1770 rfl rfl ?_
      refine r_X11_thrown (pc2 := 1774) w dL_law_1771 rfl hc3 rfl ?_
      rw [d2.2.1]
      refine s_iload (pc2 := 1776) w dL_law_1774 rfl rfl ?_
      refine s_ic_eq (pc2 := 1779) (tgt := 1781) w dL_law_1776 rfl (by decide) (fun _ => ?_) (fun h0 => absurd (rfl) h0)
      refine s_goto (tgt := 3095) w dL_law_1781 (by decide) ?_
      exact kk _ _ _ _ _ _ (by omega) (LI.st sc hT b2 (fun _ _ _ _ => rfl) d2 (ok_F0 hok b0 b1))
    · intro d0 x3 y3 d1
      exact absurd b0 d0
    · intro d0 d1 x3 y3 d2
      exact absurd b1 d1
  · intro b0 x2 y2 b1
    have sc2 := sc.cx b1.2.1
    refine s_istore (pc2 := 1748) w dL_law_1746 rfl rfl ?_
    dsimp only [gk_s1, gk_s2, gk_cl]
    refine s_aload_n (pc2 := 1749) w dL_law_1748 rfl rfl ?_
    refine s_aload_n (pc2 := 1750) w dL_law_1749 rfl rfl ?_
    refine s_iload (pc2 := 1752) w dL_law_1750 rfl rfl ?_
    refine s_iconst (pc2 := 1753) (v := 1) w dL_law_1752 rfl rfl ?_
    refine s_iadd (pc2 := 1754) w dL_law_1753 rfl ?_
    refine g_ialoadS (pc2 := 1755) w dL_law_1754 rfl rfl h1 ?_
    rw [sc2 _, e1]
    refine s_aload_n (pc2 := 1756) w dL_law_1755 rfl rfl ?_
    refine s_iload (pc2 := 1758) w dL_law_1756 rfl rfl ?_
    refine s_iconst (pc2 := 1759) (v := 2) w dL_law_1758 rfl rfl ?_
    refine s_iadd (pc2 := 1760) w dL_law_1759 rfl ?_
    refine g_ialoadS (pc2 := 1761) w dL_law_1760 rfl rfl h2 ?_
    rw [sc2 _, e2]
    refine s_aload_n (pc2 := 1762) w dL_law_1761 rfl rfl ?_
    refine s_iload (pc2 := 1764) w dL_law_1762 rfl rfl ?_
    refine s_iconst (pc2 := 1765) (v := 3) w dL_law_1764 rfl rfl ?_
    refine s_iadd (pc2 := 1766) w dL_law_1765 rfl ?_
    refine g_ialoadS (pc2 := 1767) w dL_law_1766 rfl rfl h3 ?_
    rw [sc2 _, e3]
    refine r_X11_focusOnVehicle (pc2 := 1770) w dL_law_1767 rfl hc2 rfl (hM.cx b1.2.1) hok ?_ ?_ ?_
    · intro d0 d1 x3 y3 d2
      exact absurd d0 b0
    · intro d0 x3 y3 d1
      refine s_aload_n (pc2 := 1771) w dL_law_1770 rfl rfl ?_
      refine r_X11_thrown (pc2 := 1774) w dL_law_1771 rfl hc3 rfl ?_
      rw [d1.2.1]
      refine s_iload (pc2 := 1776) w dL_law_1774 rfl rfl ?_
      refine s_ic_eq (pc2 := 1779) (tgt := 1781) w dL_law_1776 rfl (by decide) (fun _ => ?_) (fun h0 => absurd (rfl) h0)
      refine s_goto (tgt := 3095) w dL_law_1781 (by decide) ?_
      exact kk _ _ _ _ _ _ (by omega) (LI.st sc hT b1 (fun _ _ _ _ => rfl) d1 hok)
    · intro d0 d1 x3 y3 d2
      exact absurd d0 b0
  · intro b0 b1 x2 y2 b2
    have sc2 := sc.cx b2.2.1
    refine s_istore (pc2 := 1748) w dL_law_1746 rfl rfl ?_
    dsimp only [gk_s1, gk_s2, gk_cl]
    refine s_aload_n (pc2 := 1749) w dL_law_1748 rfl rfl ?_
    refine s_aload_n (pc2 := 1750) w dL_law_1749 rfl rfl ?_
    refine s_iload (pc2 := 1752) w dL_law_1750 rfl rfl ?_
    refine s_iconst (pc2 := 1753) (v := 1) w dL_law_1752 rfl rfl ?_
    refine s_iadd (pc2 := 1754) w dL_law_1753 rfl ?_
    refine g_ialoadS (pc2 := 1755) w dL_law_1754 rfl rfl h1 ?_
    rw [sc2 _, e1]
    refine s_aload_n (pc2 := 1756) w dL_law_1755 rfl rfl ?_
    refine s_iload (pc2 := 1758) w dL_law_1756 rfl rfl ?_
    refine s_iconst (pc2 := 1759) (v := 2) w dL_law_1758 rfl rfl ?_
    refine s_iadd (pc2 := 1760) w dL_law_1759 rfl ?_
    refine g_ialoadS (pc2 := 1761) w dL_law_1760 rfl rfl h2 ?_
    rw [sc2 _, e2]
    refine s_aload_n (pc2 := 1762) w dL_law_1761 rfl rfl ?_
    refine s_iload (pc2 := 1764) w dL_law_1762 rfl rfl ?_
    refine s_iconst (pc2 := 1765) (v := 3) w dL_law_1764 rfl rfl ?_
    refine s_iadd (pc2 := 1766) w dL_law_1765 rfl ?_
    refine g_ialoadS (pc2 := 1767) w dL_law_1766 rfl rfl h3 ?_
    rw [sc2 _, e3]
    refine r_X11_focusOnVehicle (pc2 := 1770) w dL_law_1767 rfl hc2 rfl (hM.cx b2.2.1) hok ?_ ?_ ?_
    · intro d0 d1 x3 y3 d2
      exact absurd d1 b1
    · intro d0 x3 y3 d1
      exact absurd b0 d0
    · intro d0 d1 x3 y3 d2
      refine s_aload_n (pc2 := 1771) w dL_law_1770 rfl rfl ?_
      refine r_X11_thrown (pc2 := 1774) w dL_law_1771 rfl hc3 rfl ?_
      rw [d2.2.1]
      refine s_iload (pc2 := 1776) w dL_law_1774 rfl rfl ?_
      refine s_ic_eq (pc2 := 1779) (tgt := 1781) w dL_law_1776 rfl (by decide) (fun _ => ?_) (fun h0 => absurd (rfl) h0)
      refine s_goto (tgt := 3095) w dL_law_1781 (by decide) ?_
      exact kk _ _ _ _ _ _ (by omega) (LI.st sc hT b2 (fun _ _ _ _ => rfl) d2 hok)

theorem lc_22 (w : gk_W cL_law pL cs (fun _ _ => none) rt uf (some Ls) K V) (hc1 : cs 229 = some (0, 0, 4, 3, S_L_focusOnPlace)) (hc2 : cs 231 = some (1, 10, 4, 0, S_X11_focusOnPlace)) (hc3 : cs 152 = some (1, 10, 1, 0, S_X11_thrown)) {a1 a2 a3 : Int32} (h1 : vp_in (i + 1) Ls) (e1 : sv (i + 1).toNatClampNeg = a1) (h2 : vp_in (i + 2) Ls) (e2 : sv (i + 2).toNatClampNeg = a2) (h3 : vp_in (i + 3) Ls) (e3 : sv (i + 3).toNatClampNeg = a3) (hu : u + 6 ≤ uf) (hI : LI sv x y) (kk : ∀ (x2 : gk_X) (y2 : gk_Y) (q6 q7 q8 : Option Value) (u2 : Nat), u2 ≤ u + 6 → LI sv x2 y2 → V 3095 [some (.ref 5000), some (.ref 0), some (.ref 189), some (.ref 200), some (.ref 201), some (.int i), q6, q7, q8] [] 202 gk_fT x2 y2 u2) : V 1784 [some (.ref 5000), some (.ref 0), some (.ref 189), some (.ref 200), some (.ref 201), some (.int i), q6, q7, q8] [] 202 gk_fT x y u := by
  obtain ⟨sc, hT, g, hM, hR, hok⟩ := hI
  refine s_aload_n (pc2 := 1785) w dL_law_1784 rfl rfl ?_
  refine s_aload_n (pc2 := 1786) w dL_law_1785 rfl rfl ?_
  refine s_iload (pc2 := 1788) w dL_law_1786 rfl rfl ?_
  refine s_iconst (pc2 := 1789) (v := 1) w dL_law_1788 rfl rfl ?_
  refine s_iadd (pc2 := 1790) w dL_law_1789 rfl ?_
  refine g_ialoadS (pc2 := 1791) w dL_law_1790 rfl rfl h1 ?_
  rw [sc _, e1]
  refine s_aload_n (pc2 := 1792) w dL_law_1791 rfl rfl ?_
  refine s_iload (pc2 := 1794) w dL_law_1792 rfl rfl ?_
  refine s_iconst (pc2 := 1795) (v := 2) w dL_law_1794 rfl rfl ?_
  refine s_iadd (pc2 := 1796) w dL_law_1795 rfl ?_
  refine g_ialoadS (pc2 := 1797) w dL_law_1796 rfl rfl h2 ?_
  rw [sc _, e2]
  refine s_aload_n (pc2 := 1798) w dL_law_1797 rfl rfl ?_
  refine s_iload (pc2 := 1800) w dL_law_1798 rfl rfl ?_
  refine s_iconst (pc2 := 1801) (v := 3) w dL_law_1800 rfl rfl ?_
  refine s_iadd (pc2 := 1802) w dL_law_1801 rfl ?_
  refine g_ialoadS (pc2 := 1803) w dL_law_1802 rfl rfl h3 ?_
  rw [sc _, e3]
  refine r_L_focusOnPlace (pc2 := 1806) w dL_law_1803 rfl hc1 rfl (by omega) hR hok ?_ ?_
  · intro b0 x2 y2 b1
    have sc2 := sc.cx b1.2.1
    refine s_istore (pc2 := 1808) w dL_law_1806 rfl rfl ?_
    dsimp only [gk_s1, gk_s2, gk_cl]
    refine s_aload_n (pc2 := 1809) w dL_law_1808 rfl rfl ?_
    refine s_aload_n (pc2 := 1810) w dL_law_1809 rfl rfl ?_
    refine s_iload (pc2 := 1812) w dL_law_1810 rfl rfl ?_
    refine s_iconst (pc2 := 1813) (v := 1) w dL_law_1812 rfl rfl ?_
    refine s_iadd (pc2 := 1814) w dL_law_1813 rfl ?_
    refine g_ialoadS (pc2 := 1815) w dL_law_1814 rfl rfl h1 ?_
    rw [sc2 _, e1]
    refine s_aload_n (pc2 := 1816) w dL_law_1815 rfl rfl ?_
    refine s_iload (pc2 := 1818) w dL_law_1816 rfl rfl ?_
    refine s_iconst (pc2 := 1819) (v := 2) w dL_law_1818 rfl rfl ?_
    refine s_iadd (pc2 := 1820) w dL_law_1819 rfl ?_
    refine g_ialoadS (pc2 := 1821) w dL_law_1820 rfl rfl h2 ?_
    rw [sc2 _, e2]
    refine s_aload_n (pc2 := 1822) w dL_law_1821 rfl rfl ?_
    refine s_iload (pc2 := 1824) w dL_law_1822 rfl rfl ?_
    refine s_iconst (pc2 := 1825) (v := 3) w dL_law_1824 rfl rfl ?_
    refine s_iadd (pc2 := 1826) w dL_law_1825 rfl ?_
    refine g_ialoadS (pc2 := 1827) w dL_law_1826 rfl rfl h3 ?_
    rw [sc2 _, e3]
    refine r_X11_focusOnPlace (pc2 := 1830) w dL_law_1827 rfl hc2 rfl (hM.cx b1.2.1) hok ?_ ?_
    · intro d0 x3 y3 d1
      refine s_aload_n (pc2 := 1831) w dL_law_1830 rfl rfl ?_
      refine r_X11_thrown (pc2 := 1834) w dL_law_1831 rfl hc3 rfl ?_
      rw [d1.2.1]
      refine s_iload (pc2 := 1836) w dL_law_1834 rfl rfl ?_
      refine s_ic_eq (pc2 := 1839) (tgt := 1841) w dL_law_1836 rfl (by decide) (fun _ => ?_) (fun h0 => absurd (rfl) h0)
      refine s_goto (tgt := 3095) w dL_law_1841 (by decide) ?_
      exact kk _ _ _ _ _ _ (by omega) (LI.st sc hT b1 (fun _ _ _ _ => rfl) d1 (gOK_F1 hok b0.1.1 b0.1.2.2 b0.2))
    · intro d0 x3 y3 d1
      exact absurd b0 d0
  · intro b0 x2 y2 b1
    have sc2 := sc.cx b1.2.1
    refine s_istore (pc2 := 1808) w dL_law_1806 rfl rfl ?_
    dsimp only [gk_s1, gk_s2, gk_cl]
    refine s_aload_n (pc2 := 1809) w dL_law_1808 rfl rfl ?_
    refine s_aload_n (pc2 := 1810) w dL_law_1809 rfl rfl ?_
    refine s_iload (pc2 := 1812) w dL_law_1810 rfl rfl ?_
    refine s_iconst (pc2 := 1813) (v := 1) w dL_law_1812 rfl rfl ?_
    refine s_iadd (pc2 := 1814) w dL_law_1813 rfl ?_
    refine g_ialoadS (pc2 := 1815) w dL_law_1814 rfl rfl h1 ?_
    rw [sc2 _, e1]
    refine s_aload_n (pc2 := 1816) w dL_law_1815 rfl rfl ?_
    refine s_iload (pc2 := 1818) w dL_law_1816 rfl rfl ?_
    refine s_iconst (pc2 := 1819) (v := 2) w dL_law_1818 rfl rfl ?_
    refine s_iadd (pc2 := 1820) w dL_law_1819 rfl ?_
    refine g_ialoadS (pc2 := 1821) w dL_law_1820 rfl rfl h2 ?_
    rw [sc2 _, e2]
    refine s_aload_n (pc2 := 1822) w dL_law_1821 rfl rfl ?_
    refine s_iload (pc2 := 1824) w dL_law_1822 rfl rfl ?_
    refine s_iconst (pc2 := 1825) (v := 3) w dL_law_1824 rfl rfl ?_
    refine s_iadd (pc2 := 1826) w dL_law_1825 rfl ?_
    refine g_ialoadS (pc2 := 1827) w dL_law_1826 rfl rfl h3 ?_
    rw [sc2 _, e3]
    refine r_X11_focusOnPlace (pc2 := 1830) w dL_law_1827 rfl hc2 rfl (hM.cx b1.2.1) hok ?_ ?_
    · intro d0 x3 y3 d1
      exact absurd d0 b0
    · intro d0 x3 y3 d1
      refine s_aload_n (pc2 := 1831) w dL_law_1830 rfl rfl ?_
      refine r_X11_thrown (pc2 := 1834) w dL_law_1831 rfl hc3 rfl ?_
      rw [d1.2.1]
      refine s_iload (pc2 := 1836) w dL_law_1834 rfl rfl ?_
      refine s_ic_eq (pc2 := 1839) (tgt := 1841) w dL_law_1836 rfl (by decide) (fun _ => ?_) (fun h0 => absurd (rfl) h0)
      refine s_goto (tgt := 3095) w dL_law_1841 (by decide) ?_
      exact kk _ _ _ _ _ _ (by omega) (LI.st sc hT b1 (fun _ _ _ _ => rfl) d1 hok)

theorem lc_23 (w : gk_W cL_law pL cs (fun _ _ => none) rt uf (some Ls) K V) (hc1 : cs 232 = some (0, 0, 2, 1, S_L_focusOnDirection)) (hc2 : cs 235 = some (1, 10, 2, 0, S_X11_focusOnDirection)) (hc3 : cs 152 = some (1, 10, 1, 0, S_X11_thrown)) {a1 : Int32} (h1 : vp_in (i + 1) Ls) (e1 : sv (i + 1).toNatClampNeg = a1) (hu : u + 6 ≤ uf) (hI : LI sv x y) (kk : ∀ (x2 : gk_X) (y2 : gk_Y) (q6 q7 q8 : Option Value) (u2 : Nat), u2 ≤ u + 6 → LI sv x2 y2 → V 3095 [some (.ref 5000), some (.ref 0), some (.ref 189), some (.ref 200), some (.ref 201), some (.int i), q6, q7, q8] [] 202 gk_fT x2 y2 u2) : V 1844 [some (.ref 5000), some (.ref 0), some (.ref 189), some (.ref 200), some (.ref 201), some (.int i), q6, q7, q8] [] 202 gk_fT x y u := by
  obtain ⟨sc, hT, g, hM, hR, hok⟩ := hI
  refine s_aload_n (pc2 := 1845) w dL_law_1844 rfl rfl ?_
  refine s_aload_n (pc2 := 1846) w dL_law_1845 rfl rfl ?_
  refine s_iload (pc2 := 1848) w dL_law_1846 rfl rfl ?_
  refine s_iconst (pc2 := 1849) (v := 1) w dL_law_1848 rfl rfl ?_
  refine s_iadd (pc2 := 1850) w dL_law_1849 rfl ?_
  refine g_ialoadS (pc2 := 1851) w dL_law_1850 rfl rfl h1 ?_
  rw [sc _, e1]
  refine r_L_focusOnDirection (pc2 := 1854) w dL_law_1851 rfl hc1 rfl (by omega) hR hok ?_ ?_
  · intro b0 x2 y2 b1
    have sc2 := sc.cx b1.2.1
    refine s_istore (pc2 := 1856) w dL_law_1854 rfl rfl ?_
    dsimp only [gk_s1, gk_s2, gk_cl]
    refine s_aload_n (pc2 := 1857) w dL_law_1856 rfl rfl ?_
    refine s_aload_n (pc2 := 1858) w dL_law_1857 rfl rfl ?_
    refine s_iload (pc2 := 1860) w dL_law_1858 rfl rfl ?_
    refine s_iconst (pc2 := 1861) (v := 1) w dL_law_1860 rfl rfl ?_
    refine s_iadd (pc2 := 1862) w dL_law_1861 rfl ?_
    refine g_ialoadS (pc2 := 1863) w dL_law_1862 rfl rfl h1 ?_
    rw [sc2 _, e1]
    refine r_X11_focusOnDirection (pc2 := 1866) w dL_law_1863 rfl hc2 rfl (hM.cx b1.2.1) hok ?_ ?_
    · intro d0 x3 y3 d1
      refine s_aload_n (pc2 := 1867) w dL_law_1866 rfl rfl ?_
      refine r_X11_thrown (pc2 := 1870) w dL_law_1867 rfl hc3 rfl ?_
      rw [d1.2.1]
      refine s_iload (pc2 := 1872) w dL_law_1870 rfl rfl ?_
      refine s_ic_eq (pc2 := 1875) (tgt := 1877) w dL_law_1872 rfl (by decide) (fun _ => ?_) (fun h0 => absurd (rfl) h0)
      refine s_goto (tgt := 3095) w dL_law_1877 (by decide) ?_
      exact kk _ _ _ _ _ _ (by omega) (LI.st sc hT b1 (fun _ _ _ _ => rfl) d1 (gOK_F2 hok b0))
    · intro d0 x3 y3 d1
      exact absurd b0 d0
  · intro b0 x2 y2 b1
    have sc2 := sc.cx b1.2.1
    refine s_istore (pc2 := 1856) w dL_law_1854 rfl rfl ?_
    dsimp only [gk_s1, gk_s2, gk_cl]
    refine s_aload_n (pc2 := 1857) w dL_law_1856 rfl rfl ?_
    refine s_aload_n (pc2 := 1858) w dL_law_1857 rfl rfl ?_
    refine s_iload (pc2 := 1860) w dL_law_1858 rfl rfl ?_
    refine s_iconst (pc2 := 1861) (v := 1) w dL_law_1860 rfl rfl ?_
    refine s_iadd (pc2 := 1862) w dL_law_1861 rfl ?_
    refine g_ialoadS (pc2 := 1863) w dL_law_1862 rfl rfl h1 ?_
    rw [sc2 _, e1]
    refine r_X11_focusOnDirection (pc2 := 1866) w dL_law_1863 rfl hc2 rfl (hM.cx b1.2.1) hok ?_ ?_
    · intro d0 x3 y3 d1
      exact absurd d0 b0
    · intro d0 x3 y3 d1
      refine s_aload_n (pc2 := 1867) w dL_law_1866 rfl rfl ?_
      refine r_X11_thrown (pc2 := 1870) w dL_law_1867 rfl hc3 rfl ?_
      rw [d1.2.1]
      refine s_iload (pc2 := 1872) w dL_law_1870 rfl rfl ?_
      refine s_ic_eq (pc2 := 1875) (tgt := 1877) w dL_law_1872 rfl (by decide) (fun _ => ?_) (fun h0 => absurd (rfl) h0)
      refine s_goto (tgt := 3095) w dL_law_1877 (by decide) ?_
      exact kk _ _ _ _ _ _ (by omega) (LI.st sc hT b1 (fun _ _ _ _ => rfl) d1 hok)

theorem lc_25 (w : gk_W cL_law pL cs (fun _ _ => none) rt uf (some Ls) K V) (hc1 : cs 240 = some (0, 0, 4, 2, S_L_sampleNumber)) (hc2 : cs 242 = some (1, 10, 3, 0, S_X11_sampleNumber)) (hc3 : cs 152 = some (1, 10, 1, 0, S_X11_thrown)) {a1 a2 : Int32} (h1 : vp_in (i + 1) Ls) (e1 : sv (i + 1).toNatClampNeg = a1) (h2 : vp_in (i + 2) Ls) (e2 : sv (i + 2).toNatClampNeg = a2) (hu : u + 6 ≤ uf) (hI : LI sv x y) (kk : ∀ (x2 : gk_X) (y2 : gk_Y) (q6 q7 q8 : Option Value) (u2 : Nat), u2 ≤ u + 6 → LI sv x2 y2 → V 3095 [some (.ref 5000), some (.ref 0), some (.ref 189), some (.ref 200), some (.ref 201), some (.int i), q6, q7, q8] [] 202 gk_fT x2 y2 u2) : V 1921 [some (.ref 5000), some (.ref 0), some (.ref 189), some (.ref 200), some (.ref 201), some (.int i), q6, q7, q8] [] 202 gk_fT x y u := by
  obtain ⟨sc, hT, g, hM, hR, hok⟩ := hI
  refine s_aload_n (pc2 := 1922) w dL_law_1921 rfl rfl ?_
  refine s_aload_n (pc2 := 1923) w dL_law_1922 rfl rfl ?_
  refine s_iload (pc2 := 1925) w dL_law_1923 rfl rfl ?_
  refine s_iconst (pc2 := 1926) (v := 1) w dL_law_1925 rfl rfl ?_
  refine s_iadd (pc2 := 1927) w dL_law_1926 rfl ?_
  refine g_ialoadS (pc2 := 1928) w dL_law_1927 rfl rfl h1 ?_
  rw [sc _, e1]
  refine s_aload_n (pc2 := 1929) w dL_law_1928 rfl rfl ?_
  refine s_iload (pc2 := 1931) w dL_law_1929 rfl rfl ?_
  refine s_iconst (pc2 := 1932) (v := 2) w dL_law_1931 rfl rfl ?_
  refine s_iadd (pc2 := 1933) w dL_law_1932 rfl ?_
  refine g_ialoadS (pc2 := 1934) w dL_law_1933 rfl rfl h2 ?_
  rw [sc _, e2]
  refine s_aload_n (pc2 := 1935) w dL_law_1934 rfl rfl ?_
  refine r_L_sampleNumber (pc2 := 1938) w dL_law_1935 rfl hc1 rfl (by omega) hR hok ?_ ?_ ?_
  · intro b0 b1 x2 y2 b2
    have sc2 := sc.cx b2.2.1
    refine s_istore (pc2 := 1940) w dL_law_1938 rfl rfl ?_
    dsimp only [gk_s1, gk_s2, gk_cl]
    refine s_aload_n (pc2 := 1941) w dL_law_1940 rfl rfl ?_
    refine s_aload_n (pc2 := 1942) w dL_law_1941 rfl rfl ?_
    refine s_iload (pc2 := 1944) w dL_law_1942 rfl rfl ?_
    refine s_iconst (pc2 := 1945) (v := 1) w dL_law_1944 rfl rfl ?_
    refine s_iadd (pc2 := 1946) w dL_law_1945 rfl ?_
    refine g_ialoadS (pc2 := 1947) w dL_law_1946 rfl rfl h1 ?_
    rw [sc2 _, e1]
    refine s_aload_n (pc2 := 1948) w dL_law_1947 rfl rfl ?_
    refine s_iload (pc2 := 1950) w dL_law_1948 rfl rfl ?_
    refine s_iconst (pc2 := 1951) (v := 2) w dL_law_1950 rfl rfl ?_
    refine s_iadd (pc2 := 1952) w dL_law_1951 rfl ?_
    refine g_ialoadS (pc2 := 1953) w dL_law_1952 rfl rfl h2 ?_
    rw [sc2 _, e2]
    refine r_X11_sampleNumber (pc2 := 1956) w dL_law_1953 rfl hc2 rfl (hM.cx b2.2.1) hok ?_ ?_ ?_
    · intro d0 d1 x3 y3 d2
      refine s_istore (pc2 := 1958) w dL_law_1956 rfl rfl ?_
      dsimp only [gk_s1, gk_s2, gk_cl]
      refine s_aload_n (pc2 := 1959) w dL_law_1958 rfl rfl ?_
      refine r_X11_thrown (pc2 := 1962) w dL_law_1959 rfl hc3 rfl ?_
      rw [d2.2.1]
      refine s_iload (pc2 := 1964) w dL_law_1962 rfl rfl ?_
      refine s_ic_eq (pc2 := 1967) (tgt := 1969) w dL_law_1964 rfl (by decide) (fun _ => ?_) (fun h0 => absurd (rfl) h0)
      refine s_iload (pc2 := 1971) w dL_law_1969 rfl rfl ?_
      refine s_if_ne (pc2 := 1974) (tgt := 1986) w dL_law_1971 rfl (by decide) (fun h0 => absurd (rfl) h0) (fun _ => ?_)
      refine s_aload_n (pc2 := 1975) w dL_law_1974 rfl rfl ?_
      refine s_iconst (pc2 := 1976) (v := 0) w dL_law_1975 rfl rfl ?_
      refine m_laloadN (pc2 := 1977) (t := 0) (N := 1) w dL_law_1976 rfl rfl rfl rfl (by decide) rfl ?_
      rw [(d2.2.2.2 200 0 (by decide)).trans (gk_uy_in _ _ _ _)]
      refine s_iload (pc2 := 1979) w dL_law_1977 rfl rfl ?_
      refine s_i2l (pc2 := 1980) w dL_law_1979 rfl ?_
      refine s_lcmp (pc2 := 1981) w dL_law_1980 rfl ?_
      refine s_if_eq (pc2 := 1984) (tgt := 1986) w dL_law_1981 rfl (by decide) (fun _ => ?_) (fun h0 => absurd (lcm_self _) h0)
      refine s_goto (tgt := 3095) w dL_law_1986 (by decide) ?_
      exact kk _ _ _ _ _ _ (by omega) (LI.st sc hT b2 (uy_out (Or.inl rfl)) d2 hok)
    · intro d0 x3 y3 d1
      exact absurd b0 d0
    · intro d0 d1 x3 y3 d2
      exact absurd b1 d1
  · intro b0 x2 y2 b1
    have sc2 := sc.cx b1.2.1
    refine s_istore (pc2 := 1940) w dL_law_1938 rfl rfl ?_
    dsimp only [gk_s1, gk_s2, gk_cl]
    refine s_aload_n (pc2 := 1941) w dL_law_1940 rfl rfl ?_
    refine s_aload_n (pc2 := 1942) w dL_law_1941 rfl rfl ?_
    refine s_iload (pc2 := 1944) w dL_law_1942 rfl rfl ?_
    refine s_iconst (pc2 := 1945) (v := 1) w dL_law_1944 rfl rfl ?_
    refine s_iadd (pc2 := 1946) w dL_law_1945 rfl ?_
    refine g_ialoadS (pc2 := 1947) w dL_law_1946 rfl rfl h1 ?_
    rw [sc2 _, e1]
    refine s_aload_n (pc2 := 1948) w dL_law_1947 rfl rfl ?_
    refine s_iload (pc2 := 1950) w dL_law_1948 rfl rfl ?_
    refine s_iconst (pc2 := 1951) (v := 2) w dL_law_1950 rfl rfl ?_
    refine s_iadd (pc2 := 1952) w dL_law_1951 rfl ?_
    refine g_ialoadS (pc2 := 1953) w dL_law_1952 rfl rfl h2 ?_
    rw [sc2 _, e2]
    refine r_X11_sampleNumber (pc2 := 1956) w dL_law_1953 rfl hc2 rfl (hM.cx b1.2.1) hok ?_ ?_ ?_
    · intro d0 d1 x3 y3 d2
      exact absurd d0 b0
    · intro d0 x3 y3 d1
      refine s_istore (pc2 := 1958) w dL_law_1956 rfl rfl ?_
      dsimp only [gk_s1, gk_s2, gk_cl]
      refine s_aload_n (pc2 := 1959) w dL_law_1958 rfl rfl ?_
      refine r_X11_thrown (pc2 := 1962) w dL_law_1959 rfl hc3 rfl ?_
      rw [d1.2.1]
      refine s_iload (pc2 := 1964) w dL_law_1962 rfl rfl ?_
      refine s_ic_eq (pc2 := 1967) (tgt := 1969) w dL_law_1964 rfl (by decide) (fun _ => ?_) (fun h0 => absurd (rfl) h0)
      refine s_iload (pc2 := 1971) w dL_law_1969 rfl rfl ?_
      refine s_if_ne (pc2 := 1974) (tgt := 1986) w dL_law_1971 rfl (by decide) (fun _ => ?_) (fun h0 => absurd h0 (by decide))
      refine s_goto (tgt := 3095) w dL_law_1986 (by decide) ?_
      exact kk _ _ _ _ _ _ (by omega) (LI.st sc hT b1 (fun _ _ _ _ => rfl) d1 hok)
    · intro d0 d1 x3 y3 d2
      exact absurd d0 b0
  · intro b0 b1 x2 y2 b2
    have sc2 := sc.cx b2.2.1
    refine s_istore (pc2 := 1940) w dL_law_1938 rfl rfl ?_
    dsimp only [gk_s1, gk_s2, gk_cl]
    refine s_aload_n (pc2 := 1941) w dL_law_1940 rfl rfl ?_
    refine s_aload_n (pc2 := 1942) w dL_law_1941 rfl rfl ?_
    refine s_iload (pc2 := 1944) w dL_law_1942 rfl rfl ?_
    refine s_iconst (pc2 := 1945) (v := 1) w dL_law_1944 rfl rfl ?_
    refine s_iadd (pc2 := 1946) w dL_law_1945 rfl ?_
    refine g_ialoadS (pc2 := 1947) w dL_law_1946 rfl rfl h1 ?_
    rw [sc2 _, e1]
    refine s_aload_n (pc2 := 1948) w dL_law_1947 rfl rfl ?_
    refine s_iload (pc2 := 1950) w dL_law_1948 rfl rfl ?_
    refine s_iconst (pc2 := 1951) (v := 2) w dL_law_1950 rfl rfl ?_
    refine s_iadd (pc2 := 1952) w dL_law_1951 rfl ?_
    refine g_ialoadS (pc2 := 1953) w dL_law_1952 rfl rfl h2 ?_
    rw [sc2 _, e2]
    refine r_X11_sampleNumber (pc2 := 1956) w dL_law_1953 rfl hc2 rfl (hM.cx b2.2.1) hok ?_ ?_ ?_
    · intro d0 d1 x3 y3 d2
      exact absurd d1 b1
    · intro d0 x3 y3 d1
      exact absurd b0 d0
    · intro d0 d1 x3 y3 d2
      refine s_istore (pc2 := 1958) w dL_law_1956 rfl rfl ?_
      dsimp only [gk_s1, gk_s2, gk_cl]
      refine s_aload_n (pc2 := 1959) w dL_law_1958 rfl rfl ?_
      refine r_X11_thrown (pc2 := 1962) w dL_law_1959 rfl hc3 rfl ?_
      rw [d2.2.1]
      refine s_iload (pc2 := 1964) w dL_law_1962 rfl rfl ?_
      refine s_ic_eq (pc2 := 1967) (tgt := 1969) w dL_law_1964 rfl (by decide) (fun _ => ?_) (fun h0 => absurd (rfl) h0)
      refine s_iload (pc2 := 1971) w dL_law_1969 rfl rfl ?_
      refine s_if_ne (pc2 := 1974) (tgt := 1986) w dL_law_1971 rfl (by decide) (fun _ => ?_) (fun h0 => absurd h0 (by decide))
      refine s_goto (tgt := 3095) w dL_law_1986 (by decide) ?_
      exact kk _ _ _ _ _ _ (by omega) (LI.st sc hT b2 (fun _ _ _ _ => rfl) d2 hok)

theorem lc_26 (w : gk_W cL_law pL cs (fun _ _ => none) rt uf (some Ls) K V) (hc1 : cs 243 = some (0, 0, 4, 2, S_L_part)) (hc2 : cs 245 = some (1, 10, 3, 0, S_X11_part)) (hc3 : cs 152 = some (1, 10, 1, 0, S_X11_thrown)) {a1 a2 : Int32} (h1 : vp_in (i + 1) Ls) (e1 : sv (i + 1).toNatClampNeg = a1) (h2 : vp_in (i + 2) Ls) (e2 : sv (i + 2).toNatClampNeg = a2) (hu : u + 6 ≤ uf) (hI : LI sv x y) (kk : ∀ (x2 : gk_X) (y2 : gk_Y) (q6 q7 q8 : Option Value) (u2 : Nat), u2 ≤ u + 6 → LI sv x2 y2 → V 3095 [some (.ref 5000), some (.ref 0), some (.ref 189), some (.ref 200), some (.ref 201), some (.int i), q6, q7, q8] [] 202 gk_fT x2 y2 u2) : V 1989 [some (.ref 5000), some (.ref 0), some (.ref 189), some (.ref 200), some (.ref 201), some (.int i), q6, q7, q8] [] 202 gk_fT x y u := by
  obtain ⟨sc, hT, g, hM, hR, hok⟩ := hI
  refine s_aload_n (pc2 := 1990) w dL_law_1989 rfl rfl ?_
  refine s_aload_n (pc2 := 1991) w dL_law_1990 rfl rfl ?_
  refine s_iload (pc2 := 1993) w dL_law_1991 rfl rfl ?_
  refine s_iconst (pc2 := 1994) (v := 1) w dL_law_1993 rfl rfl ?_
  refine s_iadd (pc2 := 1995) w dL_law_1994 rfl ?_
  refine g_ialoadS (pc2 := 1996) w dL_law_1995 rfl rfl h1 ?_
  rw [sc _, e1]
  refine s_aload_n (pc2 := 1997) w dL_law_1996 rfl rfl ?_
  refine s_iload (pc2 := 1999) w dL_law_1997 rfl rfl ?_
  refine s_iconst (pc2 := 2000) (v := 2) w dL_law_1999 rfl rfl ?_
  refine s_iadd (pc2 := 2001) w dL_law_2000 rfl ?_
  refine g_ialoadS (pc2 := 2002) w dL_law_2001 rfl rfl h2 ?_
  rw [sc _, e2]
  refine s_aload_n (pc2 := 2003) w dL_law_2002 rfl rfl ?_
  refine r_L_part (pc2 := 2006) w dL_law_2003 rfl hc1 rfl (by omega) hR hok ?_ ?_ ?_
  · intro b0 b1 x2 y2 b2
    have sc2 := sc.cx b2.2.1
    refine s_istore (pc2 := 2008) w dL_law_2006 rfl rfl ?_
    dsimp only [gk_s1, gk_s2, gk_cl]
    refine s_aload_n (pc2 := 2009) w dL_law_2008 rfl rfl ?_
    refine s_aload_n (pc2 := 2010) w dL_law_2009 rfl rfl ?_
    refine s_iload (pc2 := 2012) w dL_law_2010 rfl rfl ?_
    refine s_iconst (pc2 := 2013) (v := 1) w dL_law_2012 rfl rfl ?_
    refine s_iadd (pc2 := 2014) w dL_law_2013 rfl ?_
    refine g_ialoadS (pc2 := 2015) w dL_law_2014 rfl rfl h1 ?_
    rw [sc2 _, e1]
    refine s_aload_n (pc2 := 2016) w dL_law_2015 rfl rfl ?_
    refine s_iload (pc2 := 2018) w dL_law_2016 rfl rfl ?_
    refine s_iconst (pc2 := 2019) (v := 2) w dL_law_2018 rfl rfl ?_
    refine s_iadd (pc2 := 2020) w dL_law_2019 rfl ?_
    refine g_ialoadS (pc2 := 2021) w dL_law_2020 rfl rfl h2 ?_
    rw [sc2 _, e2]
    refine r_X11_part (pc2 := 2024) w dL_law_2021 rfl hc2 rfl (hM.cx b2.2.1) hok ?_ ?_ ?_
    · intro d0 d1 x3 y3 d2
      refine s_istore (pc2 := 2026) w dL_law_2024 rfl rfl ?_
      dsimp only [gk_s1, gk_s2, gk_cl]
      refine s_aload_n (pc2 := 2027) w dL_law_2026 rfl rfl ?_
      refine r_X11_thrown (pc2 := 2030) w dL_law_2027 rfl hc3 rfl ?_
      rw [d2.2.1]
      refine s_iload (pc2 := 2032) w dL_law_2030 rfl rfl ?_
      refine s_ic_eq (pc2 := 2035) (tgt := 2037) w dL_law_2032 rfl (by decide) (fun _ => ?_) (fun h0 => absurd (rfl) h0)
      refine s_iload (pc2 := 2039) w dL_law_2037 rfl rfl ?_
      refine s_if_ne (pc2 := 2042) (tgt := 2054) w dL_law_2039 rfl (by decide) (fun h0 => absurd (rfl) h0) (fun _ => ?_)
      refine s_aload_n (pc2 := 2043) w dL_law_2042 rfl rfl ?_
      refine s_iconst (pc2 := 2044) (v := 0) w dL_law_2043 rfl rfl ?_
      refine m_laloadN (pc2 := 2045) (t := 0) (N := 1) w dL_law_2044 rfl rfl rfl rfl (by decide) rfl ?_
      rw [(d2.2.2.2 200 0 (by decide)).trans (gk_uy_in _ _ _ _)]
      refine s_iload (pc2 := 2047) w dL_law_2045 rfl rfl ?_
      refine s_i2l (pc2 := 2048) w dL_law_2047 rfl ?_
      refine s_lcmp (pc2 := 2049) w dL_law_2048 rfl ?_
      refine s_if_eq (pc2 := 2052) (tgt := 2054) w dL_law_2049 rfl (by decide) (fun _ => ?_) (fun h0 => absurd (lcm_self _) h0)
      refine s_goto (tgt := 3095) w dL_law_2054 (by decide) ?_
      exact kk _ _ _ _ _ _ (by omega) (LI.st sc hT b2 (uy_out (Or.inl rfl)) d2 hok)
    · intro d0 x3 y3 d1
      exact absurd b0 d0
    · intro d0 d1 x3 y3 d2
      exact absurd b1 d1
  · intro b0 x2 y2 b1
    have sc2 := sc.cx b1.2.1
    refine s_istore (pc2 := 2008) w dL_law_2006 rfl rfl ?_
    dsimp only [gk_s1, gk_s2, gk_cl]
    refine s_aload_n (pc2 := 2009) w dL_law_2008 rfl rfl ?_
    refine s_aload_n (pc2 := 2010) w dL_law_2009 rfl rfl ?_
    refine s_iload (pc2 := 2012) w dL_law_2010 rfl rfl ?_
    refine s_iconst (pc2 := 2013) (v := 1) w dL_law_2012 rfl rfl ?_
    refine s_iadd (pc2 := 2014) w dL_law_2013 rfl ?_
    refine g_ialoadS (pc2 := 2015) w dL_law_2014 rfl rfl h1 ?_
    rw [sc2 _, e1]
    refine s_aload_n (pc2 := 2016) w dL_law_2015 rfl rfl ?_
    refine s_iload (pc2 := 2018) w dL_law_2016 rfl rfl ?_
    refine s_iconst (pc2 := 2019) (v := 2) w dL_law_2018 rfl rfl ?_
    refine s_iadd (pc2 := 2020) w dL_law_2019 rfl ?_
    refine g_ialoadS (pc2 := 2021) w dL_law_2020 rfl rfl h2 ?_
    rw [sc2 _, e2]
    refine r_X11_part (pc2 := 2024) w dL_law_2021 rfl hc2 rfl (hM.cx b1.2.1) hok ?_ ?_ ?_
    · intro d0 d1 x3 y3 d2
      exact absurd d0 b0
    · intro d0 x3 y3 d1
      refine s_istore (pc2 := 2026) w dL_law_2024 rfl rfl ?_
      dsimp only [gk_s1, gk_s2, gk_cl]
      refine s_aload_n (pc2 := 2027) w dL_law_2026 rfl rfl ?_
      refine r_X11_thrown (pc2 := 2030) w dL_law_2027 rfl hc3 rfl ?_
      rw [d1.2.1]
      refine s_iload (pc2 := 2032) w dL_law_2030 rfl rfl ?_
      refine s_ic_eq (pc2 := 2035) (tgt := 2037) w dL_law_2032 rfl (by decide) (fun _ => ?_) (fun h0 => absurd (rfl) h0)
      refine s_iload (pc2 := 2039) w dL_law_2037 rfl rfl ?_
      refine s_if_ne (pc2 := 2042) (tgt := 2054) w dL_law_2039 rfl (by decide) (fun _ => ?_) (fun h0 => absurd h0 (by decide))
      refine s_goto (tgt := 3095) w dL_law_2054 (by decide) ?_
      exact kk _ _ _ _ _ _ (by omega) (LI.st sc hT b1 (fun _ _ _ _ => rfl) d1 hok)
    · intro d0 d1 x3 y3 d2
      exact absurd d0 b0
  · intro b0 b1 x2 y2 b2
    have sc2 := sc.cx b2.2.1
    refine s_istore (pc2 := 2008) w dL_law_2006 rfl rfl ?_
    dsimp only [gk_s1, gk_s2, gk_cl]
    refine s_aload_n (pc2 := 2009) w dL_law_2008 rfl rfl ?_
    refine s_aload_n (pc2 := 2010) w dL_law_2009 rfl rfl ?_
    refine s_iload (pc2 := 2012) w dL_law_2010 rfl rfl ?_
    refine s_iconst (pc2 := 2013) (v := 1) w dL_law_2012 rfl rfl ?_
    refine s_iadd (pc2 := 2014) w dL_law_2013 rfl ?_
    refine g_ialoadS (pc2 := 2015) w dL_law_2014 rfl rfl h1 ?_
    rw [sc2 _, e1]
    refine s_aload_n (pc2 := 2016) w dL_law_2015 rfl rfl ?_
    refine s_iload (pc2 := 2018) w dL_law_2016 rfl rfl ?_
    refine s_iconst (pc2 := 2019) (v := 2) w dL_law_2018 rfl rfl ?_
    refine s_iadd (pc2 := 2020) w dL_law_2019 rfl ?_
    refine g_ialoadS (pc2 := 2021) w dL_law_2020 rfl rfl h2 ?_
    rw [sc2 _, e2]
    refine r_X11_part (pc2 := 2024) w dL_law_2021 rfl hc2 rfl (hM.cx b2.2.1) hok ?_ ?_ ?_
    · intro d0 d1 x3 y3 d2
      exact absurd d1 b1
    · intro d0 x3 y3 d1
      exact absurd b0 d0
    · intro d0 d1 x3 y3 d2
      refine s_istore (pc2 := 2026) w dL_law_2024 rfl rfl ?_
      dsimp only [gk_s1, gk_s2, gk_cl]
      refine s_aload_n (pc2 := 2027) w dL_law_2026 rfl rfl ?_
      refine r_X11_thrown (pc2 := 2030) w dL_law_2027 rfl hc3 rfl ?_
      rw [d2.2.1]
      refine s_iload (pc2 := 2032) w dL_law_2030 rfl rfl ?_
      refine s_ic_eq (pc2 := 2035) (tgt := 2037) w dL_law_2032 rfl (by decide) (fun _ => ?_) (fun h0 => absurd (rfl) h0)
      refine s_iload (pc2 := 2039) w dL_law_2037 rfl rfl ?_
      refine s_if_ne (pc2 := 2042) (tgt := 2054) w dL_law_2039 rfl (by decide) (fun _ => ?_) (fun h0 => absurd h0 (by decide))
      refine s_goto (tgt := 3095) w dL_law_2054 (by decide) ?_
      exact kk _ _ _ _ _ _ (by omega) (LI.st sc hT b2 (fun _ _ _ _ => rfl) d2 hok)

theorem lc_27 (w : gk_W cL_law pL cs (fun _ _ => none) rt uf (some Ls) K V) (hc1 : cs 246 = some (0, 0, 3, 1, S_L_beam)) (hc2 : cs 248 = some (1, 10, 2, 0, S_X11_beam)) (hc3 : cs 152 = some (1, 10, 1, 0, S_X11_thrown)) {a1 : Int32} (h1 : vp_in (i + 1) Ls) (e1 : sv (i + 1).toNatClampNeg = a1) (hu : u + 6 ≤ uf) (hI : LI sv x y) (kk : ∀ (x2 : gk_X) (y2 : gk_Y) (q6 q7 q8 : Option Value) (u2 : Nat), u2 ≤ u + 6 → LI sv x2 y2 → V 3095 [some (.ref 5000), some (.ref 0), some (.ref 189), some (.ref 200), some (.ref 201), some (.int i), q6, q7, q8] [] 202 gk_fT x2 y2 u2) : V 2057 [some (.ref 5000), some (.ref 0), some (.ref 189), some (.ref 200), some (.ref 201), some (.int i), q6, q7, q8] [] 202 gk_fT x y u := by
  obtain ⟨sc, hT, g, hM, hR, hok⟩ := hI
  refine s_aload_n (pc2 := 2058) w dL_law_2057 rfl rfl ?_
  refine s_aload_n (pc2 := 2059) w dL_law_2058 rfl rfl ?_
  refine s_iload (pc2 := 2061) w dL_law_2059 rfl rfl ?_
  refine s_iconst (pc2 := 2062) (v := 1) w dL_law_2061 rfl rfl ?_
  refine s_iadd (pc2 := 2063) w dL_law_2062 rfl ?_
  refine g_ialoadS (pc2 := 2064) w dL_law_2063 rfl rfl h1 ?_
  rw [sc _, e1]
  refine s_aload_n (pc2 := 2065) w dL_law_2064 rfl rfl ?_
  refine r_L_beam (pc2 := 2068) w dL_law_2065 rfl hc1 rfl (by omega) hR hok ?_ ?_
  · intro b0 x2 y2 b1
    have sc2 := sc.cx b1.2.1
    refine s_istore (pc2 := 2070) w dL_law_2068 rfl rfl ?_
    dsimp only [gk_s1, gk_s2, gk_cl]
    refine s_aload_n (pc2 := 2071) w dL_law_2070 rfl rfl ?_
    refine s_aload_n (pc2 := 2072) w dL_law_2071 rfl rfl ?_
    refine s_iload (pc2 := 2074) w dL_law_2072 rfl rfl ?_
    refine s_iconst (pc2 := 2075) (v := 1) w dL_law_2074 rfl rfl ?_
    refine s_iadd (pc2 := 2076) w dL_law_2075 rfl ?_
    refine g_ialoadS (pc2 := 2077) w dL_law_2076 rfl rfl h1 ?_
    rw [sc2 _, e1]
    refine r_X11_beam (pc2 := 2080) w dL_law_2077 rfl hc2 rfl (hM.cx b1.2.1) hok ?_ ?_
    · intro d0 x3 y3 d1
      refine s_istore (pc2 := 2082) w dL_law_2080 rfl rfl ?_
      dsimp only [gk_s1, gk_s2, gk_cl]
      refine s_aload_n (pc2 := 2083) w dL_law_2082 rfl rfl ?_
      refine r_X11_thrown (pc2 := 2086) w dL_law_2083 rfl hc3 rfl ?_
      rw [d1.2.1]
      refine s_iload (pc2 := 2088) w dL_law_2086 rfl rfl ?_
      refine s_ic_eq (pc2 := 2091) (tgt := 2093) w dL_law_2088 rfl (by decide) (fun _ => ?_) (fun h0 => absurd (rfl) h0)
      refine s_iload (pc2 := 2095) w dL_law_2093 rfl rfl ?_
      refine s_if_ne (pc2 := 2098) (tgt := 2110) w dL_law_2095 rfl (by decide) (fun h0 => absurd (rfl) h0) (fun _ => ?_)
      refine s_aload_n (pc2 := 2099) w dL_law_2098 rfl rfl ?_
      refine s_iconst (pc2 := 2100) (v := 0) w dL_law_2099 rfl rfl ?_
      refine m_laloadN (pc2 := 2101) (t := 0) (N := 1) w dL_law_2100 rfl rfl rfl rfl (by decide) rfl ?_
      rw [(d1.2.2.2 200 0 (by decide)).trans (gk_uy_in _ _ _ _)]
      refine s_iload (pc2 := 2103) w dL_law_2101 rfl rfl ?_
      refine s_i2l (pc2 := 2104) w dL_law_2103 rfl ?_
      refine s_lcmp (pc2 := 2105) w dL_law_2104 rfl ?_
      refine s_if_eq (pc2 := 2108) (tgt := 2110) w dL_law_2105 rfl (by decide) (fun _ => ?_) (fun h0 => absurd (lcm_self _) h0)
      refine s_goto (tgt := 3095) w dL_law_2110 (by decide) ?_
      exact kk _ _ _ _ _ _ (by omega) (LI.st sc hT b1 (uy_out (Or.inl rfl)) d1 hok)
    · intro d0 x3 y3 d1
      exact absurd b0 d0
  · intro b0 x2 y2 b1
    have sc2 := sc.cx b1.2.1
    refine s_istore (pc2 := 2070) w dL_law_2068 rfl rfl ?_
    dsimp only [gk_s1, gk_s2, gk_cl]
    refine s_aload_n (pc2 := 2071) w dL_law_2070 rfl rfl ?_
    refine s_aload_n (pc2 := 2072) w dL_law_2071 rfl rfl ?_
    refine s_iload (pc2 := 2074) w dL_law_2072 rfl rfl ?_
    refine s_iconst (pc2 := 2075) (v := 1) w dL_law_2074 rfl rfl ?_
    refine s_iadd (pc2 := 2076) w dL_law_2075 rfl ?_
    refine g_ialoadS (pc2 := 2077) w dL_law_2076 rfl rfl h1 ?_
    rw [sc2 _, e1]
    refine r_X11_beam (pc2 := 2080) w dL_law_2077 rfl hc2 rfl (hM.cx b1.2.1) hok ?_ ?_
    · intro d0 x3 y3 d1
      exact absurd d0 b0
    · intro d0 x3 y3 d1
      refine s_istore (pc2 := 2082) w dL_law_2080 rfl rfl ?_
      dsimp only [gk_s1, gk_s2, gk_cl]
      refine s_aload_n (pc2 := 2083) w dL_law_2082 rfl rfl ?_
      refine r_X11_thrown (pc2 := 2086) w dL_law_2083 rfl hc3 rfl ?_
      rw [d1.2.1]
      refine s_iload (pc2 := 2088) w dL_law_2086 rfl rfl ?_
      refine s_ic_eq (pc2 := 2091) (tgt := 2093) w dL_law_2088 rfl (by decide) (fun _ => ?_) (fun h0 => absurd (rfl) h0)
      refine s_iload (pc2 := 2095) w dL_law_2093 rfl rfl ?_
      refine s_if_ne (pc2 := 2098) (tgt := 2110) w dL_law_2095 rfl (by decide) (fun _ => ?_) (fun h0 => absurd h0 (by decide))
      refine s_goto (tgt := 3095) w dL_law_2110 (by decide) ?_
      exact kk _ _ _ _ _ _ (by omega) (LI.st sc hT b1 (fun _ _ _ _ => rfl) d1 hok)

theorem lc_28 (w : gk_W cL_law pL cs (fun _ _ => none) rt uf (some Ls) K V) (hc1 : cs 249 = some (0, 0, 5, 3, S_L_measureBeam)) (hc2 : cs 251 = some (1, 10, 4, 0, S_X11_measureBeam)) (hc3 : cs 152 = some (1, 10, 1, 0, S_X11_thrown)) {a1 a2 a3 : Int32} (h1 : vp_in (i + 1) Ls) (e1 : sv (i + 1).toNatClampNeg = a1) (h2 : vp_in (i + 2) Ls) (e2 : sv (i + 2).toNatClampNeg = a2) (h3 : vp_in (i + 3) Ls) (e3 : sv (i + 3).toNatClampNeg = a3) (hu : u + 6 ≤ uf) (hI : LI sv x y) (kk : ∀ (x2 : gk_X) (y2 : gk_Y) (q6 q7 q8 : Option Value) (u2 : Nat), u2 ≤ u + 6 → LI sv x2 y2 → V 3095 [some (.ref 5000), some (.ref 0), some (.ref 189), some (.ref 200), some (.ref 201), some (.int i), q6, q7, q8] [] 202 gk_fT x2 y2 u2) : V 2113 [some (.ref 5000), some (.ref 0), some (.ref 189), some (.ref 200), some (.ref 201), some (.int i), q6, q7, q8] [] 202 gk_fT x y u := by
  obtain ⟨sc, hT, g, hM, hR, hok⟩ := hI
  refine s_aload_n (pc2 := 2114) w dL_law_2113 rfl rfl ?_
  refine s_aload_n (pc2 := 2115) w dL_law_2114 rfl rfl ?_
  refine s_iload (pc2 := 2117) w dL_law_2115 rfl rfl ?_
  refine s_iconst (pc2 := 2118) (v := 1) w dL_law_2117 rfl rfl ?_
  refine s_iadd (pc2 := 2119) w dL_law_2118 rfl ?_
  refine g_ialoadS (pc2 := 2120) w dL_law_2119 rfl rfl h1 ?_
  rw [sc _, e1]
  refine s_aload_n (pc2 := 2121) w dL_law_2120 rfl rfl ?_
  refine s_iload (pc2 := 2123) w dL_law_2121 rfl rfl ?_
  refine s_iconst (pc2 := 2124) (v := 2) w dL_law_2123 rfl rfl ?_
  refine s_iadd (pc2 := 2125) w dL_law_2124 rfl ?_
  refine g_ialoadS (pc2 := 2126) w dL_law_2125 rfl rfl h2 ?_
  rw [sc _, e2]
  refine s_aload_n (pc2 := 2127) w dL_law_2126 rfl rfl ?_
  refine s_iload (pc2 := 2129) w dL_law_2127 rfl rfl ?_
  refine s_iconst (pc2 := 2130) (v := 3) w dL_law_2129 rfl rfl ?_
  refine s_iadd (pc2 := 2131) w dL_law_2130 rfl ?_
  refine g_ialoadS (pc2 := 2132) w dL_law_2131 rfl rfl h3 ?_
  rw [sc _, e3]
  refine s_aload_n (pc2 := 2133) w dL_law_2132 rfl rfl ?_
  refine r_L_measureBeam (pc2 := 2136) w dL_law_2133 rfl hc1 rfl (by omega) hR hok ?_ ?_
  · intro b0 x2 y2 b1
    have sc2 := sc.cx b1.2.1
    refine s_istore (pc2 := 2138) w dL_law_2136 rfl rfl ?_
    dsimp only [gk_s1, gk_s2, gk_cl]
    refine s_aload_n (pc2 := 2139) w dL_law_2138 rfl rfl ?_
    refine s_aload_n (pc2 := 2140) w dL_law_2139 rfl rfl ?_
    refine s_iload (pc2 := 2142) w dL_law_2140 rfl rfl ?_
    refine s_iconst (pc2 := 2143) (v := 1) w dL_law_2142 rfl rfl ?_
    refine s_iadd (pc2 := 2144) w dL_law_2143 rfl ?_
    refine g_ialoadS (pc2 := 2145) w dL_law_2144 rfl rfl h1 ?_
    rw [sc2 _, e1]
    refine s_aload_n (pc2 := 2146) w dL_law_2145 rfl rfl ?_
    refine s_iload (pc2 := 2148) w dL_law_2146 rfl rfl ?_
    refine s_iconst (pc2 := 2149) (v := 2) w dL_law_2148 rfl rfl ?_
    refine s_iadd (pc2 := 2150) w dL_law_2149 rfl ?_
    refine g_ialoadS (pc2 := 2151) w dL_law_2150 rfl rfl h2 ?_
    rw [sc2 _, e2]
    refine s_aload_n (pc2 := 2152) w dL_law_2151 rfl rfl ?_
    refine s_iload (pc2 := 2154) w dL_law_2152 rfl rfl ?_
    refine s_iconst (pc2 := 2155) (v := 3) w dL_law_2154 rfl rfl ?_
    refine s_iadd (pc2 := 2156) w dL_law_2155 rfl ?_
    refine g_ialoadS (pc2 := 2157) w dL_law_2156 rfl rfl h3 ?_
    rw [sc2 _, e3]
    refine r_X11_measureBeam (pc2 := 2160) w dL_law_2157 rfl hc2 rfl (hM.cx b1.2.1) hok ?_ ?_
    · intro d0 x3 y3 d1
      refine s_lstore (pc2 := 2162) w dL_law_2160 rfl rfl ?_
      dsimp only [gk_s1, gk_s2, gk_cl]
      refine s_aload_n (pc2 := 2163) w dL_law_2162 rfl rfl ?_
      refine r_X11_thrown (pc2 := 2166) w dL_law_2163 rfl hc3 rfl ?_
      rw [d1.2.1]
      refine s_iload (pc2 := 2168) w dL_law_2166 rfl rfl ?_
      refine s_ic_eq (pc2 := 2171) (tgt := 2173) w dL_law_2168 rfl (by decide) (fun _ => ?_) (fun h0 => absurd (rfl) h0)
      refine s_iload (pc2 := 2175) w dL_law_2173 rfl rfl ?_
      refine s_if_ne (pc2 := 2178) (tgt := 2189) w dL_law_2175 rfl (by decide) (fun h0 => absurd (rfl) h0) (fun _ => ?_)
      refine s_aload_n (pc2 := 2179) w dL_law_2178 rfl rfl ?_
      refine s_iconst (pc2 := 2180) (v := 0) w dL_law_2179 rfl rfl ?_
      refine m_laloadN (pc2 := 2181) (t := 0) (N := 1) w dL_law_2180 rfl rfl rfl rfl (by decide) rfl ?_
      rw [(d1.2.2.2 200 0 (by decide)).trans (gk_uy_in _ _ _ _)]
      refine s_lload (pc2 := 2183) w dL_law_2181 rfl rfl ?_
      refine s_lcmp (pc2 := 2184) w dL_law_2183 rfl ?_
      refine s_if_eq (pc2 := 2187) (tgt := 2189) w dL_law_2184 rfl (by decide) (fun _ => ?_) (fun h0 => absurd (lcm_self _) h0)
      refine s_goto (tgt := 3095) w dL_law_2189 (by decide) ?_
      exact kk _ _ _ _ _ _ (by omega) (LI.st sc hT b1 (uy_out (Or.inl rfl)) d1 hok)
    · intro d0 x3 y3 d1
      exact absurd b0 d0
  · intro b0 x2 y2 b1
    have sc2 := sc.cx b1.2.1
    refine s_istore (pc2 := 2138) w dL_law_2136 rfl rfl ?_
    dsimp only [gk_s1, gk_s2, gk_cl]
    refine s_aload_n (pc2 := 2139) w dL_law_2138 rfl rfl ?_
    refine s_aload_n (pc2 := 2140) w dL_law_2139 rfl rfl ?_
    refine s_iload (pc2 := 2142) w dL_law_2140 rfl rfl ?_
    refine s_iconst (pc2 := 2143) (v := 1) w dL_law_2142 rfl rfl ?_
    refine s_iadd (pc2 := 2144) w dL_law_2143 rfl ?_
    refine g_ialoadS (pc2 := 2145) w dL_law_2144 rfl rfl h1 ?_
    rw [sc2 _, e1]
    refine s_aload_n (pc2 := 2146) w dL_law_2145 rfl rfl ?_
    refine s_iload (pc2 := 2148) w dL_law_2146 rfl rfl ?_
    refine s_iconst (pc2 := 2149) (v := 2) w dL_law_2148 rfl rfl ?_
    refine s_iadd (pc2 := 2150) w dL_law_2149 rfl ?_
    refine g_ialoadS (pc2 := 2151) w dL_law_2150 rfl rfl h2 ?_
    rw [sc2 _, e2]
    refine s_aload_n (pc2 := 2152) w dL_law_2151 rfl rfl ?_
    refine s_iload (pc2 := 2154) w dL_law_2152 rfl rfl ?_
    refine s_iconst (pc2 := 2155) (v := 3) w dL_law_2154 rfl rfl ?_
    refine s_iadd (pc2 := 2156) w dL_law_2155 rfl ?_
    refine g_ialoadS (pc2 := 2157) w dL_law_2156 rfl rfl h3 ?_
    rw [sc2 _, e3]
    refine r_X11_measureBeam (pc2 := 2160) w dL_law_2157 rfl hc2 rfl (hM.cx b1.2.1) hok ?_ ?_
    · intro d0 x3 y3 d1
      exact absurd d0 b0
    · intro d0 x3 y3 d1
      refine s_lstore (pc2 := 2162) w dL_law_2160 rfl rfl ?_
      dsimp only [gk_s1, gk_s2, gk_cl]
      refine s_aload_n (pc2 := 2163) w dL_law_2162 rfl rfl ?_
      refine r_X11_thrown (pc2 := 2166) w dL_law_2163 rfl hc3 rfl ?_
      rw [d1.2.1]
      refine s_iload (pc2 := 2168) w dL_law_2166 rfl rfl ?_
      refine s_ic_eq (pc2 := 2171) (tgt := 2173) w dL_law_2168 rfl (by decide) (fun _ => ?_) (fun h0 => absurd (rfl) h0)
      refine s_iload (pc2 := 2175) w dL_law_2173 rfl rfl ?_
      refine s_if_ne (pc2 := 2178) (tgt := 2189) w dL_law_2175 rfl (by decide) (fun _ => ?_) (fun h0 => absurd h0 (by decide))
      refine s_goto (tgt := 3095) w dL_law_2189 (by decide) ?_
      exact kk _ _ _ _ _ _ (by omega) (LI.st sc hT b1 (fun _ _ _ _ => rfl) d1 hok)

theorem lc_29 (w : gk_W cL_law pL cs (fun _ _ => none) rt uf (some Ls) K V) (hc1 : cs 252 = some (0, 0, 5, 3, S_L_periodPower)) (hc2 : cs 254 = some (1, 10, 4, 0, S_X11_periodPower)) (hc3 : cs 152 = some (1, 10, 1, 0, S_X11_thrown)) {a1 a2 a3 : Int32} (h1 : vp_in (i + 1) Ls) (e1 : sv (i + 1).toNatClampNeg = a1) (h2 : vp_in (i + 2) Ls) (e2 : sv (i + 2).toNatClampNeg = a2) (h3 : vp_in (i + 3) Ls) (e3 : sv (i + 3).toNatClampNeg = a3) (hu : u + 6 ≤ uf) (hI : LI sv x y) (kk : ∀ (x2 : gk_X) (y2 : gk_Y) (q6 q7 q8 : Option Value) (u2 : Nat), u2 ≤ u + 6 → LI sv x2 y2 → V 3095 [some (.ref 5000), some (.ref 0), some (.ref 189), some (.ref 200), some (.ref 201), some (.int i), q6, q7, q8] [] 202 gk_fT x2 y2 u2) : V 2192 [some (.ref 5000), some (.ref 0), some (.ref 189), some (.ref 200), some (.ref 201), some (.int i), q6, q7, q8] [] 202 gk_fT x y u := by
  obtain ⟨sc, hT, g, hM, hR, hok⟩ := hI
  refine s_aload_n (pc2 := 2193) w dL_law_2192 rfl rfl ?_
  refine s_aload_n (pc2 := 2194) w dL_law_2193 rfl rfl ?_
  refine s_iload (pc2 := 2196) w dL_law_2194 rfl rfl ?_
  refine s_iconst (pc2 := 2197) (v := 1) w dL_law_2196 rfl rfl ?_
  refine s_iadd (pc2 := 2198) w dL_law_2197 rfl ?_
  refine g_ialoadS (pc2 := 2199) w dL_law_2198 rfl rfl h1 ?_
  rw [sc _, e1]
  refine s_aload_n (pc2 := 2200) w dL_law_2199 rfl rfl ?_
  refine s_iload (pc2 := 2202) w dL_law_2200 rfl rfl ?_
  refine s_iconst (pc2 := 2203) (v := 2) w dL_law_2202 rfl rfl ?_
  refine s_iadd (pc2 := 2204) w dL_law_2203 rfl ?_
  refine g_ialoadS (pc2 := 2205) w dL_law_2204 rfl rfl h2 ?_
  rw [sc _, e2]
  refine s_aload_n (pc2 := 2206) w dL_law_2205 rfl rfl ?_
  refine s_iload (pc2 := 2208) w dL_law_2206 rfl rfl ?_
  refine s_iconst (pc2 := 2209) (v := 3) w dL_law_2208 rfl rfl ?_
  refine s_iadd (pc2 := 2210) w dL_law_2209 rfl ?_
  refine g_ialoadS (pc2 := 2211) w dL_law_2210 rfl rfl h3 ?_
  rw [sc _, e3]
  refine s_aload_n (pc2 := 2212) w dL_law_2211 rfl rfl ?_
  refine r_L_periodPower (pc2 := 2215) w dL_law_2212 rfl hc1 rfl (by omega) hR hok ?_ ?_
  · intro b0 x2 y2 b1
    have sc2 := sc.cx b1.2.1
    refine s_istore (pc2 := 2217) w dL_law_2215 rfl rfl ?_
    dsimp only [gk_s1, gk_s2, gk_cl]
    refine s_aload_n (pc2 := 2218) w dL_law_2217 rfl rfl ?_
    refine s_aload_n (pc2 := 2219) w dL_law_2218 rfl rfl ?_
    refine s_iload (pc2 := 2221) w dL_law_2219 rfl rfl ?_
    refine s_iconst (pc2 := 2222) (v := 1) w dL_law_2221 rfl rfl ?_
    refine s_iadd (pc2 := 2223) w dL_law_2222 rfl ?_
    refine g_ialoadS (pc2 := 2224) w dL_law_2223 rfl rfl h1 ?_
    rw [sc2 _, e1]
    refine s_aload_n (pc2 := 2225) w dL_law_2224 rfl rfl ?_
    refine s_iload (pc2 := 2227) w dL_law_2225 rfl rfl ?_
    refine s_iconst (pc2 := 2228) (v := 2) w dL_law_2227 rfl rfl ?_
    refine s_iadd (pc2 := 2229) w dL_law_2228 rfl ?_
    refine g_ialoadS (pc2 := 2230) w dL_law_2229 rfl rfl h2 ?_
    rw [sc2 _, e2]
    refine s_aload_n (pc2 := 2231) w dL_law_2230 rfl rfl ?_
    refine s_iload (pc2 := 2233) w dL_law_2231 rfl rfl ?_
    refine s_iconst (pc2 := 2234) (v := 3) w dL_law_2233 rfl rfl ?_
    refine s_iadd (pc2 := 2235) w dL_law_2234 rfl ?_
    refine g_ialoadS (pc2 := 2236) w dL_law_2235 rfl rfl h3 ?_
    rw [sc2 _, e3]
    refine r_X11_periodPower (pc2 := 2239) w dL_law_2236 rfl hc2 rfl (hM.cx b1.2.1) hok ?_ ?_
    · intro d0 x3 y3 d1
      refine s_lstore (pc2 := 2241) w dL_law_2239 rfl rfl ?_
      dsimp only [gk_s1, gk_s2, gk_cl]
      refine s_aload_n (pc2 := 2242) w dL_law_2241 rfl rfl ?_
      refine r_X11_thrown (pc2 := 2245) w dL_law_2242 rfl hc3 rfl ?_
      rw [d1.2.1]
      refine s_iload (pc2 := 2247) w dL_law_2245 rfl rfl ?_
      refine s_ic_eq (pc2 := 2250) (tgt := 2252) w dL_law_2247 rfl (by decide) (fun _ => ?_) (fun h0 => absurd (rfl) h0)
      refine s_iload (pc2 := 2254) w dL_law_2252 rfl rfl ?_
      refine s_if_ne (pc2 := 2257) (tgt := 2268) w dL_law_2254 rfl (by decide) (fun h0 => absurd (rfl) h0) (fun _ => ?_)
      refine s_aload_n (pc2 := 2258) w dL_law_2257 rfl rfl ?_
      refine s_iconst (pc2 := 2259) (v := 0) w dL_law_2258 rfl rfl ?_
      refine m_laloadN (pc2 := 2260) (t := 0) (N := 1) w dL_law_2259 rfl rfl rfl rfl (by decide) rfl ?_
      rw [(d1.2.2.2 200 0 (by decide)).trans (gk_uy_in _ _ _ _)]
      refine s_lload (pc2 := 2262) w dL_law_2260 rfl rfl ?_
      refine s_lcmp (pc2 := 2263) w dL_law_2262 rfl ?_
      refine s_if_eq (pc2 := 2266) (tgt := 2268) w dL_law_2263 rfl (by decide) (fun _ => ?_) (fun h0 => absurd (lcm_self _) h0)
      refine s_goto (tgt := 3095) w dL_law_2268 (by decide) ?_
      exact kk _ _ _ _ _ _ (by omega) (LI.st sc hT b1 (uy_out (Or.inl rfl)) d1 hok)
    · intro d0 x3 y3 d1
      exact absurd b0 d0
  · intro b0 x2 y2 b1
    have sc2 := sc.cx b1.2.1
    refine s_istore (pc2 := 2217) w dL_law_2215 rfl rfl ?_
    dsimp only [gk_s1, gk_s2, gk_cl]
    refine s_aload_n (pc2 := 2218) w dL_law_2217 rfl rfl ?_
    refine s_aload_n (pc2 := 2219) w dL_law_2218 rfl rfl ?_
    refine s_iload (pc2 := 2221) w dL_law_2219 rfl rfl ?_
    refine s_iconst (pc2 := 2222) (v := 1) w dL_law_2221 rfl rfl ?_
    refine s_iadd (pc2 := 2223) w dL_law_2222 rfl ?_
    refine g_ialoadS (pc2 := 2224) w dL_law_2223 rfl rfl h1 ?_
    rw [sc2 _, e1]
    refine s_aload_n (pc2 := 2225) w dL_law_2224 rfl rfl ?_
    refine s_iload (pc2 := 2227) w dL_law_2225 rfl rfl ?_
    refine s_iconst (pc2 := 2228) (v := 2) w dL_law_2227 rfl rfl ?_
    refine s_iadd (pc2 := 2229) w dL_law_2228 rfl ?_
    refine g_ialoadS (pc2 := 2230) w dL_law_2229 rfl rfl h2 ?_
    rw [sc2 _, e2]
    refine s_aload_n (pc2 := 2231) w dL_law_2230 rfl rfl ?_
    refine s_iload (pc2 := 2233) w dL_law_2231 rfl rfl ?_
    refine s_iconst (pc2 := 2234) (v := 3) w dL_law_2233 rfl rfl ?_
    refine s_iadd (pc2 := 2235) w dL_law_2234 rfl ?_
    refine g_ialoadS (pc2 := 2236) w dL_law_2235 rfl rfl h3 ?_
    rw [sc2 _, e3]
    refine r_X11_periodPower (pc2 := 2239) w dL_law_2236 rfl hc2 rfl (hM.cx b1.2.1) hok ?_ ?_
    · intro d0 x3 y3 d1
      exact absurd d0 b0
    · intro d0 x3 y3 d1
      refine s_lstore (pc2 := 2241) w dL_law_2239 rfl rfl ?_
      dsimp only [gk_s1, gk_s2, gk_cl]
      refine s_aload_n (pc2 := 2242) w dL_law_2241 rfl rfl ?_
      refine r_X11_thrown (pc2 := 2245) w dL_law_2242 rfl hc3 rfl ?_
      rw [d1.2.1]
      refine s_iload (pc2 := 2247) w dL_law_2245 rfl rfl ?_
      refine s_ic_eq (pc2 := 2250) (tgt := 2252) w dL_law_2247 rfl (by decide) (fun _ => ?_) (fun h0 => absurd (rfl) h0)
      refine s_iload (pc2 := 2254) w dL_law_2252 rfl rfl ?_
      refine s_if_ne (pc2 := 2257) (tgt := 2268) w dL_law_2254 rfl (by decide) (fun _ => ?_) (fun h0 => absurd h0 (by decide))
      refine s_goto (tgt := 3095) w dL_law_2268 (by decide) ?_
      exact kk _ _ _ _ _ _ (by omega) (LI.st sc hT b1 (fun _ _ _ _ => rfl) d1 hok)

theorem lc_30 (w : gk_W cL_law pL cs (fun _ _ => none) rt uf (some Ls) K V) (hc1 : cs 255 = some (0, 0, 5, 3, S_L_bestPeriod)) (hc2 : cs 257 = some (1, 10, 4, 0, S_X11_bestPeriod)) (hc3 : cs 152 = some (1, 10, 1, 0, S_X11_thrown)) {a1 a2 a3 : Int32} (h1 : vp_in (i + 1) Ls) (e1 : sv (i + 1).toNatClampNeg = a1) (h2 : vp_in (i + 2) Ls) (e2 : sv (i + 2).toNatClampNeg = a2) (h3 : vp_in (i + 3) Ls) (e3 : sv (i + 3).toNatClampNeg = a3) (hu : u + 6 ≤ uf) (hI : LI sv x y) (kk : ∀ (x2 : gk_X) (y2 : gk_Y) (q6 q7 q8 : Option Value) (u2 : Nat), u2 ≤ u + 6 → LI sv x2 y2 → V 3095 [some (.ref 5000), some (.ref 0), some (.ref 189), some (.ref 200), some (.ref 201), some (.int i), q6, q7, q8] [] 202 gk_fT x2 y2 u2) : V 2271 [some (.ref 5000), some (.ref 0), some (.ref 189), some (.ref 200), some (.ref 201), some (.int i), q6, q7, q8] [] 202 gk_fT x y u := by
  obtain ⟨sc, hT, g, hM, hR, hok⟩ := hI
  refine s_aload_n (pc2 := 2272) w dL_law_2271 rfl rfl ?_
  refine s_aload_n (pc2 := 2273) w dL_law_2272 rfl rfl ?_
  refine s_iload (pc2 := 2275) w dL_law_2273 rfl rfl ?_
  refine s_iconst (pc2 := 2276) (v := 1) w dL_law_2275 rfl rfl ?_
  refine s_iadd (pc2 := 2277) w dL_law_2276 rfl ?_
  refine g_ialoadS (pc2 := 2278) w dL_law_2277 rfl rfl h1 ?_
  rw [sc _, e1]
  refine s_aload_n (pc2 := 2279) w dL_law_2278 rfl rfl ?_
  refine s_iload (pc2 := 2281) w dL_law_2279 rfl rfl ?_
  refine s_iconst (pc2 := 2282) (v := 2) w dL_law_2281 rfl rfl ?_
  refine s_iadd (pc2 := 2283) w dL_law_2282 rfl ?_
  refine g_ialoadS (pc2 := 2284) w dL_law_2283 rfl rfl h2 ?_
  rw [sc _, e2]
  refine s_aload_n (pc2 := 2285) w dL_law_2284 rfl rfl ?_
  refine s_iload (pc2 := 2287) w dL_law_2285 rfl rfl ?_
  refine s_iconst (pc2 := 2288) (v := 3) w dL_law_2287 rfl rfl ?_
  refine s_iadd (pc2 := 2289) w dL_law_2288 rfl ?_
  refine g_ialoadS (pc2 := 2290) w dL_law_2289 rfl rfl h3 ?_
  rw [sc _, e3]
  refine s_aload_n (pc2 := 2291) w dL_law_2290 rfl rfl ?_
  refine r_L_bestPeriod (pc2 := 2294) w dL_law_2291 rfl hc1 rfl (by omega) hR hok ?_ ?_
  · intro b0 x2 y2 b1
    have sc2 := sc.cx b1.2.1
    refine s_istore (pc2 := 2296) w dL_law_2294 rfl rfl ?_
    dsimp only [gk_s1, gk_s2, gk_cl]
    refine s_aload_n (pc2 := 2297) w dL_law_2296 rfl rfl ?_
    refine s_aload_n (pc2 := 2298) w dL_law_2297 rfl rfl ?_
    refine s_iload (pc2 := 2300) w dL_law_2298 rfl rfl ?_
    refine s_iconst (pc2 := 2301) (v := 1) w dL_law_2300 rfl rfl ?_
    refine s_iadd (pc2 := 2302) w dL_law_2301 rfl ?_
    refine g_ialoadS (pc2 := 2303) w dL_law_2302 rfl rfl h1 ?_
    rw [sc2 _, e1]
    refine s_aload_n (pc2 := 2304) w dL_law_2303 rfl rfl ?_
    refine s_iload (pc2 := 2306) w dL_law_2304 rfl rfl ?_
    refine s_iconst (pc2 := 2307) (v := 2) w dL_law_2306 rfl rfl ?_
    refine s_iadd (pc2 := 2308) w dL_law_2307 rfl ?_
    refine g_ialoadS (pc2 := 2309) w dL_law_2308 rfl rfl h2 ?_
    rw [sc2 _, e2]
    refine s_aload_n (pc2 := 2310) w dL_law_2309 rfl rfl ?_
    refine s_iload (pc2 := 2312) w dL_law_2310 rfl rfl ?_
    refine s_iconst (pc2 := 2313) (v := 3) w dL_law_2312 rfl rfl ?_
    refine s_iadd (pc2 := 2314) w dL_law_2313 rfl ?_
    refine g_ialoadS (pc2 := 2315) w dL_law_2314 rfl rfl h3 ?_
    rw [sc2 _, e3]
    refine r_X11_bestPeriod (pc2 := 2318) w dL_law_2315 rfl hc2 rfl (hM.cx b1.2.1) hok ?_ ?_
    · intro d0 x3 y3 d1
      refine s_istore (pc2 := 2320) w dL_law_2318 rfl rfl ?_
      dsimp only [gk_s1, gk_s2, gk_cl]
      refine s_aload_n (pc2 := 2321) w dL_law_2320 rfl rfl ?_
      refine r_X11_thrown (pc2 := 2324) w dL_law_2321 rfl hc3 rfl ?_
      rw [d1.2.1]
      refine s_iload (pc2 := 2326) w dL_law_2324 rfl rfl ?_
      refine s_ic_eq (pc2 := 2329) (tgt := 2331) w dL_law_2326 rfl (by decide) (fun _ => ?_) (fun h0 => absurd (rfl) h0)
      refine s_iload (pc2 := 2333) w dL_law_2331 rfl rfl ?_
      refine s_if_ne (pc2 := 2336) (tgt := 2348) w dL_law_2333 rfl (by decide) (fun h0 => absurd (rfl) h0) (fun _ => ?_)
      refine s_aload_n (pc2 := 2337) w dL_law_2336 rfl rfl ?_
      refine s_iconst (pc2 := 2338) (v := 0) w dL_law_2337 rfl rfl ?_
      refine m_laloadN (pc2 := 2339) (t := 0) (N := 1) w dL_law_2338 rfl rfl rfl rfl (by decide) rfl ?_
      rw [(d1.2.2.2 200 0 (by decide)).trans (gk_uy_in _ _ _ _)]
      refine s_iload (pc2 := 2341) w dL_law_2339 rfl rfl ?_
      refine s_i2l (pc2 := 2342) w dL_law_2341 rfl ?_
      refine s_lcmp (pc2 := 2343) w dL_law_2342 rfl ?_
      refine s_if_eq (pc2 := 2346) (tgt := 2348) w dL_law_2343 rfl (by decide) (fun _ => ?_) (fun h0 => absurd (lcm_self _) h0)
      refine s_goto (tgt := 3095) w dL_law_2348 (by decide) ?_
      exact kk _ _ _ _ _ _ (by omega) (LI.st sc hT b1 (uy_out (Or.inl rfl)) d1 hok)
    · intro d0 x3 y3 d1
      exact absurd b0 d0
  · intro b0 x2 y2 b1
    have sc2 := sc.cx b1.2.1
    refine s_istore (pc2 := 2296) w dL_law_2294 rfl rfl ?_
    dsimp only [gk_s1, gk_s2, gk_cl]
    refine s_aload_n (pc2 := 2297) w dL_law_2296 rfl rfl ?_
    refine s_aload_n (pc2 := 2298) w dL_law_2297 rfl rfl ?_
    refine s_iload (pc2 := 2300) w dL_law_2298 rfl rfl ?_
    refine s_iconst (pc2 := 2301) (v := 1) w dL_law_2300 rfl rfl ?_
    refine s_iadd (pc2 := 2302) w dL_law_2301 rfl ?_
    refine g_ialoadS (pc2 := 2303) w dL_law_2302 rfl rfl h1 ?_
    rw [sc2 _, e1]
    refine s_aload_n (pc2 := 2304) w dL_law_2303 rfl rfl ?_
    refine s_iload (pc2 := 2306) w dL_law_2304 rfl rfl ?_
    refine s_iconst (pc2 := 2307) (v := 2) w dL_law_2306 rfl rfl ?_
    refine s_iadd (pc2 := 2308) w dL_law_2307 rfl ?_
    refine g_ialoadS (pc2 := 2309) w dL_law_2308 rfl rfl h2 ?_
    rw [sc2 _, e2]
    refine s_aload_n (pc2 := 2310) w dL_law_2309 rfl rfl ?_
    refine s_iload (pc2 := 2312) w dL_law_2310 rfl rfl ?_
    refine s_iconst (pc2 := 2313) (v := 3) w dL_law_2312 rfl rfl ?_
    refine s_iadd (pc2 := 2314) w dL_law_2313 rfl ?_
    refine g_ialoadS (pc2 := 2315) w dL_law_2314 rfl rfl h3 ?_
    rw [sc2 _, e3]
    refine r_X11_bestPeriod (pc2 := 2318) w dL_law_2315 rfl hc2 rfl (hM.cx b1.2.1) hok ?_ ?_
    · intro d0 x3 y3 d1
      exact absurd d0 b0
    · intro d0 x3 y3 d1
      refine s_istore (pc2 := 2320) w dL_law_2318 rfl rfl ?_
      dsimp only [gk_s1, gk_s2, gk_cl]
      refine s_aload_n (pc2 := 2321) w dL_law_2320 rfl rfl ?_
      refine r_X11_thrown (pc2 := 2324) w dL_law_2321 rfl hc3 rfl ?_
      rw [d1.2.1]
      refine s_iload (pc2 := 2326) w dL_law_2324 rfl rfl ?_
      refine s_ic_eq (pc2 := 2329) (tgt := 2331) w dL_law_2326 rfl (by decide) (fun _ => ?_) (fun h0 => absurd (rfl) h0)
      refine s_iload (pc2 := 2333) w dL_law_2331 rfl rfl ?_
      refine s_if_ne (pc2 := 2336) (tgt := 2348) w dL_law_2333 rfl (by decide) (fun _ => ?_) (fun h0 => absurd h0 (by decide))
      refine s_goto (tgt := 3095) w dL_law_2348 (by decide) ?_
      exact kk _ _ _ _ _ _ (by omega) (LI.st sc hT b1 (fun _ _ _ _ => rfl) d1 hok)

theorem lc_31 (w : gk_W cL_law pL cs (fun _ _ => none) rt uf (some Ls) K V) (hc1 : cs 258 = some (0, 0, 5, 3, S_L_energyBeside)) (hc2 : cs 260 = some (1, 10, 4, 0, S_X11_energyBeside)) (hc3 : cs 152 = some (1, 10, 1, 0, S_X11_thrown)) {a1 a2 a3 : Int32} (h1 : vp_in (i + 1) Ls) (e1 : sv (i + 1).toNatClampNeg = a1) (h2 : vp_in (i + 2) Ls) (e2 : sv (i + 2).toNatClampNeg = a2) (h3 : vp_in (i + 3) Ls) (e3 : sv (i + 3).toNatClampNeg = a3) (hu : u + 6 ≤ uf) (hI : LI sv x y) (kk : ∀ (x2 : gk_X) (y2 : gk_Y) (q6 q7 q8 : Option Value) (u2 : Nat), u2 ≤ u + 6 → LI sv x2 y2 → V 3095 [some (.ref 5000), some (.ref 0), some (.ref 189), some (.ref 200), some (.ref 201), some (.int i), q6, q7, q8] [] 202 gk_fT x2 y2 u2) : V 2351 [some (.ref 5000), some (.ref 0), some (.ref 189), some (.ref 200), some (.ref 201), some (.int i), q6, q7, q8] [] 202 gk_fT x y u := by
  obtain ⟨sc, hT, g, hM, hR, hok⟩ := hI
  refine s_aload_n (pc2 := 2352) w dL_law_2351 rfl rfl ?_
  refine s_aload_n (pc2 := 2353) w dL_law_2352 rfl rfl ?_
  refine s_iload (pc2 := 2355) w dL_law_2353 rfl rfl ?_
  refine s_iconst (pc2 := 2356) (v := 1) w dL_law_2355 rfl rfl ?_
  refine s_iadd (pc2 := 2357) w dL_law_2356 rfl ?_
  refine g_ialoadS (pc2 := 2358) w dL_law_2357 rfl rfl h1 ?_
  rw [sc _, e1]
  refine s_aload_n (pc2 := 2359) w dL_law_2358 rfl rfl ?_
  refine s_iload (pc2 := 2361) w dL_law_2359 rfl rfl ?_
  refine s_iconst (pc2 := 2362) (v := 2) w dL_law_2361 rfl rfl ?_
  refine s_iadd (pc2 := 2363) w dL_law_2362 rfl ?_
  refine g_ialoadS (pc2 := 2364) w dL_law_2363 rfl rfl h2 ?_
  rw [sc _, e2]
  refine s_aload_n (pc2 := 2365) w dL_law_2364 rfl rfl ?_
  refine s_iload (pc2 := 2367) w dL_law_2365 rfl rfl ?_
  refine s_iconst (pc2 := 2368) (v := 3) w dL_law_2367 rfl rfl ?_
  refine s_iadd (pc2 := 2369) w dL_law_2368 rfl ?_
  refine g_ialoadS (pc2 := 2370) w dL_law_2369 rfl rfl h3 ?_
  rw [sc _, e3]
  refine s_aload_n (pc2 := 2371) w dL_law_2370 rfl rfl ?_
  refine r_L_energyBeside (pc2 := 2374) w dL_law_2371 rfl hc1 rfl (by omega) hR hok ?_ ?_
  · intro b0 x2 y2 b1
    have sc2 := sc.cx b1.2.1
    refine s_istore (pc2 := 2376) w dL_law_2374 rfl rfl ?_
    dsimp only [gk_s1, gk_s2, gk_cl]
    refine s_aload_n (pc2 := 2377) w dL_law_2376 rfl rfl ?_
    refine s_aload_n (pc2 := 2378) w dL_law_2377 rfl rfl ?_
    refine s_iload (pc2 := 2380) w dL_law_2378 rfl rfl ?_
    refine s_iconst (pc2 := 2381) (v := 1) w dL_law_2380 rfl rfl ?_
    refine s_iadd (pc2 := 2382) w dL_law_2381 rfl ?_
    refine g_ialoadS (pc2 := 2383) w dL_law_2382 rfl rfl h1 ?_
    rw [sc2 _, e1]
    refine s_aload_n (pc2 := 2384) w dL_law_2383 rfl rfl ?_
    refine s_iload (pc2 := 2386) w dL_law_2384 rfl rfl ?_
    refine s_iconst (pc2 := 2387) (v := 2) w dL_law_2386 rfl rfl ?_
    refine s_iadd (pc2 := 2388) w dL_law_2387 rfl ?_
    refine g_ialoadS (pc2 := 2389) w dL_law_2388 rfl rfl h2 ?_
    rw [sc2 _, e2]
    refine s_aload_n (pc2 := 2390) w dL_law_2389 rfl rfl ?_
    refine s_iload (pc2 := 2392) w dL_law_2390 rfl rfl ?_
    refine s_iconst (pc2 := 2393) (v := 3) w dL_law_2392 rfl rfl ?_
    refine s_iadd (pc2 := 2394) w dL_law_2393 rfl ?_
    refine g_ialoadS (pc2 := 2395) w dL_law_2394 rfl rfl h3 ?_
    rw [sc2 _, e3]
    refine r_X11_energyBeside (pc2 := 2398) w dL_law_2395 rfl hc2 rfl (hM.cx b1.2.1) hok ?_ ?_
    · intro d0 x3 y3 d1
      refine s_lstore (pc2 := 2400) w dL_law_2398 rfl rfl ?_
      dsimp only [gk_s1, gk_s2, gk_cl]
      refine s_aload_n (pc2 := 2401) w dL_law_2400 rfl rfl ?_
      refine r_X11_thrown (pc2 := 2404) w dL_law_2401 rfl hc3 rfl ?_
      rw [d1.2.1]
      refine s_iload (pc2 := 2406) w dL_law_2404 rfl rfl ?_
      refine s_ic_eq (pc2 := 2409) (tgt := 2411) w dL_law_2406 rfl (by decide) (fun _ => ?_) (fun h0 => absurd (rfl) h0)
      refine s_iload (pc2 := 2413) w dL_law_2411 rfl rfl ?_
      refine s_if_ne (pc2 := 2416) (tgt := 2427) w dL_law_2413 rfl (by decide) (fun h0 => absurd (rfl) h0) (fun _ => ?_)
      refine s_aload_n (pc2 := 2417) w dL_law_2416 rfl rfl ?_
      refine s_iconst (pc2 := 2418) (v := 0) w dL_law_2417 rfl rfl ?_
      refine m_laloadN (pc2 := 2419) (t := 0) (N := 1) w dL_law_2418 rfl rfl rfl rfl (by decide) rfl ?_
      rw [(d1.2.2.2 200 0 (by decide)).trans (gk_uy_in _ _ _ _)]
      refine s_lload (pc2 := 2421) w dL_law_2419 rfl rfl ?_
      refine s_lcmp (pc2 := 2422) w dL_law_2421 rfl ?_
      refine s_if_eq (pc2 := 2425) (tgt := 2427) w dL_law_2422 rfl (by decide) (fun _ => ?_) (fun h0 => absurd (lcm_self _) h0)
      refine s_goto (tgt := 3095) w dL_law_2427 (by decide) ?_
      exact kk _ _ _ _ _ _ (by omega) (LI.st sc hT b1 (uy_out (Or.inl rfl)) d1 hok)
    · intro d0 x3 y3 d1
      exact absurd b0 d0
  · intro b0 x2 y2 b1
    have sc2 := sc.cx b1.2.1
    refine s_istore (pc2 := 2376) w dL_law_2374 rfl rfl ?_
    dsimp only [gk_s1, gk_s2, gk_cl]
    refine s_aload_n (pc2 := 2377) w dL_law_2376 rfl rfl ?_
    refine s_aload_n (pc2 := 2378) w dL_law_2377 rfl rfl ?_
    refine s_iload (pc2 := 2380) w dL_law_2378 rfl rfl ?_
    refine s_iconst (pc2 := 2381) (v := 1) w dL_law_2380 rfl rfl ?_
    refine s_iadd (pc2 := 2382) w dL_law_2381 rfl ?_
    refine g_ialoadS (pc2 := 2383) w dL_law_2382 rfl rfl h1 ?_
    rw [sc2 _, e1]
    refine s_aload_n (pc2 := 2384) w dL_law_2383 rfl rfl ?_
    refine s_iload (pc2 := 2386) w dL_law_2384 rfl rfl ?_
    refine s_iconst (pc2 := 2387) (v := 2) w dL_law_2386 rfl rfl ?_
    refine s_iadd (pc2 := 2388) w dL_law_2387 rfl ?_
    refine g_ialoadS (pc2 := 2389) w dL_law_2388 rfl rfl h2 ?_
    rw [sc2 _, e2]
    refine s_aload_n (pc2 := 2390) w dL_law_2389 rfl rfl ?_
    refine s_iload (pc2 := 2392) w dL_law_2390 rfl rfl ?_
    refine s_iconst (pc2 := 2393) (v := 3) w dL_law_2392 rfl rfl ?_
    refine s_iadd (pc2 := 2394) w dL_law_2393 rfl ?_
    refine g_ialoadS (pc2 := 2395) w dL_law_2394 rfl rfl h3 ?_
    rw [sc2 _, e3]
    refine r_X11_energyBeside (pc2 := 2398) w dL_law_2395 rfl hc2 rfl (hM.cx b1.2.1) hok ?_ ?_
    · intro d0 x3 y3 d1
      exact absurd d0 b0
    · intro d0 x3 y3 d1
      refine s_lstore (pc2 := 2400) w dL_law_2398 rfl rfl ?_
      dsimp only [gk_s1, gk_s2, gk_cl]
      refine s_aload_n (pc2 := 2401) w dL_law_2400 rfl rfl ?_
      refine r_X11_thrown (pc2 := 2404) w dL_law_2401 rfl hc3 rfl ?_
      rw [d1.2.1]
      refine s_iload (pc2 := 2406) w dL_law_2404 rfl rfl ?_
      refine s_ic_eq (pc2 := 2409) (tgt := 2411) w dL_law_2406 rfl (by decide) (fun _ => ?_) (fun h0 => absurd (rfl) h0)
      refine s_iload (pc2 := 2413) w dL_law_2411 rfl rfl ?_
      refine s_if_ne (pc2 := 2416) (tgt := 2427) w dL_law_2413 rfl (by decide) (fun _ => ?_) (fun h0 => absurd h0 (by decide))
      refine s_goto (tgt := 3095) w dL_law_2427 (by decide) ?_
      exact kk _ _ _ _ _ _ (by omega) (LI.st sc hT b1 (fun _ _ _ _ => rfl) d1 hok)

theorem lc_32 (w : gk_W cL_law pL cs (fun _ _ => none) rt uf (some Ls) K V) (hc1 : cs 261 = some (0, 0, 6, 4, S_L_scan)) (hc2 : cs 263 = some (1, 10, 5, 0, S_X11_scan)) (hc3 : cs 152 = some (1, 10, 1, 0, S_X11_thrown)) {a1 a2 a3 a4 : Int32} (h1 : vp_in (i + 1) Ls) (e1 : sv (i + 1).toNatClampNeg = a1) (h2 : vp_in (i + 2) Ls) (e2 : sv (i + 2).toNatClampNeg = a2) (h3 : vp_in (i + 3) Ls) (e3 : sv (i + 3).toNatClampNeg = a3) (h4 : vp_in (i + 4) Ls) (e4 : sv (i + 4).toNatClampNeg = a4) (hu : u + 6 ≤ uf) (hI : LI sv x y) (kk : ∀ (x2 : gk_X) (y2 : gk_Y) (q6 q7 q8 : Option Value) (u2 : Nat), u2 ≤ u + 6 → LI sv x2 y2 → V 3095 [some (.ref 5000), some (.ref 0), some (.ref 189), some (.ref 200), some (.ref 201), some (.int i), q6, q7, q8] [] 202 gk_fT x2 y2 u2) : V 2430 [some (.ref 5000), some (.ref 0), some (.ref 189), some (.ref 200), some (.ref 201), some (.int i), q6, q7, q8] [] 202 gk_fT x y u := by
  obtain ⟨sc, hT, g, hM, hR, hok⟩ := hI
  refine s_aload_n (pc2 := 2431) w dL_law_2430 rfl rfl ?_
  refine s_aload_n (pc2 := 2432) w dL_law_2431 rfl rfl ?_
  refine s_iload (pc2 := 2434) w dL_law_2432 rfl rfl ?_
  refine s_iconst (pc2 := 2435) (v := 1) w dL_law_2434 rfl rfl ?_
  refine s_iadd (pc2 := 2436) w dL_law_2435 rfl ?_
  refine g_ialoadS (pc2 := 2437) w dL_law_2436 rfl rfl h1 ?_
  rw [sc _, e1]
  refine s_aload_n (pc2 := 2438) w dL_law_2437 rfl rfl ?_
  refine s_iload (pc2 := 2440) w dL_law_2438 rfl rfl ?_
  refine s_iconst (pc2 := 2441) (v := 2) w dL_law_2440 rfl rfl ?_
  refine s_iadd (pc2 := 2442) w dL_law_2441 rfl ?_
  refine g_ialoadS (pc2 := 2443) w dL_law_2442 rfl rfl h2 ?_
  rw [sc _, e2]
  refine s_aload_n (pc2 := 2444) w dL_law_2443 rfl rfl ?_
  refine s_iload (pc2 := 2446) w dL_law_2444 rfl rfl ?_
  refine s_iconst (pc2 := 2447) (v := 3) w dL_law_2446 rfl rfl ?_
  refine s_iadd (pc2 := 2448) w dL_law_2447 rfl ?_
  refine g_ialoadS (pc2 := 2449) w dL_law_2448 rfl rfl h3 ?_
  rw [sc _, e3]
  refine s_aload_n (pc2 := 2450) w dL_law_2449 rfl rfl ?_
  refine s_iload (pc2 := 2452) w dL_law_2450 rfl rfl ?_
  refine s_iconst (pc2 := 2453) (v := 4) w dL_law_2452 rfl rfl ?_
  refine s_iadd (pc2 := 2454) w dL_law_2453 rfl ?_
  refine g_ialoadS (pc2 := 2455) w dL_law_2454 rfl rfl h4 ?_
  rw [sc _, e4]
  refine s_aload_n (pc2 := 2456) w dL_law_2455 rfl rfl ?_
  refine r_L_scan (pc2 := 2459) w dL_law_2456 rfl hc1 rfl (by omega) hR hok ?_ ?_
  · intro b0 x2 y2 b1
    have sc2 := sc.cx b1.2.1
    refine s_istore (pc2 := 2461) w dL_law_2459 rfl rfl ?_
    dsimp only [gk_s1, gk_s2, gk_cl]
    refine s_aload_n (pc2 := 2462) w dL_law_2461 rfl rfl ?_
    refine s_aload_n (pc2 := 2463) w dL_law_2462 rfl rfl ?_
    refine s_iload (pc2 := 2465) w dL_law_2463 rfl rfl ?_
    refine s_iconst (pc2 := 2466) (v := 1) w dL_law_2465 rfl rfl ?_
    refine s_iadd (pc2 := 2467) w dL_law_2466 rfl ?_
    refine g_ialoadS (pc2 := 2468) w dL_law_2467 rfl rfl h1 ?_
    rw [sc2 _, e1]
    refine s_aload_n (pc2 := 2469) w dL_law_2468 rfl rfl ?_
    refine s_iload (pc2 := 2471) w dL_law_2469 rfl rfl ?_
    refine s_iconst (pc2 := 2472) (v := 2) w dL_law_2471 rfl rfl ?_
    refine s_iadd (pc2 := 2473) w dL_law_2472 rfl ?_
    refine g_ialoadS (pc2 := 2474) w dL_law_2473 rfl rfl h2 ?_
    rw [sc2 _, e2]
    refine s_aload_n (pc2 := 2475) w dL_law_2474 rfl rfl ?_
    refine s_iload (pc2 := 2477) w dL_law_2475 rfl rfl ?_
    refine s_iconst (pc2 := 2478) (v := 3) w dL_law_2477 rfl rfl ?_
    refine s_iadd (pc2 := 2479) w dL_law_2478 rfl ?_
    refine g_ialoadS (pc2 := 2480) w dL_law_2479 rfl rfl h3 ?_
    rw [sc2 _, e3]
    refine s_aload_n (pc2 := 2481) w dL_law_2480 rfl rfl ?_
    refine s_iload (pc2 := 2483) w dL_law_2481 rfl rfl ?_
    refine s_iconst (pc2 := 2484) (v := 4) w dL_law_2483 rfl rfl ?_
    refine s_iadd (pc2 := 2485) w dL_law_2484 rfl ?_
    refine g_ialoadS (pc2 := 2486) w dL_law_2485 rfl rfl h4 ?_
    rw [sc2 _, e4]
    refine r_X11_scan (pc2 := 2489) w dL_law_2486 rfl hc2 rfl (hM.cx b1.2.1) hok ?_ ?_
    · intro d0 x3 y3 d1
      refine s_istore (pc2 := 2491) w dL_law_2489 rfl rfl ?_
      dsimp only [gk_s1, gk_s2, gk_cl]
      refine s_aload_n (pc2 := 2492) w dL_law_2491 rfl rfl ?_
      refine r_X11_thrown (pc2 := 2495) w dL_law_2492 rfl hc3 rfl ?_
      rw [d1.2.1]
      refine s_iload (pc2 := 2497) w dL_law_2495 rfl rfl ?_
      refine s_ic_eq (pc2 := 2500) (tgt := 2502) w dL_law_2497 rfl (by decide) (fun _ => ?_) (fun h0 => absurd (rfl) h0)
      refine s_iload (pc2 := 2504) w dL_law_2502 rfl rfl ?_
      refine s_if_ne (pc2 := 2507) (tgt := 2519) w dL_law_2504 rfl (by decide) (fun h0 => absurd (rfl) h0) (fun _ => ?_)
      refine s_aload_n (pc2 := 2508) w dL_law_2507 rfl rfl ?_
      refine s_iconst (pc2 := 2509) (v := 0) w dL_law_2508 rfl rfl ?_
      refine m_laloadN (pc2 := 2510) (t := 0) (N := 1) w dL_law_2509 rfl rfl rfl rfl (by decide) rfl ?_
      rw [(d1.2.2.2 200 0 (by decide)).trans (gk_uy_in _ _ _ _)]
      refine s_iload (pc2 := 2512) w dL_law_2510 rfl rfl ?_
      refine s_i2l (pc2 := 2513) w dL_law_2512 rfl ?_
      refine s_lcmp (pc2 := 2514) w dL_law_2513 rfl ?_
      refine s_if_eq (pc2 := 2517) (tgt := 2519) w dL_law_2514 rfl (by decide) (fun _ => ?_) (fun h0 => absurd (lcm_self _) h0)
      refine s_goto (tgt := 3095) w dL_law_2519 (by decide) ?_
      exact kk _ _ _ _ _ _ (by omega) (LI.st sc hT b1 (uy_out (Or.inl rfl)) d1 hok)
    · intro d0 x3 y3 d1
      exact absurd b0 d0
  · intro b0 x2 y2 b1
    have sc2 := sc.cx b1.2.1
    refine s_istore (pc2 := 2461) w dL_law_2459 rfl rfl ?_
    dsimp only [gk_s1, gk_s2, gk_cl]
    refine s_aload_n (pc2 := 2462) w dL_law_2461 rfl rfl ?_
    refine s_aload_n (pc2 := 2463) w dL_law_2462 rfl rfl ?_
    refine s_iload (pc2 := 2465) w dL_law_2463 rfl rfl ?_
    refine s_iconst (pc2 := 2466) (v := 1) w dL_law_2465 rfl rfl ?_
    refine s_iadd (pc2 := 2467) w dL_law_2466 rfl ?_
    refine g_ialoadS (pc2 := 2468) w dL_law_2467 rfl rfl h1 ?_
    rw [sc2 _, e1]
    refine s_aload_n (pc2 := 2469) w dL_law_2468 rfl rfl ?_
    refine s_iload (pc2 := 2471) w dL_law_2469 rfl rfl ?_
    refine s_iconst (pc2 := 2472) (v := 2) w dL_law_2471 rfl rfl ?_
    refine s_iadd (pc2 := 2473) w dL_law_2472 rfl ?_
    refine g_ialoadS (pc2 := 2474) w dL_law_2473 rfl rfl h2 ?_
    rw [sc2 _, e2]
    refine s_aload_n (pc2 := 2475) w dL_law_2474 rfl rfl ?_
    refine s_iload (pc2 := 2477) w dL_law_2475 rfl rfl ?_
    refine s_iconst (pc2 := 2478) (v := 3) w dL_law_2477 rfl rfl ?_
    refine s_iadd (pc2 := 2479) w dL_law_2478 rfl ?_
    refine g_ialoadS (pc2 := 2480) w dL_law_2479 rfl rfl h3 ?_
    rw [sc2 _, e3]
    refine s_aload_n (pc2 := 2481) w dL_law_2480 rfl rfl ?_
    refine s_iload (pc2 := 2483) w dL_law_2481 rfl rfl ?_
    refine s_iconst (pc2 := 2484) (v := 4) w dL_law_2483 rfl rfl ?_
    refine s_iadd (pc2 := 2485) w dL_law_2484 rfl ?_
    refine g_ialoadS (pc2 := 2486) w dL_law_2485 rfl rfl h4 ?_
    rw [sc2 _, e4]
    refine r_X11_scan (pc2 := 2489) w dL_law_2486 rfl hc2 rfl (hM.cx b1.2.1) hok ?_ ?_
    · intro d0 x3 y3 d1
      exact absurd d0 b0
    · intro d0 x3 y3 d1
      refine s_istore (pc2 := 2491) w dL_law_2489 rfl rfl ?_
      dsimp only [gk_s1, gk_s2, gk_cl]
      refine s_aload_n (pc2 := 2492) w dL_law_2491 rfl rfl ?_
      refine r_X11_thrown (pc2 := 2495) w dL_law_2492 rfl hc3 rfl ?_
      rw [d1.2.1]
      refine s_iload (pc2 := 2497) w dL_law_2495 rfl rfl ?_
      refine s_ic_eq (pc2 := 2500) (tgt := 2502) w dL_law_2497 rfl (by decide) (fun _ => ?_) (fun h0 => absurd (rfl) h0)
      refine s_iload (pc2 := 2504) w dL_law_2502 rfl rfl ?_
      refine s_if_ne (pc2 := 2507) (tgt := 2519) w dL_law_2504 rfl (by decide) (fun _ => ?_) (fun h0 => absurd h0 (by decide))
      refine s_goto (tgt := 3095) w dL_law_2519 (by decide) ?_
      exact kk _ _ _ _ _ _ (by omega) (LI.st sc hT b1 (fun _ _ _ _ => rfl) d1 hok)

theorem lc_33 (w : gk_W cL_law pL cs (fun _ _ => none) rt uf (some Ls) K V) (hc1 : cs 264 = some (0, 0, 5, 3, S_L_bestDirection)) (hc2 : cs 266 = some (1, 10, 4, 0, S_X11_bestDirection)) (hc3 : cs 152 = some (1, 10, 1, 0, S_X11_thrown)) {a1 a2 a3 : Int32} (h1 : vp_in (i + 1) Ls) (e1 : sv (i + 1).toNatClampNeg = a1) (h2 : vp_in (i + 2) Ls) (e2 : sv (i + 2).toNatClampNeg = a2) (h3 : vp_in (i + 3) Ls) (e3 : sv (i + 3).toNatClampNeg = a3) (hu : u + 6 ≤ uf) (hI : LI sv x y) (kk : ∀ (x2 : gk_X) (y2 : gk_Y) (q6 q7 q8 : Option Value) (u2 : Nat), u2 ≤ u + 6 → LI sv x2 y2 → V 3095 [some (.ref 5000), some (.ref 0), some (.ref 189), some (.ref 200), some (.ref 201), some (.int i), q6, q7, q8] [] 202 gk_fT x2 y2 u2) : V 2522 [some (.ref 5000), some (.ref 0), some (.ref 189), some (.ref 200), some (.ref 201), some (.int i), q6, q7, q8] [] 202 gk_fT x y u := by
  obtain ⟨sc, hT, g, hM, hR, hok⟩ := hI
  refine s_aload_n (pc2 := 2523) w dL_law_2522 rfl rfl ?_
  refine s_aload_n (pc2 := 2524) w dL_law_2523 rfl rfl ?_
  refine s_iload (pc2 := 2526) w dL_law_2524 rfl rfl ?_
  refine s_iconst (pc2 := 2527) (v := 1) w dL_law_2526 rfl rfl ?_
  refine s_iadd (pc2 := 2528) w dL_law_2527 rfl ?_
  refine g_ialoadS (pc2 := 2529) w dL_law_2528 rfl rfl h1 ?_
  rw [sc _, e1]
  refine s_aload_n (pc2 := 2530) w dL_law_2529 rfl rfl ?_
  refine s_iload (pc2 := 2532) w dL_law_2530 rfl rfl ?_
  refine s_iconst (pc2 := 2533) (v := 2) w dL_law_2532 rfl rfl ?_
  refine s_iadd (pc2 := 2534) w dL_law_2533 rfl ?_
  refine g_ialoadS (pc2 := 2535) w dL_law_2534 rfl rfl h2 ?_
  rw [sc _, e2]
  refine s_aload_n (pc2 := 2536) w dL_law_2535 rfl rfl ?_
  refine s_iload (pc2 := 2538) w dL_law_2536 rfl rfl ?_
  refine s_iconst (pc2 := 2539) (v := 3) w dL_law_2538 rfl rfl ?_
  refine s_iadd (pc2 := 2540) w dL_law_2539 rfl ?_
  refine g_ialoadS (pc2 := 2541) w dL_law_2540 rfl rfl h3 ?_
  rw [sc _, e3]
  refine s_aload_n (pc2 := 2542) w dL_law_2541 rfl rfl ?_
  refine r_L_bestDirection (pc2 := 2545) w dL_law_2542 rfl hc1 rfl (by omega) hR hok ?_ ?_
  · intro b0 x2 y2 b1
    have sc2 := sc.cx b1.2.1
    refine s_istore (pc2 := 2547) w dL_law_2545 rfl rfl ?_
    dsimp only [gk_s1, gk_s2, gk_cl]
    refine s_aload_n (pc2 := 2548) w dL_law_2547 rfl rfl ?_
    refine s_aload_n (pc2 := 2549) w dL_law_2548 rfl rfl ?_
    refine s_iload (pc2 := 2551) w dL_law_2549 rfl rfl ?_
    refine s_iconst (pc2 := 2552) (v := 1) w dL_law_2551 rfl rfl ?_
    refine s_iadd (pc2 := 2553) w dL_law_2552 rfl ?_
    refine g_ialoadS (pc2 := 2554) w dL_law_2553 rfl rfl h1 ?_
    rw [sc2 _, e1]
    refine s_aload_n (pc2 := 2555) w dL_law_2554 rfl rfl ?_
    refine s_iload (pc2 := 2557) w dL_law_2555 rfl rfl ?_
    refine s_iconst (pc2 := 2558) (v := 2) w dL_law_2557 rfl rfl ?_
    refine s_iadd (pc2 := 2559) w dL_law_2558 rfl ?_
    refine g_ialoadS (pc2 := 2560) w dL_law_2559 rfl rfl h2 ?_
    rw [sc2 _, e2]
    refine s_aload_n (pc2 := 2561) w dL_law_2560 rfl rfl ?_
    refine s_iload (pc2 := 2563) w dL_law_2561 rfl rfl ?_
    refine s_iconst (pc2 := 2564) (v := 3) w dL_law_2563 rfl rfl ?_
    refine s_iadd (pc2 := 2565) w dL_law_2564 rfl ?_
    refine g_ialoadS (pc2 := 2566) w dL_law_2565 rfl rfl h3 ?_
    rw [sc2 _, e3]
    refine r_X11_bestDirection (pc2 := 2569) w dL_law_2566 rfl hc2 rfl (hM.cx b1.2.1) hok ?_ ?_
    · intro d0 x3 y3 d1
      refine s_istore (pc2 := 2571) w dL_law_2569 rfl rfl ?_
      dsimp only [gk_s1, gk_s2, gk_cl]
      refine s_aload_n (pc2 := 2572) w dL_law_2571 rfl rfl ?_
      refine r_X11_thrown (pc2 := 2575) w dL_law_2572 rfl hc3 rfl ?_
      rw [d1.2.1]
      refine s_iload (pc2 := 2577) w dL_law_2575 rfl rfl ?_
      refine s_ic_eq (pc2 := 2580) (tgt := 2582) w dL_law_2577 rfl (by decide) (fun _ => ?_) (fun h0 => absurd (rfl) h0)
      refine s_iload (pc2 := 2584) w dL_law_2582 rfl rfl ?_
      refine s_if_ne (pc2 := 2587) (tgt := 2599) w dL_law_2584 rfl (by decide) (fun h0 => absurd (rfl) h0) (fun _ => ?_)
      refine s_aload_n (pc2 := 2588) w dL_law_2587 rfl rfl ?_
      refine s_iconst (pc2 := 2589) (v := 0) w dL_law_2588 rfl rfl ?_
      refine m_laloadN (pc2 := 2590) (t := 0) (N := 1) w dL_law_2589 rfl rfl rfl rfl (by decide) rfl ?_
      rw [(d1.2.2.2 200 0 (by decide)).trans (gk_uy_in _ _ _ _)]
      refine s_iload (pc2 := 2592) w dL_law_2590 rfl rfl ?_
      refine s_i2l (pc2 := 2593) w dL_law_2592 rfl ?_
      refine s_lcmp (pc2 := 2594) w dL_law_2593 rfl ?_
      refine s_if_eq (pc2 := 2597) (tgt := 2599) w dL_law_2594 rfl (by decide) (fun _ => ?_) (fun h0 => absurd (lcm_self _) h0)
      refine s_goto (tgt := 3095) w dL_law_2599 (by decide) ?_
      exact kk _ _ _ _ _ _ (by omega) (LI.st sc hT b1 (uy_out (Or.inl rfl)) d1 hok)
    · intro d0 x3 y3 d1
      exact absurd b0 d0
  · intro b0 x2 y2 b1
    have sc2 := sc.cx b1.2.1
    refine s_istore (pc2 := 2547) w dL_law_2545 rfl rfl ?_
    dsimp only [gk_s1, gk_s2, gk_cl]
    refine s_aload_n (pc2 := 2548) w dL_law_2547 rfl rfl ?_
    refine s_aload_n (pc2 := 2549) w dL_law_2548 rfl rfl ?_
    refine s_iload (pc2 := 2551) w dL_law_2549 rfl rfl ?_
    refine s_iconst (pc2 := 2552) (v := 1) w dL_law_2551 rfl rfl ?_
    refine s_iadd (pc2 := 2553) w dL_law_2552 rfl ?_
    refine g_ialoadS (pc2 := 2554) w dL_law_2553 rfl rfl h1 ?_
    rw [sc2 _, e1]
    refine s_aload_n (pc2 := 2555) w dL_law_2554 rfl rfl ?_
    refine s_iload (pc2 := 2557) w dL_law_2555 rfl rfl ?_
    refine s_iconst (pc2 := 2558) (v := 2) w dL_law_2557 rfl rfl ?_
    refine s_iadd (pc2 := 2559) w dL_law_2558 rfl ?_
    refine g_ialoadS (pc2 := 2560) w dL_law_2559 rfl rfl h2 ?_
    rw [sc2 _, e2]
    refine s_aload_n (pc2 := 2561) w dL_law_2560 rfl rfl ?_
    refine s_iload (pc2 := 2563) w dL_law_2561 rfl rfl ?_
    refine s_iconst (pc2 := 2564) (v := 3) w dL_law_2563 rfl rfl ?_
    refine s_iadd (pc2 := 2565) w dL_law_2564 rfl ?_
    refine g_ialoadS (pc2 := 2566) w dL_law_2565 rfl rfl h3 ?_
    rw [sc2 _, e3]
    refine r_X11_bestDirection (pc2 := 2569) w dL_law_2566 rfl hc2 rfl (hM.cx b1.2.1) hok ?_ ?_
    · intro d0 x3 y3 d1
      exact absurd d0 b0
    · intro d0 x3 y3 d1
      refine s_istore (pc2 := 2571) w dL_law_2569 rfl rfl ?_
      dsimp only [gk_s1, gk_s2, gk_cl]
      refine s_aload_n (pc2 := 2572) w dL_law_2571 rfl rfl ?_
      refine r_X11_thrown (pc2 := 2575) w dL_law_2572 rfl hc3 rfl ?_
      rw [d1.2.1]
      refine s_iload (pc2 := 2577) w dL_law_2575 rfl rfl ?_
      refine s_ic_eq (pc2 := 2580) (tgt := 2582) w dL_law_2577 rfl (by decide) (fun _ => ?_) (fun h0 => absurd (rfl) h0)
      refine s_iload (pc2 := 2584) w dL_law_2582 rfl rfl ?_
      refine s_if_ne (pc2 := 2587) (tgt := 2599) w dL_law_2584 rfl (by decide) (fun _ => ?_) (fun h0 => absurd h0 (by decide))
      refine s_goto (tgt := 3095) w dL_law_2599 (by decide) ?_
      exact kk _ _ _ _ _ _ (by omega) (LI.st sc hT b1 (fun _ _ _ _ => rfl) d1 hok)

theorem lc_34 (w : gk_W cL_law pL cs (fun _ _ => none) rt uf (some Ls) K V) (hc1 : cs 267 = some (0, 0, 6, 4, S_L_spectrum)) (hc2 : cs 269 = some (1, 10, 5, 0, S_X11_spectrum)) (hc3 : cs 152 = some (1, 10, 1, 0, S_X11_thrown)) {a1 a2 a3 a4 : Int32} (h1 : vp_in (i + 1) Ls) (e1 : sv (i + 1).toNatClampNeg = a1) (h2 : vp_in (i + 2) Ls) (e2 : sv (i + 2).toNatClampNeg = a2) (h3 : vp_in (i + 3) Ls) (e3 : sv (i + 3).toNatClampNeg = a3) (h4 : vp_in (i + 4) Ls) (e4 : sv (i + 4).toNatClampNeg = a4) (hu : u + 6 ≤ uf) (hI : LI sv x y) (kk : ∀ (x2 : gk_X) (y2 : gk_Y) (q6 q7 q8 : Option Value) (u2 : Nat), u2 ≤ u + 6 → LI sv x2 y2 → V 3095 [some (.ref 5000), some (.ref 0), some (.ref 189), some (.ref 200), some (.ref 201), some (.int i), q6, q7, q8] [] 202 gk_fT x2 y2 u2) : V 2602 [some (.ref 5000), some (.ref 0), some (.ref 189), some (.ref 200), some (.ref 201), some (.int i), q6, q7, q8] [] 202 gk_fT x y u := by
  obtain ⟨sc, hT, g, hM, hR, hok⟩ := hI
  refine s_aload_n (pc2 := 2603) w dL_law_2602 rfl rfl ?_
  refine s_aload_n (pc2 := 2604) w dL_law_2603 rfl rfl ?_
  refine s_iload (pc2 := 2606) w dL_law_2604 rfl rfl ?_
  refine s_iconst (pc2 := 2607) (v := 1) w dL_law_2606 rfl rfl ?_
  refine s_iadd (pc2 := 2608) w dL_law_2607 rfl ?_
  refine g_ialoadS (pc2 := 2609) w dL_law_2608 rfl rfl h1 ?_
  rw [sc _, e1]
  refine s_aload_n (pc2 := 2610) w dL_law_2609 rfl rfl ?_
  refine s_iload (pc2 := 2612) w dL_law_2610 rfl rfl ?_
  refine s_iconst (pc2 := 2613) (v := 2) w dL_law_2612 rfl rfl ?_
  refine s_iadd (pc2 := 2614) w dL_law_2613 rfl ?_
  refine g_ialoadS (pc2 := 2615) w dL_law_2614 rfl rfl h2 ?_
  rw [sc _, e2]
  refine s_aload_n (pc2 := 2616) w dL_law_2615 rfl rfl ?_
  refine s_iload (pc2 := 2618) w dL_law_2616 rfl rfl ?_
  refine s_iconst (pc2 := 2619) (v := 3) w dL_law_2618 rfl rfl ?_
  refine s_iadd (pc2 := 2620) w dL_law_2619 rfl ?_
  refine g_ialoadS (pc2 := 2621) w dL_law_2620 rfl rfl h3 ?_
  rw [sc _, e3]
  refine s_aload_n (pc2 := 2622) w dL_law_2621 rfl rfl ?_
  refine s_iload (pc2 := 2624) w dL_law_2622 rfl rfl ?_
  refine s_iconst (pc2 := 2625) (v := 4) w dL_law_2624 rfl rfl ?_
  refine s_iadd (pc2 := 2626) w dL_law_2625 rfl ?_
  refine g_ialoadS (pc2 := 2627) w dL_law_2626 rfl rfl h4 ?_
  rw [sc _, e4]
  refine s_aload_n (pc2 := 2628) w dL_law_2627 rfl rfl ?_
  refine r_L_spectrum (pc2 := 2631) w dL_law_2628 rfl hc1 rfl (by omega) hR hok ?_ ?_
  · intro b0 x2 y2 b1
    have sc2 := sc.cx b1.2.1
    refine s_istore (pc2 := 2633) w dL_law_2631 rfl rfl ?_
    dsimp only [gk_s1, gk_s2, gk_cl]
    refine s_aload_n (pc2 := 2634) w dL_law_2633 rfl rfl ?_
    refine s_aload_n (pc2 := 2635) w dL_law_2634 rfl rfl ?_
    refine s_iload (pc2 := 2637) w dL_law_2635 rfl rfl ?_
    refine s_iconst (pc2 := 2638) (v := 1) w dL_law_2637 rfl rfl ?_
    refine s_iadd (pc2 := 2639) w dL_law_2638 rfl ?_
    refine g_ialoadS (pc2 := 2640) w dL_law_2639 rfl rfl h1 ?_
    rw [sc2 _, e1]
    refine s_aload_n (pc2 := 2641) w dL_law_2640 rfl rfl ?_
    refine s_iload (pc2 := 2643) w dL_law_2641 rfl rfl ?_
    refine s_iconst (pc2 := 2644) (v := 2) w dL_law_2643 rfl rfl ?_
    refine s_iadd (pc2 := 2645) w dL_law_2644 rfl ?_
    refine g_ialoadS (pc2 := 2646) w dL_law_2645 rfl rfl h2 ?_
    rw [sc2 _, e2]
    refine s_aload_n (pc2 := 2647) w dL_law_2646 rfl rfl ?_
    refine s_iload (pc2 := 2649) w dL_law_2647 rfl rfl ?_
    refine s_iconst (pc2 := 2650) (v := 3) w dL_law_2649 rfl rfl ?_
    refine s_iadd (pc2 := 2651) w dL_law_2650 rfl ?_
    refine g_ialoadS (pc2 := 2652) w dL_law_2651 rfl rfl h3 ?_
    rw [sc2 _, e3]
    refine s_aload_n (pc2 := 2653) w dL_law_2652 rfl rfl ?_
    refine s_iload (pc2 := 2655) w dL_law_2653 rfl rfl ?_
    refine s_iconst (pc2 := 2656) (v := 4) w dL_law_2655 rfl rfl ?_
    refine s_iadd (pc2 := 2657) w dL_law_2656 rfl ?_
    refine g_ialoadS (pc2 := 2658) w dL_law_2657 rfl rfl h4 ?_
    rw [sc2 _, e4]
    refine r_X11_spectrum (pc2 := 2661) w dL_law_2658 rfl hc2 rfl (hM.cx b1.2.1) hok ?_ ?_
    · intro d0 x3 y3 d1
      refine s_lstore (pc2 := 2663) w dL_law_2661 rfl rfl ?_
      dsimp only [gk_s1, gk_s2, gk_cl]
      refine s_aload_n (pc2 := 2664) w dL_law_2663 rfl rfl ?_
      refine r_X11_thrown (pc2 := 2667) w dL_law_2664 rfl hc3 rfl ?_
      rw [d1.2.1]
      refine s_iload (pc2 := 2669) w dL_law_2667 rfl rfl ?_
      refine s_ic_eq (pc2 := 2672) (tgt := 2674) w dL_law_2669 rfl (by decide) (fun _ => ?_) (fun h0 => absurd (rfl) h0)
      refine s_iload (pc2 := 2676) w dL_law_2674 rfl rfl ?_
      refine s_if_ne (pc2 := 2679) (tgt := 2690) w dL_law_2676 rfl (by decide) (fun h0 => absurd (rfl) h0) (fun _ => ?_)
      refine s_aload_n (pc2 := 2680) w dL_law_2679 rfl rfl ?_
      refine s_iconst (pc2 := 2681) (v := 0) w dL_law_2680 rfl rfl ?_
      refine m_laloadN (pc2 := 2682) (t := 0) (N := 1) w dL_law_2681 rfl rfl rfl rfl (by decide) rfl ?_
      rw [(d1.2.2.2 200 0 (by decide)).trans (gk_uy_in _ _ _ _)]
      refine s_lload (pc2 := 2684) w dL_law_2682 rfl rfl ?_
      refine s_lcmp (pc2 := 2685) w dL_law_2684 rfl ?_
      refine s_if_eq (pc2 := 2688) (tgt := 2690) w dL_law_2685 rfl (by decide) (fun _ => ?_) (fun h0 => absurd (lcm_self _) h0)
      refine s_goto (tgt := 3095) w dL_law_2690 (by decide) ?_
      exact kk _ _ _ _ _ _ (by omega) (LI.st sc hT b1 (uy_out (Or.inl rfl)) d1 hok)
    · intro d0 x3 y3 d1
      exact absurd b0 d0
  · intro b0 x2 y2 b1
    have sc2 := sc.cx b1.2.1
    refine s_istore (pc2 := 2633) w dL_law_2631 rfl rfl ?_
    dsimp only [gk_s1, gk_s2, gk_cl]
    refine s_aload_n (pc2 := 2634) w dL_law_2633 rfl rfl ?_
    refine s_aload_n (pc2 := 2635) w dL_law_2634 rfl rfl ?_
    refine s_iload (pc2 := 2637) w dL_law_2635 rfl rfl ?_
    refine s_iconst (pc2 := 2638) (v := 1) w dL_law_2637 rfl rfl ?_
    refine s_iadd (pc2 := 2639) w dL_law_2638 rfl ?_
    refine g_ialoadS (pc2 := 2640) w dL_law_2639 rfl rfl h1 ?_
    rw [sc2 _, e1]
    refine s_aload_n (pc2 := 2641) w dL_law_2640 rfl rfl ?_
    refine s_iload (pc2 := 2643) w dL_law_2641 rfl rfl ?_
    refine s_iconst (pc2 := 2644) (v := 2) w dL_law_2643 rfl rfl ?_
    refine s_iadd (pc2 := 2645) w dL_law_2644 rfl ?_
    refine g_ialoadS (pc2 := 2646) w dL_law_2645 rfl rfl h2 ?_
    rw [sc2 _, e2]
    refine s_aload_n (pc2 := 2647) w dL_law_2646 rfl rfl ?_
    refine s_iload (pc2 := 2649) w dL_law_2647 rfl rfl ?_
    refine s_iconst (pc2 := 2650) (v := 3) w dL_law_2649 rfl rfl ?_
    refine s_iadd (pc2 := 2651) w dL_law_2650 rfl ?_
    refine g_ialoadS (pc2 := 2652) w dL_law_2651 rfl rfl h3 ?_
    rw [sc2 _, e3]
    refine s_aload_n (pc2 := 2653) w dL_law_2652 rfl rfl ?_
    refine s_iload (pc2 := 2655) w dL_law_2653 rfl rfl ?_
    refine s_iconst (pc2 := 2656) (v := 4) w dL_law_2655 rfl rfl ?_
    refine s_iadd (pc2 := 2657) w dL_law_2656 rfl ?_
    refine g_ialoadS (pc2 := 2658) w dL_law_2657 rfl rfl h4 ?_
    rw [sc2 _, e4]
    refine r_X11_spectrum (pc2 := 2661) w dL_law_2658 rfl hc2 rfl (hM.cx b1.2.1) hok ?_ ?_
    · intro d0 x3 y3 d1
      exact absurd d0 b0
    · intro d0 x3 y3 d1
      refine s_lstore (pc2 := 2663) w dL_law_2661 rfl rfl ?_
      dsimp only [gk_s1, gk_s2, gk_cl]
      refine s_aload_n (pc2 := 2664) w dL_law_2663 rfl rfl ?_
      refine r_X11_thrown (pc2 := 2667) w dL_law_2664 rfl hc3 rfl ?_
      rw [d1.2.1]
      refine s_iload (pc2 := 2669) w dL_law_2667 rfl rfl ?_
      refine s_ic_eq (pc2 := 2672) (tgt := 2674) w dL_law_2669 rfl (by decide) (fun _ => ?_) (fun h0 => absurd (rfl) h0)
      refine s_iload (pc2 := 2676) w dL_law_2674 rfl rfl ?_
      refine s_if_ne (pc2 := 2679) (tgt := 2690) w dL_law_2676 rfl (by decide) (fun _ => ?_) (fun h0 => absurd h0 (by decide))
      refine s_goto (tgt := 3095) w dL_law_2690 (by decide) ?_
      exact kk _ _ _ _ _ _ (by omega) (LI.st sc hT b1 (fun _ _ _ _ => rfl) d1 hok)

end GKV

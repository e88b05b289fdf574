/-! THE LAW, 4: its other cases -/
section GKV
variable {c : ByteArray} {P : gk_C} {cs : Nat → Option gk_M0} {rt : Option FieldType} {uf : Nat} {sc : Option Nat} {K : gk_K} {V : gk_V}
variable {L : List (Option Value)} {r : List Value} {n : Nat} {fl : gk_F} {x : gk_X} {y : gk_Y} {u pc pc2 : Nat}
variable {Ls : Nat} {sv : Nat → Int32} {i : Int32} {q6 q7 q8 : Option Value}
theorem lc_2 (w : gk_W cL_law pL cs (fun _ _ => none) rt uf (some Ls) K V) (hc1 : cs 159 = some (1, 9, 2, 0, S_X10_setSpreading)) (hc2 : cs 163 = some (1, 10, 2, 0, S_X11_setSpreading)) {a1 : Int32} (h1 : vp_in (i + 1) Ls) (e1 : sv (i + 1).toNatClampNeg = a1) (hu : u + 6 ≤ uf) (hI : LI sv x y) (kk : ∀ (x2 : gk_X) (y2 : gk_Y) (q6 q7 q8 : Option Value) (u2 : Nat), u2 ≤ u + 6 → LI sv x2 y2 → V 3095 [some (.ref 5000), some (.ref 0), some (.ref 189), some (.ref 200), some (.ref 201), some (.int i), q6, q7, q8] [] 202 gk_fT x2 y2 u2) : V 348 [some (.ref 5000), some (.ref 0), some (.ref 189), some (.ref 200), some (.ref 201), some (.int i), q6, q7, q8] [] 202 gk_fT x y u := by
  obtain ⟨sc, hT, g, hM, hR, hok⟩ := hI
  refine s_aload_n (pc2 := 349) w dL_law_348 rfl rfl ?_
  refine s_aload_n (pc2 := 350) w dL_law_349 rfl rfl ?_
  refine s_iload (pc2 := 352) w dL_law_350 rfl rfl ?_
  refine s_iconst (pc2 := 353) (v := 1) w dL_law_352 rfl rfl ?_
  refine s_iadd (pc2 := 354) w dL_law_353 rfl ?_
  refine g_ialoadS (pc2 := 355) w dL_law_354 rfl rfl h1 ?_
  rw [sc _, e1]
  refine s_if_eq (pc2 := 358) (tgt := 362) w dL_law_355 rfl (by decide) (fun c355 => ?_) (fun c355 => ?_)
  · refine s_iconst (pc2 := 363) (v := 0) w dL_law_362 rfl rfl ?_
    refine r_X10_setSpreading (pc2 := 366) w dL_law_363 rfl hc1 rfl hR hok (by decide) (fun x2 y2 hk => ?_)
    have sc2 := sc.cx hk.2.1
    refine s_aload_n (pc2 := 367) w dL_law_366 rfl rfl ?_
    refine s_aload_n (pc2 := 368) w dL_law_367 rfl rfl ?_
    refine s_iload (pc2 := 370) w dL_law_368 rfl rfl ?_
    refine s_iconst (pc2 := 371) (v := 1) w dL_law_370 rfl rfl ?_
    refine s_iadd (pc2 := 372) w dL_law_371 rfl ?_
    refine g_ialoadS (pc2 := 373) w dL_law_372 rfl rfl h1 ?_
    rw [sc2 _, e1]
    refine s_if_eq (pc2 := 376) (tgt := 380) w dL_law_373 rfl (by decide) (fun _ => ?_) (fun h0 => absurd (c355) h0)
    refine s_iconst (pc2 := 381) (v := 0) w dL_law_380 rfl rfl ?_
    refine r_X11_setSpreading (pc2 := 384) w dL_law_381 rfl hc2 rfl (hM.cx hk.2.1) hok (by decide) (fun x3 y3 hr => ?_)
    refine s_ic_eq (pc2 := 387) (tgt := 3095) w dL_law_384 rfl (by decide) (fun _ => ?_) (fun h0 => absurd (rfl) h0)
    exact kk _ _ _ _ _ _ (by omega) (LI.st sc hT hk (fun _ _ _ _ => rfl) hr (gOK_2 hok (by decide)))
  · refine s_iconst (pc2 := 359) (v := 1) w dL_law_358 rfl rfl ?_
    refine s_goto (tgt := 363) w dL_law_359 (by decide) ?_
    refine r_X10_setSpreading (pc2 := 366) w dL_law_363 rfl hc1 rfl hR hok (by decide) (fun x2 y2 hk => ?_)
    have sc2 := sc.cx hk.2.1
    refine s_aload_n (pc2 := 367) w dL_law_366 rfl rfl ?_
    refine s_aload_n (pc2 := 368) w dL_law_367 rfl rfl ?_
    refine s_iload (pc2 := 370) w dL_law_368 rfl rfl ?_
    refine s_iconst (pc2 := 371) (v := 1) w dL_law_370 rfl rfl ?_
    refine s_iadd (pc2 := 372) w dL_law_371 rfl ?_
    refine g_ialoadS (pc2 := 373) w dL_law_372 rfl rfl h1 ?_
    rw [sc2 _, e1]
    refine s_if_eq (pc2 := 376) (tgt := 380) w dL_law_373 rfl (by decide) (fun h0 => absurd h0 (c355)) (fun _ => ?_)
    refine s_iconst (pc2 := 377) (v := 1) w dL_law_376 rfl rfl ?_
    refine s_goto (tgt := 381) w dL_law_377 (by decide) ?_
    refine r_X11_setSpreading (pc2 := 384) w dL_law_381 rfl hc2 rfl (hM.cx hk.2.1) hok (by decide) (fun x3 y3 hr => ?_)
    refine s_ic_eq (pc2 := 387) (tgt := 3095) w dL_law_384 rfl (by decide) (fun _ => ?_) (fun h0 => absurd (rfl) h0)
    exact kk _ _ _ _ _ _ (by omega) (LI.st sc hT hk (fun _ _ _ _ => rfl) hr (gOK_2 hok (by decide)))

theorem lc_24 (w : gk_W cL_law pL cs (fun _ _ => none) rt uf (some Ls) K V) (hc1 : cs 236 = some (1, 9, 2, 0, S_X10_setCut)) (hc2 : cs 239 = some (1, 10, 2, 0, S_X11_setCut)) {a1 : Int32} (h1 : vp_in (i + 1) Ls) (e1 : sv (i + 1).toNatClampNeg = a1) (hu : u + 6 ≤ uf) (hI : LI sv x y) (kk : ∀ (x2 : gk_X) (y2 : gk_Y) (q6 q7 q8 : Option Value) (u2 : Nat), u2 ≤ u + 6 → LI sv x2 y2 → V 3095 [some (.ref 5000), some (.ref 0), some (.ref 189), some (.ref 200), some (.ref 201), some (.int i), q6, q7, q8] [] 202 gk_fT x2 y2 u2) : V 1880 [some (.ref 5000), some (.ref 0), some (.ref 189), some (.ref 200), some (.ref 201), some (.int i), q6, q7, q8] [] 202 gk_fT x y u := by
  obtain ⟨sc, hT, g, hM, hR, hok⟩ := hI
  refine s_aload_n (pc2 := 1881) w dL_law_1880 rfl rfl ?_
  refine s_aload_n (pc2 := 1882) w dL_law_1881 rfl rfl ?_
  refine s_iload (pc2 := 1884) w dL_law_1882 rfl rfl ?_
  refine s_iconst (pc2 := 1885) (v := 1) w dL_law_1884 rfl rfl ?_
  refine s_iadd (pc2 := 1886) w dL_law_1885 rfl ?_
  refine g_ialoadS (pc2 := 1887) w dL_law_1886 rfl rfl h1 ?_
  rw [sc _, e1]
  refine s_if_eq (pc2 := 1890) (tgt := 1894) w dL_law_1887 rfl (by decide) (fun c1887 => ?_) (fun c1887 => ?_)
  · refine s_iconst (pc2 := 1895) (v := 0) w dL_law_1894 rfl rfl ?_
    refine r_X10_setCut (pc2 := 1898) w dL_law_1895 rfl hc1 rfl hR hok (by decide) (fun x2 y2 hk => ?_)
    have sc2 := sc.cx hk.2.1
    refine s_aload_n (pc2 := 1899) w dL_law_1898 rfl rfl ?_
    refine s_aload_n (pc2 := 1900) w dL_law_1899 rfl rfl ?_
    refine s_iload (pc2 := 1902) w dL_law_1900 rfl rfl ?_
    refine s_iconst (pc2 := 1903) (v := 1) w dL_law_1902 rfl rfl ?_
    refine s_iadd (pc2 := 1904) w dL_law_1903 rfl ?_
    refine g_ialoadS (pc2 := 1905) w dL_law_1904 rfl rfl h1 ?_
    rw [sc2 _, e1]
    refine s_if_eq (pc2 := 1908) (tgt := 1912) w dL_law_1905 rfl (by decide) (fun _ => ?_) (fun h0 => absurd (c1887) h0)
    refine s_iconst (pc2 := 1913) (v := 0) w dL_law_1912 rfl rfl ?_
    refine r_X11_setCut (pc2 := 1916) w dL_law_1913 rfl hc2 rfl (hM.cx hk.2.1) hok (by decide) (fun x3 y3 hr => ?_)
    refine s_ic_eq (pc2 := 1919) (tgt := 3095) w dL_law_1916 rfl (by decide) (fun _ => ?_) (fun h0 => absurd (rfl) h0)
    exact kk _ _ _ _ _ _ (by omega) (LI.st sc hT hk (fun _ _ _ _ => rfl) hr (gOK_5 hok (by decide)))
  · refine s_iconst (pc2 := 1891) (v := 1) w dL_law_1890 rfl rfl ?_
    refine s_goto (tgt := 1895) w dL_law_1891 (by decide) ?_
    refine r_X10_setCut (pc2 := 1898) w dL_law_1895 rfl hc1 rfl hR hok (by decide) (fun x2 y2 hk => ?_)
    have sc2 := sc.cx hk.2.1
    refine s_aload_n (pc2 := 1899) w dL_law_1898 rfl rfl ?_
    refine s_aload_n (pc2 := 1900) w dL_law_1899 rfl rfl ?_
    refine s_iload (pc2 := 1902) w dL_law_1900 rfl rfl ?_
    refine s_iconst (pc2 := 1903) (v := 1) w dL_law_1902 rfl rfl ?_
    refine s_iadd (pc2 := 1904) w dL_law_1903 rfl ?_
    refine g_ialoadS (pc2 := 1905) w dL_law_1904 rfl rfl h1 ?_
    rw [sc2 _, e1]
    refine s_if_eq (pc2 := 1908) (tgt := 1912) w dL_law_1905 rfl (by decide) (fun h0 => absurd h0 (c1887)) (fun _ => ?_)
    refine s_iconst (pc2 := 1909) (v := 1) w dL_law_1908 rfl rfl ?_
    refine s_goto (tgt := 1913) w dL_law_1909 (by decide) ?_
    refine r_X11_setCut (pc2 := 1916) w dL_law_1913 rfl hc2 rfl (hM.cx hk.2.1) hok (by decide) (fun x3 y3 hr => ?_)
    refine s_ic_eq (pc2 := 1919) (tgt := 3095) w dL_law_1916 rfl (by decide) (fun _ => ?_) (fun h0 => absurd (rfl) h0)
    exact kk _ _ _ _ _ _ (by omega) (LI.st sc hT hk (fun _ _ _ _ => rfl) hr (gOK_5 hok (by decide)))

theorem lc_14 (w : gk_W cL_law pL cs (fun _ _ => none) rt uf (some Ls) K V) (hc1 : cs 203 = some (1, 9, 1, 0, S_X10_makeRecording)) (hc2 : cs 206 = some (1, 10, 1, 0, S_X11_makeRecording))  (hu : u + 6 ≤ uf) (hI : LI sv x y) (kk : ∀ (x2 : gk_X) (y2 : gk_Y) (q6 q7 q8 : Option Value) (u2 : Nat), u2 ≤ u + 6 → LI sv x2 y2 → V 3095 [some (.ref 5000), some (.ref 0), some (.ref 189), some (.ref 200), some (.ref 201), some (.int i), q6, q7, q8] [] 202 gk_fT x2 y2 u2) : V 1257 [some (.ref 5000), some (.ref 0), some (.ref 189), some (.ref 200), some (.ref 201), some (.int i), q6, q7, q8] [] 202 gk_fT x y u := by
  obtain ⟨sc, hT, g, hM, hR, hok⟩ := hI
  refine s_aload_n (pc2 := 1258) w dL_law_1257 rfl rfl ?_
  refine r_X10_makeRecording (pc2 := 1261) w dL_law_1258 rfl hc1 rfl hR hok (fun x2 y2 hk => ?_)
  have sc2 := sc.cx hk.2.1
  refine s_aload_n (pc2 := 1262) w dL_law_1261 rfl rfl ?_
  refine r_X11_makeRecording (pc2 := 1265) w dL_law_1262 rfl hc2 rfl (fun k h => hM.cx hk.2.1 k (by omega)) hok.1 (fun x3 hx => ?_)
  have hr := MOk.rc (y := y2) (hM.cx hk.2.1) hx
  rw [hM.cx hk.2.1 9 (by decide)]
  refine s_ic_eq (pc2 := 1268) (tgt := 3095) w dL_law_1265 rfl (by decide) (fun _ => ?_) (fun h0 => absurd (rfl) h0)
  exact kk _ _ _ _ _ _ (by omega) (LI.st sc hT hk (fun _ _ _ _ => rfl) hr (gOK_Rec hok))

theorem lc_42 (w : gk_W cL_law pL cs (fun _ _ => none) rt uf (some Ls) K V) (hc1 : cs 295 = some (0, 0, 2, 1, S_L_save)) (hc2 : cs 297 = some (1, 10, 2, 0, S_X11_save)) (hc3 : cs 152 = some (1, 10, 1, 0, S_X11_thrown)) {a1 : Int32} (h1 : vp_in (i + 1) Ls) (e1 : sv (i + 1).toNatClampNeg = a1) (hu : u + 6 ≤ uf) (hI : LI sv x y) (kk : ∀ (x2 : gk_X) (y2 : gk_Y) (q6 q7 q8 : Option Value) (u2 : Nat), u2 ≤ u + 6 → LI sv x2 y2 → V 3095 [some (.ref 5000), some (.ref 0), some (.ref 189), some (.ref 200), some (.ref 201), some (.int i), q6, q7, q8] [] 202 gk_fT x2 y2 u2) : V 3023 [some (.ref 5000), some (.ref 0), some (.ref 189), some (.ref 200), some (.ref 201), some (.int i), q6, q7, q8] [] 202 gk_fT x y u := by
  obtain ⟨sc, hT, g, hM, hR, hok⟩ := hI
  refine s_aload_n (pc2 := 3024) w dL_law_3023 rfl rfl ?_
  refine s_aload_n (pc2 := 3025) w dL_law_3024 rfl rfl ?_
  refine s_iload (pc2 := 3027) w dL_law_3025 rfl rfl ?_
  refine s_iconst (pc2 := 3028) (v := 1) w dL_law_3027 rfl rfl ?_
  refine s_iadd (pc2 := 3029) w dL_law_3028 rfl ?_
  refine g_ialoadS (pc2 := 3030) w dL_law_3029 rfl rfl h1 ?_
  rw [sc _, e1]
  refine r_L_save (pc2 := 3033) w dL_law_3030 rfl hc1 rfl (by omega) hR hok ?_ ?_
  · intro b0 x2 y2 u1 u2 u3 u4
    have q2 := cN_2 b0
    have sc2 : SC sv x2 := sc.go (fun k => u3 5000 k (by omega) (by omega))
    refine s_istore (pc2 := 3035) w dL_law_3033 rfl rfl ?_
    dsimp only [gk_s1, gk_s2, gk_cl]
    refine s_aload_n (pc2 := 3036) w dL_law_3035 rfl rfl ?_
    refine s_aload_n (pc2 := 3037) w dL_law_3036 rfl rfl ?_
    refine s_iload (pc2 := 3039) w dL_law_3037 rfl rfl ?_
    refine s_iconst (pc2 := 3040) (v := 1) w dL_law_3039 rfl rfl ?_
    refine s_iadd (pc2 := 3041) w dL_law_3040 rfl ?_
    refine g_ialoadS (pc2 := 3042) w dL_law_3041 rfl rfl h1 ?_
    rw [sc2 _, e1]
    refine r_X11_save (pc2 := 3045) w dL_law_3042 rfl hc2 rfl (fun d0 => ?_) (fun d0 => absurd b0 d0)
    refine s_aload_n (pc2 := 3046) w dL_law_3045 rfl rfl ?_
    refine r_X11_thrown (pc2 := 3049) w dL_law_3046 rfl hc3 rfl ?_
    rw [show (gk_up (gk_rg (gk_up x2 189 4 0) 192 (2234 * cN a1) 2234 (fun k => (gk_up x2 189 4 0) 190 (0 + k))) 193 (cN a1) 1) 189 4 = 0 from (gk_up_ne (by omega)).trans ((gk_rg_ne (by omega)).trans (gk_up_in _ _ _ _))]
    refine s_iload (pc2 := 3051) w dL_law_3049 rfl rfl ?_
    refine s_ic_eq (pc2 := 3054) (tgt := 3056) w dL_law_3051 rfl (by decide) (fun _ => ?_) (fun h0 => absurd (rfl) h0)
    refine s_goto (tgt := 3095) w dL_law_3056 (by decide) ?_
    exact kk _ _ _ _ _ _ (by omega) (LI.save q2 sc hT hM hR hok u1 u2 u3 u4)
  · intro b0 x2 y2 hk
    have sc2 := sc.cx hk.2.1
    refine s_istore (pc2 := 3035) w dL_law_3033 rfl rfl ?_
    dsimp only [gk_s1, gk_s2, gk_cl]
    refine s_aload_n (pc2 := 3036) w dL_law_3035 rfl rfl ?_
    refine s_aload_n (pc2 := 3037) w dL_law_3036 rfl rfl ?_
    refine s_iload (pc2 := 3039) w dL_law_3037 rfl rfl ?_
    refine s_iconst (pc2 := 3040) (v := 1) w dL_law_3039 rfl rfl ?_
    refine s_iadd (pc2 := 3041) w dL_law_3040 rfl ?_
    refine g_ialoadS (pc2 := 3042) w dL_law_3041 rfl rfl h1 ?_
    rw [sc2 _, e1]
    refine r_X11_save (pc2 := 3045) w dL_law_3042 rfl hc2 rfl (fun d0 => absurd d0 b0) (fun d0 => ?_)
    refine s_aload_n (pc2 := 3046) w dL_law_3045 rfl rfl ?_
    refine r_X11_thrown (pc2 := 3049) w dL_law_3046 rfl hc3 rfl ?_
    rw [gk_up_in]
    refine s_iload (pc2 := 3051) w dL_law_3049 rfl rfl ?_
    refine s_ic_eq (pc2 := 3054) (tgt := 3056) w dL_law_3051 rfl (by decide) (fun _ => ?_) (fun h0 => absurd (rfl) h0)
    refine s_goto (tgt := 3095) w dL_law_3056 (by decide) ?_
    exact kk _ _ _ _ _ _ (by omega) (LI.st sc hT hk (fun _ _ _ _ => rfl) (MOk.th (hM.cx hk.2.1) 1) hok)

theorem lc_43 (w : gk_W cL_law pL cs (fun _ _ => none) rt uf (some Ls) K V) (hc1 : cs 298 = some (0, 0, 2, 2, S_L_restore)) (hc2 : cs 300 = some (1, 10, 2, 0, S_X11_restore)) (hc3 : cs 152 = some (1, 10, 1, 0, S_X11_thrown)) {a1 : Int32} (h1 : vp_in (i + 1) Ls) (e1 : sv (i + 1).toNatClampNeg = a1) (hu : u + 6 ≤ uf) (hI : LI sv x y) (kk : ∀ (x2 : gk_X) (y2 : gk_Y) (q6 q7 q8 : Option Value) (u2 : Nat), u2 ≤ u + 6 → LI sv x2 y2 → V 3095 [some (.ref 5000), some (.ref 0), some (.ref 189), some (.ref 200), some (.ref 201), some (.int i), q6, q7, q8] [] 202 gk_fT x2 y2 u2) : V 3059 [some (.ref 5000), some (.ref 0), some (.ref 189), some (.ref 200), some (.ref 201), some (.int i), q6, q7, q8] [] 202 gk_fT x y u := by
  obtain ⟨sc, hT, g, hM, hR, hok⟩ := hI
  obtain ⟨h, hh⟩ := hT.1.ex a1
  refine s_aload_n (pc2 := 3060) w dL_law_3059 rfl rfl ?_
  refine s_aload_n (pc2 := 3061) w dL_law_3060 rfl rfl ?_
  refine s_iload (pc2 := 3063) w dL_law_3061 rfl rfl ?_
  refine s_iconst (pc2 := 3064) (v := 1) w dL_law_3063 rfl rfl ?_
  refine s_iadd (pc2 := 3065) w dL_law_3064 rfl ?_
  refine g_ialoadS (pc2 := 3066) w dL_law_3065 rfl rfl h1 ?_
  rw [sc _, e1]
  refine r_L_restore (pc2 := 3069) w dL_law_3066 rfl hc1 rfl (by omega) hR hok (fun r c => ⟨(hh r c).1, (hh r c).2.1.1⟩) ?_ ?_ ?_
  · intro b0 b1 x2 y2 hk
    have sc2 := sc.cx hk.2.1
    have hx := hT.1.eq hk.2.1 b0
    refine s_istore (pc2 := 3071) w dL_law_3069 rfl rfl ?_
    dsimp only [gk_s1, gk_s2, gk_cl]
    refine s_aload_n (pc2 := 3072) w dL_law_3071 rfl rfl ?_
    refine s_aload_n (pc2 := 3073) w dL_law_3072 rfl rfl ?_
    refine s_iload (pc2 := 3075) w dL_law_3073 rfl rfl ?_
    refine s_iconst (pc2 := 3076) (v := 1) w dL_law_3075 rfl rfl ?_
    refine s_iadd (pc2 := 3077) w dL_law_3076 rfl ?_
    refine g_ialoadS (pc2 := 3078) w dL_law_3077 rfl rfl h1 ?_
    rw [sc2 _, e1]
    refine r_X11_restore (pc2 := 3081) w dL_law_3078 rfl hc2 rfl (fun d0 d1 => ?_) (fun d0 => absurd b0 d0) (fun d0 d1 => absurd (fun e => b1 (hx.symm.trans e)) d1)
    refine s_aload_n (pc2 := 3082) w dL_law_3081 rfl rfl ?_
    refine r_X11_thrown (pc2 := 3085) w dL_law_3082 rfl hc3 rfl ?_
    rw [show (gk_rg (gk_up x2 189 4 0) 190 0 2234 (fun k => (gk_up x2 189 4 0) 192 (2234 * cN a1 + k))) 189 4 = 0 from (gk_rg_ne (by omega)).trans (gk_up_in _ _ _ _)]
    refine s_iload (pc2 := 3087) w dL_law_3085 rfl rfl ?_
    refine s_ic_eq (pc2 := 3090) (tgt := 3092) w dL_law_3087 rfl (by decide) (fun _ => ?_) (fun h0 => absurd (rfl) h0)
    refine s_goto (tgt := 3095) w dL_law_3092 (by decide) ?_
    exact kk _ _ _ _ _ _ (by omega) (LI.rest (cN_2 b0) sc hT (hh b0 b1).2.1 (hh b0 b1).2.2 hk)
  · intro b0 x2 y2 hk
    have sc2 := sc.cx hk.2.1
    refine s_istore (pc2 := 3071) w dL_law_3069 rfl rfl ?_
    dsimp only [gk_s1, gk_s2, gk_cl]
    refine s_aload_n (pc2 := 3072) w dL_law_3071 rfl rfl ?_
    refine s_aload_n (pc2 := 3073) w dL_law_3072 rfl rfl ?_
    refine s_iload (pc2 := 3075) w dL_law_3073 rfl rfl ?_
    refine s_iconst (pc2 := 3076) (v := 1) w dL_law_3075 rfl rfl ?_
    refine s_iadd (pc2 := 3077) w dL_law_3076 rfl ?_
    refine g_ialoadS (pc2 := 3078) w dL_law_3077 rfl rfl h1 ?_
    rw [sc2 _, e1]
    refine r_X11_restore (pc2 := 3081) w dL_law_3078 rfl hc2 rfl (fun d0 d1 => absurd d0 b0) (fun d0 => ?_) (fun d0 d1 => absurd d0 b0)
    refine s_aload_n (pc2 := 3082) w dL_law_3081 rfl rfl ?_
    refine r_X11_thrown (pc2 := 3085) w dL_law_3082 rfl hc3 rfl ?_
    rw [gk_up_in]
    refine s_iload (pc2 := 3087) w dL_law_3085 rfl rfl ?_
    refine s_ic_eq (pc2 := 3090) (tgt := 3092) w dL_law_3087 rfl (by decide) (fun _ => ?_) (fun h0 => absurd (rfl) h0)
    refine s_goto (tgt := 3095) w dL_law_3092 (by decide) ?_
    exact kk _ _ _ _ _ _ (by omega) (LI.st sc hT hk (fun _ _ _ _ => rfl) (MOk.th (hM.cx hk.2.1) 1) hok)
  · intro b0 b1 x2 y2 hk
    have sc2 := sc.cx hk.2.1
    have hx := hT.1.eq hk.2.1 b0
    refine s_istore (pc2 := 3071) w dL_law_3069 rfl rfl ?_
    dsimp only [gk_s1, gk_s2, gk_cl]
    refine s_aload_n (pc2 := 3072) w dL_law_3071 rfl rfl ?_
    refine s_aload_n (pc2 := 3073) w dL_law_3072 rfl rfl ?_
    refine s_iload (pc2 := 3075) w dL_law_3073 rfl rfl ?_
    refine s_iconst (pc2 := 3076) (v := 1) w dL_law_3075 rfl rfl ?_
    refine s_iadd (pc2 := 3077) w dL_law_3076 rfl ?_
    refine g_ialoadS (pc2 := 3078) w dL_law_3077 rfl rfl h1 ?_
    rw [sc2 _, e1]
    refine r_X11_restore (pc2 := 3081) w dL_law_3078 rfl hc2 rfl (fun d0 d1 => absurd (fun e => d1 (hx.trans e)) b1) (fun d0 => absurd b0 d0) (fun d0 d1 => ?_)
    refine s_aload_n (pc2 := 3082) w dL_law_3081 rfl rfl ?_
    refine r_X11_thrown (pc2 := 3085) w dL_law_3082 rfl hc3 rfl ?_
    rw [gk_up_in]
    refine s_iload (pc2 := 3087) w dL_law_3085 rfl rfl ?_
    refine s_ic_eq (pc2 := 3090) (tgt := 3092) w dL_law_3087 rfl (by decide) (fun _ => ?_) (fun h0 => absurd (rfl) h0)
    refine s_goto (tgt := 3095) w dL_law_3092 (by decide) ?_
    exact kk _ _ _ _ _ _ (by omega) (LI.st sc hT hk (fun _ _ _ _ => rfl) (MOk.th (hM.cx hk.2.1) 2) hok)

end GKV

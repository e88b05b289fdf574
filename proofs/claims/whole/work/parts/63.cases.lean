/-! THE LAW, 2: a round of the loop, case by case -/
section GKV
variable {c : ByteArray} {P : gk_C} {cs : Nat → Option gk_M0} {rt : Option FieldType} {uf : Nat} {sc : Option Nat} {K : gk_K} {V : gk_V}
variable {L : List (Option Value)} {r : List Value} {n : Nat} {fl : gk_F} {x : gk_X} {y : gk_Y} {u pc pc2 : Nat}
variable {Ls : Nat} {sv : Nat → Int32} {i : Int32} {q6 q7 q8 : Option Value}
theorem r_X11_setSound (w : gk_W c P cs (fun _ _ => none) rt uf sc K V) {idx : Nat} {v : Int32} (hd : decode c pc = .ok (.invokevirtual idx, 3)) (hp : pc + 3 = pc2) (hc : cs idx = some (1, 10, 2, 0, S_X11_setSound)) (h8 : Nat.ble (r.map Value.category).sum 8 = true) (kk0 : (100 ≤ v ∧ v ≤ 1000) → V pc2 L ((.int (x 190 0)) :: r) 202 gk_fT (gk_up (gk_up x 189 4 0) 190 0 v) y u) (kk1 : ¬ (100 ≤ v ∧ v ≤ 1000) → V pc2 L ((.int 0) :: r) 202 gk_fT (gk_up (gk_up x 189 4 0) 189 4 1) y u) : V pc L (.int v :: .ref 189 :: r) 202 gk_fT x y u :=
  g_callv w hd hp hc (as := [.ref 189, .int v]) rfl h8 rfl rfl rfl (Or.inr (Or.inl ⟨Or.inl rfl, _, _, rfl, (gk_kd_j rfl rfl), rfl⟩)) (Or.inl rfl) ⟨v, rfl, ⟨rfl, rfl⟩, kk0, kk1⟩
theorem r_X11_setGround (w : gk_W c P cs (fun _ _ => none) rt uf sc K V) {idx : Nat} {v : Int32} (hd : decode c pc = .ok (.invokevirtual idx, 3)) (hp : pc + 3 = pc2) (hc : cs idx = some (1, 10, 2, 0, S_X11_setGround)) (h8 : Nat.ble (r.map Value.category).sum 8 = true) (kk0 : (-90 ≤ v ∧ v ≤ 90) → V pc2 L ((.int (x 190 1)) :: r) 202 gk_fT (gk_up (gk_up x 189 4 0) 190 1 v) y u) (kk1 : ¬ (-90 ≤ v ∧ v ≤ 90) → V pc2 L ((.int 0) :: r) 202 gk_fT (gk_up (gk_up x 189 4 0) 189 4 1) y u) : V pc L (.int v :: .ref 189 :: r) 202 gk_fT x y u :=
  g_callv w hd hp hc (as := [.ref 189, .int v]) rfl h8 rfl rfl rfl (Or.inr (Or.inl ⟨Or.inl rfl, _, _, rfl, (gk_kd_j rfl rfl), rfl⟩)) (Or.inl rfl) ⟨v, rfl, ⟨rfl, rfl⟩, kk0, kk1⟩
theorem rM_setSound (w : gk_W c P cs (fun _ _ => none) rt uf sc K V) {idx : Nat} {v : Int32} {g : Nat → Int32} (hd : decode c pc = .ok (.invokevirtual idx, 3)) (hp : pc + 3 = pc2) (hc : cs idx = some (1, 10, 2, 0, S_X11_setSound)) (h8 : Nat.ble (r.map Value.category).sum 8 = true) (hM : MG g x) (kk0 : (100 ≤ v ∧ v ≤ 1000) → ∀ (x2 : gk_X) (y2 : gk_Y), MOk (gU g 0 v) 0 x x2 y y2 → V pc2 L (.int (g 0) :: r) 202 gk_fT x2 y2 u) (kk1 : ¬ (100 ≤ v ∧ v ≤ 1000) → ∀ (x2 : gk_X) (y2 : gk_Y), MOk g 1 x x2 y y2 → V pc2 L (.int 0 :: r) 202 gk_fT x2 y2 u) : V pc L (.int v :: .ref 189 :: r) 202 gk_fT x y u :=
  r_X11_setSound w hd hp hc h8 (fun h => by rw [hM 0 (by decide)]; exact kk0 h _ _ ((MOk.ini hM).st 0 v)) (fun h => kk1 h _ _ ((MOk.ini hM).fail 1))
theorem rM_setGround (w : gk_W c P cs (fun _ _ => none) rt uf sc K V) {idx : Nat} {v : Int32} {g : Nat → Int32} (hd : decode c pc = .ok (.invokevirtual idx, 3)) (hp : pc + 3 = pc2) (hc : cs idx = some (1, 10, 2, 0, S_X11_setGround)) (h8 : Nat.ble (r.map Value.category).sum 8 = true) (hM : MG g x) (kk0 : (-90 ≤ v ∧ v ≤ 90) → ∀ (x2 : gk_X) (y2 : gk_Y), MOk (gU g 1 v) 0 x x2 y y2 → V pc2 L (.int (g 1) :: r) 202 gk_fT x2 y2 u) (kk1 : ¬ (-90 ≤ v ∧ v ≤ 90) → ∀ (x2 : gk_X) (y2 : gk_Y), MOk g 1 x x2 y y2 → V pc2 L (.int 0 :: r) 202 gk_fT x2 y2 u) : V pc L (.int v :: .ref 189 :: r) 202 gk_fT x y u :=
  r_X11_setGround w hd hp hc h8 (fun h => by rw [hM 1 (by decide)]; exact kk0 h _ _ ((MOk.ini hM).st 1 v)) (fun h => kk1 h _ _ ((MOk.ini hM).fail 1))
theorem lc_0 (w : gk_W cL_law pL cs (fun _ _ => none) rt uf (some Ls) K V) (hc1 : cs 146 = some (0, 0, 3, 1, S_L_setSound)) (hc2 : cs 151 = some (1, 10, 2, 0, S_X11_setSound)) (hc3 : cs 152 = some (1, 10, 1, 0, S_X11_thrown)) {a1 : Int32} (h1 : vp_in (i + 1) Ls) (e1 : sv (i + 1).toNatClampNeg = a1) (hu : u + 6 ≤ uf) (hI : LI sv x y) (kk : ∀ (x2 : gk_X) (y2 : gk_Y) (q6 q7 q8 : Option Value) (u2 : Nat), u2 ≤ u + 6 → LI sv x2 y2 → V 3095 [some (.ref 5000), some (.ref 0), some (.ref 189), some (.ref 200), some (.ref 201), some (.int i), q6, q7, q8] [] 202 gk_fT x2 y2 u2) : V 236 [some (.ref 5000), some (.ref 0), some (.ref 189), some (.ref 200), some (.ref 201), some (.int i), q6, q7, q8] [] 202 gk_fT x y u := by
  obtain ⟨sc, hT, g, hM, hR, hok⟩ := hI
  refine s_aload_n (pc2 := 237) w dL_law_236 rfl rfl ?_
  refine s_aload_n (pc2 := 238) w dL_law_237 rfl rfl ?_
  refine s_iload (pc2 := 240) w dL_law_238 rfl rfl ?_
  refine s_iconst (pc2 := 241) (v := 1) w dL_law_240 rfl rfl ?_
  refine s_iadd (pc2 := 242) w dL_law_241 rfl ?_
  refine g_ialoadS (pc2 := 243) w dL_law_242 rfl rfl h1 ?_
  rw [sc _, e1]
  refine s_aload_n (pc2 := 244) w dL_law_243 rfl rfl ?_
  refine r_L_setSound (pc2 := 247) w dL_law_244 rfl hc1 rfl (by omega) hR hok ?_ ?_
  · intro b0 x2 y2 b1
    have sc2 := sc.cx b1.2.1
    refine s_istore (pc2 := 249) w dL_law_247 rfl rfl ?_
    dsimp only [gk_s1, gk_s2, gk_cl]
    refine s_aload_n (pc2 := 250) w dL_law_249 rfl rfl ?_
    refine s_aload_n (pc2 := 251) w dL_law_250 rfl rfl ?_
    refine s_iload (pc2 := 253) w dL_law_251 rfl rfl ?_
    refine s_iconst (pc2 := 254) (v := 1) w dL_law_253 rfl rfl ?_
    refine s_iadd (pc2 := 255) w dL_law_254 rfl ?_
    refine g_ialoadS (pc2 := 256) w dL_law_255 rfl rfl h1 ?_
    rw [sc2 _, e1]
    refine rM_setSound (pc2 := 259) w dL_law_256 rfl hc2 rfl (hM.cx b1.2.1) ?_ ?_
    · intro d0 x3 y3 d1
      refine s_istore (pc2 := 261) w dL_law_259 rfl rfl ?_
      dsimp only [gk_s1, gk_s2, gk_cl]
      refine s_aload_n (pc2 := 262) w dL_law_261 rfl rfl ?_
      refine r_X11_thrown (pc2 := 265) w dL_law_262 rfl hc3 rfl ?_
      rw [d1.2.1]
      refine s_iload (pc2 := 267) w dL_law_265 rfl rfl ?_
      refine s_ic_eq (pc2 := 270) (tgt := 272) w dL_law_267 rfl (by decide) (fun _ => ?_) (fun h0 => absurd (rfl) h0)
      refine s_iload (pc2 := 274) w dL_law_272 rfl rfl ?_
      refine s_if_ne (pc2 := 277) (tgt := 289) w dL_law_274 rfl (by decide) (fun h0 => absurd (rfl) h0) (fun _ => ?_)
      refine s_aload_n (pc2 := 278) w dL_law_277 rfl rfl ?_
      refine s_iconst (pc2 := 279) (v := 0) w dL_law_278 rfl rfl ?_
      refine m_laloadN (pc2 := 280) (t := 0) (N := 1) w dL_law_279 rfl rfl rfl rfl (by decide) rfl ?_
      rw [(d1.2.2.2 200 0 (by decide)).trans (gk_uy_in _ _ _ _)]
      refine s_iload (pc2 := 282) w dL_law_280 rfl rfl ?_
      refine s_i2l (pc2 := 283) w dL_law_282 rfl ?_
      refine s_lcmp (pc2 := 284) w dL_law_283 rfl ?_
      refine s_if_eq (pc2 := 287) (tgt := 289) w dL_law_284 rfl (by decide) (fun _ => ?_) (fun h0 => absurd (lcm_self _) h0)
      refine s_goto (tgt := 3095) w dL_law_289 (by decide) ?_
      exact kk _ _ _ _ _ _ (by omega) (LI.st sc hT b1 (uy_out (Or.inl rfl)) d1 (gOK_0 hok b0))
    · intro d0 x3 y3 d1
      exact absurd b0 d0
  · intro b0 x2 y2 b1
    have sc2 := sc.cx b1.2.1
    refine s_istore (pc2 := 249) w dL_law_247 rfl rfl ?_
    dsimp only [gk_s1, gk_s2, gk_cl]
    refine s_aload_n (pc2 := 250) w dL_law_249 rfl rfl ?_
    refine s_aload_n (pc2 := 251) w dL_law_250 rfl rfl ?_
    refine s_iload (pc2 := 253) w dL_law_251 rfl rfl ?_
    refine s_iconst (pc2 := 254) (v := 1) w dL_law_253 rfl rfl ?_
    refine s_iadd (pc2 := 255) w dL_law_254 rfl ?_
    refine g_ialoadS (pc2 := 256) w dL_law_255 rfl rfl h1 ?_
    rw [sc2 _, e1]
    refine rM_setSound (pc2 := 259) w dL_law_256 rfl hc2 rfl (hM.cx b1.2.1) ?_ ?_
    · intro d0 x3 y3 d1
      exact absurd d0 b0
    · intro d0 x3 y3 d1
      refine s_istore (pc2 := 261) w dL_law_259 rfl rfl ?_
      dsimp only [gk_s1, gk_s2, gk_cl]
      refine s_aload_n (pc2 := 262) w dL_law_261 rfl rfl ?_
      refine r_X11_thrown (pc2 := 265) w dL_law_262 rfl hc3 rfl ?_
      rw [d1.2.1]
      refine s_iload (pc2 := 267) w dL_law_265 rfl rfl ?_
      refine s_ic_eq (pc2 := 270) (tgt := 272) w dL_law_267 rfl (by decide) (fun _ => ?_) (fun h0 => absurd (rfl) h0)
      refine s_iload (pc2 := 274) w dL_law_272 rfl rfl ?_
      refine s_if_ne (pc2 := 277) (tgt := 289) w dL_law_274 rfl (by decide) (fun _ => ?_) (fun h0 => absurd h0 (by decide))
      refine s_goto (tgt := 3095) w dL_law_289 (by decide) ?_
      exact kk _ _ _ _ _ _ (by omega) (LI.st sc hT b1 (fun _ _ _ _ => rfl) d1 hok)

theorem lc_11 (w : gk_W cL_law pL cs (fun _ _ => none) rt uf (some Ls) K V) (hc1 : cs 193 = some (0, 0, 6, 3, S_L_distance)) (hc2 : cs 196 = some (1, 10, 5, 0, S_X11_distance)) (hc3 : cs 152 = some (1, 10, 1, 0, S_X11_thrown)) {a1 a2 a3 a4 : Int32} (h1 : vp_in (i + 1) Ls) (e1 : sv (i + 1).toNatClampNeg = a1) (h2 : vp_in (i + 2) Ls) (e2 : sv (i + 2).toNatClampNeg = a2) (h3 : vp_in (i + 3) Ls) (e3 : sv (i + 3).toNatClampNeg = a3) (h4 : vp_in (i + 4) Ls) (e4 : sv (i + 4).toNatClampNeg = a4) (hu : u + 6 ≤ uf) (hI : LI sv x y) (kk : ∀ (x2 : gk_X) (y2 : gk_Y) (q6 q7 q8 : Option Value) (u2 : Nat), u2 ≤ u + 6 → LI sv x2 y2 → V 3095 [some (.ref 5000), some (.ref 0), some (.ref 189), some (.ref 200), some (.ref 201), some (.int i), q6, q7, q8] [] 202 gk_fT x2 y2 u2) : V 973 [some (.ref 5000), some (.ref 0), some (.ref 189), some (.ref 200), some (.ref 201), some (.int i), q6, q7, q8] [] 202 gk_fT x y u := by
  obtain ⟨sc, hT, g, hM, hR, hok⟩ := hI
  refine s_aload_n (pc2 := 974) w dL_law_973 rfl rfl ?_
  refine s_aload_n (pc2 := 975) w dL_law_974 rfl rfl ?_
  refine s_iload (pc2 := 977) w dL_law_975 rfl rfl ?_
  refine s_iconst (pc2 := 978) (v := 1) w dL_law_977 rfl rfl ?_
  refine s_iadd (pc2 := 979) w dL_law_978 rfl ?_
  refine g_ialoadS (pc2 := 980) w dL_law_979 rfl rfl h1 ?_
  rw [sc _, e1]
  refine s_aload_n (pc2 := 981) w dL_law_980 rfl rfl ?_
  refine s_iload (pc2 := 983) w dL_law_981 rfl rfl ?_
  refine s_iconst (pc2 := 984) (v := 2) w dL_law_983 rfl rfl ?_
  refine s_iadd (pc2 := 985) w dL_law_984 rfl ?_
  refine g_ialoadS (pc2 := 986) w dL_law_985 rfl rfl h2 ?_
  rw [sc _, e2]
  refine s_aload_n (pc2 := 987) w dL_law_986 rfl rfl ?_
  refine s_iload (pc2 := 989) w dL_law_987 rfl rfl ?_
  refine s_iconst (pc2 := 990) (v := 3) w dL_law_989 rfl rfl ?_
  refine s_iadd (pc2 := 991) w dL_law_990 rfl ?_
  refine g_ialoadS (pc2 := 992) w dL_law_991 rfl rfl h3 ?_
  rw [sc _, e3]
  refine s_aload_n (pc2 := 993) w dL_law_992 rfl rfl ?_
  refine s_iload (pc2 := 995) w dL_law_993 rfl rfl ?_
  refine s_iconst (pc2 := 996) (v := 4) w dL_law_995 rfl rfl ?_
  refine s_iadd (pc2 := 997) w dL_law_996 rfl ?_
  refine g_ialoadS (pc2 := 998) w dL_law_997 rfl rfl h4 ?_
  rw [sc _, e4]
  refine s_if_eq (pc2 := 1001) (tgt := 1005) w dL_law_998 rfl (by decide) (fun c998 => ?_) (fun c998 => ?_)
  · refine s_iconst (pc2 := 1006) (v := 0) w dL_law_1005 rfl rfl ?_
    refine s_aload_n (pc2 := 1007) w dL_law_1006 rfl rfl ?_
    refine r_L_distance (pc2 := 1010) (rf := false) w dL_law_1007 rfl hc1 rfl (by omega) hR hok rfl ?_ ?_ ?_
    · intro b0 b1 x2 y2 b2
      have sc2 := sc.cx b2.2.1
      refine s_istore (pc2 := 1012) w dL_law_1010 rfl rfl ?_
      dsimp only [gk_s1, gk_s2, gk_cl]
      refine s_aload_n (pc2 := 1013) w dL_law_1012 rfl rfl ?_
      refine s_aload_n (pc2 := 1014) w dL_law_1013 rfl rfl ?_
      refine s_iload (pc2 := 1016) w dL_law_1014 rfl rfl ?_
      refine s_iconst (pc2 := 1017) (v := 1) w dL_law_1016 rfl rfl ?_
      refine s_iadd (pc2 := 1018) w dL_law_1017 rfl ?_
      refine g_ialoadS (pc2 := 1019) w dL_law_1018 rfl rfl h1 ?_
      rw [sc2 _, e1]
      refine s_aload_n (pc2 := 1020) w dL_law_1019 rfl rfl ?_
      refine s_iload (pc2 := 1022) w dL_law_1020 rfl rfl ?_
      refine s_iconst (pc2 := 1023) (v := 2) w dL_law_1022 rfl rfl ?_
      refine s_iadd (pc2 := 1024) w dL_law_1023 rfl ?_
      refine g_ialoadS (pc2 := 1025) w dL_law_1024 rfl rfl h2 ?_
      rw [sc2 _, e2]
      refine s_aload_n (pc2 := 1026) w dL_law_1025 rfl rfl ?_
      refine s_iload (pc2 := 1028) w dL_law_1026 rfl rfl ?_
      refine s_iconst (pc2 := 1029) (v := 3) w dL_law_1028 rfl rfl ?_
      refine s_iadd (pc2 := 1030) w dL_law_1029 rfl ?_
      refine g_ialoadS (pc2 := 1031) w dL_law_1030 rfl rfl h3 ?_
      rw [sc2 _, e3]
      refine s_aload_n (pc2 := 1032) w dL_law_1031 rfl rfl ?_
      refine s_iload (pc2 := 1034) w dL_law_1032 rfl rfl ?_
      refine s_iconst (pc2 := 1035) (v := 4) w dL_law_1034 rfl rfl ?_
      refine s_iadd (pc2 := 1036) w dL_law_1035 rfl ?_
      refine g_ialoadS (pc2 := 1037) w dL_law_1036 rfl rfl h4 ?_
      rw [sc2 _, e4]
      refine s_if_eq (pc2 := 1040) (tgt := 1044) w dL_law_1037 rfl (by decide) (fun _ => ?_) (fun h0 => absurd (c998) h0)
      refine s_iconst (pc2 := 1045) (v := 0) w dL_law_1044 rfl rfl ?_
      refine r_X11_distance (pc2 := 1048) (rf := false) w dL_law_1045 rfl hc2 rfl (hM.cx b2.2.1) hok rfl ?_ ?_ ?_
      · intro d0 d1 x3 y3 d2
        refine s_istore (pc2 := 1050) w dL_law_1048 rfl rfl ?_
        dsimp only [gk_s1, gk_s2, gk_cl]
        refine s_aload_n (pc2 := 1051) w dL_law_1050 rfl rfl ?_
        refine r_X11_thrown (pc2 := 1054) w dL_law_1051 rfl hc3 rfl ?_
        rw [d2.2.1]
        refine s_iload (pc2 := 1056) w dL_law_1054 rfl rfl ?_
        refine s_ic_eq (pc2 := 1059) (tgt := 1061) w dL_law_1056 rfl (by decide) (fun _ => ?_) (fun h0 => absurd (rfl) h0)
        refine s_iload (pc2 := 1063) w dL_law_1061 rfl rfl ?_
        refine s_if_ne (pc2 := 1066) (tgt := 1078) w dL_law_1063 rfl (by decide) (fun h0 => absurd (rfl) h0) (fun _ => ?_)
        refine s_aload_n (pc2 := 1067) w dL_law_1066 rfl rfl ?_
        refine s_iconst (pc2 := 1068) (v := 0) w dL_law_1067 rfl rfl ?_
        refine m_laloadN (pc2 := 1069) (t := 0) (N := 1) w dL_law_1068 rfl rfl rfl rfl (by decide) rfl ?_
        rw [(d2.2.2.2 200 0 (by decide)).trans (gk_uy_in _ _ _ _)]
        refine s_iload (pc2 := 1071) w dL_law_1069 rfl rfl ?_
        refine s_i2l (pc2 := 1072) w dL_law_1071 rfl ?_
        refine s_lcmp (pc2 := 1073) w dL_law_1072 rfl ?_
        refine s_if_eq (pc2 := 1076) (tgt := 1078) w dL_law_1073 rfl (by decide) (fun _ => ?_) (fun h0 => absurd (lcm_self _) h0)
        refine s_goto (tgt := 3095) w dL_law_1078 (by decide) ?_
        exact kk _ _ _ _ _ _ (by omega) (LI.st sc hT b2 (uy_out (Or.inl rfl)) d2 hok)
      · intro d0 x3 y3 d1
        exact absurd b0 d0
      · intro d0 d1 x3 y3 d2
        exact absurd b1 d1
    · intro b0 x2 y2 b1
      have sc2 := sc.cx b1.2.1
      refine s_istore (pc2 := 1012) w dL_law_1010 rfl rfl ?_
      dsimp only [gk_s1, gk_s2, gk_cl]
      refine s_aload_n (pc2 := 1013) w dL_law_1012 rfl rfl ?_
      refine s_aload_n (pc2 := 1014) w dL_law_1013 rfl rfl ?_
      refine s_iload (pc2 := 1016) w dL_law_1014 rfl rfl ?_
      refine s_iconst (pc2 := 1017) (v := 1) w dL_law_1016 rfl rfl ?_
      refine s_iadd (pc2 := 1018) w dL_law_1017 rfl ?_
      refine g_ialoadS (pc2 := 1019) w dL_law_1018 rfl rfl h1 ?_
      rw [sc2 _, e1]
      refine s_aload_n (pc2 := 1020) w dL_law_1019 rfl rfl ?_
      refine s_iload (pc2 := 1022) w dL_law_1020 rfl rfl ?_
      refine s_iconst (pc2 := 1023) (v := 2) w dL_law_1022 rfl rfl ?_
      refine s_iadd (pc2 := 1024) w dL_law_1023 rfl ?_
      refine g_ialoadS (pc2 := 1025) w dL_law_1024 rfl rfl h2 ?_
      rw [sc2 _, e2]
      refine s_aload_n (pc2 := 1026) w dL_law_1025 rfl rfl ?_
      refine s_iload (pc2 := 1028) w dL_law_1026 rfl rfl ?_
      refine s_iconst (pc2 := 1029) (v := 3) w dL_law_1028 rfl rfl ?_
      refine s_iadd (pc2 := 1030) w dL_law_1029 rfl ?_
      refine g_ialoadS (pc2 := 1031) w dL_law_1030 rfl rfl h3 ?_
      rw [sc2 _, e3]
      refine s_aload_n (pc2 := 1032) w dL_law_1031 rfl rfl ?_
      refine s_iload (pc2 := 1034) w dL_law_1032 rfl rfl ?_
      refine s_iconst (pc2 := 1035) (v := 4) w dL_law_1034 rfl rfl ?_
      refine s_iadd (pc2 := 1036) w dL_law_1035 rfl ?_
      refine g_ialoadS (pc2 := 1037) w dL_law_1036 rfl rfl h4 ?_
      rw [sc2 _, e4]
      refine s_if_eq (pc2 := 1040) (tgt := 1044) w dL_law_1037 rfl (by decide) (fun _ => ?_) (fun h0 => absurd (c998) h0)
      refine s_iconst (pc2 := 1045) (v := 0) w dL_law_1044 rfl rfl ?_
      refine r_X11_distance (pc2 := 1048) (rf := false) w dL_law_1045 rfl hc2 rfl (hM.cx b1.2.1) hok rfl ?_ ?_ ?_
      · intro d0 d1 x3 y3 d2
        exact absurd d0 b0
      · intro d0 x3 y3 d1
        refine s_istore (pc2 := 1050) w dL_law_1048 rfl rfl ?_
        dsimp only [gk_s1, gk_s2, gk_cl]
        refine s_aload_n (pc2 := 1051) w dL_law_1050 rfl rfl ?_
        refine r_X11_thrown (pc2 := 1054) w dL_law_1051 rfl hc3 rfl ?_
        rw [d1.2.1]
        refine s_iload (pc2 := 1056) w dL_law_1054 rfl rfl ?_
        refine s_ic_eq (pc2 := 1059) (tgt := 1061) w dL_law_1056 rfl (by decide) (fun _ => ?_) (fun h0 => absurd (rfl) h0)
        refine s_iload (pc2 := 1063) w dL_law_1061 rfl rfl ?_
        refine s_if_ne (pc2 := 1066) (tgt := 1078) w dL_law_1063 rfl (by decide) (fun _ => ?_) (fun h0 => absurd h0 (by decide))
        refine s_goto (tgt := 3095) w dL_law_1078 (by decide) ?_
        exact kk _ _ _ _ _ _ (by omega) (LI.st sc hT b1 (fun _ _ _ _ => rfl) d1 hok)
      · intro d0 d1 x3 y3 d2
        exact absurd d0 b0
    · intro b0 b1 x2 y2 b2
      have sc2 := sc.cx b2.2.1
      refine s_istore (pc2 := 1012) w dL_law_1010 rfl rfl ?_
      dsimp only [gk_s1, gk_s2, gk_cl]
      refine s_aload_n (pc2 := 1013) w dL_law_1012 rfl rfl ?_
      refine s_aload_n (pc2 := 1014) w dL_law_1013 rfl rfl ?_
      refine s_iload (pc2 := 1016) w dL_law_1014 rfl rfl ?_
      refine s_iconst (pc2 := 1017) (v := 1) w dL_law_1016 rfl rfl ?_
      refine s_iadd (pc2 := 1018) w dL_law_1017 rfl ?_
      refine g_ialoadS (pc2 := 1019) w dL_law_1018 rfl rfl h1 ?_
      rw [sc2 _, e1]
      refine s_aload_n (pc2 := 1020) w dL_law_1019 rfl rfl ?_
      refine s_iload (pc2 := 1022) w dL_law_1020 rfl rfl ?_
      refine s_iconst (pc2 := 1023) (v := 2) w dL_law_1022 rfl rfl ?_
      refine s_iadd (pc2 := 1024) w dL_law_1023 rfl ?_
      refine g_ialoadS (pc2 := 1025) w dL_law_1024 rfl rfl h2 ?_
      rw [sc2 _, e2]
      refine s_aload_n (pc2 := 1026) w dL_law_1025 rfl rfl ?_
      refine s_iload (pc2 := 1028) w dL_law_1026 rfl rfl ?_
      refine s_iconst (pc2 := 1029) (v := 3) w dL_law_1028 rfl rfl ?_
      refine s_iadd (pc2 := 1030) w dL_law_1029 rfl ?_
      refine g_ialoadS (pc2 := 1031) w dL_law_1030 rfl rfl h3 ?_
      rw [sc2 _, e3]
      refine s_aload_n (pc2 := 1032) w dL_law_1031 rfl rfl ?_
      refine s_iload (pc2 := 1034) w dL_law_1032 rfl rfl ?_
      refine s_iconst (pc2 := 1035) (v := 4) w dL_law_1034 rfl rfl ?_
      refine s_iadd (pc2 := 1036) w dL_law_1035 rfl ?_
      refine g_ialoadS (pc2 := 1037) w dL_law_1036 rfl rfl h4 ?_
      rw [sc2 _, e4]
      refine s_if_eq (pc2 := 1040) (tgt := 1044) w dL_law_1037 rfl (by decide) (fun _ => ?_) (fun h0 => absurd (c998) h0)
      refine s_iconst (pc2 := 1045) (v := 0) w dL_law_1044 rfl rfl ?_
      refine r_X11_distance (pc2 := 1048) (rf := false) w dL_law_1045 rfl hc2 rfl (hM.cx b2.2.1) hok rfl ?_ ?_ ?_
      · intro d0 d1 x3 y3 d2
        exact absurd d1 b1
      · intro d0 x3 y3 d1
        exact absurd b0 d0
      · intro d0 d1 x3 y3 d2
        refine s_istore (pc2 := 1050) w dL_law_1048 rfl rfl ?_
        dsimp only [gk_s1, gk_s2, gk_cl]
        refine s_aload_n (pc2 := 1051) w dL_law_1050 rfl rfl ?_
        refine r_X11_thrown (pc2 := 1054) w dL_law_1051 rfl hc3 rfl ?_
        rw [d2.2.1]
        refine s_iload (pc2 := 1056) w dL_law_1054 rfl rfl ?_
        refine s_ic_eq (pc2 := 1059) (tgt := 1061) w dL_law_1056 rfl (by decide) (fun _ => ?_) (fun h0 => absurd (rfl) h0)
        refine s_iload (pc2 := 1063) w dL_law_1061 rfl rfl ?_
        refine s_if_ne (pc2 := 1066) (tgt := 1078) w dL_law_1063 rfl (by decide) (fun _ => ?_) (fun h0 => absurd h0 (by decide))
        refine s_goto (tgt := 3095) w dL_law_1078 (by decide) ?_
        exact kk _ _ _ _ _ _ (by omega) (LI.st sc hT b2 (fun _ _ _ _ => rfl) d2 hok)
  · refine s_iconst (pc2 := 1002) (v := 1) w dL_law_1001 rfl rfl ?_
    refine s_goto (tgt := 1006) w dL_law_1002 (by decide) ?_
    refine s_aload_n (pc2 := 1007) w dL_law_1006 rfl rfl ?_
    refine r_L_distance (pc2 := 1010) (rf := true) w dL_law_1007 rfl hc1 rfl (by omega) hR hok rfl ?_ ?_ ?_
    · intro b0 b1 x2 y2 b2
      have sc2 := sc.cx b2.2.1
      refine s_istore (pc2 := 1012) w dL_law_1010 rfl rfl ?_
      dsimp only [gk_s1, gk_s2, gk_cl]
      refine s_aload_n (pc2 := 1013) w dL_law_1012 rfl rfl ?_
      refine s_aload_n (pc2 := 1014) w dL_law_1013 rfl rfl ?_
      refine s_iload (pc2 := 1016) w dL_law_1014 rfl rfl ?_
      refine s_iconst (pc2 := 1017) (v := 1) w dL_law_1016 rfl rfl ?_
      refine s_iadd (pc2 := 1018) w dL_law_1017 rfl ?_
      refine g_ialoadS (pc2 := 1019) w dL_law_1018 rfl rfl h1 ?_
      rw [sc2 _, e1]
      refine s_aload_n (pc2 := 1020) w dL_law_1019 rfl rfl ?_
      refine s_iload (pc2 := 1022) w dL_law_1020 rfl rfl ?_
      refine s_iconst (pc2 := 1023) (v := 2) w dL_law_1022 rfl rfl ?_
      refine s_iadd (pc2 := 1024) w dL_law_1023 rfl ?_
      refine g_ialoadS (pc2 := 1025) w dL_law_1024 rfl rfl h2 ?_
      rw [sc2 _, e2]
      refine s_aload_n (pc2 := 1026) w dL_law_1025 rfl rfl ?_
      refine s_iload (pc2 := 1028) w dL_law_1026 rfl rfl ?_
      refine s_iconst (pc2 := 1029) (v := 3) w dL_law_1028 rfl rfl ?_
      refine s_iadd (pc2 := 1030) w dL_law_1029 rfl ?_
      refine g_ialoadS (pc2 := 1031) w dL_law_1030 rfl rfl h3 ?_
      rw [sc2 _, e3]
      refine s_aload_n (pc2 := 1032) w dL_law_1031 rfl rfl ?_
      refine s_iload (pc2 := 1034) w dL_law_1032 rfl rfl ?_
      refine s_iconst (pc2 := 1035) (v := 4) w dL_law_1034 rfl rfl ?_
      refine s_iadd (pc2 := 1036) w dL_law_1035 rfl ?_
      refine g_ialoadS (pc2 := 1037) w dL_law_1036 rfl rfl h4 ?_
      rw [sc2 _, e4]
      refine s_if_eq (pc2 := 1040) (tgt := 1044) w dL_law_1037 rfl (by decide) (fun h0 => absurd h0 (c998)) (fun _ => ?_)
      refine s_iconst (pc2 := 1041) (v := 1) w dL_law_1040 rfl rfl ?_
      refine s_goto (tgt := 1045) w dL_law_1041 (by decide) ?_
      refine r_X11_distance (pc2 := 1048) (rf := true) w dL_law_1045 rfl hc2 rfl (hM.cx b2.2.1) hok rfl ?_ ?_ ?_
      · intro d0 d1 x3 y3 d2
        refine s_istore (pc2 := 1050) w dL_law_1048 rfl rfl ?_
        dsimp only [gk_s1, gk_s2, gk_cl]
        refine s_aload_n (pc2 := 1051) w dL_law_1050 rfl rfl ?_
        refine r_X11_thrown (pc2 := 1054) w dL_law_1051 rfl hc3 rfl ?_
        rw [d2.2.1]
        refine s_iload (pc2 := 1056) w dL_law_1054 rfl rfl ?_
        refine s_ic_eq (pc2 := 1059) (tgt := 1061) w dL_law_1056 rfl (by decide) (fun _ => ?_) (fun h0 => absurd (rfl) h0)
        refine s_iload (pc2 := 1063) w dL_law_1061 rfl rfl ?_
        refine s_if_ne (pc2 := 1066) (tgt := 1078) w dL_law_1063 rfl (by decide) (fun h0 => absurd (rfl) h0) (fun _ => ?_)
        refine s_aload_n (pc2 := 1067) w dL_law_1066 rfl rfl ?_
        refine s_iconst (pc2 := 1068) (v := 0) w dL_law_1067 rfl rfl ?_
        refine m_laloadN (pc2 := 1069) (t := 0) (N := 1) w dL_law_1068 rfl rfl rfl rfl (by decide) rfl ?_
        rw [(d2.2.2.2 200 0 (by decide)).trans (gk_uy_in _ _ _ _)]
        refine s_iload (pc2 := 1071) w dL_law_1069 rfl rfl ?_
        refine s_i2l (pc2 := 1072) w dL_law_1071 rfl ?_
        refine s_lcmp (pc2 := 1073) w dL_law_1072 rfl ?_
        refine s_if_eq (pc2 := 1076) (tgt := 1078) w dL_law_1073 rfl (by decide) (fun _ => ?_) (fun h0 => absurd (lcm_self _) h0)
        refine s_goto (tgt := 3095) w dL_law_1078 (by decide) ?_
        exact kk _ _ _ _ _ _ (by omega) (LI.st sc hT b2 (uy_out (Or.inl rfl)) d2 hok)
      · intro d0 x3 y3 d1
        exact absurd b0 d0
      · intro d0 d1 x3 y3 d2
        exact absurd b1 d1
    · intro b0 x2 y2 b1
      have sc2 := sc.cx b1.2.1
      refine s_istore (pc2 := 1012) w dL_law_1010 rfl rfl ?_
      dsimp only [gk_s1, gk_s2, gk_cl]
      refine s_aload_n (pc2 := 1013) w dL_law_1012 rfl rfl ?_
      refine s_aload_n (pc2 := 1014) w dL_law_1013 rfl rfl ?_
      refine s_iload (pc2 := 1016) w dL_law_1014 rfl rfl ?_
      refine s_iconst (pc2 := 1017) (v := 1) w dL_law_1016 rfl rfl ?_
      refine s_iadd (pc2 := 1018) w dL_law_1017 rfl ?_
      refine g_ialoadS (pc2 := 1019) w dL_law_1018 rfl rfl h1 ?_
      rw [sc2 _, e1]
      refine s_aload_n (pc2 := 1020) w dL_law_1019 rfl rfl ?_
      refine s_iload (pc2 := 1022) w dL_law_1020 rfl rfl ?_
      refine s_iconst (pc2 := 1023) (v := 2) w dL_law_1022 rfl rfl ?_
      refine s_iadd (pc2 := 1024) w dL_law_1023 rfl ?_
      refine g_ialoadS (pc2 := 1025) w dL_law_1024 rfl rfl h2 ?_
      rw [sc2 _, e2]
      refine s_aload_n (pc2 := 1026) w dL_law_1025 rfl rfl ?_
      refine s_iload (pc2 := 1028) w dL_law_1026 rfl rfl ?_
      refine s_iconst (pc2 := 1029) (v := 3) w dL_law_1028 rfl rfl ?_
      refine s_iadd (pc2 := 1030) w dL_law_1029 rfl ?_
      refine g_ialoadS (pc2 := 1031) w dL_law_1030 rfl rfl h3 ?_
      rw [sc2 _, e3]
      refine s_aload_n (pc2 := 1032) w dL_law_1031 rfl rfl ?_
      refine s_iload (pc2 := 1034) w dL_law_1032 rfl rfl ?_
      refine s_iconst (pc2 := 1035) (v := 4) w dL_law_1034 rfl rfl ?_
      refine s_iadd (pc2 := 1036) w dL_law_1035 rfl ?_
      refine g_ialoadS (pc2 := 1037) w dL_law_1036 rfl rfl h4 ?_
      rw [sc2 _, e4]
      refine s_if_eq (pc2 := 1040) (tgt := 1044) w dL_law_1037 rfl (by decide) (fun h0 => absurd h0 (c998)) (fun _ => ?_)
      refine s_iconst (pc2 := 1041) (v := 1) w dL_law_1040 rfl rfl ?_
      refine s_goto (tgt := 1045) w dL_law_1041 (by decide) ?_
      refine r_X11_distance (pc2 := 1048) (rf := true) w dL_law_1045 rfl hc2 rfl (hM.cx b1.2.1) hok rfl ?_ ?_ ?_
      · intro d0 d1 x3 y3 d2
        exact absurd d0 b0
      · intro d0 x3 y3 d1
        refine s_istore (pc2 := 1050) w dL_law_1048 rfl rfl ?_
        dsimp only [gk_s1, gk_s2, gk_cl]
        refine s_aload_n (pc2 := 1051) w dL_law_1050 rfl rfl ?_
        refine r_X11_thrown (pc2 := 1054) w dL_law_1051 rfl hc3 rfl ?_
        rw [d1.2.1]
        refine s_iload (pc2 := 1056) w dL_law_1054 rfl rfl ?_
        refine s_ic_eq (pc2 := 1059) (tgt := 1061) w dL_law_1056 rfl (by decide) (fun _ => ?_) (fun h0 => absurd (rfl) h0)
        refine s_iload (pc2 := 1063) w dL_law_1061 rfl rfl ?_
        refine s_if_ne (pc2 := 1066) (tgt := 1078) w dL_law_1063 rfl (by decide) (fun _ => ?_) (fun h0 => absurd h0 (by decide))
        refine s_goto (tgt := 3095) w dL_law_1078 (by decide) ?_
        exact kk _ _ _ _ _ _ (by omega) (LI.st sc hT b1 (fun _ _ _ _ => rfl) d1 hok)
      · intro d0 d1 x3 y3 d2
        exact absurd d0 b0
    · intro b0 b1 x2 y2 b2
      have sc2 := sc.cx b2.2.1
      refine s_istore (pc2 := 1012) w dL_law_1010 rfl rfl ?_
      dsimp only [gk_s1, gk_s2, gk_cl]
      refine s_aload_n (pc2 := 1013) w dL_law_1012 rfl rfl ?_
      refine s_aload_n (pc2 := 1014) w dL_law_1013 rfl rfl ?_
      refine s_iload (pc2 := 1016) w dL_law_1014 rfl rfl ?_
      refine s_iconst (pc2 := 1017) (v := 1) w dL_law_1016 rfl rfl ?_
      refine s_iadd (pc2 := 1018) w dL_law_1017 rfl ?_
      refine g_ialoadS (pc2 := 1019) w dL_law_1018 rfl rfl h1 ?_
      rw [sc2 _, e1]
      refine s_aload_n (pc2 := 1020) w dL_law_1019 rfl rfl ?_
      refine s_iload (pc2 := 1022) w dL_law_1020 rfl rfl ?_
      refine s_iconst (pc2 := 1023) (v := 2) w dL_law_1022 rfl rfl ?_
      refine s_iadd (pc2 := 1024) w dL_law_1023 rfl ?_
      refine g_ialoadS (pc2 := 1025) w dL_law_1024 rfl rfl h2 ?_
      rw [sc2 _, e2]
      refine s_aload_n (pc2 := 1026) w dL_law_1025 rfl rfl ?_
      refine s_iload (pc2 := 1028) w dL_law_1026 rfl rfl ?_
      refine s_iconst (pc2 := 1029) (v := 3) w dL_law_1028 rfl rfl ?_
      refine s_iadd (pc2 := 1030) w dL_law_1029 rfl ?_
      refine g_ialoadS (pc2 := 1031) w dL_law_1030 rfl rfl h3 ?_
      rw [sc2 _, e3]
      refine s_aload_n (pc2 := 1032) w dL_law_1031 rfl rfl ?_
      refine s_iload (pc2 := 1034) w dL_law_1032 rfl rfl ?_
      refine s_iconst (pc2 := 1035) (v := 4) w dL_law_1034 rfl rfl ?_
      refine s_iadd (pc2 := 1036) w dL_law_1035 rfl ?_
      refine g_ialoadS (pc2 := 1037) w dL_law_1036 rfl rfl h4 ?_
      rw [sc2 _, e4]
      refine s_if_eq (pc2 := 1040) (tgt := 1044) w dL_law_1037 rfl (by decide) (fun h0 => absurd h0 (c998)) (fun _ => ?_)
      refine s_iconst (pc2 := 1041) (v := 1) w dL_law_1040 rfl rfl ?_
      refine s_goto (tgt := 1045) w dL_law_1041 (by decide) ?_
      refine r_X11_distance (pc2 := 1048) (rf := true) w dL_law_1045 rfl hc2 rfl (hM.cx b2.2.1) hok rfl ?_ ?_ ?_
      · intro d0 d1 x3 y3 d2
        exact absurd d1 b1
      · intro d0 x3 y3 d1
        exact absurd b0 d0
      · intro d0 d1 x3 y3 d2
        refine s_istore (pc2 := 1050) w dL_law_1048 rfl rfl ?_
        dsimp only [gk_s1, gk_s2, gk_cl]
        refine s_aload_n (pc2 := 1051) w dL_law_1050 rfl rfl ?_
        refine r_X11_thrown (pc2 := 1054) w dL_law_1051 rfl hc3 rfl ?_
        rw [d2.2.1]
        refine s_iload (pc2 := 1056) w dL_law_1054 rfl rfl ?_
        refine s_ic_eq (pc2 := 1059) (tgt := 1061) w dL_law_1056 rfl (by decide) (fun _ => ?_) (fun h0 => absurd (rfl) h0)
        refine s_iload (pc2 := 1063) w dL_law_1061 rfl rfl ?_
        refine s_if_ne (pc2 := 1066) (tgt := 1078) w dL_law_1063 rfl (by decide) (fun _ => ?_) (fun h0 => absurd h0 (by decide))
        refine s_goto (tgt := 3095) w dL_law_1078 (by decide) ?_
        exact kk _ _ _ _ _ _ (by omega) (LI.st sc hT b2 (fun _ _ _ _ => rfl) d2 hok)

end GKV

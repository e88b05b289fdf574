/-! THE LAW, 8: ahead of its loop -/
section GKV
variable {c : ByteArray} {P : gk_C} {cs : Nat → Option gk_M0} {rt : Option FieldType} {uf : Nat} {sc : Option Nat} {K : gk_K} {V : gk_V}
variable {L : List (Option Value)} {r : List Value} {n : Nat} {fl : gk_F} {x : gk_X} {y : gk_Y} {u pc pc2 : Nat}
set_option maxRecDepth 100000 in
theorem law_begin {Ls : Nat} (w : gk_W cL_law pL cs (fun _ _ => none) rt uf (some Ls) K V) (hc1 : cs 142 = some (2, 9, 1, 11896, S_X10_init)) (hc2 : cs 145 = some (2, 10, 1, 10536, S_X11_init)) (hu : 40000 ≤ uf) (hfe : ∀ (pc : Nat) (L : List (Option Value)) (st : List Value) (n : Nat) (fl fl2 : gk_F) (x : gk_X) (y : gk_Y) (u : Nat), gk_fe fl fl2 n → V pc L st n fl2 x y u → V pc L st n fl x y u) (kk : ∀ u2, u2 ≤ 32000 → V 28 [some (.ref 5000), some (.ref 0), some (.ref 189), some (.ref 200), some (.ref 201), some (.int 0), none, none, none] [] 202 gk_fT (sX x) (sY y) u2) : V 0 [some (.ref 5000), none, none, none, none, none, none, none, none] [] 0 fl x y 0 := by
  have n9 : gk_nf 9 = 8 := rfl
  have n10 : gk_nf 10 = 20 := rfl
  have l0 : gk_ln 200 = 1 := rfl
  have l1 : gk_ln 201 = 1 := rfl
  refine g_new (pc2 := 3) (ci := 9) w dL_law_0 rfl rfl rfl rfl (by decide) rfl (by omega) ?_
  rw [zr_1, zy_1]
  try simp only [Nat.reduceAdd]
  refine s_dup (pc2 := 4) w dL_law_3 rfl rfl ?_
  refine r_X10_init (pc2 := 7) w dL_law_4 rfl hc1 rfl (by omega) (by decide) rfl ?_
  refine s_astore_n (pc2 := 8) (k2 := 1) w dL_law_7 rfl rfl rfl ?_
  dsimp only [gk_s1, gk_s2, gk_cl]
  refine g_new (pc2 := 11) (ci := 10) w dL_law_8 rfl rfl rfl rfl (by decide) rfl (by omega) ?_
  rw [zr_1, zy_1]
  try simp only [Nat.reduceAdd]
  refine s_dup (pc2 := 12) w dL_law_11 rfl rfl ?_
  refine r_X11_init (pc2 := 15) w dL_law_12 rfl hc2 rfl (by omega) (by decide) rfl ?_
  rw [zr_s (by decide) (by decide), zy_s (by decide) (by decide)]
  refine s_astore_n (pc2 := 16) (k2 := 2) w dL_law_15 rfl rfl rfl ?_
  dsimp only [gk_s1, gk_s2, gk_cl]
  refine s_iconst (pc2 := 17) (v := 1) w dL_law_16 rfl rfl ?_
  refine g_newarray (pc2 := 19) w dL_law_17 rfl (by decide) rfl (by decide) (by decide) rfl (by omega) ?_
  rw [zr_1, zy_1, zy_s (by decide) (by decide)]
  try simp only [Nat.reduceAdd]
  refine s_astore_n (pc2 := 20) (k2 := 3) w dL_law_19 rfl rfl rfl ?_
  dsimp only [gk_s1, gk_s2, gk_cl]
  refine s_iconst (pc2 := 21) (v := 1) w dL_law_20 rfl rfl ?_
  refine g_newarray (pc2 := 23) w dL_law_21 rfl (by decide) rfl (by decide) (by decide) rfl (by omega) ?_
  rw [zr_1, zy_1, zr_s (by decide) (by decide), zy_s (by decide) (by decide)]
  try simp only [Nat.reduceAdd]
  refine s_astore (pc2 := 25) w dL_law_23 rfl rfl ?_
  dsimp only [gk_s1, gk_s2, gk_cl]
  refine s_iconst (pc2 := 26) (v := 0) w dL_law_25 rfl rfl ?_
  refine s_istore (pc2 := 28) w dL_law_26 rfl rfl ?_
  dsimp only [gk_s1, gk_s2, gk_cl]
  exact hfe _ _ _ _ _ _ _ _ _ (sF_fe fl) (kk _ (by omega))
end GKV

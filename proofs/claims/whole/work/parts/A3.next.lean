/-! THE TEXT, 15: the reference, its next token -/
section GKV
variable {c : ByteArray} {P : gk_C} {cs : Nat → Option gk_M0} {rt : Option FieldType} {uf : Nat} {sc : Option Nat} {K : gk_K} {V : gk_V}
variable {L : List (Option Value)} {r : List Value} {n : Nat} {fl : gk_F} {x : gk_X} {y : gk_Y} {u pc pc2 : Nat}
/-- the reference's token fields -/
def nT (x : gk_X) (a b d e f : Int32) : gk_X := fun i k => if i = 189 then (if k = 12 then a else if k = 13 then b else if k = 14 then d else if k = 15 then e else if k = 16 then f else x i k) else x i k
theorem nT_ne {x : gk_X} {a b d e f : Int32} {i k : Nat} (h : ¬ (i = 189 ∧ 12 ≤ k ∧ k ≤ 16)) : nT x a b d e f i k = x i k := by
  unfold nT
  split
  · rw [if_neg (by omega), if_neg (by omega), if_neg (by omega), if_neg (by omega), if_neg (by omega)]
  · rfl
theorem nT_sf (x : gk_X) : nT x (x 189 12) (x 189 13) (x 189 14) (x 189 15) (x 189 16) = x := by
  funext i k
  unfold nT
  split
  · next h =>
    subst h
    repeat' split
    all_goals (first | rfl | (next h => rw [h]))
  · rfl
theorem nT_12 {x : gk_X} {a b d e f v : Int32} : gk_up (nT x a b d e f) 189 12 v = nT x v b d e f := by
  funext i k
  unfold gk_up nT
  by_cases h : i = 189
  · by_cases h2 : k = 12
    · rw [if_pos ⟨h, h2⟩, if_pos h, if_pos h2]
    · rw [if_neg (fun q => h2 q.2), if_pos h, if_pos h, if_neg h2, if_neg h2]
  · rw [if_neg (fun q => h q.1), if_neg h, if_neg h]
theorem nT_13 {x : gk_X} {a b d e f v : Int32} : gk_up (nT x a b d e f) 189 13 v = nT x a v d e f := by
  funext i k
  unfold gk_up nT
  by_cases h : i = 189
  · by_cases h2 : k = 13
    · rw [if_pos ⟨h, h2⟩, if_pos h, if_neg (by omega), if_pos h2]
    · rw [if_neg (fun q => h2 q.2), if_pos h, if_pos h, if_neg h2, if_neg h2]
  · rw [if_neg (fun q => h q.1), if_neg h, if_neg h]
theorem nT_14 {x : gk_X} {a b d e f v : Int32} : gk_up (nT x a b d e f) 189 14 v = nT x a b v e f := by
  funext i k
  unfold gk_up nT
  by_cases h : i = 189
  · by_cases h2 : k = 14
    · rw [if_pos ⟨h, h2⟩, if_pos h, if_neg (by omega), if_neg (by omega), if_pos h2]
    · rw [if_neg (fun q => h2 q.2), if_pos h, if_pos h, if_neg h2, if_neg h2]
  · rw [if_neg (fun q => h q.1), if_neg h, if_neg h]
theorem nT_15 {x : gk_X} {a b d e f v : Int32} : gk_up (nT x a b d e f) 189 15 v = nT x a b d v f := by
  funext i k
  unfold gk_up nT
  by_cases h : i = 189
  · by_cases h2 : k = 15
    · rw [if_pos ⟨h, h2⟩, if_pos h, if_neg (by omega), if_neg (by omega), if_neg (by omega), if_pos h2]
    · rw [if_neg (fun q => h2 q.2), if_pos h, if_pos h, if_neg h2, if_neg h2]
  · rw [if_neg (fun q => h q.1), if_neg h, if_neg h]
theorem nT_16 {x : gk_X} {a b d e f v : Int32} : gk_up (nT x a b d e f) 189 16 v = nT x a b d e v := by
  funext i k
  unfold gk_up nT
  by_cases h : i = 189
  · by_cases h2 : k = 16
    · rw [if_pos ⟨h, h2⟩, if_pos h, if_neg (by omega), if_neg (by omega), if_neg (by omega), if_neg (by omega), if_pos h2]
    · rw [if_neg (fun q => h2 q.2), if_pos h, if_pos h, if_neg h2, if_neg h2]
  · rw [if_neg (fun q => h q.1), if_neg h, if_neg h]
theorem uy2 {y : gk_Y} {i k : Nat} {a b : Int64} : gk_uy (gk_uy y i k a) i k b = gk_uy y i k b := by
  funext i2 k2
  unfold gk_uy
  by_cases h : i2 = i ∧ k2 = k
  · rw [if_pos h, if_pos h]
  · rw [if_neg h, if_neg h, if_neg h]
/-- the token at a place, as the reference has it -/
def RTa (c : Nat → Int32) (t a : Nat) (x : gk_X) (y : gk_Y) : Prop := x 189 12 = nI (te c t a) ∧ x 189 13 = nI a ∧ x 189 14 = nI (kR c t a) ∧ x 189 16 = nI (vR c t a) ∧ (kR c t a = 2 → x 189 15 = nI (te c t a - a) ∧ y 189 19 = gL (pkw c a (min (te c t a - a) 10)))
theorem kR_E {c : Nat → Int32} {t a : Nat} (h1 : t ≤ a) : kR c t a = 0 := by
  unfold kR
  rw [if_pos h1]
theorem kR_L {c : Nat → Int32} {t a : Nat} (h1 : a < t) (h2 : tL (c a) = true) : kR c t a = 2 := by
  unfold kR
  rw [if_neg (by omega), if_pos h2]
theorem kR_D {c : Nat → Int32} {t a : Nat} (h1 : a < t) (h2 : tD (c a) = true) : kR c t a = 3 := by
  unfold kR
  rw [if_neg (by omega), if_neg (tD_L h2), if_pos h2]
theorem kR_S {c : Nat → Int32} {t a : Nat} (h1 : a < t) (h2 : ¬ tL (c a) = true) (h3 : ¬ tD (c a) = true) : kR c t a = if c a = 59 then 4 else if c a = 45 then 5 else 1 := by
  unfold kR
  rw [if_neg (by omega), if_neg h2, if_neg h3]
theorem vR_n {c : Nat → Int32} {t a : Nat} (h : ¬ (a < t ∧ ¬ tL (c a) = true ∧ tD (c a) = true)) : vR c t a = 0 := by
  unfold vR
  split
  · rfl
  · next h1 =>
    split
    · rfl
    · next h2 =>
      split
      · next h3 => exact absurd ⟨by omega, h2, h3⟩ h
      · rfl
theorem vR_D {c : Nat → Int32} {t a : Nat} (h1 : a < t) (h2 : tD (c a) = true) : vR c t a = fR c (te c t a - a) a 0 := by
  unfold vR
  rw [if_neg (by omega), if_neg (tD_L h2), if_pos h2]
theorem fR_st {c : Nat → Int32} {e a v : Nat} (h : a < e) : fR c (e - a) a v = fR c (e - (a + 1)) (a + 1) (if 20000 < v then v else 10 * v + dg (c a)) := by
  obtain ⟨k, h2⟩ : ∃ k, e - a = k + 1 := ⟨e - a - 1, by omega⟩
  rw [h2, show e - (a + 1) = k from by omega]
  rfl
theorem pkw_st {c : Nat → Int32} {a j : Nat} : (27 : Int64) * gL (pkw c a j) + (c (a + j)).toInt64 - 96 = gL (pkw c a (j + 1)) := by
  rw [gI64, show (27 : Int64) = gL 27 from rfl, gL_mul, gL_add]
  exact gL_sub _ 96
theorem vr_st {v d : Nat} {z : Int32} (hz : z = gI (48 + d)) : (10 : Int32) * nI v + z - 48 = nI (10 * v + d) := by
  rw [hz, show (10 : Int32) * nI v = gI (10 * v) from gI_mul 10 v, gI_add, show (48 : Int32) = gI 48 from rfl, gI_sub, gI_nI]
  congr 1
  omega
theorem le20 {v : Nat} (h : v ≤ 200009) : nI v ≤ (20000 : Int32) ↔ ¬ 20000 < v := by
  rw [gI_nI, show (20000 : Int32) = gI 20000 from rfl, gI_le ⟨by omega, by omega⟩ ⟨by omega, by omega⟩]
  omega
theorem nT_r12 {x : gk_X} {a b d e f : Int32} : nT x a b d e f 189 12 = a := rfl
theorem nT_r15 {x : gk_X} {a b d e f : Int32} : nT x a b d e f 189 15 = e := rfl
theorem nT_r16 {x : gk_X} {a b d e f : Int32} : nT x a b d e f 189 16 = f := rfl
def S_X11_nextToken : gk_S := fun as n fl x y K => ∃ (B : Nat → Int32) (t : Nat) (a : Nat), as = [.ref 189] ∧ (n = 202 ∧ fl = gk_fT) ∧ (x 189 11 = nI t) ∧ (t ≤ 500) ∧ (tbA (x 199) t = B) ∧ (x 189 12 = nI a) ∧ (a ≤ t) ∧ (∀ k, k < t → ¬ B k = -1) ∧ (∀ (x2 : gk_X) (y2 : gk_Y), RTa B t (tz B t a) x2 y2 → (∀ i k, ¬ (i = 189 ∧ 12 ≤ k ∧ k ≤ 16) → x2 i k = x i k) → (∀ i k, ¬ (i = 189 ∧ k = 19) → y2 i k = y i k) → K (.inl none) n fl x2 y2)
theorem r_X11_nextToken (w : gk_W c P cs (fun _ _ => none) rt uf sc K V) {idx : Nat} {B : Nat → Int32} {t : Nat} {a : Nat} (hd : decode c pc = .ok (.invokevirtual idx, 3)) (hp : pc + 3 = pc2) (hc : cs idx = some (1, 10, 1, 0, S_X11_nextToken)) (h8 : Nat.ble (r.map Value.category).sum 8 = true) (hp0 : x 189 11 = nI t) (hp1 : t ≤ 500) (hp2 : tbA (x 199) t = B) (hp3 : x 189 12 = nI a) (hp4 : a ≤ t) (hp5 : ∀ k, k < t → ¬ B k = -1) (kk0 : ∀ (x2 : gk_X) (y2 : gk_Y), RTa B t (tz B t a) x2 y2 → (∀ i k, ¬ (i = 189 ∧ 12 ≤ k ∧ k ≤ 16) → x2 i k = x i k) → (∀ i k, ¬ (i = 189 ∧ k = 19) → y2 i k = y i k) → V pc2 L r 202 gk_fT x2 y2 u) : V pc L (.ref 189 :: r) 202 gk_fT x y u :=
  g_callv w hd hp hc (as := [.ref 189]) rfl h8 rfl rfl rfl (Or.inr (Or.inl ⟨Or.inl rfl, _, _, rfl, (gk_kd_j rfl rfl), rfl⟩)) (Or.inl rfl) ⟨B, t, a, rfl, ⟨rfl, rfl⟩, hp0, hp1, hp2, hp3, hp4, hp5, kk0⟩
def L_X11_nextToken : List (Nat × gk_M0) := [(278, (1, 10, 2, 0, S_X11_byteAt)), (297, (0, 10, 1, 0, S_X11_isLetter)), (304, (0, 10, 1, 0, S_X11_isDigit))]
def cs_X11_nextToken : Nat → Option gk_M0 := gk_lk L_X11_nextToken
theorem m_X11_nextToken : ∀ (as : List Value) (n : Nat) (fl : gk_F) (x : gk_X) (y : gk_Y) (K : gk_K), S_X11_nextToken as n fl x y K → (gk_L0 as).length ≤ 2 ∧ ∀ V : gk_V, gk_W cX11_nextToken pX11 cs_X11_nextToken (fun _ _ => none) none 0 none K V → V 0 (gk_en as 2) [] n fl x y 0 := by
  intro as n fl x y K hS
  obtain ⟨B, t, a, rfl, ⟨rfl, rfl⟩, hp0, hp1, hp2, hp3, hp4, hp5, q0⟩ := hS
  refine ⟨Nat.le_of_ble_eq_true rfl, fun V w => ?_⟩
  show V 0 [some (.ref 189), none] [] 202 gk_fT x y 0
  have hBt : B t = -1 := by rw [← hp2]; exact if_neg (Nat.lt_irrefl t)
  have hz := tz_b (c := B) hp4
  have hte := te_b (c := B) (tz_b (c := B) hp4).2
  have hnx : nT x (nI a) (x 189 13) (x 189 14) (x 189 15) (x 189 16) = x := by rw [← hp3]; exact nT_sf x
  have st2 : ∀ p, p ≤ t → ¬ tW (B p) = true → p = tz B t a → V 39 [some (.ref 189), none] [] 202 gk_fT (nT x (nI p) (x 189 13) (x 189 14) (x 189 15) (x 189 16)) y 0 := by
    intro p hpt hW he
    rw [← he] at hte q0
    have hb : ∀ k, tbA (x 199) t k = B k := fun k => by rw [hp2]
    refine s_aload_n (pc2 := 40) w dX11_nextToken_39 rfl rfl ?_
    refine s_aload_n (pc2 := 41) w dX11_nextToken_40 rfl rfl ?_
    refine m_getI (pc2 := 44) (ci := 10) (k := 12) w dX11_nextToken_41 rfl rfl rfl rfl rfl ?_
    rw [nT_r12]
    refine m_putI (pc2 := 47) (ci := 10) (k := 13) w dX11_nextToken_44 rfl rfl rfl rfl rfl (by intro h; cases h) ?_
    rw [nT_13]
    refine s_aload_n (pc2 := 48) w dX11_nextToken_47 rfl rfl ?_
    refine s_iconst (pc2 := 49) (v := 0) w dX11_nextToken_48 rfl rfl ?_
    refine m_putI (pc2 := 52) (ci := 10) (k := 15) w dX11_nextToken_49 rfl rfl rfl rfl rfl (by intro h; cases h) ?_
    rw [nT_15]
    refine s_aload_n (pc2 := 53) w dX11_nextToken_52 rfl rfl ?_
    refine s_lconst (pc2 := 54) (v := 0) w dX11_nextToken_53 rfl rfl ?_
    refine m_putL (pc2 := 57) (ci := 10) (k := 19) w dX11_nextToken_54 rfl rfl rfl rfl rfl ?_
    refine s_aload_n (pc2 := 58) w dX11_nextToken_57 rfl rfl ?_
    refine s_iconst (pc2 := 59) (v := 0) w dX11_nextToken_58 rfl rfl ?_
    refine m_putI (pc2 := 62) (ci := 10) (k := 16) w dX11_nextToken_59 rfl rfl rfl rfl rfl (by intro h; cases h) ?_
    rw [nT_16]
    refine s_aload_n (pc2 := 63) w dX11_nextToken_62 rfl rfl ?_
    refine s_aload_n (pc2 := 64) w dX11_nextToken_63 rfl rfl ?_
    refine m_getI (pc2 := 67) (ci := 10) (k := 12) w dX11_nextToken_64 rfl rfl rfl rfl rfl ?_
    rw [nT_r12]
    refine r_X11_byteAt (pc2 := 70) w dX11_nextToken_67 rfl rfl rfl rfl ((nT_ne (by omega)).trans hp0) hp1 (by omega) ?_
    refine s_istore_n (pc2 := 71) (k2 := 1) w dX11_nextToken_70 rfl rfl rfl ?_
    dsimp only [gk_s1, gk_s2, gk_cl]
    rw [show tbA (nT x (nI p) (nI p) (x 189 14) 0 0 199) t p = B p from hb p]
    refine s_iload_n (pc2 := 72) w dX11_nextToken_71 rfl rfl ?_
    refine s_iconst (pc2 := 73) (v := (-1)) w dX11_nextToken_72 rfl rfl ?_
    refine s_ic_ne (pc2 := 76) (tgt := 84) w dX11_nextToken_73 rfl (by decide) (fun c73 => ?_) (fun c73 => ?_)
    · have plt : p < t := by
        rcases Nat.eq_or_lt_of_le hpt with h | h
        · rw [h] at c73; exact absurd hBt c73
        · exact h
      refine s_iload_n (pc2 := 85) w dX11_nextToken_84 rfl rfl ?_
      refine r_X11_isLetter (pc2 := 88) w dX11_nextToken_85 rfl rfl rfl ?_
      refine s_if_eq (pc2 := 91) (tgt := 175) w dX11_nextToken_88 rfl (by decide) (fun c88 => ?_) (fun c88 => ?_)
      · have cL := (tL_0 _).mp c88
        refine s_iload_n (pc2 := 176) w dX11_nextToken_175 rfl rfl ?_
        refine r_X11_isDigit (pc2 := 179) w dX11_nextToken_176 rfl rfl rfl ?_
        refine s_if_eq (pc2 := 182) (tgt := 254) w dX11_nextToken_179 rfl (by decide) (fun c179 => ?_) (fun c179 => ?_)
        · have cD := (tD_0 _).mp c179
          refine s_aload_n (pc2 := 255) w dX11_nextToken_254 rfl rfl ?_
          refine s_iload_n (pc2 := 256) w dX11_nextToken_255 rfl rfl ?_
          refine s_bipush (pc2 := 258) (v := 59) w dX11_nextToken_256 rfl rfl ?_
          refine s_ic_ne (pc2 := 261) (tgt := 265) w dX11_nextToken_258 rfl (by decide) (fun c258 => ?_) (fun c258 => ?_)
          · refine s_iload_n (pc2 := 266) w dX11_nextToken_265 rfl rfl ?_
            refine s_bipush (pc2 := 268) (v := 45) w dX11_nextToken_266 rfl rfl ?_
            refine s_ic_ne (pc2 := 271) (tgt := 275) w dX11_nextToken_268 rfl (by decide) (fun c268 => ?_) (fun c268 => ?_)
            · refine s_iconst (pc2 := 276) (v := 1) w dX11_nextToken_275 rfl rfl ?_
              refine m_putI (pc2 := 279) (ci := 10) (k := 14) w dX11_nextToken_276 rfl rfl rfl rfl rfl (by intro h; cases h) ?_
              rw [nT_14]
              refine s_aload_n (pc2 := 280) w dX11_nextToken_279 rfl rfl ?_
              refine s_dup (pc2 := 281) w dX11_nextToken_280 rfl rfl ?_
              refine m_getI (pc2 := 284) (ci := 10) (k := 12) w dX11_nextToken_281 rfl rfl rfl rfl rfl ?_
              rw [nT_r12]
              refine s_iconst (pc2 := 285) (v := 1) w dX11_nextToken_284 rfl rfl ?_
              refine s_iadd (pc2 := 286) w dX11_nextToken_285 rfl ?_
              rw [show nI p + 1 = nI (p + 1) from nI_ad p 1]
              refine m_putI (pc2 := 289) (ci := 10) (k := 12) w dX11_nextToken_286 rfl rfl rfl rfl rfl (by intro h; cases h) ?_
              refine s_return w dX11_nextToken_289 rfl ?_
              rw [nT_12]
              have ek : kR B t p = 1 := by rw [kR_S plt cL cD, if_neg c258, if_neg c268]
              exact q0 _ _ ⟨by rw [te_S (by omega) cL cD]; rfl, rfl, by rw [ek]; rfl, by rw [vR_n (fun h => cD h.2.2)]; rfl, fun h => absurd h (by rw [ek]; decide)⟩ (fun i k h => nT_ne h) (fun i k h => if_neg h)
            · refine s_iconst (pc2 := 272) (v := 5) w dX11_nextToken_271 rfl rfl ?_
              refine s_goto (tgt := 276) w dX11_nextToken_272 (by decide) ?_
              refine m_putI (pc2 := 279) (ci := 10) (k := 14) w dX11_nextToken_276 rfl rfl rfl rfl rfl (by intro h; cases h) ?_
              rw [nT_14]
              refine s_aload_n (pc2 := 280) w dX11_nextToken_279 rfl rfl ?_
              refine s_dup (pc2 := 281) w dX11_nextToken_280 rfl rfl ?_
              refine m_getI (pc2 := 284) (ci := 10) (k := 12) w dX11_nextToken_281 rfl rfl rfl rfl rfl ?_
              rw [nT_r12]
              refine s_iconst (pc2 := 285) (v := 1) w dX11_nextToken_284 rfl rfl ?_
              refine s_iadd (pc2 := 286) w dX11_nextToken_285 rfl ?_
              rw [show nI p + 1 = nI (p + 1) from nI_ad p 1]
              refine m_putI (pc2 := 289) (ci := 10) (k := 12) w dX11_nextToken_286 rfl rfl rfl rfl rfl (by intro h; cases h) ?_
              refine s_return w dX11_nextToken_289 rfl ?_
              rw [nT_12]
              have ek : kR B t p = 5 := by rw [kR_S plt cL cD, if_neg c258, if_pos c268]
              exact q0 _ _ ⟨by rw [te_S (by omega) cL cD]; rfl, rfl, by rw [ek]; rfl, by rw [vR_n (fun h => cD h.2.2)]; rfl, fun h => absurd h (by rw [ek]; decide)⟩ (fun i k h => nT_ne h) (fun i k h => if_neg h)
          · refine s_iconst (pc2 := 262) (v := 4) w dX11_nextToken_261 rfl rfl ?_
            refine s_goto (tgt := 276) w dX11_nextToken_262 (by decide) ?_
            refine m_putI (pc2 := 279) (ci := 10) (k := 14) w dX11_nextToken_276 rfl rfl rfl rfl rfl (by intro h; cases h) ?_
            rw [nT_14]
            refine s_aload_n (pc2 := 280) w dX11_nextToken_279 rfl rfl ?_
            refine s_dup (pc2 := 281) w dX11_nextToken_280 rfl rfl ?_
            refine m_getI (pc2 := 284) (ci := 10) (k := 12) w dX11_nextToken_281 rfl rfl rfl rfl rfl ?_
            rw [nT_r12]
            refine s_iconst (pc2 := 285) (v := 1) w dX11_nextToken_284 rfl rfl ?_
            refine s_iadd (pc2 := 286) w dX11_nextToken_285 rfl ?_
            rw [show nI p + 1 = nI (p + 1) from nI_ad p 1]
            refine m_putI (pc2 := 289) (ci := 10) (k := 12) w dX11_nextToken_286 rfl rfl rfl rfl rfl (by intro h; cases h) ?_
            refine s_return w dX11_nextToken_289 rfl ?_
            rw [nT_12]
            have ek : kR B t p = 4 := by rw [kR_S plt cL cD, if_pos c258]
            exact q0 _ _ ⟨by rw [te_S (by omega) cL cD]; rfl, rfl, by rw [ek]; rfl, by rw [vR_n (fun h => cD h.2.2)]; rfl, fun h => absurd h (by rw [ek]; decide)⟩ (fun i k h => nT_ne h) (fun i k h => if_neg h)
        · have cD : tD (B p) = true := Decidable.byContradiction (fun h => c179 ((tD_0 _).mpr h))
          refine s_aload_n (pc2 := 183) w dX11_nextToken_182 rfl rfl ?_
          refine s_iconst (pc2 := 184) (v := 3) w dX11_nextToken_183 rfl rfl ?_
          refine m_putI (pc2 := 187) (ci := 10) (k := 14) w dX11_nextToken_184 rfl rfl rfl rfl rfl (by intro h; cases h) ?_
          have key : ∀ (k n v : Nat), t < n + k → p ≤ n → n ≤ t → v ≤ 200009 → rn tD B (t - n) n = te B t p → fR B (te B t p - n) n v = vR B t p → V 187 [some (.ref 189), some (.int (B p))] [] 202 gk_fT (nT x (nI n) (nI p) (3) (0) (nI v)) (gk_uy y 189 19 0) 0 := by
            intro k
            induction k with
            | zero =>
              intro n v h1 h2 h3 h4 h5 h6
              omega
            | succ k ih =>
              intro n v h1 h2 h3 h4 h5 h6
              refine s_aload_n (pc2 := 188) w dX11_nextToken_187 rfl rfl ?_
              refine s_aload_n (pc2 := 189) w dX11_nextToken_188 rfl rfl ?_
              refine m_getI (pc2 := 192) (ci := 10) (k := 12) w dX11_nextToken_189 rfl rfl rfl rfl rfl ?_
              rw [nT_r12]
              refine r_X11_byteAt (pc2 := 195) w dX11_nextToken_192 rfl rfl rfl rfl ((nT_ne (by omega)).trans hp0) hp1 (by omega) ?_
              rw [show tbA ((nT x (nI n) (nI p) (3) (0) (nI v)) 199) t n = B n from hb _]
              refine r_X11_isDigit (pc2 := 198) w dX11_nextToken_195 rfl rfl rfl ?_
              refine s_if_eq (pc2 := 201) (tgt := 289) w dX11_nextToken_198 rfl (by decide) (fun c198 => ?_) (fun c198 => ?_)
              · refine s_return w dX11_nextToken_289 rfl ?_
                rw [rn_no ((tD_0 _).mp c198)] at h5
                rw [← h5, Nat.sub_self] at h6
                have h6 : v = vR B t p := h6
                exact q0 _ _ ⟨by rw [← h5]; rfl, rfl, by rw [kR_D plt cD]; rfl, by rw [← h6]; rfl, fun h => absurd h (by rw [kR_D plt cD]; decide)⟩ (fun i k h => nT_ne h) (fun i k h => if_neg h)
              · have cj : tD (B n) = true := Decidable.byContradiction (fun h => c198 ((tD_0 _).mpr h))
                have hj : n < t := by
                  rcases Nat.eq_or_lt_of_le h3 with h | h
                  · rw [h, hBt] at cj; exact absurd cj (by decide)
                  · exact h
                have hd := tD_dg cj
                have h9 := rn_ge (p := tD) (c := B) (t - (n + 1)) (n + 1)
                rw [rn_st cj hj] at h5
                rw [fR_st (by omega)] at h6
                refine s_aload_n (pc2 := 202) w dX11_nextToken_201 rfl rfl ?_
                refine s_aload_n (pc2 := 203) w dX11_nextToken_202 rfl rfl ?_
                refine m_getI (pc2 := 206) (ci := 10) (k := 16) w dX11_nextToken_203 rfl rfl rfl rfl rfl ?_
                rw [nT_r16]
                refine s_sipush (pc2 := 209) (v := 20000) w dX11_nextToken_206 rfl rfl ?_
                refine s_ic_le (pc2 := 212) (tgt := 219) w dX11_nextToken_209 rfl (by decide) (fun c209 => ?_) (fun c209 => ?_)
                · have hv : ¬ 20000 < v := (le20 h4).mp c209
                  rw [if_neg hv] at h6
                  refine s_bipush (pc2 := 221) (v := 10) w dX11_nextToken_219 rfl rfl ?_
                  refine s_aload_n (pc2 := 222) w dX11_nextToken_221 rfl rfl ?_
                  refine m_getI (pc2 := 225) (ci := 10) (k := 16) w dX11_nextToken_222 rfl rfl rfl rfl rfl ?_
                  rw [nT_r16]
                  refine s_imul (pc2 := 226) w dX11_nextToken_225 rfl ?_
                  refine s_aload_n (pc2 := 227) w dX11_nextToken_226 rfl rfl ?_
                  refine s_aload_n (pc2 := 228) w dX11_nextToken_227 rfl rfl ?_
                  refine m_getI (pc2 := 231) (ci := 10) (k := 12) w dX11_nextToken_228 rfl rfl rfl rfl rfl ?_
                  rw [nT_r12]
                  refine r_X11_byteAt (pc2 := 234) w dX11_nextToken_231 rfl rfl rfl rfl ((nT_ne (by omega)).trans hp0) hp1 (by omega) ?_
                  rw [show tbA ((nT x (nI n) (nI p) (3) (0) (nI v)) 199) t n = B n from hb _]
                  refine s_iadd (pc2 := 235) w dX11_nextToken_234 rfl ?_
                  refine s_bipush (pc2 := 237) (v := 48) w dX11_nextToken_235 rfl rfl ?_
                  refine s_isub (pc2 := 238) w dX11_nextToken_237 rfl ?_
                  rw [vr_st hd.2]
                  refine m_putI (pc2 := 241) (ci := 10) (k := 16) w dX11_nextToken_238 rfl rfl rfl rfl rfl (by intro h; cases h) ?_
                  rw [nT_16]
                  refine s_aload_n (pc2 := 242) w dX11_nextToken_241 rfl rfl ?_
                  refine s_dup (pc2 := 243) w dX11_nextToken_242 rfl rfl ?_
                  refine m_getI (pc2 := 246) (ci := 10) (k := 12) w dX11_nextToken_243 rfl rfl rfl rfl rfl ?_
                  rw [nT_r12]
                  refine s_iconst (pc2 := 247) (v := 1) w dX11_nextToken_246 rfl rfl ?_
                  refine s_iadd (pc2 := 248) w dX11_nextToken_247 rfl ?_
                  rw [show nI n + 1 = nI (n + 1) from nI_ad n 1]
                  refine m_putI (pc2 := 251) (ci := 10) (k := 12) w dX11_nextToken_248 rfl rfl rfl rfl rfl (by intro h; cases h) ?_
                  refine s_goto (tgt := 187) w dX11_nextToken_251 (by decide) ?_
                  rw [nT_12]
                  exact ih (n + 1) _ (by omega) (by omega) (by omega) (by omega) h5 h6
                · have hv : 20000 < v := Decidable.byContradiction (fun h => c209 ((le20 h4).mpr h))
                  rw [if_pos hv] at h6
                  refine s_aload_n (pc2 := 213) w dX11_nextToken_212 rfl rfl ?_
                  refine m_getI (pc2 := 216) (ci := 10) (k := 16) w dX11_nextToken_213 rfl rfl rfl rfl rfl ?_
                  rw [nT_r16]
                  refine s_goto (tgt := 238) w dX11_nextToken_216 (by decide) ?_
                  refine m_putI (pc2 := 241) (ci := 10) (k := 16) w dX11_nextToken_238 rfl rfl rfl rfl rfl (by intro h; cases h) ?_
                  rw [nT_16]
                  refine s_aload_n (pc2 := 242) w dX11_nextToken_241 rfl rfl ?_
                  refine s_dup (pc2 := 243) w dX11_nextToken_242 rfl rfl ?_
                  refine m_getI (pc2 := 246) (ci := 10) (k := 12) w dX11_nextToken_243 rfl rfl rfl rfl rfl ?_
                  rw [nT_r12]
                  refine s_iconst (pc2 := 247) (v := 1) w dX11_nextToken_246 rfl rfl ?_
                  refine s_iadd (pc2 := 248) w dX11_nextToken_247 rfl ?_
                  rw [show nI n + 1 = nI (n + 1) from nI_ad n 1]
                  refine m_putI (pc2 := 251) (ci := 10) (k := 12) w dX11_nextToken_248 rfl rfl rfl rfl rfl (by intro h; cases h) ?_
                  refine s_goto (tgt := 187) w dX11_nextToken_251 (by decide) ?_
                  rw [nT_12]
                  exact ih (n + 1) _ (by omega) (by omega) (by omega) (by omega) h5 h6
          rw [nT_14]
          exact key (t + 1) p 0 (by omega) (by omega) (by omega) (by omega) (te_D (by omega) (tD_L cD) cD).symm (vR_D plt cD).symm
      · have cL : tL (B p) = true := Decidable.byContradiction (fun h => c88 ((tL_0 _).mpr h))
        refine s_aload_n (pc2 := 92) w dX11_nextToken_91 rfl rfl ?_
        refine s_iconst (pc2 := 93) (v := 2) w dX11_nextToken_92 rfl rfl ?_
        refine m_putI (pc2 := 96) (ci := 10) (k := 14) w dX11_nextToken_93 rfl rfl rfl rfl rfl (by intro h; cases h) ?_
        have key : ∀ (k j : Nat), t < p + j + k → p + j ≤ t → rn tL B (t - (p + j)) (p + j) = te B t p → V 96 [some (.ref 189), some (.int (B p))] [] 202 gk_fT (nT x (nI (p + j)) (nI p) (2) (nI j) (0)) (gk_uy y 189 19 (gL (pkw B p (min j 10)))) 0 := by
          intro k
          induction k with
          | zero =>
            intro j h1 h2 h3
            omega
          | succ k ih =>
            intro j h1 h2 h3
            refine s_aload_n (pc2 := 97) w dX11_nextToken_96 rfl rfl ?_
            refine s_aload_n (pc2 := 98) w dX11_nextToken_97 rfl rfl ?_
            refine m_getI (pc2 := 101) (ci := 10) (k := 12) w dX11_nextToken_98 rfl rfl rfl rfl rfl ?_
            rw [nT_r12]
            refine r_X11_byteAt (pc2 := 104) w dX11_nextToken_101 rfl rfl rfl rfl ((nT_ne (by omega)).trans hp0) hp1 (by omega) ?_
            rw [show tbA ((nT x (nI (p + j)) (nI p) (2) (nI j) (0)) 199) t (p + j) = B (p + j) from hb _]
            refine r_X11_isLetter (pc2 := 107) w dX11_nextToken_104 rfl rfl rfl ?_
            refine s_if_eq (pc2 := 110) (tgt := 289) w dX11_nextToken_107 rfl (by decide) (fun c107 => ?_) (fun c107 => ?_)
            · refine s_return w dX11_nextToken_289 rfl ?_
              rw [rn_no ((tL_0 _).mp c107)] at h3
              refine q0 _ _ ⟨by rw [← h3]; rfl, rfl, by rw [kR_L plt cL]; rfl, by rw [vR_n (fun h => h.2.1 cL)]; rfl, fun _ => ?_⟩ (fun i k h => nT_ne h) (fun i k h => if_neg h)
              rw [← h3, show p + j - p = j from by omega]
              exact ⟨rfl, gk_uy_in _ _ _ _⟩
            · have cj : tL (B (p + j)) = true := Decidable.byContradiction (fun h => c107 ((tL_0 _).mpr h))
              have hj : p + j < t := by
                rcases Nat.eq_or_lt_of_le h2 with h | h
                · rw [h, hBt] at cj; exact absurd cj (by decide)
                · exact h
              rw [rn_st cj hj] at h3
              refine s_aload_n (pc2 := 111) w dX11_nextToken_110 rfl rfl ?_
              refine s_aload_n (pc2 := 112) w dX11_nextToken_111 rfl rfl ?_
              refine m_getI (pc2 := 115) (ci := 10) (k := 15) w dX11_nextToken_112 rfl rfl rfl rfl rfl ?_
              rw [nT_r15]
              refine s_bipush (pc2 := 117) (v := 10) w dX11_nextToken_115 rfl rfl ?_
              refine s_ic_ge (pc2 := 120) (tgt := 145) w dX11_nextToken_117 rfl (by decide) (fun c117 => ?_) (fun c117 => ?_)
              · have m2 : min (j + 1) 10 = min j 10 := by have := (nI_ge2 (a := j) (b := 10) (by omega) (by omega)).mp c117; omega
                refine s_aload_n (pc2 := 146) w dX11_nextToken_145 rfl rfl ?_
                refine m_getL (pc2 := 149) (ci := 10) (k := 19) w dX11_nextToken_146 rfl rfl rfl rfl rfl ?_
                rw [gk_uy_in, ← m2]
                refine m_putL (pc2 := 152) (ci := 10) (k := 19) w dX11_nextToken_149 rfl rfl rfl rfl rfl ?_
                rw [uy2]
                refine s_aload_n (pc2 := 153) w dX11_nextToken_152 rfl rfl ?_
                refine s_dup (pc2 := 154) w dX11_nextToken_153 rfl rfl ?_
                refine m_getI (pc2 := 157) (ci := 10) (k := 15) w dX11_nextToken_154 rfl rfl rfl rfl rfl ?_
                rw [nT_r15]
                refine s_iconst (pc2 := 158) (v := 1) w dX11_nextToken_157 rfl rfl ?_
                refine s_iadd (pc2 := 159) w dX11_nextToken_158 rfl ?_
                rw [show nI j + 1 = nI (j + 1) from nI_ad j 1]
                refine m_putI (pc2 := 162) (ci := 10) (k := 15) w dX11_nextToken_159 rfl rfl rfl rfl rfl (by intro h; cases h) ?_
                rw [nT_15]
                refine s_aload_n (pc2 := 163) w dX11_nextToken_162 rfl rfl ?_
                refine s_dup (pc2 := 164) w dX11_nextToken_163 rfl rfl ?_
                refine m_getI (pc2 := 167) (ci := 10) (k := 12) w dX11_nextToken_164 rfl rfl rfl rfl rfl ?_
                rw [nT_r12]
                refine s_iconst (pc2 := 168) (v := 1) w dX11_nextToken_167 rfl rfl ?_
                refine s_iadd (pc2 := 169) w dX11_nextToken_168 rfl ?_
                rw [show nI (p + j) + 1 = nI (p + (j + 1)) from nI_ad (p + j) 1]
                refine m_putI (pc2 := 172) (ci := 10) (k := 12) w dX11_nextToken_169 rfl rfl rfl rfl rfl (by intro h; cases h) ?_
                refine s_goto (tgt := 96) w dX11_nextToken_172 (by decide) ?_
                rw [nT_12]
                exact ih (j + 1) (by omega) (by omega) h3
              · have jl : j < 10 := Decidable.byContradiction (fun h => c117 ((nI_ge2 (a := j) (b := 10) (by omega) (by omega)).mpr h))
                have m1 : min j 10 = j := Nat.min_eq_left (Nat.le_of_lt jl)
                have m2 : min (j + 1) 10 = min j 10 + 1 := by omega
                refine s_ldc2_w (pc2 := 123) (v := 27) w dX11_nextToken_120 rfl rfl ?_
                refine s_aload_n (pc2 := 124) w dX11_nextToken_123 rfl rfl ?_
                refine m_getL (pc2 := 127) (ci := 10) (k := 19) w dX11_nextToken_124 rfl rfl rfl rfl rfl ?_
                rw [gk_uy_in]
                refine s_lmul (pc2 := 128) w dX11_nextToken_127 rfl ?_
                refine s_aload_n (pc2 := 129) w dX11_nextToken_128 rfl rfl ?_
                refine s_aload_n (pc2 := 130) w dX11_nextToken_129 rfl rfl ?_
                refine m_getI (pc2 := 133) (ci := 10) (k := 12) w dX11_nextToken_130 rfl rfl rfl rfl rfl ?_
                rw [nT_r12]
                refine r_X11_byteAt (pc2 := 136) w dX11_nextToken_133 rfl rfl rfl rfl ((nT_ne (by omega)).trans hp0) hp1 (by omega) ?_
                rw [show tbA ((nT x (nI (p + j)) (nI p) (2) (nI j) (0)) 199) t (p + j) = B (p + j) from hb _]
                refine s_i2l (pc2 := 137) w dX11_nextToken_136 rfl ?_
                refine s_ladd (pc2 := 138) w dX11_nextToken_137 rfl ?_
                refine s_ldc2_w (pc2 := 141) (v := 96) w dX11_nextToken_138 rfl rfl ?_
                refine s_lsub (pc2 := 142) w dX11_nextToken_141 rfl ?_
                rw [show p + j = p + min j 10 from by rw [m1], pkw_st, ← m2, show p + min j 10 = p + j from by rw [m1]]
                refine s_goto (tgt := 149) w dX11_nextToken_142 (by decide) ?_
                refine m_putL (pc2 := 152) (ci := 10) (k := 19) w dX11_nextToken_149 rfl rfl rfl rfl rfl ?_
                rw [uy2]
                refine s_aload_n (pc2 := 153) w dX11_nextToken_152 rfl rfl ?_
                refine s_dup (pc2 := 154) w dX11_nextToken_153 rfl rfl ?_
                refine m_getI (pc2 := 157) (ci := 10) (k := 15) w dX11_nextToken_154 rfl rfl rfl rfl rfl ?_
                rw [nT_r15]
                refine s_iconst (pc2 := 158) (v := 1) w dX11_nextToken_157 rfl rfl ?_
                refine s_iadd (pc2 := 159) w dX11_nextToken_158 rfl ?_
                rw [show nI j + 1 = nI (j + 1) from nI_ad j 1]
                refine m_putI (pc2 := 162) (ci := 10) (k := 15) w dX11_nextToken_159 rfl rfl rfl rfl rfl (by intro h; cases h) ?_
                rw [nT_15]
                refine s_aload_n (pc2 := 163) w dX11_nextToken_162 rfl rfl ?_
                refine s_dup (pc2 := 164) w dX11_nextToken_163 rfl rfl ?_
                refine m_getI (pc2 := 167) (ci := 10) (k := 12) w dX11_nextToken_164 rfl rfl rfl rfl rfl ?_
                rw [nT_r12]
                refine s_iconst (pc2 := 168) (v := 1) w dX11_nextToken_167 rfl rfl ?_
                refine s_iadd (pc2 := 169) w dX11_nextToken_168 rfl ?_
                rw [show nI (p + j) + 1 = nI (p + (j + 1)) from nI_ad (p + j) 1]
                refine m_putI (pc2 := 172) (ci := 10) (k := 12) w dX11_nextToken_169 rfl rfl rfl rfl rfl (by intro h; cases h) ?_
                refine s_goto (tgt := 96) w dX11_nextToken_172 (by decide) ?_
                rw [nT_12]
                exact ih (j + 1) (by omega) (by omega) h3
        rw [nT_14]
        exact key (t + 1) 0 (by omega) (by omega) (te_L (by omega) cL).symm
    · refine s_aload_n (pc2 := 77) w dX11_nextToken_76 rfl rfl ?_
      refine s_iconst (pc2 := 78) (v := 0) w dX11_nextToken_77 rfl rfl ?_
      refine m_putI (pc2 := 81) (ci := 10) (k := 14) w dX11_nextToken_78 rfl rfl rfl rfl rfl (by intro h; cases h) ?_
      rw [nT_14]
      have ep : p = t := by
        rcases Nat.eq_or_lt_of_le hpt with h | h
        · exact h
        · exact absurd c73 (hp5 p h)
      refine s_goto (tgt := 289) w dX11_nextToken_81 (by decide) ?_
      refine s_return w dX11_nextToken_289 rfl ?_
      rw [te_0 (by omega)] at hte
      exact q0 _ _ ⟨by rw [te_0 (by omega)]; rfl, rfl, by rw [kR_E (by omega)]; rfl, by rw [vR_n (fun h => by omega)]; rfl, fun h => absurd h (by rw [kR_E (by omega)]; decide)⟩ (fun i k h => nT_ne h) (fun i k h => if_neg h)
  have key1 : ∀ (k p : Nat), t < p + k → p ≤ t → tz B t p = tz B t a → V 0 [some (.ref 189), none] [] 202 gk_fT (nT x (nI p) (x 189 13) (x 189 14) (x 189 15) (x 189 16)) y 0 := by
    intro k
    induction k with
    | zero =>
      intro p h1 h2 h3
      omega
    | succ k ih =>
      intro p h1 h2 h3
      have hb : ∀ k, tbA (x 199) t k = B k := fun k => by rw [hp2]
      refine s_aload_n (pc2 := 1) w dX11_nextToken_0 rfl rfl ?_
      refine s_aload_n (pc2 := 2) w dX11_nextToken_1 rfl rfl ?_
      refine m_getI (pc2 := 5) (ci := 10) (k := 12) w dX11_nextToken_2 rfl rfl rfl rfl rfl ?_
      rw [nT_r12]
      refine r_X11_byteAt (pc2 := 8) w dX11_nextToken_5 rfl rfl rfl rfl ((nT_ne (by omega)).trans hp0) hp1 (by omega) ?_
      rw [show tbA (nT x (nI p) (x 189 13) (x 189 14) (x 189 15) (x 189 16) 199) t p = B p from hb p]
      refine s_bipush (pc2 := 10) (v := 32) w dX11_nextToken_8 rfl rfl ?_
      refine s_ic_eq (pc2 := 13) (tgt := 26) w dX11_nextToken_10 rfl (by decide) (fun c10 => ?_) (fun c10 => ?_)
      · have cW : tW (B p) = true := decide_eq_true (Or.inl c10)
        have hj : p < t := by
          rcases Nat.eq_or_lt_of_le h2 with h | h
          · rw [h, hBt] at cW; exact absurd cW (by decide)
          · exact h
        rw [tz_st cW hj] at h3
        refine s_aload_n (pc2 := 27) w dX11_nextToken_26 rfl rfl ?_
        refine s_dup (pc2 := 28) w dX11_nextToken_27 rfl rfl ?_
        refine m_getI (pc2 := 31) (ci := 10) (k := 12) w dX11_nextToken_28 rfl rfl rfl rfl rfl ?_
        rw [nT_r12]
        refine s_iconst (pc2 := 32) (v := 1) w dX11_nextToken_31 rfl rfl ?_
        refine s_iadd (pc2 := 33) w dX11_nextToken_32 rfl ?_
        rw [show nI p + 1 = nI (p + 1) from nI_ad p 1]
        refine m_putI (pc2 := 36) (ci := 10) (k := 12) w dX11_nextToken_33 rfl rfl rfl rfl rfl (by intro h; cases h) ?_
        refine s_goto (tgt := 0) w dX11_nextToken_36 (by decide) ?_
        rw [nT_12]
        exact ih (p + 1) (by omega) (by omega) h3
      · refine s_aload_n (pc2 := 14) w dX11_nextToken_13 rfl rfl ?_
        refine s_aload_n (pc2 := 15) w dX11_nextToken_14 rfl rfl ?_
        refine m_getI (pc2 := 18) (ci := 10) (k := 12) w dX11_nextToken_15 rfl rfl rfl rfl rfl ?_
        rw [nT_r12]
        refine r_X11_byteAt (pc2 := 21) w dX11_nextToken_18 rfl rfl rfl rfl ((nT_ne (by omega)).trans hp0) hp1 (by omega) ?_
        rw [show tbA (nT x (nI p) (x 189 13) (x 189 14) (x 189 15) (x 189 16) 199) t p = B p from hb p]
        refine s_bipush (pc2 := 23) (v := 10) w dX11_nextToken_21 rfl rfl ?_
        refine s_ic_ne (pc2 := 26) (tgt := 39) w dX11_nextToken_23 rfl (by decide) (fun c23 => ?_) (fun c23 => ?_)
        · have nW : ¬ tW (B p) = true := fun h => by
            have h := of_decide_eq_true h
            rcases h with h | h
            · exact c10 h
            · exact c23 h
          exact st2 p h2 nW ((tz_no nW).symm.trans h3)
        · have cW : tW (B p) = true := decide_eq_true (Or.inr c23)
          have hj : p < t := by
            rcases Nat.eq_or_lt_of_le h2 with h | h
            · rw [h, hBt] at cW; exact absurd cW (by decide)
            · exact h
          rw [tz_st cW hj] at h3
          refine s_aload_n (pc2 := 27) w dX11_nextToken_26 rfl rfl ?_
          refine s_dup (pc2 := 28) w dX11_nextToken_27 rfl rfl ?_
          refine m_getI (pc2 := 31) (ci := 10) (k := 12) w dX11_nextToken_28 rfl rfl rfl rfl rfl ?_
          rw [nT_r12]
          refine s_iconst (pc2 := 32) (v := 1) w dX11_nextToken_31 rfl rfl ?_
          refine s_iadd (pc2 := 33) w dX11_nextToken_32 rfl ?_
          rw [show nI p + 1 = nI (p + 1) from nI_ad p 1]
          refine m_putI (pc2 := 36) (ci := 10) (k := 12) w dX11_nextToken_33 rfl rfl rfl rfl rfl (by intro h; cases h) ?_
          refine s_goto (tgt := 0) w dX11_nextToken_36 (by decide) ?_
          rw [nT_12]
          exact ih (p + 1) (by omega) (by omega) h3
  have h := key1 (t + 1) a (by omega) hp4 rfl
  rw [hnx] at h
  exact h
theorem lk_X11_nextToken {l : Launch} (hl : l.stackTraces = false) : ∀ q ∈ L_X11_nextToken, (q.2.1 < 5 → gk_Lk l RX11 gk_W1 2 q.1 q.2.1 q.2.2.1 q.2.2.2.1 q.2.2.2.2.1 q.2.2.2.2.2) := (List.forall_mem_cons.mpr ⟨(fun _ => ⟨yX11_byteAt, cX11_byteAt, 2, (some .int), 0, _, M_X11_byteAt hl, ⟨by decide, by decide⟩, ⟨by decide, by decide, by decide +kernel⟩, ⟨(gk_wm 1730 (by decide +kernel)), (gk_wm 99 (by decide +kernel))⟩, Or.inr (Or.inr (Or.inr (Or.inl ⟨rfl, rfl, (gk_wm 1729 (by decide +kernel)), (gk_wm 78 (by decide +kernel)), gk_wm 1727 (by decide +kernel), by decide, rfl⟩)))⟩), (List.forall_mem_cons.mpr ⟨(fun _ => ⟨yX11_isLetter, cX11_isLetter, 1, (some .boolean), 1, _, M_X11_isLetter hl, ⟨by decide, by decide⟩, ⟨by decide, by decide, by decide +kernel⟩, ⟨(gk_wm 1733 (by decide +kernel)), (gk_wm 99 (by decide +kernel))⟩, Or.inl ⟨rfl, rfl, (gk_wm 1732 (by decide +kernel)), gk_wm 1731 (by decide +kernel)⟩⟩), (List.forall_mem_cons.mpr ⟨(fun _ => ⟨yX11_isDigit, cX11_isDigit, 1, (some .boolean), 1, _, M_X11_isDigit hl, ⟨by decide, by decide⟩, ⟨by decide, by decide, by decide +kernel⟩, ⟨(gk_wm 1738 (by decide +kernel)), (gk_wm 99 (by decide +kernel))⟩, Or.inl ⟨rfl, rfl, (gk_wm 1737 (by decide +kernel)), gk_wm 1736 (by decide +kernel)⟩⟩), (fun _ h => absurd h List.not_mem_nil)⟩)⟩)⟩)
theorem sp_X11_nextToken : ∀ q ∈ L_X11_nextToken, gk_Sq RX11 gk_W1 2 q := (List.forall_mem_cons.mpr ⟨⟨fun h => absurd h (by decide), fun h => absurd h (by decide), fun h => absurd h (by decide), fun h => absurd h (by decide), fun h => absurd h (by decide), fun h => absurd h (by decide)⟩, (List.forall_mem_cons.mpr ⟨⟨fun h => absurd h (by decide), fun h => absurd h (by decide), fun h => absurd h (by decide), fun h => absurd h (by decide), fun h => absurd h (by decide), fun h => absurd h (by decide)⟩, (List.forall_mem_cons.mpr ⟨⟨fun h => absurd h (by decide), fun h => absurd h (by decide), fun h => absurd h (by decide), fun h => absurd h (by decide), fun h => absurd h (by decide), fun h => absurd h (by decide)⟩, (fun _ h => absurd h List.not_mem_nil)⟩)⟩)⟩)
theorem M_X11_nextToken {l : Launch} (hl : l.stackTraces = false) : gk_Mt l yX11_nextToken (.code yX11_nextToken cX11_nextToken 2 none :: gk_W1) 2 0 S_X11_nextToken := gk_meth hl gk_cw_ok (by decide +kernel) rfl m_X11_nextToken pX11_ok (gk_Sp_of sp_X11_nextToken) pX11_st (fun ci m S h => absurd h (by intro h; cases h)) (xf_X11 2) (fun idx kd ci mm cost S2 h h5 => lk_X11_nextToken hl _ (gk_lk_mem h) h5)

end GKV

/-! THE LAW, 12: the case of load -/
section GKV
variable {c : ByteArray} {P : gk_C} {cs : Nat → Option gk_M0} {rt : Option FieldType} {uf : Nat} {sc : Option Nat} {K : gk_K} {V : gk_V}
variable {L : List (Option Value)} {r : List Value} {n : Nat} {fl : gk_F} {x : gk_X} {y : gk_Y} {u pc pc2 : Nat}
variable {Ls : Nat} {sv : Nat → Int32} {i : Int32} {q6 q7 q8 : Option Value}
theorem tb_cg {A B : Nat → Int32} {t : Nat} (h : ∀ k, k < t → A k = B k) : tbA A t = tbA B t := by
  funext a
  unfold tbA
  by_cases e : a < t
  · rw [if_pos e, if_pos e, h a e]
  · rw [if_neg e, if_neg e]
theorem LI.ld {sv : Nat → Int32} {x x2 x3 : gk_X} {y y2 y3 : gk_Y} {g : Nat → Int32} (hs : SC sv x) (hT : LT x y) (hok : gOK g) (hR : RS 1 g x2 y2) (hM : MG g x3)
    (h95 : x2 95 1 = 0) (hx : ∀ i k, 87 ≤ i → ¬ (i = 95 ∧ k = 1) → ¬ (97 ≤ i ∧ i ≤ 102) → x2 i k = x i k) (hy : ∀ i k, 87 ≤ i → y2 i k = y i k)
    (h11 : x3 189 11 = 0) (hx3 : ∀ i k, ¬ (189 ≤ i ∧ i ≤ 191) → x3 i k = x2 i k) (hy3 : ∀ i k, ¬ (i = 189 ∧ k = 19) → y3 i k = y2 i k) (e0 : x2 97 0 = x3 189 17) (e1 : x2 97 1 = x3 189 18) : LI sv x3 y3 := by
  have f : ∀ i k, 87 ≤ i → ¬ (i = 95 ∧ k = 1) → ¬ (97 ≤ i ∧ i ≤ 102) → ¬ (189 ≤ i ∧ i ≤ 191) → x3 i k = x i k := fun i k a b c d => (hx3 i k d).trans (hx i k a b c)
  refine ⟨hs.go (fun k => f 5000 k (by omega) (by omega) (by omega) (by omega)), ⟨fun q hq => ?_, ⟨0, by decide, (hx3 95 1 (by omega)).trans h95, h11, fun k hk => absurd hk (Nat.not_lt_zero k)⟩, ?_⟩, g, hM, hR.cg hok.1 (fun i k a b => hx3 i k (by omega)) (fun k => hy3 1 k (by omega)), hok⟩
  · obtain ⟨b1, b2, b3⟩ := hT.1 q hq
    rw [f 193 q (by omega) (by omega) (by omega) (by omega), f 88 q (by omega) (by omega) (by omega) (by omega)]
    refine ⟨b1, b2, fun h0 => ?_⟩
    obtain ⟨h, g1, g2, g3⟩ := b3 h0
    refine ⟨h, g1.cg g2.1 (fun i k a b => f i k (by omega) (by omega) (by omega) (by omega)) (fun k => (hy3 _ k (by omega)).trans (hy _ k (by omega))), g2, fun k hk => ?_⟩
    rw [f 192 _ (by omega) (by omega) (by omega) (by omega)]
    exact g3 k hk
  · unfold LTe
    rw [hx3 97 0 (by omega), hx3 97 1 (by omega)]
    exact ⟨e0, e1⟩
theorem lc_39 (w : gk_W cL_law pL cs (fun _ _ => none) rt uf (some Ls) K V) (hc1 : cs 283 = some (1, 9, 1, 0, S_X10_load)) (hc2 : cs 286 = some (1, 10, 1, 0, S_X11_load))  (hu : u + 6 ≤ uf) (hI : LI sv x y) (kk : ∀ (x2 : gk_X) (y2 : gk_Y) (q6 q7 q8 : Option Value) (u2 : Nat), u2 ≤ u + 6 → LI sv x2 y2 → V 3095 [some (.ref 5000), some (.ref 0), some (.ref 189), some (.ref 200), some (.ref 201), some (.int i), q6, q7, q8] [] 202 gk_fT x2 y2 u2) : V 2984 [some (.ref 5000), some (.ref 0), some (.ref 189), some (.ref 200), some (.ref 201), some (.int i), q6, q7, q8] [] 202 gk_fT x y u := by
  obtain ⟨sc, hT, g, hM, hR, hok⟩ := hI
  refine s_aload_n (pc2 := 2985) w dL_law_2984 rfl rfl ?_
  obtain ⟨t, t1, t2, t3, t4⟩ := id hT.2.1
  refine r_X10_load (pc2 := 2988) w dL_law_2985 rfl hc1 rfl t2 t1 rfl hR hok (fun x2 y2 k1 k2 k3 k4 k5 k6 k7 => ?_)
  refine s_aload_n (pc2 := 2989) w dL_law_2988 rfl rfl ?_
  have tb : tbA (x2 199) t = tbA (x 96) t := tb_cg (fun k hk => (k6 199 k (by omega) (by omega) (by omega)).trans (t4 k hk).1.symm)
  have tn : ∀ k, k < t → ¬ tbA (x 96) t k = -1 := fun k hk => by rw [tbA, if_pos hk, (t4 k hk).1]; exact (t4 k hk).2
  refine r_X11_load (pc2 := 2992) (g := g) w dL_law_2989 rfl hc2 rfl ((k6 189 11 (by omega) (by omega) (by omega)).trans t3) t1 tb tn (fun k h => (k6 190 k (by omega) (by omega) (by omega)).trans (hM k h)) (fun x3 y3 m1 m2 m3 m4 m5 m6 => ?_)
  refine s_ic_eq (pc2 := 2995) (tgt := 3095) w dL_law_2992 rfl (by decide) (fun _ => ?_) (fun h0 => absurd (rfl) h0)
  exact kk _ _ _ _ _ _ (by omega) (LI.ld sc hT k2 k1 m1 k5 k6 k7 m4 m5 m6 (k3.trans m2.symm) (k4.trans m3.symm))

end GKV

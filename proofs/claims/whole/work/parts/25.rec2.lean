/-! THE METHODS, 6: the reference, recordings -/
section GKV
variable {c : ByteArray} {P : gk_C} {cs : Nat → Option gk_M0} {rt : Option FieldType} {uf : Nat} {sc : Option Nat} {K : gk_K} {V : gk_V}
variable {L : List (Option Value)} {r : List Value} {n : Nat} {fl : gk_F} {x : gk_X} {y : gk_Y} {u pc pc2 : Nat}
def gk_rg (x : gk_X) (j o N : Nat) (f : Nat → Int32) : gk_X := fun i k => if i = j ∧ o ≤ k ∧ k < o + N then f (k - o) else x i k
theorem gk_rg_0 (x : gk_X) (j o : Nat) (f : Nat → Int32) : gk_rg x j o 0 f = x := by
  funext i k
  exact if_neg (fun h => by omega)
theorem gk_rg_ne {x : gk_X} {i k j o N : Nat} {f : Nat → Int32} (h : ¬ (i = j ∧ o ≤ k ∧ k < o + N)) : gk_rg x j o N f i k = x i k := if_neg h
theorem gk_rg_in {x : gk_X} {k j o N : Nat} {f : Nat → Int32} (h : k < N) : gk_rg x j o N f j (o + k) = f k := by
  unfold gk_rg
  rw [if_pos ⟨rfl, by omega, by omega⟩, Nat.add_sub_cancel_left]
theorem gk_rg_s (x : gk_X) (j o t : Nat) (f : Nat → Int32) : gk_up (gk_rg x j o t f) j (o + t) (f t) = gk_rg x j o (t + 1) f := by
  funext i k
  simp only [gk_up, gk_rg]
  by_cases h : i = j ∧ k = o + t
  · obtain ⟨rfl, rfl⟩ := h
    rw [if_pos ⟨rfl, rfl⟩, if_pos ⟨rfl, by omega, by omega⟩, Nat.add_sub_cancel_left]
  · rw [if_neg h]
    by_cases h2 : i = j ∧ o ≤ k ∧ k < o + t
    · rw [if_pos h2, if_pos ⟨h2.1, by omega, by omega⟩]
    · rw [if_neg h2, if_neg (fun h3 => by
        have : k = o + t ∨ k < o + t := by omega
        rcases this with h4 | h4
        · exact h ⟨h3.1, h4⟩
        · exact h2 ⟨h3.1, h3.2.1, h4⟩)]
theorem gk_rg_k (x : gk_X) (j o t : Nat) (f : Nat → Int32) (h : f t = x j (o + t)) : gk_rg x j o (t + 1) f = gk_rg x j o t f := by
  rw [← gk_rg_s, h]
  funext i k
  unfold gk_up
  by_cases h2 : i = j ∧ k = o + t
  · rw [if_pos h2, h2.1, h2.2, gk_rg_ne (by omega)]
  · rw [if_neg h2]
theorem wf_path {g : Nat → Int32} (hw : gWf g) {m a : Nat} (hm : m < nM g) (ha : a < nS g) : (m < 8 ∧ a < 6 ∧ sV g a < 4 ∧ gz g (28 + 21 * a + 0) = (sV g a : Int)) ∧ (∀ rf, gk_PB (pA g m a) (pS g a) (pBe g m a rf)) ∧ (-5100 ≤ gz g (16 + 3 * sV g a + 2) - gz g (154 + 4 * m + 1) ∧ gz g (16 + 3 * sV g a + 2) - gz g (154 + 4 * m + 1) ≤ 5100) ∧ (-500 ≤ gz g (28 + 21 * a + 2) ∧ gz g (28 + 21 * a + 2) ≤ 500) ∧ (0 ≤ gz g (154 + 4 * m + 2) ∧ gz g (154 + 4 * m + 2) ≤ 500) := by
  obtain ⟨⟨-, -, -, -, -, -, c6, c7, c8⟩, hv, hs, hmm, -⟩ := hw
  obtain ⟨s1, s2, s3, -, -, -⟩ := hs a ha
  have e : gz g (28 + 21 * a + 0) = (sV g a : Int) := by unfold sV; omega
  have hvn : sV g a < nV g := by unfold nV; omega
  obtain ⟨v1, v2, v3⟩ := hv _ hvn
  obtain ⟨m1, m2, m3, -⟩ := hmm m hm
  have h4 : sV g a < 4 := by unfold nV at hvn; omega
  refine ⟨⟨by unfold nM at hm; omega, by unfold nS at ha; omega, h4, e⟩, fun rf => ?_, by omega, by omega, m3⟩
  have hb := gk_be_b (py := gz g (16 + 3 * sV g a + 2)) (ph := gz g (28 + 21 * a + 2)) (my := gz g (154 + 4 * m + 1)) (mh := gz g (154 + 4 * m + 2)) (rf := rf) (by omega) (by omega) (by omega) (by omega) (by omega) (by omega) (by omega) (by omega)
  unfold gk_PB pA pS pBe
  omega
/-- the latest emission that a scan knows, from one sample on to the next -/
def gk_fw (p : Nat → Bool) : Nat → Nat → Nat
  | 0, k => k
  | f + 1, k => if (decide (k < 256) && p k) = true then gk_fw p f (k + 1) else k
theorem gk_fw_le (p : Nat → Bool) : ∀ f k, k ≤ 256 → gk_fw p f k ≤ 256
  | 0, _, h => h
  | f + 1, k, h => by
    unfold gk_fw
    split
    · rename_i h2
      rw [Bool.and_eq_true, decide_eq_true_iff] at h2
      exact gk_fw_le p f (k + 1) (by omega)
    · exact h
def gk_sc (p : Nat → Nat → Bool) : Nat → Nat
  | 0 => 0
  | n + 1 => gk_fw (p n) 256 (gk_sc p n)
theorem gk_sc_le (p : Nat → Nat → Bool) : ∀ n, gk_sc p n ≤ 256
  | 0 => Nat.zero_le _
  | n + 1 => gk_fw_le _ _ _ (gk_sc_le p n)
/-- what a sample hears of a source on a path -/
def gk_hd (g : Nat → Int32) (m a : Nat) (rf : Bool) (n : Nat) : Int :=
  let j := gk_sc (fun (n : Nat) => gk_lp2 (pA g m a) (pS g a) (pBe g m a rf) (gz g 0) n) (n + 1)
  if j = 0 then 0 else gk_am (gSp g) (gz g 1) (vE g a (j - 1)) (gk_dl (pA g m a) (pS g a) (pBe g m a rf) ((j - 1 : Nat) : Int)) rf
theorem vE_b {g : Nat → Int32} (hw : gWf g) {a : Nat} (ha : a < nS g) (t : Nat) : -990 ≤ vE g a t ∧ vE g a t ≤ 990 := by
  obtain ⟨-, -, hs, -⟩ := hw
  obtain ⟨-, -, -, h4, h5, h6⟩ := hs a ha
  have hk := h6 (t % sW g a) (Nat.mod_lt _ (by unfold sW; omega))
  have := gk_mulb (a := gz g (28 + 21 * a + 5 + t % sW g a)) (b := gz g (28 + 21 * a + 3)) (A := 99) (B := 10) (by omega) (by omega) (by omega) (by omega)
  unfold vE
  omega
def S_X11_laySource : gk_S := fun as n fl x y K => ∃ (m : Int32) (s : Int32) (mm : Nat) (a : Nat) (g : Nat → Int32), as = [.ref 189, .int m, .int s] ∧ (n = 202 ∧ fl = gk_fT) ∧ (∀ k, k < 186 → k ≠ 3 → x 190 k = g k) ∧ (gWf g) ∧ (m = nI mm) ∧ (mm < nM g) ∧ (s = nI a) ∧ (a < nS g) ∧ (K (.inl none) n fl (gk_ur (gk_ur x 194 (fun t => gI (gk_dl (pA g mm a) (pS g a) (pBe g mm a false) t)) 256) 195 (fun t => gI (gk_dl (pA g mm a) (pS g a) (pBe g mm a true) t)) 256) y)
theorem r_X11_laySource (w : gk_W c P cs (fun _ _ => none) rt uf sc K V) {idx : Nat} {m : Int32} {s : Int32} {mm : Nat} {a : Nat} {g : Nat → Int32} (hd : decode c pc = .ok (.invokevirtual idx, 3)) (hp : pc + 3 = pc2) (hc : cs idx = some (1, 10, 3, 0, S_X11_laySource)) (h8 : Nat.ble (r.map Value.category).sum 8 = true) (hp0 : ∀ k, k < 186 → k ≠ 3 → x 190 k = g k) (hp1 : gWf g) (hp2 : m = nI mm) (hp3 : mm < nM g) (hp4 : s = nI a) (hp5 : a < nS g) (kk0 : V pc2 L r 202 gk_fT (gk_ur (gk_ur x 194 (fun t => gI (gk_dl (pA g mm a) (pS g a) (pBe g mm a false) t)) 256) 195 (fun t => gI (gk_dl (pA g mm a) (pS g a) (pBe g mm a true) t)) 256) y u) : V pc L (.int s :: .int m :: .ref 189 :: r) 202 gk_fT x y u :=
  g_callv w hd hp hc (as := [.ref 189, .int m, .int s]) rfl h8 rfl rfl rfl (Or.inr (Or.inl ⟨Or.inl rfl, _, _, rfl, (gk_kd_j rfl rfl), rfl⟩)) (Or.inl rfl) ⟨m, s, mm, a, g, rfl, ⟨rfl, rfl⟩, hp0, hp1, hp2, hp3, hp4, hp5, kk0⟩
def L_X11_laySource : List (Nat × gk_M0) := [(97, (1, 10, 3, 0, S_X11_source)), (109, (1, 10, 3, 0, S_X11_vehicle)), (129, (1, 10, 6, 0, S_X11_layDistances))]
def cs_X11_laySource : Nat → Option gk_M0 := gk_lk L_X11_laySource
theorem m_X11_laySource : ∀ (as : List Value) (n : Nat) (fl : gk_F) (x : gk_X) (y : gk_Y) (K : gk_K), S_X11_laySource as n fl x y K → (gk_L0 as).length ≤ 4 ∧ ∀ V : gk_V, gk_W cX11_laySource pX11 cs_X11_laySource (fun _ _ => none) none 0 none K V → V 0 (gk_en as 4) [] n fl x y 0 := by
  intro as n fl x y K hS
  obtain ⟨m, s, mm, a, g, rfl, ⟨rfl, rfl⟩, hp0, hp1, hp2, hp3, hp4, hp5, q0⟩ := hS
  refine ⟨Nat.le_of_ble_eq_true rfl, fun V w => ?_⟩
  show V 0 [some (.ref 189), some (.int m), some (.int s), none] [] 202 gk_fT x y 0
  subst hp2 hp4
  obtain ⟨⟨h1, h2, h3, h4⟩, h5, h6, h7, h8⟩ := wf_path hp1 hp3 hp5
  refine s_aload_n (pc2 := 1) w dX11_laySource_0 rfl rfl ?_
  refine s_iload_n (pc2 := 2) w dX11_laySource_1 rfl rfl ?_
  refine s_iconst (pc2 := 3) (v := gI 0) w dX11_laySource_2 rfl rfl ?_
  refine r_X11_source (pc2 := 6) (b := 0) w dX11_laySource_3 rfl rfl rfl rfl rfl (by omega) ?_
  rw [hp0 _ (by omega) (by omega), gz_I g, h4]
  refine s_istore_n (pc2 := 7) (k2 := 3) w dX11_laySource_6 rfl rfl rfl ?_
  dsimp only [gk_s1, gk_s2, gk_cl]
  refine s_aload_n (pc2 := 8) w dX11_laySource_7 rfl rfl ?_
  refine s_iload_n (pc2 := 9) w dX11_laySource_8 rfl rfl ?_
  refine s_iload_n (pc2 := 10) w dX11_laySource_9 rfl rfl ?_
  refine s_aload_n (pc2 := 11) w dX11_laySource_10 rfl rfl ?_
  refine s_iload_n (pc2 := 12) w dX11_laySource_11 rfl rfl ?_
  refine s_iconst (pc2 := 13) (v := gI 1) w dX11_laySource_12 rfl rfl ?_
  refine r_X11_source (pc2 := 16) (b := 1) w dX11_laySource_13 rfl rfl rfl rfl rfl (by omega) ?_
  rw [hp0 _ (by omega) (by omega), gz_I g (28 + 21 * a + 1)]
  refine s_aload_n (pc2 := 17) w dX11_laySource_16 rfl rfl ?_
  refine s_iload_n (pc2 := 18) w dX11_laySource_17 rfl rfl ?_
  refine s_iconst (pc2 := 19) (v := gI 2) w dX11_laySource_18 rfl rfl ?_
  refine r_X11_vehicle (pc2 := 22) (b := 2) w dX11_laySource_19 rfl rfl rfl rfl rfl (by omega) ?_
  rw [hp0 _ (by omega) (by omega), gz_I g (16 + 3 * sV g a + 2)]
  refine s_aload_n (pc2 := 23) w dX11_laySource_22 rfl rfl ?_
  refine s_iload_n (pc2 := 24) w dX11_laySource_23 rfl rfl ?_
  refine s_iconst (pc2 := 25) (v := gI 2) w dX11_laySource_24 rfl rfl ?_
  refine r_X11_source (pc2 := 28) (b := 2) w dX11_laySource_25 rfl rfl rfl rfl rfl (by omega) ?_
  rw [hp0 _ (by omega) (by omega), gz_I g (28 + 21 * a + 2)]
  refine r_X11_layDistances (pc2 := 31) w dX11_laySource_28 rfl rfl rfl rfl h1 rfl rfl rfl (by rw [hp0 _ (by omega) (by omega)]; exact gz_I g _) (by rw [hp0 _ (by omega) (by omega)]; exact gz_I g _) (by rw [hp0 _ (by omega) (by omega)]; exact gz_I g _) (Or.inr ⟨sV g a, gz g (16 + 3 * sV g a + 0), rfl, h3, by rw [hp0 _ (by omega) (by omega)]; exact gz_I g _, by rw [hp0 _ (by omega) (by omega)]; exact gz_I g _, rfl⟩) (by have := h5 false; unfold gk_PB pA pS at this; unfold gk_PB; omega) h6 h7 h8 ?_
  refine s_return w dX11_laySource_31 rfl ?_
  exact q0
theorem lk_X11_laySource {l : Launch} (hl : l.stackTraces = false) : ∀ q ∈ L_X11_laySource, (q.2.1 < 5 → gk_Lk l RX11 gk_W1 3 q.1 q.2.1 q.2.2.1 q.2.2.2.1 q.2.2.2.2.1 q.2.2.2.2.2) := (List.forall_mem_cons.mpr ⟨(fun _ => ⟨yX11_source, cX11_source, 3, (some .int), 0, _, M_X11_source hl, ⟨by decide, by decide⟩, ⟨by decide, by decide, by decide +kernel⟩, ⟨(gk_wm 1402 (by decide +kernel)), (gk_wm 99 (by decide +kernel))⟩, Or.inr (Or.inr (Or.inr (Or.inl ⟨rfl, rfl, (gk_wm 1401 (by decide +kernel)), (gk_wm 38 (by decide +kernel)), gk_wm 1399 (by decide +kernel), by decide, rfl⟩)))⟩), (List.forall_mem_cons.mpr ⟨(fun _ => ⟨yX11_vehicle, cX11_vehicle, 3, (some .int), 0, _, M_X11_vehicle hl, ⟨by decide, by decide⟩, ⟨by decide, by decide, by decide +kernel⟩, ⟨(gk_wm 1448 (by decide +kernel)), (gk_wm 99 (by decide +kernel))⟩, Or.inr (Or.inr (Or.inr (Or.inl ⟨rfl, rfl, (gk_wm 1447 (by decide +kernel)), (gk_wm 43 (by decide +kernel)), gk_wm 1445 (by decide +kernel), by decide, rfl⟩)))⟩), (List.forall_mem_cons.mpr ⟨(fun _ => ⟨yX11_layDistances, cX11_layDistances, 8, none, 2, _, M_X11_layDistances hl, ⟨by decide, by decide⟩, ⟨by decide, by decide, by decide +kernel⟩, ⟨(gk_wm 1452 (by decide +kernel)), (gk_wm 99 (by decide +kernel))⟩, Or.inr (Or.inr (Or.inr (Or.inl ⟨rfl, rfl, (gk_wm 1451 (by decide +kernel)), (gk_wm 44 (by decide +kernel)), gk_wm 1449 (by decide +kernel), by decide, rfl⟩)))⟩), (fun _ h => absurd h List.not_mem_nil)⟩)⟩)⟩)
theorem sp_X11_laySource : ∀ q ∈ L_X11_laySource, gk_Sq RX11 gk_W1 3 q := (List.forall_mem_cons.mpr ⟨⟨fun h => absurd h (by decide), fun h => absurd h (by decide), fun h => absurd h (by decide), fun h => absurd h (by decide), fun h => absurd h (by decide), fun h => absurd h (by decide)⟩, (List.forall_mem_cons.mpr ⟨⟨fun h => absurd h (by decide), fun h => absurd h (by decide), fun h => absurd h (by decide), fun h => absurd h (by decide), fun h => absurd h (by decide), fun h => absurd h (by decide)⟩, (List.forall_mem_cons.mpr ⟨⟨fun h => absurd h (by decide), fun h => absurd h (by decide), fun h => absurd h (by decide), fun h => absurd h (by decide), fun h => absurd h (by decide), fun h => absurd h (by decide)⟩, (fun _ h => absurd h List.not_mem_nil)⟩)⟩)⟩)
theorem M_X11_laySource {l : Launch} (hl : l.stackTraces = false) : gk_Mt l yX11_laySource (.code yX11_laySource cX11_laySource 4 none :: gk_W1) 3 0 S_X11_laySource := gk_meth hl gk_cw_ok (by decide +kernel) rfl m_X11_laySource pX11_ok (gk_Sp_of sp_X11_laySource) pX11_st (fun ci m S h => absurd h (by intro h; cases h)) (xf_X11 3) (fun idx kd ci mm cost S2 h h5 => lk_X11_laySource hl _ (gk_lk_mem h) h5)

def S_X11_hear : gk_S := fun as n fl x y K => ∃ (m : Int32) (s : Int32) (f : Int32) (mm : Nat) (a : Nat) (g : Nat → Int32) (rf : Bool), as = [.ref 189, .int m, .int s, .int f] ∧ (n = 202 ∧ fl = gk_fT) ∧ (∀ k, k < 186 → k ≠ 3 → x 190 k = g k) ∧ (gWf g) ∧ (m = nI mm) ∧ (mm < nM g) ∧ (s = nI a) ∧ (a < nS g) ∧ (f = if rf then 1 else 0) ∧ (∀ t : Nat, t < 256 → x (gk_dr rf) t = gI (gk_dl (pA g mm a) (pS g a) (pBe g mm a rf) t)) ∧ (K (.inl none) n fl (gk_rg x 190 (186 + 256 * mm) 256 (fun k => x 190 (186 + 256 * mm + k) + gI (gk_hd g mm a rf k))) y)
theorem r_X11_hear (w : gk_W c P cs (fun _ _ => none) rt uf sc K V) {idx : Nat} {m : Int32} {s : Int32} {f : Int32} {mm : Nat} {a : Nat} {g : Nat → Int32} {rf : Bool} (hd : decode c pc = .ok (.invokevirtual idx, 3)) (hp : pc + 3 = pc2) (hc : cs idx = some (1, 10, 4, 0, S_X11_hear)) (h8 : Nat.ble (r.map Value.category).sum 8 = true) (hp0 : ∀ k, k < 186 → k ≠ 3 → x 190 k = g k) (hp1 : gWf g) (hp2 : m = nI mm) (hp3 : mm < nM g) (hp4 : s = nI a) (hp5 : a < nS g) (hp6 : f = if rf then 1 else 0) (hp7 : ∀ t : Nat, t < 256 → x (gk_dr rf) t = gI (gk_dl (pA g mm a) (pS g a) (pBe g mm a rf) t)) (kk0 : V pc2 L r 202 gk_fT (gk_rg x 190 (186 + 256 * mm) 256 (fun k => x 190 (186 + 256 * mm + k) + gI (gk_hd g mm a rf k))) y u) : V pc L (.int f :: .int s :: .int m :: .ref 189 :: r) 202 gk_fT x y u :=
  g_callv w hd hp hc (as := [.ref 189, .int m, .int s, .int f]) rfl h8 rfl rfl rfl (Or.inr (Or.inl ⟨Or.inl rfl, _, _, rfl, (gk_kd_j rfl rfl), rfl⟩)) (Or.inl rfl) ⟨m, s, f, mm, a, g, rf, rfl, ⟨rfl, rfl⟩, hp0, hp1, hp2, hp3, hp4, hp5, hp6, hp7, kk0⟩
def L_X11_hear : List (Nat × gk_M0) := [(133, (1, 10, 3, 0, S_X11_markOf)), (137, (1, 10, 3, 0, S_X11_emittedBy)), (152, (1, 10, 4, 0, S_X11_amountOf))]
def cs_X11_hear : Nat → Option gk_M0 := gk_lk L_X11_hear
theorem m_X11_hear : ∀ (as : List Value) (n : Nat) (fl : gk_F) (x : gk_X) (y : gk_Y) (K : gk_K), S_X11_hear as n fl x y K → (gk_L0 as).length ≤ 7 ∧ ∀ V : gk_V, gk_W cX11_hear pX11 cs_X11_hear (fun _ _ => none) none 0 none K V → V 0 (gk_en as 7) [] n fl x y 0 := by
  intro as n fl x y K hS
  obtain ⟨m, s, f, mm, a, g, rf, rfl, ⟨rfl, rfl⟩, hp0, hp1, hp2, hp3, hp4, hp5, hp6, hp7, q0⟩ := hS
  refine ⟨Nat.le_of_ble_eq_true rfl, fun V w => ?_⟩
  show V 0 [some (.ref 189), some (.int m), some (.int s), some (.int f), none, none, none] [] 202 gk_fT x y 0
  subst hp2 hp4
  obtain ⟨⟨h1, h2, -, -⟩, h5, -⟩ := wf_path hp1 hp3 hp5
  have hpb := h5 rf
  have hcc := hp1.1.1
  obtain ⟨F, hF⟩ : ∃ F : Nat → Int32, F = fun k => x 190 (186 + 256 * mm + k) + gI (gk_hd g mm a rf k) := ⟨_, rfl⟩
  rw [← hF] at q0
  obtain ⟨p, hp⟩ : ∃ p : Nat → Nat → Bool, p = fun (n : Nat) => gk_lp2 (pA g mm a) (pS g a) (pBe g mm a rf) (gz g 0) n := ⟨_, rfl⟩
  have hG : ∀ n k, k < 186 → k ≠ 3 → gk_rg x 190 (186 + 256 * mm) n F 190 k = g k := fun n k hk hk3 => (gk_rg_ne (by omega)).trans (hp0 k hk hk3)
  have hD : ∀ (n t : Nat), t < 256 → gk_rg x 190 (186 + 256 * mm) n F (gk_dr rf) t = gI (gk_dl (pA g mm a) (pS g a) (pBe g mm a rf) t) := fun n t ht => (gk_rg_ne (fun h => absurd h.1 (by cases rf <;> decide))).trans (hp7 t ht)
  have inner : ∀ (n : Nat) (m6 : Option Value), n < 256 → ∀ (e k : Nat), k ≤ 256 → 256 ≤ e + k → V 49 [some (.ref 189), some (.int (nI mm)), some (.int (nI a)), some (.int f), some (.int (gI (((gk_fw (p n) e k : Nat) : Int) - 1))), some (.int (nI n)), m6] [] 202 gk_fT (gk_rg x 190 (186 + 256 * mm) n F) y 0 → V 14 [some (.ref 189), some (.int (nI mm)), some (.int (nI a)), some (.int f), some (.int (gI ((k : Int) - 1))), some (.int (nI n)), m6] [] 202 gk_fT (gk_rg x 190 (186 + 256 * mm) n F) y 0 := by
    intro n m6 hn e
    have top : V 49 [some (.ref 189), some (.int (nI mm)), some (.int (nI a)), some (.int f), some (.int (gI ((256 : Int) - 1))), some (.int (nI n)), m6] [] 202 gk_fT (gk_rg x 190 (186 + 256 * mm) n F) y 0 → V 14 [some (.ref 189), some (.int (nI mm)), some (.int (nI a)), some (.int f), some (.int (gI ((256 : Int) - 1))), some (.int (nI n)), m6] [] 202 gk_fT (gk_rg x 190 (186 + 256 * mm) n F) y 0 := by
      intro hV
      refine s_iload (pc2 := 16) w dX11_hear_14 rfl rfl ?_
      refine s_sipush (pc2 := 19) (v := gI 255) w dX11_hear_16 rfl rfl ?_
      refine s_ic_ge (pc2 := 22) (tgt := 49) w dX11_hear_19 rfl (by decide) (fun _ => ?_) (fun h0 => absurd ((Int32.le_refl _)) h0)
      exact hV
    induction e with
    | zero =>
      intro k h8 h9 hV
      have hk : k = 256 := by omega
      subst hk
      exact top hV
    | succ e ih =>
      intro k h8 h9 hV
      by_cases hk : k = 256
      · subst hk
        have e0 : gk_fw (p n) (e + 1) 256 = 256 := if_neg (fun h => absurd h Bool.false_ne_true)
        rw [e0] at hV
        exact top hV
      · have hb := gk_dlb hpb (t := (k : Int)) (by omega) (by omega)
        have hq1 := gk_mulb (a := (k : Int)) (b := gz g 0) (A := 256) (B := 1000) (by omega) (by omega) (by omega) (by omega)
        have hq2 := gk_mulb (a := (n : Int)) (b := gz g 0) (A := 256) (B := 1000) (by omega) (by omega) (by omega) (by omega)
        refine s_iload (pc2 := 16) w dX11_hear_14 rfl rfl ?_
        refine s_sipush (pc2 := 19) (v := gI 255) w dX11_hear_16 rfl rfl ?_
        refine s_ic_ge (pc2 := 22) (tgt := 49) w dX11_hear_19 rfl (by decide) (fun h0 => absurd h0 (by rw [gI_le ⟨by omega, by omega⟩ ⟨by omega, by omega⟩]; omega)) (fun _ => ?_)
        refine s_aload_n (pc2 := 23) w dX11_hear_22 rfl rfl ?_
        refine s_iload (pc2 := 25) w dX11_hear_23 rfl rfl ?_
        refine s_iconst (pc2 := 26) (v := gI 1) w dX11_hear_25 rfl rfl ?_
        refine s_iadd (pc2 := 27) w dX11_hear_26 rfl ?_
        refine s_iload_n (pc2 := 28) w dX11_hear_27 rfl rfl ?_
        rw [gI_add, show (k : Int) - 1 + 1 = (k : Int) by omega]
        refine r_X11_markOf (pc2 := 31) (tt := k) w dX11_hear_28 rfl rfl rfl rfl (by omega) ((hG n 0 (by decide) (by decide)).trans (gz_I g 0)) (hD n k (by omega)) hp6 ?_
        refine s_iload (pc2 := 33) w dX11_hear_31 rfl rfl ?_
        refine s_aload_n (pc2 := 34) w dX11_hear_33 rfl rfl ?_
        refine m_getR (pc2 := 37) (ci := 10) (k := 0) (j2 := 190) w dX11_hear_34 rfl rfl (by first | assumption | rfl) rfl rfl rfl ?_
        refine s_iconst (pc2 := 38) (v := gI 0) w dX11_hear_37 rfl rfl ?_
        refine m_ialoadN (pc2 := 39) (t := 0) (N := 2234) w dX11_hear_38 rfl (by first | assumption | rfl) rfl rfl (by decide) rfl ?_
        refine s_imul (pc2 := 40) w dX11_hear_39 rfl ?_
        rw [hG n 0 (by decide) (by decide), gz_I g 0, gI_nI n, gI_mul]
        refine s_ic_gt (pc2 := 43) (tgt := 49) w dX11_hear_40 rfl (by decide) (fun c40 => ?_) (fun c40 => ?_)
        · have hl : (n : Int) * gz g 0 < (k : Int) * gz g 0 + gk_dl (pA g mm a) (pS g a) (pBe g mm a rf) k := (gI_lt ⟨by omega, by omega⟩ ⟨by omega, by omega⟩).mp c40
          have e0 : gk_fw (p n) (e + 1) k = k := if_neg (fun h => by
            rw [Bool.and_eq_true, hp] at h
            have := of_decide_eq_true h.2
            omega)
          rw [e0] at hV
          exact hV
        · refine s_iinc (pc2 := 46) w dX11_hear_43 rfl rfl rfl rfl ?_
          dsimp only [gk_s1, gk_s2, gk_cl]
          rw [gI_inc, show (k : Int) - 1 + 1 = ((k + 1 : Nat) : Int) - 1 by omega]
          refine s_goto (tgt := 14) w dX11_hear_46 (by decide) ?_
          have hl : ¬ ((n : Int) * gz g 0 < (k : Int) * gz g 0 + gk_dl (pA g mm a) (pS g a) (pBe g mm a rf) k) := fun h => c40 ((gI_lt ⟨by omega, by omega⟩ ⟨by omega, by omega⟩).mpr h)
          have e0 : gk_fw (p n) (e + 1) k = gk_fw (p n) e (k + 1) := if_pos (by
            rw [Bool.and_eq_true, hp]
            exact ⟨decide_eq_true (by omega), decide_eq_true (by omega)⟩)
          rw [e0] at hV
          exact ih (k + 1) (by omega) (by omega) hV
  have key : ∀ (k n : Nat) (m6 : Option Value), n + k = 256 → V 6 [some (.ref 189), some (.int (nI mm)), some (.int (nI a)), some (.int f), some (.int (gI (((gk_sc p n : Nat) : Int) - 1))), some (.int (nI n)), m6] [] 202 gk_fT (gk_rg x 190 (186 + 256 * mm) n F) y 0 := by
    intro k
    induction k with
    | zero =>
      intro n m6 ht
      have ht2 : n = 256 := by omega
      subst ht2
      refine s_iload (pc2 := 8) w dX11_hear_6 rfl rfl ?_
      refine s_sipush (pc2 := 11) (v := gI 256) w dX11_hear_8 rfl rfl ?_
      refine s_ic_ge (pc2 := 14) (tgt := 118) w dX11_hear_11 rfl (by decide) (fun _ => ?_) (fun h0 => absurd ((Int32.le_refl _)) h0)
      refine s_return w dX11_hear_118 rfl ?_
      exact q0
    | succ k ih =>
      intro n m6 ht
      refine s_iload (pc2 := 8) w dX11_hear_6 rfl rfl ?_
      refine s_sipush (pc2 := 11) (v := gI 256) w dX11_hear_8 rfl rfl ?_
      refine s_ic_ge (pc2 := 14) (tgt := 118) w dX11_hear_11 rfl (by decide) (fun h0 => absurd h0 (by rw [gI_nI, gI_le ⟨by omega, by omega⟩ ⟨by omega, by omega⟩]; omega)) (fun _ => ?_)
      refine inner n m6 (by omega) 256 (gk_sc p n) (gk_sc_le p n) (by omega) ?_
      have hj : gk_fw (p n) 256 (gk_sc p n) = gk_sc p (n + 1) := rfl
      rw [hj]
      have hjl := gk_sc_le p (n + 1)
      have hh : gk_hd g mm a rf n = if gk_sc p (n + 1) = 0 then 0 else gk_am (gSp g) (gz g 1) (vE g a (gk_sc p (n + 1) - 1)) (gk_dl (pA g mm a) (pS g a) (pBe g mm a rf) ((gk_sc p (n + 1) - 1 : Nat) : Int)) rf := by rw [hp]; rfl
      have ih2 := fun m6 => ih (n + 1) m6 (by omega)
      generalize gk_sc p (n + 1) = j at hjl hh ih2
      rcases j with _ | j
      · refine s_iload (pc2 := 51) w dX11_hear_49 rfl rfl ?_
        refine s_iconst (pc2 := 52) (v := gI (-1)) w dX11_hear_51 rfl rfl ?_
        refine s_ic_eq (pc2 := 55) (tgt := 112) w dX11_hear_52 rfl (by decide) (fun _ => ?_) (fun h0 => absurd (rfl) h0)
        refine s_iinc (pc2 := 115) w dX11_hear_112 rfl rfl rfl rfl ?_
        dsimp only [gk_s1, gk_s2, gk_cl]
        rw [nI_s]
        refine s_goto (tgt := 6) w dX11_hear_115 (by decide) ?_
        have h := ih2 m6
        rw [gk_rg_k x 190 _ n F (by rw [hF]; show _ + gI (gk_hd g mm a rf n) = _; rw [hh, if_pos rfl]; exact Int32.add_zero _)] at h
        exact h
      · rw [if_neg (Nat.succ_ne_zero j), Nat.add_sub_cancel] at hh
        rw [show ((j + 1 : Nat) : Int) - 1 = (j : Int) by omega] at ih2 ⊢
        have hb := gk_dlb hpb (t := (j : Int)) (by omega) (by omega)
        refine s_iload (pc2 := 51) w dX11_hear_49 rfl rfl ?_
        refine s_iconst (pc2 := 52) (v := gI (-1)) w dX11_hear_51 rfl rfl ?_
        refine s_ic_eq (pc2 := 55) (tgt := 112) w dX11_hear_52 rfl (by decide) (fun h0 => absurd h0 (by rw [gI_eq ⟨by omega, by omega⟩ ⟨by omega, by omega⟩]; omega)) (fun _ => ?_)
        refine s_iload_n (pc2 := 56) w dX11_hear_55 rfl rfl ?_
        refine s_if_eq (pc2 := 59) (tgt := 69) w dX11_hear_56 rfl (by decide) (fun c56 => ?_) (fun c56 => ?_)
        · have hd := hD n j (by omega)
          have e := rf_0 (hp6 ▸ c56)
          subst e
          replace hd : gk_rg x 190 (186 + 256 * mm) n F 194 j = gI (gk_dl (pA g mm a) (pS g a) (pBe g mm a false) j) := hd
          refine s_aload_n (pc2 := 70) w dX11_hear_69 rfl rfl ?_
          refine m_getR (pc2 := 73) (ci := 10) (k := 5) (j2 := 194) w dX11_hear_70 rfl rfl (by first | assumption | rfl) rfl rfl rfl ?_
          refine s_iload (pc2 := 75) w dX11_hear_73 rfl rfl ?_
          refine m_ialoadN (pc2 := 76) (t := j) (N := 256) w dX11_hear_75 rfl (by first | assumption | rfl) rfl rfl (by omega) rfl ?_
          rw [hd]
          refine s_istore (pc2 := 78) w dX11_hear_76 rfl rfl ?_
          dsimp only [gk_s1, gk_s2, gk_cl]
          refine s_aload_n (pc2 := 79) w dX11_hear_78 rfl rfl ?_
          refine m_getR (pc2 := 82) (ci := 10) (k := 0) (j2 := 190) w dX11_hear_79 rfl rfl (by first | assumption | rfl) rfl rfl rfl ?_
          refine s_sipush (pc2 := 85) (v := gI 186) w dX11_hear_82 rfl rfl ?_
          refine s_sipush (pc2 := 88) (v := gI 256) w dX11_hear_85 rfl rfl ?_
          refine s_iload_n (pc2 := 89) w dX11_hear_88 rfl rfl ?_
          refine s_imul (pc2 := 90) w dX11_hear_89 rfl ?_
          refine s_iadd (pc2 := 91) w dX11_hear_90 rfl ?_
          refine s_iload (pc2 := 93) w dX11_hear_91 rfl rfl ?_
          refine s_iadd (pc2 := 94) w dX11_hear_93 rfl ?_
          refine s_dup2 (pc2 := 95) w dX11_hear_94 rfl rfl rfl ?_
          refine m_ialoadN (pc2 := 96) (t := 186 + 256 * mm + n) (N := 2234) w dX11_hear_95 rfl (by first | assumption | rfl) rfl (by simp only [gI_nI, gI_add, gI_mul, gI_sub, gI_inc]; exact congrArg gI (by omega)) (by omega) rfl ?_
          refine s_aload_n (pc2 := 97) w dX11_hear_96 rfl rfl ?_
          refine s_aload_n (pc2 := 98) w dX11_hear_97 rfl rfl ?_
          refine s_iload_n (pc2 := 99) w dX11_hear_98 rfl rfl ?_
          refine s_iload (pc2 := 101) w dX11_hear_99 rfl rfl ?_
          refine r_X11_emittedBy (pc2 := 104) (tt := j) w dX11_hear_101 rfl rfl rfl (hG n) hp1 rfl hp5 rfl (by omega) ?_
          refine s_iload (pc2 := 106) w dX11_hear_104 rfl rfl ?_
          refine s_iload_n (pc2 := 107) w dX11_hear_106 rfl rfl ?_
          refine r_X11_amountOf (pc2 := 110) w dX11_hear_107 rfl rfl rfl (hG n) hp1 rfl (vE_b hp1 hp5 j) rfl ⟨by omega, by omega⟩ hp6 ?_
          refine s_iadd (pc2 := 111) w dX11_hear_110 rfl ?_
          rw [gk_rg_ne (by omega), ← hh]
          refine m_iastoreN (pc2 := 112) (t := 186 + 256 * mm + n) (N := 2234) w dX11_hear_111 rfl (by first | assumption | rfl) rfl (by simp only [gI_nI, gI_add, gI_mul, gI_sub, gI_inc]; exact congrArg gI (by omega)) (by omega) rfl ?_
          refine s_iinc (pc2 := 115) w dX11_hear_112 rfl rfl rfl rfl ?_
          dsimp only [gk_s1, gk_s2, gk_cl]
          rw [nI_s]
          refine s_goto (tgt := 6) w dX11_hear_115 (by decide) ?_
          have h := ih2 (some (.int (gI (gk_dl (pA g mm a) (pS g a) (pBe g mm a false) j))))
          rw [← gk_rg_s] at h
          rw [hF] at h ⊢
          exact h
        · have hd := hD n j (by omega)
          have e := rf_1 (hp6 ▸ c56)
          subst e
          replace hd : gk_rg x 190 (186 + 256 * mm) n F 195 j = gI (gk_dl (pA g mm a) (pS g a) (pBe g mm a true) j) := hd
          refine s_aload_n (pc2 := 60) w dX11_hear_59 rfl rfl ?_
          refine m_getR (pc2 := 63) (ci := 10) (k := 6) (j2 := 195) w dX11_hear_60 rfl rfl (by first | assumption | rfl) rfl rfl rfl ?_
          refine s_iload (pc2 := 65) w dX11_hear_63 rfl rfl ?_
          refine m_ialoadN (pc2 := 66) (t := j) (N := 256) w dX11_hear_65 rfl (by first | assumption | rfl) rfl rfl (by omega) rfl ?_
          refine s_goto (tgt := 76) w dX11_hear_66 (by decide) ?_
          rw [hd]
          refine s_istore (pc2 := 78) w dX11_hear_76 rfl rfl ?_
          dsimp only [gk_s1, gk_s2, gk_cl]
          refine s_aload_n (pc2 := 79) w dX11_hear_78 rfl rfl ?_
          refine m_getR (pc2 := 82) (ci := 10) (k := 0) (j2 := 190) w dX11_hear_79 rfl rfl (by first | assumption | rfl) rfl rfl rfl ?_
          refine s_sipush (pc2 := 85) (v := gI 186) w dX11_hear_82 rfl rfl ?_
          refine s_sipush (pc2 := 88) (v := gI 256) w dX11_hear_85 rfl rfl ?_
          refine s_iload_n (pc2 := 89) w dX11_hear_88 rfl rfl ?_
          refine s_imul (pc2 := 90) w dX11_hear_89 rfl ?_
          refine s_iadd (pc2 := 91) w dX11_hear_90 rfl ?_
          refine s_iload (pc2 := 93) w dX11_hear_91 rfl rfl ?_
          refine s_iadd (pc2 := 94) w dX11_hear_93 rfl ?_
          refine s_dup2 (pc2 := 95) w dX11_hear_94 rfl rfl rfl ?_
          refine m_ialoadN (pc2 := 96) (t := 186 + 256 * mm + n) (N := 2234) w dX11_hear_95 rfl (by first | assumption | rfl) rfl (by simp only [gI_nI, gI_add, gI_mul, gI_sub, gI_inc]; exact congrArg gI (by omega)) (by omega) rfl ?_
          refine s_aload_n (pc2 := 97) w dX11_hear_96 rfl rfl ?_
          refine s_aload_n (pc2 := 98) w dX11_hear_97 rfl rfl ?_
          refine s_iload_n (pc2 := 99) w dX11_hear_98 rfl rfl ?_
          refine s_iload (pc2 := 101) w dX11_hear_99 rfl rfl ?_
          refine r_X11_emittedBy (pc2 := 104) (tt := j) w dX11_hear_101 rfl rfl rfl (hG n) hp1 rfl hp5 rfl (by omega) ?_
          refine s_iload (pc2 := 106) w dX11_hear_104 rfl rfl ?_
          refine s_iload_n (pc2 := 107) w dX11_hear_106 rfl rfl ?_
          refine r_X11_amountOf (pc2 := 110) w dX11_hear_107 rfl rfl rfl (hG n) hp1 rfl (vE_b hp1 hp5 j) rfl ⟨by omega, by omega⟩ hp6 ?_
          refine s_iadd (pc2 := 111) w dX11_hear_110 rfl ?_
          rw [gk_rg_ne (by omega), ← hh]
          refine m_iastoreN (pc2 := 112) (t := 186 + 256 * mm + n) (N := 2234) w dX11_hear_111 rfl (by first | assumption | rfl) rfl (by simp only [gI_nI, gI_add, gI_mul, gI_sub, gI_inc]; exact congrArg gI (by omega)) (by omega) rfl ?_
          refine s_iinc (pc2 := 115) w dX11_hear_112 rfl rfl rfl rfl ?_
          dsimp only [gk_s1, gk_s2, gk_cl]
          rw [nI_s]
          refine s_goto (tgt := 6) w dX11_hear_115 (by decide) ?_
          have h := ih2 (some (.int (gI (gk_dl (pA g mm a) (pS g a) (pBe g mm a true) j))))
          rw [← gk_rg_s] at h
          rw [hF] at h ⊢
          exact h
  refine s_iconst (pc2 := 1) (v := gI (-1)) w dX11_hear_0 rfl rfl ?_
  refine s_istore (pc2 := 3) w dX11_hear_1 rfl rfl ?_
  dsimp only [gk_s1, gk_s2, gk_cl]
  refine s_iconst (pc2 := 4) (v := gI 0) w dX11_hear_3 rfl rfl ?_
  refine s_istore (pc2 := 6) w dX11_hear_4 rfl rfl ?_
  dsimp only [gk_s1, gk_s2, gk_cl]
  have h := key 256 0 none rfl
  rw [gk_rg_0] at h
  exact h
theorem lk_X11_hear {l : Launch} (hl : l.stackTraces = false) : ∀ q ∈ L_X11_hear, (q.2.1 < 5 → gk_Lk l RX11 gk_W1 2 q.1 q.2.1 q.2.2.1 q.2.2.2.1 q.2.2.2.2.1 q.2.2.2.2.2) := (List.forall_mem_cons.mpr ⟨(fun _ => ⟨yX11_markOf, cX11_markOf, 3, (some .int), 0, _, M_X11_markOf hl, ⟨by decide, by decide⟩, ⟨by decide, by decide, by decide +kernel⟩, ⟨(gk_wm 1481 (by decide +kernel)), (gk_wm 99 (by decide +kernel))⟩, Or.inr (Or.inr (Or.inr (Or.inl ⟨rfl, rfl, (gk_wm 1480 (by decide +kernel)), (gk_wm 49 (by decide +kernel)), gk_wm 1478 (by decide +kernel), by decide, rfl⟩)))⟩), (List.forall_mem_cons.mpr ⟨(fun _ => ⟨yX11_emittedBy, cX11_emittedBy, 3, (some .int), 1, _, M_X11_emittedBy hl, ⟨by decide, by decide⟩, ⟨by decide, by decide, by decide +kernel⟩, ⟨(gk_wm 1436 (by decide +kernel)), (gk_wm 99 (by decide +kernel))⟩, Or.inr (Or.inr (Or.inr (Or.inl ⟨rfl, rfl, (gk_wm 1435 (by decide +kernel)), (gk_wm 41 (by decide +kernel)), gk_wm 1433 (by decide +kernel), by decide, rfl⟩)))⟩), (List.forall_mem_cons.mpr ⟨(fun _ => ⟨yX11_amountOf, cX11_amountOf, 5, (some .int), 0, _, M_X11_amountOf hl, ⟨by decide, by decide⟩, ⟨by decide, by decide, by decide +kernel⟩, ⟨(gk_wm 1498 (by decide +kernel)), (gk_wm 99 (by decide +kernel))⟩, Or.inr (Or.inr (Or.inr (Or.inl ⟨rfl, rfl, (gk_wm 1497 (by decide +kernel)), (gk_wm 51 (by decide +kernel)), gk_wm 1495 (by decide +kernel), by decide, rfl⟩)))⟩), (fun _ h => absurd h List.not_mem_nil)⟩)⟩)⟩)
theorem sp_X11_hear : ∀ q ∈ L_X11_hear, gk_Sq RX11 gk_W1 2 q := (List.forall_mem_cons.mpr ⟨⟨fun h => absurd h (by decide), fun h => absurd h (by decide), fun h => absurd h (by decide), fun h => absurd h (by decide), fun h => absurd h (by decide), fun h => absurd h (by decide)⟩, (List.forall_mem_cons.mpr ⟨⟨fun h => absurd h (by decide), fun h => absurd h (by decide), fun h => absurd h (by decide), fun h => absurd h (by decide), fun h => absurd h (by decide), fun h => absurd h (by decide)⟩, (List.forall_mem_cons.mpr ⟨⟨fun h => absurd h (by decide), fun h => absurd h (by decide), fun h => absurd h (by decide), fun h => absurd h (by decide), fun h => absurd h (by decide), fun h => absurd h (by decide)⟩, (fun _ h => absurd h List.not_mem_nil)⟩)⟩)⟩)
theorem M_X11_hear {l : Launch} (hl : l.stackTraces = false) : gk_Mt l yX11_hear (.code yX11_hear cX11_hear 7 none :: gk_W1) 2 0 S_X11_hear := gk_meth hl gk_cw_ok (by decide +kernel) rfl m_X11_hear pX11_ok (gk_Sp_of sp_X11_hear) pX11_st (fun ci m S h => absurd h (by intro h; cases h)) (xf_X11 2) (fun idx kd ci mm cost S2 h h5 => lk_X11_hear hl _ (gk_lk_mem h) h5)

end GKV

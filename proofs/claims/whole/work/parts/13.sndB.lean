/-! THE ENGINE, 4: the machine keeps to it: each step -/
def gk_R (ci : Nat) : String := [RX0, RX1, RX2, RX3, RX4, RX5, RX7, RX8, RX9, RX10, RX11].getD ci ""
def gk_T (ci : Nat) : u_T := [TX0, TX1, TX2, TX3, TX4, TX5, TX7, TX8, TX9, TX10, TX11].getD ci TX0
def gk_ty (ci : Nat) : Nat → FieldType := [tyX0, tyX1, tyX2, tyX3, tyX4, tyX5, tyX7, tyX8, tyX9, tyX10, tyX11].getD ci tyX0
theorem gk_11 {P : Nat → Prop} (h0 : P 0) (h1 : P 1) (h2 : P 2) (h3 : P 3) (h4 : P 4) (h5 : P 5) (h6 : P 6) (h7 : P 7) (h8 : P 8) (h9 : P 9) (h10 : P 10) : ∀ ci, ci < 11 → P ci := by
  intro ci h
  rcases (by omega : ci = 0 ∨ ci = 1 ∨ ci = 2 ∨ ci = 3 ∨ ci = 4 ∨ ci = 5 ∨ ci = 6 ∨ ci = 7 ∨ ci = 8 ∨ ci = 9 ∨ ci = 10) with rfl | rfl | rfl | rfl | rfl | rfl | rfl | rfl | rfl | rfl | rfl <;> assumption
theorem gk_clx : ∀ ci, ci < 11 → vwCl[ci]? = some (gk_R ci, gk_T ci, gk_nf ci) := gk_11 rfl rfl rfl rfl rfl rfl rfl rfl rfl rfl rfl
theorem gk_nm : ∀ ci, ci < 11 → ∀ a, a < gk_nf ci → ∀ b, b < gk_nf ci → a ≠ b → (gk_T ci a).2.1 ≠ (gk_T ci b).2.1 := gk_11 nmX0 nmX1 nmX2 nmX3 nmX4 nmX5 nmX7 nmX8 nmX9 nmX10 nmX11
theorem gk_tok : ∀ ci, ci < 11 → ∀ k, k < gk_nf ci → parseFieldDescriptor (gk_T ci k).2.2.1 = some (gk_ty ci k) := gk_11 tyX0_ok tyX1_ok tyX2_ok tyX3_ok tyX4_ok tyX5_ok tyX7_ok tyX8_ok tyX9_ok tyX10_ok tyX11_ok
/-- a field's kind, its type, its final flag -/
def gk_fty (ci k : Nat) : Bool := if gk_fk ci k = 0 then (!(gk_T ci k).2.2.2 && (if gk_bz ci k then gk_ty ci k == .boolean else gk_ty ci k == .int)) else if gk_fk ci k = 1 then (!(gk_T ci k).2.2.2 && gk_ty ci k == .long) else ((gk_T ci k).2.2.2 && (match gk_ty ci k with | .object _ => true | .array _ => true | _ => false))
theorem gk_fty_ok : ∀ ci, ci < 11 → ∀ k, k < gk_nf ci → gk_fty ci k = true ∧ (gk_T ci k).1 = gk_R ci := by decide +kernel
theorem gk_f0_ok {ci k : Nat} (hc : ci < 11) (hk : k < gk_nf ci) (h0 : gk_fk ci k = 0) {v : Int32} (hz : gk_bz ci k = true → (v = 0 ∨ v = 1)) : (gk_T ci k).2.2.2 = false ∧ narrow (gk_ty ci k) (.int v) = .int v ∧ fits (gk_ty ci k) (.int v) = true := by
  have h := (gk_fty_ok ci hc k hk).1
  unfold gk_fty at h
  rw [if_pos h0, Bool.and_eq_true, Bool.not_eq_true'] at h
  refine ⟨h.1, ?_⟩
  cases hb : gk_bz ci k with
  | true =>
    have h2 := h.2
    rw [hb] at h2
    have h3 : gk_ty ci k = .boolean := by simpa using h2
    rw [h3]
    rcases hz hb with rfl | rfl <;> exact ⟨rfl, rfl⟩
  | false =>
    have h2 := h.2
    rw [hb] at h2
    have h3 : gk_ty ci k = .int := by simpa using h2
    rw [h3]
    exact ⟨rfl, rfl⟩
theorem gk_f1_ok {ci k : Nat} (hc : ci < 11) (hk : k < gk_nf ci) (h0 : gk_fk ci k = 1) (v : Int64) : (gk_T ci k).2.2.2 = false ∧ narrow (gk_ty ci k) (.long v) = .long v ∧ fits (gk_ty ci k) (.long v) = true := by
  have h := (gk_fty_ok ci hc k hk).1
  unfold gk_fty at h
  rw [if_neg (by omega), if_pos h0, Bool.and_eq_true, Bool.not_eq_true'] at h
  have h3 : gk_ty ci k = .long := by simpa using h.2
  rw [h3]
  exact ⟨h.1, rfl, rfl⟩
theorem gk_f2_ok {ci k : Nat} (hc : ci < 11) (hk : k < gk_nf ci) (h0 : gk_fk ci k = 2) (a : Nat) : (gk_T ci k).2.2.2 = true ∧ narrow (gk_ty ci k) (.ref a) = .ref a ∧ fits (gk_ty ci k) (.ref a) = true := by
  have h := (gk_fty_ok ci hc k hk).1
  unfold gk_fty at h
  rw [if_neg (by omega), if_neg (by omega), Bool.and_eq_true] at h
  refine ⟨h.1, ?_⟩
  have h2 := h.2
  cases hq : gk_ty ci k <;> rw [hq] at h2 <;> first | exact ⟨rfl, rfl⟩ | cases h2
theorem gk_kd_el : ∀ j, j < 202 → 24 ≤ gk_kd j → gk_kd j < 28 → ∀ i, i < gk_ln j → gk_kd (j + gk_eo (gk_kd j) i) = [3, 6, 1, 4].getD (gk_kd j - 24) 99 := by decide +kernel
def gk_tys (cl : Nat → ClassId) : List (ClassId × FieldType) := [(cl 20, .int), (cl 21, .boolean), (cl 22, .long), (cl 23, .double), (cl 24, .object RX3), (cl 25, .object RX7), (cl 26, .object RX1), (cl 27, .object RX4)]
/-- a class's pool, in words -/
def gk_Pf (own : String) (P : gk_C) (Ts : List Jvm.Cond) : Prop :=
  (∀ idx ci k, P.1 idx = some (ci, k) → ci < 11 ∧ (k < gk_nf ci → Jvm.Cond.fieldLink own idx (gk_T ci k).1 (gk_T ci k).2.1 (gk_T ci k).2.2.1 ∈ Ts)) ∧
  (∀ idx v, P.2.1 idx = some v → Jvm.Cond.constantLong own idx v ∈ Ts) ∧
  (∀ idx v, P.2.2.1 idx = some v → Jvm.Cond.constant own idx v ∈ Ts) ∧
  (∀ idx ci, P.2.2.2.2 idx = some ci → ci < 11 → Jvm.Cond.classLink own idx (gk_R ci) ∈ Ts ∧ Jvm.Cond.instantiable (gk_R ci) (gk_nf ci) ∈ Ts ∧ Jvm.Cond.initialized (gk_R ci) ∈ Ts) ∧
  (∀ idx kd, P.2.2.2.2 (100000 + idx) = some (200 + kd) → Jvm.Cond.classLink own idx (gk_R ([3, 6, 1, 4].getD (kd - 24) 99)) ∈ Ts)
/-- the callees that are no methods of ours -/
def gk_Sp (own : String) (cs : Nat → Option gk_M0) (Ts : List Jvm.Cond) (d : Nat) : Prop :=
  ∀ idx kd ci m cost S, cs idx = some (kd, ci, m, cost, S) → (kd = 5 → 1 ≤ d ∧ Jvm.Cond.methodLink own idx Lib.Math.max.name ∈ Ts ∧ Jvm.Cond.static Lib.Math.max.name ∈ Ts ∧ Jvm.Cond.initialized "java/lang/Math" ∈ Ts ∧ Jvm.Cond.code Lib.Math.max.name Lib.Math.max.code 2 (some .int) ∈ Ts) ∧ (kd = 6 → 1 ≤ d ∧ Jvm.Cond.methodLink own idx Lib.Math.min.name ∈ Ts ∧ Jvm.Cond.static Lib.Math.min.name ∈ Ts ∧ Jvm.Cond.initialized "java/lang/Math" ∈ Ts ∧ Jvm.Cond.code Lib.Math.min.name Lib.Math.min.code 2 (some .int) ∈ Ts) ∧ (kd = 7 → 1 ≤ d ∧ Jvm.Cond.methodLink own idx Lib.Math.abs.name ∈ Ts ∧ Jvm.Cond.static Lib.Math.abs.name ∈ Ts ∧ Jvm.Cond.initialized "java/lang/Math" ∈ Ts ∧ Jvm.Cond.code Lib.Math.abs.name Lib.Math.abs.code 1 (some .int) ∈ Ts) ∧ (kd = 8 → 1 ≤ d ∧ Jvm.Cond.methodLink own idx arraycopyName ∈ Ts ∧ Jvm.Cond.native arraycopyName ∈ Ts ∧ Jvm.Cond.static arraycopyName ∈ Ts ∧ Jvm.Cond.initialized "java/lang/System" ∈ Ts) ∧ (kd = 9 → 1 ≤ d ∧ Jvm.Cond.methodLink own idx Lib.objectInit ∈ Ts ∧ Jvm.Cond.instanceMethod Lib.objectInit ∈ Ts ∧ Jvm.Cond.code Lib.objectInit ⟨#[0xb1]⟩ 1 none ∈ Ts) ∧ (kd = 99 → gk_R ci = own)
section GKV
variable (p : Program) (l : Launch) (e : Env) (R : Room) (s : State) (m : MethodId) (args : Array Value) (below : List Frame) (meth : Method) (c : Code) (Q : State → Prop) (D : va_G) (cl : Nat → ClassId) (A : Nat → Prop) (n0 : Nat) (ad0 : Nat → Nat) (x0 : gk_X) (nL uf : Nat)
def gk_VV : gk_V := fun pc L st n fl x y u => ∀ (ad : Nat → Nat) (H : Heap) (locs : List Loc) (ls : Array Slot), (∀ j, (j < n0 ∨ 1000 ≤ j) → ad j = ad0 j) → n0 ≤ n → gk_In n fl → (∀ j, 1000 ≤ j → x j = x0 j) → u ≤ uf → va_P D vwCl (gk_w cl ad n fl x y) H → va_D A (gk_w cl ad n fl x y) → va_S A s.heap H locs → gk_L ad n ls nL L → (∀ v ∈ st, gk_rv n v) → W p l e R s m args below meth c H locs u (16 * u) Q (F0 m pc ls (st.map (gk_cz ad)))
end GKV
theorem gk_rvc {n : Nat} {v : Value} {r : List Value} (h : gk_rv n v) (hr : ∀ w ∈ r, gk_rv n w) : ∀ w ∈ v :: r, gk_rv n w := fun w hw => (List.mem_cons.mp hw).elim (fun e => by rw [e]; exact h) (hr w)
theorem gk_rvt {n : Nat} {v : Value} {r : List Value} (h : ∀ w ∈ v :: r, gk_rv n w) : ∀ w ∈ r, gk_rv n w := fun w hw => h w (List.mem_cons_of_mem _ hw)
theorem gk_rvh {n : Nat} {v : Value} {r : List Value} (h : ∀ w ∈ v :: r, gk_rv n w) : gk_rv n v := h v List.mem_cons_self
theorem gk_catle (ad : Nat → Nat) (r : List Value) : (r.map (gk_cz ad)).map (fun v => v.category) = r.map Value.category := by
  rw [List.map_map]
  exact List.map_congr_left (fun v _ => gk_cz_cat ad v)
section GKH
variable {p : Program} {l : Launch} {e : Env} {R : Room} {s : State} {m : MethodId} {args : Array Value} {below : List Frame} {meth : Method} {c : Code} {H : Heap} {locs : List Loc} {cells slots : Nat} {Q : State → Prop} {cc : ByteArray} {pc : Nat} {ls : Array Slot} {rest : List Value}
theorem gk_ldcSw (hexec : p.tables.exec = Jvm.exec) (hb : c.code = cc) {own tx : String} {index q : Nat} (hown : s.vm.findClass own = some m.cls) (hZ : vk_R own index tx q s) (hdg : decode cc pc = .ok (.ldc_w index, 3))
    (k : W p l e R s m args below meth c H locs cells slots Q (F0 m (pc + 3) ls (.ref q :: rest))) : W p l e R s m args below meth c H locs cells slots Q (F0 m pc ls rest) := by
  intro T hT X
  obtain ⟨t, a1, b1⟩ := k T hT X
  exact ⟨t, X.ldcStringW hexec hown (text := tx) (a := q) hZ.1 hZ.2 (g := F0 m pc ls rest) rfl (by rw [hb]; exact hdg) t a1, b1⟩
theorem gk_catsum (ad : Nat → Nat) {r : List Value} (h8 : (r.map Value.category).sum ≤ 8) : ((r.map (gk_cz ad)).map fun v => v.category).sum ≤ 8 := by
  rw [gk_catle]
  exact h8
end GKH
def gk_ax (ad : Nat → Nat) (n q : Nat) : Nat → Nat := fun j => if j = n then q else ad j
theorem gk_gc_ad {cl : Nat → ClassId} {ad ad2 : Nat → Nat} {fli : Nat → Bool} {xi : Nat → Int32} {yi : Nat → Int64} {i : Nat} (h : ∀ k, k < gk_wd (gk_kd i) i → fli k = true → ad2 (gk_tg (gk_kd i) i k) = ad (gk_tg (gk_kd i) i k)) : gk_gc cl ad2 fli xi yi i = gk_gc cl ad fli xi yi i := by
  unfold gk_gc
  by_cases hk : gk_kd i < 11
  · rw [if_pos hk, if_pos hk]
    congr 2
    refine List.map_congr_left (fun k hkm => ?_)
    have hk2 := List.mem_range.mp hkm
    unfold gk_gf
    by_cases hf : fli k = true
    · have h2 := h k (by unfold gk_wd; rw [if_pos hk]; exact hk2) hf
      unfold gk_tg at h2
      rw [if_pos hk] at h2
      rw [h2]
    · simp [hf]
  · rw [if_neg hk, if_neg hk]
    by_cases h1 : gk_kd i = 22
    · rw [if_pos h1, if_pos h1]
    · rw [if_neg h1, if_neg h1]
      by_cases h2 : gk_kd i = 23
      · rw [if_pos h2, if_pos h2]
      · rw [if_neg h2, if_neg h2]
        by_cases h3 : gk_kd i < 22
        · rw [if_pos h3, if_pos h3]
        · rw [if_neg h3, if_neg h3]
          refine congrArg (fun f => (Sum.inl (cl (gk_kd i), gk_ln i, Sum.inr (Sum.inr (Sum.inr (Sum.inr f)))) : va_E)) (funext fun k => ?_)
          by_cases hc : k < gk_ln i ∧ fli k = true
          · have h4 := h k (by unfold gk_wd; rw [if_neg hk]; exact hc.1) hc.2
            unfold gk_tg at h4
            rw [if_neg hk] at h4
            rw [if_pos hc, if_pos hc, h4]
          · rw [if_neg hc, if_neg hc]
theorem gk_w_push {cl : Nat → ClassId} {ad : Nat → Nat} {n q : Nat} {fl : gk_F} {x : gk_X} {y : gk_Y} {e : va_E} (hI : gk_In n fl) (he : e = gk_gc cl (gk_ax ad n q) (fun _ => false) (fun _ => 0) (fun _ => 0) n) : gk_w cl ad n fl x y ++ [(q, e)] = gk_w cl (gk_ax ad n q) (n + 1) (gk_f0 fl n) (gk_u0 x n) (gk_v0 y n) := by
  have e1 : gk_f0 fl n n = fun _ => false := by funext k; simp [gk_f0]
  have e2 : gk_u0 x n n = fun _ => 0 := by funext k; simp [gk_u0]
  have e3 : gk_v0 y n n = fun _ => 0 := by funext k; simp [gk_v0]
  have e4 : gk_ax ad n q n = q := by simp [gk_ax]
  unfold gk_w
  rw [List.range_succ, List.map_append]
  congr 1
  · refine List.map_congr_left (fun i hi => ?_)
    have hi2 := List.mem_range.mp hi
    have hne : i ≠ n := by omega
    have g1 : gk_f0 fl n i = fl i := by funext k; simp [gk_f0, hne]
    have g2 : gk_u0 x n i = x i := by funext k; simp [gk_u0, hne]
    have g3 : gk_v0 y n i = y i := by funext k; simp [gk_v0, hne]
    rw [g1, g2, g3]
    rw [gk_gc_ad (ad := ad) (ad2 := gk_ax ad n q) (fun k hk hf => by
      have := hI.2 i k hi2 hk hf
      unfold gk_ax
      rw [if_neg (by omega)])]
    unfold gk_ax
    rw [if_neg hne]
  · simp [e1, e2, e3, e4, he]
theorem gk_In_new {n : Nat} {fl : gk_F} (hI : gk_In n fl) (hn : n < 202) : gk_In (n + 1) (gk_f0 fl n) := by
  refine ⟨by omega, fun i k hi hk hf => ?_⟩
  by_cases h : i = n
  · subst h
    simp [gk_f0] at hf
  · have := hI.2 i k (by omega) hk (by simpa [gk_f0, h] using hf)
    omega
theorem gk_st_ax {ad : Nat → Nat} {n q : Nat} {st : List Value} (hn : n < 202) (hst : ∀ v ∈ st, gk_rv n v) : st.map (gk_cz ad) = st.map (gk_cz (gk_ax ad n q)) :=
  List.map_congr_left (fun v hv => (gk_cz_eq (n := n) (fun j hj => by unfold gk_ax; rw [if_neg (by omega)]) (hst v hv)).symm)
theorem gk_fs0 : ∀ ci, ci < 11 → ∀ k, k < gk_nf ci → defaultValue (gk_ty ci k) = gk_gf (fun j => j) (fun _ => false) (fun _ => 0) (fun _ => 0) 0 ci k := by decide +kernel
theorem gk_gf0 (ad ad2 : Nat → Nat) (i i2 ci k : Nat) : gk_gf ad (fun _ => false) (fun _ => 0) (fun _ => 0) i ci k = gk_gf ad2 (fun _ => false) (fun _ => 0) (fun _ => 0) i2 ci k := by
  unfold gk_gf
  simp
theorem gk_uphi {x x0 : gk_X} {j k n : Nat} {v : Int32} {fl : gk_F} (h4 : ∀ j, 1000 ≤ j → x j = x0 j) (hI : gk_In n fl) (hj : j < n) : ∀ q, 1000 ≤ q → gk_up x j k v q = x0 q := fun q hq => by
  have h9 := hI.1
  have hne : q ≠ j := by omega
  rw [← h4 q hq]
  funext w
  simp [gk_up, hne]
theorem gk_cphi {x x0 : gk_X} {b n : Nat} {f : Nat → Int32} {fl : gk_F} (h4 : ∀ j, 1000 ≤ j → x j = x0 j) (hI : gk_In n fl) (hj : b < n) : ∀ q, 1000 ≤ q → (fun (i2 k2 : Nat) => if i2 = b then f k2 else x i2 k2) q = x0 q := fun q hq => by
  have h9 := hI.1
  have hne : q ≠ b := by omega
  rw [← h4 q hq]
  funext w
  simp [hne]
theorem gk_u0hi {x x0 : gk_X} {n : Nat} (h4 : ∀ j, 1000 ≤ j → x j = x0 j) (hn : n < 202) : ∀ q, 1000 ≤ q → gk_u0 x n q = x0 q := fun q hq => by
  have hne : q ≠ n := by omega
  rw [← h4 q hq]
  funext w
  simp [gk_u0, hne]
theorem gk_no99 : ∀ n, n < 202 → gk_kd n ≠ 99 := by decide +kernel
theorem gk_ln_le : ∀ n, n < 202 → gk_ln n ≤ 4468 := by decide +kernel
/-- what a call leads to -/
def gk_co (xh : Nat → Nat → Option (Nat × Nat)) (K : gk_K) (V : gk_V) (pc : Nat) (L : List (Option Value)) (rest : List Value) (u : Nat) : gk_K := fun o n' fl' x' y' => match o with
    | .inl r => V (pc + 3) L (r.toList ++ rest) n' fl' x' y' u
    | .inr e => match xh pc e with
      | none => K (.inr e) n' fl' x' y'
      | some (hp, li) => V hp (gk_s1 L li none) [] n' fl' x' y' u

set_option maxHeartbeats 4000000 in
set_option maxRecDepth 100000 in
theorem gk_main {p : Program} {l : Launch} {e : Env} {R : Room} {s : State} {m : MethodId} {args : Array Value} {below : List Frame} {meth : Method} {c : Code} {Q : State → Prop} {D : va_G} {cl : Nat → ClassId} {A : Nat → Prop} {n0 : Nat} {ad0 : Nat → Nat} {x0 : gk_X} {nL uf d : Nat} {cc : ByteArray} {own : String} {P : gk_C} {cs : Nat → Option gk_M0} {xh : Nat → Nat → Option (Nat × Nat)} {rt : Option FieldType} {sc : Option Nat} {K : gk_K} {Ts : List Jvm.Cond} (hx : p.tables.exec = Jvm.exec) (hb : c.code = cc) (hml : c.maxLocals = nL) (hown : s.vm.findClass own = some m.cls) (hts : ∀ w ∈ Ts, w.before args s = true) (hU : ∀ ci, ci < 11 → ∀ w ∈ u_ws (gk_R ci) (gk_T ci) (gk_nf ci), w ∈ Ts) (hK : va_K D vwCl (gk_tys cl) s) (hA : ∀ q, s.heap.size ≤ q → A q) (hPf : gk_Pf own P Ts) (hSp : gk_Sp own cs Ts d) (hd1 : d ≤ R.frames) (hd2 : 36 * d ≤ R.locals) (hR1 : uf ≤ R.cells) (hR2 : 16 * uf ≤ R.slots)
    (hini : ∀ ci m2 S, cs 0 = some (99, ci, m2, 0, S) → meth.name = "<init>") (hcap : Jvm.Cond.arrayClass .int ∈ Ts ∧ Jvm.Cond.arrayClass .boolean ∈ Ts ∧ Jvm.Cond.arrayClass .long ∈ Ts ∧ Jvm.Cond.arrayClass .double ∈ Ts) (hao : ∀ ci, ci < 11 → (ci = 3 ∨ ci = 6 ∨ ci = 1 ∨ ci = 4) → va_AO (gk_R ci) s)
    (hstr : ∀ idx q, P.2.2.2.1 idx = some q → ∃ tx, vk_R own idx tx (ad0 (6000 + q)) s)
    (hscr : ∀ Ls, sc = some Ls → ∃ (xs : Nat → Int32), va_X (ad0 5000) Ls xs s s.heap ∧ ad0 5000 < s.heap.size ∧ ¬ A (ad0 5000) ∧ ∀ k, k < Ls → x0 5000 k = xs k)
    (hcall : ∀ idx pc kd ci mm cost S as rest L n fl x y u, decode cc pc = .ok (gk_ik kd idx, 3) → cs idx = some (kd, ci, mm, cost, S) → (rest.map Value.category).sum ≤ 8 → as.length = mm → kd < 5 → gk_rc kd ci n as → (cost = 0 ∨ u + cost ≤ uf) → S as n fl x y (gk_co xh K (gk_VV p l e R s m args below meth c Q D cl A n0 ad0 x0 nL uf) pc L rest (u + cost)) → (gk_VV p l e R s m args below meth c Q D cl A n0 ad0 x0 nL uf) pc L (as.reverse ++ rest) n fl x y u)
    (hthr : ∀ idx is ic q ek pc, decode cc pc = .ok (.new idx, 3) → P.2.2.2.2 idx = some (100 + ek) → decode cc (pc + 3) = .ok (.dup, 1) → gk_tr cc pc is ic → P.2.2.2.1 is = some q → P.2.2.2.2 ic = some (300 + ek) → ∀ L st n fl x y u, (st.map Value.category).sum ≤ 8 → u + 1 ≤ uf → K (.inr ek) n fl x y → (gk_VV p l e R s m args below meth c Q D cl A n0 ad0 x0 nL uf) pc L st n fl x y u)
    (hret : ∀ (i : Instr) len pc r L n fl x y u, decode cc pc = .ok (i, len) → (gk_len i = len ∨ gk_len i = 0) → gk_ret rt i r → K (.inl r) n fl x y → (gk_VV p l e R s m args below meth c Q D cl A n0 ad0 x0 nL uf) pc L r.toList n fl x y u) : gk_W cc P cs xh rt uf sc K (gk_VV p l e R s m args below meth c Q D cl A n0 ad0 x0 nL uf) := by
  intro i len pc hd hlen L st n fl x y u hs
  cases i
  case iconst k =>
    obtain rfl : 1 = len := by rcases hlen with h | h; exact h; exact absurd (show (1 : Nat) = 0 from h) (by decide)
    intro ad H locs ls h1 h2 h3 h4 h5 hP hD hS hL hst
    refine lv_iconst hx hb hd rfl ?_
    exact hs ad H locs ls h1 h2 h3 h4 h5 hP hD hS hL (gk_rvc trivial hst)
  case bipush k =>
    obtain rfl : 2 = len := by rcases hlen with h | h; exact h; exact absurd (show (2 : Nat) = 0 from h) (by decide)
    intro ad H locs ls h1 h2 h3 h4 h5 hP hD hS hL hst
    refine lv_bipush hx hb hd rfl ?_
    exact hs ad H locs ls h1 h2 h3 h4 h5 hP hD hS hL (gk_rvc trivial hst)
  case sipush k =>
    obtain rfl : 3 = len := by rcases hlen with h | h; exact h; exact absurd (show (3 : Nat) = 0 from h) (by decide)
    intro ad H locs ls h1 h2 h3 h4 h5 hP hD hS hL hst
    refine lv_sipush hx hb hd rfl ?_
    exact hs ad H locs ls h1 h2 h3 h4 h5 hP hD hS hL (gk_rvc trivial hst)
  case lconst k =>
    obtain rfl : 1 = len := by rcases hlen with h | h; exact h; exact absurd (show (1 : Nat) = 0 from h) (by decide)
    intro ad H locs ls h1 h2 h3 h4 h5 hP hD hS hL hst
    refine lv_lconst hx hb hd rfl ?_
    exact hs ad H locs ls h1 h2 h3 h4 h5 hP hD hS hL (gk_rvc trivial hst)
  case dconst k =>
    obtain rfl : 1 = len := by rcases hlen with h | h; exact h; exact absurd (show (1 : Nat) = 0 from h) (by decide)
    obtain ⟨rfl, kk⟩ := hs
    intro ad H locs ls h1 h2 h3 h4 h5 hP hD hS hL hst
    refine lv_dconst0 hx hb hd ?_
    exact kk ad H locs ls h1 h2 h3 h4 h5 hP hD hS hL (gk_rvc trivial hst)
  case fconst k =>
    obtain rfl : 1 = len := by rcases hlen with h | h; exact h; exact absurd (show (1 : Nat) = 0 from h) (by decide)
    obtain ⟨rfl, kk⟩ := hs
    intro ad H locs ls h1 h2 h3 h4 h5 hP hD hS hL hst
    refine lv_fconst0 hx hb hd ?_
    exact kk ad H locs ls h1 h2 h3 h4 h5 hP hD hS hL (gk_rvc trivial hst)
  case ldc idx =>
    obtain rfl : 2 = len := by rcases hlen with h | h; exact h; exact absurd (show (2 : Nat) = 0 from h) (by decide)
    rcases hs with ⟨v, hv, kk⟩ | ⟨q, hv, kk⟩
    · intro ad H locs ls h1 h2 h3 h4 h5 hP hD hS hL hst
      refine lv_ldc hx hb hown (hts _ (hPf.2.2.1 _ _ hv)) hd ?_
      exact kk ad H locs ls h1 h2 h3 h4 h5 hP hD hS hL (gk_rvc trivial hst)
    · intro ad H locs ls h1 h2 h3 h4 h5 hP hD hS hL hst
      obtain ⟨tx, hR⟩ := hstr _ _ hv
      have ead : ad (6000 + q) = ad0 (6000 + q) := h1 _ (Or.inr (by omega))
      rw [← ead] at hR
      refine va_ldcS hx hb hown hR hd ?_
      exact kk ad H locs ls h1 h2 h3 h4 h5 hP hD hS hL (gk_rvc (Or.inr (Nat.le_trans (Nat.le_of_ble_eq_true rfl) (Nat.le_add_right 6000 q))) hst)
  case ldc_w idx =>
    obtain rfl : 3 = len := by rcases hlen with h | h; exact h; exact absurd (show (3 : Nat) = 0 from h) (by decide)
    rcases hs with ⟨v, hv, kk⟩ | ⟨q, hv, kk⟩
    · intro ad H locs ls h1 h2 h3 h4 h5 hP hD hS hL hst
      refine lv_ldcw hx hb hown (hts _ (hPf.2.2.1 _ _ hv)) hd ?_
      exact kk ad H locs ls h1 h2 h3 h4 h5 hP hD hS hL (gk_rvc trivial hst)
    · intro ad H locs ls h1 h2 h3 h4 h5 hP hD hS hL hst
      obtain ⟨tx, hR⟩ := hstr _ _ hv
      have ead : ad (6000 + q) = ad0 (6000 + q) := h1 _ (Or.inr (by omega))
      rw [← ead] at hR
      refine gk_ldcSw hx hb hown hR hd ?_
      exact kk ad H locs ls h1 h2 h3 h4 h5 hP hD hS hL (gk_rvc (Or.inr (Nat.le_trans (Nat.le_of_ble_eq_true rfl) (Nat.le_add_right 6000 q))) hst)
  case ldc2_w idx =>
    obtain rfl : 3 = len := by rcases hlen with h | h; exact h; exact absurd (show (3 : Nat) = 0 from h) (by decide)
    obtain ⟨v, hv, kk⟩ := hs
    intro ad H locs ls h1 h2 h3 h4 h5 hP hD hS hL hst
    refine lv_ldc2 hx hb hown (hts _ (hPf.2.1 _ _ hv)) hd ?_
    exact kk ad H locs ls h1 h2 h3 h4 h5 hP hD hS hL (gk_rvc trivial hst)
  case iload k =>
    obtain rfl : 2 = len := by rcases hlen with h | h; exact h; exact absurd (show (2 : Nat) = 0 from h) (by decide)
    obtain ⟨v, hv, kk⟩ := hs
    intro ad H locs ls h1 h2 h3 h4 h5 hP hD hS hL hst
    refine lv_iload hx hb hd (hL.2.2.2 _ _ hv).1 ?_
    exact kk ad H locs ls h1 h2 h3 h4 h5 hP hD hS hL (gk_rvc (hL.2.2.2 _ _ hv).2 hst)
  case iload_n k =>
    obtain rfl : 1 = len := by rcases hlen with h | h; exact h; exact absurd (show (1 : Nat) = 0 from h) (by decide)
    obtain ⟨v, hv, kk⟩ := hs
    intro ad H locs ls h1 h2 h3 h4 h5 hP hD hS hL hst
    refine lv_iload_n hx hb hd rfl (hL.2.2.2 _ _ hv).1 ?_
    exact kk ad H locs ls h1 h2 h3 h4 h5 hP hD hS hL (gk_rvc (hL.2.2.2 _ _ hv).2 hst)
  case lload k =>
    obtain rfl : 2 = len := by rcases hlen with h | h; exact h; exact absurd (show (2 : Nat) = 0 from h) (by decide)
    obtain ⟨v, hv, kk⟩ := hs
    intro ad H locs ls h1 h2 h3 h4 h5 hP hD hS hL hst
    refine lv_lload hx hb hd (hL.2.2.2 _ _ hv).1 ?_
    exact kk ad H locs ls h1 h2 h3 h4 h5 hP hD hS hL (gk_rvc (hL.2.2.2 _ _ hv).2 hst)
  case lload_n k =>
    obtain rfl : 1 = len := by rcases hlen with h | h; exact h; exact absurd (show (1 : Nat) = 0 from h) (by decide)
    obtain ⟨v, hv, kk⟩ := hs
    intro ad H locs ls h1 h2 h3 h4 h5 hP hD hS hL hst
    refine lv_lload_n hx hb hd rfl (hL.2.2.2 _ _ hv).1 ?_
    exact kk ad H locs ls h1 h2 h3 h4 h5 hP hD hS hL (gk_rvc (hL.2.2.2 _ _ hv).2 hst)
  case dload k =>
    obtain rfl : 2 = len := by rcases hlen with h | h; exact h; exact absurd (show (2 : Nat) = 0 from h) (by decide)
    obtain ⟨v, hv, kk⟩ := hs
    intro ad H locs ls h1 h2 h3 h4 h5 hP hD hS hL hst
    refine lv_dload hx hb hd (hL.2.2.2 _ _ hv).1 ?_
    exact kk ad H locs ls h1 h2 h3 h4 h5 hP hD hS hL (gk_rvc (hL.2.2.2 _ _ hv).2 hst)
  case dload_n k =>
    obtain rfl : 1 = len := by rcases hlen with h | h; exact h; exact absurd (show (1 : Nat) = 0 from h) (by decide)
    obtain ⟨v, hv, kk⟩ := hs
    intro ad H locs ls h1 h2 h3 h4 h5 hP hD hS hL hst
    refine lv_dload_n hx hb hd rfl (hL.2.2.2 _ _ hv).1 ?_
    exact kk ad H locs ls h1 h2 h3 h4 h5 hP hD hS hL (gk_rvc (hL.2.2.2 _ _ hv).2 hst)
  case aload k =>
    obtain rfl : 2 = len := by rcases hlen with h | h; exact h; exact absurd (show (2 : Nat) = 0 from h) (by decide)
    obtain ⟨v, hv, kk⟩ := hs
    intro ad H locs ls h1 h2 h3 h4 h5 hP hD hS hL hst
    refine lv_aload hx hb hd (hL.2.2.2 _ _ hv).1 ?_
    exact kk ad H locs ls h1 h2 h3 h4 h5 hP hD hS hL (gk_rvc (hL.2.2.2 _ _ hv).2 hst)
  case aload_n k =>
    obtain rfl : 1 = len := by rcases hlen with h | h; exact h; exact absurd (show (1 : Nat) = 0 from h) (by decide)
    obtain ⟨v, hv, kk⟩ := hs
    intro ad H locs ls h1 h2 h3 h4 h5 hP hD hS hL hst
    refine lv_aload_n hx hb hd rfl (hL.2.2.2 _ _ hv).1 ?_
    exact kk ad H locs ls h1 h2 h3 h4 h5 hP hD hS hL (gk_rvc (hL.2.2.2 _ _ hv).2 hst)
  case fload k =>
    obtain rfl : 2 = len := by rcases hlen with h | h; exact h; exact absurd (show (2 : Nat) = 0 from h) (by decide)
    obtain ⟨v, hv, kk⟩ := hs
    intro ad H locs ls h1 h2 h3 h4 h5 hP hD hS hL hst
    refine lv_fload hx hb hd (hL.2.2.2 _ _ hv).1 ?_
    exact kk ad H locs ls h1 h2 h3 h4 h5 hP hD hS hL (gk_rvc (hL.2.2.2 _ _ hv).2 hst)
  case istore k =>
    obtain rfl : 2 = len := by rcases hlen with h | h; exact h; exact absurd (show (2 : Nat) = 0 from h) (by decide)
    obtain ⟨v, r, rfl, hk, kk⟩ := hs
    intro ad H locs ls h1 h2 h3 h4 h5 hP hD hS hL hst
    refine lv_istore hx hb hd (gk_L_has hL) (by rw [← hL.2.1]; exact hk) rfl (fun ls2 hl2 => ?_)
    exact kk ad H locs ls2 h1 h2 h3 h4 h5 hP hD hS (gk_L_s1 hL (fun w e => by cases e; exact ⟨rfl, gk_rvh hst⟩) hl2) (gk_rvt hst)
  case istore_n k =>
    obtain rfl : 1 = len := by rcases hlen with h | h; exact h; exact absurd (show (1 : Nat) = 0 from h) (by decide)
    obtain ⟨v, r, rfl, hk, kk⟩ := hs
    intro ad H locs ls h1 h2 h3 h4 h5 hP hD hS hL hst
    refine lv_istore_n hx hb hd rfl (gk_L_has hL) (by rw [← hL.2.1]; exact hk) rfl (fun ls2 hl2 => ?_)
    exact kk ad H locs ls2 h1 h2 h3 h4 h5 hP hD hS (gk_L_s1 hL (fun w e => by cases e; exact ⟨rfl, gk_rvh hst⟩) hl2) (gk_rvt hst)
  case lstore k =>
    obtain rfl : 2 = len := by rcases hlen with h | h; exact h; exact absurd (show (2 : Nat) = 0 from h) (by decide)
    obtain ⟨v, r, rfl, hk, kk⟩ := hs
    intro ad H locs ls h1 h2 h3 h4 h5 hP hD hS hL hst
    refine lv_lstore hx hb hd (gk_L_has hL) (by rw [← hL.2.1]; exact hk) rfl (fun ls2 hl2 => ?_)
    exact kk ad H locs ls2 h1 h2 h3 h4 h5 hP hD hS (gk_L_s2 hL (fun w e => by cases e; exact ⟨rfl, gk_rvh hst⟩) hl2) (gk_rvt hst)
  case lstore_n k =>
    obtain rfl : 1 = len := by rcases hlen with h | h; exact h; exact absurd (show (1 : Nat) = 0 from h) (by decide)
    obtain ⟨v, r, rfl, hk, kk⟩ := hs
    intro ad H locs ls h1 h2 h3 h4 h5 hP hD hS hL hst
    refine lv_lstore_n hx hb hd rfl (gk_L_has hL) (by rw [← hL.2.1]; exact hk) rfl (fun ls2 hl2 => ?_)
    exact kk ad H locs ls2 h1 h2 h3 h4 h5 hP hD hS (gk_L_s2 hL (fun w e => by cases e; exact ⟨rfl, gk_rvh hst⟩) hl2) (gk_rvt hst)
  case dstore k =>
    obtain rfl : 2 = len := by rcases hlen with h | h; exact h; exact absurd (show (2 : Nat) = 0 from h) (by decide)
    obtain ⟨v, r, rfl, hk, kk⟩ := hs
    intro ad H locs ls h1 h2 h3 h4 h5 hP hD hS hL hst
    refine lv_dstore hx hb hd (gk_L_has hL) (by rw [← hL.2.1]; exact hk) rfl (fun ls2 hl2 => ?_)
    exact kk ad H locs ls2 h1 h2 h3 h4 h5 hP hD hS (gk_L_s2 hL (fun w e => by cases e; exact ⟨rfl, gk_rvh hst⟩) hl2) (gk_rvt hst)
  case dstore_n k =>
    obtain rfl : 1 = len := by rcases hlen with h | h; exact h; exact absurd (show (1 : Nat) = 0 from h) (by decide)
    obtain ⟨v, r, rfl, hk, kk⟩ := hs
    intro ad H locs ls h1 h2 h3 h4 h5 hP hD hS hL hst
    refine lv_dstore_n hx hb hd rfl (gk_L_has hL) (by rw [← hL.2.1]; exact hk) rfl (fun ls2 hl2 => ?_)
    exact kk ad H locs ls2 h1 h2 h3 h4 h5 hP hD hS (gk_L_s2 hL (fun w e => by cases e; exact ⟨rfl, gk_rvh hst⟩) hl2) (gk_rvt hst)
  case astore k =>
    obtain rfl : 2 = len := by rcases hlen with h | h; exact h; exact absurd (show (2 : Nat) = 0 from h) (by decide)
    obtain ⟨v, r, rfl, hk, kk⟩ := hs
    intro ad H locs ls h1 h2 h3 h4 h5 hP hD hS hL hst
    refine lv_astore hx hb hd (gk_L_has hL) (by rw [← hL.2.1]; exact hk) rfl (fun ls2 hl2 => ?_)
    exact kk ad H locs ls2 h1 h2 h3 h4 h5 hP hD hS (gk_L_s1 hL (fun w e => by cases e; exact ⟨rfl, gk_rvh hst⟩) hl2) (gk_rvt hst)
  case astore_n k =>
    obtain rfl : 1 = len := by rcases hlen with h | h; exact h; exact absurd (show (1 : Nat) = 0 from h) (by decide)
    obtain ⟨v, r, rfl, hk, kk⟩ := hs
    intro ad H locs ls h1 h2 h3 h4 h5 hP hD hS hL hst
    refine lv_astore_n hx hb hd rfl (gk_L_has hL) (by rw [← hL.2.1]; exact hk) rfl (fun ls2 hl2 => ?_)
    exact kk ad H locs ls2 h1 h2 h3 h4 h5 hP hD hS (gk_L_s1 hL (fun w e => by cases e; exact ⟨rfl, gk_rvh hst⟩) hl2) (gk_rvt hst)
  case fstore k =>
    obtain rfl : 2 = len := by rcases hlen with h | h; exact h; exact absurd (show (2 : Nat) = 0 from h) (by decide)
    obtain ⟨v, r, rfl, hk, kk⟩ := hs
    intro ad H locs ls h1 h2 h3 h4 h5 hP hD hS hL hst
    refine lv_fstore hx hb hd (gk_L_has hL) (by rw [← hL.2.1]; exact hk) rfl (fun ls2 hl2 => ?_)
    exact kk ad H locs ls2 h1 h2 h3 h4 h5 hP hD hS (gk_L_s1 hL (fun w e => by cases e; exact ⟨rfl, gk_rvh hst⟩) hl2) (gk_rvt hst)
  case iinc k d2 =>
    obtain rfl : 3 = len := by rcases hlen with h | h; exact h; exact absurd (show (3 : Nat) = 0 from h) (by decide)
    obtain ⟨v, hv, hk, kk⟩ := hs
    intro ad H locs ls h1 h2 h3 h4 h5 hP hD hS hL hst
    obtain ⟨k0, hk0⟩ := List.getElem?_of_mem (gk_lp_mem (ad := ad) hv)
    refine lv_iinc (k := k0) (x := v) hx hb hd (gk_L_has hL) hk0 rfl (by rw [← hL.2.1]; exact hk) rfl (fun ls2 hl2 => ?_)
    exact kk ad H locs ls2 h1 h2 h3 h4 h5 hP hD hS (gk_L_s1 hL (fun w e => by cases e; exact ⟨rfl, trivial⟩) hl2) hst
  case iadd =>
    obtain rfl : 1 = len := by rcases hlen with h | h; exact h; exact absurd (show (1 : Nat) = 0 from h) (by decide)
    obtain ⟨a, b, r, rfl, kk⟩ := hs
    intro ad H locs ls h1 h2 h3 h4 h5 hP hD hS hL hst
    refine lv_iadd hx hb hd ?_
    exact kk ad H locs ls h1 h2 h3 h4 h5 hP hD hS hL (gk_rvc trivial (gk_rvt (gk_rvt hst)))
  case isub =>
    obtain rfl : 1 = len := by rcases hlen with h | h; exact h; exact absurd (show (1 : Nat) = 0 from h) (by decide)
    obtain ⟨a, b, r, rfl, kk⟩ := hs
    intro ad H locs ls h1 h2 h3 h4 h5 hP hD hS hL hst
    refine lv_isub hx hb hd ?_
    exact kk ad H locs ls h1 h2 h3 h4 h5 hP hD hS hL (gk_rvc trivial (gk_rvt (gk_rvt hst)))
  case imul =>
    obtain rfl : 1 = len := by rcases hlen with h | h; exact h; exact absurd (show (1 : Nat) = 0 from h) (by decide)
    obtain ⟨a, b, r, rfl, kk⟩ := hs
    intro ad H locs ls h1 h2 h3 h4 h5 hP hD hS hL hst
    refine lv_imul hx hb hd ?_
    exact kk ad H locs ls h1 h2 h3 h4 h5 hP hD hS hL (gk_rvc trivial (gk_rvt (gk_rvt hst)))
  case iand =>
    obtain rfl : 1 = len := by rcases hlen with h | h; exact h; exact absurd (show (1 : Nat) = 0 from h) (by decide)
    obtain ⟨a, b, r, rfl, kk⟩ := hs
    intro ad H locs ls h1 h2 h3 h4 h5 hP hD hS hL hst
    refine lv_iand hx hb hd ?_
    exact kk ad H locs ls h1 h2 h3 h4 h5 hP hD hS hL (gk_rvc trivial (gk_rvt (gk_rvt hst)))
  case ior =>
    obtain rfl : 1 = len := by rcases hlen with h | h; exact h; exact absurd (show (1 : Nat) = 0 from h) (by decide)
    obtain ⟨a, b, r, rfl, kk⟩ := hs
    intro ad H locs ls h1 h2 h3 h4 h5 hP hD hS hL hst
    refine lv_ior hx hb hd ?_
    exact kk ad H locs ls h1 h2 h3 h4 h5 hP hD hS hL (gk_rvc trivial (gk_rvt (gk_rvt hst)))
  case ixor =>
    obtain rfl : 1 = len := by rcases hlen with h | h; exact h; exact absurd (show (1 : Nat) = 0 from h) (by decide)
    obtain ⟨a, b, r, rfl, kk⟩ := hs
    intro ad H locs ls h1 h2 h3 h4 h5 hP hD hS hL hst
    refine lv_ixor hx hb hd ?_
    exact kk ad H locs ls h1 h2 h3 h4 h5 hP hD hS hL (gk_rvc trivial (gk_rvt (gk_rvt hst)))
  case ishl =>
    obtain rfl : 1 = len := by rcases hlen with h | h; exact h; exact absurd (show (1 : Nat) = 0 from h) (by decide)
    obtain ⟨a, b, r, rfl, kk⟩ := hs
    intro ad H locs ls h1 h2 h3 h4 h5 hP hD hS hL hst
    refine lv_ishl hx hb hd ?_
    exact kk ad H locs ls h1 h2 h3 h4 h5 hP hD hS hL (gk_rvc trivial (gk_rvt (gk_rvt hst)))
  case ishr =>
    obtain rfl : 1 = len := by rcases hlen with h | h; exact h; exact absurd (show (1 : Nat) = 0 from h) (by decide)
    obtain ⟨a, b, r, rfl, kk⟩ := hs
    intro ad H locs ls h1 h2 h3 h4 h5 hP hD hS hL hst
    refine lv_ishr hx hb hd ?_
    exact kk ad H locs ls h1 h2 h3 h4 h5 hP hD hS hL (gk_rvc trivial (gk_rvt (gk_rvt hst)))
  case ladd =>
    obtain rfl : 1 = len := by rcases hlen with h | h; exact h; exact absurd (show (1 : Nat) = 0 from h) (by decide)
    obtain ⟨a, b, r, rfl, kk⟩ := hs
    intro ad H locs ls h1 h2 h3 h4 h5 hP hD hS hL hst
    refine lv_ladd hx hb hd ?_
    exact kk ad H locs ls h1 h2 h3 h4 h5 hP hD hS hL (gk_rvc trivial (gk_rvt (gk_rvt hst)))
  case lsub =>
    obtain rfl : 1 = len := by rcases hlen with h | h; exact h; exact absurd (show (1 : Nat) = 0 from h) (by decide)
    obtain ⟨a, b, r, rfl, kk⟩ := hs
    intro ad H locs ls h1 h2 h3 h4 h5 hP hD hS hL hst
    refine lv_lsub hx hb hd ?_
    exact kk ad H locs ls h1 h2 h3 h4 h5 hP hD hS hL (gk_rvc trivial (gk_rvt (gk_rvt hst)))
  case lmul =>
    obtain rfl : 1 = len := by rcases hlen with h | h; exact h; exact absurd (show (1 : Nat) = 0 from h) (by decide)
    obtain ⟨a, b, r, rfl, kk⟩ := hs
    intro ad H locs ls h1 h2 h3 h4 h5 hP hD hS hL hst
    refine lv_lmul hx hb hd ?_
    exact kk ad H locs ls h1 h2 h3 h4 h5 hP hD hS hL (gk_rvc trivial (gk_rvt (gk_rvt hst)))
  case idiv =>
    obtain rfl : 1 = len := by rcases hlen with h | h; exact h; exact absurd (show (1 : Nat) = 0 from h) (by decide)
    obtain ⟨a, b, r, rfl, hz, kk⟩ := hs
    intro ad H locs ls h1 h2 h3 h4 h5 hP hD hS hL hst
    refine lv_idiv hx hb hd hz ?_
    exact kk ad H locs ls h1 h2 h3 h4 h5 hP hD hS hL (gk_rvc trivial (gk_rvt (gk_rvt hst)))
  case irem =>
    obtain rfl : 1 = len := by rcases hlen with h | h; exact h; exact absurd (show (1 : Nat) = 0 from h) (by decide)
    obtain ⟨a, b, r, rfl, hz, kk⟩ := hs
    intro ad H locs ls h1 h2 h3 h4 h5 hP hD hS hL hst
    refine lv_irem hx hb hd hz ?_
    exact kk ad H locs ls h1 h2 h3 h4 h5 hP hD hS hL (gk_rvc trivial (gk_rvt (gk_rvt hst)))
  case ldiv =>
    obtain rfl : 1 = len := by rcases hlen with h | h; exact h; exact absurd (show (1 : Nat) = 0 from h) (by decide)
    obtain ⟨a, b, r, rfl, hz, kk⟩ := hs
    intro ad H locs ls h1 h2 h3 h4 h5 hP hD hS hL hst
    refine lv_ldiv hx hb hd hz ?_
    exact kk ad H locs ls h1 h2 h3 h4 h5 hP hD hS hL (gk_rvc trivial (gk_rvt (gk_rvt hst)))
  case lrem =>
    obtain rfl : 1 = len := by rcases hlen with h | h; exact h; exact absurd (show (1 : Nat) = 0 from h) (by decide)
    obtain ⟨a, b, r, rfl, hz, kk⟩ := hs
    intro ad H locs ls h1 h2 h3 h4 h5 hP hD hS hL hst
    refine lv_lrem hx hb hd hz ?_
    exact kk ad H locs ls h1 h2 h3 h4 h5 hP hD hS hL (gk_rvc trivial (gk_rvt (gk_rvt hst)))
  case dmul =>
    obtain rfl : 1 = len := by rcases hlen with h | h; exact h; exact absurd (show (1 : Nat) = 0 from h) (by decide)
    obtain ⟨a, b, r, rfl, hz, kk⟩ := hs
    intro ad H locs ls h1 h2 h3 h4 h5 hP hD hS hL hst
    refine lv_dmul hx hb hd hz ?_
    exact kk ad H locs ls h1 h2 h3 h4 h5 hP hD hS hL (gk_rvc trivial (gk_rvt (gk_rvt hst)))
  case ddiv =>
    obtain rfl : 1 = len := by rcases hlen with h | h; exact h; exact absurd (show (1 : Nat) = 0 from h) (by decide)
    obtain ⟨a, b, r, rfl, hz, kk⟩ := hs
    intro ad H locs ls h1 h2 h3 h4 h5 hP hD hS hL hst
    refine lv_ddiv hx hb hd hz ?_
    exact kk ad H locs ls h1 h2 h3 h4 h5 hP hD hS hL (gk_rvc trivial (gk_rvt (gk_rvt hst)))
  case lshr =>
    obtain rfl : 1 = len := by rcases hlen with h | h; exact h; exact absurd (show (1 : Nat) = 0 from h) (by decide)
    obtain ⟨a, b, r, rfl, kk⟩ := hs
    intro ad H locs ls h1 h2 h3 h4 h5 hP hD hS hL hst
    refine lv_lshr hx hb hd rfl ?_
    exact kk ad H locs ls h1 h2 h3 h4 h5 hP hD hS hL (gk_rvc trivial (gk_rvt (gk_rvt hst)))
  case lcmp =>
    obtain rfl : 1 = len := by rcases hlen with h | h; exact h; exact absurd (show (1 : Nat) = 0 from h) (by decide)
    obtain ⟨a, b, r, rfl, kk⟩ := hs
    intro ad H locs ls h1 h2 h3 h4 h5 hP hD hS hL hst
    refine W.lcmp hx hb hd ?_
    exact kk ad H locs ls h1 h2 h3 h4 h5 hP hD hS hL (gk_rvc trivial (gk_rvt (gk_rvt hst)))
  case dcmp op =>
    obtain rfl : 1 = len := by rcases hlen with h | h; exact h; exact absurd (show (1 : Nat) = 0 from h) (by decide)
    obtain ⟨a, b, r, rfl, kk⟩ := hs
    intro ad H locs ls h1 h2 h3 h4 h5 hP hD hS hL hst
    refine lv_dcmp hx hb hd ?_
    exact kk ad H locs ls h1 h2 h3 h4 h5 hP hD hS hL (gk_rvc trivial (gk_rvt (gk_rvt hst)))
  case fcmp op =>
    obtain rfl : 1 = len := by rcases hlen with h | h; exact h; exact absurd (show (1 : Nat) = 0 from h) (by decide)
    obtain ⟨a, b, r, rfl, kk⟩ := hs
    intro ad H locs ls h1 h2 h3 h4 h5 hP hD hS hL hst
    refine lv_fcmp hx hb hd ?_
    exact kk ad H locs ls h1 h2 h3 h4 h5 hP hD hS hL (gk_rvc trivial (gk_rvt (gk_rvt hst)))
  case ineg =>
    obtain rfl : 1 = len := by rcases hlen with h | h; exact h; exact absurd (show (1 : Nat) = 0 from h) (by decide)
    obtain ⟨a, r, rfl, kk⟩ := hs
    intro ad H locs ls h1 h2 h3 h4 h5 hP hD hS hL hst
    refine lv_ineg hx hb hd ?_
    exact kk ad H locs ls h1 h2 h3 h4 h5 hP hD hS hL (gk_rvc trivial (gk_rvt hst))
  case i2l =>
    obtain rfl : 1 = len := by rcases hlen with h | h; exact h; exact absurd (show (1 : Nat) = 0 from h) (by decide)
    obtain ⟨a, r, rfl, kk⟩ := hs
    intro ad H locs ls h1 h2 h3 h4 h5 hP hD hS hL hst
    refine lv_i2l hx hb hd rfl ?_
    exact kk ad H locs ls h1 h2 h3 h4 h5 hP hD hS hL (gk_rvc trivial (gk_rvt hst))
  case l2i =>
    obtain rfl : 1 = len := by rcases hlen with h | h; exact h; exact absurd (show (1 : Nat) = 0 from h) (by decide)
    obtain ⟨a, r, rfl, kk⟩ := hs
    intro ad H locs ls h1 h2 h3 h4 h5 hP hD hS hL hst
    refine lv_l2i hx hb hd rfl ?_
    exact kk ad H locs ls h1 h2 h3 h4 h5 hP hD hS hL (gk_rvc trivial (gk_rvt hst))
  case i2c =>
    obtain rfl : 1 = len := by rcases hlen with h | h; exact h; exact absurd (show (1 : Nat) = 0 from h) (by decide)
    obtain ⟨a, r, rfl, kk⟩ := hs
    intro ad H locs ls h1 h2 h3 h4 h5 hP hD hS hL hst
    refine lv_i2c hx hb hd rfl ?_
    exact kk ad H locs ls h1 h2 h3 h4 h5 hP hD hS hL (gk_rvc trivial (gk_rvt hst))
  case i2d =>
    obtain rfl : 1 = len := by rcases hlen with h | h; exact h; exact absurd (show (1 : Nat) = 0 from h) (by decide)
    obtain ⟨a, r, rfl, kk⟩ := hs
    intro ad H locs ls h1 h2 h3 h4 h5 hP hD hS hL hst
    refine lv_i2d hx hb hd ?_
    exact kk ad H locs ls h1 h2 h3 h4 h5 hP hD hS hL (gk_rvc trivial (gk_rvt hst))
  case l2d =>
    obtain rfl : 1 = len := by rcases hlen with h | h; exact h; exact absurd (show (1 : Nat) = 0 from h) (by decide)
    obtain ⟨a, r, rfl, kk⟩ := hs
    intro ad H locs ls h1 h2 h3 h4 h5 hP hD hS hL hst
    refine lv_l2d hx hb hd ?_
    exact kk ad H locs ls h1 h2 h3 h4 h5 hP hD hS hL (gk_rvc trivial (gk_rvt hst))
  case d2f =>
    obtain rfl : 1 = len := by rcases hlen with h | h; exact h; exact absurd (show (1 : Nat) = 0 from h) (by decide)
    obtain ⟨a, r, rfl, hz, kk⟩ := hs
    intro ad H locs ls h1 h2 h3 h4 h5 hP hD hS hL hst
    refine lv_d2f hx hb hd hz ?_
    exact kk ad H locs ls h1 h2 h3 h4 h5 hP hD hS hL (gk_rvc trivial (gk_rvt hst))
  case f2d =>
    obtain rfl : 1 = len := by rcases hlen with h | h; exact h; exact absurd (show (1 : Nat) = 0 from h) (by decide)
    obtain ⟨a, r, rfl, hz, kk⟩ := hs
    intro ad H locs ls h1 h2 h3 h4 h5 hP hD hS hL hst
    refine lv_f2d hx hb hd hz ?_
    exact kk ad H locs ls h1 h2 h3 h4 h5 hP hD hS hL (gk_rvc trivial (gk_rvt hst))
  case dup =>
    obtain rfl : 1 = len := by rcases hlen with h | h; exact h; exact absurd (show (1 : Nat) = 0 from h) (by decide)
    obtain ⟨a, r, rfl, hc, kk⟩ := hs
    intro ad H locs ls h1 h2 h3 h4 h5 hP hD hS hL hst
    refine lv_dup hx hb hd (by rw [gk_cz_cat]; exact hc) ?_
    exact kk ad H locs ls h1 h2 h3 h4 h5 hP hD hS hL (gk_rvc (gk_rvh hst) hst)
  case pop =>
    obtain rfl : 1 = len := by rcases hlen with h | h; exact h; exact absurd (show (1 : Nat) = 0 from h) (by decide)
    obtain ⟨a, r, rfl, hc, kk⟩ := hs
    intro ad H locs ls h1 h2 h3 h4 h5 hP hD hS hL hst
    refine lv_pop hx hb hd (by rw [gk_cz_cat]; exact hc) ?_
    exact kk ad H locs ls h1 h2 h3 h4 h5 hP hD hS hL (gk_rvt hst)
  case dup2 =>
    obtain rfl : 1 = len := by rcases hlen with h | h; exact h; exact absurd (show (1 : Nat) = 0 from h) (by decide)
    rcases hs with ⟨a, b, r, rfl, hc, hc2, kk⟩ | ⟨a, r, rfl, hc, kk⟩
    · intro ad H locs ls h1 h2 h3 h4 h5 hP hD hS hL hst
      refine lv_dup2_11 hx hb hd (by rw [gk_cz_cat]; exact hc) (by rw [gk_cz_cat]; exact hc2) ?_
      exact kk ad H locs ls h1 h2 h3 h4 h5 hP hD hS hL (gk_rvc (gk_rvh hst) (gk_rvc (gk_rvh (gk_rvt hst)) hst))
    · intro ad H locs ls h1 h2 h3 h4 h5 hP hD hS hL hst
      refine lv_dup2_2 hx hb hd (by rw [gk_cz_cat]; exact hc) ?_
      exact kk ad H locs ls h1 h2 h3 h4 h5 hP hD hS hL (gk_rvc (gk_rvh hst) hst)
  case ifCond cd off =>
    obtain rfl : 3 = len := by rcases hlen with h | h; exact h; exact absurd (show (3 : Nat) = 0 from h) (by decide)
    obtain ⟨a, r, tgt, rfl, ht, kt, kf⟩ := hs
    intro ad H locs ls h1 h2 h3 h4 h5 hP hD hS hL hst
    cases cd
    case eq =>
      refine lv_if_eq hx hb hd ht (fun q => kt ?_ ad H locs ls h1 h2 h3 h4 h5 hP hD hS hL (gk_rvt hst)) (fun q => kf ?_ ad H locs ls h1 h2 h3 h4 h5 hP hD hS hL (gk_rvt hst))
      all_goals first | exact q | exact fun z => z q | exact fun z => q z | (simp only [gk_c0] ; first | exact q | exact fun z => z q | (intro z; exact q z))
    case ne =>
      refine lv_if_ne hx hb hd ht (fun q => kt ?_ ad H locs ls h1 h2 h3 h4 h5 hP hD hS hL (gk_rvt hst)) (fun q => kf ?_ ad H locs ls h1 h2 h3 h4 h5 hP hD hS hL (gk_rvt hst))
      all_goals first | exact q | exact fun z => z q | exact fun z => q z | (simp only [gk_c0] ; first | exact q | exact fun z => z q | (intro z; exact q z))
    case lt =>
      refine lv_if_lt hx hb hd ht (fun q => kt ?_ ad H locs ls h1 h2 h3 h4 h5 hP hD hS hL (gk_rvt hst)) (fun q => kf ?_ ad H locs ls h1 h2 h3 h4 h5 hP hD hS hL (gk_rvt hst))
      all_goals first | exact q | exact fun z => z q | exact fun z => q z | (simp only [gk_c0] ; first | exact q | exact fun z => z q | (intro z; exact q z))
    case ge =>
      refine lv_if_ge hx hb hd ht (fun q => kt ?_ ad H locs ls h1 h2 h3 h4 h5 hP hD hS hL (gk_rvt hst)) (fun q => kf ?_ ad H locs ls h1 h2 h3 h4 h5 hP hD hS hL (gk_rvt hst))
      all_goals first | exact q | exact fun z => z q | exact fun z => q z | (simp only [gk_c0] ; first | exact q | exact fun z => z q | (intro z; exact q z))
    case gt =>
      refine lv_if_gt hx hb hd ht (fun q => kt ?_ ad H locs ls h1 h2 h3 h4 h5 hP hD hS hL (gk_rvt hst)) (fun q => kf ?_ ad H locs ls h1 h2 h3 h4 h5 hP hD hS hL (gk_rvt hst))
      all_goals first | exact q | exact fun z => z q | exact fun z => q z | (simp only [gk_c0] ; first | exact q | exact fun z => z q | (intro z; exact q z))
    case le =>
      refine lv_if_le hx hb hd ht (fun q => kt ?_ ad H locs ls h1 h2 h3 h4 h5 hP hD hS hL (gk_rvt hst)) (fun q => kf ?_ ad H locs ls h1 h2 h3 h4 h5 hP hD hS hL (gk_rvt hst))
      all_goals first | exact q | exact fun z => z q | exact fun z => q z | (simp only [gk_c0] ; first | exact q | exact fun z => z q | (intro z; exact q z))
  case if_icmp cd off =>
    obtain rfl : 3 = len := by rcases hlen with h | h; exact h; exact absurd (show (3 : Nat) = 0 from h) (by decide)
    obtain ⟨a, b, r, tgt, rfl, ht, kt, kf⟩ := hs
    intro ad H locs ls h1 h2 h3 h4 h5 hP hD hS hL hst
    cases cd
    case eq =>
      refine lv_icmp_eq hx hb hd ht (fun q => kt ?_ ad H locs ls h1 h2 h3 h4 h5 hP hD hS hL (gk_rvt (gk_rvt hst))) (fun q => kf ?_ ad H locs ls h1 h2 h3 h4 h5 hP hD hS hL (gk_rvt (gk_rvt hst)))
      all_goals first | exact q | exact fun z => z q | exact fun z => q z | (simp only [gk_c0] ; first | exact q | exact fun z => z q | (intro z; exact q z))
    case ne =>
      refine lv_icmp_ne hx hb hd ht (fun q => kt ?_ ad H locs ls h1 h2 h3 h4 h5 hP hD hS hL (gk_rvt (gk_rvt hst))) (fun q => kf ?_ ad H locs ls h1 h2 h3 h4 h5 hP hD hS hL (gk_rvt (gk_rvt hst)))
      all_goals first | exact q | exact fun z => z q | exact fun z => q z | (simp only [gk_c0] ; first | exact q | exact fun z => z q | (intro z; exact q z))
    case lt =>
      refine lv_icmp_lt hx hb hd ht (fun q => kt ?_ ad H locs ls h1 h2 h3 h4 h5 hP hD hS hL (gk_rvt (gk_rvt hst))) (fun q => kf ?_ ad H locs ls h1 h2 h3 h4 h5 hP hD hS hL (gk_rvt (gk_rvt hst)))
      all_goals first | exact q | exact fun z => z q | exact fun z => q z | (simp only [gk_c0] ; first | exact q | exact fun z => z q | (intro z; exact q z))
    case ge =>
      refine lv_icmp_ge hx hb hd ht (fun q => kt ?_ ad H locs ls h1 h2 h3 h4 h5 hP hD hS hL (gk_rvt (gk_rvt hst))) (fun q => kf ?_ ad H locs ls h1 h2 h3 h4 h5 hP hD hS hL (gk_rvt (gk_rvt hst)))
      all_goals first | exact q | exact fun z => z q | exact fun z => q z | (simp only [gk_c0] ; first | exact q | exact fun z => z q | (intro z; exact q z))
    case gt =>
      refine lv_icmp_gt hx hb hd ht (fun q => kt ?_ ad H locs ls h1 h2 h3 h4 h5 hP hD hS hL (gk_rvt (gk_rvt hst))) (fun q => kf ?_ ad H locs ls h1 h2 h3 h4 h5 hP hD hS hL (gk_rvt (gk_rvt hst)))
      all_goals first | exact q | exact fun z => z q | exact fun z => q z | (simp only [gk_c0] ; first | exact q | exact fun z => z q | (intro z; exact q z))
    case le =>
      refine lv_icmp_le hx hb hd ht (fun q => kt ?_ ad H locs ls h1 h2 h3 h4 h5 hP hD hS hL (gk_rvt (gk_rvt hst))) (fun q => kf ?_ ad H locs ls h1 h2 h3 h4 h5 hP hD hS hL (gk_rvt (gk_rvt hst)))
      all_goals first | exact q | exact fun z => z q | exact fun z => q z | (simp only [gk_c0] ; first | exact q | exact fun z => z q | (intro z; exact q z))
  case goto off =>
    obtain rfl : 3 = len := by rcases hlen with h | h; exact h; exact absurd (show (3 : Nat) = 0 from h) (by decide)
    obtain ⟨tgt, ht, kk⟩ := hs
    intro ad H locs ls h1 h2 h3 h4 h5 hP hD hS hL hst
    refine lv_goto hx hb hd ht ?_
    exact kk ad H locs ls h1 h2 h3 h4 h5 hP hD hS hL hst
  case tableswitch dflt lo hi offs =>
    obtain ⟨a, r, rfl, ⟨tgt, off, q1, q2, q3, q4, kk⟩ | ⟨tgt, q1, q2, kk⟩⟩ := hs
    · intro ad H locs ls h1 h2 h3 h4 h5 hP hD hS hL hst
      refine lv_tableIn hx hb hd q1 q2 q3 q4 ?_
      exact kk ad H locs ls h1 h2 h3 h4 h5 hP hD hS hL (gk_rvt hst)
    · intro ad H locs ls h1 h2 h3 h4 h5 hP hD hS hL hst
      refine lv_tableOut hx hb hd q1 q2 ?_
      exact kk ad H locs ls h1 h2 h3 h4 h5 hP hD hS hL (gk_rvt hst)
  case getfield idx =>
    obtain rfl : 3 = len := by rcases hlen with h | h; exact h; exact absurd (show (3 : Nat) = 0 from h) (by decide)
    obtain ⟨ci, k, j, r, hf, rfl, hj, hkd, hk, hor⟩ := hs
    obtain ⟨hc11, hlk⟩ := hPf.1 idx ci k hf
    intro ad H locs ls h1 h2 h3 h4 h5 hP hD hS hL hst
    refine va_get (v := gk_gf ad (fl j) (x j) (y j) j ci k) hx hb hts (hU ci hc11) hown hK hP j (by rw [gk_w_at hj, gk_gc_obj hkd hc11]) (gk_clx ci hc11) k hk (hts _ (hlk hk)) (fun _ h9 => h9) (by simp [hk]) hd ?_
    rcases hor with ⟨h0, kk⟩ | ⟨h0, kk⟩ | ⟨h0, hfl, kk⟩
    · rw [show gk_gf ad (fl j) (x j) (y j) j ci k = .int (x j k) by unfold gk_gf; rw [if_pos h0]]
      exact kk ad H locs ls h1 h2 h3 h4 h5 hP hD hS hL (gk_rvc trivial (gk_rvt hst))
    · rw [show gk_gf ad (fl j) (x j) (y j) j ci k = .long (y j k) by unfold gk_gf; rw [if_neg (by omega), if_pos h0]]
      exact kk ad H locs ls h1 h2 h3 h4 h5 hP hD hS hL (gk_rvc trivial (gk_rvt hst))
    · rw [show gk_gf ad (fl j) (x j) (y j) j ci k = .ref (ad (j + gk_fo ci k)) by unfold gk_gf; rw [if_neg (by omega), if_neg (by omega), if_pos hfl]]
      have hlt : j + gk_fo ci k < n := by
        have q := h3.2 j k hj (by unfold gk_wd; rw [hkd, if_pos hc11]; exact hk) hfl
        unfold gk_tg at q
        rw [hkd, if_pos hc11] at q
        exact q
      exact kk ad H locs ls h1 h2 h3 h4 h5 hP hD hS hL (gk_rvc (Or.inl hlt) (gk_rvt hst))
  case putfield idx =>
    obtain rfl : 3 = len := by rcases hlen with h | h; exact h; exact absurd (show (3 : Nat) = 0 from h) (by decide)
    obtain ⟨ci, k, j, v, r, hf, rfl, hj, hkd, hk, hor⟩ := hs
    obtain ⟨hc11, hlk⟩ := hPf.1 idx ci k hf
    rcases hor with ⟨h0, w0, rfl, hz, kk⟩ | ⟨h0, w0, rfl, kk⟩ | ⟨h0, rfl, hlt, hcs, kk⟩
    · intro ad H locs ls h1 h2 h3 h4 h5 hP hD hS hL hst
      obtain ⟨z1, z2, z3⟩ := gk_f0_ok hc11 hk h0 hz
      refine va_put hx hb hts (hU ci hc11) (gk_ty ci) (gk_tok ci hc11) (gk_nm ci hc11) hown hK hP hD hS j (by rw [gk_w_at hj, gk_gc_obj hkd hc11]) (gk_clx ci hc11) k hk (hts _ (hlk hk)) (fun _ h9 => h9) z1 (gk_tok ci hc11 k hk) z2 z3 (by simpa using hk) hd (fun H1 locs1 hP1 hD1 hS1 => ?_)
      have es : (gk_w cl ad n fl x y).set j (ad j, .inr (ci, ((List.range (gk_nf ci)).map (gk_gf ad (fl j) (x j) (y j) j ci)).set k (.int w0))) = gk_w cl ad n fl (gk_up x j k w0) y := by
        refine gk_w_set hj ?_ (fun q hq => ?_) (fun q hq => ?_) (fun q hq => ?_)
        · rw [gk_gc_obj hkd hc11]
          congr 2
          refine gk_fs_set ?_ (fun q hq => ?_)
          · simp [gk_gf, h0, gk_up, gk_uy, gk_uf]
          · simp [gk_gf, gk_up, gk_uy, gk_uf, hq]
        · funext w; simp [gk_uf, hq]
        · funext w; simp [gk_up, hq]
        · funext w; simp [gk_uy, hq]
      simp only [gk_cz] at hP1 hD1
      rw [es] at hP1 hD1
      exact kk ad H1 locs1 ls h1 h2 h3 (gk_uphi h4 h3 hj) h5 hP1 hD1 hS1 hL (gk_rvt (gk_rvt hst))
    · intro ad H locs ls h1 h2 h3 h4 h5 hP hD hS hL hst
      obtain ⟨z1, z2, z3⟩ := gk_f1_ok hc11 hk h0 w0
      refine va_put hx hb hts (hU ci hc11) (gk_ty ci) (gk_tok ci hc11) (gk_nm ci hc11) hown hK hP hD hS j (by rw [gk_w_at hj, gk_gc_obj hkd hc11]) (gk_clx ci hc11) k hk (hts _ (hlk hk)) (fun _ h9 => h9) z1 (gk_tok ci hc11 k hk) z2 z3 (by simpa using hk) hd (fun H1 locs1 hP1 hD1 hS1 => ?_)
      have es : (gk_w cl ad n fl x y).set j (ad j, .inr (ci, ((List.range (gk_nf ci)).map (gk_gf ad (fl j) (x j) (y j) j ci)).set k (.long w0))) = gk_w cl ad n fl x (gk_uy y j k w0) := by
        refine gk_w_set hj ?_ (fun q hq => ?_) (fun q hq => ?_) (fun q hq => ?_)
        · rw [gk_gc_obj hkd hc11]
          congr 2
          refine gk_fs_set ?_ (fun q hq => ?_)
          · simp [gk_gf, h0, gk_up, gk_uy, gk_uf]
          · simp [gk_gf, gk_up, gk_uy, gk_uf, hq]
        · funext w; simp [gk_uf, hq]
        · funext w; simp [gk_up, hq]
        · funext w; simp [gk_uy, hq]
      simp only [gk_cz] at hP1 hD1
      rw [es] at hP1 hD1
      exact kk ad H1 locs1 ls h1 h2 h3 h4 h5 hP1 hD1 hS1 hL (gk_rvt (gk_rvt hst))
    · intro ad H locs ls h1 h2 h3 h4 h5 hP hD hS hL hst
      obtain ⟨m9, S9, hcs⟩ := hcs
      obtain ⟨z1, z2, z3⟩ := gk_f2_ok hc11 hk h0 (ad (j + gk_fo ci k))
      refine va_putF hx hb hts (hU ci hc11) (gk_ty ci) (gk_tok ci hc11) (gk_nm ci hc11) hown hK hP hD hS j (by rw [gk_w_at hj, gk_gc_obj hkd hc11]) (gk_clx ci hc11) k hk (hts _ (hlk hk)) (fun _ h9 => h9) z1 (hini _ _ _ hcs) (((gk_fty_ok ci hc11 k hk).2).trans ((hSp 0 _ _ _ _ _ hcs).2.2.2.2.2 rfl)) (gk_tok ci hc11 k hk) z2 z3 (by simpa using hk) hd (fun H1 locs1 hP1 hD1 hS1 => ?_)
      have es : (gk_w cl ad n fl x y).set j (ad j, .inr (ci, ((List.range (gk_nf ci)).map (gk_gf ad (fl j) (x j) (y j) j ci)).set k (.ref (ad (j + gk_fo ci k))))) = gk_w cl ad n (gk_uf fl j k) x y := by
        refine gk_w_set hj ?_ (fun q hq => ?_) (fun q hq => ?_) (fun q hq => ?_)
        · rw [gk_gc_obj hkd hc11]
          congr 2
          refine gk_fs_set ?_ (fun q hq => ?_)
          · simp [gk_gf, h0, gk_up, gk_uy, gk_uf]
          · simp [gk_gf, gk_up, gk_uy, gk_uf, hq]
        · funext w; simp [gk_uf, hq]
        · funext w; simp [gk_up, hq]
        · funext w; simp [gk_uy, hq]
      simp only [gk_cz] at hP1 hD1
      rw [es] at hP1 hD1
      refine kk ad H1 locs1 ls h1 h2 ⟨h3.1, fun i2 k2 hi2 hk2 hf2 => ?_⟩ h4 h5 hP1 hD1 hS1 hL (gk_rvt (gk_rvt hst))
      by_cases hq : i2 = j ∧ k2 = k
      · obtain ⟨rfl, rfl⟩ := hq
        unfold gk_tg
        rw [hkd, if_pos hc11]
        exact hlt
      · exact h3.2 i2 k2 hi2 hk2 (by simpa [gk_uf, hq] using hf2)
  case iaload =>
    obtain rfl : 1 = len := by rcases hlen with h | h; exact h; exact absurd (show (1 : Nat) = 0 from h) (by decide)
    obtain ⟨i, j, r, rfl, hia, kk⟩ := hs
    intro ad H locs ls h1 h2 h3 h4 h5 hP hD hS hL hst
    rcases hia with ⟨hkd, hj, hi⟩ | ⟨rfl, Ls, hsc, hi⟩
    · refine va_iald hx hb hK hP j 0 (by rw [gk_w_at hj, gk_gc_i hkd]) rfl hi hd ?_
      exact kk ad H locs ls h1 h2 h3 h4 h5 hP hD hS hL (gk_rvc trivial (gk_rvt (gk_rvt hst)))
    · obtain ⟨xs, hX, hbl, hbA, hxs⟩ := hscr Ls hsc
      have ead : ad 5000 = ad0 5000 := h1 _ (Or.inr (by omega))
      show W p l e R s m args below meth c H locs u (16 * u) Q (F0 m pc ls (.int i :: .ref (ad 5000) :: r.map (gk_cz ad)))
      rw [ead]
      refine va_sld hx hb hX hbl hbA hS hi hd ?_
      have hk : i.toNatClampNeg < Ls := Nat.not_le.mp fun q => hi (Or.inr q)
      rw [show xs i.toNatClampNeg = x 5000 i.toNatClampNeg by rw [h4 5000 (by omega)]; exact (hxs _ hk).symm]
      exact kk ad H locs ls h1 h2 h3 h4 h5 hP hD hS hL (gk_rvc trivial (gk_rvt (gk_rvt hst)))
  case baload =>
    obtain rfl : 1 = len := by rcases hlen with h | h; exact h; exact absurd (show (1 : Nat) = 0 from h) (by decide)
    obtain ⟨i, j, r, rfl, hkd, hj, hi, kk⟩ := hs
    intro ad H locs ls h1 h2 h3 h4 h5 hP hD hS hL hst
    refine va_zald hx hb hK hP j 1 (by rw [gk_w_at hj, gk_gc_z hkd]) rfl hi hd ?_
    exact kk ad H locs ls h1 h2 h3 h4 h5 hP hD hS hL (gk_rvc trivial (gk_rvt (gk_rvt hst)))
  case laload =>
    obtain rfl : 1 = len := by rcases hlen with h | h; exact h; exact absurd (show (1 : Nat) = 0 from h) (by decide)
    obtain ⟨i, j, r, rfl, hkd, hj, hi, kk⟩ := hs
    intro ad H locs ls h1 h2 h3 h4 h5 hP hD hS hL hst
    refine va_lald hx hb hK hP j 2 (by rw [gk_w_at hj, gk_gc_l hkd]) rfl hi hd ?_
    exact kk ad H locs ls h1 h2 h3 h4 h5 hP hD hS hL (gk_rvc trivial (gk_rvt (gk_rvt hst)))
  case daload =>
    obtain rfl : 1 = len := by rcases hlen with h | h; exact h; exact absurd (show (1 : Nat) = 0 from h) (by decide)
    obtain ⟨i, j, r, rfl, hkd, hj, hi, kk⟩ := hs
    intro ad H locs ls h1 h2 h3 h4 h5 hP hD hS hL hst
    refine va_dald hx hb hK hP j 3 (by rw [gk_w_at hj, gk_gc_d hkd]) rfl hi hd ?_
    exact kk ad H locs ls h1 h2 h3 h4 h5 hP hD hS hL (gk_rvc trivial (gk_rvt (gk_rvt hst)))
  case aaload =>
    obtain rfl : 1 = len := by rcases hlen with h | h; exact h; exact absurd (show (1 : Nat) = 0 from h) (by decide)
    obtain ⟨i, j, r, rfl, h24, h28, hj, hi, hfl, kk⟩ := hs
    intro ad H locs ls h1 h2 h3 h4 h5 hP hD hS hL hst
    have hlt : i.toNatClampNeg < gk_ln j := Nat.not_le.mp fun q => hi (Or.inr q)
    have go : ∀ (t0 : Nat) (C : String), (gk_tys cl)[t0]? = some (cl (gk_kd j), .object C) → W p l e R s m args below meth c H locs u (16 * u) Q (F0 m pc ls (.int i :: .ref (ad j) :: r.map (gk_cz ad))) := by
      intro t0 C ht
      refine va_aldq hx hb hK hP j t0 (by rw [gk_w_at hj, gk_gc_q rfl h24]) ht hi hd ?_
      rw [if_pos ⟨hlt, hfl⟩]
      have hl2 : j + gk_eo (gk_kd j) i.toNatClampNeg < n := by
        have q := h3.2 j i.toNatClampNeg hj (by unfold gk_wd; rw [if_neg (by omega)]; exact hlt) hfl
        unfold gk_tg at q
        rw [if_neg (by omega)] at q
        exact q
      exact kk ad H locs ls h1 h2 h3 h4 h5 hP hD hS hL (gk_rvc (Or.inl hl2) (gk_rvt (gk_rvt hst)))
    rcases (by omega : gk_kd j = 24 ∨ gk_kd j = 25 ∨ gk_kd j = 26 ∨ gk_kd j = 27) with q | q | q | q
    · exact go 4 RX3 (by rw [q]; rfl)
    · exact go 5 RX7 (by rw [q]; rfl)
    · exact go 6 RX1 (by rw [q]; rfl)
    · exact go 7 RX4 (by rw [q]; rfl)
  case iastore =>
    obtain rfl : 1 = len := by rcases hlen with h | h; exact h; exact absurd (show (1 : Nat) = 0 from h) (by decide)
    obtain ⟨v, i, j, r, rfl, hkd, hj, hi, kk⟩ := hs
    intro ad H locs ls h1 h2 h3 h4 h5 hP hD hS hL hst
    refine va_iast hx hb hK hP hD hS j 0 (by rw [gk_w_at hj, gk_gc_i hkd]) rfl hi hd (fun H1 locs1 hP1 hD1 hS1 => ?_)
    have es : (gk_w cl ad n fl x y).set j (ad j, .inl (cl 20, gk_ln j, .inl (upd (x j) i.toNatClampNeg v))) = gk_w cl ad n fl (gk_up x j i.toNatClampNeg v) y := by
      refine gk_w_set hj ?_ (fun q hq => rfl) (fun q hq => ?_) (fun q hq => ?_)
      · rw [gk_gc_i hkd]
        congr 4; funext w; by_cases hw : w = i.toNatClampNeg <;> simp [upd, gk_up, hw]
      · funext w; simp [gk_up, hq]
      · funext w; simp [gk_uy, hq]
    rw [es] at hP1 hD1
    exact kk ad H1 locs1 ls h1 h2 h3 (gk_uphi h4 h3 hj) h5 hP1 hD1 hS1 hL (gk_rvt (gk_rvt (gk_rvt hst)))
  case bastore =>
    obtain rfl : 1 = len := by rcases hlen with h | h; exact h; exact absurd (show (1 : Nat) = 0 from h) (by decide)
    obtain ⟨v, i, j, r, rfl, hkd, hj, hi, hz, kk⟩ := hs
    intro ad H locs ls h1 h2 h3 h4 h5 hP hD hS hL hst
    have ez : vp_nar .boolean v = v := by rcases hz with rfl | rfl <;> rfl
    refine va_zast hx hb hK hP hD hS j 1 (by rw [gk_w_at hj, gk_gc_z hkd]) rfl hi hd (fun H1 locs1 hP1 hD1 hS1 => ?_)
    rw [ez] at hP1 hD1
    have es : (gk_w cl ad n fl x y).set j (ad j, .inl (cl 21, gk_ln j, .inl (upd (x j) i.toNatClampNeg v))) = gk_w cl ad n fl (gk_up x j i.toNatClampNeg v) y := by
      refine gk_w_set hj ?_ (fun q hq => rfl) (fun q hq => ?_) (fun q hq => ?_)
      · rw [gk_gc_z hkd]
        congr 4; funext w; by_cases hw : w = i.toNatClampNeg <;> simp [upd, gk_up, hw]
      · funext w; simp [gk_up, hq]
      · funext w; simp [gk_uy, hq]
    rw [es] at hP1 hD1
    exact kk ad H1 locs1 ls h1 h2 h3 (gk_uphi h4 h3 hj) h5 hP1 hD1 hS1 hL (gk_rvt (gk_rvt (gk_rvt hst)))
  case lastore =>
    obtain rfl : 1 = len := by rcases hlen with h | h; exact h; exact absurd (show (1 : Nat) = 0 from h) (by decide)
    obtain ⟨v, i, j, r, rfl, hkd, hj, hi, kk⟩ := hs
    intro ad H locs ls h1 h2 h3 h4 h5 hP hD hS hL hst
    refine va_last hx hb hK hP hD hS j 2 (by rw [gk_w_at hj, gk_gc_l hkd]) rfl hi hd (fun H1 locs1 hP1 hD1 hS1 => ?_)
    have es : (gk_w cl ad n fl x y).set j (ad j, .inl (cl 22, gk_ln j, .inr (.inl (vp_updL (y j) i.toNatClampNeg v)))) = gk_w cl ad n fl x (gk_uy y j i.toNatClampNeg v) := by
      refine gk_w_set hj ?_ (fun q hq => rfl) (fun q hq => ?_) (fun q hq => ?_)
      · rw [gk_gc_l hkd]
        congr 5; funext w; by_cases hw : w = i.toNatClampNeg <;> simp [vp_updL, gk_uy, hw]
      · funext w; simp [gk_up, hq]
      · funext w; simp [gk_uy, hq]
    rw [es] at hP1 hD1
    exact kk ad H1 locs1 ls h1 h2 h3 h4 h5 hP1 hD1 hS1 hL (gk_rvt (gk_rvt (gk_rvt hst)))
  case dastore =>
    obtain rfl : 1 = len := by rcases hlen with h | h; exact h; exact absurd (show (1 : Nat) = 0 from h) (by decide)
    obtain ⟨v, i, j, r, rfl, hkd, hj, hi, kk⟩ := hs
    intro ad H locs ls h1 h2 h3 h4 h5 hP hD hS hL hst
    refine va_dast hx hb hK hP hD hS j 3 (by rw [gk_w_at hj, gk_gc_d hkd]) rfl hi hd (fun H1 locs1 hP1 hD1 hS1 => ?_)
    have es : (gk_w cl ad n fl x y).set j (ad j, .inl (cl 23, gk_ln j, .inr (.inr (.inr (.inl (vf_upd (fun k => (y j k).toUInt64) i.toNatClampNeg v)))))) = gk_w cl ad n fl x (gk_uy y j i.toNatClampNeg v.toInt64) := by
      refine gk_w_set hj ?_ (fun q hq => rfl) (fun q hq => ?_) (fun q hq => ?_)
      · rw [gk_gc_d hkd]
        congr 7; funext w; by_cases hw : w = i.toNatClampNeg <;> simp [vf_upd, gk_uy, hw]
      · funext w; simp [gk_up, hq]
      · funext w; simp [gk_uy, hq]
    rw [es] at hP1 hD1
    exact kk ad H1 locs1 ls h1 h2 h3 h4 h5 hP1 hD1 hS1 hL (gk_rvt (gk_rvt (gk_rvt hst)))
  case arraylength =>
    obtain rfl : 1 = len := by rcases hlen with h | h; exact h; exact absurd (show (1 : Nat) = 0 from h) (by decide)
    obtain ⟨j, r, rfl, ⟨h20, h28, hj, kk⟩ | ⟨rfl, Ls, hsc, kk⟩⟩ := hs
    · intro ad H locs ls h1 h2 h3 h4 h5 hP hD hS hL hst
      have go : ∀ (t0 : Nat) (ty : FieldType) (z : vp_A), gk_gc cl ad (fl j) (x j) (y j) j = .inl (cl (gk_kd j), z) → z.1 = gk_ln j → (gk_tys cl)[t0]? = some (cl (gk_kd j), ty) → W p l e R s m args below meth c H locs u (16 * u) Q (F0 m pc ls (.ref (ad j) :: r.map (gk_cz ad))) := by
        intro t0 ty z hz hl ht
        refine va_alen (v := nI (gk_ln j)) hx hb hK hP j t0 (by rw [gk_w_at hj, hz]) ht (by rw [hl]; rfl) hd ?_
        exact kk ad H locs ls h1 h2 h3 h4 h5 hP hD hS hL (gk_rvc trivial (gk_rvt hst))
      rcases (by omega : gk_kd j = 20 ∨ gk_kd j = 21 ∨ gk_kd j = 22 ∨ gk_kd j = 23 ∨ gk_kd j = 24 ∨ gk_kd j = 25 ∨ gk_kd j = 26 ∨ gk_kd j = 27) with q | q | q | q | q | q | q | q
      · exact go 0 .int _ (by rw [gk_gc_i q, q]) rfl (by rw [q]; rfl)
      · exact go 1 .boolean _ (by rw [gk_gc_z q, q]) rfl (by rw [q]; rfl)
      · exact go 2 .long _ (by rw [gk_gc_l q, q]) rfl (by rw [q]; rfl)
      · exact go 3 .double _ (by rw [gk_gc_d q, q]) rfl (by rw [q]; rfl)
      · exact go 4 (.object RX3) _ (by rw [gk_gc_q q (by omega), q]) rfl (by rw [q]; rfl)
      · exact go 5 (.object RX7) _ (by rw [gk_gc_q q (by omega), q]) rfl (by rw [q]; rfl)
      · exact go 6 (.object RX1) _ (by rw [gk_gc_q q (by omega), q]) rfl (by rw [q]; rfl)
      · exact go 7 (.object RX4) _ (by rw [gk_gc_q q (by omega), q]) rfl (by rw [q]; rfl)
    · intro ad H locs ls h1 h2 h3 h4 h5 hP hD hS hL hst
      obtain ⟨xs, hX, hbl, hbA, hxs⟩ := hscr Ls hsc
      have ead : ad 5000 = ad0 5000 := h1 _ (Or.inr (by omega))
      show W p l e R s m args below meth c H locs u (16 * u) Q (F0 m pc ls (.ref (ad 5000) :: r.map (gk_cz ad)))
      rw [ead]
      refine va_slen hx hb hX hbl hbA hS hd ?_
      exact kk ad H locs ls h1 h2 h3 h4 h5 hP hD hS hL (gk_rvc trivial (gk_rvt hst))
  case invokevirtual idx =>
    obtain rfl : 3 = len := by rcases hlen with h | h; exact h; exact absurd (show (3 : Nat) = 0 from h) (by decide)
    obtain ⟨kd, ci, mm, cost, S, as, rest, hc, h55, hik, rfl, h8, hm, hr, hu, hS0⟩ := hs
    exact hcall idx pc kd ci mm cost S as rest L n fl x y u (by rw [hik]; exact hd) hc h8 hm h55 hr hu hS0
  case invokespecial idx =>
    obtain rfl : 3 = len := by rcases hlen with h | h; exact h; exact absurd (show (3 : Nat) = 0 from h) (by decide)
    rcases hs with hs | ⟨ci, mm, S, j, r, hc, rfl, h8, kk⟩
    · obtain ⟨kd, ci, mm, cost, S, as, rest, hc, h55, hik, rfl, h8, hm, hr, hu, hS0⟩ := hs
      exact hcall idx pc kd ci mm cost S as rest L n fl x y u (by rw [hik]; exact hd) hc h8 hm h55 hr hu hS0
    · intro ad H locs ls h1 h2 h3 h4 h5 hP hD hS hL hst
      obtain ⟨g1, g2, g3, g4⟩ := (hSp idx _ _ _ _ _ hc).2.2.2.2.1 rfl
      have h9 := gk_catsum ad h8
      refine W.objInit hx hb hown (hts _ g2) (hts _ g3) (hts _ g4) rfl (hL.1.trans hml.symm) rfl hd (by omega) (by simp only [JFrame.monitorRoom]; omega) ?_
      exact kk ad H locs ls h1 h2 h3 h4 h5 hP hD hS hL (gk_rvt hst)
  case invokestatic idx =>
    obtain rfl : 3 = len := by rcases hlen with h | h; exact h; exact absurd (show (3 : Nat) = 0 from h) (by decide)
    rcases hs with hs | ⟨ci, mm, S, a, b, r, hc, rfl, h8, kk⟩ | ⟨ci, mm, S, a, b, r, hc, rfl, h8, kk⟩ | ⟨ci, mm, S, a, r, hc, rfl, h8, kk⟩ | ⟨ci, mm, S, b, a, k, r, hc, rfl, h8, ka, kb, ha, hb2, k0, k1, k2, kk⟩
    · obtain ⟨kd, ci, mm, cost, S, as, rest, hc, h55, hik, rfl, h8, hm, hr, hu, hS0⟩ := hs
      exact hcall idx pc kd ci mm cost S as rest L n fl x y u (by rw [hik]; exact hd) hc h8 hm h55 hr hu hS0
    · intro ad H locs ls h1 h2 h3 h4 h5 hP hD hS hL hst
      obtain ⟨g1, g2, g3, g4, g5⟩ := (hSp idx _ _ _ _ _ hc).1 rfl
      have h9 := gk_catsum ad h8
      refine va_mmax hx hb (hml.trans hL.1.symm) hown (hts _ g2) (hts _ g3) (hts _ g4) (hts _ g5) (by omega) (by omega) (by omega) (by omega) hd ?_
      exact kk ad H locs ls h1 h2 h3 h4 h5 hP hD hS hL (gk_rvc trivial (gk_rvt (gk_rvt hst)))
    · intro ad H locs ls h1 h2 h3 h4 h5 hP hD hS hL hst
      obtain ⟨g1, g2, g3, g4, g5⟩ := (hSp idx _ _ _ _ _ hc).2.1 rfl
      have h9 := gk_catsum ad h8
      refine va_mmin hx hb (hml.trans hL.1.symm) hown (hts _ g2) (hts _ g3) (hts _ g4) (hts _ g5) (by omega) (by omega) (by omega) (by omega) hd ?_
      exact kk ad H locs ls h1 h2 h3 h4 h5 hP hD hS hL (gk_rvc trivial (gk_rvt (gk_rvt hst)))
    · intro ad H locs ls h1 h2 h3 h4 h5 hP hD hS hL hst
      obtain ⟨g1, g2, g3, g4, g5⟩ := (hSp idx _ _ _ _ _ hc).2.2.1 rfl
      have h9 := gk_catsum ad h8
      refine va_mabs hx hb (hml.trans hL.1.symm) hown (hts _ g2) (hts _ g3) (hts _ g4) (hts _ g5) (by omega) (by omega) (by omega) (by omega) hd ?_
      exact kk ad H locs ls h1 h2 h3 h4 h5 hP hD hS hL (gk_rvc trivial (gk_rvt hst))
    · intro ad H locs ls h1 h2 h3 h4 h5 hP hD hS hL hst
      obtain ⟨g1, g2, g3, g4, g5⟩ := (hSp idx _ _ _ _ _ hc).2.2.2.1 rfl
      have h9 := gk_catsum ad h8
      refine va_copyi (sp := 0) (dp := 0) (n := k) (ty := .int) hx hb (hml.trans hL.1.symm) hown (hts _ g2) (hts _ g3) (hts _ g4) (hts _ g5) hK hP hD hS a b 0 0 (by rw [gk_w_at ha, gk_gc_i ka]) (by rw [gk_w_at hb2, gk_gc_i kb]) rfl rfl rfl (by decide) (by decide) k0 (by rw [sb_cl0, Nat.zero_add]; exact k1) (by rw [sb_cl0, Nat.zero_add]; exact k2) (fun _ _ => rfl) (by omega) ?_ hd (fun H1 locs1 hP1 hD1 hS1 => ?_)
      · have : nativeFrameWords "java/lang/System" "arraycopy" 5 ≤ 17 := by decide +kernel
        omega
      · have es : (gk_w cl ad n fl x y).set b (ad b, .inl (cl 20, gk_ln b, .inl (va_cpy (x a) (x b) (0 : Int32).toNatClampNeg (0 : Int32).toNatClampNeg k.toNatClampNeg))) = gk_w cl ad n fl (fun i2 k2 => if i2 = b then (if k2 < k.toNatClampNeg then x a k2 else x b k2) else x i2 k2) y := by
          refine gk_w_set hb2 ?_ (fun q hq => rfl) (fun q hq => ?_) (fun q hq => rfl)
          · rw [gk_gc_i kb]
            congr 4
            funext w
            simp [va_cpy, sb_cl0]
          · funext w; simp [hq]
        rw [es] at hP1 hD1
        exact kk ad H1 locs1 ls h1 h2 h3 (gk_cphi h4 h3 hb2) h5 hP1 hD1 hS1 hL (gk_rvt (gk_rvt (gk_rvt (gk_rvt (gk_rvt hst)))))
  case new idx =>
    obtain rfl : 3 = len := by rcases hlen with h | h; exact h; exact absurd (show (3 : Nat) = 0 from h) (by decide)
    rcases hs with ⟨q, is, ic, ek, g1, g2, g3, g4, g6, g10, g8, g9⟩ | ⟨ci, g1, hc11, hkd, hn, hu2, kk⟩
    · exact hthr _ _ _ _ _ _ hd g1 g2 g3 g4 g6 _ _ _ _ _ _ _ g10 g8 g9
    · intro ad H locs ls h1 h2 h3 h4 h5 hP hD hS hL hst
      obtain ⟨w1, w2, w3⟩ := hPf.2.2.2.1 _ _ g1 hc11
      refine va_new (fs := (List.range (gk_nf ci)).map (gk_gf ad (fun _ => false) (fun _ => 0) (fun _ => 0) n ci)) hx hb hts (hU ci hc11) (gk_ty ci) (gk_tok ci hc11) hown (hts _ w1) (hts _ w2) (hts _ w3) hK hP hD hS hA (gk_clx ci hc11) (fun j hj => ?_) (by omega) (by omega) hd (fun q H1 hP1 hD1 hS1 => ?_)
      · rw [gk_fs0 ci hc11 j hj, gk_gf0 _ ad 0 n]
        simp [vp_V, hj]
      · rw [gk_w_push h3 (by rw [gk_gc_obj hkd hc11]; congr 2)] at hP1 hD1
        refine W.widen (k := u + gk_nf ci + 1) (n := 16 * (u + gk_nf ci + 1)) (by omega) (by omega) ?_
        rw [gk_st_ax hn hst]
        have hax : gk_ax ad n q n = q := by simp [gk_ax]
        have K9 := kk (gk_ax ad n q) H1 locs ls (fun j hj => by rw [← h1 j hj]; unfold gk_ax; rw [if_neg (by omega)]) (by omega) (gk_In_new h3 hn) (gk_u0hi h4 hn) hu2 hP1 hD1 hS1 (hL.mono (Nat.le_succ n) (fun j hj => by unfold gk_ax; rw [if_neg (by omega)])) (gk_rvc (Or.inl (Nat.lt_succ_self n)) (fun v hv => (hst v hv).mono (Nat.le_succ n)))
        simp only [List.map_cons, gk_cz, hax] at K9
        exact K9
  case newarray ty =>
    obtain rfl : 2 = len := by rcases hlen with h | h; exact h; exact absurd (show (2 : Nat) = 0 from h) (by decide)
    obtain ⟨k, r, rfl, hk0, hkd, hl, hn, hu2, kk⟩ := hs
    intro ad H locs ls h1 h2 h3 h4 h5 hP hD hS hL hst
    have hln := gk_ln_le n hn
    have fin : ∀ (q : Nat) (H1 : Heap) (e0 : va_E), e0 = gk_gc cl (gk_ax ad n q) (fun _ => false) (fun _ => 0) (fun _ => 0) n → va_P D vwCl (gk_w cl ad n fl x y ++ [(q, e0)]) H1 → va_D A (gk_w cl ad n fl x y ++ [(q, e0)]) → va_S A s.heap H1 locs → W p l e R s m args below meth c H1 locs (u + 1) (16 * u + gk_ln n) Q (F0 m (pc + 2) ls (.ref q :: r.map (gk_cz ad))) := by
      intro q H1 e0 he0 hP1 hD1 hS1
      rw [gk_w_push h3 he0] at hP1 hD1
      refine W.widen (k := u + gk_ln n + 1) (n := 16 * (u + gk_ln n + 1)) (by omega) (by omega) ?_
      rw [gk_st_ax hn (gk_rvt hst)]
      have hax : gk_ax ad n q n = q := by simp [gk_ax]
      have K9 := kk (gk_ax ad n q) H1 locs ls (fun j hj => by rw [← h1 j hj]; unfold gk_ax; rw [if_neg (by omega)]) (by omega) (gk_In_new h3 hn) (gk_u0hi h4 hn) hu2 hP1 hD1 hS1 (hL.mono (Nat.le_succ n) (fun j hj => by unfold gk_ax; rw [if_neg (by omega)])) (gk_rvc (Or.inl (Nat.lt_succ_self n)) (fun v hv => (gk_rvt hst v hv).mono (Nat.le_succ n)))
      simp only [List.map_cons, gk_cz, hax] at K9
      exact K9
    cases ty
    case int =>
      refine va_newa (ty := .int) (a0 := (gk_ln n, .inl (fun _ => 0))) (atype := .int) hx hb (hts (.arrayClass (newarray.typeOf .int)) hcap.1) rfl hK hP hD hS hA (fun _ => rfl) hk0 hl ?_ (by omega) (by omega) hd (fun q cA H1 hK1 hP1 hD1 hS1 => ?_)
      · show gk_ln n * _ ≤ _
        have : componentBytes .int ≤ 8 := by decide
        exact Nat.le_trans (Nat.mul_le_mul hln this) (by omega)
      · have ec : cA = cl (20 + 0) := by
          have r1 : s.vm.findClass ("[" ++ FieldType.toString .int) = some cA := (hK1.2 8 (cA, .int) rfl).2
          have r2 : s.vm.findClass ("[" ++ FieldType.toString .int) = some (cl (20 + 0)) := (hK.2 0 _ rfl).2
          exact Option.some.inj (r1.symm.trans r2)
        subst ec
        exact fin q H1 _ (by rw [gk_gc_i hkd]; try rfl) hP1 hD1 hS1
    case boolean =>
      refine va_newa (ty := .boolean) (a0 := (gk_ln n, .inl (fun _ => 0))) (atype := .boolean) hx hb (hts (.arrayClass (newarray.typeOf .boolean)) hcap.2.1) rfl hK hP hD hS hA (fun _ => rfl) hk0 hl ?_ (by omega) (by omega) hd (fun q cA H1 hK1 hP1 hD1 hS1 => ?_)
      · show gk_ln n * _ ≤ _
        have : componentBytes .boolean ≤ 8 := by decide
        exact Nat.le_trans (Nat.mul_le_mul hln this) (by omega)
      · have ec : cA = cl (20 + 1) := by
          have r1 : s.vm.findClass ("[" ++ FieldType.toString .boolean) = some cA := (hK1.2 8 (cA, .boolean) rfl).2
          have r2 : s.vm.findClass ("[" ++ FieldType.toString .boolean) = some (cl (20 + 1)) := (hK.2 1 _ rfl).2
          exact Option.some.inj (r1.symm.trans r2)
        subst ec
        exact fin q H1 _ (by rw [gk_gc_z hkd]; try rfl) hP1 hD1 hS1
    case long =>
      refine va_newa (ty := .long) (a0 := (gk_ln n, .inr (.inl (fun _ => 0)))) (atype := .long) hx hb (hts (.arrayClass (newarray.typeOf .long)) hcap.2.2.1) rfl hK hP hD hS hA (fun _ => rfl) hk0 hl ?_ (by omega) (by omega) hd (fun q cA H1 hK1 hP1 hD1 hS1 => ?_)
      · show gk_ln n * _ ≤ _
        have : componentBytes .long ≤ 8 := by decide
        exact Nat.le_trans (Nat.mul_le_mul hln this) (by omega)
      · have ec : cA = cl (20 + 2) := by
          have r1 : s.vm.findClass ("[" ++ FieldType.toString .long) = some cA := (hK1.2 8 (cA, .long) rfl).2
          have r2 : s.vm.findClass ("[" ++ FieldType.toString .long) = some (cl (20 + 2)) := (hK.2 2 _ rfl).2
          exact Option.some.inj (r1.symm.trans r2)
        subst ec
        exact fin q H1 _ (by rw [gk_gc_l hkd]; try rfl) hP1 hD1 hS1
    case double =>
      refine va_newa (ty := .double) (a0 := (gk_ln n, .inr (.inr (.inr (.inl (fun _ => 0)))))) (atype := .double) hx hb (hts (.arrayClass (newarray.typeOf .double)) hcap.2.2.2) rfl hK hP hD hS hA (fun _ => rfl) hk0 hl ?_ (by omega) (by omega) hd (fun q cA H1 hK1 hP1 hD1 hS1 => ?_)
      · show gk_ln n * _ ≤ _
        have : componentBytes .double ≤ 8 := by decide
        exact Nat.le_trans (Nat.mul_le_mul hln this) (by omega)
      · have ec : cA = cl (20 + 3) := by
          have r1 : s.vm.findClass ("[" ++ FieldType.toString .double) = some cA := (hK1.2 8 (cA, .double) rfl).2
          have r2 : s.vm.findClass ("[" ++ FieldType.toString .double) = some (cl (20 + 3)) := (hK.2 3 _ rfl).2
          exact Option.some.inj (r1.symm.trans r2)
        subst ec
        exact fin q H1 _ (by rw [gk_gc_d hkd]; try rfl) hP1 hD1 hS1
    all_goals exact absurd (show gk_kd n = 99 from hkd) (gk_no99 n hn)
  case anewarray idx =>
    obtain rfl : 3 = len := by rcases hlen with h | h; exact h; exact absurd (show (3 : Nat) = 0 from h) (by decide)
    obtain ⟨k, r, kd, rfl, hk0, hx9, hkd, h24, h28, hl, hn, hu2, kk⟩ := hs
    intro ad H locs ls h1 h2 h3 h4 h5 hP hD hS hL hst
    have hln := gk_ln_le n hn
    have fin : ∀ (q : Nat) (H1 : Heap) (e0 : va_E), e0 = gk_gc cl (gk_ax ad n q) (fun _ => false) (fun _ => 0) (fun _ => 0) n → va_P D vwCl (gk_w cl ad n fl x y ++ [(q, e0)]) H1 → va_D A (gk_w cl ad n fl x y ++ [(q, e0)]) → va_S A s.heap H1 locs → W p l e R s m args below meth c H1 locs (u + 1) (16 * u + gk_ln n) Q (F0 m (pc + 3) ls (.ref q :: r.map (gk_cz ad))) := by
      intro q H1 e0 he0 hP1 hD1 hS1
      rw [gk_w_push h3 he0] at hP1 hD1
      refine W.widen (k := u + gk_ln n + 1) (n := 16 * (u + gk_ln n + 1)) (by omega) (by omega) ?_
      rw [gk_st_ax hn (gk_rvt hst)]
      have hax : gk_ax ad n q n = q := by simp [gk_ax]
      have K9 := kk (gk_ax ad n q) H1 locs ls (fun j hj => by rw [← h1 j hj]; unfold gk_ax; rw [if_neg (by omega)]) (by omega) (gk_In_new h3 hn) (gk_u0hi h4 hn) hu2 hP1 hD1 hS1 (hL.mono (Nat.le_succ n) (fun j hj => by unfold gk_ax; rw [if_neg (by omega)])) (gk_rvc (Or.inl (Nat.lt_succ_self n)) (fun v hv => (gk_rvt hst v hv).mono (Nat.le_succ n)))
      simp only [List.map_cons, gk_cz, hax] at K9
      exact K9
    have go : ∀ (ci t0 : Nat) (hci : ci < 11), (ci = 3 ∨ ci = 6 ∨ ci = 1 ∨ ci = 4) → [3, 6, 1, 4].getD (kd - 24) 99 = ci → (gk_tys cl)[t0]? = some (cl kd, .object (gk_R ci)) → W p l e R s m args below meth c H locs u (16 * u) Q (F0 m pc ls (.int k :: r.map (gk_cz ad))) := by
      intro ci t0 hci hci2 hel ht
      have w1 := hPf.2.2.2.2 _ _ hx9
      rw [hel] at w1
      refine va_newq hx hb hown (hts _ w1) (hao ci hci hci2) hK hP hD hS hA hk0 hl (by omega) (by omega) (by omega) hd (fun q cA H1 hK1 hP1 hD1 hS1 => ?_)
      have ec : cA = cl kd := by
        obtain ⟨_, _, _, _, _, r1⟩ := (hK1.2 8 (cA, .object (gk_R ci)) rfl).2
        obtain ⟨_, _, _, _, _, r2⟩ := (hK.2 t0 _ ht).2
        exact Option.some.inj (r1.symm.trans r2)
      subst ec
      refine fin q H1 _ ?_ hP1 hD1 hS1
      rw [gk_gc_q hkd h24]
      congr 7
      funext w
      simp
    rcases (by omega : kd = 24 ∨ kd = 25 ∨ kd = 26 ∨ kd = 27) with q | q | q | q
    · exact go 3 4 (by omega) (Or.inl rfl) (by rw [q]; rfl) (by rw [q]; rfl)
    · exact go 6 5 (by omega) (Or.inr (Or.inl rfl)) (by rw [q]; rfl) (by rw [q]; rfl)
    · exact go 1 6 (by omega) (Or.inr (Or.inr (Or.inl rfl))) (by rw [q]; rfl) (by rw [q]; rfl)
    · exact go 4 7 (by omega) (Or.inr (Or.inr (Or.inr rfl))) (by rw [q]; rfl) (by rw [q]; rfl)
  case aastore =>
    obtain rfl : 1 = len := by rcases hlen with h | h; exact h; exact absurd (show (1 : Nat) = 0 from h) (by decide)
    obtain ⟨i, j, r, rfl, h24, h28, hj, hi, hlt, kk⟩ := hs
    intro ad H locs ls h1 h2 h3 h4 h5 hP hD hS hL hst
    have hil : i.toNatClampNeg < gk_ln j := Nat.not_le.mp fun q => hi (Or.inr q)
    have hel := gk_kd_el j (by have := h3.1; omega) h24 h28 _ hil
    have go : ∀ (ci t0 : Nat) (hci : ci < 11), [3, 6, 1, 4].getD (gk_kd j - 24) 99 = ci → (gk_tys cl)[t0]? = some (cl (gk_kd j), .object (gk_R ci)) → W p l e R s m args below meth c H locs u (16 * u) Q (F0 m pc ls (.ref (ad (j + gk_eo (gk_kd j) i.toNatClampNeg)) :: .int i :: .ref (ad j) :: r.map (gk_cz ad))) := by
      intro ci t0 hci hel2 ht
      rw [hel2] at hel
      refine va_astq hx hb hK hP hD hS j t0 (j + gk_eo (gk_kd j) i.toNatClampNeg) ci (r := (gk_R ci, gk_T ci, gk_nf ci)) (by rw [gk_w_at hj, gk_gc_q rfl h24]) ht (by rw [gk_w_at hlt, gk_gc_obj hel hci]) (gk_clx ci hci) hi hd (fun H1 locs1 hP1 hD1 hS1 => ?_)
      have es : (gk_w cl ad n fl x y).set j (ad j, .inl (cl (gk_kd j), gk_ln j, .inr (.inr (.inr (.inr (va_up (fun k => if k < gk_ln j ∧ fl j k = true then some (ad (j + gk_eo (gk_kd j) k)) else none) i.toNatClampNeg (some (ad (j + gk_eo (gk_kd j) i.toNatClampNeg))))))))) = gk_w cl ad n (gk_uf fl j i.toNatClampNeg) x y := by
        refine gk_w_set hj ?_ (fun q hq => ?_) (fun q hq => rfl) (fun q hq => rfl)
        · rw [gk_gc_q rfl h24]
          congr 7
          funext w
          by_cases hw : w = i.toNatClampNeg
          · subst hw
            simp [va_up, gk_uf, hil]
          · simp [va_up, gk_uf, hw]
        · funext w; simp [gk_uf, hq]
      rw [es] at hP1 hD1
      refine kk ad H1 locs1 ls h1 h2 ⟨h3.1, fun i2 k2 hi2 hk2 hf2 => ?_⟩ h4 h5 hP1 hD1 hS1 hL (gk_rvt (gk_rvt (gk_rvt hst)))
      by_cases hq : i2 = j ∧ k2 = i.toNatClampNeg
      · obtain ⟨rfl, rfl⟩ := hq
        unfold gk_tg
        rw [if_neg (by omega)]
        exact hlt
      · exact h3.2 i2 k2 hi2 hk2 (by simpa [gk_uf, hq] using hf2)
    rcases (by omega : gk_kd j = 24 ∨ gk_kd j = 25 ∨ gk_kd j = 26 ∨ gk_kd j = 27) with q | q | q | q
    · exact go 3 4 (by omega) (by rw [q]; rfl) (by rw [q]; rfl)
    · exact go 6 5 (by omega) (by rw [q]; rfl) (by rw [q]; rfl)
    · exact go 1 6 (by omega) (by rw [q]; rfl) (by rw [q]; rfl)
    · exact go 4 7 (by omega) (by rw [q]; rfl) (by rw [q]; rfl)
  all_goals (obtain ⟨r, rfl, g1, g2⟩ := hs; exact hret _ _ _ _ _ _ _ _ _ _ hd hlen g1 g2)

/-! THE ENGINE, 3: the machine keeps to it. First: cells, locals -/
def gk_cz (ad : Nat → Nat) : Value → Value
  | .ref j => .ref (ad j)
  | v => v
theorem gk_cz_cat (ad : Nat → Nat) (v : Value) : (gk_cz ad v).category = v.category := by cases v <;> rfl
def gk_gf (ad : Nat → Nat) (fli : Nat → Bool) (xi : Nat → Int32) (yi : Nat → Int64) (i ci k : Nat) : Value :=
  if gk_fk ci k = 0 then .int (xi k) else if gk_fk ci k = 1 then .long (yi k) else if fli k = true then .ref (ad (i + gk_fo ci k)) else .null
def gk_gc (cl : Nat → ClassId) (ad : Nat → Nat) (fli : Nat → Bool) (xi : Nat → Int32) (yi : Nat → Int64) (i : Nat) : va_E :=
  if gk_kd i < 11 then .inr (gk_kd i, (List.range (gk_nf (gk_kd i))).map (gk_gf ad fli xi yi i (gk_kd i)))
  else .inl (cl (gk_kd i), (gk_ln i, if gk_kd i = 22 then .inr (.inl yi) else if gk_kd i = 23 then .inr (.inr (.inr (.inl (fun k => (yi k).toUInt64)))) else if gk_kd i < 22 then .inl xi else .inr (.inr (.inr (.inr (fun k => if k < gk_ln i ∧ fli k = true then some (ad (i + gk_eo (gk_kd i) k)) else none))))))
def gk_w (cl : Nat → ClassId) (ad : Nat → Nat) (n : Nat) (fl : gk_F) (x : gk_X) (y : gk_Y) : va_W := (List.range n).map (fun i => (ad i, gk_gc cl ad (fl i) (x i) (y i) i))
theorem gk_w_at {cl : Nat → ClassId} {ad : Nat → Nat} {n : Nat} {fl : gk_F} {x : gk_X} {y : gk_Y} {i : Nat} (h : i < n) : (gk_w cl ad n fl x y)[i]? = some (ad i, gk_gc cl ad (fl i) (x i) (y i) i) := by simp [gk_w, h]
theorem gk_w_lt {cl : Nat → ClassId} {ad : Nat → Nat} {n : Nat} {fl : gk_F} {x : gk_X} {y : gk_Y} {i : Nat} {q : Nat × va_E} (h : (gk_w cl ad n fl x y)[i]? = some q) : i < n ∧ q = (ad i, gk_gc cl ad (fl i) (x i) (y i) i) := by
  have hl : i < n := by
    have := (List.getElem?_eq_some_iff.mp h).1
    simpa [gk_w] using this
  rw [gk_w_at hl] at h
  exact ⟨hl, (Option.some.inj h).symm⟩
theorem gk_gc_obj {cl : Nat → ClassId} {ad : Nat → Nat} {fli : Nat → Bool} {xi : Nat → Int32} {yi : Nat → Int64} {i ci : Nat} (h : gk_kd i = ci) (h2 : ci < 11) : gk_gc cl ad fli xi yi i = .inr (ci, (List.range (gk_nf ci)).map (gk_gf ad fli xi yi i ci)) := by
  subst h
  unfold gk_gc
  rw [if_pos h2]
theorem gk_gc_i {cl : Nat → ClassId} {ad : Nat → Nat} {fli : Nat → Bool} {xi : Nat → Int32} {yi : Nat → Int64} {i : Nat} (h : gk_kd i = 20) : gk_gc cl ad fli xi yi i = .inl (cl 20, (gk_ln i, .inl xi)) := by
  unfold gk_gc
  rw [h]
  rfl
theorem gk_gc_z {cl : Nat → ClassId} {ad : Nat → Nat} {fli : Nat → Bool} {xi : Nat → Int32} {yi : Nat → Int64} {i : Nat} (h : gk_kd i = 21) : gk_gc cl ad fli xi yi i = .inl (cl 21, (gk_ln i, .inl xi)) := by
  unfold gk_gc
  rw [h]
  rfl
theorem gk_gc_l {cl : Nat → ClassId} {ad : Nat → Nat} {fli : Nat → Bool} {xi : Nat → Int32} {yi : Nat → Int64} {i : Nat} (h : gk_kd i = 22) : gk_gc cl ad fli xi yi i = .inl (cl 22, (gk_ln i, .inr (.inl yi))) := by
  unfold gk_gc
  rw [h]
  rfl
theorem gk_gc_d {cl : Nat → ClassId} {ad : Nat → Nat} {fli : Nat → Bool} {xi : Nat → Int32} {yi : Nat → Int64} {i : Nat} (h : gk_kd i = 23) : gk_gc cl ad fli xi yi i = .inl (cl 23, (gk_ln i, .inr (.inr (.inr (.inl (fun k => (yi k).toUInt64)))))) := by
  unfold gk_gc
  rw [h]
  rfl
theorem gk_gc_q {cl : Nat → ClassId} {ad : Nat → Nat} {fli : Nat → Bool} {xi : Nat → Int32} {yi : Nat → Int64} {i kd : Nat} (h : gk_kd i = kd) (h24 : 24 ≤ kd) : gk_gc cl ad fli xi yi i = .inl (cl kd, (gk_ln i, .inr (.inr (.inr (.inr (fun k => if k < gk_ln i ∧ fli k = true then some (ad (i + gk_eo kd k)) else none)))))) := by
  unfold gk_gc
  rw [h, if_neg (by omega), if_neg (by omega), if_neg (by omega), if_neg (by omega)]
theorem gk_w_set {cl : Nat → ClassId} {ad : Nat → Nat} {n : Nat} {fl fl2 : gk_F} {x x2 : gk_X} {y y2 : gk_Y} {i : Nat} {e : va_E} (hi : i < n) (he : e = gk_gc cl ad (fl2 i) (x2 i) (y2 i) i) (hf : ∀ j, j ≠ i → fl2 j = fl j) (hx : ∀ j, j ≠ i → x2 j = x j) (hy : ∀ j, j ≠ i → y2 j = y j) : (gk_w cl ad n fl x y).set i (ad i, e) = gk_w cl ad n fl2 x2 y2 := by
  apply List.ext_getElem?
  intro k
  by_cases hk : k = i
  · subst hk
    rw [List.getElem?_set_self (by simpa [gk_w] using hi), gk_w_at hi, he]
  · rw [List.getElem?_set_ne (Ne.symm hk)]
    by_cases hkn : k < n
    · rw [gk_w_at hkn, gk_w_at hkn, hf k hk, hx k hk, hy k hk]
    · rw [List.getElem?_eq_none (by simpa [gk_w] using hkn), List.getElem?_eq_none (by simpa [gk_w] using hkn)]
theorem gk_fs_set {f f2 : Nat → Value} {N k : Nat} {v : Value} (h1 : f2 k = v) (h2 : ∀ j, j ≠ k → f2 j = f j) : ((List.range N).map f).set k v = (List.range N).map f2 := by
  apply List.ext_getElem?
  intro j
  by_cases hj : j = k
  · subst hj
    by_cases hl : j < N
    · rw [List.getElem?_set_self (by simpa using hl)]
      simp [hl, h1]
    · rw [List.getElem?_eq_none (by simpa using hl), List.getElem?_eq_none (by simpa using hl)]
  · rw [List.getElem?_set_ne (Ne.symm hj)]
    by_cases hl : j < N
    · simp [hl, h2 j hj]
    · rw [List.getElem?_eq_none (by simpa using hl), List.getElem?_eq_none (by simpa using hl)]
/-- what is set points to cells that are there -/
def gk_In (n : Nat) (fl : gk_F) : Prop := n ≤ 202 ∧ ∀ i k, i < n → k < gk_wd (gk_kd i) i → fl i k = true → gk_tg (gk_kd i) i k < n
def gk_rv (n : Nat) : Value → Prop
  | .ref j => j < n ∨ 1000 ≤ j
  | _ => True
theorem gk_rv.mono {n n2 : Nat} (h : n ≤ n2) {v : Value} (hv : gk_rv n v) : gk_rv n2 v := by
  cases v <;> simp only [gk_rv] at hv ⊢
  exact hv.imp (fun q => Nat.lt_of_lt_of_le q h) id
def gk_L (ad : Nat → Nat) (n : Nat) (ls : Array Slot) (nL : Nat) (L : List (Option Value)) : Prop := ls.size = nL ∧ L.length = nL ∧ lv_wf ls ∧ ∀ i v, gk_lg L i = some v → ls[i]? = some (.val (gk_cz ad v)) ∧ gk_rv n v
theorem gk_cz_eq {ad ad2 : Nat → Nat} {n : Nat} (h : ∀ j, (j < n ∨ 1000 ≤ j) → ad2 j = ad j) {v : Value} (hv : gk_rv n v) : gk_cz ad2 v = gk_cz ad v := by
  cases v <;> simp only [gk_cz]
  simp only [gk_rv] at hv
  rw [h _ hv]
theorem gk_L.mono {ad ad2 : Nat → Nat} {n n2 nL : Nat} {ls : Array Slot} {L : List (Option Value)} (hL : gk_L ad n ls nL L) (hn : n ≤ n2) (h : ∀ j, (j < n ∨ 1000 ≤ j) → ad2 j = ad j) : gk_L ad2 n2 ls nL L :=
  ⟨hL.1, hL.2.1, hL.2.2.1, fun i v hv => ⟨by rw [gk_cz_eq h (hL.2.2.2 i v hv).2]; exact (hL.2.2.2 i v hv).1, (hL.2.2.2 i v hv).2.mono hn⟩⟩
def gk_lp (ad : Nat → Nat) (L : List (Option Value)) : List (Nat × Value) := (List.range L.length).filterMap (fun i => (gk_lg L i).map (fun v => (i, gk_cz ad v)))
theorem gk_lg_lt : ∀ (L : List (Option Value)) (i : Nat) (v : Value), gk_lg L i = some v → i < L.length
  | [], i, v, h => by simp [gk_lg] at h
  | _ :: _, 0, v, h => by simp
  | _ :: t, i + 1, v, h => by
    have := gk_lg_lt t i v h
    simp; omega
theorem gk_lp_mem {ad : Nat → Nat} {L : List (Option Value)} {i : Nat} {v : Value} (h : gk_lg L i = some v) : (i, gk_cz ad v) ∈ gk_lp ad L :=
  List.mem_filterMap.mpr ⟨i, List.mem_range.mpr (gk_lg_lt L i v h), by rw [h]; rfl⟩
theorem gk_L_has {ad : Nat → Nat} {n nL : Nat} {ls : Array Slot} {L : List (Option Value)} (h : gk_L ad n ls nL L) : lv_has ls nL (gk_lp ad L) := by
  refine ⟨h.1, h.2.2.1, fun q hq => ?_⟩
  obtain ⟨i, -, hi⟩ := List.mem_filterMap.mp hq
  cases hg : gk_lg L i with
  | none => rw [hg] at hi; cases hi
  | some v =>
    rw [hg] at hi
    cases hi
    exact (h.2.2.2 i v hg).1
theorem gk_cl_some {a : Option Value} {w : Value} (h : gk_cl a = some w) : a = some w ∧ w.category ≠ 2 := by
  cases a with
  | none => simp [gk_cl] at h
  | some v => cases v <;> simp [gk_cl] at h <;> subst h <;> simp [Value.category]
theorem gk_s1_len : ∀ (L : List (Option Value)) (i : Nat) (v : Option Value), (gk_s1 L i v).length = L.length
  | [], _, _ => rfl
  | _ :: _, 0, _ => by simp [gk_s1]
  | _ :: t, 1, v => by simp [gk_s1, gk_s1_len t 0 v]
  | _ :: t, n + 2, v => by simp [gk_s1, gk_s1_len t (n + 1) v]
theorem gk_lg_s1 : ∀ (L : List (Option Value)) (i : Nat) (v : Option Value) (j : Nat) (w : Value), gk_lg (gk_s1 L i v) j = some w → (j = i ∧ v = some w) ∨ (j ≠ i ∧ gk_lg L j = some w ∧ (j + 1 = i → w.category ≠ 2))
  | [], _, _, j, w, h => by simp [gk_s1, gk_lg] at h
  | a :: t, 0, v, 0, w, h => by simp [gk_s1, gk_lg] at h; exact Or.inl ⟨rfl, h⟩
  | a :: t, 0, v, j + 1, w, h => by
    simp only [gk_s1, gk_lg] at h
    exact Or.inr ⟨by omega, h, fun q => by omega⟩
  | a :: t, 1, v, 0, w, h => by
    simp only [gk_s1, gk_lg] at h
    have := gk_cl_some h
    exact Or.inr ⟨by omega, this.1, fun _ => this.2⟩
  | a :: t, 1, v, j + 1, w, h => by
    simp only [gk_s1, gk_lg] at h
    rcases gk_lg_s1 t 0 v j w h with ⟨h1, h2⟩ | ⟨h1, h2, h3⟩
    · exact Or.inl ⟨by omega, h2⟩
    · exact Or.inr ⟨by omega, h2, fun q => h3 (by omega)⟩
  | a :: t, i + 2, v, 0, w, h => by
    simp only [gk_s1, gk_lg] at h
    exact Or.inr ⟨by omega, h, fun q => by omega⟩
  | a :: t, i + 2, v, j + 1, w, h => by
    simp only [gk_s1, gk_lg] at h
    rcases gk_lg_s1 t (i + 1) v j w h with ⟨h1, h2⟩ | ⟨h1, h2, h3⟩
    · exact Or.inl ⟨by omega, h2⟩
    · exact Or.inr ⟨by omega, h2, fun q => h3 (by omega)⟩
theorem gk_s2_len : ∀ (L : List (Option Value)) (i : Nat) (v : Option Value), (gk_s2 L i v).length = L.length
  | [], _, _ => by simp [gk_s2]
  | [_], 0, _ => by simp [gk_s2]
  | _ :: _ :: _, 0, _ => by simp [gk_s2]
  | [_], 1, v => by simp [gk_s2]
  | _ :: b :: t, 1, v => by simp [gk_s2, gk_s2_len (b :: t) 0 v]
  | [_], n + 2, v => by simp [gk_s2]
  | _ :: b :: t, n + 2, v => by simp [gk_s2, gk_s2_len (b :: t) (n + 1) v]
theorem gk_lg_s2 : ∀ (L : List (Option Value)) (i : Nat) (v : Option Value) (j : Nat) (w : Value), gk_lg (gk_s2 L i v) j = some w → (j = i ∧ v = some w) ∨ (j ≠ i ∧ j ≠ i + 1 ∧ gk_lg L j = some w ∧ (j + 1 = i → w.category ≠ 2))
  | [], _, _, j, w, h => by simp [gk_s2, gk_lg] at h
  | [a], 0, v, 0, w, h => by simp [gk_s2, gk_lg] at h; exact Or.inl ⟨rfl, h⟩
  | [a], 0, v, j + 1, w, h => by simp [gk_s2, gk_lg] at h
  | a :: b :: t, 0, v, 0, w, h => by simp [gk_s2, gk_lg] at h; exact Or.inl ⟨rfl, h⟩
  | a :: b :: t, 0, v, 1, w, h => by simp [gk_s2, gk_lg] at h
  | a :: b :: t, 0, v, j + 2, w, h => by
    simp only [gk_s2, gk_lg] at h
    exact Or.inr ⟨by omega, by omega, h, fun q => by omega⟩
  | a :: t, 1, v, 0, w, h => by
    have h' : gk_cl a = some w := by
      cases t <;> simpa [gk_s2, gk_lg] using h
    have := gk_cl_some h'
    exact Or.inr ⟨by omega, by omega, this.1, fun _ => this.2⟩
  | a :: t, 1, v, j + 1, w, h => by
    have h' : gk_lg (gk_s2 t 0 v) j = some w := by
      cases t <;> simpa [gk_s2, gk_lg] using h
    rcases gk_lg_s2 t 0 v j w h' with ⟨h1, h2⟩ | ⟨h1, h4, h2, h3⟩
    · exact Or.inl ⟨by omega, h2⟩
    · exact Or.inr ⟨by omega, by omega, h2, fun q => h3 (by omega)⟩
  | a :: t, i + 2, v, 0, w, h => by
    have h' : a = some w := by
      cases t <;> simpa [gk_s2, gk_lg] using h
    exact Or.inr ⟨by omega, by omega, h', fun q => by omega⟩
  | a :: t, i + 2, v, j + 1, w, h => by
    have h' : gk_lg (gk_s2 t (i + 1) v) j = some w := by
      cases t <;> simpa [gk_s2, gk_lg] using h
    rcases gk_lg_s2 t (i + 1) v j w h' with ⟨h1, h2⟩ | ⟨h1, h4, h2, h3⟩
    · exact Or.inl ⟨by omega, h2⟩
    · exact Or.inr ⟨by omega, by omega, h2, fun q => h3 (by omega)⟩
/-- behind a store: what the kit's row says of the locals, said by the list -/
theorem gk_L_s1 {ad : Nat → Nat} {n nL : Nat} {ls ls2 : Array Slot} {L : List (Option Value)} {i : Nat} {v : Value} {o : Option Value} (h : gk_L ad n ls nL L) (ho : ∀ w, o = some w → v = gk_cz ad w ∧ gk_rv n w) (h2 : lv_has ls2 nL ((i, v) :: (gk_lp ad L).filter (fun q => !(q.1 == i) && !(q.1 + 1 == i && q.2.category == 2)))) : gk_L ad n ls2 nL (gk_s1 L i o) := by
  refine ⟨h2.1, by rw [gk_s1_len]; exact h.2.1, h2.2.1, fun j w hw => ?_⟩
  rcases gk_lg_s1 L i o j w hw with ⟨rfl, e⟩ | ⟨hne, hg, hc⟩
  · obtain ⟨e1, e2⟩ := ho w e
    exact ⟨by rw [← e1]; exact h2.2.2 (j, v) List.mem_cons_self, e2⟩
  · refine ⟨h2.2.2 (j, gk_cz ad w) (List.mem_cons_of_mem _ (List.mem_filter.mpr ⟨gk_lp_mem hg, ?_⟩)), (h.2.2.2 j w hg).2⟩
    by_cases q : j + 1 = i
    · have := hc q
      simp [hne, gk_cz_cat, this]
    · simp [hne, q]
theorem gk_L_s2 {ad : Nat → Nat} {n nL : Nat} {ls ls2 : Array Slot} {L : List (Option Value)} {i : Nat} {v : Value} {o : Option Value} (h : gk_L ad n ls nL L) (ho : ∀ w, o = some w → v = gk_cz ad w ∧ gk_rv n w) (h2 : lv_has ls2 nL ((i, v) :: (gk_lp ad L).filter (fun q => !(q.1 == i) && (!(q.1 == i + 1) && !(q.1 + 1 == i && q.2.category == 2))))) : gk_L ad n ls2 nL (gk_s2 L i o) := by
  refine ⟨h2.1, by rw [gk_s2_len]; exact h.2.1, h2.2.1, fun j w hw => ?_⟩
  rcases gk_lg_s2 L i o j w hw with ⟨rfl, e⟩ | ⟨hne, hne2, hg, hc⟩
  · obtain ⟨e1, e2⟩ := ho w e
    exact ⟨by rw [← e1]; exact h2.2.2 (j, v) List.mem_cons_self, e2⟩
  · refine ⟨h2.2.2 (j, gk_cz ad w) (List.mem_cons_of_mem _ (List.mem_filter.mpr ⟨gk_lp_mem hg, ?_⟩)), (h.2.2.2 j w hg).2⟩
    by_cases q : j + 1 = i
    · have := hc q
      simp [hne, hne2, gk_cz_cat, this]
    · simp [hne, hne2, q]
theorem gk_L0_args (ad : Nat → Nat) : ∀ (as : List Value) (off i : Nat) (v : Value), gk_lg (gk_L0 as) i = some v → (off + i, gk_cz ad v) ∈ lv_args off (as.map (gk_cz ad)) ∧ v ∈ as
  | [], off, i, v, h => by simp [gk_L0, gk_lg] at h
  | a :: t, off, i, v, h => by
    have key1 : a.category ≠ 2 → gk_L0 (a :: t) = some a :: gk_L0 t := by
      intro hc
      cases a <;> first | rfl | exact absurd rfl hc
    have key2 : a.category = 2 → gk_L0 (a :: t) = some a :: none :: gk_L0 t := by
      intro hc
      cases a <;> first | rfl | (simp [Value.category] at hc)
    by_cases hc : a.category = 2
    · rw [key2 hc] at h
      have hcz : (gk_cz ad a).category = 2 := by rw [gk_cz_cat]; exact hc
      simp only [List.map_cons, lv_args, hcz, if_true]
      match i, h with
      | 0, h =>
        simp only [gk_lg] at h
        cases h
        exact ⟨List.mem_cons_self, List.mem_cons_self⟩
      | 1, h => simp [gk_lg] at h
      | i + 2, h =>
        simp only [gk_lg] at h
        have := gk_L0_args ad t (off + 2) i v h
        rw [show off + (i + 2) = off + 2 + i by omega]
        exact ⟨List.mem_cons_of_mem _ this.1, List.mem_cons_of_mem _ this.2⟩
    · rw [key1 hc] at h
      have hcz : ¬ (gk_cz ad a).category = 2 := by rw [gk_cz_cat]; exact hc
      simp only [List.map_cons, lv_args, hcz, if_false]
      match i, h with
      | 0, h =>
        simp only [gk_lg] at h
        cases h
        exact ⟨List.mem_cons_self, List.mem_cons_self⟩
      | i + 1, h =>
        simp only [gk_lg] at h
        have := gk_L0_args ad t (off + 1) i v h
        rw [show off + (i + 1) = off + 1 + i by omega]
        exact ⟨List.mem_cons_of_mem _ this.1, List.mem_cons_of_mem _ this.2⟩
theorem gk_lg_app : ∀ (A : List (Option Value)) (k i : Nat) (v : Value), gk_lg (A ++ List.replicate k none) i = some v → gk_lg A i = some v
  | [], k, i, v, h => by
    exfalso
    induction k generalizing i with
    | zero => simp [gk_lg] at h
    | succ k ih =>
      cases i with
      | zero => simp [List.replicate, gk_lg] at h
      | succ i =>
        simp only [List.nil_append, List.replicate, gk_lg] at h
        exact ih i h
  | a :: t, k, 0, v, h => by simpa [gk_lg] using h
  | a :: t, k, i + 1, v, h => by
    simp only [List.cons_append, gk_lg] at h ⊢
    exact gk_lg_app t k i v h
theorem gk_L0_len : ∀ (as : List Value) (ad : Nat → Nat), (gk_L0 as).length = (lg_sl (as.map (gk_cz ad))).length
  | [], ad => rfl
  | a :: t, ad => by
    have := gk_L0_len t ad
    cases a <;> simp [gk_L0, lg_sl, gk_cz, Value.category] at this ⊢ <;> omega
theorem gk_L_en {ad : Nat → Nat} {n nL : Nat} {as : List Value} (hle : (gk_L0 as).length ≤ nL) (hrv : ∀ v ∈ as, gk_rv n v) : gk_L ad n ((lg_sl (as.map (gk_cz ad)) ++ List.replicate (nL - (lg_sl (as.map (gk_cz ad))).length) Slot.unset).toArray) nL (gk_en as nL) := by
  have hl := lv_entry (as.map (gk_cz ad)) (n := nL) (by rw [← gk_L0_len]; exact hle)
  refine ⟨hl.1, by simp [gk_en]; omega, hl.2.1, fun i v hv => ?_⟩
  have h := gk_L0_args ad as 0 i v (gk_lg_app _ _ _ _ hv)
  rw [Nat.zero_add] at h
  exact ⟨hl.2.2 _ h.1, hrv v h.2⟩

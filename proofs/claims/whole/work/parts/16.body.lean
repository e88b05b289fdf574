/-! THE ENGINE, 7: a method out of its steps -/
/-- an exception's words -/
def gk_Xf (own : String) (P : gk_C) (d : Nat) : Prop := ∀ idx is ic q ek, P.2.2.2.2 idx = some (100 + ek) → P.2.2.2.1 is = some q → P.2.2.2.2 ic = some (300 + ek) → 6 ≤ d ∧ Bundle.fit (gk_xn ek) = true ∧ ∀ w ∈ Jvm.Cond.classLink own idx (gk_xn ek) :: Jvm.Cond.initialized (gk_xn ek) :: vx_atS own ic (gk_xn ek) gk_ch, w ∈ gk_W1 ∨ w ∈ gk_face
theorem gk_kept {D : va_G} {cl : Nat → ClassId} {ad : Nat → Nat} {n : Nat} {fl : gk_F} {x : gk_X} {y : gk_Y} {H H2 : Heap} (hP : va_P D vwCl (gk_w cl ad n fl x y) H) (h : ∀ q : Nat, q < H.size → H2[q]? = H[q]?) : va_P D vwCl (gk_w cl ad n fl x y) H2 := hP.kept (fun k q hk => h _ (hP k q hk).lt)
section GKB
variable {p : Program} {l : Launch} {e : Env} {R : Room} {s : State} {m : MethodId} {args : Array Value} {below : List Frame} {meth : Method} {c : Code} {D : va_G} {cl : Nat → ClassId} {n0 : Nat} {ad0 : Nat → Nat} {fl0 : gk_F} {x0 : gk_X} {y0 : gk_Y} {nL uf d : Nat} {cc : ByteArray} {own : String} {rt : Option FieldType} {K : gk_K} {Ts : List Jvm.Cond} {P : gk_C}
abbrev gk_QQ (below : List Frame) (args : Array Value) (s : State) (D : va_G) (cl : Nat → ClassId) (ad0 : Nat → Nat) (n0 : Nat) (x0 : gk_X) (K : gk_K) (uf : Nat) (A : Nat → Prop) : State → Prop := vx_MQ below (gk_Q D cl ad0 n0 x0 K A) (gk_XQ D cl ad0 n0 x0 K A) args s uf (16 * uf) A
theorem gk_hret {A : Nat → Prop} (hx : p.tables.exec = Jvm.exec) (hb : c.code = cc) (hr : meth.sig.returnType = rt) (hlocks : meth.locks = false) (i : Instr) (len pc : Nat) (r : Option Value) (L : List (Option Value)) (n : Nat) (fl : gk_F) (x : gk_X) (y : gk_Y) (u : Nat) (hd : decode cc pc = .ok (i, len)) (hlen : gk_len i = len ∨ gk_len i = 0) (hg : gk_ret rt i r) (hK : K (.inl r) n fl x y) : gk_VV p l e R s m args below meth c (gk_QQ below args s D cl ad0 n0 x0 K uf A) D cl A n0 ad0 x0 nL uf pc L r.toList n fl x y u := by
  intro ad H locs ls h1 h2 h3 h4 h5 hP hD hS hL hst
  refine W.widen (k := uf) (n := 16 * uf) h5 (by omega) ?_
  refine vx_ret ?_
  have hQ : ∀ t : State, t.heap = H → gk_Q D cl ad0 n0 x0 K A args s (.returned (r.map (gk_cz ad))) t := fun t ht => ⟨⟨r, ad, rfl, n, fl, x, y, h1, h2, h3, h4, hK, by rw [ht]; exact hP, hD, fun v hv => hst v (by cases hv; simp)⟩, hS.F ht⟩
  cases i
  case ireturn =>
    obtain ⟨v, rfl⟩ : ∃ v, r = some (.int v) := by
      rcases r with _ | v
      · exact (show False from hg).elim
      · cases v <;> first | exact ⟨_, rfl⟩ | exact (show False from hg).elim
    obtain rfl : 1 = len := by rcases hlen with h | h; exact h; exact absurd (show (1 : Nat) = 0 from h) (by decide)
    obtain ⟨ty, e1, e2⟩ := hg
    exact W.zret hx hb (hr.trans e1) e2 (fun t ht _ => hQ t ht) hS.2.2 hd hlocks
  case lreturn =>
    obtain ⟨v, rfl⟩ : ∃ v, r = some (.long v) := by
      rcases r with _ | v
      · exact (show False from hg).elim
      · cases v <;> first | exact ⟨_, rfl⟩ | exact (show False from hg).elim
    obtain rfl : 1 = len := by rcases hlen with h | h; exact h; exact absurd (show (1 : Nat) = 0 from h) (by decide)
    exact W.lret hx hb (hr.trans hg) (fun t ht _ => hQ t ht) hS.2.2 hd hlocks
  case dreturn =>
    obtain ⟨v, rfl⟩ : ∃ v, r = some (.double v) := by
      rcases r with _ | v
      · exact (show False from hg).elim
      · cases v <;> first | exact ⟨_, rfl⟩ | exact (show False from hg).elim
    obtain rfl : 1 = len := by rcases hlen with h | h; exact h; exact absurd (show (1 : Nat) = 0 from h) (by decide)
    exact W.dret hx hb (hr.trans hg) (fun t ht _ => hQ t ht) hS.2.2 hd hlocks
  case freturn =>
    obtain ⟨v, rfl⟩ : ∃ v, r = some (.float v) := by
      rcases r with _ | v
      · exact (show False from hg).elim
      · cases v <;> first | exact ⟨_, rfl⟩ | exact (show False from hg).elim
    obtain rfl : 1 = len := by rcases hlen with h | h; exact h; exact absurd (show (1 : Nat) = 0 from h) (by decide)
    exact W.fret hx hb (hr.trans hg) (fun t ht _ => hQ t ht) hS.2.2 hd hlocks
  case areturn =>
    obtain ⟨v, rfl⟩ : ∃ v, r = some (.ref v) := by
      rcases r with _ | v
      · exact (show False from hg).elim
      · cases v <;> first | exact ⟨_, rfl⟩ | exact (show False from hg).elim
    obtain rfl : 1 = len := by rcases hlen with h | h; exact h; exact absurd (show (1 : Nat) = 0 from h) (by decide)
    obtain ⟨ty, e1, e2⟩ := hg
    exact W.aret hx hb (hr.trans e1) e2 (Or.inr ⟨_, rfl⟩) (fun t ht _ => hQ t ht) hS.2.2 hd hlocks
  case return_ =>
    obtain rfl : r = none := by
      rcases r with _ | v
      · rfl
      · exact (show False from hg).elim
    obtain rfl : 1 = len := by rcases hlen with h | h; exact h; exact absurd (show (1 : Nat) = 0 from h) (by decide)
    exact W.vret hx hb (hr.trans hg) (fun t ht _ => hQ t ht) hS.2.2 hd hlocks
  all_goals exact absurd hg (by cases r <;> simp [gk_ret])
theorem gk_hthr {A : Nat → Prop} (hx : p.tables.exec = Jvm.exec) (hb : c.code = cc) (hl : l.stackTraces = false) (hml : c.maxLocals = nL) (hown : s.vm.findClass own = some m.cls) (hTs : ∀ w ∈ Ts, w.before args s = true) (hW1 : ∀ w ∈ gk_W1, w ∈ Ts) (hE : gk_E D cl A ad0 s s.heap) (hd1 : d ≤ R.frames) (hd2 : 36 * d ≤ R.locals) (hR1 : uf ≤ R.cells) (hR2 : 16 * uf ≤ R.slots) (hlocks : meth.locks = false) (hA : ∀ q, s.heap.size ≤ q → A q)
    (hXf : gk_Xf own P d) (hst : ∀ idx q, P.2.2.2.1 idx = some q → q < gk_nS ∧ (gk_sq q).1 = own ∧ (gk_sq q).2.1 = idx) (htab : ∀ z ∈ c.exceptionTable.toList, False)
    (idx is ic q ek pc : Nat) (d0 : decode cc pc = .ok (.new idx, 3)) (hi : P.2.2.2.2 idx = some (100 + ek)) (d3 : decode cc (pc + 3) = .ok (.dup, 1)) (d4 : gk_tr cc pc is ic) (hs : P.2.2.2.1 is = some q) (hic : P.2.2.2.2 ic = some (300 + ek)) (L : List (Option Value)) (st : List Value) (n : Nat) (fl : gk_F) (x : gk_X) (y : gk_Y) (u : Nat) (h8 : (st.map Value.category).sum ≤ 8) (hu : u + 1 ≤ uf) (hK : K (.inr ek) n fl x y) : gk_VV p l e R s m args below meth c (gk_QQ below args s D cl ad0 n0 x0 K uf A) D cl A n0 ad0 x0 nL uf pc L st n fl x y u := by
  intro ad H locs ls h1 h2 h3 h4 h5 hP hD hS hL hst2
  obtain ⟨h6, hfit, hw⟩ := hXf idx is ic q ek hi hs hic
  obtain ⟨s1, s2, s3⟩ := hst is q hs
  have hstr := hE.2.2.2.2.1 q s1
  rw [s2, s3] at hstr
  have hbef : ∀ w ∈ Jvm.Cond.classLink own idx (gk_xn ek) :: Jvm.Cond.initialized (gk_xn ek) :: vx_atS own ic (gk_xn ek) gk_ch, w.before args s = true := fun w h => by
    rcases hw w h with h | h
    · exact hTs _ (hW1 _ h)
    · exact va_Nw.use (gk_face_ok w h).2 (hE.2.2.2.2.2.2.2.2.2.1 w h)
  have hot : ∀ w ∈ Jvm.Cond.classLink own idx (gk_xn ek) :: Jvm.Cond.initialized (gk_xn ek) :: vx_atS own ic (gk_xn ek) gk_ch, vx_ot w = true := fun w h => by
    unfold vx_ot
    rw [Bool.or_eq_true]
    rcases hw w h with h | h
    · exact Or.inr (List.mem_filter.mp h).2
    · exact Or.inl (gk_face_ok w h).2
  have h9 := gk_catsum ad h8
  have hnl : gk_ch.length = 2 := rfl
  rcases d4 with ⟨d4, d6, d9⟩ | ⟨d4, d6, d9⟩
  · refine vx_throwS (own := own) (cls := gk_xn ek) (names := gk_ch) (ik := idx) (is := is) (ic := ic) hx hb hl hown hfit (by decide) (hbef _ List.mem_cons_self) (hbef _ (List.mem_cons_of_mem _ List.mem_cons_self)) hstr (fun w h => hbef w (List.mem_cons_of_mem _ (List.mem_cons_of_mem _ h))) hot hE.2.2.1 hE.2.2.2.1 hS (hL.1.trans hml.symm) d0 d3 d4 d6 d9 (fun z hz => (htab z hz).elim) (by rw [hnl]; omega) (by rw [hnl]; omega) (by omega) (by omega) hlocks (fun t ht hsz hk => ?_) hS.2.2 hu (by omega)
    refine ⟨⟨ek, ad, rfl, n, fl, x, y, h1, h2, h3, h4, hK, gk_kept hP hk, hD, fun v hv => by cases hv⟩, Nat.le_trans hS.1 hsz, fun q h10 h11 => ?_⟩
    rw [hk q (Nat.lt_of_lt_of_le h10 hS.1)]
    exact hS.2.1 q h10 h11
  · refine vx_throwSW (own := own) (cls := gk_xn ek) (names := gk_ch) (ik := idx) (is := is) (ic := ic) hx hb hl hown hfit (by decide) (hbef _ List.mem_cons_self) (hbef _ (List.mem_cons_of_mem _ List.mem_cons_self)) hstr (fun w h => hbef w (List.mem_cons_of_mem _ (List.mem_cons_of_mem _ h))) hot hE.2.2.1 hE.2.2.2.1 hS (hL.1.trans hml.symm) d0 d3 d4 d6 d9 (fun z hz => (htab z hz).elim) (by rw [hnl]; omega) (by rw [hnl]; omega) (by omega) (by omega) hlocks (fun t ht hsz hk => ?_) hS.2.2 hu (by omega)
    refine ⟨⟨ek, ad, rfl, n, fl, x, y, h1, h2, h3, h4, hK, gk_kept hP hk, hD, fun v hv => by cases hv⟩, Nat.le_trans hS.1 hsz, fun q h10 h11 => ?_⟩
    rw [hk q (Nat.lt_of_lt_of_le h10 hS.1)]
    exact hS.2.1 q h10 h11
end GKB
/-- a body's contract, where the class may have natives: none of them is this method -/
theorem gk_ofWF {l : Launch} {y : MethodName} {ws ws' : List Cond} {rm : Room} {Pc : Array Value → State → Prop} {Qc : Array Value → State → Outcome → State → Prop} {XC : String → State → State → Prop} {mc ms : Nat} {free : Addr → Prop} {cc : ByteArray} {maxL : Nat} {ret : Option FieldType}
    (hy : plainFor y = true) (hw : ws = Cond.code y cc maxL ret :: ws')
    (body : ∀ p e s m args below meth c s₁, BodyLoose p l y (headSpec ws rm) cc maxL ret e s m args below meth c s₁ → c.maxLocals = maxL → (∀ x ∈ c.exceptionTable.toList, False) → Pc args s →
      W p l e (headSpec ws rm).room s m args below meth c s.heap [] 0 0 (vx_MQ below Qc XC args s mc ms free) (entryFrame m args maxL)) : vx_Met l y ws rm Pc Qc XC mc ms free := by
  refine MetFree.of_bodySF (code := cc) (maxLocals := maxL) (ret := ret) hy ?_ ?_
  · intro args s m h hn
    obtain ⟨meth, c, h1, h2, h3, h4, h5, h6, -, -⟩ := Cond.code_spec hn (atoms_spec (ws := ws) h _ (by rw [hw]; exact List.mem_cons_self))
    exact ⟨meth, c, h1, h2, h3, h4, h5, h6⟩
  · intro p e s m args below meth c s₁ B hml hP _
    have hh0 : s₁.heap = s.heap := by rw [B.state]; rfl
    have ht : ∀ x ∈ c.exceptionTable.toList, False := by
      obtain ⟨meth9, c9, h1, h2, -, -, -, -, h7, -⟩ := Cond.code_spec B.named (atoms_spec (ws := ws) B.pre _ (by rw [hw]; exact List.mem_cons_self))
      cases Option.some.inj (h1.symm.trans B.method)
      cases Option.some.inj (h2.symm.trans (Stand.of_body B).code)
      intro x hx
      rw [Array.isEmpty_iff.mp h7] at hx
      cases hx
    obtain ⟨t, a1, o, b1, b2, b3⟩ := body p e s m args below meth c s₁ B hml ht hP s₁ hh0 (Stand.of_body B)
    exact ⟨t, o, a1, b1, b2, b3⟩
/-- the class words, all of them, are among gk_W1 -/
def gk_cw : Prop := (∀ ci, ci < 11 → ∀ w ∈ u_ws (gk_R ci) (gk_T ci) (gk_nf ci), w ∈ gk_W1) ∧ Jvm.Cond.arrayClass .int ∈ gk_W1 ∧ Jvm.Cond.arrayClass .boolean ∈ gk_W1 ∧ Jvm.Cond.arrayClass .long ∈ gk_W1 ∧ Jvm.Cond.arrayClass .double ∈ gk_W1
set_option maxHeartbeats 2000000 in
theorem gk_meth {l : Launch} (hl : l.stackTraces = false) (hcw : gk_cw) {y : MethodName} {cc : ByteArray} {nL d uf : Nat} {rt : Option FieldType} {own : String} {P : gk_C} {cs : Nat → Option gk_M0} {S : gk_S} (hy : plainFor y = true) (hyo : y.cls = own)
    (hS : ∀ as n fl x yy K, S as n fl x yy K → (gk_L0 as).length ≤ nL ∧ ∀ V, gk_W cc P cs (fun _ _ => none) rt uf none K V → V 0 (gk_en as nL) [] n fl x yy 0)
    (hPf : gk_Pf own P gk_W1) (hSp : gk_Sp own cs gk_W1 d) (hst : ∀ idx q, P.2.2.2.1 idx = some q → q < gk_nS ∧ (gk_sq q).1 = own ∧ (gk_sq q).2.1 = idx)
    (hini : ∀ ci m S, cs 0 = some (99, ci, m, 0, S) → y.name = "<init>") (hXf : gk_Xf own P d)
    (hlk : ∀ idx kd ci mm cost S2, cs idx = some (kd, ci, mm, cost, S2) → kd < 5 → gk_Lk l own gk_W1 d idx kd ci mm cost S2) :
    gk_Mt l y (.code y cc nL rt :: gk_W1) d uf S := by
  intro D cl ad n fl x yy sz as K hSK has
  refine gk_ofWF (cc := cc) (maxL := nL) (ret := rt) hy rfl ?_
  intro p e s m args below meth c s₁ B hml htab hv
  obtain ⟨rfl, hsz, hIn, hP, hD0, hE⟩ := hv
  have hx := B.exec
  have hb := B.bytes
  have hr := B.returns
  have hts := atoms_spec (ws := Jvm.Cond.code y cc nL rt :: gk_W1) B.pre
  have hown : s.vm.findClass own = some m.cls := by rw [← hyo]; exact findClass_of_methodNamed B.named
  have hlocks := B.notSynchronized
  have hW1 : ∀ w ∈ gk_W1, w ∈ Jvm.Cond.code y cc nL rt :: gk_W1 := fun w h => List.mem_cons_of_mem _ h
  subst hsz
  have hD := hD0.self (sz := s.heap.size)
  obtain ⟨A, hAe⟩ : ∃ A, A = va_A (gk_w cl ad n fl x yy) s.heap.size := ⟨_, rfl⟩
  rw [← hAe] at hD hE ⊢
  have hA : ∀ q : Nat, s.heap.size ≤ q → A q := fun q h => by rw [hAe]; exact Or.inr h
  obtain ⟨hL0, hV⟩ := hS as n fl x yy K hSK
  rw [lg_entry_eq]
  have hwalk := gk_main (p := p) (l := l) (e := e) (R := (headSpec (Jvm.Cond.code y cc nL rt :: gk_W1) (gk_rm d uf)).room) (s := s) (m := m) (args := (as.map (gk_cz ad)).toArray) (below := below) (meth := meth) (c := c) (Q := gk_QQ below (as.map (gk_cz ad)).toArray s D cl ad n x K uf A) (D := D) (cl := cl) (A := A) (n0 := n) (ad0 := ad) (x0 := x) (nL := nL) (uf := uf) (d := d) (own := own) (P := P) (cs := cs) (xh := fun _ _ => none) (rt := rt) (sc := none) (K := K) (Ts := gk_W1) hx hb hml hown (fun w h => hts w (hW1 w h)) hcw.1 hE.1 hA hPf hSp (Nat.le_refl d) (Nat.le_refl _) (Nat.le_refl _) (Nat.le_refl _)
    (fun ci m2 S2 h => (name_of_methodNamed B.named B.method).1.trans (hini ci m2 S2 h)) hcw.2 hE.2.2.2.2.2.2.2.2.1
    (fun idx q hq => by
      obtain ⟨s1, s2, s3⟩ := hst idx q hq
      have hstr := hE.2.2.2.2.1 q s1
      rw [s2, s3] at hstr
      exact ⟨_, hstr⟩)
    (fun Ls h => by cases h)
    (fun idx pc kd ci mm cost S2 as2 rest L n2 fl2 x2 y2 u hdg hc h8 hm h5 hrc hu hS0 => gk_call (d := d) (Ts := gk_W1) hx hb hml hown (fun w h => hts w (hW1 w h)) (fun _ h => h) hE hA (Nat.le_refl d) (Nat.le_refl _) (Nat.le_refl _) (Nat.le_refl _)
      (fun pc ek _ ad2 n2 fl2 x2 y2 u H locs ls rest q ce h1 h2 h3 h4 h5 hP hD hS hls hK hce hcv hcl => vx_widen (k := uf) (n := 16 * uf) h5 (Nat.mul_le_mul_left 16 h5) (vx_out (fun z hz => (htab z hz).elim) hlocks hce hcv hcl (fun t ht _ => ⟨⟨ek, ad2, rfl, n2, fl2, x2, y2, h1, h2, h3, h4, hK, by rw [ht]; exact hP, hD, fun v hv => by cases hv⟩, hS.F ht⟩) hS.2.2 (Nat.le_refl _) (Nat.le_refl _)))
      (fun pc ek hp li h => by cases h) (hlk idx kd ci mm cost S2 hc h5) hdg h8 hm hrc hu hS0)
    (fun idx is ic q ek pc d0 hi d3 d4 hs hic L st n2 fl2 x2 y2 u h8 hu hK => gk_hthr (d := d) (Ts := gk_W1) hx hb hl hml hown (fun w h => hts w (hW1 w h)) (fun _ h => h) hE (Nat.le_refl d) (Nat.le_refl _) (Nat.le_refl _) (Nat.le_refl _) hlocks hA hXf hst htab idx is ic q ek pc d0 hi d3 d4 hs hic L st n2 fl2 x2 y2 u h8 hu hK)
    (fun i len pc r L n2 fl2 x2 y2 u hd hlen hg hK => gk_hret hx hb hr hlocks i len pc r L n2 fl2 x2 y2 u hd hlen hg hK)
  exact hV _ hwalk ad s.heap [] _ (fun _ _ => rfl) (Nat.le_refl n) hIn (fun _ _ => rfl) (Nat.zero_le _) hP hD va_S.rf (gk_L_en hL0 has) (fun v hv => absurd hv List.not_mem_nil)

/-! THE TEXT, 5: length and charAt of a String constant -/
/-- a String at b, its bytes at t; statics that its methods read -/
def gk_Es (b t N : Nat) (f : Nat → Int32) (A : Nat → Prop) (U : State) (H : Heap) : Prop := va_O "java/lang/String" b A U H ∧ va_OF "java/lang/String" "coder" "B" (.int 0) b A U H ∧ va_OF "java/lang/String" "value" "[B" (.ref t) b A U H ∧ va_T .byte t N (fun j => .int (f j)) A U H ∧ va_Z "java/lang/String" "COMPACT_STRINGS" "Z" (.int 1) A U H ∧ va_Zq "jdk/internal/util/Preconditions" "SIOOBE_FORMATTER" "Ljava/util/function/BiFunction;" A U H
theorem gk_Es.go {b t N : Nat} {f : Nat → Int32} {A B : Nat → Prop} {s U : State} {H0 H : Heap} (h : gk_Es b t N f A s H0) (hW : s.WarmedH U.vm) (hk : ∀ q : Nat, q < H0.size → ¬ A q → H[q]? = H0[q]?) (hAB : ∀ q, B q → A q) : gk_Es b t N f B U H := by
  obtain ⟨f1, f2, f3, f4, f5, f6⟩ := h
  exact ⟨(va_O.moved hW.alike (f1.kept hk)).narrow hAB, (va_OF.moved hW.alike (f2.kept hk)).narrow hAB, (va_OF.moved hW.alike (f3.kept hk)).narrow hAB, (va_T.moved hW.alike (f4.kept hk)).narrow hAB, (va_Z.moved hW.alike (f5.kept hk)).narrow hAB, (va_Zq.moved hW.alike (f6.kept hk)).narrow hAB⟩
/-- a method that reads a String alone: it answers as Pr says, nothing old changes -/
def gk_RoB (b t N : Nat) (f : Nat → Int32) (as : List Value) (sz : Nat) : Array Value → State → Prop := va_Pc as (fun U => U.heap.size = sz ∧ gk_Es b t N f (fun q => sz ≤ q) U U.heap)
def gk_RoQ (Pr : Option Value → Prop) (A : Nat → Prop) : Array Value → State → Outcome → State → Prop := fun _ st oc t => (∃ r, oc = .returned r ∧ Pr r) ∧ va_F A st t
def gk_Ro (l : Launch) (y : MethodName) (cw : Jvm.Cond) (d : Nat) (b t N : Nat) (f : Nat → Int32) (as : List Value) (Pr : Option Value → Prop) : Prop :=
  ∀ sz : Nat, vx_Met l y (cw :: gk_W1) (gk_rm d 0) (gk_RoB b t N f as sz) (gk_RoQ Pr (fun q => sz ≤ q)) (fun _ _ _ => False) 0 0 (fun q => sz ≤ q)
theorem gk_Ro_blind {b t N : Nat} {f : Nat → Int32} {as : List Value} {sz : Nat} : FrameBlind (gk_RoB b t N f as sz) := by
  intro a U g mk h
  obtain ⟨h1, h2, h3⟩ := h
  exact ⟨h1, h2, h3.go (State.WarmedH.refl U) (fun _ _ _ => rfl) (fun _ h => h)⟩
section GKRO
variable {p : Program} {l : Launch} {e : Env} {R : Room} {s : State} {m : MethodId} {args : Array Value} {below : List Frame} {meth : Method} {c : Code} {H : Heap} {locs : List Loc} {Q : State → Prop} {pc nL d : Nat} {ls : Array Slot} {rest st0 : List Value} {cc : ByteArray} {own : String} {rt : Option FieldType} {b t N : Nat} {f : Nat → Int32} {Pr : Option Value → Prop}
theorem gk_roR {Qr : Option Value → Prop} {mc0 ms0 : Nat} {A A1 : Nat → Prop} {a : Array Value} (hr : va_Run p l e R s m args below meth c H locs mc0 ms0 0 0 (F0 m pc ls st0) rest (gk_RoQ Qr A1 a) A1) (hS : va_S A s.heap H locs) (hA : ∀ q, A1 q → A q)
    (kk : ∀ (r : Option Value) (H1 : Heap) (locs1 : List Loc), Qr r → va_S A s.heap H1 locs1 → W p l e R s m args below meth c H1 locs1 mc0 ms0 Q (F0 m (pc + 3) ls (r.toList ++ rest))) : W p l e R s m args below meth c H locs mc0 ms0 Q (F0 m pc ls st0) := by
  intro T hT X
  obtain ⟨v, st₀, t, T', L, h0, X', hL, e1, e2, ⟨⟨r, hv, hp⟩, hz, hk⟩, st⟩ := hr T hT X
  cases hv
  rw [h0] at hz hk
  obtain ⟨t2, a1, b1⟩ := kk v T'.heap (locs ++ L) hp ⟨Nat.le_trans hS.1 (by rw [e1]; exact hz), fun q h1 h2 => by rw [e1, hk q (Nat.lt_of_lt_of_le h1 hS.1) (fun z => h2 (hA q z))]; exact hS.2.1 q h1 h2, fun q hq => by
      rcases List.mem_append.mp hq with h | h
      · exact hS.2.2 q h
      · exact hA _ (hL q h)⟩ T' rfl X'
  exact ⟨t2, st t2 a1, b1⟩
/-- what a body knows -/
def gk_RoC (own : String) (cc : ByteArray) (nL d : Nat) (rt : Option FieldType) (b t N : Nat) (f : Nat → Int32) (p : Program) (R : Room) (s : State) (m : MethodId) (args : Array Value) (meth : Method) (c : Code) : Prop :=
  p.tables.exec = Jvm.exec ∧ c.code = cc ∧ c.maxLocals = nL ∧ s.vm.findClass own = some m.cls ∧ (∀ w ∈ gk_W1, w.before args s = true) ∧ meth.sig.returnType = rt ∧ meth.locks = false ∧ (d ≤ R.frames ∧ 36 * d ≤ R.locals) ∧ gk_Es b t N f (fun q => s.heap.size ≤ q) s s.heap
abbrev gk_RoM (Pr : Option Value → Prop) (below : List Frame) (args : Array Value) (s : State) : State → Prop := vx_MQ below (gk_RoQ Pr (fun q => s.heap.size ≤ q)) (fun _ _ _ => False) args s 0 0 (fun q => s.heap.size ≤ q)
theorem gk_roZ {ty : FieldType} {v : Int32} {locs : List Loc} (C : gk_RoC own cc nL d (some ty) b t N f p R s m args meth c) (hS : va_S (fun q => s.heap.size ≤ q) s.heap H locs) (hn : narrow ty (.int v) = .int v) (hv : Pr (some (.int v))) (hd : decode cc pc = .ok (.ireturn, 1)) : W p l e R s m args below meth c H locs 0 0 (gk_RoM Pr below args s) (F0 m pc ls [.int v]) :=
  vx_ret (W.zret C.1 C.2.1 C.2.2.2.2.2.1 hn (fun t ht _ => ⟨⟨_, rfl, hv⟩, hS.F ht⟩) hS.2.2 hd C.2.2.2.2.2.2.1)
theorem gk_roV {locs : List Loc} (C : gk_RoC own cc nL d none b t N f p R s m args meth c) (hS : va_S (fun q => s.heap.size ≤ q) s.heap H locs) (hv : Pr none) (hd : decode cc pc = .ok (.return_, 1)) : W p l e R s m args below meth c H locs 0 0 (gk_RoM Pr below args s) (F0 m pc ls []) :=
  vx_ret (W.vret C.1 C.2.1 C.2.2.2.2.2.1 (fun t ht _ => ⟨⟨_, rfl, hv⟩, hS.F ht⟩) hS.2.2 hd C.2.2.2.2.2.2.1)
/-- a call of such a method in such a method -/
theorem gk_roS {Qr : Option Value → Prop} {y2 : MethodName} {c2 : ByteArray} {nL2 d2 idx mm : Nat} {rt2 : Option FieldType} {as : List Value} (C : gk_RoC own cc nL d rt b t N f p R s m args meth c) (hS : va_S (fun q => s.heap.size ≤ q) s.heap H locs) (hls : ls.size = nL) (hM : gk_Ro l y2 (.code y2 c2 nL2 rt2) d2 b t N f as Qr) (hd2 : d2 + 1 ≤ d ∧ nL2 ≤ 17)
    (hpl : y2.cls ≠ "java/lang/invoke/MethodHandle" ∧ y2.cls ≠ "java/lang/invoke/VarHandle" ∧ (parseMethodDescriptor y2.desc).map (fun q => q.parameters.length) = some mm) (hcw : Jvm.Cond.code y2 c2 nL2 rt2 ∈ gk_W1) (hini : Jvm.Cond.initialized y2.cls ∈ gk_W1) (hst : Jvm.Cond.static y2 ∈ gk_W1) (hlk : Jvm.Cond.methodLink own idx y2 ∈ gk_W1) (hm : as.length = mm) (h8 : (rest.map Value.category).sum ≤ 8) (hdg : decode cc pc = .ok (.invokestatic idx, 3))
    (kk : ∀ (r : Option Value) (H1 : Heap) (locs1 : List Loc), Qr r → va_S (fun q => s.heap.size ≤ q) s.heap H1 locs1 → W p l e R s m args below meth c H1 locs1 0 0 Q (F0 m (pc + 3) ls (r.toList ++ rest))) : W p l e R s m args below meth c H locs 0 0 Q (F0 m pc ls (as.reverse ++ rest)) := by
  obtain ⟨hx, hb, hml, hown, hts, hr, hlocks, ⟨hR1, hR2⟩, hE⟩ := C
  have hG : GoodIn gk_W1 (Jvm.Cond.code y2 c2 nL2 rt2 :: gk_W1) := fun w hw => by
    rcases List.mem_cons.mp hw with rfl | hw
    · exact ⟨hcw, gk_W1_good hcw⟩
    · exact ⟨hw, gk_W1_good hw⟩
  have hroom : (gk_rm d2 0).frames + 1 ≤ R.frames ∧ 8 + (nL2 + 11) + (gk_rm d2 0).locals ≤ R.locals := by
    simp only [gk_rm]
    omega
  have cb := callB_of (args := args) (s := s) (own := own) (index := idx) (R := R) (mc := 0) (ms := 0) mm hts hG rfl rfl rfl (hts _ hini) (hts _ hlk) hpl hroom
  have hrl : 2 * (F0 m pc ls (as.reverse ++ rest)).monitorRoom + (rest.map fun v => v.category).sum ≤ 8 := by
    have h9 : (rest.map fun v => v.category).sum ≤ 8 := h8
    simp only [JFrame.monitorRoom]
    omega
  refine gk_roR (va_runS ⟨hx, hb, hml, hown, hts⟩ (gk_met (hM H.size) (fun _ _ _ h => h)) ⟨cb, hts _ hst⟩ ⟨gk_Ro_blind, fun U hU hW => ⟨rfl, by rw [hU], by rw [hU]; exact hE.go hW (fun q h9 h10 => hS.2.1 q h9 h10) (fun q hq => Nat.le_trans hS.1 hq)⟩⟩ rfl hm hls rfl hrl hdg ⟨Nat.zero_le _, Nat.zero_le _⟩) hS (fun q hq => Nat.le_trans hS.1 hq) kk
theorem gk_roI {Qr : Option Value → Prop} {y2 : MethodName} {c2 : ByteArray} {nL2 d2 idx mm : Nat} {rt2 : Option FieldType} {as : List Value} (C : gk_RoC own cc nL d rt b t N f p R s m args meth c) (hS : va_S (fun q => s.heap.size ≤ q) s.heap H locs) (hls : ls.size = nL) (hM : gk_Ro l y2 (.code y2 c2 nL2 rt2) d2 b t N f (.ref b :: as) Qr) (hd2 : d2 + 1 ≤ d ∧ nL2 ≤ 17)
    (hpl : y2.cls = "java/lang/String" ∧ y2.cls ≠ "java/lang/invoke/MethodHandle" ∧ y2.cls ≠ "java/lang/invoke/VarHandle" ∧ (parseMethodDescriptor y2.desc).map (fun q => q.parameters.length) = some mm) (hcw : Jvm.Cond.code y2 c2 nL2 rt2 ∈ gk_W1) (hini : Jvm.Cond.initialized y2.cls ∈ gk_W1) (hin : Jvm.Cond.instanceMethod y2 ∈ gk_W1) (hse : Jvm.Cond.selects "java/lang/String" y2 y2 ∈ gk_W1) (hlk : Jvm.Cond.methodLink own idx y2 ∈ gk_W1) (hm : as.length = mm) (h8 : (rest.map Value.category).sum ≤ 8) (hdg : decode cc pc = .ok (.invokevirtual idx, 3))
    (kk : ∀ (r : Option Value) (H1 : Heap) (locs1 : List Loc), Qr r → va_S (fun q => s.heap.size ≤ q) s.heap H1 locs1 → W p l e R s m args below meth c H1 locs1 0 0 Q (F0 m (pc + 3) ls (r.toList ++ rest))) : W p l e R s m args below meth c H locs 0 0 Q (F0 m pc ls (as.reverse ++ .ref b :: rest)) := by
  obtain ⟨hx, hb, hml, hown, hts, hr, hlocks, ⟨hR1, hR2⟩, hE⟩ := C
  have hG : GoodIn gk_W1 (Jvm.Cond.code y2 c2 nL2 rt2 :: gk_W1) := fun w hw => by
    rcases List.mem_cons.mp hw with rfl | hw
    · exact ⟨hcw, gk_W1_good hcw⟩
    · exact ⟨hw, gk_W1_good hw⟩
  have hroom : (gk_rm d2 0).frames + 1 ≤ R.frames ∧ 8 + (nL2 + 11) + (gk_rm d2 0).locals ≤ R.locals := by
    simp only [gk_rm]
    omega
  have cb := callB_of (args := args) (s := s) (own := own) (index := idx) (R := R) (mc := 0) (ms := 0) mm hts hG rfl rfl rfl (hts _ hini) (hts _ hlk) hpl.2 hroom
  have hrl : 2 * (F0 m pc ls (as.reverse ++ .ref b :: rest)).monitorRoom + (rest.map fun v => v.category).sum ≤ 8 := by
    have h9 : (rest.map fun v => v.category).sum ≤ 8 := h8
    simp only [JFrame.monitorRoom]
    omega
  obtain ⟨cell, r1, r2, r3, -⟩ := hE.1.kept hS.2.1
  refine gk_roR (va_runV ⟨hx, hb, hml, hown, hts⟩ (gk_met (hM H.size) (fun _ _ _ h => h)) ⟨cb, hts _ hin, hts _ hse⟩ ⟨gk_Ro_blind, ⟨cell, r1, r2, r3⟩, fun U hU hW => ⟨rfl, by rw [hU], by rw [hU]; exact hE.go hW (fun q h9 h10 => hS.2.1 q h9 h10) (fun q hq => Nat.le_trans hS.1 hq)⟩⟩ rfl hm hls rfl hrl hdg ⟨Nat.zero_le _, Nat.zero_le _⟩) hS (fun q hq => Nat.le_trans hS.1 hq) kk
end GKRO
/-- its contract out of its walk -/
theorem gk_roM {l : Launch} {y : MethodName} {cc : ByteArray} {nL d : Nat} {rt : Option FieldType} {own : String} {b t N : Nat} {f : Nat → Int32} {as : List Value} {Pr : Option Value → Prop} (hy : plainFor y = true) (hyo : y.cls = own) (hle : (lg_sl as).length ≤ nL)
    (body : ∀ (p : Program) (e : Env) (R : Room) (s : State) (m : MethodId) (args : Array Value) (below : List Frame) (meth : Method) (c : Code) (ls : Array Slot), gk_RoC own cc nL d rt b t N f p R s m args meth c → lv_has ls nL (lv_args 0 as) → W p l e R s m args below meth c s.heap [] 0 0 (gk_RoM Pr below args s) (F0 m 0 ls [])) : gk_Ro l y (.code y cc nL rt) d b t N f as Pr := by
  intro sz
  refine gk_ofWF (cc := cc) (maxL := nL) (ret := rt) hy rfl ?_
  intro p e s m args below meth c s₁ B hml htab hv
  obtain ⟨rfl, hsz, hE⟩ := hv
  have hts := atoms_spec (ws := Jvm.Cond.code y cc nL rt :: gk_W1) B.pre
  have hown : s.vm.findClass own = some m.cls := by rw [← hyo]; exact findClass_of_methodNamed B.named
  subst hsz
  rw [lg_entry_eq]
  exact body p e _ s m _ below meth c _ ⟨B.exec, B.bytes, hml, hown, fun w h => hts w (List.mem_cons_of_mem _ h), B.returns, B.notSynchronized, ⟨Nat.le_refl _, Nat.le_refl _⟩, hE⟩ (lv_entry as hle)
theorem gk_mono {ι : Type} {l : Launch} {y : MethodName} {ws : List Cond} {rm : Room} {Pc : ι → Array Value → State → Prop} {Pc2 : Array Value → State → Prop} {Qc Qc2 : Array Value → State → Outcome → State → Prop} {XC XC2 : String → State → State → Prop} {mc ms : Nat} {free free2 : Addr → Prop} (h : ∀ i, vx_Met l y ws rm (Pc i) Qc XC mc ms free) (hP : ∀ a s, Pc2 a s → ∃ i, Pc i a s) (hQ : ∀ a st o t, Pc2 a st → Qc a st o t → Qc2 a st o t) (hX : ∀ E st t, ¬ XC E st t) (hf : ∀ q, free q → free2 q) : vx_Met l y ws rm Pc2 Qc2 XC2 mc ms free2 := by
  intro p e h1 h2 h3 s m args below h4 h5 h6 h7
  obtain ⟨i, hi⟩ := hP _ _ h6
  obtain ⟨n, o, g1, g2, g3, g4⟩ := h i p e h1 h2 h3 s m args below h4 h5 hi h7
  refine ⟨n, o, g1, g2, g3, ?_⟩
  rcases g4 with ⟨g4, L, g5, g6⟩ | ⟨q, -, E, ce, L, hX2, -⟩
  · exact Or.inl ⟨hQ _ _ _ _ h6 g4, L, g5, fun q hq => hf _ (g6 q hq)⟩
  · exact absurd hX2 (hX _ _ _)
theorem ro_J0_coder_7d493 {l : Launch} {b t N : Nat} {f : Nat → Int32} : gk_Ro l yJ0_coder_7d493 (.code yJ0_coder_7d493 cJ0_coder_7d493 1 (some .byte)) 0 b t N f [.ref b] (fun r => r = some (.int 0)) := by
  refine gk_roM (own := RJ0) (by decide) rfl (Nat.le_of_ble_eq_true rfl) ?_
  intro p e R s m args below meth c ls C hl
  have hx := C.1
  have hb := C.2.1
  have hts := C.2.2.2.2.1
  have hown := C.2.2.2.1
  have hE := C.2.2.2.2.2.2.2.2
  have hS : va_S (fun q => s.heap.size ≤ q) s.heap s.heap [] := va_S.rf
  have hl : lv_has ls 1 [(0, .ref b)] := hl
  refine va_gets hx hb hE.2.2.2.2.1 hS hown (hts _ (gk_wm 535 (by decide +kernel))) (fun _ h => h) dJ0_coder_7d493_0 ?_
  refine lv_if_eq hx hb (tgt := 13) dJ0_coder_7d493_3 (by decide) (fun h => absurd h (by decide)) (fun _ => ?_)
  refine lv_aload_n hx hb dJ0_coder_7d493_6 rfl (lv_at hl 0 rfl) ?_
  refine vk_getf hx hb hE.2.1 hS hown (hts _ (gk_wm 1803 (by decide +kernel))) (fun _ h => h) dJ0_coder_7d493_7 ?_
  refine lv_goto hx hb (tgt := 14) dJ0_coder_7d493_10 (by decide) ?_
  exact gk_roZ C hS rfl rfl dJ0_coder_7d493_14
theorem ro_J0_isLatin1_aae02 {l : Launch} {b t N : Nat} {f : Nat → Int32} : gk_Ro l yJ0_isLatin1_aae02 (.code yJ0_isLatin1_aae02 cJ0_isLatin1_aae02 1 (some .boolean)) 0 b t N f [.ref b] (fun r => r = some (.int 1)) := by
  refine gk_roM (own := RJ0) (by decide) rfl (Nat.le_of_ble_eq_true rfl) ?_
  intro p e R s m args below meth c ls C hl
  have hx := C.1
  have hb := C.2.1
  have hts := C.2.2.2.2.1
  have hown := C.2.2.2.1
  have hE := C.2.2.2.2.2.2.2.2
  have hS : va_S (fun q => s.heap.size ≤ q) s.heap s.heap [] := va_S.rf
  have hl : lv_has ls 1 [(0, .ref b)] := hl
  refine va_gets hx hb hE.2.2.2.2.1 hS hown (hts _ (gk_wm 535 (by decide +kernel))) (fun _ h => h) dJ0_isLatin1_aae02_0 ?_
  refine lv_if_eq hx hb (tgt := 17) dJ0_isLatin1_aae02_3 (by decide) (fun h => absurd h (by decide)) (fun _ => ?_)
  refine lv_aload_n hx hb dJ0_isLatin1_aae02_6 rfl (lv_at hl 0 rfl) ?_
  refine vk_getf hx hb hE.2.1 hS hown (hts _ (gk_wm 1803 (by decide +kernel))) (fun _ h => h) dJ0_isLatin1_aae02_7 ?_
  refine lv_if_ne hx hb (tgt := 17) dJ0_isLatin1_aae02_10 (by decide) (fun h => absurd rfl h) (fun _ => ?_)
  refine lv_iconst (v := 1) hx hb dJ0_isLatin1_aae02_13 (by decide) ?_
  refine lv_goto hx hb (tgt := 18) dJ0_isLatin1_aae02_14 (by decide) ?_
  exact gk_roZ C hS (by decide) rfl dJ0_isLatin1_aae02_18
theorem ro_J3_checkIndex_8e157n {l : Launch} {b t N : Nat} {f : Nat → Int32} {i k : Int32} (h1 : ¬ i < 0) (h2 : i < k) : gk_Ro l yJ3_checkIndex_8e157 (.code yJ3_checkIndex_8e157 cJ3_checkIndex_8e157 3 (some .int)) 0 b t N f [.int i, .int k, .null] (fun r => r = some (.int i)) := by
  refine gk_roM (own := RJ3) (by decide) rfl (Nat.le_of_ble_eq_true rfl) ?_
  intro p e R s m args below meth c ls C hl
  have hx := C.1
  have hb := C.2.1
  have hts := C.2.2.2.2.1
  have hown := C.2.2.2.1
  have hE := C.2.2.2.2.2.2.2.2
  have hS : va_S (fun q => s.heap.size ≤ q) s.heap s.heap [] := va_S.rf
  have hl : lv_has ls 3 [(0, .int i), (1, .int k), (2, .null)] := hl
  refine lv_iload_n hx hb dJ3_checkIndex_8e157_0 rfl (lv_at hl 0 rfl) ?_
  refine lv_if_lt hx hb (tgt := 9) dJ3_checkIndex_8e157_1 (by decide) (fun h => absurd h h1) (fun _ => ?_)
  refine lv_iload_n hx hb dJ3_checkIndex_8e157_4 rfl (lv_at hl 0 rfl) ?_
  refine lv_iload_n hx hb dJ3_checkIndex_8e157_5 rfl (lv_at hl 1 rfl) ?_
  refine lv_icmp_lt hx hb (tgt := 16) dJ3_checkIndex_8e157_6 (by decide) (fun _ => ?_) (fun h => absurd h2 h)
  refine lv_iload_n hx hb dJ3_checkIndex_8e157_16 rfl (lv_at hl 0 rfl) ?_
  exact gk_roZ C hS rfl rfl dJ3_checkIndex_8e157_17
theorem ro_J3_checkIndex_8e157r {l : Launch} {b t N : Nat} {f : Nat → Int32} {i k : Int32} {a : Nat} (h1 : ¬ i < 0) (h2 : i < k) : gk_Ro l yJ3_checkIndex_8e157 (.code yJ3_checkIndex_8e157 cJ3_checkIndex_8e157 3 (some .int)) 0 b t N f [.int i, .int k, .ref a] (fun r => r = some (.int i)) := by
  refine gk_roM (own := RJ3) (by decide) rfl (Nat.le_of_ble_eq_true rfl) ?_
  intro p e R s m args below meth c ls C hl
  have hx := C.1
  have hb := C.2.1
  have hts := C.2.2.2.2.1
  have hown := C.2.2.2.1
  have hE := C.2.2.2.2.2.2.2.2
  have hS : va_S (fun q => s.heap.size ≤ q) s.heap s.heap [] := va_S.rf
  have hl : lv_has ls 3 [(0, .int i), (1, .int k), (2, .ref a)] := hl
  refine lv_iload_n hx hb dJ3_checkIndex_8e157_0 rfl (lv_at hl 0 rfl) ?_
  refine lv_if_lt hx hb (tgt := 9) dJ3_checkIndex_8e157_1 (by decide) (fun h => absurd h h1) (fun _ => ?_)
  refine lv_iload_n hx hb dJ3_checkIndex_8e157_4 rfl (lv_at hl 0 rfl) ?_
  refine lv_iload_n hx hb dJ3_checkIndex_8e157_5 rfl (lv_at hl 1 rfl) ?_
  refine lv_icmp_lt hx hb (tgt := 16) dJ3_checkIndex_8e157_6 (by decide) (fun _ => ?_) (fun h => absurd h2 h)
  refine lv_iload_n hx hb dJ3_checkIndex_8e157_16 rfl (lv_at hl 0 rfl) ?_
  exact gk_roZ C hS rfl rfl dJ3_checkIndex_8e157_17
theorem ro_J0_checkIndex_df160 {l : Launch} {b t N : Nat} {f : Nat → Int32} {i k : Int32} (h1 : ¬ i < 0) (h2 : i < k) : gk_Ro l yJ0_checkIndex_df160 (.code yJ0_checkIndex_df160 cJ0_checkIndex_df160 2 none) 1 b t N f [.int i, .int k] (fun r => r = none) := by
  refine gk_roM (own := RJ0) (by decide) rfl (Nat.le_of_ble_eq_true rfl) ?_
  intro p e R s m args below meth c ls C hl
  have hx := C.1
  have hb := C.2.1
  have hts := C.2.2.2.2.1
  have hown := C.2.2.2.1
  have hE := C.2.2.2.2.2.2.2.2
  have hS : va_S (fun q => s.heap.size ≤ q) s.heap s.heap [] := va_S.rf
  have hl : lv_has ls 2 [(0, .int i), (1, .int k)] := hl
  refine lv_iload_n hx hb dJ0_checkIndex_df160_0 rfl (lv_at hl 0 rfl) ?_
  refine lv_iload_n hx hb dJ0_checkIndex_df160_1 rfl (lv_at hl 1 rfl) ?_
  rcases hE.2.2.2.2.2 with hZ | ⟨a, hZ⟩
  · refine va_gets hx hb hZ hS hown (hts _ (gk_wm 552 (by decide +kernel))) (fun _ h => h) dJ0_checkIndex_df160_2 ?_
    refine gk_roS (mm := 3) C hS hl.1 (rest := []) (as := [.int i, .int k, .null]) (ro_J3_checkIndex_8e157n h1 h2) ⟨by decide, by decide⟩ ⟨by decide, by decide, by decide +kernel⟩ (gk_wm 556 (by decide +kernel)) (gk_wm 111 (by decide +kernel)) (gk_wm 555 (by decide +kernel)) (gk_wm 554 (by decide +kernel)) rfl (Nat.le_of_ble_eq_true rfl) dJ0_checkIndex_df160_5 (fun r H1 locs1 hr hS => ?_)
    subst hr
    refine lv_pop hx hb dJ0_checkIndex_df160_8 rfl ?_
    exact gk_roV C hS rfl dJ0_checkIndex_df160_9
  · refine va_gets hx hb hZ hS hown (hts _ (gk_wm 552 (by decide +kernel))) (fun _ h => h) dJ0_checkIndex_df160_2 ?_
    refine gk_roS (mm := 3) C hS hl.1 (rest := []) (as := [.int i, .int k, .ref a]) (ro_J3_checkIndex_8e157r h1 h2) ⟨by decide, by decide⟩ ⟨by decide, by decide, by decide +kernel⟩ (gk_wm 556 (by decide +kernel)) (gk_wm 111 (by decide +kernel)) (gk_wm 555 (by decide +kernel)) (gk_wm 554 (by decide +kernel)) rfl (Nat.le_of_ble_eq_true rfl) dJ0_checkIndex_df160_5 (fun r H1 locs1 hr hS => ?_)
    subst hr
    refine lv_pop hx hb dJ0_checkIndex_df160_8 rfl ?_
    exact gk_roV C hS rfl dJ0_checkIndex_df160_9
theorem ro_J1_charAt_3b067 {l : Launch} {b t N : Nat} {f : Nat → Int32} {k : Nat} (hk : k < N) (hN : N < 100000) (h1 : ((f k &&& 255).toUInt32 % 65536).toInt32 = f k) (h2 : narrow .char (.int (f k)) = .int (f k)) : gk_Ro l yJ1_charAt_3b067 (.code yJ1_charAt_3b067 cJ1_charAt_3b067 2 (some .char)) 2 b t N f [.ref t, .int (nI k)] (fun r => r = some (.int (f k))) := by
  refine gk_roM (own := RJ1) (by decide) rfl (Nat.le_of_ble_eq_true rfl) ?_
  intro p e R s m args below meth c ls C hl
  have hx := C.1
  have hb := C.2.1
  have hts := C.2.2.2.2.1
  have hown := C.2.2.2.1
  have hE := C.2.2.2.2.2.2.2.2
  have hS : va_S (fun q => s.heap.size ≤ q) s.heap s.heap [] := va_S.rf
  have hl : lv_has ls 2 [(0, .ref t), (1, .int (nI k))] := hl
  refine lv_iload_n hx hb dJ1_charAt_3b067_0 rfl (lv_at hl 1 rfl) ?_
  refine lv_aload_n hx hb dJ1_charAt_3b067_1 rfl (lv_at hl 0 rfl) ?_
  refine va_tlen hx hb hE.2.2.2.1 hS rfl dJ1_charAt_3b067_2 ?_
  refine gk_roS (mm := 2) C hS hl.1 (rest := []) (as := [.int (nI k), .int (Int32.ofNat N)]) (ro_J0_checkIndex_df160 (nI_pos (by omega)) (nI_lt hk (by omega))) ⟨by decide, by decide⟩ ⟨by decide, by decide, by decide +kernel⟩ (gk_wm 551 (by decide +kernel)) (gk_wm 109 (by decide +kernel)) (gk_wm 550 (by decide +kernel)) (gk_wm 549 (by decide +kernel)) rfl (Nat.le_of_ble_eq_true rfl) dJ1_charAt_3b067_3 (fun r H1 locs1 hr hS => ?_)
  subst hr
  refine lv_aload_n hx hb dJ1_charAt_3b067_6 rfl (lv_at hl 0 rfl) ?_
  refine lv_iload_n hx hb dJ1_charAt_3b067_7 rfl (lv_at hl 1 rfl) ?_
  refine va_tb hx hb hE.2.2.2.1 hS (vp_in_nI hk (by omega)) (v := .int (f k)) (by rw [nI_clamp (by omega)]) dJ1_charAt_3b067_8 ?_
  refine lv_sipush (v := 255) hx hb dJ1_charAt_3b067_9 (by decide) ?_
  refine lv_iand hx hb dJ1_charAt_3b067_12 ?_
  refine lv_i2c hx hb dJ1_charAt_3b067_13 h1 ?_
  exact gk_roZ C hS h2 rfl dJ1_charAt_3b067_14
theorem ro_J0_length_8abf5 {l : Launch} {b t N : Nat} {f : Nat → Int32} (hN : Int32.ofNat N = nI N) (h1 : nI N >>> ((0 : Int32) &&& 31) = nI N) : gk_Ro l yJ0_length_8abf5 (.code yJ0_length_8abf5 cJ0_length_8abf5 1 (some .int)) 1 b t N f [.ref b] (fun r => r = some (.int (nI N))) := by
  refine gk_roM (own := RJ0) (by decide) rfl (Nat.le_of_ble_eq_true rfl) ?_
  intro p e R s m args below meth c ls C hl
  have hx := C.1
  have hb := C.2.1
  have hts := C.2.2.2.2.1
  have hown := C.2.2.2.1
  have hE := C.2.2.2.2.2.2.2.2
  have hS : va_S (fun q => s.heap.size ≤ q) s.heap s.heap [] := va_S.rf
  have hl : lv_has ls 1 [(0, .ref b)] := hl
  refine lv_aload_n hx hb dJ0_length_8abf5_0 rfl (lv_at hl 0 rfl) ?_
  refine vk_getf hx hb hE.2.2.1 hS hown (hts _ (gk_wm 1802 (by decide +kernel))) (fun _ h => h) dJ0_length_8abf5_1 ?_
  refine va_tlen hx hb hE.2.2.2.1 hS (v := nI N) hN dJ0_length_8abf5_4 ?_
  refine lv_aload_n hx hb dJ0_length_8abf5_5 rfl (lv_at hl 0 rfl) ?_
  refine gk_roI C hS hl.1 (rest := [.int (nI N)]) (as := []) ro_J0_coder_7d493 ⟨by decide, by decide⟩ ⟨rfl, by decide, by decide, by decide +kernel⟩ (gk_wm 534 (by decide +kernel)) (gk_wm 109 (by decide +kernel)) (gk_wm 532 (by decide +kernel)) (gk_wm 533 (by decide +kernel)) (gk_wm 531 (by decide +kernel)) rfl (Nat.le_of_ble_eq_true rfl) dJ0_length_8abf5_6 (fun r H1 locs1 hr hS => ?_)
  subst hr
  refine lv_ishr hx hb dJ0_length_8abf5_9 ?_
  rw [h1]
  exact gk_roZ C hS rfl rfl dJ0_length_8abf5_10
theorem ro_J0_charAt_5068e {l : Launch} {b t N : Nat} {f : Nat → Int32} {k : Nat} (hk : k < N) (hN : N < 100000) (h1 : ((f k &&& 255).toUInt32 % 65536).toInt32 = f k) (h2 : narrow .char (.int (f k)) = .int (f k)) : gk_Ro l yJ0_charAt_5068e (.code yJ0_charAt_5068e cJ0_charAt_5068e 2 (some .char)) 3 b t N f [.ref b, .int (nI k)] (fun r => r = some (.int (f k))) := by
  refine gk_roM (own := RJ0) (by decide) rfl (Nat.le_of_ble_eq_true rfl) ?_
  intro p e R s m args below meth c ls C hl
  have hx := C.1
  have hb := C.2.1
  have hts := C.2.2.2.2.1
  have hown := C.2.2.2.1
  have hE := C.2.2.2.2.2.2.2.2
  have hS : va_S (fun q => s.heap.size ≤ q) s.heap s.heap [] := va_S.rf
  have hl : lv_has ls 2 [(0, .ref b), (1, .int (nI k))] := hl
  refine lv_aload_n hx hb dJ0_charAt_5068e_0 rfl (lv_at hl 0 rfl) ?_
  refine gk_roI C hS hl.1 (rest := []) (as := []) ro_J0_isLatin1_aae02 ⟨by decide, by decide⟩ ⟨rfl, by decide, by decide, by decide +kernel⟩ (gk_wm 545 (by decide +kernel)) (gk_wm 109 (by decide +kernel)) (gk_wm 543 (by decide +kernel)) (gk_wm 544 (by decide +kernel)) (gk_wm 542 (by decide +kernel)) rfl (Nat.le_of_ble_eq_true rfl) dJ0_charAt_5068e_1 (fun r H1 locs1 hr hS => ?_)
  subst hr
  refine lv_if_eq hx hb (tgt := 16) dJ0_charAt_5068e_4 (by decide) (fun h => absurd h (by decide)) (fun _ => ?_)
  refine lv_aload_n hx hb dJ0_charAt_5068e_7 rfl (lv_at hl 0 rfl) ?_
  refine vk_getf hx hb hE.2.2.1 hS hown (hts _ (gk_wm 1802 (by decide +kernel))) (fun _ h => h) dJ0_charAt_5068e_8 ?_
  refine lv_iload_n hx hb dJ0_charAt_5068e_11 rfl (lv_at hl 1 rfl) ?_
  refine gk_roS (mm := 2) C hS hl.1 (rest := []) (as := [.ref t, .int (nI k)]) (ro_J1_charAt_3b067 hk hN h1 h2) ⟨by decide, by decide⟩ ⟨by decide, by decide, by decide +kernel⟩ (gk_wm 548 (by decide +kernel)) (gk_wm 110 (by decide +kernel)) (gk_wm 547 (by decide +kernel)) (gk_wm 546 (by decide +kernel)) rfl (Nat.le_of_ble_eq_true rfl) dJ0_charAt_5068e_12 (fun r H1 locs1 hr hS => ?_)
  subst hr
  exact gk_roZ C hS h2 rfl dJ0_charAt_5068e_15
/-- the bytes of a String constant -/
def sB (q k : Nat) : Int32 := (gk_sq q).2.2.2.getD k 0
def sN (q : Nat) : Nat := (gk_sq q).2.2.2.length
theorem sB_ok : ∀ q, q < 19 → sN q < 100 ∧ Int32.ofNat (sN q) = nI (sN q) ∧ nI (sN q) >>> ((0 : Int32) &&& 31) = nI (sN q) ∧ ∀ k, k < sN q → ((sB q k &&& 255).toUInt32 % 65536).toInt32 = sB q k ∧ narrow .char (.int (sB q k)) = .int (sB q k) := by decide +kernel
theorem gk_ofRo {l : Launch} {y : MethodName} {cw : Jvm.Cond} {d q : Nat} {S : gk_S} (hS : ∀ as n fl x yy K, S as n fl x yy K → ∃ q as2, q < 19 ∧ as = .ref (6000 + q) :: as2 ∧ (∀ ad, as2.map (gk_cz ad) = as2) ∧ ∃ v : Int32, K (.inl (some (.int v))) n fl x yy ∧ ∀ b t, gk_Ro l y cw d b t (sN q) (sB q) (.ref b :: as2) (fun r => r = some (.int v))) : gk_Mt l y (cw :: gk_W1) d 0 S := by
  intro D cl ad n fl x yy sz as K hSK has
  obtain ⟨q, as2, hq, rfl, has2, v, hK, hM⟩ := hS as n fl x yy K hSK
  refine gk_mono (ι := Nat) (Pc := fun t => gk_RoB (ad (6000 + q)) t (sN q) (sB q) (.ref (ad (6000 + q)) :: as2) sz) (fun t => hM (ad (6000 + q)) t sz) ?_ ?_ (fun _ _ _ h => h) (fun q hq => Or.inr hq)
  · rintro a s ⟨rfl, hsz, hIn, hP, hD0, hE⟩
    obtain ⟨e1, e2, e3, e4, e5, ⟨adV, e6⟩, e7, e8, e9, e10, e11⟩ := hE
    obtain ⟨f1, f2, f3, f4⟩ := e6 q hq
    have hAB : ∀ q : Nat, sz ≤ q → va_A (gk_w cl ad n fl x yy) sz q := fun q h => Or.inr h
    refine ⟨adV q, ?_, hsz, f1.narrow hAB, f2.narrow hAB, f3.narrow hAB, f4.narrow hAB, e7.narrow hAB, e8.narrow hAB⟩
    rw [List.map_cons, has2 ad]
    rfl
  · rintro a st o t ⟨rfl, hsz, hIn, hP, hD0, hE⟩ ⟨⟨r, rfl, rfl⟩, hF⟩
    refine ⟨⟨some (.int v), ad, rfl, n, fl, x, yy, fun _ _ => rfl, Nat.le_refl n, hIn, fun _ _ => rfl, hK, gk_kept hP (fun q h => hF.2 q h (by omega)), hD0.self, fun v h => ?_⟩, hF.1, fun q h1 h2 => hF.2 q h1 (fun h => h2 (Or.inr h))⟩
    cases h
    trivial

section GKV
variable {c : ByteArray} {P : gk_C} {cs : Nat → Option gk_M0} {rt : Option FieldType} {uf : Nat} {sc : Option Nat} {K : gk_K} {V : gk_V}
variable {L : List (Option Value)} {r : List Value} {n : Nat} {fl : gk_F} {x : gk_X} {y : gk_Y} {u pc pc2 : Nat}
def S_J0_length_8abf5 : gk_S := fun as n fl x y K => ∃ (q : Nat), as = [.ref (6000+q)] ∧ (n = 202 ∧ fl = gk_fT) ∧ (q < 19) ∧ (K (.inl (some (.int (nI (sN q))))) n fl x y)
theorem r_J0_length_8abf5 (w : gk_W c P cs (fun _ _ => none) rt uf sc K V) {idx : Nat} {q : Nat} (hd : decode c pc = .ok (.invokevirtual idx, 3)) (hp : pc + 3 = pc2) (hc : cs idx = some (3, 0, 1, 0, S_J0_length_8abf5)) (h8 : Nat.ble (r.map Value.category).sum 8 = true) (hq : q < 19) (hp0 : q < 19) (kk0 : V pc2 L ((.int (nI (sN q))) :: r) 202 gk_fT x y u) : V pc L (.ref (6000+q) :: r) 202 gk_fT x y u :=
  g_callv w hd hp hc (as := [.ref (6000+q)]) rfl h8 rfl rfl rfl (Or.inr (Or.inr ⟨rfl, _, _, rfl, hq⟩)) (Or.inl rfl) ⟨q, rfl, ⟨rfl, rfl⟩, hp0, kk0⟩
def S_J0_charAt_5068e : gk_S := fun as n fl x y K => ∃ (v : Int32) (q : Nat) (k : Nat), as = [.ref (6000+q), .int v] ∧ (n = 202 ∧ fl = gk_fT) ∧ (q < 19) ∧ (v = nI k) ∧ (k < sN q) ∧ (K (.inl (some (.int (sB q k)))) n fl x y)
theorem r_J0_charAt_5068e (w : gk_W c P cs (fun _ _ => none) rt uf sc K V) {idx : Nat} {v : Int32} {q : Nat} {k : Nat} (hd : decode c pc = .ok (.invokevirtual idx, 3)) (hp : pc + 3 = pc2) (hc : cs idx = some (3, 0, 2, 0, S_J0_charAt_5068e)) (h8 : Nat.ble (r.map Value.category).sum 8 = true) (hq : q < 19) (hp0 : q < 19) (hp1 : v = nI k) (hp2 : k < sN q) (kk0 : V pc2 L ((.int (sB q k)) :: r) 202 gk_fT x y u) : V pc L (.int v :: .ref (6000+q) :: r) 202 gk_fT x y u :=
  g_callv w hd hp hc (as := [.ref (6000+q), .int v]) rfl h8 rfl rfl rfl (Or.inr (Or.inr ⟨rfl, _, _, rfl, hq⟩)) (Or.inl rfl) ⟨v, q, k, rfl, ⟨rfl, rfl⟩, hp0, hp1, hp2, kk0⟩
theorem M_J0_length_8abf5 {l : Launch} (_hl : l.stackTraces = false) : gk_Mt l yJ0_length_8abf5 (.code yJ0_length_8abf5 cJ0_length_8abf5 1 (some .int) :: gk_W1) 1 0 S_J0_length_8abf5 := gk_ofRo (q := 0) (fun as n fl x yy K h => by
  obtain ⟨q, rfl, -, hq, hK⟩ := h
  have h := sB_ok q hq
  exact ⟨q, [], hq, rfl, fun _ => rfl, nI (sN q), hK, fun b t => ro_J0_length_8abf5 h.2.1 h.2.2.1⟩)
theorem M_J0_charAt_5068e {l : Launch} (_hl : l.stackTraces = false) : gk_Mt l yJ0_charAt_5068e (.code yJ0_charAt_5068e cJ0_charAt_5068e 2 (some .char) :: gk_W1) 3 0 S_J0_charAt_5068e := gk_ofRo (q := 0) (fun as n fl x yy K h => by
  obtain ⟨v, q, k, rfl, -, hq, rfl, hk, hK⟩ := h
  have h := sB_ok q hq
  exact ⟨q, [.int (nI k)], hq, rfl, fun _ => rfl, sB q k, hK, fun b t => ro_J0_charAt_5068e hk (by omega) (h.2.2.2 k hk).1 (h.2.2.2 k hk).2⟩)
end GKV

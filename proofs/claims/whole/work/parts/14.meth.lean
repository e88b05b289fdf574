/-! THE ENGINE, 5: methods, calls -/
def gk_nl : List (String × Nat × MethodName × String) := [("TrackArray$Scene", 29, ⟨"TrackArray$Place", "<init>", "()V"⟩, "TrackArray"), ("TrackArray$Scene", 34, ⟨"TrackArray$Source", "<init>", "()V"⟩, "TrackArray"), ("TrackArray$Source", 11, ⟨"TrackArray$Place", "<init>", "()V"⟩, "TrackArray"), ("TrackArray$Scene", 35, ⟨"TrackArray$Microphone", "<init>", "()V"⟩, "TrackArray"), ("TrackArray", 29, ⟨"TrackArray$Path", "<init>", "()V"⟩, "TrackArray"), ("TrackArray", 36, ⟨"TrackArray$BeamFormer", "<init>", "()V"⟩, "TrackArray"), ("TrackArray$BeamFormer", 20, ⟨"TrackArray$Path", "<init>", "()V"⟩, "TrackArray"), ("TrackArray", 43, ⟨"TrackArray$TextBuffer", "<init>", "()V"⟩, "TrackArray"), ("TrackArray", 50, ⟨"TrackArray$SetupReader", "<init>", "()V"⟩, "TrackArray"), ("TrackArray$SetupReader", 17, ⟨"TrackArray$Tokens", "<init>", "()V"⟩, "TrackArray"), ("TrackArray$Path", 40, ⟨"TrackArray", "root", "(J)I"⟩, "TrackArray"), ("TrackArray$Source", 26, ⟨"TrackArray", "elementAt", "([II)I"⟩, "TrackArray"), ("TrackArray$Scene", 172, ⟨"TrackArray", "quotient", "(JJ)J"⟩, "TrackArray"), ("TrackArray$Tokens", 21, ⟨"TrackArray", "elementAt", "([II)I"⟩, "TrackArray"), ("TrackArray$SetupReader", 131, ⟨"TrackArray", "elementAt", "([II)I"⟩, "TrackArray"), ("TrackArray$Signal", 54, ⟨"TrackArray", "elementAt", "([II)I"⟩, "TrackArray"), ("TrackArray$Path", 48, ⟨"TrackArray", "quotient", "(JJ)J"⟩, "TrackArray"), ("TrackArray$BeamFormer", 93, ⟨"TrackArray", "elementAt", "([II)I"⟩, "TrackArray"), ("TrackArray$BeamFormer", 126, ⟨"TrackArray", "quotient", "(JJ)J"⟩, "TrackArray"), ("TrackArray$Signal", 46, ⟨"TrackArray", "quotient", "(JJ)J"⟩, "TrackArray")]
def gk_nest : List Jvm.Cond := gk_nl.map (fun q => .methodLinkNest q.1 q.2.1 q.2.2.1 q.2.2.2)
/-- the String constants: class, place, text, bytes -/
def gk_sl : List (String × Nat × String × List Int32) := [("TrackArray$Tokens", 71, "mic", [109, 105, 99]), ("TrackArray$Tokens", 77, "vehicle", [118, 101, 104, 105, 99, 108, 101]), ("TrackArray$Tokens", 79, "source", [115, 111, 117, 114, 99, 101]), ("TrackArray$Tokens", 81, "sound", [115, 111, 117, 110, 100]), ("TrackArray$Tokens", 83, "ground", [103, 114, 111, 117, 110, 100]), ("TrackArray$Tokens", 85, "noise", [110, 111, 105, 115, 101]), ("TrackArray$Tokens", 87, "spreading", [115, 112, 114, 101, 97, 100, 105, 110, 103]), ("TrackArray", 277, "out of range", [111, 117, 116, 32, 111, 102, 32, 114, 97, 110, 103, 101]), ("TrackArray", 284, "there are as many as possible", [116, 104, 101, 114, 101, 32, 97, 114, 101, 32, 97, 115, 32, 109, 97, 110, 121, 32, 97, 115, 32, 112, 111, 115, 115, 105, 98, 108, 101]), ("TrackArray", 281, "nothing has this number", [110, 111, 116, 104, 105, 110, 103, 32, 104, 97, 115, 32, 116, 104, 105, 115, 32, 110, 117, 109, 98, 101, 114]), ("TrackArray", 132, "nothing with this number is counted", [110, 111, 116, 104, 105, 110, 103, 32, 119, 105, 116, 104, 32, 116, 104, 105, 115, 32, 110, 117, 109, 98, 101, 114, 32, 105, 115, 32, 99, 111, 117, 110, 116, 101, 100]), ("TrackArray", 274, "nothing is saved there", [110, 111, 116, 104, 105, 110, 103, 32, 105, 115, 32, 115, 97, 118, 101, 100, 32, 116, 104, 101, 114, 101]), ("TrackArrayModel", 336, "mic", [109, 105, 99]), ("TrackArrayModel", 345, "vehicle", [118, 101, 104, 105, 99, 108, 101]), ("TrackArrayModel", 349, "source", [115, 111, 117, 114, 99, 101]), ("TrackArrayModel", 353, "sound", [115, 111, 117, 110, 100]), ("TrackArrayModel", 355, "ground", [103, 114, 111, 117, 110, 100]), ("TrackArrayModel", 357, "noise", [110, 111, 105, 115, 101]), ("TrackArrayModel", 359, "spreading", [115, 112, 114, 101, 97, 100, 105, 110, 103])]
def gk_sq (q : Nat) : String × Nat × String × List Int32 := gk_sl.getD q ("", 0, "", [])
def gk_nS : Nat := 19
/-- words that hold of the tables alone, and go on holding: of exceptions -/
def gk_face : List Jvm.Cond := [.declares ⟨"java/lang/RuntimeException", "<init>", "()V"⟩, .declares ⟨"java/lang/RuntimeException", "<init>", "(Ljava/lang/String;)V"⟩, .declares ⟨"java/lang/Exception", "<init>", "()V"⟩, .declares ⟨"java/lang/Exception", "<init>", "(Ljava/lang/String;)V"⟩, .declares ⟨"java/lang/Throwable", "<init>", "()V"⟩, .declares ⟨"java/lang/Throwable", "<init>", "(Ljava/lang/String;)V"⟩, .castable "java/lang/IllegalArgumentException" "java/lang/IllegalArgumentException", .castable "java/lang/IllegalStateException" "java/lang/IllegalStateException", .castable "java/lang/IndexOutOfBoundsException" "java/lang/IndexOutOfBoundsException"]
theorem gk_face_ok : ∀ w ∈ gk_face, w.faceAtom = true ∧ w.onTables = true := by decide +kernel
def gk_W1 : List Jvm.Cond := lw_tbl.filter goodWord
theorem gk_W1_in {w : Jvm.Cond} (h : w ∈ lw_tbl) (hg : goodWord w = true) : w ∈ gk_W1 := List.mem_filter.mpr ⟨h, hg⟩
theorem gk_W1_good {w : Jvm.Cond} (h : w ∈ gk_W1) : (w.onTables && w.keeps) = true ∨ ∃ ty, w = .arrayClass ty := good_of_word (List.mem_filter.mp h).2
/-- a String constant lies there -/
def gk_So (ad adV : Nat → Nat) (A : Nat → Prop) (U : State) (H : Heap) (q : Nat) : Prop := va_O "java/lang/String" (ad (6000 + q)) A U H ∧ va_OF "java/lang/String" "coder" "B" (.int 0) (ad (6000 + q)) A U H ∧ va_OF "java/lang/String" "value" "[B" (.ref (adV q)) (ad (6000 + q)) A U H ∧ va_T .byte (adV q) (gk_sq q).2.2.2.length (fun j => .int ((gk_sq q).2.2.2.getD j 0)) A U H
def gk_xn (ek : Nat) : String := ["java/lang/IllegalArgumentException", "java/lang/IllegalStateException", "java/lang/IndexOutOfBoundsException"].getD ek ""
/-- what stays the same all the time: tables, String constants, statics -/
def gk_E (D : va_G) (cl : Nat → ClassId) (A : Nat → Prop) (ad : Nat → Nat) (U : State) (H : Heap) : Prop :=
  va_K D vwCl (gk_tys cl) U ∧ (∀ w ∈ gk_nest, va_Nw w U) ∧ vx_Zq Bundle.tN "UNASSIGNED_STACK" Bundle.steD A U H ∧ vx_Zq Bundle.tN "SUPPRESSED_SENTINEL" Bundle.listD A U H ∧ (∀ q, q < gk_nS → vk_R (gk_sq q).1 (gk_sq q).2.1 (gk_sq q).2.2.1 (ad (6000 + q)) U) ∧ (∃ adV, ∀ q, q < gk_nS → gk_So ad adV A U H q) ∧ va_Z "java/lang/String" "COMPACT_STRINGS" "Z" (.int 1) A U H ∧ va_Zq "jdk/internal/util/Preconditions" "SIOOBE_FORMATTER" "Ljava/util/function/BiFunction;" A U H ∧ (∀ ci, ci < 11 → (ci = 3 ∨ ci = 6 ∨ ci = 1 ∨ ci = 4) → va_AO (gk_R ci) U) ∧ (∀ w ∈ gk_face, va_Nw w U) ∧ ∀ a b, a < 3 → b < 3 → a ≠ b → va_Nc (gk_xn a) (gk_xn b) U
theorem gk_E.go {D : va_G} {cl : Nat → ClassId} {A B : Nat → Prop} {ad ad2 : Nat → Nat} {s U : State} {H0 H : Heap} (h : gk_E D cl A ad s H0) (hW : s.WarmedH U.vm) (hk : ∀ q : Nat, q < H0.size → ¬ A q → H[q]? = H0[q]?) (hAB : ∀ q, B q → A q) (had : ∀ j, 1000 ≤ j → ad2 j = ad j) : gk_E D cl B ad2 U H := by
  obtain ⟨e1, e2, e3, e4, e5, ⟨adV, e6⟩, e7, e8, e9, e10, e11⟩ := h
  have ha : ∀ q : Nat, ad2 (6000 + q) = ad (6000 + q) := fun q => had _ (Nat.le_trans (Nat.le_of_ble_eq_true rfl) (Nat.le_add_right 6000 q))
  refine ⟨va_K.moved hW.alike e1, fun w hw => ?_, (vx_Zq.moved hW.alike (e3.kept hk)).narrow hAB, (vx_Zq.moved hW.alike (e4.kept hk)).narrow hAB, fun q hq => by rw [ha]; exact vk_R.warm hW (e5 q hq), ⟨adV, fun q hq => ?_⟩, (va_Z.moved hW.alike (e7.kept hk)).narrow hAB, (va_Zq.moved hW.alike (e8.kept hk)).narrow hAB, fun ci hc hc2 => va_AO.moved hW.alike (e9 ci hc hc2), fun w hw => ?_, fun a b h1 h2 h3 => va_Nc.moved hW.alike (e11 a b h1 h2 h3)⟩
  · have := e2 w hw
    obtain ⟨q, -, rfl⟩ := List.mem_map.mp hw
    exact va_Nw.warmM hW this
  · obtain ⟨f1, f2, f3, f4⟩ := e6 q hq
    unfold gk_So
    rw [ha]
    exact ⟨(va_O.moved hW.alike (f1.kept hk)).narrow hAB, (va_OF.moved hW.alike (f2.kept hk)).narrow hAB, (va_OF.moved hW.alike (f3.kept hk)).narrow hAB, (va_T.moved hW.alike (f4.kept hk)).narrow hAB⟩
  · obtain ⟨g1, g2⟩ := gk_face_ok w hw
    have h1 : w.before #[] (s.setVm U.vm) = true := Cond.faceAtom_setVm hW.alike w g1 (e10 w hw)
    exact va_tabs (u := s.setVm U.vm) (U := U) g2 rfl h1
def gk_ch : List String := ["java/lang/RuntimeException", "java/lang/Exception"]
def gk_rm (d uf : Nat) : Room := { frames := d, cells := uf, slots := 16 * uf, locals := 36 * d }
def gk_B (D : va_G) (cl : Nat → ClassId) (ad : Nat → Nat) (n : Nat) (fl : gk_F) (x : gk_X) (y : gk_Y) (sz : Nat) (U : State) : Prop :=
  U.heap.size = sz ∧ gk_In n fl ∧ va_P D vwCl (gk_w cl ad n fl x y) U.heap ∧ va_D (fun _ => True) (gk_w cl ad n fl x y) ∧ gk_E D cl (va_A (gk_w cl ad n fl x y) sz) ad U U.heap
def gk_pst (D : va_G) (cl : Nat → ClassId) (ad : Nat → Nat) (n : Nat) (x : gk_X) (K : gk_K) (Af : Nat → Prop) (o : gk_O) (ad2 : Nat → Nat) (t : State) : Prop :=
  ∃ (n2 : Nat) (fl2 : gk_F) (x2 : gk_X) (y2 : gk_Y), (∀ j, (j < n ∨ 1000 ≤ j) → ad2 j = ad j) ∧ n ≤ n2 ∧ gk_In n2 fl2 ∧ (∀ j, 1000 ≤ j → x2 j = x j) ∧ K o n2 fl2 x2 y2 ∧ va_P D vwCl (gk_w cl ad2 n2 fl2 x2 y2) t.heap ∧ va_D Af (gk_w cl ad2 n2 fl2 x2 y2) ∧ (∀ v, o = .inl (some v) → gk_rv n2 v)
def gk_Q (D : va_G) (cl : Nat → ClassId) (ad : Nat → Nat) (n : Nat) (x : gk_X) (K : gk_K) (Af : Nat → Prop) : Array Value → State → Outcome → State → Prop := fun _ st oc t =>
  (∃ (r : Option Value) (ad2 : Nat → Nat), oc = .returned (r.map (gk_cz ad2)) ∧ gk_pst D cl ad n x K Af (.inl r) ad2 t) ∧ va_F Af st t
def gk_XQ (D : va_G) (cl : Nat → ClassId) (ad : Nat → Nat) (n : Nat) (x : gk_X) (K : gk_K) (Af : Nat → Prop) : String → State → State → Prop := fun E st t =>
  (∃ (ek : Nat) (ad2 : Nat → Nat), E = gk_xn ek ∧ gk_pst D cl ad n x K Af (.inr ek) ad2 t) ∧ va_F Af st t
/-- a method's contract: d deep, uf dear -/
def gk_Mt (l : Launch) (y : MethodName) (ws : List Jvm.Cond) (d uf : Nat) (S : gk_S) : Prop :=
  ∀ (D : va_G) (cl : Nat → ClassId) (ad : Nat → Nat) (n : Nat) (fl : gk_F) (x : gk_X) (yy : gk_Y) (sz : Nat) (as : List Value) (K : gk_K), S as n fl x yy K → (∀ v ∈ as, gk_rv n v) →
    vx_Met l y ws (gk_rm d uf) (va_Pc (as.map (gk_cz ad)) (gk_B D cl ad n fl x yy sz)) (gk_Q D cl ad n x K (va_A (gk_w cl ad n fl x yy) sz)) (gk_XQ D cl ad n x K (va_A (gk_w cl ad n fl x yy) sz)) uf (16 * uf) (va_A (gk_w cl ad n fl x yy) sz)
theorem gk_blind {D : va_G} {cl : Nat → ClassId} {ad : Nat → Nat} {n : Nat} {fl : gk_F} {x : gk_X} {y : gk_Y} {sz : Nat} {as : List Value} : FrameBlind (va_Pc as (gk_B D cl ad n fl x y sz)) := by
  intro a U g mk h
  obtain ⟨h1, h2, h3, h4, h5, h6⟩ := h
  exact ⟨h1, h2, h3, h4, h5, h6.go (State.WarmedH.refl U) (fun _ _ _ => rfl) (fun _ h => h) (fun _ _ => rfl)⟩
section GKC
variable {p : Program} {l : Launch} {e : Env} {R : Room} {s : State} {m : MethodId} {args : Array Value} {below : List Frame} {meth : Method} {c : Code} {H : Heap} {locs : List Loc} {cells slots : Nat} {Q : State → Prop} {pc mc ms : Nat} {ls : Array Slot} {rest st0 : List Value} {free : Addr → Prop}
theorem gk_go {Qa : State → Outcome → State → Prop} {XC : String → State → State → Prop} (hr : vx_Run p l e R s m args below meth c H locs cells slots mc ms (F0 m pc ls st0) rest Qa XC free)
    (kk : ∀ (v : Option Value) (st₀ t : State) (L : List Loc), st₀.heap = H → s.WarmedH t.vm → Qa st₀ (.returned v) t → (∀ q ∈ L, free q.base) → W p l e R s m args below meth c t.heap (locs ++ L) (cells + mc) (slots + ms) Q (F0 m (pc + 3) ls (v.toList ++ rest)))
    (kx : ∀ (q : Addr) (st₀ t : State) (L : List Loc) (E : String) (ce : Cell), st₀.heap = H → s.WarmedH t.vm → XC E st₀ t → (∀ z ∈ L, free z.base) → t.heap[q]? = some ce → ce.vm = .none → s.vm.findClass E = some ce.cls → vx_W p l e R s m args below meth c t.heap (locs ++ L) (cells + mc) (slots + ms) Q (F0 m pc ls rest) q) :
    W p l e R s m args below meth c H locs cells slots Q (F0 m pc ls st0) := by
  intro T hT X
  rcases hr T hT X with ⟨v, st₀, t, T', L, h0, X', hL, e1, e2, hq, st⟩ | ⟨q, st₀, t, T', L, E, ce, h0, X', hL, e1, e2, hq, hce, hcv, hcl, st⟩
  · obtain ⟨t2, a1, b1⟩ := kk v st₀ t L h0 (by rw [← e2]; exact X'.warmed) hq hL T' e1 X'
    exact ⟨t2, st t2 a1, b1⟩
  · obtain ⟨t2, a1, b1⟩ := kx q st₀ t L E ce h0 (by rw [← e2]; exact X'.warmed) hq hL hce hcv hcl T' e1 X'
    exact ⟨t2, st.trans a1, b1⟩
theorem gk_run_of {Qa : State → Outcome → State → Prop} {XC : String → State → State → Prop} {g : JFrame} (hr : va_Run p l e R s m args below meth c H locs cells slots mc ms g rest Qa free) : vx_Run p l e R s m args below meth c H locs cells slots mc ms g rest Qa XC free := by
  intro T hT X
  obtain ⟨v, st₀, t, T', L, h0, X', hL, e1, e2, hq, st⟩ := hr T hT X
  exact Or.inl ⟨v, st₀, t, T', L, h0, X', hL, e1, e2, hq, st⟩
end GKC
/-- a callee that never throws -/
def gk_nt (S : gk_S) : Prop := ∀ as n fl x y K, S as n fl x y K → S as n fl x y (fun o n2 fl2 x2 y2 => match o with | .inl r => K (.inl r) n2 fl2 x2 y2 | .inr _ => False)
theorem gk_met {l : Launch} {y : MethodName} {ws : List Jvm.Cond} {rm : Room} {Pc : Array Value → State → Prop} {Qc : Array Value → State → Outcome → State → Prop} {XC : String → State → State → Prop} {mc ms : Nat} {free : Addr → Prop} (h : vx_Met l y ws rm Pc Qc XC mc ms free) (hno : ∀ E st t, ¬ XC E st t) : Met l y ws rm Pc Qc mc ms free := by
  intro p e h1 h2 h3 s m args below h4 h5 h6 h7
  obtain ⟨n, o, g1, g2, g3, g4⟩ := h p e h1 h2 h3 s m args below h4 h5 h6 h7
  refine ⟨n, o, g1, g2, g3, ?_⟩
  rcases g4 with g4 | ⟨q, -, E, ce, L, hX, -⟩
  · exact g4
  · exact absurd hX (hno _ _ _)
theorem gk_Q_mono {D : va_G} {cl : Nat → ClassId} {ad : Nat → Nat} {n : Nat} {x : gk_X} {K K2 : gk_K} {Af : Nat → Prop} (hK : ∀ r n fl x y, K (.inl r) n fl x y → K2 (.inl r) n fl x y) {a : Array Value} {st : State} {o : Outcome} {t : State} (h : gk_Q D cl ad n x K Af a st o t) : gk_Q D cl ad n x K2 Af a st o t := by
  obtain ⟨⟨r, ad2, e, n2, fl2, x2, y2, g1, g2, g3, g4, g5, g6⟩, hF⟩ := h
  exact ⟨⟨r, ad2, e, n2, fl2, x2, y2, g1, g2, g3, g4, hK _ _ _ _ _ g5, g6⟩, hF⟩


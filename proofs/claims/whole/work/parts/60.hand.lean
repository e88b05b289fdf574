/-! THE ENGINE, 8: a method with an exception table, that lets nothing out -/
/-- a row of the table: start, end, handler, catch; the exception, the place behind the handler's store, the local -/
abbrev gk_H : Type := Nat × Nat × Nat × Nat × Nat × Nat × Nat
def gk_fh : List gk_H → Nat → Nat → Option (Nat × Nat)
  | [], _, _ => none
  | h :: t, pc, ek => bif Nat.ble h.1 pc && Nat.ble (pc + 1) h.2.1 && Nat.beq h.2.2.2.2.1 ek then some (h.2.2.2.2.2.1, h.2.2.2.2.2.2) else gk_fh t pc ek
def gk_hr (z : gk_H) : Nat × Nat × Nat × Nat := (z.1, z.2.1, z.2.2.1, z.2.2.2.1)
theorem gk_fh_some {pc ek hp li : Nat} : ∀ {HS : List gk_H}, gk_fh HS pc ek = some (hp, li) → ∃ pre z suf, HS = pre ++ z :: suf ∧ (∀ q ∈ pre, (q.1 ≤ pc ∧ pc < q.2.1) → q.2.2.2.2.1 ≠ ek) ∧ (z.1 ≤ pc ∧ pc < z.2.1) ∧ z.2.2.2.2.1 = ek ∧ z.2.2.2.2.2.1 = hp ∧ z.2.2.2.2.2.2 = li
  | [], h => by cases h
  | h :: t, e => by
    unfold gk_fh at e
    cases hb : (Nat.ble h.1 pc && Nat.ble (pc + 1) h.2.1 && Nat.beq h.2.2.2.2.1 ek) with
    | true =>
      rw [hb, cond_true] at e
      simp only [Bool.and_eq_true, Nat.ble_eq, Nat.beq_eq] at hb
      have e2 := Option.some.inj e
      exact ⟨[], h, t, rfl, (fun q hq => by cases hq), ⟨hb.1.1, hb.1.2⟩, hb.2, congrArg Prod.fst e2, congrArg Prod.snd e2⟩
    | false =>
      rw [hb, cond_false] at e
      obtain ⟨pre, z, suf, h1, h2, h3⟩ := gk_fh_some e
      refine ⟨h :: pre, z, suf, by rw [h1]; rfl, fun q hq hc he => ?_, h3⟩
      rcases List.mem_cons.mp hq with rfl | hq
      · have : (Nat.ble q.1 pc && Nat.ble (pc + 1) q.2.1 && Nat.beq q.2.2.2.2.1 ek) = true := by
          simp only [Bool.and_eq_true, Nat.ble_eq, Nat.beq_eq]
          exact ⟨⟨hc.1, hc.2⟩, he⟩
        rw [this] at hb
        cases hb
      · exact h2 q hq hc he
/-- what a row is: its class, its first instruction -/
def gk_Hok (own : String) (cc : ByteArray) (nL : Nat) (z : gk_H) : Prop :=
  z.2.2.2.2.1 < 3 ∧ z.2.2.2.1 ≠ 0 ∧ Jvm.Cond.classLink own z.2.2.2.1 (gk_xn z.2.2.2.2.1) ∈ gk_W1 ∧ z.2.2.2.2.2.2 < nL ∧ ((decode cc z.2.2.1 = .ok (.astore z.2.2.2.2.2.2, 2) ∧ z.2.2.1 + 2 = z.2.2.2.2.2.1) ∨ ∃ k : Fin 4, decode cc z.2.2.1 = .ok (.astore_n k, 1) ∧ (k : Nat) = z.2.2.2.2.2.2 ∧ z.2.2.1 + 1 = z.2.2.2.2.2.1)
theorem gk_xn_face {ek : Nat} (h : ek < 3) : Jvm.Cond.castable (gk_xn ek) (gk_xn ek) ∈ gk_face := by
  rcases ek with _ | _ | _ | ek
  · decide
  · decide
  · decide
  · omega
section GKH
variable {p : Program} {l : Launch} {e : Env} {R : Room} {s : State} {m : MethodId} {args : Array Value} {below : List Frame} {meth : Method} {c : Code} {Q : State → Prop} {D : va_G} {cl : Nat → ClassId} {A : Nat → Prop} {n0 : Nat} {ad0 : Nat → Nat} {x0 : gk_X} {nL uf : Nat} {cc : ByteArray} {own : String}
theorem gk_hexs {HS : List gk_H} (hx : p.tables.exec = Jvm.exec) (hb : c.code = cc) (hown : s.vm.findClass own = some m.cls) (hW : ∀ w ∈ gk_W1, w.before args s = true) (hE : gk_E D cl A ad0 s s.heap) (htab : c.exceptionTable.toList = tableOf (HS.map gk_hr)) (hHS : ∀ z ∈ HS, gk_Hok own cc nL z) :
    ∀ pc ek hp li, gk_fh HS pc ek = some (hp, li) → ∀ L (ad : Nat → Nat) n fl x y u H locs ls (rest : List Value) q ce, (∀ j, (j < n0 ∨ 1000 ≤ j) → ad j = ad0 j) → n0 ≤ n → gk_In n fl → (∀ j, 1000 ≤ j → x j = x0 j) → u ≤ uf → va_P D vwCl (gk_w cl ad n fl x y) H → va_D A (gk_w cl ad n fl x y) → va_S A s.heap H locs → gk_L ad n ls nL L → (gk_VV p l e R s m args below meth c Q D cl A n0 ad0 x0 nL uf) hp (gk_s1 L li none) [] n fl x y u → H[q]? = some ce → ce.vm = .none → s.vm.findClass (gk_xn ek) = some ce.cls → vx_W p l e R s m args below meth c H locs u (16 * u) Q (F0 m pc ls rest) q := by
  intro pc ek hp li hf L ad n fl x y u H locs ls rest q ce h1 h2 h3 h4 h5 hP hD hS hL hV hce hcv hcl
  obtain ⟨pre, z, suf, e1, e2, e3, e4, e5, e6⟩ := gk_fh_some hf
  obtain ⟨b1, b2, b3, b4, b5⟩ := hHS z (by rw [e1]; simp)
  have hek : ek < 3 := by rw [← e4]; exact b1
  have hsp : c.exceptionTable.toList = tableOf (pre.map gk_hr) ++ (⟨z.1, z.2.1, z.2.2.1, z.2.2.2.1⟩ : ExceptionTableEntry) :: tableOf (suf.map gk_hr) := by
    rw [htab, e1]
    simp [tableOf, gk_hr]
  refine vx_catch (name := gk_xn ek) (E := gk_xn ek) (ce := ce) hown _ _ _ hsp (fun w hw => ?_) ?_ b2 (by rw [← e4]; exact hW _ b3) (va_Nw.use (gk_face_ok _ (gk_xn_face hek)).2 (hE.2.2.2.2.2.2.2.2.2.1 _ (gk_xn_face hek))) hce hcv hcl ?_
  · obtain ⟨r, hr, rfl⟩ := List.mem_map.mp hw
    obtain ⟨v, hv, rfl⟩ := List.mem_map.mp hr
    obtain ⟨c1, c2, c3, -, -⟩ := hHS v (by rw [e1]; simp [hv])
    by_cases hc : v.1 ≤ pc ∧ pc < v.2.1
    · exact Or.inr ⟨c2, gk_xn v.2.2.2.2.1, hW _ c3, hE.2.2.2.2.2.2.2.2.2.2 _ _ hek c1 (fun h => e2 v hv hc h.symm)⟩
    · refine Or.inl ?_
      show (decide (v.1 ≤ pc) && decide (pc < v.2.1)) = false
      rcases Decidable.not_and_iff_or_not.mp hc with h | h
      · rw [decide_eq_false h, Bool.false_and]
      · rw [decide_eq_false h, Bool.and_false]
  · show (decide (z.1 ≤ pc) && decide (pc < z.2.1)) = true
    rw [decide_eq_true e3.1, decide_eq_true e3.2]
    rfl
  · show W p l e R s m args below meth c H locs u (16 * u) Q (F0 m z.2.2.1 ls [.ref q])
    rcases b5 with ⟨d1, d2⟩ | ⟨k, d1, d2, d3⟩
    · refine lv_astore hx hb d1 (gk_L_has hL) b4 rfl (fun ls2 hl2 => ?_)
      rw [d2, e5]
      rw [e6] at hl2
      exact hV ad H locs ls2 h1 h2 h3 h4 h5 hP hD hS (gk_L_s1 hL (fun w e => by cases e) hl2) (fun v hv => absurd hv List.not_mem_nil)
    · refine lv_astore_n hx hb d1 d2 (gk_L_has hL) b4 rfl (fun ls2 hl2 => ?_)
      rw [d3, e5]
      rw [e6] at hl2
      exact hV ad H locs ls2 h1 h2 h3 h4 h5 hP hD hS (gk_L_s1 hL (fun w e => by cases e) hl2) (fun v hv => absurd hv List.not_mem_nil)
end GKH
set_option maxHeartbeats 2000000 in
theorem gk_methH {l : Launch} (hcw : gk_cw) {y : MethodName} {cc : ByteArray} {nL d uf : Nat} {rt : Option FieldType} {own : String} {P : gk_C} {cs : Nat → Option gk_M0} {S : gk_S} (HS : List gk_H) (hy : plainName y.cls = true) (hyo : y.cls = own) (hnt : gk_nt S)
    (hS : ∀ as n fl x yy K, S as n fl x yy K → (gk_L0 as).length ≤ nL ∧ ∀ V, gk_W cc P cs (gk_fh HS) rt uf none K V → V 0 (gk_en as nL) [] n fl x yy 0)
    (hPf : gk_Pf own P gk_W1) (hSp : gk_Sp own cs gk_W1 d) (hst : ∀ idx q, P.2.2.2.1 idx = some q → q < gk_nS ∧ (gk_sq q).1 = own ∧ (gk_sq q).2.1 = idx)
    (hini : ∀ ci m S, cs 0 = some (99, ci, m, 0, S) → y.name = "<init>") (hno : ∀ ic ek, P.2.2.2.2 ic ≠ some (300 + ek)) (hHS : ∀ z ∈ HS, gk_Hok own cc nL z)
    (hlk : ∀ idx kd ci mm cost S2, cs idx = some (kd, ci, mm, cost, S2) → kd < 5 → gk_Lk l own gk_W1 d idx kd ci mm cost S2) :
    gk_Mt l y (.codeWith y cc nL rt (HS.map gk_hr) :: gk_W1) d uf S := by
  intro D cl ad n fl x yy sz as K hSK0 has
  obtain ⟨K2, hSK, hKl, hKr⟩ : ∃ K2 : gk_K, S as n fl x yy K2 ∧ (∀ r n fl x y, K2 (.inl r) n fl x y → K (.inl r) n fl x y) ∧ ∀ r n fl x y, ¬ K2 (.inr r) n fl x y := ⟨_, hnt _ _ _ _ _ _ hSK0, fun _ _ _ _ _ h => h, fun _ _ _ _ _ h => h⟩
  refine vx_ofWH (cc := cc) (maxL := nL) (ret := rt) (hh := HS.map gk_hr) hy rfl ?_
  intro p e s m args below meth c s₁ B hml hv
  obtain ⟨rfl, hsz, hIn, hP, hD0, hE⟩ := hv
  have hx := B.exec
  have hb := B.bytes
  have hr := B.returns
  have hts := atoms_spec (ws := Jvm.Cond.codeWith y cc nL rt (HS.map gk_hr) :: gk_W1) B.pre
  have htab := vx_table (x := y) B (hts _ List.mem_cons_self)
  have hown : s.vm.findClass own = some m.cls := by rw [← hyo]; exact findClass_of_methodNamed B.named
  have hlocks := B.notSynchronized
  have hW1 : ∀ w ∈ gk_W1, w.before (as.map (gk_cz ad)).toArray s = true := fun w h => hts w (List.mem_cons_of_mem _ h)
  subst hsz
  have hD := hD0.self (sz := s.heap.size)
  obtain ⟨A, hAe⟩ : ∃ A, A = va_A (gk_w cl ad n fl x yy) s.heap.size := ⟨_, rfl⟩
  rw [← hAe] at hD hE ⊢
  have hA : ∀ q : Nat, s.heap.size ≤ q → A q := fun q h => by rw [hAe]; exact Or.inr h
  obtain ⟨hL0, hV⟩ := hS as n fl x yy K2 hSK
  rw [lg_entry_eq]
  have hwalk := gk_main (p := p) (l := l) (e := e) (R := (headSpec (Jvm.Cond.codeWith y cc nL rt (HS.map gk_hr) :: gk_W1) (gk_rm d uf)).room) (s := s) (m := m) (args := (as.map (gk_cz ad)).toArray) (below := below) (meth := meth) (c := c) (Q := gk_QQ below (as.map (gk_cz ad)).toArray s D cl ad n x K uf A) (D := D) (cl := cl) (A := A) (n0 := n) (ad0 := ad) (x0 := x) (nL := nL) (uf := uf) (d := d) (own := own) (P := P) (cs := cs) (xh := gk_fh HS) (rt := rt) (sc := none) (K := K2) (Ts := gk_W1) hx hb hml hown hW1 hcw.1 hE.1 hA hPf hSp (Nat.le_refl d) (Nat.le_refl _) (Nat.le_refl _) (Nat.le_refl _)
    (fun ci m2 S2 h => (name_of_methodNamed B.named B.method).1.trans (hini ci m2 S2 h)) hcw.2 hE.2.2.2.2.2.2.2.2.1
    (fun idx q hq => by
      obtain ⟨s1, s2, s3⟩ := hst idx q hq
      have hstr := hE.2.2.2.2.1 q s1
      rw [s2, s3] at hstr
      exact ⟨_, hstr⟩)
    (fun Ls h => by cases h)
    (fun idx pc kd ci mm cost S2 as2 rest L n2 fl2 x2 y2 u hdg hc h8 hm h5 hrc hu hS0 => gk_call (d := d) (Ts := gk_W1) hx hb hml hown hW1 (fun _ h => h) hE hA (Nat.le_refl d) (Nat.le_refl _) (Nat.le_refl _) (Nat.le_refl _)
      (fun pc ek _ ad2 n2 fl2 x2 y2 u H locs ls rest q ce h1 h2 h3 h4 h5 hP hD hS hls hK hce hcv hcl => (hKr _ _ _ _ _ hK).elim)
      (gk_hexs hx hb hown hW1 hE htab hHS) (hlk idx kd ci mm cost S2 hc h5) hdg h8 hm hrc hu hS0)
    (fun idx is ic q ek pc d0 hi d3 d4 hs hic L st n2 fl2 x2 y2 u h8 hu hK => (hno _ _ hic).elim)
    (fun i len pc r L n2 fl2 x2 y2 u hd hlen hg hK => gk_hret hx hb hr hlocks i len pc r L n2 fl2 x2 y2 u hd hlen hg (hKl _ _ _ _ _ hK))
  exact hV _ hwalk ad s.heap [] _ (fun _ _ => rfl) (Nat.le_refl n) hIn (fun _ _ => rfl) (Nat.zero_le _) hP hD va_S.rf (gk_L_en hL0 has) (fun v hv => absurd hv List.not_mem_nil)
theorem hno_L : ∀ ic ek, pL.2.2.2.2 ic ≠ some (300 + ek) := fun ic ek h => by
  have := Nat.le_of_ble_eq_true (List.all_eq_true.mp (show nL.all (fun q => Nat.ble (q.2 + 1) 300) = true by decide +kernel) _ (gk_lk_mem h))
  omega

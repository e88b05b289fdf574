/-! THE ENGINE, 6: behind a call -/
theorem gk_after {p : Program} {l : Launch} {e : Env} {R : Room} {s : State} {m : MethodId} {args : Array Value} {below : List Frame} {meth : Method} {c : Code} {Q : State → Prop} {D : va_G} {cl : Nat → ClassId} {A : Nat → Prop} {n0 : Nat} {ad0 : Nat → Nat} {x0 : gk_X} {nL uf : Nat} {xh : Nat → Nat → Option (Nat × Nat)} {K : gk_K} (hA : ∀ q, s.heap.size ≤ q → A q) (hexn : ∀ pc ek, xh pc ek = none → ∀ (ad : Nat → Nat) n fl x y u H locs ls (rest : List Value) q ce, (∀ j, (j < n0 ∨ 1000 ≤ j) → ad j = ad0 j) → n0 ≤ n → gk_In n fl → (∀ j, 1000 ≤ j → x j = x0 j) → u ≤ uf → va_P D vwCl (gk_w cl ad n fl x y) H → va_D A (gk_w cl ad n fl x y) → va_S A s.heap H locs → ls.size = nL → K (.inr ek) n fl x y → H[q]? = some ce → ce.vm = .none → s.vm.findClass (gk_xn ek) = some ce.cls → vx_W p l e R s m args below meth c H locs u (16 * u) Q (F0 m pc ls rest) q)
    (hexs : ∀ pc ek hp li, xh pc ek = some (hp, li) → ∀ L (ad : Nat → Nat) n fl x y u H locs ls (rest : List Value) q ce, (∀ j, (j < n0 ∨ 1000 ≤ j) → ad j = ad0 j) → n0 ≤ n → gk_In n fl → (∀ j, 1000 ≤ j → x j = x0 j) → u ≤ uf → va_P D vwCl (gk_w cl ad n fl x y) H → va_D A (gk_w cl ad n fl x y) → va_S A s.heap H locs → gk_L ad n ls nL L → (gk_VV p l e R s m args below meth c Q D cl A n0 ad0 x0 nL uf) hp (gk_s1 L li none) [] n fl x y u → H[q]? = some ce → ce.vm = .none → s.vm.findClass (gk_xn ek) = some ce.cls → vx_W p l e R s m args below meth c H locs u (16 * u) Q (F0 m pc ls rest) q)
    {pc cost u n : Nat} {L : List (Option Value)} {rest : List Value} {ad : Nat → Nat} {fl : gk_F} {x : gk_X} {y : gk_Y} {H : Heap} {locs : List Loc} {ls : Array Slot} {st0 : List Value} {a : Array Value}
    (h1 : ∀ j, (j < n0 ∨ 1000 ≤ j) → ad j = ad0 j) (h2 : n0 ≤ n) (h3 : gk_In n fl) (h4 : ∀ j, 1000 ≤ j → x j = x0 j) (h5 : u ≤ uf) (hP : va_P D vwCl (gk_w cl ad n fl x y) H) (hD : va_D A (gk_w cl ad n fl x y)) (hS : va_S A s.heap H locs) (hL : gk_L ad n ls nL L) (hrest : ∀ v ∈ rest, gk_rv n v) (hu : cost = 0 ∨ u + cost ≤ uf)
    (hr : vx_Run p l e R s m args below meth c H locs u (16 * u) cost (16 * cost) (F0 m pc ls st0) (rest.map (gk_cz ad)) (gk_Q D cl ad n x (gk_co xh K (gk_VV p l e R s m args below meth c Q D cl A n0 ad0 x0 nL uf) pc L rest (u + cost)) (va_A (gk_w cl ad n fl x y) H.size) a) (gk_XQ D cl ad n x (gk_co xh K (gk_VV p l e R s m args below meth c Q D cl A n0 ad0 x0 nL uf) pc L rest (u + cost)) (va_A (gk_w cl ad n fl x y) H.size)) (va_A (gk_w cl ad n fl x y) H.size)) :
    W p l e R s m args below meth c H locs u (16 * u) Q (F0 m pc ls st0) := by
  have hBA : ∀ q, va_A (gk_w cl ad n fl x y) H.size q → A q := by
    intro q hq
    rcases hq with ⟨k, e9, h⟩ | h
    · exact hD.2 k _ h
    · exact hA q (Nat.le_trans hS.1 h)
  have h16 : 16 * u + 16 * cost = 16 * (u + cost) := by omega
  have hu2 : u + cost ≤ uf := by omega
  refine gk_go hr (fun v st₀ t L2 e0 hW hq hL2 => ?_) (fun q st₀ t L2 E ce e0 hW hq hL2 hce hcv hcl => ?_)
  · obtain ⟨⟨r, ad2, ev, n2, fl2, x2, y2, g1, g2, g3, g4, g5, g6, g7, g8⟩, hF⟩ := hq
    obtain ⟨k1, k2, k3⟩ := vx_keep (T' := t) e0 rfl hS (fun q _ h => hBA q h) hBA hL2 hF
    have hvr : v = r.map (gk_cz ad2) := by
      injection ev
    subst hvr
    rw [h16]
    have e1 : (r.map (gk_cz ad2)).toList ++ rest.map (gk_cz ad) = (r.toList ++ rest).map (gk_cz ad2) := by
      rw [List.map_append]
      congr 1
      · cases r <;> rfl
      · exact List.map_congr_left (fun v hv => (gk_cz_eq g1 (hrest v hv)).symm)
    rw [e1]
    exact g5 ad2 t.heap (locs ++ L2) ls (fun j hj => by rw [g1 j (by omega)]; exact h1 j hj) (Nat.le_trans h2 g2) g3 (fun j hj => (g4 j hj).trans (h4 j hj)) hu2 g6 (g7.weaken (fun _ _ _ h => hBA _ h)) k3 (hL.mono g2 g1) (fun w hw => by
      rcases List.mem_append.mp hw with hw | hw
      · cases r with
        | none => cases hw
        | some v9 => 
          have : w = v9 := by simpa using hw
          rw [this]
          exact g8 v9 rfl
      · exact (hrest w hw).mono g2)
  · obtain ⟨⟨ek, ad2, eE, n2, fl2, x2, y2, g1, g2, g3, g4, g5, g6, g7, g8⟩, hF⟩ := hq
    obtain ⟨k1, k2, k3⟩ := vx_keep (T' := t) e0 rfl hS (fun q _ h => hBA q h) hBA hL2 hF
    subst eE
    rw [h16]
    simp only [gk_co] at g5
    cases hxh : xh pc ek with
    | none =>
      rw [hxh] at g5
      exact hexn pc ek hxh ad2 n2 fl2 x2 y2 (u + cost) t.heap (locs ++ L2) ls _ q ce (fun j hj => by rw [g1 j (by omega)]; exact h1 j hj) (Nat.le_trans h2 g2) g3 (fun j hj => (g4 j hj).trans (h4 j hj)) hu2 g6 (g7.weaken (fun _ _ _ h => hBA _ h)) k3 hL.1 g5 hce hcv hcl
    | some w =>
      obtain ⟨hp, li⟩ := w
      rw [hxh] at g5
      exact hexs pc ek hp li hxh L ad2 n2 fl2 x2 y2 (u + cost) t.heap (locs ++ L2) ls _ q ce (fun j hj => by rw [g1 j (by omega)]; exact h1 j hj) (Nat.le_trans h2 g2) g3 (fun j hj => (g4 j hj).trans (h4 j hj)) hu2 g6 (g7.weaken (fun _ _ _ h => hBA _ h)) k3 (hL.mono g2 g1) g5 hce hcv hcl
/-- how a callee is linked: its contract, its words -/
def gk_Lk (l : Launch) (own : String) (Ts : List Jvm.Cond) (d idx kd ci mm cost : Nat) (S : gk_S) : Prop :=
  ∃ (y : MethodName) (c2 : ByteArray) (nL2 : Nat) (ret2 : Option FieldType) (d2 : Nat) (cw : Jvm.Cond), gk_Mt l y (cw :: gk_W1) d2 cost S ∧ (d2 + 1 ≤ d ∧ nL2 ≤ 17) ∧ (y.cls ≠ "java/lang/invoke/MethodHandle" ∧ y.cls ≠ "java/lang/invoke/VarHandle" ∧ (parseMethodDescriptor y.desc).map (fun q => q.parameters.length) = some (if kd = 0 then mm else mm - 1)) ∧ (cw ∈ gk_W1 ∧ Jvm.Cond.initialized y.cls ∈ gk_W1) ∧
    ((kd = 0 ∧ cw = .code y c2 nL2 ret2 ∧ Jvm.Cond.static y ∈ gk_W1 ∧ Jvm.Cond.methodLink own idx y ∈ gk_W1) ∨
     (kd = 0 ∧ cw = .code y c2 nL2 ret2 ∧ Jvm.Cond.static y ∈ gk_W1 ∧ (∃ host, Jvm.Cond.methodLinkNest own idx y host ∈ gk_nest) ∧ gk_nt S) ∨
     (kd = 0 ∧ (∃ hh, cw = .codeWith y c2 nL2 ret2 hh) ∧ Jvm.Cond.static y ∈ gk_W1 ∧ Jvm.Cond.methodLink own idx y ∈ gk_W1) ∨
     (kd = 1 ∧ cw = .code y c2 nL2 ret2 ∧ Jvm.Cond.instanceMethod y ∈ gk_W1 ∧ Jvm.Cond.selects y.cls y y ∈ gk_W1 ∧ Jvm.Cond.methodLink own idx y ∈ gk_W1 ∧ ci < 11 ∧ y.cls = gk_R ci) ∨
     (kd = 3 ∧ cw = .code y c2 nL2 ret2 ∧ Jvm.Cond.instanceMethod y ∈ gk_W1 ∧ Jvm.Cond.selects y.cls y y ∈ gk_W1 ∧ Jvm.Cond.methodLink own idx y ∈ gk_W1 ∧ y.cls = "java/lang/String") ∨
     (kd = 2 ∧ ret2 = none ∧ cw = .code y c2 nL2 ret2 ∧ Jvm.Cond.instanceMethod y ∈ gk_W1 ∧ y.name = "<init>" ∧ gk_nt S ∧ (Jvm.Cond.methodLink own idx y ∈ gk_W1 ∨ ∃ host, Jvm.Cond.methodLinkNest own idx y host ∈ gk_nest)))
set_option maxHeartbeats 2000000 in
theorem gk_call {p : Program} {l : Launch} {e : Env} {R : Room} {s : State} {m : MethodId} {args : Array Value} {below : List Frame} {meth : Method} {c : Code} {Q : State → Prop} {D : va_G} {cl : Nat → ClassId} {A : Nat → Prop} {n0 : Nat} {ad0 : Nat → Nat} {x0 : gk_X} {nL uf d : Nat} {cc : ByteArray} {own : String} {xh : Nat → Nat → Option (Nat × Nat)} {K : gk_K} {Ts : List Jvm.Cond} (hx : p.tables.exec = Jvm.exec) (hb : c.code = cc) (hml : c.maxLocals = nL) (hown : s.vm.findClass own = some m.cls) (hTs : ∀ w ∈ Ts, w.before args s = true) (hW1 : ∀ w ∈ gk_W1, w ∈ Ts) (hE : gk_E D cl A ad0 s s.heap) (hA : ∀ q, s.heap.size ≤ q → A q) (hd1 : d ≤ R.frames) (hd2 : 36 * d ≤ R.locals) (hR1 : uf ≤ R.cells) (hR2 : 16 * uf ≤ R.slots) (hexn : ∀ pc ek, xh pc ek = none → ∀ (ad : Nat → Nat) n fl x y u H locs ls (rest : List Value) q ce, (∀ j, (j < n0 ∨ 1000 ≤ j) → ad j = ad0 j) → n0 ≤ n → gk_In n fl → (∀ j, 1000 ≤ j → x j = x0 j) → u ≤ uf → va_P D vwCl (gk_w cl ad n fl x y) H → va_D A (gk_w cl ad n fl x y) → va_S A s.heap H locs → ls.size = nL → K (.inr ek) n fl x y → H[q]? = some ce → ce.vm = .none → s.vm.findClass (gk_xn ek) = some ce.cls → vx_W p l e R s m args below meth c H locs u (16 * u) Q (F0 m pc ls rest) q)
    (hexs : ∀ pc ek hp li, xh pc ek = some (hp, li) → ∀ L (ad : Nat → Nat) n fl x y u H locs ls (rest : List Value) q ce, (∀ j, (j < n0 ∨ 1000 ≤ j) → ad j = ad0 j) → n0 ≤ n → gk_In n fl → (∀ j, 1000 ≤ j → x j = x0 j) → u ≤ uf → va_P D vwCl (gk_w cl ad n fl x y) H → va_D A (gk_w cl ad n fl x y) → va_S A s.heap H locs → gk_L ad n ls nL L → (gk_VV p l e R s m args below meth c Q D cl A n0 ad0 x0 nL uf) hp (gk_s1 L li none) [] n fl x y u → H[q]? = some ce → ce.vm = .none → s.vm.findClass (gk_xn ek) = some ce.cls → vx_W p l e R s m args below meth c H locs u (16 * u) Q (F0 m pc ls rest) q)
    {idx kd ci mm cost pc u n : Nat} {S : gk_S} {as rest : List Value} {L : List (Option Value)} {fl : gk_F} {x : gk_X} {y : gk_Y} (hlk : gk_Lk l own Ts d idx kd ci mm cost S) (hdg : decode cc pc = .ok (gk_ik kd idx, 3)) (h8 : (rest.map Value.category).sum ≤ 8) (hm : as.length = mm) (hrc : gk_rc kd ci n as) (hu : cost = 0 ∨ u + cost ≤ uf) (hS0 : S as n fl x y (gk_co xh K (gk_VV p l e R s m args below meth c Q D cl A n0 ad0 x0 nL uf) pc L rest (u + cost))) : (gk_VV p l e R s m args below meth c Q D cl A n0 ad0 x0 nL uf) pc L (as.reverse ++ rest) n fl x y u := by
  intro ad H locs ls h1 h2 h3 h4 h5 hP hD hS hL hst
  have hrest : ∀ v ∈ rest, gk_rv n v := fun v hv => hst v (List.mem_append_right _ hv)
  have has : ∀ v ∈ as, gk_rv n v := fun v hv => hst v (List.mem_append_left _ (List.mem_reverse.mpr hv))
  obtain ⟨y2, c2, nL2, ret2, d2, cw, hMt, ⟨hd3, hn17⟩, hpl, ⟨hcw, hini⟩, hor⟩ := hlk
  have hu2 : u + cost ≤ uf := by omega
  have hG : GoodIn Ts (cw :: gk_W1) := fun w hw => by
    rcases List.mem_cons.mp hw with rfl | hw
    · exact ⟨hW1 _ hcw, gk_W1_good hcw⟩
    · exact ⟨hW1 _ hw, gk_W1_good hw⟩
  have hini2 : (Jvm.Cond.initialized y2.cls).before args s = true := hTs _ (hW1 _ hini)
  have hroom : (gk_rm d2 cost).frames + 1 ≤ R.frames ∧ 8 + (nL2 + 11) + (gk_rm d2 cost).locals ≤ R.locals := by
    simp only [gk_rm]
    omega
  have hF : CallFix p m c cc nL s args Ts own := ⟨hx, hb, hml, hown, hTs⟩
  have hrl : 2 * (F0 m pc ls ((as.reverse ++ rest).map (gk_cz ad))).monitorRoom + ((rest.map (gk_cz ad)).map fun v => v.category).sum ≤ 8 := by
    have h9 := gk_catsum ad h8
    simp only [JFrame.monitorRoom]
    omega
  have hroom2 : u + cost ≤ R.cells ∧ 16 * u + 16 * cost ≤ R.slots := by omega
  have hBpre : ∀ U : State, U.heap = H → s.WarmedH U.vm → gk_B D cl ad n fl x y H.size U := by
    intro U hU hW
    refine ⟨by rw [hU], h3, by rw [hU]; exact hP, hD.weaken (fun _ _ _ _ => trivial), ?_⟩
    rw [hU]
    exact hE.go hW (fun q h9 h10 => hS.2.1 q h9 h10) (fun q hq => by
      rcases hq with ⟨k, e9, h⟩ | h
      · exact hD.2 k _ h
      · exact hA q (Nat.le_trans hS.1 h)) (fun j hj => h1 j (Or.inr hj))
  have hstk : (as.reverse ++ rest).map (gk_cz ad) = (as.map (gk_cz ad)).reverse ++ rest.map (gk_cz ad) := by
    rw [List.map_append, List.map_reverse]
  have hM := hMt D cl ad n fl x y H.size as (gk_co xh K (gk_VV p l e R s m args below meth c Q D cl A n0 ad0 x0 nL uf) pc L rest (u + cost)) hS0 has
  rcases hor with ⟨rfl, rfl, k1, k2⟩ | ⟨rfl, rfl, k1, ⟨host, k2⟩, hnt⟩ | ⟨rfl, ⟨hh, rfl⟩, k1, k2⟩ | ⟨rfl, rfl, k1, k2, k3, hci, k4⟩ | ⟨rfl, rfl, k1, k2, k3, k4⟩ | ⟨rfl, rfl, rfl, k1, k4, hnt, k2⟩
  · have cb := callB_of (args := args) (s := s) (own := own) (index := idx) (R := R) (mc := cost) (ms := 16 * cost) mm hTs hG rfl rfl rfl hini2 (hTs _ (hW1 _ k2)) hpl hroom
    exact gk_after hA hexn hexs h1 h2 h3 h4 h5 hP hD hS hL hrest hu (vx_runS (As := as.map (gk_cz ad)) hF hM ⟨cb, hTs _ (hW1 _ k1)⟩ ⟨gk_blind, fun U hU hW => ⟨rfl, hBpre U hU hW⟩⟩ rfl (by rw [List.length_map]; exact hm) hL.1 hstk hrl hdg hroom2)
  · have hM2 := hMt D cl ad n fl x y H.size as _ (hnt _ _ _ _ _ _ hS0) has
    have hM3 := gk_met hM2 (fun E st t h => by
      obtain ⟨⟨ek, ad2, -, n2, fl2, x2, y2, -, -, -, -, g5, -⟩, -⟩ := h
      exact g5)
    have hnw : va_Nw (.methodLinkNest own idx y2 host) s := hE.2.1 _ k2
    have cb := va_cnB (args := args) (s := s) (R := R) (mc := cost) (ms := 16 * cost) mm hTs hG rfl rfl rfl hnw hini2 hpl hroom
    have hrun := va_runSN (e := e) (below := below) (meth := meth) (As := as.map (gk_cz ad)) (rest := rest.map (gk_cz ad)) (g := F0 m pc ls ((as.reverse ++ rest).map (gk_cz ad))) (H := H) (locs := locs) (cells := u) (slots := 16 * u) hF hM3 ⟨cb, hTs _ (hW1 _ k1), trivial⟩ ⟨gk_blind, fun U hU hW => ⟨rfl, hBpre U hU hW⟩⟩ rfl (by rw [List.length_map]; exact hm) hL.1 hstk hrl hdg hroom2
    refine gk_after (a := (as.map (gk_cz ad)).toArray) hA hexn hexs h1 h2 h3 h4 h5 hP hD hS hL hrest hu (gk_run_of ?_)
    intro T hT X
    obtain ⟨v, st₀, t, T', L9, g1, g2, g3, g4, g5, g6, g7⟩ := hrun T hT X
    exact ⟨v, st₀, t, T', L9, g1, g2, g3, g4, g5, gk_Q_mono (fun r n fl x y h => h) g6, g7⟩
  · have cb := vx_cwSW (args := args) (s := s) (own := own) (index := idx) (R := R) (mc := cost) (ms := 16 * cost) mm hTs (fun w hw => by
      unfold va_wsS at hw
      rcases List.mem_append.mp hw with hw | hw
      · simp only [List.mem_cons, List.not_mem_nil, or_false] at hw
        rcases hw with rfl | rfl | rfl
        · exact ⟨hW1 _ k2, gk_W1_good k2⟩
        · exact ⟨hW1 _ k1, gk_W1_good k1⟩
        · exact ⟨hW1 _ hini, gk_W1_good hini⟩
      · exact hG w hw) rfl rfl rfl hpl hroom
    exact gk_after hA hexn hexs h1 h2 h3 h4 h5 hP hD hS hL hrest hu (vx_runSX (As := as.map (gk_cz ad)) hF hM cb ⟨gk_blind, fun U hU hW => ⟨rfl, hBpre U hU hW⟩⟩ rfl (by rw [List.length_map]; exact hm) hL.1 hstk hrl hdg hroom2)
  · rcases hrc with h | ⟨-, j, r, rfl, hj, hkd⟩ | ⟨h, -⟩
    · cases h
    · have cb := callB_of (args := args) (s := s) (own := own) (index := idx) (R := R) (mc := cost) (ms := 16 * cost) (mm - 1) hTs hG rfl rfl rfl hini2 (hTs _ (hW1 _ k3)) hpl hroom
      have hrv := va_recv hE.1 hP (gk_clx ci hci) (q0 := j) (by rw [gk_w_at hj, gk_gc_obj hkd hci])
      exact gk_after hA hexn hexs h1 h2 h3 h4 h5 hP hD hS hL hrest hu (vx_runV (C := y2.cls) (As := r.map (gk_cz ad)) (b := ad j) hF hM ⟨cb, hTs _ (hW1 _ k1), hTs _ (hW1 _ k2)⟩ ⟨gk_blind, by rw [k4]; exact hrv, fun U hU hW => ⟨rfl, hBpre U hU hW⟩⟩ rfl (by rw [List.length_map]; simp at hm; omega) hL.1 (by show ((Value.ref j :: r).reverse ++ rest).map (gk_cz ad) = _; simp [gk_cz]) hrl hdg hroom2)
    · cases h
  · rcases hrc with h | ⟨h, -⟩ | ⟨-, q, r, rfl, hq⟩
    · cases h
    · omega
    · have cb := callB_of (args := args) (s := s) (own := own) (index := idx) (R := R) (mc := cost) (ms := 16 * cost) (mm - 1) hTs hG rfl rfl rfl hini2 (hTs _ (hW1 _ k3)) hpl hroom
      obtain ⟨adV, hSo⟩ := hE.2.2.2.2.2.1
      obtain ⟨cell, r1, r2, r3, -⟩ := (hSo q hq).1.kept hS.2.1
      have e9 : ad (6000 + q) = ad0 (6000 + q) := h1 _ (Or.inr (Nat.le_trans (Nat.le_of_ble_eq_true rfl) (Nat.le_add_right 6000 q)))
      exact gk_after hA hexn hexs h1 h2 h3 h4 h5 hP hD hS hL hrest hu (vx_runV (C := y2.cls) (As := r.map (gk_cz ad)) (b := ad (6000 + q)) hF hM ⟨cb, hTs _ (hW1 _ k1), hTs _ (hW1 _ k2)⟩ ⟨gk_blind, by rw [k4, e9]; exact ⟨cell, r1, r2, r3⟩, fun U hU hW => ⟨rfl, hBpre U hU hW⟩⟩ rfl (by rw [List.length_map]; simp at hm; omega) hL.1 (by show ((Value.ref (6000 + q) :: r).reverse ++ rest).map (gk_cz ad) = _; simp [gk_cz]) hrl hdg hroom2)
  · rcases hrc with h | ⟨-, j, r, rfl, hj, hkd⟩ | ⟨h, -⟩
    · cases h
    · have hM2 := hMt D cl ad n fl x y H.size _ _ (hnt _ _ _ _ _ _ hS0) has
      have hM3 := gk_met hM2 (fun E st t h => by
        obtain ⟨⟨ek, ad2, -, n2, fl2, x2, y2, -, -, -, -, g5, -⟩, -⟩ := h
        exact g5)
      have hpre : PreS s H (va_Pc ((Value.ref j :: r).map (gk_cz ad)) (gk_B D cl ad n fl x y H.size)) (.ref (ad j) :: r.map (gk_cz ad)) := ⟨gk_blind, fun U hU hW => ⟨rfl, hBpre U hU hW⟩⟩
      have hlen : (r.map (gk_cz ad)).length = mm - 1 := by rw [List.length_map]; simp at hm; omega
      have hst9 : ((Value.ref j :: r).reverse ++ rest).map (gk_cz ad) = (r.map (gk_cz ad)).reverse ++ Value.ref (ad j) :: rest.map (gk_cz ad) := by simp [gk_cz]
      refine gk_after (a := (Value.ref (ad j) :: r.map (gk_cz ad)).toArray) hA hexn hexs h1 h2 h3 h4 h5 hP hD hS hL hrest hu (gk_run_of ?_)
      intro T hT X
      rcases k2 with k2 | ⟨host, k2⟩
      · have cb := callB_of (args := args) (s := s) (own := own) (index := idx) (R := R) (mc := cost) (ms := 16 * cost) (mm - 1) hTs hG rfl rfl rfl hini2 (hTs _ (hW1 _ k2)) hpl hroom
        obtain ⟨v, st₀, t, T', L9, g1, g2, g3, g4, g5, g6, g7⟩ := va_runI (As := r.map (gk_cz ad)) (b := ad j) (rest := rest.map (gk_cz ad)) (g := F0 m pc ls (((Value.ref j :: r).reverse ++ rest).map (gk_cz ad))) (H := H) (locs := locs) (cells := u) (slots := 16 * u) hF hM3 ⟨cb, k4, hTs _ (hW1 _ k1)⟩ hpre rfl hlen hL.1 hst9 hrl hdg hroom2 T hT X
        exact ⟨v, st₀, t, T', L9, g1, g2, g3, g4, g5, gk_Q_mono (fun r n fl x y h => h) g6, g7⟩
      · have hnw : va_Nw (.methodLinkNest own idx y2 host) s := hE.2.1 _ k2
        have cb := va_cnB (args := args) (s := s) (R := R) (mc := cost) (ms := 16 * cost) (mm - 1) hTs hG rfl rfl rfl hnw hini2 hpl hroom
        obtain ⟨v, st₀, t, T', L9, g1, g2, g3, g4, g5, g6, g7⟩ := va_runIN (As := r.map (gk_cz ad)) (b := ad j) (rest := rest.map (gk_cz ad)) (g := F0 m pc ls (((Value.ref j :: r).reverse ++ rest).map (gk_cz ad))) (H := H) (locs := locs) (cells := u) (slots := 16 * u) hF hM3 ⟨cb, k4, hTs _ (hW1 _ k1)⟩ hpre rfl hlen hL.1 hst9 hrl hdg hroom2 T hT X
        exact ⟨v, st₀, t, T', L9, g1, g2, g3, g4, g5, gk_Q_mono (fun r n fl x y h => h) g6, g7⟩
    · cases h

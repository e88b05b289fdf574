/-! THE LAW, 7: its start -/
/-- marks that don't matter may be changed at any step of the machine -/
theorem gk_VV_fe {p : Program} {l : Launch} {e : Env} {R : Room} {s : State} {m : MethodId} {args : Array Value} {below : List Frame} {meth : Method} {c : Code} {Q : State → Prop} {D : va_G} {cl : Nat → ClassId} {A : Nat → Prop} {n0 : Nat} {ad0 : Nat → Nat} {x0 : gk_X} {nL uf : Nat} {pc : Nat} {L : List (Option Value)} {st : List Value} {n : Nat} {fl fl2 : gk_F} {x : gk_X} {y : gk_Y} {u : Nat} (h : gk_fe fl fl2 n) (k : gk_VV p l e R s m args below meth c Q D cl A n0 ad0 x0 nL uf pc L st n fl2 x y u) : gk_VV p l e R s m args below meth c Q D cl A n0 ad0 x0 nL uf pc L st n fl x y u := by
  intro ad H locs ls h1 h2 h3 h4 h5 hP hD
  exact k ad H locs ls h1 h2 (gk_In_fe h h3) h4 h5 (by rw [← gk_w_fe h]; exact hP) (by rw [← gk_w_fe h]; exact hD)
/-- the reference's state at first -/
def gN : Nat → Int32 := fun k => if k = 13 then 100 else if k = 10 then 1 else if k = 3 then 1 else if k = 0 then 340 else 0
theorem gOK_N : gOK gN := by
  have z6 : nV gN = 0 := by decide
  have z7 : nS gN = 0 := by decide
  have z8 : nM gN = 0 := by decide
  refine ⟨⟨?_, fun v hv => absurd hv (by omega), fun a ha => absurd ha (by omega), fun m hm => absurd hm (by omega), Or.inr (Or.inl ?_)⟩, fun m hm => absurd hm (by omega), fun m _ hm k hk => ?_⟩
  · unfold wf0 gz
    exact ⟨⟨by decide, by decide⟩, ⟨by decide, by decide⟩, Or.inl (by decide), by decide, ⟨by decide, by decide⟩, Or.inl (by decide), ⟨by decide, by decide⟩, ⟨by decide, by decide⟩, by decide, by decide⟩
  · unfold gz
    exact ⟨by decide, ⟨by decide, by decide⟩, ⟨by decide, by decide⟩, by decide, by decide⟩
  · unfold gN
    rw [if_neg (by omega), if_neg (by omega), if_neg (by omega), if_neg (by omega)]
/-- all cells when the loop begins -/
def sX (x : gk_X) : gk_X := zr (gk_up (gk_up (gk_up (gk_up (gk_rg (gk_up (zr (iX (zr x 0 1)) 189 200) 189 18 (-1)) 190 0 2234 (fun _ => 0)) 190 0 340) 190 3 1) 190 10 1) 190 13 100) 200 202
def sY (y : gk_Y) : gk_Y := zy (iY (zy y 0 1)) 189 202
theorem sX_g (x : gk_X) : MG gN (sX x) := by
  intro k hk
  show gk_up (gk_up (gk_up (gk_up (gk_rg (gk_up (zr (iX (zr x 0 1)) 189 200) 189 18 (-1)) 190 0 2234 (fun _ => 0)) 190 0 340) 190 3 1) 190 10 1) 190 13 100 190 k = gN k
  unfold gN
  by_cases e13 : k = 13
  · subst e13; rfl
  rw [if_neg e13, gk_up_ne (by omega)]
  by_cases e10 : k = 10
  · subst e10; rfl
  rw [if_neg e10, gk_up_ne (by omega)]
  by_cases e3 : k = 3
  · subst e3; rfl
  rw [if_neg e3, gk_up_ne (by omega)]
  by_cases e0 : k = 0
  · subst e0; rfl
  rw [if_neg e0, gk_up_ne (by omega)]
  have := gk_rg_in (x := gk_up (zr (iX (zr x 0 1)) 189 200) 189 18 (-1)) (j := 190) (o := 0) (f := fun _ => (0 : Int32)) hk
  rw [Nat.zero_add] at this
  exact this
theorem sX_RS (x : gk_X) (y : gk_Y) : RS 1 gN (sX x) (sY y) := by
  have z6 : nV gN = 0 := by decide
  have z7 : nS gN = 0 := by decide
  have z8 : nM gN = 0 := by decide
  refine ⟨⟨⟨rfl, rfl, rfl⟩, rfl, rfl, rfl, rfl, rfl, rfl, rfl, fun h => absurd h (by decide)⟩, rfl, fun v hv => absurd hv (by omega), fun a ha => absurd ha (by omega), fun m hm => absurd hm (by omega), fun m hm => absurd hm (by omega), fun h => absurd h (by decide), fun _ => ⟨rfl, rfl, rfl, rfl⟩⟩
theorem sX_LI (x : gk_X) (y : gk_Y) : LI (fun k => x 5000 k) (sX x) (sY y) := by
  refine ⟨fun k => rfl, ⟨fun q hq => ⟨Or.inl rfl, rfl, fun h => absurd rfl h⟩, ⟨0, by decide, rfl, rfl, fun k hk => absurd hk (Nat.not_lt_zero _)⟩, ⟨rfl, rfl⟩⟩, gN, sX_g x, sX_RS x y, gOK_N⟩
/-- the marks when the loop begins -/
def sF (fl : gk_F) : gk_F := gk_f0 (gk_f0 (fr (gk_f0 (fr (gk_f0 fl 0) 0 189) 189) 189 200) 200) 201
theorem sF_fe (fl : gk_F) : gk_fe (sF fl) gk_fT 202 := by
  intro i hi k
  show _ ∧ _
  by_cases h1 : i = 201
  · subst h1
    exact ⟨fun a => absurd a (by decide), fun a => absurd a (by decide)⟩
  by_cases h0 : i = 200
  · subst h0
    exact ⟨fun a => absurd a (by decide), fun a => absurd a (by decide)⟩
  have e : sF fl i k = true := by
    unfold sF
    rw [f0_ne h1, f0_ne h0]
    by_cases h2 : 189 ≤ i
    · exact fr_in ⟨h2, by omega⟩
    · rw [fr_ne (by omega), f0_ne (by omega)]
      exact fr_in ⟨by omega, by omega⟩
  rw [e]
  exact ⟨fun _ _ _ => rfl, fun _ _ => rfl⟩

/-! THE ENGINE, 1: the cells of the whole (class, reference, the law's arrays), numbered in the order in which they are made; a walk's steps over them -/
/-- kinds: 0..10 places of vwCl; 20 int[], 21 boolean[], 22 long[], 23 double[], 24 Place[], 25 Source[], 26 Microphone[], 27 Scene[] -/
def gk_kS (o : Nat) : Nat := if o = 0 then 4 else if o = 1 then 24 else if o = 2 then 25 else if o = 3 then 26 else if o < 9 then 3 else if o < 27 then (if o % 3 = 0 then 6 else if o % 3 = 1 then 3 else 20) else (if o % 2 = 1 then 1 else 20)
def gk_lS (o : Nat) : Nat := if o = 1 then 4 else if o = 2 then 6 else if o = 3 then 8 else if o < 27 then 16 else 256
def gk_kd (j : Nat) : Nat := if j = 0 then 9 else if j < 44 then gk_kS (j - 1) else if j < 87 then gk_kS (j - 44) else if j < 103 then [27, 21, 2, 0, 20, 20, 2, 2, 7, 20, 5, 8, 20, 20, 20, 20].getD (j - 87) 99 else if j < 146 then gk_kS (j - 103) else if j < 189 then gk_kS (j - 146) else [10, 20, 20, 20, 21, 20, 20, 20, 20, 22, 20, 22, 23].getD (j - 189) 99
def gk_ln (j : Nat) : Nat := if j = 0 then 0 else if j < 44 then gk_lS (j - 1) else if j < 87 then gk_lS (j - 44) else if j < 103 then [2, 2, 0, 0, 256, 256, 0, 0, 0, 500, 0, 0, 501, 501, 501, 20].getD (j - 87) 0 else if j < 146 then gk_lS (j - 103) else if j < 189 then gk_lS (j - 146) else [0, 2234, 2234, 4468, 2, 256, 256, 256, 256, 64, 500, 1, 1].getD (j - 189) 0
/-- the number of fields of a class -/
def gk_nf (ci : Nat) : Nat := [4, 5, 3, 4, 16, 6, 4, 2, 4, 8, 20].getD ci 0
/-- a reference field's cell, counted from its object's -/
def gk_fo (ci k : Nat) : Nat := match ci with
  | 0 => k + 1
  | 1 => [1].getD k 0
  | 4 => [1, 2, 3, 4].getD k 0
  | 5 => [0, 0, 1, 0, 5].getD k 0
  | 6 => [1, 2].getD k 0
  | 7 => [1].getD k 0
  | 8 => [1, 2, 3].getD k 0
  | 9 => [1, 44, 87, 88, 89, 90, 95, 97].getD k 0
  | 10 => [1, 2, 3, 4, 0, 5, 6, 7, 8, 9, 10].getD k 0
  | _ => 0
/-- an element's cell, counted from its array's -/
def gk_eo (kd k : Nat) : Nat := match kd with
  | 24 => 4 + k
  | 25 => 7 + 3 * k
  | 26 => 24 + 2 * k
  | 27 => 16 + 43 * k
  | _ => 0
/-- a field's kind: 0 int, 1 long, 2 reference -/
def gk_fk (ci k : Nat) : Nat := if gk_fo ci k = 0 then (if ci = 2 then 1 else if ci = 4 then (if k = 10 then 1 else 0) else if ci = 10 then (if k = 19 then 1 else 0) else 0) else 2
def gk_wd (kd j : Nat) : Nat := if kd < 11 then gk_nf kd else gk_ln j
def gk_tg (kd j k : Nat) : Nat := j + (if kd < 11 then gk_fo kd k else gk_eo kd k)
abbrev gk_X : Type := Nat → Nat → Int32
abbrev gk_Y : Type := Nat → Nat → Int64
abbrev gk_F : Type := Nat → Nat → Bool
abbrev gk_O : Type := Option Value ⊕ Nat
abbrev gk_K : Type := gk_O → Nat → gk_F → gk_X → gk_Y → Prop
abbrev gk_S : Type := List Value → Nat → gk_F → gk_X → gk_Y → gk_K → Prop
abbrev gk_V : Type := Nat → List (Option Value) → List Value → Nat → gk_F → gk_X → gk_Y → Nat → Prop
/-- what a constant pool's places are: a field (class, slot), a long, an int, a String constant (its number), an exception thrown with a text (its number, the text's place, the constructor's place) -/
abbrev gk_C : Type := (Nat → Option (Nat × Nat)) × (Nat → Option Int64) × (Nat → Option Int32) × (Nat → Option Nat) × (Nat → Option Nat)
/-- a callee: 0 static, 1 virtual, 2 special; its class; its arguments; its cost; what it does -/
abbrev gk_M0 : Type := Nat × Nat × Nat × Nat × gk_S
def gk_up (x : gk_X) (i k : Nat) (v : Int32) : gk_X := fun i' k' => if i' = i ∧ k' = k then v else x i' k'
def gk_uy (y : gk_Y) (i k : Nat) (v : Int64) : gk_Y := fun i' k' => if i' = i ∧ k' = k then v else y i' k'
def gk_uf (f : gk_F) (i k : Nat) : gk_F := fun i' k' => if i' = i ∧ k' = k then true else f i' k'
def gk_u0 (x : gk_X) (i : Nat) : gk_X := fun i' k' => if i' = i then 0 else x i' k'
def gk_v0 (y : gk_Y) (i : Nat) : gk_Y := fun i' k' => if i' = i then 0 else y i' k'
def gk_f0 (f : gk_F) (i : Nat) : gk_F := fun i' k' => if i' = i then false else f i' k'
def gk_lg : List (Option Value) → Nat → Option Value
  | [], _ => none
  | a :: _, 0 => a
  | _ :: t, n + 1 => gk_lg t n
/-- a local written over: a long or double just ahead of it is gone -/
def gk_cl : Option Value → Option Value
  | some (.long _) => none
  | some (.double _) => none
  | a => a
def gk_s1 : List (Option Value) → Nat → Option Value → List (Option Value)
  | [], _, _ => []
  | _ :: t, 0, v => v :: t
  | a :: t, 1, v => gk_cl a :: gk_s1 t 0 v
  | a :: t, n + 2, v => a :: gk_s1 t (n + 1) v
def gk_s2 : List (Option Value) → Nat → Option Value → List (Option Value)
  | [], _, _ => []
  | [_], 0, v => [v]
  | _ :: _ :: t, 0, v => v :: none :: t
  | a :: t, 1, v => gk_cl a :: gk_s2 t 0 v
  | a :: t, n + 2, v => a :: gk_s2 t (n + 1) v
/-- an entry's locals -/
def gk_L0 : List Value → List (Option Value)
  | [] => []
  | .long v :: t => some (.long v) :: none :: gk_L0 t
  | .double v :: t => some (.double v) :: none :: gk_L0 t
  | v :: t => some v :: gk_L0 t
def gk_en (vs : List Value) (nL : Nat) : List (Option Value) := gk_L0 vs ++ List.replicate (nL - (gk_L0 vs).length) none
def gk_c0 : Jvm.ClassFile.Cond → Int32 → Int32 → Prop
  | .eq, a, b => a = b
  | .ne, a, b => ¬ a = b
  | .lt, a, b => a < b
  | .ge, a, b => b ≤ a
  | .gt, a, b => b < a
  | .le, a, b => a ≤ b
def gk_ret (rt : Option FieldType) : Instr → Option Value → Prop
  | .ireturn, some (.int v) => ∃ ty, rt = some ty ∧ narrow ty (.int v) = .int v
  | .lreturn, some (.long _) => rt = some .long
  | .dreturn, some (.double _) => rt = some .double
  | .freturn, some (.float _) => rt = some .float
  | .areturn, some (.ref _) => ∃ ty, rt = some ty ∧ ((∃ n, ty = .object n) ∨ ∃ t, ty = .array t)
  | .return_, none => rt = none
  | _, _ => False
/-- what an array of a kind says of a place: an int array, or the script -/
def gk_ia (n : Nat) (sc : Option Nat) (j : Nat) (i : Int32) : Prop := (gk_kd j = 20 ∧ j < n ∧ vp_in i (gk_ln j)) ∨ (j = 5000 ∧ ∃ L, sc = some L ∧ vp_in i L)
/-- boolean fields (their stores want 0 or 1) -/
def gk_bz (ci k : Nat) : Bool := ci == 4 && (k == 11 || k == 13 || k == 15)
/-- the kind of a new array of numbers -/
def gk_nk : ArrayType → Nat
  | .int => 20
  | .boolean => 21
  | .long => 22
  | .double => 23
  | _ => 99
/-- a call's receiver: none; an object of ours; a String constant -/
def gk_rc (kd ci n : Nat) (as : List Value) : Prop := kd = 0 ∨ ((kd = 1 ∨ kd = 2) ∧ ∃ j r, as = .ref j :: r ∧ j < n ∧ gk_kd j = ci) ∨ (kd = 3 ∧ ∃ q r, as = .ref (6000 + q) :: r ∧ q < 19)
def gk_ik (kd idx : Nat) : Instr := if kd = 0 then .invokestatic idx else if kd = 2 then .invokespecial idx else .invokevirtual idx
/-- a throw's text, its constructor, the throw -/
def gk_tr (c : ByteArray) (pc is ic : Nat) : Prop := (decode c (pc + 4) = .ok (.ldc is, 2) ∧ decode c (pc + 6) = .ok (.invokespecial ic, 3) ∧ decode c (pc + 9) = .ok (.athrow, 1)) ∨ (decode c (pc + 4) = .ok (.ldc_w is, 3) ∧ decode c (pc + 7) = .ok (.invokespecial ic, 3) ∧ decode c (pc + 10) = .ok (.athrow, 1))
/-- one step, backwards: where it leads, V must hold -/
def gk_stp (c : ByteArray) (P : gk_C) (cs : Nat → Option gk_M0) (xh : Nat → Nat → Option (Nat × Nat)) (rt : Option FieldType) (uf : Nat) (sc : Option Nat) (K : gk_K) (V : gk_V) (i : Instr) (len pc : Nat) (L : List (Option Value)) (st : List Value) (n : Nat) (fl : gk_F) (x : gk_X) (y : gk_Y) (u : Nat) : Prop :=
  let go := fun (L : List (Option Value)) (st : List Value) => V (pc + len) L st n fl x y u
  let call := fun (idx : Nat) => ∃ kd ci m cost S args rest, cs idx = some (kd, ci, m, cost, S) ∧ kd < 5 ∧ gk_ik kd idx = i ∧ st = args.reverse ++ rest ∧ (rest.map Value.category).sum ≤ 8 ∧ args.length = m ∧ gk_rc kd ci n args ∧ (cost = 0 ∨ u + cost ≤ uf) ∧ S args n fl x y (fun o n' fl' x' y' => match o with
    | .inl r => V (pc + 3) L (r.toList ++ rest) n' fl' x' y' (u + cost)
    | .inr e => match xh pc e with
      | none => K (.inr e) n' fl' x' y'
      | some (hp, li) => V hp (gk_s1 L li none) [] n' fl' x' y' (u + cost))
  match i with
  | .iconst k => go L (.int (Int32.ofInt k) :: st)
  | .bipush k => go L (.int (Int8.ofInt k).toInt32 :: st)
  | .sipush k => go L (.int (Int16.ofInt k).toInt32 :: st)
  | .lconst k => go L (.long (Int64.ofNat (k : Nat)) :: st)
  | .dconst k => k = 0 ∧ go L (.double FP.dconst0 :: st)
  | .fconst k => k = 0 ∧ go L (.float FP.fconst0 :: st)
  | .ldc idx => (∃ v, P.2.2.1 idx = some v ∧ go L (.int v :: st)) ∨ (∃ q, P.2.2.2.1 idx = some q ∧ go L (.ref (6000 + q) :: st))
  | .ldc_w idx => (∃ v, P.2.2.1 idx = some v ∧ go L (.int v :: st)) ∨ (∃ q, P.2.2.2.1 idx = some q ∧ go L (.ref (6000 + q) :: st))
  | .ldc2_w idx => ∃ v, P.2.1 idx = some v ∧ go L (.long v :: st)
  | .iload k => ∃ v, gk_lg L k = some (.int v) ∧ go L (.int v :: st)
  | .iload_n k => ∃ v, gk_lg L k = some (.int v) ∧ go L (.int v :: st)
  | .lload k => ∃ v, gk_lg L k = some (.long v) ∧ go L (.long v :: st)
  | .lload_n k => ∃ v, gk_lg L k = some (.long v) ∧ go L (.long v :: st)
  | .dload k => ∃ v, gk_lg L k = some (.double v) ∧ go L (.double v :: st)
  | .dload_n k => ∃ v, gk_lg L k = some (.double v) ∧ go L (.double v :: st)
  | .fload k => ∃ v, gk_lg L k = some (.float v) ∧ go L (.float v :: st)
  | .aload k => ∃ v, gk_lg L k = some (.ref v) ∧ go L (.ref v :: st)
  | .aload_n k => ∃ v, gk_lg L k = some (.ref v) ∧ go L (.ref v :: st)
  | .istore k => ∃ v r, st = .int v :: r ∧ k < L.length ∧ go (gk_s1 L k (some (.int v))) r
  | .istore_n k => ∃ v r, st = .int v :: r ∧ (k : Nat) < L.length ∧ go (gk_s1 L k (some (.int v))) r
  | .lstore k => ∃ v r, st = .long v :: r ∧ k + 1 < L.length ∧ go (gk_s2 L k (some (.long v))) r
  | .lstore_n k => ∃ v r, st = .long v :: r ∧ (k : Nat) + 1 < L.length ∧ go (gk_s2 L k (some (.long v))) r
  | .dstore k => ∃ v r, st = .double v :: r ∧ k + 1 < L.length ∧ go (gk_s2 L k (some (.double v))) r
  | .dstore_n k => ∃ v r, st = .double v :: r ∧ (k : Nat) + 1 < L.length ∧ go (gk_s2 L k (some (.double v))) r
  | .fstore k => ∃ v r, st = .float v :: r ∧ k < L.length ∧ go (gk_s1 L k (some (.float v))) r
  | .astore k => ∃ v r, st = .ref v :: r ∧ k < L.length ∧ go (gk_s1 L k (some (.ref v))) r
  | .astore_n k => ∃ v r, st = .ref v :: r ∧ (k : Nat) < L.length ∧ go (gk_s1 L k (some (.ref v))) r
  | .iinc k d => ∃ v, gk_lg L k = some (.int v) ∧ k < L.length ∧ go (gk_s1 L k (some (.int (v + Int32.ofInt d)))) st
  | .iadd => ∃ a b r, st = .int b :: .int a :: r ∧ go L (.int (a + b) :: r)
  | .isub => ∃ a b r, st = .int b :: .int a :: r ∧ go L (.int (a - b) :: r)
  | .imul => ∃ a b r, st = .int b :: .int a :: r ∧ go L (.int (a * b) :: r)
  | .idiv => ∃ a b r, st = .int b :: .int a :: r ∧ ¬ b = 0 ∧ go L (.int (a / b) :: r)
  | .irem => ∃ a b r, st = .int b :: .int a :: r ∧ ¬ b = 0 ∧ go L (.int (a - a / b * b) :: r)
  | .iand => ∃ a b r, st = .int b :: .int a :: r ∧ go L (.int (a &&& b) :: r)
  | .ior => ∃ a b r, st = .int b :: .int a :: r ∧ go L (.int (a ||| b) :: r)
  | .ixor => ∃ a b r, st = .int b :: .int a :: r ∧ go L (.int (a ^^^ b) :: r)
  | .ishl => ∃ a b r, st = .int b :: .int a :: r ∧ go L (.int (a <<< (b &&& 31)) :: r)
  | .ishr => ∃ a b r, st = .int b :: .int a :: r ∧ go L (.int (a >>> (b &&& 31)) :: r)
  | .ineg => ∃ a r, st = .int a :: r ∧ go L (.int (-a) :: r)
  | .ladd => ∃ a b r, st = .long b :: .long a :: r ∧ go L (.long (a + b) :: r)
  | .lsub => ∃ a b r, st = .long b :: .long a :: r ∧ go L (.long (a - b) :: r)
  | .lmul => ∃ a b r, st = .long b :: .long a :: r ∧ go L (.long (a * b) :: r)
  | .ldiv => ∃ a b r, st = .long b :: .long a :: r ∧ ¬ b = 0 ∧ go L (.long (a / b) :: r)
  | .lrem => ∃ a b r, st = .long b :: .long a :: r ∧ ¬ b = 0 ∧ go L (.long (a - a / b * b) :: r)
  | .lshr => ∃ a b r, st = .int b :: .long a :: r ∧ go L (.long (a >>> (b.toInt64 &&& 63)) :: r)
  | .lcmp => ∃ a b r, st = .long b :: .long a :: r ∧ go L (.int (lg_cmp a b) :: r)
  | .i2l => ∃ a r, st = .int a :: r ∧ go L (.long a.toInt64 :: r)
  | .l2i => ∃ a r, st = .long a :: r ∧ go L (.int a.toInt32 :: r)
  | .i2c => ∃ a r, st = .int a :: r ∧ go L (.int (a.toUInt32 % 65536).toInt32 :: r)
  | .i2d => ∃ a r, st = .int a :: r ∧ go L (.double (FP.i2d a) :: r)
  | .l2d => ∃ a r, st = .long a :: r ∧ go L (.double (FP.l2d a) :: r)
  | .d2f => ∃ a r, st = .double a :: r ∧ vf_n32 (FP.d2f a) ∧ go L (.float (FP.d2f a) :: r)
  | .f2d => ∃ a r, st = .float a :: r ∧ vf_n64 (FP.f2d a) ∧ go L (.double (FP.f2d a) :: r)
  | .dmul => ∃ a b r, st = .double b :: .double a :: r ∧ vf_n64 (FP.dmul a b) ∧ go L (.double (FP.dmul a b) :: r)
  | .ddiv => ∃ a b r, st = .double b :: .double a :: r ∧ vf_n64 (FP.ddiv a b) ∧ go L (.double (FP.ddiv a b) :: r)
  | .dcmp op => ∃ a b r, st = .double b :: .double a :: r ∧ go L (.int (Op.cmpValue (FP.dcmp a b) op) :: r)
  | .fcmp op => ∃ a b r, st = .float b :: .float a :: r ∧ go L (.int (Op.cmpValue (FP.fcmp a b) op) :: r)
  | .dup => ∃ a r, st = a :: r ∧ a.category = 1 ∧ go L (a :: a :: r)
  | .dup2 => (∃ a b r, st = a :: b :: r ∧ a.category = 1 ∧ b.category = 1 ∧ go L (a :: b :: a :: b :: r)) ∨ (∃ a r, st = a :: r ∧ a.category = 2 ∧ go L (a :: a :: r))
  | .pop => ∃ a r, st = a :: r ∧ a.category = 1 ∧ go L r
  | .ifCond cd off => ∃ a r tgt, st = .int a :: r ∧ (pc : Int) + off = (tgt : Nat) ∧ (gk_c0 cd a 0 → V tgt L r n fl x y u) ∧ (¬ gk_c0 cd a 0 → go L r)
  | .if_icmp cd off => ∃ a b r tgt, st = .int b :: .int a :: r ∧ (pc : Int) + off = (tgt : Nat) ∧ (gk_c0 cd a b → V tgt L r n fl x y u) ∧ (¬ gk_c0 cd a b → go L r)
  | .goto off => ∃ tgt : Nat, (pc : Int) + off = (tgt : Nat) ∧ V tgt L st n fl x y u
  | .tableswitch dflt lo hi offs => ∃ a r, st = .int a :: r ∧ ((∃ tgt off : _, (¬ a.toInt < lo) ∧ (¬ hi < a.toInt) ∧ offs[(a.toInt - lo).toNat]? = some off ∧ (pc : Int) + off = (tgt : Nat) ∧ V tgt L r n fl x y u) ∨ (∃ tgt : Nat, (a.toInt < lo ∨ hi < a.toInt) ∧ (pc : Int) + dflt = (tgt : Nat) ∧ V tgt L r n fl x y u))
  | .getfield idx => ∃ ci k j r, P.1 idx = some (ci, k) ∧ st = .ref j :: r ∧ j < n ∧ gk_kd j = ci ∧ k < gk_nf ci ∧ ((gk_fk ci k = 0 ∧ go L (.int (x j k) :: r)) ∨ (gk_fk ci k = 1 ∧ go L (.long (y j k) :: r)) ∨ (gk_fk ci k = 2 ∧ fl j k = true ∧ go L (.ref (j + gk_fo ci k) :: r)))
  | .putfield idx => ∃ ci k j v r, P.1 idx = some (ci, k) ∧ st = v :: .ref j :: r ∧ j < n ∧ gk_kd j = ci ∧ k < gk_nf ci ∧ ((gk_fk ci k = 0 ∧ ∃ w, v = .int w ∧ (gk_bz ci k = true → (w = 0 ∨ w = 1)) ∧ V (pc + 3) L r n fl (gk_up x j k w) y u) ∨ (gk_fk ci k = 1 ∧ ∃ w, v = .long w ∧ V (pc + 3) L r n fl x (gk_uy y j k w) u) ∨ (gk_fk ci k = 2 ∧ v = .ref (j + gk_fo ci k) ∧ j + gk_fo ci k < n ∧ (∃ m S, cs 0 = some (99, ci, m, 0, S)) ∧ V (pc + 3) L r n (gk_uf fl j k) x y u))
  | .iaload => ∃ i j r, st = .int i :: .ref j :: r ∧ gk_ia n sc j i ∧ go L (.int (x j i.toNatClampNeg) :: r)
  | .baload => ∃ i j r, st = .int i :: .ref j :: r ∧ gk_kd j = 21 ∧ j < n ∧ vp_in i (gk_ln j) ∧ go L (.int (x j i.toNatClampNeg) :: r)
  | .laload => ∃ i j r, st = .int i :: .ref j :: r ∧ gk_kd j = 22 ∧ j < n ∧ vp_in i (gk_ln j) ∧ go L (.long (y j i.toNatClampNeg) :: r)
  | .daload => ∃ i j r, st = .int i :: .ref j :: r ∧ gk_kd j = 23 ∧ j < n ∧ vp_in i (gk_ln j) ∧ go L (.double (y j i.toNatClampNeg).toUInt64 :: r)
  | .aaload => ∃ i j r, st = .int i :: .ref j :: r ∧ 24 ≤ gk_kd j ∧ gk_kd j < 28 ∧ j < n ∧ vp_in i (gk_ln j) ∧ fl j i.toNatClampNeg = true ∧ go L (.ref (j + gk_eo (gk_kd j) i.toNatClampNeg) :: r)
  | .iastore => ∃ v i j r, st = .int v :: .int i :: .ref j :: r ∧ gk_kd j = 20 ∧ j < n ∧ vp_in i (gk_ln j) ∧ V (pc + 1) L r n fl (gk_up x j i.toNatClampNeg v) y u
  | .bastore => ∃ v i j r, st = .int v :: .int i :: .ref j :: r ∧ gk_kd j = 21 ∧ j < n ∧ vp_in i (gk_ln j) ∧ (v = 0 ∨ v = 1) ∧ V (pc + 1) L r n fl (gk_up x j i.toNatClampNeg v) y u
  | .lastore => ∃ v i j r, st = .long v :: .int i :: .ref j :: r ∧ gk_kd j = 22 ∧ j < n ∧ vp_in i (gk_ln j) ∧ V (pc + 1) L r n fl x (gk_uy y j i.toNatClampNeg v) u
  | .dastore => ∃ v i j r, st = .double v :: .int i :: .ref j :: r ∧ gk_kd j = 23 ∧ j < n ∧ vp_in i (gk_ln j) ∧ V (pc + 1) L r n fl x (gk_uy y j i.toNatClampNeg v.toInt64) u
  | .arraylength => ∃ j r, st = .ref j :: r ∧ ((20 ≤ gk_kd j ∧ gk_kd j < 28 ∧ j < n ∧ go L (.int (nI (gk_ln j)) :: r)) ∨ (j = 5000 ∧ ∃ Ls, sc = some Ls ∧ go L (.int (nI Ls) :: r)))
  | .invokestatic idx => call idx ∨ (∃ ci m S a b r, cs idx = some (5, ci, m, 0, S) ∧ st = .int b :: .int a :: r ∧ (r.map Value.category).sum ≤ 8 ∧ go L (.int (if a < b then b else a) :: r)) ∨ (∃ ci m S a b r, cs idx = some (6, ci, m, 0, S) ∧ st = .int b :: .int a :: r ∧ (r.map Value.category).sum ≤ 8 ∧ go L (.int (if b < a then b else a) :: r)) ∨ (∃ ci m S a r, cs idx = some (7, ci, m, 0, S) ∧ st = .int a :: r ∧ (r.map Value.category).sum ≤ 8 ∧ go L (.int (if 0 ≤ a then a else 0 - a) :: r)) ∨ (∃ ci m S b a k r, cs idx = some (8, ci, m, 0, S) ∧ st = .int k :: .int 0 :: .ref b :: .int 0 :: .ref a :: r ∧ (r.map Value.category).sum ≤ 8 ∧ gk_kd a = 20 ∧ gk_kd b = 20 ∧ a < n ∧ b < n ∧ ¬ k < 0 ∧ k.toNatClampNeg ≤ gk_ln a ∧ k.toNatClampNeg ≤ gk_ln b ∧ V (pc + 3) L r n fl (fun i' k' => if i' = b then (if k' < k.toNatClampNeg then x a k' else x b k') else x i' k') y u)
  | .invokevirtual idx => call idx
  | .invokespecial idx => call idx ∨ (∃ ci m S j r, cs idx = some (9, ci, m, 0, S) ∧ st = .ref j :: r ∧ (r.map Value.category).sum ≤ 8 ∧ go L r)
  | .new idx => (∃ q is ic ek, P.2.2.2.2 idx = some (100 + ek) ∧ decode c (pc + 3) = .ok (.dup, 1) ∧ gk_tr c pc is ic ∧ P.2.2.2.1 is = some q ∧ P.2.2.2.2 ic = some (300 + ek) ∧ (st.map Value.category).sum ≤ 8 ∧ u + 1 ≤ uf ∧ K (.inr ek) n fl x y) ∨ (∃ ci, P.2.2.2.2 idx = some ci ∧ ci < 11 ∧ gk_kd n = ci ∧ n < 202 ∧ u + gk_nf ci + 1 ≤ uf ∧ V (pc + 3) L (.ref n :: st) (n + 1) (gk_f0 fl n) (gk_u0 x n) (gk_v0 y n) (u + gk_nf ci + 1))
  | .newarray ty => ∃ k r, st = .int k :: r ∧ ¬ k < 0 ∧ gk_kd n = gk_nk ty ∧ k.toNatClampNeg = gk_ln n ∧ n < 202 ∧ u + gk_ln n + 1 ≤ uf ∧ V (pc + 2) L (.ref n :: r) (n + 1) (gk_f0 fl n) (gk_u0 x n) (gk_v0 y n) (u + gk_ln n + 1)
  | .anewarray idx => ∃ k r kd, st = .int k :: r ∧ ¬ k < 0 ∧ P.2.2.2.2 (100000 + idx) = some (200 + kd) ∧ gk_kd n = kd ∧ 24 ≤ kd ∧ kd < 28 ∧ k.toNatClampNeg = gk_ln n ∧ n < 202 ∧ u + gk_ln n + 1 ≤ uf ∧ V (pc + 3) L (.ref n :: r) (n + 1) (gk_f0 fl n) (gk_u0 x n) (gk_v0 y n) (u + gk_ln n + 1)
  | .aastore => ∃ i j r, st = .ref (j + gk_eo (gk_kd j) i.toNatClampNeg) :: .int i :: .ref j :: r ∧ 24 ≤ gk_kd j ∧ gk_kd j < 28 ∧ j < n ∧ vp_in i (gk_ln j) ∧ j + gk_eo (gk_kd j) i.toNatClampNeg < n ∧ V (pc + 1) L r n (gk_uf fl j i.toNatClampNeg) x y u
  | i => ∃ r, st = r.toList ∧ gk_ret rt i r ∧ K (.inl r) n fl x y
/-- an instruction's length (0: as it comes) -/
def gk_len : Instr → Nat
  | .iload _ | .lload _ | .dload _ | .fload _ | .aload _ | .istore _ | .lstore _ | .dstore _ | .fstore _ | .astore _ | .ldc _ | .bipush _ | .newarray _ => 2
  | .ldc_w _ | .ldc2_w _ | .sipush _ | .iinc _ _ | .ifCond _ _ | .if_icmp _ _ | .goto _ | .getfield _ | .putfield _ | .invokestatic _ | .invokevirtual _ | .invokespecial _ | .new _ | .anewarray _ => 3
  | .tableswitch _ _ _ _ => 0
  | _ => 1
/-- V is closed under the steps -/
def gk_W (c : ByteArray) (P : gk_C) (cs : Nat → Option gk_M0) (xh : Nat → Nat → Option (Nat × Nat)) (rt : Option FieldType) (uf : Nat) (sc : Option Nat) (K : gk_K) (V : gk_V) : Prop :=
  ∀ (i : Instr) (len pc : Nat), decode c pc = .ok (i, len) → (gk_len i = len ∨ gk_len i = 0) → ∀ (L : List (Option Value)) (st : List Value) (n : Nat) (fl : gk_F) (x : gk_X) (y : gk_Y) (u : Nat), gk_stp c P cs xh rt uf sc K V i len pc L st n fl x y u → V pc L st n fl x y u

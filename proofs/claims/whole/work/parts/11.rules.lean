/-! THE ENGINE, 2: a rule an instruction -/
section GKR
variable {c : ByteArray} {P : gk_C} {cs : Nat → Option gk_M0} {xh : Nat → Nat → Option (Nat × Nat)} {rt : Option FieldType} {uf : Nat} {sc : Option Nat} {K : gk_K} {V : gk_V}
variable {L : List (Option Value)} {r : List Value} {n : Nat} {fl : gk_F} {x : gk_X} {y : gk_Y} {u pc pc2 : Nat}
theorem s_iconst (w : gk_W c P cs xh rt uf sc K V) {k : Int} {v : Int32} (hd : decode c pc = .ok (.iconst k, 1)) (hp : pc + 1 = pc2) (hv : Int32.ofInt k = v) (kk : V pc2 L (.int v :: r) n fl x y u) : V pc L (r) n fl x y u := by
  subst hp
  exact w _ _ _ hd (Or.inl rfl) _ _ _ _ _ _ _ (by subst hv; exact kk)
theorem s_bipush (w : gk_W c P cs xh rt uf sc K V) {k : Int} {v : Int32} (hd : decode c pc = .ok (.bipush k, 2)) (hp : pc + 2 = pc2) (hv : (Int8.ofInt k).toInt32 = v) (kk : V pc2 L (.int v :: r) n fl x y u) : V pc L (r) n fl x y u := by
  subst hp
  exact w _ _ _ hd (Or.inl rfl) _ _ _ _ _ _ _ (by subst hv; exact kk)
theorem s_sipush (w : gk_W c P cs xh rt uf sc K V) {k : Int} {v : Int32} (hd : decode c pc = .ok (.sipush k, 3)) (hp : pc + 3 = pc2) (hv : (Int16.ofInt k).toInt32 = v) (kk : V pc2 L (.int v :: r) n fl x y u) : V pc L (r) n fl x y u := by
  subst hp
  exact w _ _ _ hd (Or.inl rfl) _ _ _ _ _ _ _ (by subst hv; exact kk)
theorem s_lconst (w : gk_W c P cs xh rt uf sc K V) {k : Fin 2} {v : Int64} (hd : decode c pc = .ok (.lconst k, 1)) (hp : pc + 1 = pc2) (hv : Int64.ofNat (k : Nat) = v) (kk : V pc2 L (.long v :: r) n fl x y u) : V pc L (r) n fl x y u := by
  subst hp
  exact w _ _ _ hd (Or.inl rfl) _ _ _ _ _ _ _ (by subst hv; exact kk)
theorem s_dconst (w : gk_W c P cs xh rt uf sc K V)  (hd : decode c pc = .ok (.dconst 0, 1)) (hp : pc + 1 = pc2)  (kk : V pc2 L (.double FP.dconst0 :: r) n fl x y u) : V pc L (r) n fl x y u := by
  subst hp
  exact w _ _ _ hd (Or.inl rfl) _ _ _ _ _ _ _ ⟨rfl, kk⟩
theorem s_fconst (w : gk_W c P cs xh rt uf sc K V)  (hd : decode c pc = .ok (.fconst 0, 1)) (hp : pc + 1 = pc2)  (kk : V pc2 L (.float FP.fconst0 :: r) n fl x y u) : V pc L (r) n fl x y u := by
  subst hp
  exact w _ _ _ hd (Or.inl rfl) _ _ _ _ _ _ _ ⟨rfl, kk⟩
theorem s_ldc (w : gk_W c P cs xh rt uf sc K V) {idx : Nat} {v : Int32} (hd : decode c pc = .ok (.ldc idx, 2)) (hp : pc + 2 = pc2) (hv : P.2.2.1 idx = some v) (kk : V pc2 L (.int v :: r) n fl x y u) : V pc L (r) n fl x y u := by
  subst hp
  exact w _ _ _ hd (Or.inl rfl) _ _ _ _ _ _ _ (Or.inl ⟨v, hv, kk⟩)
theorem s_ldcs (w : gk_W c P cs xh rt uf sc K V) {idx q : Nat} (hd : decode c pc = .ok (.ldc idx, 2)) (hp : pc + 2 = pc2) (hv : P.2.2.2.1 idx = some q) (kk : V pc2 L (.ref (6000 + q) :: r) n fl x y u) : V pc L (r) n fl x y u := by
  subst hp
  exact w _ _ _ hd (Or.inl rfl) _ _ _ _ _ _ _ (Or.inr ⟨q, hv, kk⟩)
theorem s_ldc_w (w : gk_W c P cs xh rt uf sc K V) {idx : Nat} {v : Int32} (hd : decode c pc = .ok (.ldc_w idx, 3)) (hp : pc + 3 = pc2) (hv : P.2.2.1 idx = some v) (kk : V pc2 L (.int v :: r) n fl x y u) : V pc L (r) n fl x y u := by
  subst hp
  exact w _ _ _ hd (Or.inl rfl) _ _ _ _ _ _ _ (Or.inl ⟨v, hv, kk⟩)
theorem s_ldc_ws (w : gk_W c P cs xh rt uf sc K V) {idx q : Nat} (hd : decode c pc = .ok (.ldc_w idx, 3)) (hp : pc + 3 = pc2) (hv : P.2.2.2.1 idx = some q) (kk : V pc2 L (.ref (6000 + q) :: r) n fl x y u) : V pc L (r) n fl x y u := by
  subst hp
  exact w _ _ _ hd (Or.inl rfl) _ _ _ _ _ _ _ (Or.inr ⟨q, hv, kk⟩)
theorem s_ldc2_w (w : gk_W c P cs xh rt uf sc K V) {idx : Nat} {v : Int64} (hd : decode c pc = .ok (.ldc2_w idx, 3)) (hp : pc + 3 = pc2) (hv : P.2.1 idx = some v) (kk : V pc2 L (.long v :: r) n fl x y u) : V pc L (r) n fl x y u := by
  subst hp
  exact w _ _ _ hd (Or.inl rfl) _ _ _ _ _ _ _ ⟨v, hv, kk⟩
theorem s_iload (w : gk_W c P cs xh rt uf sc K V) {k : Nat} {v : Int32} (hd : decode c pc = .ok (.iload k, 2)) (hp : pc + 2 = pc2) (hl : gk_lg L k = some (.int v)) (kk : V pc2 L (.int v :: r) n fl x y u) : V pc L (r) n fl x y u := by
  subst hp
  exact w _ _ _ hd (Or.inl rfl) _ _ _ _ _ _ _ ⟨v, hl, kk⟩
theorem s_iload_n (w : gk_W c P cs xh rt uf sc K V) {k : Fin 4} {v : Int32} (hd : decode c pc = .ok (.iload_n k, 1)) (hp : pc + 1 = pc2) (hl : gk_lg L k = some (.int v)) (kk : V pc2 L (.int v :: r) n fl x y u) : V pc L (r) n fl x y u := by
  subst hp
  exact w _ _ _ hd (Or.inl rfl) _ _ _ _ _ _ _ ⟨v, hl, kk⟩
theorem s_istore (w : gk_W c P cs xh rt uf sc K V) {k : Nat} {v : Int32} (hd : decode c pc = .ok (.istore k, 2)) (hp : pc + 2 = pc2) (hk : Nat.ble (k + 1) L.length = true) (kk : V pc2 (gk_s1 L k (some (.int v))) (r) n fl x y u) : V pc L (.int v :: r) n fl x y u := by
  subst hp
  exact w _ _ _ hd (Or.inl rfl) _ _ _ _ _ _ _ ⟨v, r, rfl, Nat.le_of_ble_eq_true hk, kk⟩
theorem s_istore_n (w : gk_W c P cs xh rt uf sc K V) {k : Fin 4} {k2 : Nat} {v : Int32} (hd : decode c pc = .ok (.istore_n k, 1)) (hp : pc + 1 = pc2) (hk2 : (k : Nat) = k2) (hk : Nat.ble (k2 + 1) L.length = true) (kk : V pc2 (gk_s1 L k2 (some (.int v))) (r) n fl x y u) : V pc L (.int v :: r) n fl x y u := by
  subst hp
  exact w _ _ _ hd (Or.inl rfl) _ _ _ _ _ _ _ (by subst hk2; exact ⟨v, r, rfl, Nat.le_of_ble_eq_true hk, kk⟩)
theorem s_lload (w : gk_W c P cs xh rt uf sc K V) {k : Nat} {v : Int64} (hd : decode c pc = .ok (.lload k, 2)) (hp : pc + 2 = pc2) (hl : gk_lg L k = some (.long v)) (kk : V pc2 L (.long v :: r) n fl x y u) : V pc L (r) n fl x y u := by
  subst hp
  exact w _ _ _ hd (Or.inl rfl) _ _ _ _ _ _ _ ⟨v, hl, kk⟩
theorem s_lload_n (w : gk_W c P cs xh rt uf sc K V) {k : Fin 4} {v : Int64} (hd : decode c pc = .ok (.lload_n k, 1)) (hp : pc + 1 = pc2) (hl : gk_lg L k = some (.long v)) (kk : V pc2 L (.long v :: r) n fl x y u) : V pc L (r) n fl x y u := by
  subst hp
  exact w _ _ _ hd (Or.inl rfl) _ _ _ _ _ _ _ ⟨v, hl, kk⟩
theorem s_lstore (w : gk_W c P cs xh rt uf sc K V) {k : Nat} {v : Int64} (hd : decode c pc = .ok (.lstore k, 2)) (hp : pc + 2 = pc2) (hk : Nat.ble (k + 2) L.length = true) (kk : V pc2 (gk_s2 L k (some (.long v))) (r) n fl x y u) : V pc L (.long v :: r) n fl x y u := by
  subst hp
  exact w _ _ _ hd (Or.inl rfl) _ _ _ _ _ _ _ ⟨v, r, rfl, Nat.le_of_ble_eq_true hk, kk⟩
theorem s_lstore_n (w : gk_W c P cs xh rt uf sc K V) {k : Fin 4} {k2 : Nat} {v : Int64} (hd : decode c pc = .ok (.lstore_n k, 1)) (hp : pc + 1 = pc2) (hk2 : (k : Nat) = k2) (hk : Nat.ble (k2 + 2) L.length = true) (kk : V pc2 (gk_s2 L k2 (some (.long v))) (r) n fl x y u) : V pc L (.long v :: r) n fl x y u := by
  subst hp
  exact w _ _ _ hd (Or.inl rfl) _ _ _ _ _ _ _ (by subst hk2; exact ⟨v, r, rfl, Nat.le_of_ble_eq_true hk, kk⟩)
theorem s_dload (w : gk_W c P cs xh rt uf sc K V) {k : Nat} {v : UInt64} (hd : decode c pc = .ok (.dload k, 2)) (hp : pc + 2 = pc2) (hl : gk_lg L k = some (.double v)) (kk : V pc2 L (.double v :: r) n fl x y u) : V pc L (r) n fl x y u := by
  subst hp
  exact w _ _ _ hd (Or.inl rfl) _ _ _ _ _ _ _ ⟨v, hl, kk⟩
theorem s_dload_n (w : gk_W c P cs xh rt uf sc K V) {k : Fin 4} {v : UInt64} (hd : decode c pc = .ok (.dload_n k, 1)) (hp : pc + 1 = pc2) (hl : gk_lg L k = some (.double v)) (kk : V pc2 L (.double v :: r) n fl x y u) : V pc L (r) n fl x y u := by
  subst hp
  exact w _ _ _ hd (Or.inl rfl) _ _ _ _ _ _ _ ⟨v, hl, kk⟩
theorem s_dstore (w : gk_W c P cs xh rt uf sc K V) {k : Nat} {v : UInt64} (hd : decode c pc = .ok (.dstore k, 2)) (hp : pc + 2 = pc2) (hk : Nat.ble (k + 2) L.length = true) (kk : V pc2 (gk_s2 L k (some (.double v))) (r) n fl x y u) : V pc L (.double v :: r) n fl x y u := by
  subst hp
  exact w _ _ _ hd (Or.inl rfl) _ _ _ _ _ _ _ ⟨v, r, rfl, Nat.le_of_ble_eq_true hk, kk⟩
theorem s_dstore_n (w : gk_W c P cs xh rt uf sc K V) {k : Fin 4} {k2 : Nat} {v : UInt64} (hd : decode c pc = .ok (.dstore_n k, 1)) (hp : pc + 1 = pc2) (hk2 : (k : Nat) = k2) (hk : Nat.ble (k2 + 2) L.length = true) (kk : V pc2 (gk_s2 L k2 (some (.double v))) (r) n fl x y u) : V pc L (.double v :: r) n fl x y u := by
  subst hp
  exact w _ _ _ hd (Or.inl rfl) _ _ _ _ _ _ _ (by subst hk2; exact ⟨v, r, rfl, Nat.le_of_ble_eq_true hk, kk⟩)
theorem s_fload (w : gk_W c P cs xh rt uf sc K V) {k : Nat} {v : UInt32} (hd : decode c pc = .ok (.fload k, 2)) (hp : pc + 2 = pc2) (hl : gk_lg L k = some (.float v)) (kk : V pc2 L (.float v :: r) n fl x y u) : V pc L (r) n fl x y u := by
  subst hp
  exact w _ _ _ hd (Or.inl rfl) _ _ _ _ _ _ _ ⟨v, hl, kk⟩
theorem s_fstore (w : gk_W c P cs xh rt uf sc K V) {k : Nat} {v : UInt32} (hd : decode c pc = .ok (.fstore k, 2)) (hp : pc + 2 = pc2) (hk : Nat.ble (k + 1) L.length = true) (kk : V pc2 (gk_s1 L k (some (.float v))) (r) n fl x y u) : V pc L (.float v :: r) n fl x y u := by
  subst hp
  exact w _ _ _ hd (Or.inl rfl) _ _ _ _ _ _ _ ⟨v, r, rfl, Nat.le_of_ble_eq_true hk, kk⟩
theorem s_aload (w : gk_W c P cs xh rt uf sc K V) {k : Nat} {v : Nat} (hd : decode c pc = .ok (.aload k, 2)) (hp : pc + 2 = pc2) (hl : gk_lg L k = some (.ref v)) (kk : V pc2 L (.ref v :: r) n fl x y u) : V pc L (r) n fl x y u := by
  subst hp
  exact w _ _ _ hd (Or.inl rfl) _ _ _ _ _ _ _ ⟨v, hl, kk⟩
theorem s_aload_n (w : gk_W c P cs xh rt uf sc K V) {k : Fin 4} {v : Nat} (hd : decode c pc = .ok (.aload_n k, 1)) (hp : pc + 1 = pc2) (hl : gk_lg L k = some (.ref v)) (kk : V pc2 L (.ref v :: r) n fl x y u) : V pc L (r) n fl x y u := by
  subst hp
  exact w _ _ _ hd (Or.inl rfl) _ _ _ _ _ _ _ ⟨v, hl, kk⟩
theorem s_astore (w : gk_W c P cs xh rt uf sc K V) {k : Nat} {v : Nat} (hd : decode c pc = .ok (.astore k, 2)) (hp : pc + 2 = pc2) (hk : Nat.ble (k + 1) L.length = true) (kk : V pc2 (gk_s1 L k (some (.ref v))) (r) n fl x y u) : V pc L (.ref v :: r) n fl x y u := by
  subst hp
  exact w _ _ _ hd (Or.inl rfl) _ _ _ _ _ _ _ ⟨v, r, rfl, Nat.le_of_ble_eq_true hk, kk⟩
theorem s_astore_n (w : gk_W c P cs xh rt uf sc K V) {k : Fin 4} {k2 : Nat} {v : Nat} (hd : decode c pc = .ok (.astore_n k, 1)) (hp : pc + 1 = pc2) (hk2 : (k : Nat) = k2) (hk : Nat.ble (k2 + 1) L.length = true) (kk : V pc2 (gk_s1 L k2 (some (.ref v))) (r) n fl x y u) : V pc L (.ref v :: r) n fl x y u := by
  subst hp
  exact w _ _ _ hd (Or.inl rfl) _ _ _ _ _ _ _ (by subst hk2; exact ⟨v, r, rfl, Nat.le_of_ble_eq_true hk, kk⟩)
theorem s_iinc (w : gk_W c P cs xh rt uf sc K V) {k : Nat} {d : Int} {v v2 : Int32} (hd : decode c pc = .ok (.iinc k d, 3)) (hp : pc + 3 = pc2) (hl : gk_lg L k = some (.int v)) (hk : Nat.ble (k + 1) L.length = true) (hv : v + Int32.ofInt d = v2) (kk : V pc2 (gk_s1 L k (some (.int v2))) (r) n fl x y u) : V pc L (r) n fl x y u := by
  subst hp
  exact w _ _ _ hd (Or.inl rfl) _ _ _ _ _ _ _ (by subst hv; exact ⟨v, hl, Nat.le_of_ble_eq_true hk, kk⟩)
theorem s_iadd (w : gk_W c P cs xh rt uf sc K V) {a b : Int32} (hd : decode c pc = .ok (.iadd, 1)) (hp : pc + 1 = pc2)  (kk : V pc2 L (.int (a + b) :: r) n fl x y u) : V pc L (.int b :: .int a :: r) n fl x y u := by
  subst hp
  exact w _ _ _ hd (Or.inl rfl) _ _ _ _ _ _ _ ⟨a, b, r, rfl, kk⟩
theorem s_isub (w : gk_W c P cs xh rt uf sc K V) {a b : Int32} (hd : decode c pc = .ok (.isub, 1)) (hp : pc + 1 = pc2)  (kk : V pc2 L (.int (a - b) :: r) n fl x y u) : V pc L (.int b :: .int a :: r) n fl x y u := by
  subst hp
  exact w _ _ _ hd (Or.inl rfl) _ _ _ _ _ _ _ ⟨a, b, r, rfl, kk⟩
theorem s_imul (w : gk_W c P cs xh rt uf sc K V) {a b : Int32} (hd : decode c pc = .ok (.imul, 1)) (hp : pc + 1 = pc2)  (kk : V pc2 L (.int (a * b) :: r) n fl x y u) : V pc L (.int b :: .int a :: r) n fl x y u := by
  subst hp
  exact w _ _ _ hd (Or.inl rfl) _ _ _ _ _ _ _ ⟨a, b, r, rfl, kk⟩
theorem s_idiv (w : gk_W c P cs xh rt uf sc K V) {a b : Int32} (hd : decode c pc = .ok (.idiv, 1)) (hp : pc + 1 = pc2) (hz : ¬ b = 0) (kk : V pc2 L (.int (a / b) :: r) n fl x y u) : V pc L (.int b :: .int a :: r) n fl x y u := by
  subst hp
  exact w _ _ _ hd (Or.inl rfl) _ _ _ _ _ _ _ ⟨a, b, r, rfl, hz, kk⟩
theorem s_irem (w : gk_W c P cs xh rt uf sc K V) {a b : Int32} (hd : decode c pc = .ok (.irem, 1)) (hp : pc + 1 = pc2) (hz : ¬ b = 0) (kk : V pc2 L (.int (a - a / b * b) :: r) n fl x y u) : V pc L (.int b :: .int a :: r) n fl x y u := by
  subst hp
  exact w _ _ _ hd (Or.inl rfl) _ _ _ _ _ _ _ ⟨a, b, r, rfl, hz, kk⟩
theorem s_iand (w : gk_W c P cs xh rt uf sc K V) {a b : Int32} (hd : decode c pc = .ok (.iand, 1)) (hp : pc + 1 = pc2)  (kk : V pc2 L (.int (a &&& b) :: r) n fl x y u) : V pc L (.int b :: .int a :: r) n fl x y u := by
  subst hp
  exact w _ _ _ hd (Or.inl rfl) _ _ _ _ _ _ _ ⟨a, b, r, rfl, kk⟩
theorem s_ior (w : gk_W c P cs xh rt uf sc K V) {a b : Int32} (hd : decode c pc = .ok (.ior, 1)) (hp : pc + 1 = pc2)  (kk : V pc2 L (.int (a ||| b) :: r) n fl x y u) : V pc L (.int b :: .int a :: r) n fl x y u := by
  subst hp
  exact w _ _ _ hd (Or.inl rfl) _ _ _ _ _ _ _ ⟨a, b, r, rfl, kk⟩
theorem s_ixor (w : gk_W c P cs xh rt uf sc K V) {a b : Int32} (hd : decode c pc = .ok (.ixor, 1)) (hp : pc + 1 = pc2)  (kk : V pc2 L (.int (a ^^^ b) :: r) n fl x y u) : V pc L (.int b :: .int a :: r) n fl x y u := by
  subst hp
  exact w _ _ _ hd (Or.inl rfl) _ _ _ _ _ _ _ ⟨a, b, r, rfl, kk⟩
theorem s_ishl (w : gk_W c P cs xh rt uf sc K V) {a b : Int32} (hd : decode c pc = .ok (.ishl, 1)) (hp : pc + 1 = pc2)  (kk : V pc2 L (.int (a <<< (b &&& 31)) :: r) n fl x y u) : V pc L (.int b :: .int a :: r) n fl x y u := by
  subst hp
  exact w _ _ _ hd (Or.inl rfl) _ _ _ _ _ _ _ ⟨a, b, r, rfl, kk⟩
theorem s_ishr (w : gk_W c P cs xh rt uf sc K V) {a b : Int32} (hd : decode c pc = .ok (.ishr, 1)) (hp : pc + 1 = pc2)  (kk : V pc2 L (.int (a >>> (b &&& 31)) :: r) n fl x y u) : V pc L (.int b :: .int a :: r) n fl x y u := by
  subst hp
  exact w _ _ _ hd (Or.inl rfl) _ _ _ _ _ _ _ ⟨a, b, r, rfl, kk⟩
theorem s_ladd (w : gk_W c P cs xh rt uf sc K V) {a b : Int64} (hd : decode c pc = .ok (.ladd, 1)) (hp : pc + 1 = pc2)  (kk : V pc2 L (.long (a + b) :: r) n fl x y u) : V pc L (.long b :: .long a :: r) n fl x y u := by
  subst hp
  exact w _ _ _ hd (Or.inl rfl) _ _ _ _ _ _ _ ⟨a, b, r, rfl, kk⟩
theorem s_lsub (w : gk_W c P cs xh rt uf sc K V) {a b : Int64} (hd : decode c pc = .ok (.lsub, 1)) (hp : pc + 1 = pc2)  (kk : V pc2 L (.long (a - b) :: r) n fl x y u) : V pc L (.long b :: .long a :: r) n fl x y u := by
  subst hp
  exact w _ _ _ hd (Or.inl rfl) _ _ _ _ _ _ _ ⟨a, b, r, rfl, kk⟩
theorem s_lmul (w : gk_W c P cs xh rt uf sc K V) {a b : Int64} (hd : decode c pc = .ok (.lmul, 1)) (hp : pc + 1 = pc2)  (kk : V pc2 L (.long (a * b) :: r) n fl x y u) : V pc L (.long b :: .long a :: r) n fl x y u := by
  subst hp
  exact w _ _ _ hd (Or.inl rfl) _ _ _ _ _ _ _ ⟨a, b, r, rfl, kk⟩
theorem s_ldiv (w : gk_W c P cs xh rt uf sc K V) {a b : Int64} (hd : decode c pc = .ok (.ldiv, 1)) (hp : pc + 1 = pc2) (hz : ¬ b = 0) (kk : V pc2 L (.long (a / b) :: r) n fl x y u) : V pc L (.long b :: .long a :: r) n fl x y u := by
  subst hp
  exact w _ _ _ hd (Or.inl rfl) _ _ _ _ _ _ _ ⟨a, b, r, rfl, hz, kk⟩
theorem s_lrem (w : gk_W c P cs xh rt uf sc K V) {a b : Int64} (hd : decode c pc = .ok (.lrem, 1)) (hp : pc + 1 = pc2) (hz : ¬ b = 0) (kk : V pc2 L (.long (a - a / b * b) :: r) n fl x y u) : V pc L (.long b :: .long a :: r) n fl x y u := by
  subst hp
  exact w _ _ _ hd (Or.inl rfl) _ _ _ _ _ _ _ ⟨a, b, r, rfl, hz, kk⟩
theorem s_lcmp (w : gk_W c P cs xh rt uf sc K V) {a b : Int64} (hd : decode c pc = .ok (.lcmp, 1)) (hp : pc + 1 = pc2)  (kk : V pc2 L (.int (lg_cmp a b) :: r) n fl x y u) : V pc L (.long b :: .long a :: r) n fl x y u := by
  subst hp
  exact w _ _ _ hd (Or.inl rfl) _ _ _ _ _ _ _ ⟨a, b, r, rfl, kk⟩
theorem s_dmul (w : gk_W c P cs xh rt uf sc K V) {a b : UInt64} (hd : decode c pc = .ok (.dmul, 1)) (hp : pc + 1 = pc2) (hz : vf_n64 (FP.dmul a b)) (kk : V pc2 L (.double (FP.dmul a b) :: r) n fl x y u) : V pc L (.double b :: .double a :: r) n fl x y u := by
  subst hp
  exact w _ _ _ hd (Or.inl rfl) _ _ _ _ _ _ _ ⟨a, b, r, rfl, hz, kk⟩
theorem s_ddiv (w : gk_W c P cs xh rt uf sc K V) {a b : UInt64} (hd : decode c pc = .ok (.ddiv, 1)) (hp : pc + 1 = pc2) (hz : vf_n64 (FP.ddiv a b)) (kk : V pc2 L (.double (FP.ddiv a b) :: r) n fl x y u) : V pc L (.double b :: .double a :: r) n fl x y u := by
  subst hp
  exact w _ _ _ hd (Or.inl rfl) _ _ _ _ _ _ _ ⟨a, b, r, rfl, hz, kk⟩
theorem s_lshr (w : gk_W c P cs xh rt uf sc K V) {a : Int64} {b : Int32} (hd : decode c pc = .ok (.lshr, 1)) (hp : pc + 1 = pc2)  (kk : V pc2 L (.long (a >>> (b.toInt64 &&& 63)) :: r) n fl x y u) : V pc L (.int b :: .long a :: r) n fl x y u := by
  subst hp
  exact w _ _ _ hd (Or.inl rfl) _ _ _ _ _ _ _ ⟨a, b, r, rfl, kk⟩
theorem s_dcmp (w : gk_W c P cs xh rt uf sc K V) {a b : UInt64} {op : CmpOp} (hd : decode c pc = .ok (.dcmp op, 1)) (hp : pc + 1 = pc2)  (kk : V pc2 L (.int (Op.cmpValue (FP.dcmp a b) op) :: r) n fl x y u) : V pc L (.double b :: .double a :: r) n fl x y u := by
  subst hp
  exact w _ _ _ hd (Or.inl rfl) _ _ _ _ _ _ _ ⟨a, b, r, rfl, kk⟩
theorem s_fcmp (w : gk_W c P cs xh rt uf sc K V) {a b : UInt32} {op : CmpOp} (hd : decode c pc = .ok (.fcmp op, 1)) (hp : pc + 1 = pc2)  (kk : V pc2 L (.int (Op.cmpValue (FP.fcmp a b) op) :: r) n fl x y u) : V pc L (.float b :: .float a :: r) n fl x y u := by
  subst hp
  exact w _ _ _ hd (Or.inl rfl) _ _ _ _ _ _ _ ⟨a, b, r, rfl, kk⟩
theorem s_ineg (w : gk_W c P cs xh rt uf sc K V) {a : Int32} (hd : decode c pc = .ok (.ineg, 1)) (hp : pc + 1 = pc2)  (kk : V pc2 L (.int (-a) :: r) n fl x y u) : V pc L (.int a :: r) n fl x y u := by
  subst hp
  exact w _ _ _ hd (Or.inl rfl) _ _ _ _ _ _ _ ⟨a, r, rfl, kk⟩
theorem s_i2l (w : gk_W c P cs xh rt uf sc K V) {a : Int32} (hd : decode c pc = .ok (.i2l, 1)) (hp : pc + 1 = pc2)  (kk : V pc2 L (.long a.toInt64 :: r) n fl x y u) : V pc L (.int a :: r) n fl x y u := by
  subst hp
  exact w _ _ _ hd (Or.inl rfl) _ _ _ _ _ _ _ ⟨a, r, rfl, kk⟩
theorem s_l2i (w : gk_W c P cs xh rt uf sc K V) {a : Int64} (hd : decode c pc = .ok (.l2i, 1)) (hp : pc + 1 = pc2)  (kk : V pc2 L (.int a.toInt32 :: r) n fl x y u) : V pc L (.long a :: r) n fl x y u := by
  subst hp
  exact w _ _ _ hd (Or.inl rfl) _ _ _ _ _ _ _ ⟨a, r, rfl, kk⟩
theorem s_i2c (w : gk_W c P cs xh rt uf sc K V) {a : Int32} (hd : decode c pc = .ok (.i2c, 1)) (hp : pc + 1 = pc2)  (kk : V pc2 L (.int (a.toUInt32 % 65536).toInt32 :: r) n fl x y u) : V pc L (.int a :: r) n fl x y u := by
  subst hp
  exact w _ _ _ hd (Or.inl rfl) _ _ _ _ _ _ _ ⟨a, r, rfl, kk⟩
theorem s_i2d (w : gk_W c P cs xh rt uf sc K V) {a : Int32} (hd : decode c pc = .ok (.i2d, 1)) (hp : pc + 1 = pc2)  (kk : V pc2 L (.double (FP.i2d a) :: r) n fl x y u) : V pc L (.int a :: r) n fl x y u := by
  subst hp
  exact w _ _ _ hd (Or.inl rfl) _ _ _ _ _ _ _ ⟨a, r, rfl, kk⟩
theorem s_l2d (w : gk_W c P cs xh rt uf sc K V) {a : Int64} (hd : decode c pc = .ok (.l2d, 1)) (hp : pc + 1 = pc2)  (kk : V pc2 L (.double (FP.l2d a) :: r) n fl x y u) : V pc L (.long a :: r) n fl x y u := by
  subst hp
  exact w _ _ _ hd (Or.inl rfl) _ _ _ _ _ _ _ ⟨a, r, rfl, kk⟩
theorem s_d2f (w : gk_W c P cs xh rt uf sc K V) {a : UInt64} (hd : decode c pc = .ok (.d2f, 1)) (hp : pc + 1 = pc2) (hz : vf_n32 (FP.d2f a)) (kk : V pc2 L (.float (FP.d2f a) :: r) n fl x y u) : V pc L (.double a :: r) n fl x y u := by
  subst hp
  exact w _ _ _ hd (Or.inl rfl) _ _ _ _ _ _ _ ⟨a, r, rfl, hz, kk⟩
theorem s_f2d (w : gk_W c P cs xh rt uf sc K V) {a : UInt32} (hd : decode c pc = .ok (.f2d, 1)) (hp : pc + 1 = pc2) (hz : vf_n64 (FP.f2d a)) (kk : V pc2 L (.double (FP.f2d a) :: r) n fl x y u) : V pc L (.float a :: r) n fl x y u := by
  subst hp
  exact w _ _ _ hd (Or.inl rfl) _ _ _ _ _ _ _ ⟨a, r, rfl, hz, kk⟩
theorem s_dup (w : gk_W c P cs xh rt uf sc K V) {a : Value} (hd : decode c pc = .ok (.dup, 1)) (hp : pc + 1 = pc2) (h : a.category = 1) (kk : V pc2 L (a :: a :: r) n fl x y u) : V pc L (a :: r) n fl x y u := by
  subst hp
  exact w _ _ _ hd (Or.inl rfl) _ _ _ _ _ _ _ ⟨a, r, rfl, h, kk⟩
theorem s_dup2 (w : gk_W c P cs xh rt uf sc K V) {a b : Value} (hd : decode c pc = .ok (.dup2, 1)) (hp : pc + 1 = pc2) (h : a.category = 1) (h2 : b.category = 1) (kk : V pc2 L (a :: b :: a :: b :: r) n fl x y u) : V pc L (a :: b :: r) n fl x y u := by
  subst hp
  exact w _ _ _ hd (Or.inl rfl) _ _ _ _ _ _ _ (Or.inl ⟨a, b, r, rfl, h, h2, kk⟩)
theorem s_dup2l (w : gk_W c P cs xh rt uf sc K V) {a : Value} (hd : decode c pc = .ok (.dup2, 1)) (hp : pc + 1 = pc2) (h : a.category = 2) (kk : V pc2 L (a :: a :: r) n fl x y u) : V pc L (a :: r) n fl x y u := by
  subst hp
  exact w _ _ _ hd (Or.inl rfl) _ _ _ _ _ _ _ (Or.inr ⟨a, r, rfl, h, kk⟩)
theorem s_pop (w : gk_W c P cs xh rt uf sc K V) {a : Value} (hd : decode c pc = .ok (.pop, 1)) (hp : pc + 1 = pc2) (h : a.category = 1) (kk : V pc2 L (r) n fl x y u) : V pc L (a :: r) n fl x y u := by
  subst hp
  exact w _ _ _ hd (Or.inl rfl) _ _ _ _ _ _ _ ⟨a, r, rfl, h, kk⟩
theorem s_if_eq (w : gk_W c P cs xh rt uf sc K V) {a : Int32} {off : Int} {tgt : Nat} (hd : decode c pc = .ok (.ifCond .eq off, 3)) (hp : pc + 3 = pc2) (ht : (pc : Int) + off = (tgt : Int)) (kt : a = 0 → V tgt L r n fl x y u) (kf : ¬ a = 0 → V pc2 L r n fl x y u) : V pc L (.int a :: r) n fl x y u := by
  subst hp
  exact w _ _ _ hd (Or.inl rfl) _ _ _ _ _ _ _ ⟨a, r, tgt, rfl, ht, kt, kf⟩
theorem s_ic_eq (w : gk_W c P cs xh rt uf sc K V) {a b : Int32} {off : Int} {tgt : Nat} (hd : decode c pc = .ok (.if_icmp .eq off, 3)) (hp : pc + 3 = pc2) (ht : (pc : Int) + off = (tgt : Int)) (kt : a = b → V tgt L r n fl x y u) (kf : ¬ a = b → V pc2 L r n fl x y u) : V pc L (.int b :: .int a :: r) n fl x y u := by
  subst hp
  exact w _ _ _ hd (Or.inl rfl) _ _ _ _ _ _ _ ⟨a, b, r, tgt, rfl, ht, kt, kf⟩
theorem s_if_ne (w : gk_W c P cs xh rt uf sc K V) {a : Int32} {off : Int} {tgt : Nat} (hd : decode c pc = .ok (.ifCond .ne off, 3)) (hp : pc + 3 = pc2) (ht : (pc : Int) + off = (tgt : Int)) (kt : ¬ a = 0 → V tgt L r n fl x y u) (kf : a = 0 → V pc2 L r n fl x y u) : V pc L (.int a :: r) n fl x y u := by
  subst hp
  exact w _ _ _ hd (Or.inl rfl) _ _ _ _ _ _ _ ⟨a, r, tgt, rfl, ht, kt, fun h => kf (Classical.not_not.mp h)⟩
theorem s_ic_ne (w : gk_W c P cs xh rt uf sc K V) {a b : Int32} {off : Int} {tgt : Nat} (hd : decode c pc = .ok (.if_icmp .ne off, 3)) (hp : pc + 3 = pc2) (ht : (pc : Int) + off = (tgt : Int)) (kt : ¬ a = b → V tgt L r n fl x y u) (kf : a = b → V pc2 L r n fl x y u) : V pc L (.int b :: .int a :: r) n fl x y u := by
  subst hp
  exact w _ _ _ hd (Or.inl rfl) _ _ _ _ _ _ _ ⟨a, b, r, tgt, rfl, ht, kt, fun h => kf (Classical.not_not.mp h)⟩
theorem s_if_lt (w : gk_W c P cs xh rt uf sc K V) {a : Int32} {off : Int} {tgt : Nat} (hd : decode c pc = .ok (.ifCond .lt off, 3)) (hp : pc + 3 = pc2) (ht : (pc : Int) + off = (tgt : Int)) (kt : a < 0 → V tgt L r n fl x y u) (kf : ¬ a < 0 → V pc2 L r n fl x y u) : V pc L (.int a :: r) n fl x y u := by
  subst hp
  exact w _ _ _ hd (Or.inl rfl) _ _ _ _ _ _ _ ⟨a, r, tgt, rfl, ht, kt, kf⟩
theorem s_ic_lt (w : gk_W c P cs xh rt uf sc K V) {a b : Int32} {off : Int} {tgt : Nat} (hd : decode c pc = .ok (.if_icmp .lt off, 3)) (hp : pc + 3 = pc2) (ht : (pc : Int) + off = (tgt : Int)) (kt : a < b → V tgt L r n fl x y u) (kf : ¬ a < b → V pc2 L r n fl x y u) : V pc L (.int b :: .int a :: r) n fl x y u := by
  subst hp
  exact w _ _ _ hd (Or.inl rfl) _ _ _ _ _ _ _ ⟨a, b, r, tgt, rfl, ht, kt, kf⟩
theorem s_if_ge (w : gk_W c P cs xh rt uf sc K V) {a : Int32} {off : Int} {tgt : Nat} (hd : decode c pc = .ok (.ifCond .ge off, 3)) (hp : pc + 3 = pc2) (ht : (pc : Int) + off = (tgt : Int)) (kt : 0 ≤ a → V tgt L r n fl x y u) (kf : ¬ 0 ≤ a → V pc2 L r n fl x y u) : V pc L (.int a :: r) n fl x y u := by
  subst hp
  exact w _ _ _ hd (Or.inl rfl) _ _ _ _ _ _ _ ⟨a, r, tgt, rfl, ht, kt, kf⟩
theorem s_ic_ge (w : gk_W c P cs xh rt uf sc K V) {a b : Int32} {off : Int} {tgt : Nat} (hd : decode c pc = .ok (.if_icmp .ge off, 3)) (hp : pc + 3 = pc2) (ht : (pc : Int) + off = (tgt : Int)) (kt : b ≤ a → V tgt L r n fl x y u) (kf : ¬ b ≤ a → V pc2 L r n fl x y u) : V pc L (.int b :: .int a :: r) n fl x y u := by
  subst hp
  exact w _ _ _ hd (Or.inl rfl) _ _ _ _ _ _ _ ⟨a, b, r, tgt, rfl, ht, kt, kf⟩
theorem s_if_gt (w : gk_W c P cs xh rt uf sc K V) {a : Int32} {off : Int} {tgt : Nat} (hd : decode c pc = .ok (.ifCond .gt off, 3)) (hp : pc + 3 = pc2) (ht : (pc : Int) + off = (tgt : Int)) (kt : 0 < a → V tgt L r n fl x y u) (kf : ¬ 0 < a → V pc2 L r n fl x y u) : V pc L (.int a :: r) n fl x y u := by
  subst hp
  exact w _ _ _ hd (Or.inl rfl) _ _ _ _ _ _ _ ⟨a, r, tgt, rfl, ht, kt, kf⟩
theorem s_ic_gt (w : gk_W c P cs xh rt uf sc K V) {a b : Int32} {off : Int} {tgt : Nat} (hd : decode c pc = .ok (.if_icmp .gt off, 3)) (hp : pc + 3 = pc2) (ht : (pc : Int) + off = (tgt : Int)) (kt : b < a → V tgt L r n fl x y u) (kf : ¬ b < a → V pc2 L r n fl x y u) : V pc L (.int b :: .int a :: r) n fl x y u := by
  subst hp
  exact w _ _ _ hd (Or.inl rfl) _ _ _ _ _ _ _ ⟨a, b, r, tgt, rfl, ht, kt, kf⟩
theorem s_if_le (w : gk_W c P cs xh rt uf sc K V) {a : Int32} {off : Int} {tgt : Nat} (hd : decode c pc = .ok (.ifCond .le off, 3)) (hp : pc + 3 = pc2) (ht : (pc : Int) + off = (tgt : Int)) (kt : a ≤ 0 → V tgt L r n fl x y u) (kf : ¬ a ≤ 0 → V pc2 L r n fl x y u) : V pc L (.int a :: r) n fl x y u := by
  subst hp
  exact w _ _ _ hd (Or.inl rfl) _ _ _ _ _ _ _ ⟨a, r, tgt, rfl, ht, kt, kf⟩
theorem s_ic_le (w : gk_W c P cs xh rt uf sc K V) {a b : Int32} {off : Int} {tgt : Nat} (hd : decode c pc = .ok (.if_icmp .le off, 3)) (hp : pc + 3 = pc2) (ht : (pc : Int) + off = (tgt : Int)) (kt : a ≤ b → V tgt L r n fl x y u) (kf : ¬ a ≤ b → V pc2 L r n fl x y u) : V pc L (.int b :: .int a :: r) n fl x y u := by
  subst hp
  exact w _ _ _ hd (Or.inl rfl) _ _ _ _ _ _ _ ⟨a, b, r, tgt, rfl, ht, kt, kf⟩
theorem s_goto (w : gk_W c P cs xh rt uf sc K V) {off : Int} {tgt : Nat} (hd : decode c pc = .ok (.goto off, 3)) (ht : (pc : Int) + off = (tgt : Int)) (kk : V tgt L r n fl x y u) : V pc L r n fl x y u := w _ _ _ hd (Or.inl rfl) _ _ _ _ _ _ _ ⟨tgt, ht, kk⟩
theorem s_tabIn (w : gk_W c P cs xh rt uf sc K V) {dflt lo hi : Int} {offs : Array Int} {len tgt : Nat} {off : Int} {a : Int32} (hd : decode c pc = .ok (.tableswitch dflt lo hi offs, len)) (h1 : ¬ a.toInt < lo) (h2 : ¬ hi < a.toInt) (ho : offs[(a.toInt - lo).toNat]? = some off) (ht : (pc : Int) + off = (tgt : Int)) (kk : V tgt L r n fl x y u) : V pc L (.int a :: r) n fl x y u := w _ _ _ hd (Or.inr rfl) _ _ _ _ _ _ _ ⟨a, r, rfl, Or.inl ⟨tgt, off, h1, h2, ho, ht, kk⟩⟩
theorem s_tabOut (w : gk_W c P cs xh rt uf sc K V) {dflt lo hi : Int} {offs : Array Int} {len tgt : Nat} {a : Int32} (hd : decode c pc = .ok (.tableswitch dflt lo hi offs, len)) (h : a.toInt < lo ∨ hi < a.toInt) (ht : (pc : Int) + dflt = (tgt : Int)) (kk : V tgt L r n fl x y u) : V pc L (.int a :: r) n fl x y u := w _ _ _ hd (Or.inr rfl) _ _ _ _ _ _ _ ⟨a, r, rfl, Or.inr ⟨tgt, h, ht, kk⟩⟩
theorem g_getI (w : gk_W c P cs xh rt uf sc K V) {idx ci k j : Nat} (hd : decode c pc = .ok (.getfield idx, 3)) (hp : pc + 3 = pc2) (hf : P.1 idx = some (ci, k)) (hj : j < n) (hkd : gk_kd j = ci) (hk : Nat.ble (k + 1) (gk_nf ci) = true) (hK : gk_fk ci k = 0) (kk : V pc2 L (.int (x j k) :: r) n fl x y u) : V pc L (.ref j :: r) n fl x y u := by
  subst hp
  exact w _ _ _ hd (Or.inl rfl) _ _ _ _ _ _ _ ⟨ci, k, j, r, hf, rfl, hj, hkd, Nat.le_of_ble_eq_true hk, Or.inl ⟨hK, kk⟩⟩
theorem g_getL (w : gk_W c P cs xh rt uf sc K V) {idx ci k j : Nat} (hd : decode c pc = .ok (.getfield idx, 3)) (hp : pc + 3 = pc2) (hf : P.1 idx = some (ci, k)) (hj : j < n) (hkd : gk_kd j = ci) (hk : Nat.ble (k + 1) (gk_nf ci) = true) (hK : gk_fk ci k = 1) (kk : V pc2 L (.long (y j k) :: r) n fl x y u) : V pc L (.ref j :: r) n fl x y u := by
  subst hp
  exact w _ _ _ hd (Or.inl rfl) _ _ _ _ _ _ _ ⟨ci, k, j, r, hf, rfl, hj, hkd, Nat.le_of_ble_eq_true hk, Or.inr (Or.inl ⟨hK, kk⟩)⟩
theorem g_getR (w : gk_W c P cs xh rt uf sc K V) {idx ci k j : Nat} {j2 : Nat} (hd : decode c pc = .ok (.getfield idx, 3)) (hp : pc + 3 = pc2) (hf : P.1 idx = some (ci, k)) (hj : j < n) (hkd : gk_kd j = ci) (hk : Nat.ble (k + 1) (gk_nf ci) = true) (hK : gk_fk ci k = 2) (hfl : fl j k = true) (h2 : j + gk_fo ci k = j2) (kk : V pc2 L (.ref j2 :: r) n fl x y u) : V pc L (.ref j :: r) n fl x y u := by
  subst hp
  exact w _ _ _ hd (Or.inl rfl) _ _ _ _ _ _ _ (by subst h2; exact ⟨ci, k, j, r, hf, rfl, hj, hkd, Nat.le_of_ble_eq_true hk, Or.inr (Or.inr ⟨hK, hfl, kk⟩)⟩)
theorem g_putI (w : gk_W c P cs xh rt uf sc K V) {idx ci k j : Nat} {v : Int32} (hd : decode c pc = .ok (.putfield idx, 3)) (hp : pc + 3 = pc2) (hf : P.1 idx = some (ci, k)) (hj : j < n) (hkd : gk_kd j = ci) (hk : Nat.ble (k + 1) (gk_nf ci) = true) (hK : gk_fk ci k = 0) (hz : gk_bz ci k = true → (v = 0 ∨ v = 1)) (kk : V pc2 L (r) n fl (gk_up x j k v) y u) : V pc L (.int v :: .ref j :: r) n fl x y u := by
  subst hp
  exact w _ _ _ hd (Or.inl rfl) _ _ _ _ _ _ _ ⟨ci, k, j, _, r, hf, rfl, hj, hkd, Nat.le_of_ble_eq_true hk, Or.inl ⟨hK, v, rfl, hz, kk⟩⟩
theorem g_putL (w : gk_W c P cs xh rt uf sc K V) {idx ci k j : Nat} {v : Int64} (hd : decode c pc = .ok (.putfield idx, 3)) (hp : pc + 3 = pc2) (hf : P.1 idx = some (ci, k)) (hj : j < n) (hkd : gk_kd j = ci) (hk : Nat.ble (k + 1) (gk_nf ci) = true) (hK : gk_fk ci k = 1) (kk : V pc2 L (r) n fl x (gk_uy y j k v) u) : V pc L (.long v :: .ref j :: r) n fl x y u := by
  subst hp
  exact w _ _ _ hd (Or.inl rfl) _ _ _ _ _ _ _ ⟨ci, k, j, _, r, hf, rfl, hj, hkd, Nat.le_of_ble_eq_true hk, Or.inr (Or.inl ⟨hK, v, rfl, kk⟩)⟩
theorem g_putR (w : gk_W c P cs xh rt uf sc K V) {idx ci k j : Nat} {j2 : Nat} (hd : decode c pc = .ok (.putfield idx, 3)) (hp : pc + 3 = pc2) (hf : P.1 idx = some (ci, k)) (hj : j < n) (hkd : gk_kd j = ci) (hk : Nat.ble (k + 1) (gk_nf ci) = true) (hK : gk_fk ci k = 2) (h2 : j + gk_fo ci k = j2) (h3 : j2 < n) (h4 : ∃ m S, cs 0 = some (99, ci, m, 0, S)) (kk : V pc2 L r n (gk_uf fl j k) x y u) : V pc L (.ref j2 :: .ref j :: r) n fl x y u := by
  subst hp
  subst h2
  exact w _ _ _ hd (Or.inl rfl) _ _ _ _ _ _ _ ⟨ci, k, j, _, r, hf, rfl, hj, hkd, Nat.le_of_ble_eq_true hk, Or.inr (Or.inr ⟨hK, rfl, h3, h4, kk⟩)⟩
theorem g_iaload (w : gk_W c P cs xh rt uf sc K V) {i : Int32} {j : Nat} (hd : decode c pc = .ok (.iaload, 1)) (hp : pc + 1 = pc2) (hkd : gk_kd j = 20) (hj : j < n) (hi : vp_in i (gk_ln j)) (kk : V pc2 L (.int (x j i.toNatClampNeg) :: r) n fl x y u) : V pc L (.int i :: .ref j :: r) n fl x y u := by
  subst hp
  exact w _ _ _ hd (Or.inl rfl) _ _ _ _ _ _ _ ⟨i, j, r, rfl, Or.inl ⟨hkd, hj, hi⟩, kk⟩
theorem g_ialoadS (w : gk_W c P cs xh rt uf sc K V) {i : Int32} {Ls : Nat} (hd : decode c pc = .ok (.iaload, 1)) (hp : pc + 1 = pc2) (hs : sc = some Ls) (hi : vp_in i Ls) (kk : V pc2 L (.int (x 5000 i.toNatClampNeg) :: r) n fl x y u) : V pc L (.int i :: .ref 5000 :: r) n fl x y u := by
  subst hp
  exact w _ _ _ hd (Or.inl rfl) _ _ _ _ _ _ _ ⟨i, 5000, r, rfl, Or.inr ⟨rfl, Ls, hs, hi⟩, kk⟩
theorem g_baload (w : gk_W c P cs xh rt uf sc K V) {i : Int32} {j : Nat} (hd : decode c pc = .ok (.baload, 1)) (hp : pc + 1 = pc2) (hkd : gk_kd j = 21) (hj : j < n) (hi : vp_in i (gk_ln j)) (kk : V pc2 L (.int (x j i.toNatClampNeg) :: r) n fl x y u) : V pc L (.int i :: .ref j :: r) n fl x y u := by
  subst hp
  exact w _ _ _ hd (Or.inl rfl) _ _ _ _ _ _ _ ⟨i, j, r, rfl, hkd, hj, hi, kk⟩
theorem g_laload (w : gk_W c P cs xh rt uf sc K V) {i : Int32} {j : Nat} (hd : decode c pc = .ok (.laload, 1)) (hp : pc + 1 = pc2) (hkd : gk_kd j = 22) (hj : j < n) (hi : vp_in i (gk_ln j)) (kk : V pc2 L (.long (y j i.toNatClampNeg) :: r) n fl x y u) : V pc L (.int i :: .ref j :: r) n fl x y u := by
  subst hp
  exact w _ _ _ hd (Or.inl rfl) _ _ _ _ _ _ _ ⟨i, j, r, rfl, hkd, hj, hi, kk⟩
theorem g_daload (w : gk_W c P cs xh rt uf sc K V) {i : Int32} {j : Nat} (hd : decode c pc = .ok (.daload, 1)) (hp : pc + 1 = pc2) (hkd : gk_kd j = 23) (hj : j < n) (hi : vp_in i (gk_ln j)) (kk : V pc2 L (.double (y j i.toNatClampNeg).toUInt64 :: r) n fl x y u) : V pc L (.int i :: .ref j :: r) n fl x y u := by
  subst hp
  exact w _ _ _ hd (Or.inl rfl) _ _ _ _ _ _ _ ⟨i, j, r, rfl, hkd, hj, hi, kk⟩
theorem g_aaload (w : gk_W c P cs xh rt uf sc K V) {i : Int32} {j : Nat} {kd j2 : Nat} (hd : decode c pc = .ok (.aaload, 1)) (hp : pc + 1 = pc2) (hkd : gk_kd j = kd) (h24 : Nat.ble 24 kd = true) (h28 : Nat.ble (kd + 1) 28 = true) (hj : j < n) (hi : vp_in i (gk_ln j)) (hfl : fl j i.toNatClampNeg = true) (h2 : j + gk_eo kd i.toNatClampNeg = j2) (kk : V pc2 L (.ref j2 :: r) n fl x y u) : V pc L (.int i :: .ref j :: r) n fl x y u := by
  subst hp
  exact w _ _ _ hd (Or.inl rfl) _ _ _ _ _ _ _ (by subst h2; subst hkd; exact ⟨i, j, r, rfl, Nat.le_of_ble_eq_true h24, Nat.le_of_ble_eq_true h28, hj, hi, hfl, kk⟩)
theorem g_iastore (w : gk_W c P cs xh rt uf sc K V) {i : Int32} {j : Nat} {v : Int32} (hd : decode c pc = .ok (.iastore, 1)) (hp : pc + 1 = pc2) (hkd : gk_kd j = 20) (hj : j < n) (hi : vp_in i (gk_ln j)) (kk : V pc2 L (r) n fl (gk_up x j i.toNatClampNeg v) y u) : V pc L (.int v :: .int i :: .ref j :: r) n fl x y u := by
  subst hp
  exact w _ _ _ hd (Or.inl rfl) _ _ _ _ _ _ _ ⟨v, i, j, r, rfl, hkd, hj, hi, kk⟩
theorem g_bastore (w : gk_W c P cs xh rt uf sc K V) {i : Int32} {j : Nat} {v : Int32} (hd : decode c pc = .ok (.bastore, 1)) (hp : pc + 1 = pc2) (hkd : gk_kd j = 21) (hj : j < n) (hi : vp_in i (gk_ln j)) (hz : v = 0 ∨ v = 1) (kk : V pc2 L (r) n fl (gk_up x j i.toNatClampNeg v) y u) : V pc L (.int v :: .int i :: .ref j :: r) n fl x y u := by
  subst hp
  exact w _ _ _ hd (Or.inl rfl) _ _ _ _ _ _ _ ⟨v, i, j, r, rfl, hkd, hj, hi, hz, kk⟩
theorem g_lastore (w : gk_W c P cs xh rt uf sc K V) {i : Int32} {j : Nat} {v : Int64} (hd : decode c pc = .ok (.lastore, 1)) (hp : pc + 1 = pc2) (hkd : gk_kd j = 22) (hj : j < n) (hi : vp_in i (gk_ln j)) (kk : V pc2 L (r) n fl x (gk_uy y j i.toNatClampNeg v) u) : V pc L (.long v :: .int i :: .ref j :: r) n fl x y u := by
  subst hp
  exact w _ _ _ hd (Or.inl rfl) _ _ _ _ _ _ _ ⟨v, i, j, r, rfl, hkd, hj, hi, kk⟩
theorem g_dastore (w : gk_W c P cs xh rt uf sc K V) {i : Int32} {j : Nat} {v : UInt64} (hd : decode c pc = .ok (.dastore, 1)) (hp : pc + 1 = pc2) (hkd : gk_kd j = 23) (hj : j < n) (hi : vp_in i (gk_ln j)) (kk : V pc2 L (r) n fl x (gk_uy y j i.toNatClampNeg v.toInt64) u) : V pc L (.double v :: .int i :: .ref j :: r) n fl x y u := by
  subst hp
  exact w _ _ _ hd (Or.inl rfl) _ _ _ _ _ _ _ ⟨v, i, j, r, rfl, hkd, hj, hi, kk⟩
theorem g_alen (w : gk_W c P cs xh rt uf sc K V) {j kd : Nat} {N : Int32} (hd : decode c pc = .ok (.arraylength, 1)) (hp : pc + 1 = pc2) (hkd : gk_kd j = kd) (h20 : Nat.ble 20 kd = true) (h28 : Nat.ble (kd + 1) 28 = true) (hj : j < n) (hN : nI (gk_ln j) = N) (kk : V pc2 L (.int N :: r) n fl x y u) : V pc L (.ref j :: r) n fl x y u := by
  subst hp
  exact w _ _ _ hd (Or.inl rfl) _ _ _ _ _ _ _ (by subst hN; subst hkd; exact ⟨j, r, rfl, Or.inl ⟨Nat.le_of_ble_eq_true h20, Nat.le_of_ble_eq_true h28, hj, kk⟩⟩)
theorem g_alenS (w : gk_W c P cs xh rt uf sc K V) {Ls : Nat} (hd : decode c pc = .ok (.arraylength, 1)) (hp : pc + 1 = pc2) (hs : sc = some Ls) (kk : V pc2 L (.int (nI Ls) :: r) n fl x y u) : V pc L (.ref 5000 :: r) n fl x y u := by
  subst hp
  exact w _ _ _ hd (Or.inl rfl) _ _ _ _ _ _ _ ⟨5000, r, rfl, Or.inr ⟨rfl, Ls, hs, kk⟩⟩
theorem g_calls (w : gk_W c P cs xh rt uf sc K V) {idx kd ci m cost : Nat} {S : gk_S} {as st : List Value} (hd : decode c pc = .ok (.invokestatic idx, 3)) (hp : pc + 3 = pc2) (hc : cs idx = some (kd, ci, m, cost, S)) (hst : st = as.reverse ++ r) (h8 : Nat.ble (r.map Value.category).sum 8 = true) (hm : as.length = m) (hk5 : Nat.ble (kd + 1) 5 = true) (hik : gk_ik kd idx = .invokestatic idx) (hr : gk_rc kd ci n as) (hu : cost = 0 ∨ u + cost ≤ uf) (hS : S as n fl x y (fun o n2 fl2 x2 y2 => match o with | .inl v => V pc2 L (v.toList ++ r) n2 fl2 x2 y2 (u + cost) | .inr e => match xh pc e with | none => K (.inr e) n2 fl2 x2 y2 | some (hp, li) => V hp (gk_s1 L li none) [] n2 fl2 x2 y2 (u + cost))) : V pc L st n fl x y u := by
  subst hp
  exact w _ _ _ hd (Or.inl rfl) _ _ _ _ _ _ _ (Or.inl ⟨kd, ci, m, cost, S, as, r, hc, Nat.le_of_ble_eq_true hk5, hik, hst, Nat.le_of_ble_eq_true h8, hm, hr, hu, hS⟩)
theorem g_callv (w : gk_W c P cs xh rt uf sc K V) {idx kd ci m cost : Nat} {S : gk_S} {as st : List Value} (hd : decode c pc = .ok (.invokevirtual idx, 3)) (hp : pc + 3 = pc2) (hc : cs idx = some (kd, ci, m, cost, S)) (hst : st = as.reverse ++ r) (h8 : Nat.ble (r.map Value.category).sum 8 = true) (hm : as.length = m) (hk5 : Nat.ble (kd + 1) 5 = true) (hik : gk_ik kd idx = .invokevirtual idx) (hr : gk_rc kd ci n as) (hu : cost = 0 ∨ u + cost ≤ uf) (hS : S as n fl x y (fun o n2 fl2 x2 y2 => match o with | .inl v => V pc2 L (v.toList ++ r) n2 fl2 x2 y2 (u + cost) | .inr e => match xh pc e with | none => K (.inr e) n2 fl2 x2 y2 | some (hp, li) => V hp (gk_s1 L li none) [] n2 fl2 x2 y2 (u + cost))) : V pc L st n fl x y u := by
  subst hp
  exact w _ _ _ hd (Or.inl rfl) _ _ _ _ _ _ _ ⟨kd, ci, m, cost, S, as, r, hc, Nat.le_of_ble_eq_true hk5, hik, hst, Nat.le_of_ble_eq_true h8, hm, hr, hu, hS⟩
theorem g_calli (w : gk_W c P cs xh rt uf sc K V) {idx kd ci m cost : Nat} {S : gk_S} {as st : List Value} (hd : decode c pc = .ok (.invokespecial idx, 3)) (hp : pc + 3 = pc2) (hc : cs idx = some (kd, ci, m, cost, S)) (hst : st = as.reverse ++ r) (h8 : Nat.ble (r.map Value.category).sum 8 = true) (hm : as.length = m) (hk5 : Nat.ble (kd + 1) 5 = true) (hik : gk_ik kd idx = .invokespecial idx) (hr : gk_rc kd ci n as) (hu : cost = 0 ∨ u + cost ≤ uf) (hS : S as n fl x y (fun o n2 fl2 x2 y2 => match o with | .inl v => V pc2 L (v.toList ++ r) n2 fl2 x2 y2 (u + cost) | .inr e => match xh pc e with | none => K (.inr e) n2 fl2 x2 y2 | some (hp, li) => V hp (gk_s1 L li none) [] n2 fl2 x2 y2 (u + cost))) : V pc L st n fl x y u := by
  subst hp
  exact w _ _ _ hd (Or.inl rfl) _ _ _ _ _ _ _ (Or.inl ⟨kd, ci, m, cost, S, as, r, hc, Nat.le_of_ble_eq_true hk5, hik, hst, Nat.le_of_ble_eq_true h8, hm, hr, hu, hS⟩)
theorem s_max (w : gk_W c P cs xh rt uf sc K V) {idx ci m : Nat} {S : gk_S} {a b : Int32} (hd : decode c pc = .ok (.invokestatic idx, 3)) (hp : pc + 3 = pc2) (hc : cs idx = some (5, ci, m, 0, S)) (h8 : Nat.ble (r.map Value.category).sum 8 = true) (kk : V pc2 L (.int (if a < b then b else a) :: r) n fl x y u) : V pc L (.int b :: .int a :: r) n fl x y u := by
  subst hp
  exact w _ _ _ hd (Or.inl rfl) _ _ _ _ _ _ _ (Or.inr (Or.inl ⟨ci, m, S, a, b, r, hc, rfl, Nat.le_of_ble_eq_true h8, kk⟩))
theorem s_min (w : gk_W c P cs xh rt uf sc K V) {idx ci m : Nat} {S : gk_S} {a b : Int32} (hd : decode c pc = .ok (.invokestatic idx, 3)) (hp : pc + 3 = pc2) (hc : cs idx = some (6, ci, m, 0, S)) (h8 : Nat.ble (r.map Value.category).sum 8 = true) (kk : V pc2 L (.int (if b < a then b else a) :: r) n fl x y u) : V pc L (.int b :: .int a :: r) n fl x y u := by
  subst hp
  exact w _ _ _ hd (Or.inl rfl) _ _ _ _ _ _ _ (Or.inr (Or.inr (Or.inl ⟨ci, m, S, a, b, r, hc, rfl, Nat.le_of_ble_eq_true h8, kk⟩)))
theorem s_abs (w : gk_W c P cs xh rt uf sc K V) {idx ci m : Nat} {S : gk_S} {a : Int32} (hd : decode c pc = .ok (.invokestatic idx, 3)) (hp : pc + 3 = pc2) (hc : cs idx = some (7, ci, m, 0, S)) (h8 : Nat.ble (r.map Value.category).sum 8 = true) (kk : V pc2 L (.int (if 0 ≤ a then a else 0 - a) :: r) n fl x y u) : V pc L (.int a :: r) n fl x y u := by
  subst hp
  exact w _ _ _ hd (Or.inl rfl) _ _ _ _ _ _ _ (Or.inr (Or.inr (Or.inr (Or.inl ⟨ci, m, S, a, r, hc, rfl, Nat.le_of_ble_eq_true h8, kk⟩))))
theorem g_copy (w : gk_W c P cs xh rt uf sc K V) {idx ci m a b : Nat} {S : gk_S} {k : Int32} (hd : decode c pc = .ok (.invokestatic idx, 3)) (hp : pc + 3 = pc2) (hc : cs idx = some (8, ci, m, 0, S)) (h8 : Nat.ble (r.map Value.category).sum 8 = true) (h1 : gk_kd a = 20) (h2 : gk_kd b = 20) (h3 : a < n) (h4 : b < n) (h5 : ¬ k < 0) (h6 : k.toNatClampNeg ≤ gk_ln a) (h7 : k.toNatClampNeg ≤ gk_ln b) (kk : V pc2 L r n fl (fun i2 k2 => if i2 = b then (if k2 < k.toNatClampNeg then x a k2 else x b k2) else x i2 k2) y u) : V pc L (.int k :: .int 0 :: .ref b :: .int 0 :: .ref a :: r) n fl x y u := by
  subst hp
  exact w _ _ _ hd (Or.inl rfl) _ _ _ _ _ _ _ (Or.inr (Or.inr (Or.inr (Or.inr ⟨ci, m, S, b, a, k, r, hc, rfl, Nat.le_of_ble_eq_true h8, h1, h2, h3, h4, h5, h6, h7, kk⟩))))
theorem s_obj (w : gk_W c P cs xh rt uf sc K V) {idx ci m j : Nat} {S : gk_S} (hd : decode c pc = .ok (.invokespecial idx, 3)) (hp : pc + 3 = pc2) (hc : cs idx = some (9, ci, m, 0, S)) (h8 : Nat.ble (r.map Value.category).sum 8 = true) (kk : V pc2 L (r) n fl x y u) : V pc L (.ref j :: r) n fl x y u := by
  subst hp
  exact w _ _ _ hd (Or.inl rfl) _ _ _ _ _ _ _ (Or.inr ⟨ci, m, S, j, r, hc, rfl, Nat.le_of_ble_eq_true h8, kk⟩)
theorem s_ireturn (w : gk_W c P cs xh rt uf sc K V) {v : Int32} {ty : FieldType} (hd : decode c pc = .ok (.ireturn, 1)) (hr : rt = some ty) (hn : narrow ty (.int v) = .int v) (kk : K (.inl (some (.int v))) n fl x y) : V pc L [.int v] n fl x y u := w _ _ _ hd (Or.inl rfl) _ _ _ _ _ _ _ ⟨(some (.int v)), rfl, ⟨ty, hr, hn⟩, kk⟩
theorem s_lreturn (w : gk_W c P cs xh rt uf sc K V) {v : Int64} (hd : decode c pc = .ok (.lreturn, 1)) (hr : rt = some .long) (kk : K (.inl (some (.long v))) n fl x y) : V pc L [.long v] n fl x y u := w _ _ _ hd (Or.inl rfl) _ _ _ _ _ _ _ ⟨(some (.long v)), rfl, hr, kk⟩
theorem s_dreturn (w : gk_W c P cs xh rt uf sc K V) {v : UInt64} (hd : decode c pc = .ok (.dreturn, 1)) (hr : rt = some .double) (kk : K (.inl (some (.double v))) n fl x y) : V pc L [.double v] n fl x y u := w _ _ _ hd (Or.inl rfl) _ _ _ _ _ _ _ ⟨(some (.double v)), rfl, hr, kk⟩
theorem s_freturn (w : gk_W c P cs xh rt uf sc K V) {v : UInt32} (hd : decode c pc = .ok (.freturn, 1)) (hr : rt = some .float) (kk : K (.inl (some (.float v))) n fl x y) : V pc L [.float v] n fl x y u := w _ _ _ hd (Or.inl rfl) _ _ _ _ _ _ _ ⟨(some (.float v)), rfl, hr, kk⟩
theorem s_areturn (w : gk_W c P cs xh rt uf sc K V) {v : Nat} {ty : FieldType} (hd : decode c pc = .ok (.areturn, 1)) (hr : rt = some ty) (ho : (∃ nm, ty = .object nm) ∨ ∃ t, ty = .array t) (kk : K (.inl (some (.ref v))) n fl x y) : V pc L [.ref v] n fl x y u := w _ _ _ hd (Or.inl rfl) _ _ _ _ _ _ _ ⟨(some (.ref v)), rfl, ⟨ty, hr, ho⟩, kk⟩
theorem s_return (w : gk_W c P cs xh rt uf sc K V)  (hd : decode c pc = .ok (.return_, 1)) (hr : rt = none) (kk : K (.inl none) n fl x y) : V pc L [] n fl x y u := w _ _ _ hd (Or.inl rfl) _ _ _ _ _ _ _ ⟨none, rfl, hr, kk⟩
theorem g_throw (w : gk_W c P cs xh rt uf sc K V) {idx q is ic ek : Nat} (hd : decode c pc = .ok (.new idx, 3)) (hx : P.2.2.2.2 idx = some (100 + ek)) (d3 : decode c (pc + 3) = .ok (.dup, 1)) (d4 : decode c (pc + 4) = .ok (.ldc is, 2)) (hs : P.2.2.2.1 is = some q) (d6 : decode c (pc + 6) = .ok (.invokespecial ic, 3)) (hi : P.2.2.2.2 ic = some (300 + ek)) (d9 : decode c (pc + 9) = .ok (.athrow, 1)) (h8 : Nat.ble (r.map Value.category).sum 8 = true) (hu : u + 1 ≤ uf) (kk : K (.inr ek) n fl x y) : V pc L r n fl x y u := w _ _ _ hd (Or.inl rfl) _ _ _ _ _ _ _ (Or.inl ⟨q, is, ic, ek, hx, d3, Or.inl ⟨d4, d6, d9⟩, hs, hi, Nat.le_of_ble_eq_true h8, hu, kk⟩)
theorem g_throwW (w : gk_W c P cs xh rt uf sc K V) {idx q is ic ek : Nat} (hd : decode c pc = .ok (.new idx, 3)) (hx : P.2.2.2.2 idx = some (100 + ek)) (d3 : decode c (pc + 3) = .ok (.dup, 1)) (d4 : decode c (pc + 4) = .ok (.ldc_w is, 3)) (hs : P.2.2.2.1 is = some q) (d6 : decode c (pc + 7) = .ok (.invokespecial ic, 3)) (hi : P.2.2.2.2 ic = some (300 + ek)) (d9 : decode c (pc + 10) = .ok (.athrow, 1)) (h8 : Nat.ble (r.map Value.category).sum 8 = true) (hu : u + 1 ≤ uf) (kk : K (.inr ek) n fl x y) : V pc L r n fl x y u := w _ _ _ hd (Or.inl rfl) _ _ _ _ _ _ _ (Or.inl ⟨q, is, ic, ek, hx, d3, Or.inr ⟨d4, d6, d9⟩, hs, hi, Nat.le_of_ble_eq_true h8, hu, kk⟩)
theorem g_new (w : gk_W c P cs xh rt uf sc K V) {idx ci u2 : Nat} (hd : decode c pc = .ok (.new idx, 3)) (hp : pc + 3 = pc2) (hx : P.2.2.2.2 idx = some ci) (h11 : Nat.ble (ci + 1) 11 = true) (hkd : gk_kd n = ci) (hn : n < 202) (hu2 : u + gk_nf ci + 1 = u2) (hu : u2 ≤ uf) (kk : V pc2 L (.ref n :: r) (n + 1) (gk_f0 fl n) (gk_u0 x n) (gk_v0 y n) u2) : V pc L r n fl x y u := by
  subst hp
  subst hu2
  exact w _ _ _ hd (Or.inl rfl) _ _ _ _ _ _ _ (Or.inr ⟨ci, hx, Nat.le_of_ble_eq_true h11, hkd, hn, hu, kk⟩)
theorem g_newarray (w : gk_W c P cs xh rt uf sc K V) {ty : ArrayType} {k : Int32} {u2 : Nat} (hd : decode c pc = .ok (.newarray ty, 2)) (hp : pc + 2 = pc2) (hk : ¬ k < 0) (hkd : gk_kd n = gk_nk ty) (hl : k.toNatClampNeg = gk_ln n) (hn : n < 202) (hu2 : u + gk_ln n + 1 = u2) (hu : u2 ≤ uf) (kk : V pc2 L (.ref n :: r) (n + 1) (gk_f0 fl n) (gk_u0 x n) (gk_v0 y n) u2) : V pc L (.int k :: r) n fl x y u := by
  subst hp
  subst hu2
  exact w _ _ _ hd (Or.inl rfl) _ _ _ _ _ _ _ ⟨k, r, rfl, hk, hkd, hl, hn, hu, kk⟩
theorem g_anewarray (w : gk_W c P cs xh rt uf sc K V) {idx kd : Nat} {k : Int32} {u2 : Nat} (hd : decode c pc = .ok (.anewarray idx, 3)) (hp : pc + 3 = pc2) (hx : P.2.2.2.2 (100000 + idx) = some (200 + kd)) (hk : ¬ k < 0) (hkd : gk_kd n = kd) (h24 : Nat.ble 24 kd = true) (h28 : Nat.ble (kd + 1) 28 = true) (hl : k.toNatClampNeg = gk_ln n) (hn : n < 202) (hu2 : u + gk_ln n + 1 = u2) (hu : u2 ≤ uf) (kk : V pc2 L (.ref n :: r) (n + 1) (gk_f0 fl n) (gk_u0 x n) (gk_v0 y n) u2) : V pc L (.int k :: r) n fl x y u := by
  subst hp
  subst hu2
  exact w _ _ _ hd (Or.inl rfl) _ _ _ _ _ _ _ ⟨k, r, kd, rfl, hk, hx, hkd, Nat.le_of_ble_eq_true h24, Nat.le_of_ble_eq_true h28, hl, hn, hu, kk⟩
theorem g_aastore (w : gk_W c P cs xh rt uf sc K V) {i : Int32} {j kd j2 : Nat} (hd : decode c pc = .ok (.aastore, 1)) (hp : pc + 1 = pc2) (hkd : gk_kd j = kd) (h24 : Nat.ble 24 kd = true) (h28 : Nat.ble (kd + 1) 28 = true) (hj : j < n) (hi : vp_in i (gk_ln j)) (h2 : j + gk_eo kd i.toNatClampNeg = j2) (h3 : j2 < n) (kk : V pc2 L r n (gk_uf fl j i.toNatClampNeg) x y u) : V pc L (.ref j2 :: .int i :: .ref j :: r) n fl x y u := by
  subst hp
  subst h2
  subst hkd
  exact w _ _ _ hd (Or.inl rfl) _ _ _ _ _ _ _ ⟨i, j, r, rfl, Nat.le_of_ble_eq_true h24, Nat.le_of_ble_eq_true h28, hj, hi, h3, kk⟩
end GKR

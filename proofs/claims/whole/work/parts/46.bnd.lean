/-! BOUNDS; the abstract state and its changes -/
section GKV
variable {c : ByteArray} {P : gk_C} {cs : Nat → Option gk_M0} {rt : Option FieldType} {uf : Nat} {sc : Option Nat} {K : gk_K} {V : gk_V}
variable {L : List (Option Value)} {r : List Value} {n : Nat} {fl : gk_F} {x : gk_X} {y : gk_Y} {u pc pc2 : Nat}
theorem am_hd {g : Nat → Int32} (hw : gWf g) {m a : Nat} (hm : m < nM g) (ha : a < nS g) (rf : Bool) {n : Nat} (hn : n < 256) : -990 ≤ gk_hd g m a rf n ∧ gk_hd g m a rf n ≤ 990 := by
  unfold gk_hd
  have hj := gk_sc_le (fun (n : Nat) => gk_lp2 (pA g m a) (pS g a) (pBe g m a rf) (gz g 0) n) (n + 1)
  generalize gk_sc (fun (n : Nat) => gk_lp2 (pA g m a) (pS g a) (pBe g m a rf) (gz g 0) n) (n + 1) = j at hj
  show -990 ≤ (if j = 0 then 0 else _) ∧ (if j = 0 then 0 else _) ≤ (990 : Int)
  split
  · omega
  · exact am_b hw.1.2.1 (vE_b hw ha _) (gk_dlb ((wf_path hw hm ha).2.1 rf) (by omega) (by omega)).1
theorem sm_b {g : Nat → Int32} (hw : gWf g) {m : Nat} (hm : m < nM g) {k : Nat} (hk : k < 256) : ∀ a, a ≤ nS g → -(1980 * (a : Int)) ≤ gk_sm g m a k ∧ gk_sm g m a k ≤ 1980 * (a : Int)
  | 0, _ => ⟨by show -(1980 * (0 : Int)) ≤ 0; omega, by show (0 : Int) ≤ 1980 * (0 : Int); omega⟩
  | a + 1, h => by
    have h1 := sm_b hw hm hk a (by omega)
    have h2 := am_hd hw hm (show a < nS g by omega) false hk
    have h3 := am_hd hw hm (show a < nS g by omega) true hk
    show -(1980 * ((a + 1 : Nat) : Int)) ≤ gk_sm g m a k + gk_hd g m a false k + gk_hd g m a true k ∧ gk_sm g m a k + gk_hd g m a false k + gk_hd g m a true k ≤ 1980 * ((a + 1 : Nat) : Int)
    omega
theorem rec_b {g : Nat → Int32} (hw : gWf g) {m : Nat} (hm : m < nM g) {k : Nat} (hk : k < 256) : -12000 ≤ gk_rec g m k ∧ gk_rec g m k ≤ 12000 := by
  have h1 := sm_b hw hm hk (nS g) (Nat.le_refl _)
  have w0 := hw.1
  unfold wf0 at w0
  have h2 : nS g ≤ 6 := by unfold nS; omega
  unfold gk_rec
  split
  · omega
  · unfold gk_no
    have h3 := Int.emod_nonneg (gk_rn (gk_rs g m) (k + 1) / 65536) (show 2 * gz g 4 + 1 ≠ 0 by omega)
    have h4 := Int.emod_lt_of_pos (gk_rn (gk_rs g m) (k + 1) / 65536) (show 0 < 2 * gz g 4 + 1 by omega)
    omega
theorem eI_b {r : Nat → Int} {a : Nat} {V : Int} : ∀ n : Nat, (∀ k, a ≤ k → k < a + n → -V ≤ r k ∧ r k ≤ V) → gk_eI r a n ≤ (n : Int) * (V * V)
  | 0, _ => by show (0 : Int) ≤ ((0 : Nat) : Int) * (V * V); omega
  | n + 1, h => by
    have h1 := eI_b n (fun k h1 h2 => h k h1 (by omega))
    have h2 := h (a + n) (by omega) (by omega)
    have h3 := gk_sqb h2.1 h2.2
    have h4 : ((n + 1 : Nat) : Int) * (V * V) = (n : Int) * (V * V) + V * V := by rw [Int.natCast_succ, Int.add_mul, Int.one_mul]
    show gk_eI r a n + r (a + n) * r (a + n) ≤ _
    omega
theorem eI_cg {r s : Nat → Int} {a : Nat} : ∀ n : Nat, (∀ k, a ≤ k → k < a + n → r k = s k) → gk_eI r a n = gk_eI s a n
  | 0, _ => rfl
  | n + 1, h => by
    show gk_eI r a n + _ = gk_eI s a n + _
    rw [eI_cg n (fun k h1 h2 => h k h1 (by omega)), h (a + n) (by omega) (by omega)]
theorem fd_cg {r s : Nat → Int} {a p i : Nat} : ∀ n : Nat, (∀ k, a ≤ k → k < a + n → r k = s k) → gk_fd r a p i n = gk_fd s a p i n
  | 0, _ => rfl
  | n + 1, h => by
    unfold gk_fd
    rw [fd_cg n (fun k h1 h2 => h k h1 (by omega)), h (a + n) (by omega) (by omega)]
theorem pw_cg {r s : Nat → Int} {a p n : Nat} (h : ∀ k, a ≤ k → k < a + n → r k = s k) : ∀ i, gk_pw r a p n i = gk_pw s a p n i
  | 0 => rfl
  | i + 1 => by
    unfold gk_pw
    rw [pw_cg h i, fd_cg n h]
theorem pk_cg {r s : Nat → Int32} {a : Nat} : ∀ n : Nat, (∀ k, a ≤ k → k < a + n → r k = s k) → gk_pk r a n = gk_pk s a n
  | 0, _ => rfl
  | n + 1, h => by
    unfold gk_pk
    rw [pk_cg n (fun k h1 h2 => h k h1 (by omega)), h (a + n) (by omega) (by omega)]
theorem cx_cg {r s : Nat → Int32} {a : Nat} : ∀ n : Nat, (∀ k, a ≤ k → k < a + n + 1 → r k = s k) → gk_cx r a n = gk_cx s a n
  | 0, _ => rfl
  | n + 1, h => by
    unfold gk_cx
    rw [cx_cg n (fun k h1 h2 => h k h1 (by omega)), h (a + n) (by omega) (by omega), h (a + 1 + n) (by omega) (by omega)]
theorem ms_cg {r s : Nat → Int32} {k a b : Nat} (hab : a ≤ b) (h : ∀ k, a ≤ k → k ≤ b → r k = s k) : gk_ms r k a b = gk_ms s k a b := by
  have h1 : ∀ k, a ≤ k → k < a + (b + 1 - a) → r k = s k := fun k h1 h2 => h k h1 (by omega)
  have h2 : ∀ k, a ≤ k → k < a + (b + 1 - a) → (r k).toInt = (s k).toInt := fun k h3 h4 => by rw [h1 k h3 h4]
  unfold gk_ms
  rw [eI_cg (s := fun t => (s t).toInt) _ h2, pk_cg _ h1, fd_cg (s := fun t => (s t).toInt) _ h2, cx_cg (b - a) (fun k h3 h4 => h k h3 (by omega))]
theorem fd1_b {r : Nat → Int} {a : Nat} {V : Int} : ∀ n : Nat, (∀ k, a ≤ k → k < a + n → -V ≤ r k ∧ r k ≤ V) → -((n : Int) * V) ≤ gk_fd r a 1 0 n ∧ gk_fd r a 1 0 n ≤ (n : Int) * V
  | 0, _ => by
    show -(((0 : Nat) : Int) * V) ≤ 0 ∧ 0 ≤ ((0 : Nat) : Int) * V
    omega
  | n + 1, h => by
    have h1 := fd1_b n (fun k h1 h2 => h k h1 (by omega))
    have h2 := h (a + n) (by omega) (by omega)
    have h4 : ((n + 1 : Nat) : Int) * V = (n : Int) * V + V := by rw [Int.natCast_succ, Int.add_mul, Int.one_mul]
    rw [gk_fd_1]
    omega
theorem dp_b {g : Nat → Int32} (hr : gWr g) {m : Nat} (hm : m < nM g) (D : Int) (k : Nat) : -12000 ≤ (gk_dp g m D k).toInt ∧ (gk_dp g m D k).toInt ≤ 12000 := by
  have h := rcI_b hr hm ((k : Int) + gk_sh g m D)
  unfold rcI at h
  unfold gk_dp
  rw [gI_nI, gI_add]
  exact h
theorem pp_b {g : Nat → Int32} (hw : gWf g) (hr : gWr g) {m : Nat} (hm : m < nM g) {B : Int} (hb : -2000 ≤ B ∧ B ≤ 2000) {k : Nat} (hk : k < 256) : -120000 ≤ (gk_pp g m B k).toInt ∧ (gk_pp g m B k).toInt ≤ 120000 := by
  unfold gk_pp
  split
  · have := dp_b hr hm (gz g 12 + B) k
    omega
  · rename_i h2
    have := gk_pr_b hw hr h2 hm hb (k + 1) (by omega) k
    unfold gk_pt
    rw [gI_of ⟨by omega, by omega⟩]
    exact this
theorem adw {z w p : Int32} {Z : Int} (h1 : 0 ≤ w.toInt ∧ w.toInt ≤ 9) (h2 : -120000 ≤ p.toInt ∧ p.toInt ≤ 120000) (hz : -Z ≤ z.toInt ∧ z.toInt ≤ Z) (hZ : Z ≤ 10000000) : -(Z + 1080000) ≤ (z + w * p).toInt ∧ (z + w * p).toInt ≤ Z + 1080000 := by
  have h3 := gk_mulb (a := w.toInt) (b := p.toInt) (A := 9) (B := 120000) (by omega) h1.2 h2.1 h2.2
  have e : z + w * p = gI (z.toInt + w.toInt * p.toInt) := by
    rw [← gI_add, ← gI_mul, gI_self, gI_self, gI_self]
  rw [e, gI_of ⟨by omega, by omega⟩]
  omega
theorem bb_b {g : Nat → Int32} (hw : gWf g) (hr : gWr g) {B : Int} (hb : -2000 ≤ B ∧ B ≤ 2000) {k : Nat} (hk : k < 256) : ∀ n : Nat, n ≤ nM g → -(1080000 * (n : Int)) ≤ (gk_bb g B n k).toInt ∧ (gk_bb g B n k).toInt ≤ 1080000 * (n : Int)
  | 0, _ => ⟨show -(1080000 * ((0 : Nat) : Int)) ≤ (0 : Int32).toInt by decide, show (0 : Int32).toInt ≤ 1080000 * ((0 : Nat) : Int) by decide⟩
  | n + 1, h => by
    have w0 := hw.1
    unfold wf0 at w0
    have h8 : nM g ≤ 8 := by unfold nM; omega
    have := adw (hw.2.2.2.1 n (by omega)).2.2.2 (pp_b hw hr (show n < nM g by omega) hb hk) (bb_b hw hr hb hk n (by omega)) (by omega)
    show -(1080000 * ((n + 1 : Nat) : Int)) ≤ (gk_bb g B n k + g (154 + 4 * n + 3) * gk_pp g n B k).toInt ∧ (gk_bb g B n k + g (154 + 4 * n + 3) * gk_pp g n B k).toInt ≤ 1080000 * ((n + 1 : Nat) : Int)
    omega
theorem db_b {g : Nat → Int32} (hw : gWf g) (hr : gWr g) (D : Int) (k : Nat) : ∀ n : Nat, n ≤ nM g → -(1080000 * (n : Int)) ≤ (gk_db g D n k).toInt ∧ (gk_db g D n k).toInt ≤ 1080000 * (n : Int)
  | 0, _ => ⟨show -(1080000 * ((0 : Nat) : Int)) ≤ (0 : Int32).toInt by decide, show (0 : Int32).toInt ≤ 1080000 * ((0 : Nat) : Int) by decide⟩
  | n + 1, h => by
    have w0 := hw.1
    unfold wf0 at w0
    have h8 : nM g ≤ 8 := by unfold nM; omega
    have h9 := dp_b hr (show n < nM g by omega) D k
    have := adw (hw.2.2.2.1 n (by omega)).2.2.2 (show -120000 ≤ (gk_dp g n D k).toInt ∧ (gk_dp g n D k).toInt ≤ 120000 by omega) (db_b hw hr D k n (by omega)) (by omega)
    show -(1080000 * ((n + 1 : Nat) : Int)) ≤ (gk_db g D n k + g (154 + 4 * n + 3) * gk_dp g n D k).toInt ∧ (gk_db g D n k + g (154 + 4 * n + 3) * gk_dp g n D k).toInt ≤ 1080000 * ((n + 1 : Nat) : Int)
    omega
/-- the beam; the beam in a direction; a record -/
def gB (g : Nat → Int32) (B : Int) (k : Nat) : Int32 := gk_bb g B (nM g) k
def gD (g : Nat → Int32) (D : Int) (k : Nat) : Int32 := gk_db g D (nM g) k
def gC (g : Nat → Int32) (m : Nat) (k : Nat) : Int32 := g (186 + 256 * m + k)
theorem nM_8 {g : Nat → Int32} (hw : gWf g) : nM g ≤ 8 ∧ gz g 8 = (nM g : Int) := by
  have w0 := hw.1
  unfold wf0 at w0
  unfold nM
  omega
theorem gB_b {g : Nat → Int32} (hw : gWf g) (hr : gWr g) {B : Int} (hb : -2000 ≤ B ∧ B ≤ 2000) {k : Nat} (hk : k < 256) : -8640000 ≤ (gB g B k).toInt ∧ (gB g B k).toInt ≤ 8640000 := by
  have h := bb_b hw hr hb hk (nM g) (Nat.le_refl _)
  have h8 := (nM_8 hw).1
  unfold gB
  omega
theorem gD_b {g : Nat → Int32} (hw : gWf g) (hr : gWr g) (D : Int) (k : Nat) : -8640000 ≤ (gD g D k).toInt ∧ (gD g D k).toInt ≤ 8640000 := by
  have h := db_b hw hr D k (nM g) (Nat.le_refl _)
  have h8 := (nM_8 hw).1
  unfold gD
  omega
theorem gC_b {g : Nat → Int32} (hr : gWr g) {m : Nat} (hm : m < nM g) {k : Nat} (hk : k < 256) : -8640000 ≤ (gC g m k).toInt ∧ (gC g m k).toInt ≤ 8640000 := by
  have := hr m hm k hk
  unfold gz at this
  unfold gC
  omega
/-- a row's numbers -/
def gJ (r : Nat → Int32) (k : Nat) : Int := (r k).toInt
/-- an energy -/
def gE (r : Nat → Int32) (a b : Nat) : Int := gk_eI (gJ r) a (b + 1 - a)
theorem gE_b {r : Nat → Int32} (h : ∀ k, k < 256 → -8640000 ≤ (r k).toInt ∧ (r k).toInt ≤ 8640000) {a b : Nat} (hb : b < 256) : 0 ≤ gE r a b ∧ gE r a b ≤ 20000000000000000 := by
  have h1 := eI_b (r := gJ r) (a := a) (V := 8640000) (b + 1 - a) (fun k h1 h2 => h k (by omega))
  have h2 := gk_eI_nn (gJ r) a (b + 1 - a)
  unfold gE
  omega
theorem gE_cg {r s : Nat → Int32} {a b : Nat} (h : ∀ k, a ≤ k → k ≤ b → r k = s k) : gE r a b = gE s a b := eI_cg _ (fun k h1 h2 => by unfold gJ; rw [h k h1 (by omega)])
/-- a place of the state written -/
def gU (g : Nat → Int32) (k : Nat) (v : Int32) : Nat → Int32 := fun i => if i = k then v else g i
theorem gU_in (g : Nat → Int32) (k : Nat) (v : Int32) : gU g k v k = v := if_pos rfl
theorem gU_ne {g : Nat → Int32} {i k : Nat} {v : Int32} (h : i ≠ k) : gU g k v i = g i := if_neg h
theorem zU_in (g : Nat → Int32) (k : Nat) (v : Int32) : gz (gU g k v) k = v.toInt := congrArg Int32.toInt (gU_in g k v)
theorem zU_ne {g : Nat → Int32} {i k : Nat} {v : Int32} (h : i ≠ k) : gz (gU g k v) i = gz g i := congrArg Int32.toInt (gU_ne h)
/-- records of microphones that are not there are 0 -/
def gWz (g : Nat → Int32) : Prop := ∀ m, nM g ≤ m → m < 8 → ∀ k, k < 256 → g (186 + 256 * m + k) = 0
def gOK (g : Nat → Int32) : Prop := gWf g ∧ gWr g ∧ gWz g
/-- what a call of the class may write; of the reference -/
def CX (x2 x : gk_X) : Prop := ∀ i k, (44 ≤ i ∧ i < 89) ∨ 95 ≤ i → x2 i k = x i k
def CY (y2 y : gk_Y) : Prop := ∀ i k, (44 ≤ i ∧ i < 89) ∨ 95 ≤ i → y2 i k = y i k
def MX (x2 x : gk_X) : Prop := ∀ i k, i < 189 ∨ (i = 189 ∧ k ≠ 4) ∨ (191 ≤ i ∧ i ≤ 193) ∨ 199 ≤ i → x2 i k = x i k
def MY (y2 y : gk_Y) : Prop := ∀ i k, i ≠ 198 → y2 i k = y i k
/-- the reference's memory is g -/
def MG (g : Nat → Int32) (x : gk_X) : Prop := ∀ k, k < 2234 → x 190 k = g k
theorem ix_of {v : Int32} {a b : Int} (hb : gR b) (h : v < gI b) (h0 : 0 ≤ v) : ∃ n : Nat, v = nI n ∧ (n : Int) < b := by
  obtain ⟨z, rfl, hz⟩ := gI_ex v
  have h1 := (gI_lt hz hb).mp h
  have h2 := (gI_le (a := 0) ⟨by decide, by decide⟩ hz).mp h0
  exact ⟨z.toNat, by rw [gI_nI]; exact congrArg gI (by omega), by omega⟩
theorem ix_t {v : Int32} (h : 0 ≤ v ∧ v ≤ 255) : ∃ n : Nat, v = nI n ∧ n < 256 := by
  obtain ⟨z, rfl, hz⟩ := gI_ex v
  have h1 := (gI_le (b := 255) hz ⟨by decide, by decide⟩).mp h.2
  have h2 := (gI_le (a := 0) ⟨by decide, by decide⟩ hz).mp h.1
  exact ⟨z.toNat, by rw [gI_nI]; exact congrArg gI (by omega), by omega⟩
theorem ix_w {v b : Int32} (h : 0 ≤ v ∧ v ≤ b ∧ b ≤ 255) : ∃ n m : Nat, v = nI n ∧ b = nI m ∧ n ≤ m ∧ m < 256 := by
  obtain ⟨z, rfl, hz⟩ := gI_ex v
  obtain ⟨y, rfl, hy⟩ := gI_ex b
  have h1 := (gI_le (a := 0) ⟨by decide, by decide⟩ hz).mp h.1
  have h2 := (gI_le hz hy).mp h.2.1
  have h3 := (gI_le (b := 255) hy ⟨by decide, by decide⟩).mp h.2.2
  exact ⟨z.toNat, y.toNat, by rw [gI_nI]; exact congrArg gI (by omega), by rw [gI_nI]; exact congrArg gI (by omega), by omega, by omega⟩
/-- a number within two others -/
theorem ix_r {v : Int32} {a b : Int} (ha : gR a) (hb : gR b) (h : gI a ≤ v ∧ v ≤ gI b) : ∃ z : Int, v = gI z ∧ a ≤ z ∧ z ≤ b := by
  obtain ⟨z, rfl, hz⟩ := gI_ex v
  exact ⟨z, rfl, (gI_le ha hz).mp h.1, (gI_le hz hb).mp h.2⟩
theorem ix_n {g : Nat → Int32} {k : Nat} {v : Int32} (h : 0 ≤ v ∧ v < g k) : ∃ n : Nat, v = nI n ∧ n < (gz g k).toNat := by
  rw [gz_I g k] at h
  obtain ⟨n, h1, h2⟩ := ix_of (a := 0) (gz_R g k) h.2 h.1
  exact ⟨n, h1, by omega⟩
end GKV

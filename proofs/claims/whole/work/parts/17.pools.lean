/-! constant pools, in words -/
def gk_lk {α : Type} : List (Nat × α) → Nat → Option α
  | [], _ => none
  | (k, v) :: t, i => if k = i then some v else gk_lk t i
theorem gk_lk_mem {α : Type} : ∀ {l : List (Nat × α)} {i : Nat} {v : α}, gk_lk l i = some v → (i, v) ∈ l
  | [], _, _, h => by simp [gk_lk] at h
  | (k, w) :: t, i, v, h => by
    unfold gk_lk at h
    by_cases hk : k = i
    · rw [if_pos hk] at h
      cases h
      subst hk
      exact List.mem_cons_self
    · rw [if_neg hk] at h
      exact List.mem_cons_of_mem _ (gk_lk_mem h)
theorem gk_wm {w : Jvm.Cond} (i : Nat) (h : lw_tbl[i]? = some w ∧ goodWord w = true) : w ∈ gk_W1 := gk_W1_in (List.mem_of_getElem? h.1) h.2
theorem gk_ws {α : Type} {L : List α} (g : α → Jvm.Cond) (ps : List Nat) (h : L.map g = ps.filterMap (fun i => lw_tbl[i]?)) (hg : (L.map g).all goodWord = true) : ∀ q ∈ L, g q ∈ gk_W1 := by
  intro q hq
  have h1 : g q ∈ L.map g := List.mem_map.mpr ⟨q, hq, rfl⟩
  refine gk_W1_in ?_ (List.all_eq_true.mp hg _ h1)
  rw [h] at h1
  obtain ⟨i, -, hi⟩ := List.mem_filterMap.mp h1
  exact List.mem_of_getElem? hi
def gk_cls3 (n : Nat × Nat) (own : String) : List Jvm.Cond := if n.2 < 11 then [.classLink own n.1 (gk_R n.2), .instantiable (gk_R n.2) (gk_nf n.2), .initialized (gk_R n.2)] else if 200 ≤ n.2 ∧ n.2 < 300 then [.classLink own (n.1 - 100000) (gk_R ([3, 6, 1, 4].getD (n.2 - 224) 99))] else []
theorem gk_Pf_of {own : String} {f : List (Nat × Nat × Nat)} {l : List (Nat × Int64)} {i : List (Nat × Int32)} {s n : List (Nat × Nat)} (h11 : f.all (fun q => Nat.ble (q.2.1 + 1) 11) = true) (hf : ∀ q ∈ f, Jvm.Cond.fieldLink own q.1 (gk_T q.2.1 q.2.2).1 (gk_T q.2.1 q.2.2).2.1 (gk_T q.2.1 q.2.2).2.2.1 ∈ gk_W1) (hl : ∀ q ∈ l, Jvm.Cond.constantLong own q.1 q.2 ∈ gk_W1) (hi : ∀ q ∈ i, Jvm.Cond.constant own q.1 q.2 ∈ gk_W1) (hz : n.all (fun q => Nat.ble (q.1 + 1) 100000 || Nat.ble (q.2 + 1) 300) = true) (hn : ∀ w ∈ n.flatMap (fun q => gk_cls3 q own), w ∈ gk_W1) : gk_Pf own (gk_lk f, gk_lk l, gk_lk i, gk_lk s, gk_lk n) gk_W1 := by
  refine ⟨fun idx ci k h => ?_, fun idx v h => hl _ (gk_lk_mem h), fun idx v h => hi _ (gk_lk_mem h), fun idx ci h hc => ?_, fun idx kd h => ?_⟩
  · have hm := gk_lk_mem h
    exact ⟨Nat.le_of_ble_eq_true (List.all_eq_true.mp h11 _ hm), fun _ => hf _ hm⟩
  · have hm := gk_lk_mem h
    have hin : ∀ w ∈ gk_cls3 (idx, ci) own, w ∈ gk_W1 := fun w hw => hn w (List.mem_flatMap.mpr ⟨_, hm, hw⟩)
    unfold gk_cls3 at hin
    rw [if_pos hc] at hin
    exact ⟨hin _ List.mem_cons_self, hin _ (List.mem_cons_of_mem _ List.mem_cons_self), hin _ (List.mem_cons_of_mem _ (List.mem_cons_of_mem _ List.mem_cons_self))⟩
  · have hm := gk_lk_mem h
    have hin : ∀ w ∈ gk_cls3 (100000 + idx, 200 + kd) own, w ∈ gk_W1 := fun w hw => hn w (List.mem_flatMap.mpr ⟨_, hm, hw⟩)
    unfold gk_cls3 at hin
    have h3 := List.all_eq_true.mp hz _ hm
    simp only [Bool.or_eq_true, Nat.ble_eq] at h3
    rw [if_neg (show ¬ 200 + kd < 11 by omega), if_pos (show 200 ≤ 200 + kd ∧ 200 + kd < 300 by omega), show 100000 + idx - 100000 = idx by omega, show 200 + kd - 224 = kd - 24 by omega] at hin
    exact hin _ List.mem_cons_self

def fX0 : List (Nat × Nat × Nat) := [(9, 0, 0), (15, 0, 1), (21, 0, 2), (25, 0, 3), (28, 4, 13), (34, 4, 14), (48, 4, 6), (51, 4, 2), (59, 1, 4), (75, 4, 3), (83, 4, 7), (90, 1, 0), (97, 1, 1), (105, 4, 15), (119, 4, 11), (130, 4, 8)]
def lX0 : List (Nat × Int64) := [(133, 100)]
def iX0 : List (Nat × Int32) := []
def sX0 : List (Nat × Nat) := []
def nX0 : List (Nat × Nat) := [(18, 2)]
def pX0 : gk_C := (gk_lk fX0, gk_lk lX0, gk_lk iX0, gk_lk sX0, gk_lk nX0)
theorem pX0_ok : gk_Pf RX0 pX0 gk_W1 := gk_Pf_of (by decide +kernel) (gk_ws (L := fX0) (fun q => Jvm.Cond.fieldLink RX0 q.1 (gk_T q.2.1 q.2.2).1 (gk_T q.2.1 q.2.2).2.1 (gk_T q.2.1 q.2.2).2.2.1) [332, 333, 334, 335, 264, 267, 242, 230, 202, 233, 247, 188, 193, 271, 261, 252] (by decide +kernel) (by decide +kernel)) (gk_ws (L := lX0) (fun q => Jvm.Cond.constantLong RX0 q.1 q.2) [1119] (by decide +kernel) (by decide +kernel)) (gk_ws (L := iX0) (fun q => Jvm.Cond.constant RX0 q.1 q.2) [] (by decide +kernel) (by decide +kernel)) (by decide +kernel) (gk_ws (L := nX0.flatMap (fun q => gk_cls3 q RX0)) id [330, 308, 94] (by decide +kernel) (by decide +kernel))
theorem pX0_st : ∀ idx q, pX0.2.2.2.1 idx = some q → q < gk_nS ∧ (gk_sq q).1 = RX0 ∧ (gk_sq q).2.1 = idx := fun idx q h => (by decide +kernel : ∀ z ∈ sX0, z.2 < gk_nS ∧ (gk_sq z.2).1 = RX0 ∧ (gk_sq z.2).2.1 = z.1) _ (gk_lk_mem h)
def fX1 : List (Nat × Nat × Nat) := [(9, 1, 0), (21, 1, 1), (25, 1, 2), (28, 1, 3), (31, 1, 4)]
def lX1 : List (Nat × Int64) := []
def iX1 : List (Nat × Int32) := []
def sX1 : List (Nat × Nat) := []
def nX1 : List (Nat × Nat) := []
def pX1 : gk_C := (gk_lk fX1, gk_lk lX1, gk_lk iX1, gk_lk sX1, gk_lk nX1)
theorem pX1_ok : gk_Pf RX1 pX1 gk_W1 := gk_Pf_of (by decide +kernel) (gk_ws (L := fX1) (fun q => Jvm.Cond.fieldLink RX1 q.1 (gk_T q.2.1 q.2.2).1 (gk_T q.2.1 q.2.2).2.1 (gk_T q.2.1 q.2.2).2.2.1) [186, 190, 196, 198, 201] (by decide +kernel) (by decide +kernel)) (gk_ws (L := lX1) (fun q => Jvm.Cond.constantLong RX1 q.1 q.2) [] (by decide +kernel) (by decide +kernel)) (gk_ws (L := iX1) (fun q => Jvm.Cond.constant RX1 q.1 q.2) [] (by decide +kernel) (by decide +kernel)) (by decide +kernel) (gk_ws (L := nX1.flatMap (fun q => gk_cls3 q RX1)) id [] (by decide +kernel) (by decide +kernel))
theorem pX1_st : ∀ idx q, pX1.2.2.2.1 idx = some q → q < gk_nS ∧ (gk_sq q).1 = RX1 ∧ (gk_sq q).2.1 = idx := fun idx q h => (by decide +kernel : ∀ z ∈ sX1, z.2 < gk_nS ∧ (gk_sq z.2).1 = RX1 ∧ (gk_sq z.2).2.1 = z.1) _ (gk_lk_mem h)
def fX2 : List (Nat × Nat × Nat) := [(9, 3, 2), (15, 1, 2), (18, 3, 3), (21, 1, 3), (22, 3, 0), (25, 1, 1), (26, 2, 0), (32, 3, 1), (35, 2, 1), (37, 2, 2)]
def lX2 : List (Nat × Int64) := []
def iX2 : List (Nat × Int32) := []
def sX2 : List (Nat × Nat) := []
def nX2 : List (Nat × Nat) := []
def pX2 : gk_C := (gk_lk fX2, gk_lk lX2, gk_lk iX2, gk_lk sX2, gk_lk nX2)
theorem pX2_ok : gk_Pf RX2 pX2 gk_W1 := gk_Pf_of (by decide +kernel) (gk_ws (L := fX2) (fun q => Jvm.Cond.fieldLink RX2 q.1 (gk_T q.2.1 q.2.2).1 (gk_T q.2.1 q.2.2).2.1 (gk_T q.2.1 q.2.2).2.2.1) [143, 195, 146, 199, 140, 191, 313, 142, 314, 315] (by decide +kernel) (by decide +kernel)) (gk_ws (L := lX2) (fun q => Jvm.Cond.constantLong RX2 q.1 q.2) [] (by decide +kernel) (by decide +kernel)) (gk_ws (L := iX2) (fun q => Jvm.Cond.constant RX2 q.1 q.2) [] (by decide +kernel) (by decide +kernel)) (by decide +kernel) (gk_ws (L := nX2.flatMap (fun q => gk_cls3 q RX2)) id [] (by decide +kernel) (by decide +kernel))
theorem pX2_st : ∀ idx q, pX2.2.2.2.1 idx = some q → q < gk_nS ∧ (gk_sq q).1 = RX2 ∧ (gk_sq q).2.1 = idx := fun idx q h => (by decide +kernel : ∀ z ∈ sX2, z.2 < gk_nS ∧ (gk_sq z.2).1 = RX2 ∧ (gk_sq z.2).2.1 = z.1) _ (gk_lk_mem h)
def fX3 : List (Nat × Nat × Nat) := [(9, 3, 0), (15, 3, 1), (18, 3, 2), (21, 3, 3)]
def lX3 : List (Nat × Int64) := []
def iX3 : List (Nat × Int32) := [(30, 2147483647)]
def sX3 : List (Nat × Nat) := []
def nX3 : List (Nat × Nat) := []
def pX3 : gk_C := (gk_lk fX3, gk_lk lX3, gk_lk iX3, gk_lk sX3, gk_lk nX3)
theorem pX3_ok : gk_Pf RX3 pX3 gk_W1 := gk_Pf_of (by decide +kernel) (gk_ws (L := fX3) (fun q => Jvm.Cond.fieldLink RX3 q.1 (gk_T q.2.1 q.2.2).1 (gk_T q.2.1 q.2.2).2.1 (gk_T q.2.1 q.2.2).2.2.1) [139, 141, 144, 145] (by decide +kernel) (by decide +kernel)) (gk_ws (L := lX3) (fun q => Jvm.Cond.constantLong RX3 q.1 q.2) [] (by decide +kernel) (by decide +kernel)) (gk_ws (L := iX3) (fun q => Jvm.Cond.constant RX3 q.1 q.2) [958] (by decide +kernel) (by decide +kernel)) (by decide +kernel) (gk_ws (L := nX3.flatMap (fun q => gk_cls3 q RX3)) id [] (by decide +kernel) (by decide +kernel))
theorem pX3_st : ∀ idx q, pX3.2.2.2.1 idx = some q → q < gk_nS ∧ (gk_sq q).1 = RX3 ∧ (gk_sq q).2.1 = idx := fun idx q h => (by decide +kernel : ∀ z ∈ sX3, z.2 < gk_nS ∧ (gk_sq z.2).1 = RX3 ∧ (gk_sq z.2).2.1 = z.1) _ (gk_lk_mem h)
def fX4 : List (Nat × Nat × Nat) := [(11, 4, 0), (19, 4, 1), (25, 4, 2), (30, 4, 3), (39, 4, 4), (43, 4, 5), (46, 4, 6), (49, 4, 7), (52, 4, 8), (55, 4, 9), (58, 4, 10), (62, 4, 11), (66, 4, 12), (73, 4, 13), (76, 4, 14), (79, 4, 15), (92, 6, 0), (99, 6, 3), (102, 6, 2), (109, 1, 1), (112, 1, 2), (115, 1, 3), (118, 1, 4), (121, 1, 0)]
def lX4 : List (Nat × Int64) := [(142, 1103515245), (144, 12345), (146, 2147483648), (148, 65536), (170, 1000), (176, 100)]
def iX4 : List (Nat × Int32) := []
def sX4 : List (Nat × Nat) := []
def nX4 : List (Nat × Nat) := [(9, 3), (100009, 224), (17, 6), (100017, 225), (23, 1), (100023, 226)]
def pX4 : gk_C := (gk_lk fX4, gk_lk lX4, gk_lk iX4, gk_lk sX4, gk_lk nX4)
theorem pX4_ok : gk_Pf RX4 pX4 gk_W1 := gk_Pf_of (by decide +kernel) (gk_ws (L := fX4) (fun q => Jvm.Cond.fieldLink RX4 q.1 (gk_T q.2.1 q.2.2).1 (gk_T q.2.1 q.2.2).2.1 (gk_T q.2.1 q.2.2).2.2.1) [224, 226, 229, 232, 235, 238, 241, 246, 249, 253, 256, 258, 262, 265, 268, 270, 164, 170, 168, 192, 197, 200, 203, 187] (by decide +kernel) (by decide +kernel)) (gk_ws (L := lX4) (fun q => Jvm.Cond.constantLong RX4 q.1 q.2) [451, 452, 453, 454, 487, 491] (by decide +kernel) (by decide +kernel)) (gk_ws (L := iX4) (fun q => Jvm.Cond.constant RX4 q.1 q.2) [] (by decide +kernel) (by decide +kernel)) (by decide +kernel) (gk_ws (L := nX4.flatMap (fun q => gk_cls3 q RX4)) id [128, 134, 91, 128, 130, 156, 92, 130, 132, 181, 93, 132] (by decide +kernel) (by decide +kernel))
theorem pX4_st : ∀ idx q, pX4.2.2.2.1 idx = some q → q < gk_nS ∧ (gk_sq q).1 = RX4 ∧ (gk_sq q).2.1 = idx := fun idx q h => (by decide +kernel : ∀ z ∈ sX4, z.2 < gk_nS ∧ (gk_sq z.2).1 = RX4 ∧ (gk_sq z.2).2.1 = z.1) _ (gk_lk_mem h)
def fX5 : List (Nat × Nat × Nat) := [(9, 5, 1), (18, 5, 2), (22, 5, 4), (26, 5, 0), (29, 5, 3), (60, 5, 5), (80, 4, 7), (86, 4, 8), (89, 4, 9), (92, 4, 11), (96, 4, 6), (106, 4, 4), (113, 4, 5), (127, 4, 1)]
def lX5 : List (Nat × Int64) := []
def iX5 : List (Nat × Int32) := []
def sX5 : List (Nat × Nat) := []
def nX5 : List (Nat × Nat) := [(15, 8)]
def pX5 : gk_C := (gk_lk fX5, gk_lk lX5, gk_lk iX5, gk_lk sX5, gk_lk nX5)
theorem pX5_ok : gk_Pf RX5 pX5 gk_W1 := gk_Pf_of (by decide +kernel) (gk_ws (L := fX5) (fun q => Jvm.Cond.fieldLink RX5 q.1 (gk_T q.2.1 q.2.2).1 (gk_T q.2.1 q.2.2).2.1 (gk_T q.2.1 q.2.2).2.2.1) [387, 389, 391, 385, 390, 392, 248, 251, 255, 260, 243, 237, 239, 227] (by decide +kernel) (by decide +kernel)) (gk_ws (L := lX5) (fun q => Jvm.Cond.constantLong RX5 q.1 q.2) [] (by decide +kernel) (by decide +kernel)) (gk_ws (L := iX5) (fun q => Jvm.Cond.constant RX5 q.1 q.2) [] (by decide +kernel) (by decide +kernel)) (by decide +kernel) (gk_ws (L := nX5.flatMap (fun q => gk_cls3 q RX5)) id [366, 367, 98] (by decide +kernel) (by decide +kernel))
theorem pX5_st : ∀ idx q, pX5.2.2.2.1 idx = some q → q < gk_nS ∧ (gk_sq q).1 = RX5 ∧ (gk_sq q).2.1 = idx := fun idx q h => (by decide +kernel : ∀ z ∈ sX5, z.2 < gk_nS ∧ (gk_sq z.2).1 = RX5 ∧ (gk_sq z.2).2.1 = z.1) _ (gk_lk_mem h)
def fX6 : List (Nat × Nat × Nat) := []
def lX6 : List (Nat × Int64) := []
def iX6 : List (Nat × Int32) := []
def sX6 : List (Nat × Nat) := []
def nX6 : List (Nat × Nat) := []
def pX6 : gk_C := (gk_lk fX6, gk_lk lX6, gk_lk iX6, gk_lk sX6, gk_lk nX6)
theorem pX6_ok : gk_Pf RX6 pX6 gk_W1 := gk_Pf_of (by decide +kernel) (gk_ws (L := fX6) (fun q => Jvm.Cond.fieldLink RX6 q.1 (gk_T q.2.1 q.2.2).1 (gk_T q.2.1 q.2.2).2.1 (gk_T q.2.1 q.2.2).2.2.1) [] (by decide +kernel) (by decide +kernel)) (gk_ws (L := lX6) (fun q => Jvm.Cond.constantLong RX6 q.1 q.2) [] (by decide +kernel) (by decide +kernel)) (gk_ws (L := iX6) (fun q => Jvm.Cond.constant RX6 q.1 q.2) [] (by decide +kernel) (by decide +kernel)) (by decide +kernel) (gk_ws (L := nX6.flatMap (fun q => gk_cls3 q RX6)) id [] (by decide +kernel) (by decide +kernel))
theorem pX6_st : ∀ idx q, pX6.2.2.2.1 idx = some q → q < gk_nS ∧ (gk_sq q).1 = RX6 ∧ (gk_sq q).2.1 = idx := fun idx q h => (by decide +kernel : ∀ z ∈ sX6, z.2 < gk_nS ∧ (gk_sq z.2).1 = RX6 ∧ (gk_sq z.2).2.1 = z.1) _ (gk_lk_mem h)
def fX7 : List (Nat × Nat × Nat) := [(12, 6, 0), (18, 6, 1), (22, 6, 2), (30, 6, 3)]
def lX7 : List (Nat × Int64) := []
def iX7 : List (Nat × Int32) := []
def sX7 : List (Nat × Nat) := []
def nX7 : List (Nat × Nat) := [(9, 3)]
def pX7 : gk_C := (gk_lk fX7, gk_lk lX7, gk_lk iX7, gk_lk sX7, gk_lk nX7)
theorem pX7_ok : gk_Pf RX7 pX7 gk_W1 := gk_Pf_of (by decide +kernel) (gk_ws (L := fX7) (fun q => Jvm.Cond.fieldLink RX7 q.1 (gk_T q.2.1 q.2.2).1 (gk_T q.2.1 q.2.2).2.1 (gk_T q.2.1 q.2.2).2.2.1) [163, 166, 167, 169] (by decide +kernel) (by decide +kernel)) (gk_ws (L := lX7) (fun q => Jvm.Cond.constantLong RX7 q.1 q.2) [] (by decide +kernel) (by decide +kernel)) (gk_ws (L := iX7) (fun q => Jvm.Cond.constant RX7 q.1 q.2) [] (by decide +kernel) (by decide +kernel)) (by decide +kernel) (gk_ws (L := nX7.flatMap (fun q => gk_cls3 q RX7)) id [161, 134, 91] (by decide +kernel) (by decide +kernel))
theorem pX7_st : ∀ idx q, pX7.2.2.2.1 idx = some q → q < gk_nS ∧ (gk_sq q).1 = RX7 ∧ (gk_sq q).2.1 = idx := fun idx q h => (by decide +kernel : ∀ z ∈ sX7, z.2 < gk_nS ∧ (gk_sq z.2).1 = RX7 ∧ (gk_sq z.2).2.1 = z.1) _ (gk_lk_mem h)
def fX8 : List (Nat × Nat × Nat) := [(9, 7, 0), (15, 7, 1)]
def lX8 : List (Nat × Int64) := []
def iX8 : List (Nat × Int32) := []
def sX8 : List (Nat × Nat) := []
def nX8 : List (Nat × Nat) := []
def pX8 : gk_C := (gk_lk fX8, gk_lk lX8, gk_lk iX8, gk_lk sX8, gk_lk nX8)
theorem pX8_ok : gk_Pf RX8 pX8 gk_W1 := gk_Pf_of (by decide +kernel) (gk_ws (L := fX8) (fun q => Jvm.Cond.fieldLink RX8 q.1 (gk_T q.2.1 q.2.2).1 (gk_T q.2.1 q.2.2).2.1 (gk_T q.2.1 q.2.2).2.2.1) [351, 352] (by decide +kernel) (by decide +kernel)) (gk_ws (L := lX8) (fun q => Jvm.Cond.constantLong RX8 q.1 q.2) [] (by decide +kernel) (by decide +kernel)) (gk_ws (L := iX8) (fun q => Jvm.Cond.constant RX8 q.1 q.2) [] (by decide +kernel) (by decide +kernel)) (by decide +kernel) (gk_ws (L := nX8.flatMap (fun q => gk_cls3 q RX8)) id [] (by decide +kernel) (by decide +kernel))
theorem pX8_st : ∀ idx q, pX8.2.2.2.1 idx = some q → q < gk_nS ∧ (gk_sq q).1 = RX8 ∧ (gk_sq q).2.1 = idx := fun idx q h => (by decide +kernel : ∀ z ∈ sX8, z.2 < gk_nS ∧ (gk_sq z.2).1 = RX8 ∧ (gk_sq z.2).2.1 = z.1) _ (gk_lk_mem h)
def fX9 : List (Nat × Nat × Nat) := [(9, 8, 0), (15, 8, 1), (18, 8, 2), (25, 8, 3), (29, 7, 1)]
def lX9 : List (Nat × Int64) := []
def iX9 : List (Nat × Int32) := [(60, 1000000)]
def sX9 : List (Nat × Nat) := [(71, 0), (77, 1), (79, 2), (81, 3), (83, 4), (85, 5), (87, 6)]
def nX9 : List (Nat × Nat) := []
def pX9 : gk_C := (gk_lk fX9, gk_lk lX9, gk_lk iX9, gk_lk sX9, gk_lk nX9)
theorem pX9_ok : gk_Pf RX9 pX9 gk_W1 := gk_Pf_of (by decide +kernel) (gk_ws (L := fX9) (fun q => Jvm.Cond.fieldLink RX9 q.1 (gk_T q.2.1 q.2.2).1 (gk_T q.2.1 q.2.2).2.1 (gk_T q.2.1 q.2.2).2.2.1) [372, 373, 374, 375, 353] (by decide +kernel) (by decide +kernel)) (gk_ws (L := lX9) (fun q => Jvm.Cond.constantLong RX9 q.1 q.2) [] (by decide +kernel) (by decide +kernel)) (gk_ws (L := iX9) (fun q => Jvm.Cond.constant RX9 q.1 q.2) [593] (by decide +kernel) (by decide +kernel)) (by decide +kernel) (gk_ws (L := nX9.flatMap (fun q => gk_cls3 q RX9)) id [] (by decide +kernel) (by decide +kernel))
theorem pX9_st : ∀ idx q, pX9.2.2.2.1 idx = some q → q < gk_nS ∧ (gk_sq q).1 = RX9 ∧ (gk_sq q).2.1 = idx := fun idx q h => (by decide +kernel : ∀ z ∈ sX9, z.2 < gk_nS ∧ (gk_sq z.2).1 = RX9 ∧ (gk_sq z.2).2.1 = z.1) _ (gk_lk_mem h)
def fX10 : List (Nat × Nat × Nat) := [(10, 9, 0), (16, 9, 1), (19, 9, 2), (23, 9, 3), (30, 9, 4), (37, 9, 5), (44, 9, 6), (51, 9, 7), (59, 4, 7), (63, 4, 8), (66, 4, 11), (73, 4, 10), (77, 4, 9), (88, 4, 4), (116, 1, 4), (121, 4, 5), (124, 4, 6), (127, 4, 12), (155, 4, 0), (159, 1, 1), (171, 1, 0), (186, 4, 2), (205, 4, 3), (213, 4, 13), (220, 4, 14), (223, 4, 15), (255, 7, 1), (266, 5, 0), (269, 5, 1), (286, 4, 1), (290, 6, 0)]
def lX10 : List (Nat × Int64) := [(184, -1), (200, -9223372036854775808), (297, 4294967296)]
def iX10 : List (Nat × Int32) := [(72, 2147483647)]
def sX10 : List (Nat × Nat) := [(277, 7), (284, 8), (281, 9), (132, 10), (274, 11)]
def nX10 : List (Nat × Nat) := [(7, 4), (100007, 227), (27, 2), (34, 0), (41, 7), (48, 5), (130, 100), (272, 101), (279, 102), (134, 300), (276, 301), (283, 302)]
def pX10 : gk_C := (gk_lk fX10, gk_lk lX10, gk_lk iX10, gk_lk sX10, gk_lk nX10)
theorem pX10_ok : gk_Pf RX10 pX10 gk_W1 := gk_Pf_of (by decide +kernel) (gk_ws (L := fX10) (fun q => Jvm.Cond.fieldLink RX10 q.1 (gk_T q.2.1 q.2.2).1 (gk_T q.2.1 q.2.2).2.1 (gk_T q.2.1 q.2.2).2.2.1) [406, 407, 408, 409, 410, 411, 412, 413, 245, 250, 259, 257, 254, 236, 204, 240, 244, 263, 225, 194, 189, 231, 234, 266, 269, 272, 354, 386, 388, 228, 165] (by decide +kernel) (by decide +kernel)) (gk_ws (L := lX10) (fun q => Jvm.Cond.constantLong RX10 q.1 q.2) [1011, 1038, 474] (by decide +kernel) (by decide +kernel)) (gk_ws (L := iX10) (fun q => Jvm.Cond.constant RX10 q.1 q.2) [815] (by decide +kernel) (by decide +kernel)) (by decide +kernel) (gk_ws (L := nX10.flatMap (fun q => gk_cls3 q RX10)) id [122, 123, 90, 122, 307, 308, 94, 324, 325, 95, 345, 346, 96, 360, 361, 97] (by decide +kernel) (by decide +kernel))
theorem pX10_st : ∀ idx q, pX10.2.2.2.1 idx = some q → q < gk_nS ∧ (gk_sq q).1 = RX10 ∧ (gk_sq q).2.1 = idx := fun idx q h => (by decide +kernel : ∀ z ∈ sX10, z.2 < gk_nS ∧ (gk_sq z.2).1 = RX10 ∧ (gk_sq z.2).2.1 = z.1) _ (gk_lk_mem h)
def fX11 : List (Nat × Nat × Nat) := [(7, 10, 0), (13, 10, 1), (16, 10, 2), (19, 10, 3), (23, 10, 5), (26, 10, 6), (29, 10, 7), (32, 10, 8), (35, 10, 9), (39, 10, 10), (42, 10, 18), (49, 10, 4), (272, 10, 11), (275, 10, 12), (281, 10, 13), (284, 10, 15), (287, 10, 19), (291, 10, 16), (294, 10, 14), (317, 10, 17)]
def lX11 : List (Nat × Int64) := [(112, 70000), (114, 2), (156, 1103515245), (158, 12345), (160, 2147483648), (162, 65536), (211, -1), (222, 1000), (224, 100), (300, 27), (302, 96)]
def iX11 : List (Nat × Int32) := []
def sX11 : List (Nat × Nat) := [(336, 12), (345, 13), (349, 14), (353, 15), (355, 16), (357, 17), (359, 18)]
def nX11 : List (Nat × Nat) := []
def pX11 : gk_C := (gk_lk fX11, gk_lk lX11, gk_lk iX11, gk_lk sX11, gk_lk nX11)
theorem pX11_ok : gk_Pf RX11 pX11 gk_W1 := gk_Pf_of (by decide +kernel) (gk_ws (L := fX11) (fun q => Jvm.Cond.fieldLink RX11 q.1 (gk_T q.2.1 q.2.2).1 (gk_T q.2.1 q.2.2).2.1 (gk_T q.2.1 q.2.2).2.2.1) [1262, 1263, 1264, 1265, 1267, 1268, 1269, 1270, 1271, 1272, 1280, 1266, 1273, 1274, 1275, 1277, 1281, 1278, 1276, 1279] (by decide +kernel) (by decide +kernel)) (gk_ws (L := lX11) (fun q => Jvm.Cond.constantLong RX11 q.1 q.2) [1468, 1469, 1507, 1508, 1509, 1510, 1565, 1631, 1632, 1734, 1735] (by decide +kernel) (by decide +kernel)) (gk_ws (L := iX11) (fun q => Jvm.Cond.constant RX11 q.1 q.2) [] (by decide +kernel) (by decide +kernel)) (by decide +kernel) (gk_ws (L := nX11.flatMap (fun q => gk_cls3 q RX11)) id [] (by decide +kernel) (by decide +kernel))
theorem pX11_st : ∀ idx q, pX11.2.2.2.1 idx = some q → q < gk_nS ∧ (gk_sq q).1 = RX11 ∧ (gk_sq q).2.1 = idx := fun idx q h => (by decide +kernel : ∀ z ∈ sX11, z.2 < gk_nS ∧ (gk_sq z.2).1 = RX11 ∧ (gk_sq z.2).2.1 = z.1) _ (gk_lk_mem h)
def fJ9 : List (Nat × Nat × Nat) := []
def lJ9 : List (Nat × Int64) := []
def iJ9 : List (Nat × Int32) := []
def sJ9 : List (Nat × Nat) := []
def nJ9 : List (Nat × Nat) := []
def pJ9 : gk_C := (gk_lk fJ9, gk_lk lJ9, gk_lk iJ9, gk_lk sJ9, gk_lk nJ9)
theorem pJ9_ok : gk_Pf RJ9 pJ9 gk_W1 := gk_Pf_of (by decide +kernel) (gk_ws (L := fJ9) (fun q => Jvm.Cond.fieldLink RJ9 q.1 (gk_T q.2.1 q.2.2).1 (gk_T q.2.1 q.2.2).2.1 (gk_T q.2.1 q.2.2).2.2.1) [] (by decide +kernel) (by decide +kernel)) (gk_ws (L := lJ9) (fun q => Jvm.Cond.constantLong RJ9 q.1 q.2) [] (by decide +kernel) (by decide +kernel)) (gk_ws (L := iJ9) (fun q => Jvm.Cond.constant RJ9 q.1 q.2) [] (by decide +kernel) (by decide +kernel)) (by decide +kernel) (gk_ws (L := nJ9.flatMap (fun q => gk_cls3 q RJ9)) id [] (by decide +kernel) (by decide +kernel))
theorem pJ9_st : ∀ idx q, pJ9.2.2.2.1 idx = some q → q < gk_nS ∧ (gk_sq q).1 = RJ9 ∧ (gk_sq q).2.1 = idx := fun idx q h => (by decide +kernel : ∀ z ∈ sJ9, z.2 < gk_nS ∧ (gk_sq z.2).1 = RJ9 ∧ (gk_sq z.2).2.1 = z.1) _ (gk_lk_mem h)
def fJ7 : List (Nat × Nat × Nat) := []
def lJ7 : List (Nat × Int64) := []
def iJ7 : List (Nat × Int32) := []
def sJ7 : List (Nat × Nat) := []
def nJ7 : List (Nat × Nat) := []
def pJ7 : gk_C := (gk_lk fJ7, gk_lk lJ7, gk_lk iJ7, gk_lk sJ7, gk_lk nJ7)
theorem pJ7_ok : gk_Pf RJ7 pJ7 gk_W1 := gk_Pf_of (by decide +kernel) (gk_ws (L := fJ7) (fun q => Jvm.Cond.fieldLink RJ7 q.1 (gk_T q.2.1 q.2.2).1 (gk_T q.2.1 q.2.2).2.1 (gk_T q.2.1 q.2.2).2.2.1) [] (by decide +kernel) (by decide +kernel)) (gk_ws (L := lJ7) (fun q => Jvm.Cond.constantLong RJ7 q.1 q.2) [] (by decide +kernel) (by decide +kernel)) (gk_ws (L := iJ7) (fun q => Jvm.Cond.constant RJ7 q.1 q.2) [] (by decide +kernel) (by decide +kernel)) (by decide +kernel) (gk_ws (L := nJ7.flatMap (fun q => gk_cls3 q RJ7)) id [] (by decide +kernel) (by decide +kernel))
theorem pJ7_st : ∀ idx q, pJ7.2.2.2.1 idx = some q → q < gk_nS ∧ (gk_sq q).1 = RJ7 ∧ (gk_sq q).2.1 = idx := fun idx q h => (by decide +kernel : ∀ z ∈ sJ7, z.2 < gk_nS ∧ (gk_sq z.2).1 = RJ7 ∧ (gk_sq z.2).2.1 = z.1) _ (gk_lk_mem h)
def fL : List (Nat × Nat × Nat) := []
def lL : List (Nat × Int64) := []
def iL : List (Nat × Int32) := []
def sL : List (Nat × Nat) := []
def nL : List (Nat × Nat) := [(8, 9), (143, 10)]
def pL : gk_C := (gk_lk fL, gk_lk lL, gk_lk iL, gk_lk sL, gk_lk nL)
theorem pL_ok : gk_Pf RL pL gk_W1 := gk_Pf_of (by decide +kernel) (gk_ws (L := fL) (fun q => Jvm.Cond.fieldLink RL q.1 (gk_T q.2.1 q.2.2).1 (gk_T q.2.1 q.2.2).2.1 (gk_T q.2.1 q.2.2).2.2.1) [] (by decide +kernel) (by decide +kernel)) (gk_ws (L := lL) (fun q => Jvm.Cond.constantLong RL q.1 q.2) [] (by decide +kernel) (by decide +kernel)) (gk_ws (L := iL) (fun q => Jvm.Cond.constant RL q.1 q.2) [] (by decide +kernel) (by decide +kernel)) (by decide +kernel) (gk_ws (L := nL.flatMap (fun q => gk_cls3 q RL)) id [114, 115, 89, 1252, 1253, 99] (by decide +kernel) (by decide +kernel))
theorem pL_st : ∀ idx q, pL.2.2.2.1 idx = some q → q < gk_nS ∧ (gk_sq q).1 = RL ∧ (gk_sq q).2.1 = idx := fun idx q h => (by decide +kernel : ∀ z ∈ sL, z.2 < gk_nS ∧ (gk_sq z.2).1 = RL ∧ (gk_sq z.2).2.1 = z.1) _ (gk_lk_mem h)
def gk_cwl : List (Nat × Nat) := (List.range 11).flatMap (fun ci => (List.range (gk_nf ci)).map (fun k => (ci, k)))
theorem gk_cw_ok : gk_cw := by
  refine ⟨fun ci hc w hw => ?_, gk_wm 180 (by decide +kernel), gk_wm 323 (by decide +kernel), gk_wm 1323 (by decide +kernel), gk_wm 1800 (by decide +kernel)⟩
  obtain ⟨k, hk, rfl⟩ := List.mem_map.mp hw
  have h := gk_ws (L := gk_cwl) (fun q => u_lay (gk_R q.1) (gk_T q.1) q.2) [336, 338, 340, 342, 205, 207, 209, 211, 213, 316, 318, 320, 147, 149, 151, 153, 273, 275, 277, 279, 281, 283, 285, 287, 289, 291, 293, 295, 297, 299, 301, 303, 393, 395, 397, 399, 401, 403, 171, 173, 175, 177, 355, 357, 376, 378, 380, 382, 414, 416, 418, 420, 422, 424, 426, 428, 1282, 1284, 1286, 1288, 1290, 1292, 1294, 1296, 1298, 1300, 1302, 1304, 1306, 1308, 1310, 1312, 1314, 1316, 1318, 1320] (by decide +kernel) (by decide +kernel)
  exact h (ci, k) (List.mem_flatMap.mpr ⟨ci, List.mem_range.mpr hc, List.mem_map.mpr ⟨k, hk, rfl⟩⟩)
theorem gk_Xf_no {own : String} {P : gk_C} {d : Nat} (h : ∀ idx ek, P.2.2.2.2 idx ≠ some (100 + ek)) : gk_Xf own P d := fun idx is ic q ek h1 => absurd h1 (h idx ek)
theorem gk_no100 {l : List (Nat × Nat)} (h : l.all (fun q => Nat.ble (q.2 + 1) 100 || Nat.ble 200 q.2 && Nat.ble (q.2 + 1) 300) = true) : ∀ idx ek, ek < 100 → gk_lk l idx ≠ some (100 + ek) := fun idx ek he hq => by
  have := List.all_eq_true.mp h _ (gk_lk_mem hq)
  simp only [Bool.or_eq_true, Bool.and_eq_true, Nat.ble_eq] at this
  omega

/-! loops, small numbers, what the two sides' tests of ranges say -/
theorem bi_s {L d : Nat} {M : eb_M} : (∀ x y, eb_ev L (d + 1) 900 [zi x, zi y] M = some (zi (if x < y then y else x), M)) ∧ (∀ x y, eb_ev L (d + 1) 901 [zi x, zi y] M = some (zi (if y < x then y else x), M)) ∧ (∀ x, eb_ev L (d + 1) 902 [zi x] M = some (zi (if 0 ≤ x then x else 0 - x), M)) ∧ (∀ a, eb_ev L (d + 1) 903 [zr a] M = some (zn, M)) := ⟨fun _ _ => rfl, fun _ _ => rfl, fun _ => rfl, fun _ => rfl⟩
theorem eb_loop {α : Type} {F : Nat → α → Option eb_R} {P : Nat → α → Prop} {n : Nat} {s0 : α} (h0 : P 0 s0) (hs : ∀ i s, i < n → P i s → ∃ s', F i s = F (i + 1) s' ∧ P (i + 1) s') : ∃ s', F 0 s0 = F n s' ∧ P n s' := by
  have key : ∀ k, k ≤ n → ∃ s', F 0 s0 = F k s' ∧ P k s' := by
    intro k
    induction k with
    | zero => exact fun _ => ⟨s0, rfl, h0⟩
    | succ k ih =>
      intro hk
      obtain ⟨s1, e1, p1⟩ := ih (by omega)
      obtain ⟨s2, e2, p2⟩ := hs k s1 (by omega) p1
      exact ⟨s2, e1.trans e2, p2⟩
  exact key n (Nat.le_refl n)
theorem nI_lt_b {a b : Nat} (ha : a ≤ 100000) (hb : b ≤ 100000) : (nI a < nI b) = (a < b) := propext (nI_ltI (by omega) (by omega))
theorem nI_le_b {a b : Nat} (ha : a ≤ 100000) (hb : b ≤ 100000) : (nI a ≤ nI b) = (a ≤ b) := propext (nI_leI (by omega) (by omega))
theorem nI_eq_b {a b : Nat} (ha : a ≤ 100000) (hb : b ≤ 100000) : (nI a = nI b) = (a = b) := propext (nI_eq (by omega) (by omega))
theorem nI_cl_b {a : Nat} (ha : a ≤ 100000) : (nI a).toNatClampNeg = a := nI_clamp (by omega)
theorem eb_in_b {i n : Nat} (h : i < n) (hn : n ≤ 100000) : eb_in (nI i) n = true := eb_in_iff.mpr (vp_in_nI h (by omega))
theorem ite_eq0 {p : Prop} [Decidable p] : ((if p then (1 : Int32) else 0) = 0) = ¬p := by
  by_cases h : p <;> simp [h]
theorem ite_eq0' {p : Prop} [Decidable p] : ((if p then (0 : Int32) else 1) = 0) = p := by
  by_cases h : p <;> simp [h]
theorem ite_01 {p : Prop} [Decidable p] : ((if p then (1 : Int32) else 0) = 0 ∨ (if p then (1 : Int32) else 0) = 1) = True := by
  by_cases h : p <;> simp [h]
theorem ite_10 {p : Prop} [Decidable p] : ((if p then (0 : Int32) else 1) = 0 ∨ (if p then (0 : Int32) else 1) = 1) = True := by
  by_cases h : p <;> simp [h]
theorem nI_m1 {a : Nat} (ha : a ≤ 100000) : (nI a = -1) = False := by
  simp only [eq_iff_iff, iff_false]
  intro q
  have h := nI_toInt (n := a) (by omega)
  rw [q] at h
  have : (-1 : Int32).toInt = -1 := by decide
  omega
theorem nI_m1' {a : Nat} (ha : a ≤ 100000) : (-1 = nI a) = False := by
  rw [show ((-1 : Int32) = nI a) = (nI a = -1) from propext eq_comm]; exact nI_m1 ha
theorem nI_neg {a : Nat} (ha : a ≤ 100000) : (nI a < 0) = False := by
  simp only [eq_iff_iff, iff_false]
  exact nI_pos (by omega)
theorem i64_le (x y : Int32) : (x.toInt64 ≤ y.toInt64) = (x ≤ y) := by
  rw [Int64.le_iff_toInt_le, Int32.le_iff_toInt_le, Int32.toInt_toInt64, Int32.toInt_toInt64]
theorem i64_lt (x y : Int32) : (x.toInt64 < y.toInt64) = (x < y) := by
  rw [Int64.lt_iff_toInt_lt, Int32.lt_iff_toInt_lt, Int32.toInt_toInt64, Int32.toInt_toInt64]
theorem i64_lits : (0 : Int64) = (0 : Int32).toInt64 ∧ (1 : Int64) = (1 : Int32).toInt64 ∧ (2 : Int64) = (2 : Int32).toInt64 ∧ (3 : Int64) = (3 : Int32).toInt64 ∧ (4 : Int64) = (4 : Int32).toInt64 ∧ (5 : Int64) = (5 : Int32).toInt64 ∧ (6 : Int64) = (6 : Int32).toInt64 ∧ (7 : Int64) = (7 : Int32).toInt64 ∧ (12 : Int64) = (12 : Int32).toInt64 ∧ (16 : Int64) = (16 : Int32).toInt64 ∧ (20 : Int64) = (20 : Int32).toInt64 ∧ (30 : Int64) = (30 : Int32).toInt64 ∧ (40 : Int64) = (40 : Int32).toInt64 ∧ (99 : Int64) = (99 : Int32).toInt64 ∧ (100 : Int64) = (100 : Int32).toInt64 ∧ (255 : Int64) = (255 : Int32).toInt64 ∧ (-1 : Int64) = (-1 : Int32).toInt64 := by decide
theorem eb_u_ap {α : Type} {I : eb_A → Nat → α} {a b : eb_A} {j l : Nat} {x : α} : eb_u I a j x b l = if b = a ∧ l = j then x else I b l := rfl
theorem eb_u_s {α : Type} {I : eb_A → Nat → α} {a : eb_A} {j : Nat} {x : α} : eb_u I a j x a j = x := if_pos ⟨rfl, rfl⟩
theorem if_same0 {α : Type} {p : Prop} [Decidable p] {a : α} : (if p then a else a) = a := by split <;> rfl
theorem ite_eq1 {p : Prop} [Decidable p] : ((if p then (1 : Int32) else 0) = 1) = p := by
  by_cases h : p <;> simp [h]
theorem ite_eq1' {p : Prop} [Decidable p] : ((if p then (0 : Int32) else 1) = 1) = ¬p := by
  by_cases h : p <;> simp [h]
theorem or_em {p : Prop} : (¬p ∨ p) = True := propext ⟨fun _ => trivial, fun _ => (Classical.em p).symm⟩
theorem or_em' {p : Prop} : (p ∨ ¬p) = True := propext ⟨fun _ => trivial, fun _ => Classical.em p⟩
theorem lcmp0 {x y : Int64} : ((if x < y then (-1 : Int32) else if x = y then 0 else 1) = 0) = (x = y) := by
  apply propext
  by_cases h : x < y
  · have h2 : ¬ x = y := fun q => by rw [q] at h; exact Int64.lt_irrefl h
    simp (decide := true) [h, h2]
  · by_cases h2 : x = y <;> simp (decide := true) [h, h2]
theorem lcmpL {x y : Int64} : ((if x < y then (-1 : Int32) else if x = y then 0 else 1) < 0) = (x < y) := by
  apply propext
  by_cases h : x < y
  · simp (decide := true) [h]
  · by_cases h2 : x = y <;> simp (decide := true) [h, h2]
theorem lcmpG {x y : Int64} : (0 < (if x < y then (-1 : Int32) else if x = y then 0 else 1)) = (y < x) := by
  apply propext
  by_cases h : x < y
  · have h2 : ¬ y < x := Int64.lt_asymm h
    simp (decide := true) [h, h2]
  · by_cases h2 : x = y
    · have h3 : ¬ y < x := fun q => by rw [h2] at q; exact Int64.lt_irrefl q
      simp (decide := true) [h, h2, h3]
    · have h3 : y < x := by
        rw [Int64.lt_iff_toInt_lt] at h ⊢
        have : x.toInt ≠ y.toInt := fun q => h2 (Int64.toInt_inj.mp q)
        omega
      simp (decide := true) [h, h2, h3]
theorem eb_loopA {F : Nat → Int32 → Option eb_R} {f : Nat → Int32} {n : Nat} (hs : ∀ i, i < n → F i (f i) = F (i + 1) (f (i + 1))) : F 0 (f 0) = F n (f n) := by
  have key : ∀ k, k ≤ n → F 0 (f 0) = F k (f k) := by
    intro k
    induction k with
    | zero => exact fun _ => rfl
    | succ k ih => exact fun hk => (ih (by omega)).trans (hs k (by omega))
  exact key n (Nat.le_refl n)

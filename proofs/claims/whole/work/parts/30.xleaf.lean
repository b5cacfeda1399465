/-! the class's leaves: goers, inns, shelves -/
section
variable {L d nc ns k i g : Nat} {I : eb_A → Nat → Int32} {J : eb_A → Nat → Int64} {C : Nat → Nat → Nat} {mt mk : Option Nat} {M : eb_M} {R : eb_A → Nat → Option eb_A}
theorem x_within {v a b : Int32} : eb_ev L (d + 1) 127 [zi v, zi a, zi b] M = some (zi (if a ≤ v ∧ v ≤ b then 1 else 0), M) := by
  rw [h127]
  simp (decide := true) only [e127_0, e127_1, e127_2, e127_5, e127_6, e127_7, e127_10, e127_11, e127_14, e127_15, bi_s, tyX, rl1, rl2, rl4, ↓reduceIte, Option.bind_some, true_and, and_true, false_and, and_false, true_or, or_true, false_or, or_false, if_same0, ite_eq0, ite_eq0', ite_eq1, ite_eq1', or_em, or_em', ite_not, lcmp0, lcmpL, lcmpG, nI_cl_b, eb_in_b, nI_1, nI_pred, Int32.reduceToNatClampNeg, eb_u_ap, Prod.mk.injEq, not_true_eq_false, not_false_eq_true]
  by_cases h1 : v < a
  · have h2 : ¬ a ≤ v := Int32.not_le.mpr h1
    simp only [h1, h2, ↓reduceIte, false_and]
  · have h2 : a ≤ v := Int32.not_lt.mp h1
    by_cases h3 : b < v
    · have h4 : ¬ v ≤ b := Int32.not_le.mpr h3
      simp only [h1, h2, h3, h4, ↓reduceIte, and_false]
    · have h4 : v ≤ b := Int32.not_lt.mp h3
      simp only [h1, h2, h3, h4, ↓reduceIte, and_true]
theorem x_become {a0 : eb_A} (h : (eb_ty L a0.1).1 = 0) {x y z : Int32} : eb_ev L (d + 1) 1 [zr a0, zi x, zi y, zi z] (nc, ns, I, J, R) = some (zn, (nc, ns, eb_u (eb_u (eb_u I a0 0 x) a0 1 y) a0 2 z, J, R)) := by
  rw [h1 h]
  simp only [e1_0, e1_1, e1_2, e1_5, e1_6, e1_7, e1_10, e1_11, e1_12, e1_15, bi_s, tyX, rl1, rl2, rl4, ↓reduceIte, Option.bind_some, true_and, and_true, false_and, and_false, true_or, or_true, false_or, or_false, if_same0, ite_eq0, ite_eq0', ite_eq1, ite_eq1', or_em, or_em', ite_not, lcmp0, lcmpL, lcmpG, nI_cl_b, eb_in_b, nI_1, nI_pred, Int32.reduceToNatClampNeg, eb_u_ap, Prod.mk.injEq, not_true_eq_false, not_false_eq_true, h]
theorem x_goesByBook : eb_ev L (d + 1) 4 [zr (7, k, g)] (nc, ns, I, J, R) = some (zi (if ¬ I (7, k, g) 0 = 0 ∧ ¬ I (7, k, g) 0 = 3 then 1 else 0), (nc, ns, I, J, R)) := by
  rw [h4 rfl]
  simp (decide := true) only [e4_0, e4_1, e4_4, e4_7, e4_8, e4_11, e4_12, e4_15, e4_16, e4_19, e4_20, bi_s, tyX, rl1, rl2, rl4, ↓reduceIte, Option.bind_some, true_and, and_true, false_and, and_false, true_or, or_true, false_or, or_false, if_same0, ite_eq0, ite_eq0', ite_eq1, ite_eq1', or_em, or_em', ite_not, lcmp0, lcmpL, lcmpG, nI_cl_b, eb_in_b, nI_1, nI_pred, Int32.reduceToNatClampNeg, eb_u_ap, Prod.mk.injEq, not_true_eq_false, not_false_eq_true]
  by_cases h1 : I (7, k, g) 0 = 0 <;> by_cases h2 : I (7, k, g) 0 = 3 <;> simp only [h1, h2, bi_s, tyX, rl1, rl2, rl4, ↓reduceIte, Option.bind_some, true_and, and_true, false_and, and_false, true_or, or_true, false_or, or_false, if_same0, ite_eq0, ite_eq0', ite_eq1, ite_eq1', or_em, or_em', ite_not, lcmp0, lcmpL, lcmpG, nI_cl_b, eb_in_b, nI_1, nI_pred, Int32.reduceToNatClampNeg, eb_u_ap, Prod.mk.injEq, not_true_eq_false, not_false_eq_true]
theorem x_comesLate : eb_ev L (d + 1) 5 [zr (7, k, g)] (nc, ns, I, J, R) = some (zi (if I (7, k, g) 0 = 5 then 1 else 0), (nc, ns, I, J, R)) := by
  rw [h5 rfl]
  simp (decide := true) only [e5_0, e5_1, e5_4, e5_5, e5_8, e5_9, e5_12, e5_13, bi_s, tyX, rl1, rl2, rl4, ↓reduceIte, Option.bind_some, true_and, and_true, false_and, and_false, true_or, or_true, false_or, or_false, if_same0, ite_eq0, ite_eq0', ite_eq1, ite_eq1', or_em, or_em', ite_not, lcmp0, lcmpL, lcmpG, nI_cl_b, eb_in_b, nI_1, nI_pred, Int32.reduceToNatClampNeg, eb_u_ap, Prod.mk.injEq, not_true_eq_false, not_false_eq_true]
  (repeat' split) <;> simp_all
theorem x_isOf {w : Int32} : eb_ev L (d + 2) 2 [zr (7, k, g), zi w] (nc, ns, I, J, R) = some (zi (if w = 0 ∨ w = I (7, k, g) 0 ∨ w = 1 ∧ ¬ I (7, k, g) 0 = 0 ∧ ¬ I (7, k, g) 0 = 3 then 1 else 0), (nc, ns, I, J, R)) := by
  rw [h2 rfl]
  simp (decide := true) only [e2_0, e2_1, e2_4, e2_5, e2_6, e2_9, e2_12, e2_13, e2_14, e2_17, e2_18, e2_21, e2_24, e2_25, e2_28, e2_29, bi_s, tyX, rl1, rl2, rl4, ↓reduceIte, Option.bind_some, true_and, and_true, false_and, and_false, true_or, or_true, false_or, or_false, if_same0, ite_eq0, ite_eq0', ite_eq1, ite_eq1', or_em, or_em', ite_not, lcmp0, lcmpL, lcmpG, nI_cl_b, eb_in_b, nI_1, nI_pred, Int32.reduceToNatClampNeg, eb_u_ap, Prod.mk.injEq, not_true_eq_false, not_false_eq_true, x_goesByBook]
  by_cases h1 : w = 0
  · simp only [h1, bi_s, tyX, rl1, rl2, rl4, ↓reduceIte, Option.bind_some, true_and, and_true, false_and, and_false, true_or, or_true, false_or, or_false, if_same0, ite_eq0, ite_eq0', ite_eq1, ite_eq1', or_em, or_em', ite_not, lcmp0, lcmpL, lcmpG, nI_cl_b, eb_in_b, nI_1, nI_pred, Int32.reduceToNatClampNeg, eb_u_ap, Prod.mk.injEq, not_true_eq_false, not_false_eq_true]
  · by_cases h2 : w = I (7, k, g) 0
    · simp only [h1, h2, bi_s, tyX, rl1, rl2, rl4, ↓reduceIte, Option.bind_some, true_and, and_true, false_and, and_false, true_or, or_true, false_or, or_false, if_same0, ite_eq0, ite_eq0', ite_eq1, ite_eq1', or_em, or_em', ite_not, lcmp0, lcmpL, lcmpG, nI_cl_b, eb_in_b, nI_1, nI_pred, Int32.reduceToNatClampNeg, eb_u_ap, Prod.mk.injEq, not_true_eq_false, not_false_eq_true]
    · simp only [h1, h2, bi_s, tyX, rl1, rl2, rl4, ↓reduceIte, Option.bind_some, true_and, and_true, false_and, and_false, true_or, or_true, false_or, or_false, if_same0, ite_eq0, ite_eq0', ite_eq1, ite_eq1', or_em, or_em', ite_not, lcmp0, lcmpL, lcmpG, nI_cl_b, eb_in_b, nI_1, nI_pred, Int32.reduceToNatClampNeg, eb_u_ap, Prod.mk.injEq, not_true_eq_false, not_false_eq_true]
      (repeat' split) <;> simp_all
theorem x_open {x y z : Int32} : eb_ev L (d + 1) 7 [zr (6, k, i), zi x, zi y, zi z] (nc, ns, I, J, R) = some (zn, (nc, ns, eb_u (eb_u (eb_u (eb_u (eb_u (eb_u (eb_u I (6, k, i) 0 x) (6, k, i) 1 x) (6, k, i) 2 y) (6, k, i) 3 z) (6, k, i) 4 (-1)) (6, k, i) 5 0) (6, k, i) 6 0, J, R)) := by
  rw [h7 rfl]
  simp only [e7_0, e7_1, e7_2, e7_5, e7_6, e7_7, e7_10, e7_11, e7_12, e7_15, e7_16, e7_17, e7_20, e7_21, e7_22, e7_25, e7_26, e7_27, e7_30, e7_31, e7_32, e7_35, bi_s, tyX, rl1, rl2, rl4, ↓reduceIte, Option.bind_some, true_and, and_true, false_and, and_false, true_or, or_true, false_or, or_false, if_same0, ite_eq0, ite_eq0', ite_eq1, ite_eq1', or_em, or_em', ite_not, lcmp0, lcmpL, lcmpG, nI_cl_b, eb_in_b, nI_1, nI_pred, Int32.reduceToNatClampNeg, eb_u_ap, Prod.mk.injEq, not_true_eq_false, not_false_eq_true]
theorem x_hasRoom : eb_ev L (d + 1) 9 [zr (6, k, i)] (nc, ns, I, J, R) = some (zi (if I (6, k, i) 5 < 99 then 1 else 0), (nc, ns, I, J, R)) := by
  rw [h9 rfl]
  simp (decide := true) only [e9_0, e9_1, e9_4, e9_6, e9_9, e9_10, e9_13, e9_14, bi_s, tyX, rl1, rl2, rl4, ↓reduceIte, Option.bind_some, true_and, and_true, false_and, and_false, true_or, or_true, false_or, or_false, if_same0, ite_eq0, ite_eq0', ite_eq1, ite_eq1', or_em, or_em', ite_not, lcmp0, lcmpL, lcmpG, nI_cl_b, eb_in_b, nI_1, nI_pred, Int32.reduceToNatClampNeg, eb_u_ap, Prod.mk.injEq, not_true_eq_false, not_false_eq_true]
  split <;> rfl
theorem x_receive {v : Int32} : eb_ev L (d + 2) 10 [zr (6, k, i), zi v] (nc, ns, I, J, R) = some (if I (6, k, i) 5 < 99 then (zi 1, (nc, ns, eb_u (eb_u I (6, k, i) 5 (I (6, k, i) 5 + 1)) (6, k, i) 6 (I (6, k, i) 6 + v), J, R)) else (zi 0, (nc, ns, I, J, R))) := by
  rw [h10 rfl]
  simp (decide := true) only [e10_0, e10_1, e10_4, e10_7, e10_8, e10_9, e10_10a, e10_10b, e10_11, e10_14, e10_15, e10_16, e10_19, e10_20a, e10_20b, e10_21, e10_24, e10_25, e10_26, e10_29, e10_30, bi_s, tyX, rl1, rl2, rl4, ↓reduceIte, Option.bind_some, true_and, and_true, false_and, and_false, true_or, or_true, false_or, or_false, if_same0, ite_eq0, ite_eq0', ite_eq1, ite_eq1', or_em, or_em', ite_not, lcmp0, lcmpL, lcmpG, nI_cl_b, eb_in_b, nI_1, nI_pred, Int32.reduceToNatClampNeg, eb_u_ap, Prod.mk.injEq, not_true_eq_false, not_false_eq_true, x_hasRoom]
  by_cases h1 : I (6, k, i) 5 < 99 <;> simp (decide := true) only [h1, bi_s, tyX, rl1, rl2, rl4, ↓reduceIte, Option.bind_some, true_and, and_true, false_and, and_false, true_or, or_true, false_or, or_false, if_same0, ite_eq0, ite_eq0', ite_eq1, ite_eq1', or_em, or_em', ite_not, lcmp0, lcmpL, lcmpG, nI_cl_b, eb_in_b, nI_1, nI_pred, Int32.reduceToNatClampNeg, eb_u_ap, Prod.mk.injEq, not_true_eq_false, not_false_eq_true]
theorem x_leanWith {n v : Int32} : eb_ev L (d + 1) 11 [zr (6, k, i), zi n, zi v] (nc, ns, I, J, R) = some (zi (if I (6, k, i) 5 + n < 1 then 0 else (I (6, k, i) 6 + n * v) / (I (6, k, i) 5 + n) - I (6, k, i) 0), (nc, ns, I, J, R)) := by
  rw [h11 rfl]
  simp (decide := true) only [e11_0, e11_1, e11_4, e11_5, e11_6, e11_7, e11_8, e11_9, e11_12, e11_13, e11_16, e11_17, e11_20, e11_21, e11_22, e11_23, e11_24, e11_25, e11_26, e11_27, e11_30, e11_31, bi_s, tyX, rl1, rl2, rl4, ↓reduceIte, Option.bind_some, true_and, and_true, false_and, and_false, true_or, or_true, false_or, or_false, if_same0, ite_eq0, ite_eq0', ite_eq1, ite_eq1', or_em, or_em', ite_not, lcmp0, lcmpL, lcmpG, nI_cl_b, eb_in_b, nI_1, nI_pred, Int32.reduceToNatClampNeg, eb_u_ap, Prod.mk.injEq, not_true_eq_false, not_false_eq_true]
  by_cases h1 : I (6, k, i) 5 + n < 1
  · simp only [h1, bi_s, tyX, rl1, rl2, rl4, ↓reduceIte, Option.bind_some, true_and, and_true, false_and, and_false, true_or, or_true, false_or, or_false, if_same0, ite_eq0, ite_eq0', ite_eq1, ite_eq1', or_em, or_em', ite_not, lcmp0, lcmpL, lcmpG, nI_cl_b, eb_in_b, nI_1, nI_pred, Int32.reduceToNatClampNeg, eb_u_ap, Prod.mk.injEq, not_true_eq_false, not_false_eq_true]
  · have h2 : ¬ I (6, k, i) 5 + n = 0 := fun q => h1 (by rw [q]; decide)
    simp only [h1, h2, bi_s, tyX, rl1, rl2, rl4, ↓reduceIte, Option.bind_some, true_and, and_true, false_and, and_false, true_or, or_true, false_or, or_false, if_same0, ite_eq0, ite_eq0', ite_eq1, ite_eq1', or_em, or_em', ite_not, lcmp0, lcmpL, lcmpG, nI_cl_b, eb_in_b, nI_1, nI_pred, Int32.reduceToNatClampNeg, eb_u_ap, Prod.mk.injEq, not_true_eq_false, not_false_eq_true]
theorem x_isFull : eb_ev L (d + 1) 12 [zr (6, k, i)] (nc, ns, I, J, R) = some (zi (if I (6, k, i) 7 < I (6, k, i) 2 then 0 else 1), (nc, ns, I, J, R)) := by
  rw [h12 rfl]
  simp (decide := true) only [e12_0, e12_1, e12_4, e12_5, e12_8, e12_11, e12_12, e12_15, e12_16, bi_s, tyX, rl1, rl2, rl4, ↓reduceIte, Option.bind_some, true_and, and_true, false_and, and_false, true_or, or_true, false_or, or_false, if_same0, ite_eq0, ite_eq0', ite_eq1, ite_eq1', or_em, or_em', ite_not, lcmp0, lcmpL, lcmpG, nI_cl_b, eb_in_b, nI_1, nI_pred, Int32.reduceToNatClampNeg, eb_u_ap, Prod.mk.injEq, not_true_eq_false, not_false_eq_true]
  split <;> rfl
theorem x_joyOfHead : eb_ev L (d + 2) 13 [zr (6, k, i)] (nc, ns, I, J, R) = some (zi (I (6, k, i) 0 - I (6, k, i) 3 - (if I (6, k, i) 7 < I (6, k, i) 2 then 0 else 20)), (nc, ns, I, J, R)) := by
  rw [h13 rfl]
  simp (decide := true) only [e13_0, e13_1, e13_4, e13_5, e13_8, e13_9, e13_10, e13_13, e13_16, e13_18, e13_21, e13_22, e13_23, bi_s, tyX, rl1, rl2, rl4, ↓reduceIte, Option.bind_some, true_and, and_true, false_and, and_false, true_or, or_true, false_or, or_false, if_same0, ite_eq0, ite_eq0', ite_eq1, ite_eq1', or_em, or_em', ite_not, lcmp0, lcmpL, lcmpG, nI_cl_b, eb_in_b, nI_1, nI_pred, Int32.reduceToNatClampNeg, eb_u_ap, Prod.mk.injEq, not_true_eq_false, not_false_eq_true, x_isFull]
  split <;> rfl
theorem x_takenTonight : eb_ev L (d + 1) 14 [zr (6, k, i)] (nc, ns, I, J, R) = some (zi (I (6, k, i) 3 * I (6, k, i) 7), (nc, ns, I, J, R)) := by
  rw [h14 rfl]
  simp only [e14_0, e14_1, e14_4, e14_5, e14_8, e14_9, bi_s, tyX, rl1, rl2, rl4, ↓reduceIte, Option.bind_some, true_and, and_true, false_and, and_false, true_or, or_true, false_or, or_false, if_same0, ite_eq0, ite_eq0', ite_eq1, ite_eq1', or_em, or_em', ite_not, lcmp0, lcmpL, lcmpG, nI_cl_b, eb_in_b, nI_1, nI_pred, Int32.reduceToNatClampNeg, eb_u_ap, Prod.mk.injEq, not_true_eq_false, not_false_eq_true]
theorem x_holdsRow {s : Nat} : eb_ev L (d + 2) 17 [zr (3, 0, s)] (nc, ns, I, J, R) = some (zi (if 0 ≤ I (3, 0, s) 0 ∧ I (3, 0, s) 0 ≤ 4 then 1 else 0), (nc, ns, I, J, R)) := by
  rw [h17 rfl]
  simp (decide := true) only [e17_0, e17_1, e17_4, e17_5, e17_6, e17_9, bi_s, tyX, rl1, rl2, rl4, ↓reduceIte, Option.bind_some, true_and, and_true, false_and, and_false, true_or, or_true, false_or, or_false, if_same0, ite_eq0, ite_eq0', ite_eq1, ite_eq1', or_em, or_em', ite_not, lcmp0, lcmpL, lcmpG, nI_cl_b, eb_in_b, nI_1, nI_pred, Int32.reduceToNatClampNeg, eb_u_ap, Prod.mk.injEq, not_true_eq_false, not_false_eq_true, x_within]
theorem x_holdsGoer {s : Nat} : eb_ev L (d + 1) 18 [zr (3, 0, s)] (nc, ns, I, J, R) = some (zi (if I (3, 0, s) 0 < 10 then 0 else 1), (nc, ns, I, J, R)) := by
  rw [h18 rfl]
  simp (decide := true) only [e18_0, e18_1, e18_4, e18_6, e18_9, e18_10, e18_13, e18_14, bi_s, tyX, rl1, rl2, rl4, ↓reduceIte, Option.bind_some, true_and, and_true, false_and, and_false, true_or, or_true, false_or, or_false, if_same0, ite_eq0, ite_eq0', ite_eq1, ite_eq1', or_em, or_em', ite_not, lcmp0, lcmpL, lcmpG, nI_cl_b, eb_in_b, nI_1, nI_pred, Int32.reduceToNatClampNeg, eb_u_ap, Prod.mk.injEq, not_true_eq_false, not_false_eq_true]
  split <;> rfl
theorem x_hasRun {s : Nat} {f n : Int32} : eb_ev L (d + 2) 20 [zr (3, 0, s), zi f, zi n] (nc, ns, I, J, R) = some (zi (if 0 ≤ n ∧ 0 ≤ f ∧ f ≤ I (3, 0, s) 1 - n then 1 else 0), (nc, ns, I, J, R)) := by
  rw [h20 rfl]
  simp (decide := true) only [e20_0, e20_1, e20_4, e20_5, e20_6, e20_7, e20_10, e20_11, e20_12, e20_15, e20_18, e20_19, e20_22, e20_23, bi_s, tyX, rl1, rl2, rl4, ↓reduceIte, Option.bind_some, true_and, and_true, false_and, and_false, true_or, or_true, false_or, or_false, if_same0, ite_eq0, ite_eq0', ite_eq1, ite_eq1', or_em, or_em', ite_not, lcmp0, lcmpL, lcmpG, nI_cl_b, eb_in_b, nI_1, nI_pred, Int32.reduceToNatClampNeg, eb_u_ap, Prod.mk.injEq, not_true_eq_false, not_false_eq_true, x_within]
  by_cases h1 : n < 0
  · have h2 : ¬ 0 ≤ n := Int32.not_le.mpr h1
    simp only [h1, h2, bi_s, tyX, rl1, rl2, rl4, ↓reduceIte, Option.bind_some, true_and, and_true, false_and, and_false, true_or, or_true, false_or, or_false, if_same0, ite_eq0, ite_eq0', ite_eq1, ite_eq1', or_em, or_em', ite_not, lcmp0, lcmpL, lcmpG, nI_cl_b, eb_in_b, nI_1, nI_pred, Int32.reduceToNatClampNeg, eb_u_ap, Prod.mk.injEq, not_true_eq_false, not_false_eq_true]
  · have h2 : 0 ≤ n := Int32.not_lt.mp h1
    simp only [h1, h2, bi_s, tyX, rl1, rl2, rl4, ↓reduceIte, Option.bind_some, true_and, and_true, false_and, and_false, true_or, or_true, false_or, or_false, if_same0, ite_eq0, ite_eq0', ite_eq1, ite_eq1', or_em, or_em', ite_not, lcmp0, lcmpL, lcmpG, nI_cl_b, eb_in_b, nI_1, nI_pred, Int32.reduceToNatClampNeg, eb_u_ap, Prod.mk.injEq, not_true_eq_false, not_false_eq_true]
    split <;> rfl
def xs_low (h : Int32) (v : Int64) : Int64 := if h = 0 then v.toInt32.toInt8.toInt32.toInt64 else if h = 1 then v.toInt32.toInt16.toInt32.toInt64 else if h = 2 then v.toInt32.toInt64 else if h = 4 then (if v = 0 then 0 else 1) else v
theorem x_lowestBits {s : Nat} {v : Int64} : eb_ev L (d + 1) 22 [zr (3, 0, s), zl v] (nc, ns, I, J, R) = some (zl (xs_low (I (3, 0, s) 0) v), (nc, ns, I, J, R)) := by
  rw [h22 rfl]
  simp (decide := true) only [e22_0, e22_1, e22_4, e22_40, e22_41, e22_42, e22_43, e22_44, e22_45, e22_46, e22_47, e22_48, e22_49, e22_50, e22_51, e22_52, e22_53, e22_54, e22_55, e22_56, e22_57, e22_60, e22_61, e22_64, e22_65, e22_66, e22_67, bi_s, tyX, rl1, rl2, rl4, ↓reduceIte, Option.bind_some, true_and, and_true, false_and, and_false, true_or, or_true, false_or, or_false, if_same0, ite_eq0, ite_eq0', ite_eq1, ite_eq1', or_em, or_em', ite_not, lcmp0, lcmpL, lcmpG, nI_cl_b, eb_in_b, nI_1, nI_pred, Int32.reduceToNatClampNeg, eb_u_ap, Prod.mk.injEq, not_true_eq_false, not_false_eq_true, eb_sw, xs_low]
  (repeat' split) <;> simp_all
theorem x_put {s j : Nat} (hj : j < 40) {v : Int64} : eb_ev L (d + 2) 21 [zr (3, 0, s), zi (nI j), zl v] (nc, ns, I, J, eb_RL C mt mk) = some (zn, (nc, ns, I, eb_u J (12, 0, s) j (xs_low (I (3, 0, s) 0) v), eb_RL C mt mk)) := by
  rw [h21 rfl]
  simp (decide := true) (disch := omega) only [e21_0, e21_1, e21_4, e21_5, e21_6, e21_7, e21_10, e21_11, bi_s, tyX, rl1, rl2, rl4, ↓reduceIte, Option.bind_some, true_and, and_true, false_and, and_false, true_or, or_true, false_or, or_false, if_same0, ite_eq0, ite_eq0', ite_eq1, ite_eq1', or_em, or_em', ite_not, lcmp0, lcmpL, lcmpG, nI_cl_b, eb_in_b, nI_1, nI_pred, Int32.reduceToNatClampNeg, eb_u_ap, Prod.mk.injEq, not_true_eq_false, not_false_eq_true, x_lowestBits]
end

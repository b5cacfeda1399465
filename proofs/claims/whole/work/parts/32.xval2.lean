/-! the class's valleys: crowds, the truest, sums, what is added, written, copied -/
/-- only cells of valley k differ -/
def eb_fr (k : Nat) (I I' : eb_A → Nat → Int32) : Prop := ∀ a l, ¬ (a.2.1 = k ∧ 4 ≤ a.1 ∧ a.1 ≤ 11) → I' a l = I a l
theorem eb_fr_rf {k : Nat} {I : eb_A → Nat → Int32} : eb_fr k I I := fun _ _ _ => rfl
theorem eb_fr_tr {k : Nat} {I I1 I2 : eb_A → Nat → Int32} (h1 : eb_fr k I I1) (h2 : eb_fr k I1 I2) : eb_fr k I I2 := fun a l h => (h2 a l h).trans (h1 a l h)
theorem eb_fr_u {k : Nat} {I : eb_A → Nat → Int32} {a : eb_A} {j : Nat} {x : Int32} (h : a.2.1 = k ∧ 4 ≤ a.1 ∧ a.1 ≤ 11) : eb_fr k I (eb_u I a j x) := fun b l hb => if_neg fun q => hb (by rw [q.1]; exact h)
/-- another valley keeps what it holds -/
theorem eb_RX_fr {k k1 : Nat} {I I' : eb_A → Nat → Int32} {w : eb_W} (h : eb_RX I k w) (hf : eb_fr k1 I I') (hk : k ≠ k1) : eb_RX I' k w := by
  have e : ∀ a l, a.2.1 = k → I' a l = I a l := fun a l ha => hf a l fun q => hk (ha.symm.trans q.1)
  obtain ⟨⟨h1, h2, h3, h4, h5⟩, h6, h7⟩ := h
  refine ⟨⟨?_, ?_, ?_, ?_, ?_⟩, fun i hi f hf => ?_, fun j hj f hf => ?_⟩
  · rw [e _ _ rfl]; exact h1
  · rw [e _ _ rfl]; exact h2
  · rw [e _ _ rfl]; exact h3
  · rw [e _ _ rfl]; exact h4
  · rw [e _ _ rfl]; exact h5
  · rw [e _ _ rfl]; exact h6 i hi f hf
  · rw [e _ _ rfl]; exact h7 j hj f hf
section
variable {L d nc ns k i g : Nat} {I : eb_A → Nat → Int32} {J : eb_A → Nat → Int64} {C : Nat → Nat → Nat} {mt mk : Option Nat} {M : eb_M} {R : eb_A → Nat → Option eb_A} {w : eb_W}
theorem x_crowdOf (h : eb_RX I k w) (hw : sp_ok w) {x : Int32} : eb_ev L (d + 4) 49 [zr (4, k, 0), zi x] (nc, ns, I, J, eb_RL C mt mk) = some (zi (sp_crowd w x), (nc, ns, I, J, eb_RL C mt mk)) := by
  have hn := hw.2.1
  rw [h49 rfl]
  simp (decide := true) (disch := omega) only [e49_0, e49_1, e49_2, e49_3, e49_5, e49_6, e49_9, e49_12, e49_13, e49_16, e49_17, e49_18, e49_21, e49_24, e49_25, e49_26, e49_29, e49_30, e49_31, e49_34, e49_35, e49_38, e49_39, e49_40, e49_43, e49_44, e49_45, e49_48, e49_49, e49_50, e49_53, e49_56, e49_57, bi_s, tyX, rl1, rl2, rl4, ↓reduceIte, Option.bind_some, true_and, and_true, false_and, and_false, true_or, or_true, false_or, or_false, if_same0, ite_eq0, ite_eq0', ite_eq1, ite_eq1', or_em, or_em', ite_not, lcmp0, lcmpL, lcmpG, nI_cl_b, eb_in_b, nI_1, nI_pred, Int32.reduceToNatClampNeg, eb_u_ap, Prod.mk.injEq, not_true_eq_false, not_false_eq_true]
  have e := eb_loopA (n := w.2.1) (f := sp_sum (fun j => if sp_bk (w.2.2.2.2 j 0) = true ∧ sp_enc (sp_choice w j) = x then w.2.2.2.2 j 1 else 0))
    (F := fun i s => eb_E L (d + 3) 49 4 [some (zr (4, k, 0)), some (zi x), some (zi s), some (zi (nI i))] [] (nc, ns, I, J, eb_RL C mt mk)) (by
      intro i hi
      rw [e49_4]
      have hk0 := h.2.2 i hi 0 (by omega)
      have hk1 := h.2.2 i hi 1 (by omega)
      simp (decide := true) (disch := omega) only [e49_0, e49_1, e49_2, e49_3, e49_5, e49_6, e49_9, e49_12, e49_13, e49_16, e49_17, e49_18, e49_21, e49_24, e49_25, e49_26, e49_29, e49_30, e49_31, e49_34, e49_35, e49_38, e49_39, e49_40, e49_43, e49_44, e49_45, e49_48, e49_49, e49_50, e49_53, e49_56, e49_57, bi_s, tyX, rl1, rl2, rl4, ↓reduceIte, Option.bind_some, true_and, and_true, false_and, and_false, true_or, or_true, false_or, or_false, if_same0, ite_eq0, ite_eq0', ite_eq1, ite_eq1', or_em, or_em', ite_not, lcmp0, lcmpL, lcmpG, nI_cl_b, eb_in_b, nI_1, nI_pred, Int32.reduceToNatClampNeg, eb_u_ap, Prod.mk.injEq, not_true_eq_false, not_false_eq_true, h.1.2.1, nI_lt_b, hi, x_goesByBook, x_firstChoice h hw hi, hk0, hk1, sp_sum, sp_bk, decide_eq_true_eq]
      by_cases c1 : w.2.2.2.2 i 0 = 0
      · simp (decide := true) only [c1, bi_s, tyX, rl1, rl2, rl4, ↓reduceIte, Option.bind_some, true_and, and_true, false_and, and_false, true_or, or_true, false_or, or_false, if_same0, ite_eq0, ite_eq0', ite_eq1, ite_eq1', or_em, or_em', ite_not, lcmp0, lcmpL, lcmpG, nI_cl_b, eb_in_b, nI_1, nI_pred, Int32.reduceToNatClampNeg, eb_u_ap, Prod.mk.injEq, not_true_eq_false, not_false_eq_true, Int32.add_zero]
      · by_cases c2 : w.2.2.2.2 i 0 = 3
        · simp (decide := true) only [c2, bi_s, tyX, rl1, rl2, rl4, ↓reduceIte, Option.bind_some, true_and, and_true, false_and, and_false, true_or, or_true, false_or, or_false, if_same0, ite_eq0, ite_eq0', ite_eq1, ite_eq1', or_em, or_em', ite_not, lcmp0, lcmpL, lcmpG, nI_cl_b, eb_in_b, nI_1, nI_pred, Int32.reduceToNatClampNeg, eb_u_ap, Prod.mk.injEq, not_true_eq_false, not_false_eq_true, Int32.add_zero]
        · by_cases c3 : sp_enc (sp_choice w i) = x
          · simp (decide := true) only [c1, c2, c3, bi_s, tyX, rl1, rl2, rl4, ↓reduceIte, Option.bind_some, true_and, and_true, false_and, and_false, true_or, or_true, false_or, or_false, if_same0, ite_eq0, ite_eq0', ite_eq1, ite_eq1', or_em, or_em', ite_not, lcmp0, lcmpL, lcmpG, nI_cl_b, eb_in_b, nI_1, nI_pred, Int32.reduceToNatClampNeg, eb_u_ap, Prod.mk.injEq, not_true_eq_false, not_false_eq_true]
          · simp (decide := true) only [c1, c2, c3, bi_s, tyX, rl1, rl2, rl4, ↓reduceIte, Option.bind_some, true_and, and_true, false_and, and_false, true_or, or_true, false_or, or_false, if_same0, ite_eq0, ite_eq0', ite_eq1, ite_eq1', or_em, or_em', ite_not, lcmp0, lcmpL, lcmpG, nI_cl_b, eb_in_b, nI_1, nI_pred, Int32.reduceToNatClampNeg, eb_u_ap, Prod.mk.injEq, not_true_eq_false, not_false_eq_true, Int32.add_zero])
  simp only [nI_0] at e
  have e0 : sp_sum (fun j => if sp_bk (w.2.2.2.2 j 0) = true ∧ sp_enc (sp_choice w j) = x then w.2.2.2.2 j 1 else 0) 0 = 0 := rfl
  rw [e0] at e
  rw [e, e49_4]
  simp (decide := true) (disch := omega) only [e49_0, e49_1, e49_2, e49_3, e49_5, e49_6, e49_9, e49_12, e49_13, e49_16, e49_17, e49_18, e49_21, e49_24, e49_25, e49_26, e49_29, e49_30, e49_31, e49_34, e49_35, e49_38, e49_39, e49_40, e49_43, e49_44, e49_45, e49_48, e49_49, e49_50, e49_53, e49_56, e49_57, bi_s, tyX, rl1, rl2, rl4, ↓reduceIte, Option.bind_some, true_and, and_true, false_and, and_false, true_or, or_true, false_or, or_false, if_same0, ite_eq0, ite_eq0', ite_eq1, ite_eq1', or_em, or_em', ite_not, lcmp0, lcmpL, lcmpG, nI_cl_b, eb_in_b, nI_1, nI_pred, Int32.reduceToNatClampNeg, eb_u_ap, Prod.mk.injEq, not_true_eq_false, not_false_eq_true, h.1.2.1, nI_lt_b, Nat.lt_irrefl]
  rfl
def sp_truest (w : eb_W) : Option Nat := sp_best (fun _ => true) (fun i => w.2.2.2.1 i 0 - w.2.2.2.1 i 3) w.1
theorem x_truestInn (h : eb_RX I k w) (hw : sp_ok w) : eb_ev L (d + 1) 46 [zr (4, k, 0)] (nc, ns, I, J, eb_RL C mt mk) = some (zi (sp_enc (sp_truest w)), (nc, ns, I, J, eb_RL C mt mk)) := by
  have hn := hw.1
  rw [h46 rfl]
  simp (decide := true) (disch := omega) only [e46_0, e46_1, e46_2, e46_3, e46_5, e46_6, e46_9, e46_12, e46_13, e46_14, e46_17, e46_18, e46_21, e46_22, e46_23, e46_26, e46_27, e46_30, e46_31, e46_32, e46_35, e46_36, e46_37, e46_40, e46_41, e46_42, e46_45, e46_46, e46_49, e46_50, e46_51, e46_54, e46_55, e46_58, e46_59, e46_60, e46_63, e46_66, e46_67, bi_s, tyX, rl1, rl2, rl4, ↓reduceIte, Option.bind_some, true_and, and_true, false_and, and_false, true_or, or_true, false_or, or_false, if_same0, ite_eq0, ite_eq0', ite_eq1, ite_eq1', or_em, or_em', ite_not, lcmp0, lcmpL, lcmpG, nI_cl_b, eb_in_b, nI_1, nI_pred, Int32.reduceToNatClampNeg, eb_u_ap, Prod.mk.injEq, not_true_eq_false, not_false_eq_true]
  have e := eb_loopA (n := w.1) (f := fun i => sp_enc (sp_best (fun _ => true) (fun i => w.2.2.2.1 i 0 - w.2.2.2.1 i 3) i))
    (F := fun i s => eb_E L d 46 4 [some (zr (4, k, 0)), some (zi s), some (zi (nI i))] [] (nc, ns, I, J, eb_RL C mt mk)) (by
      intro i hi
      rw [e46_4]
      have hk0 := h.2.1 i hi 0 (by omega)
      have hk3 := h.2.1 i hi 3 (by omega)
      cases hb : sp_best (fun _ => true) (fun i => w.2.2.2.1 i 0 - w.2.2.2.1 i 3) i with
      | none => simp (decide := true) (disch := omega) only [e46_0, e46_1, e46_2, e46_3, e46_5, e46_6, e46_9, e46_12, e46_13, e46_14, e46_17, e46_18, e46_21, e46_22, e46_23, e46_26, e46_27, e46_30, e46_31, e46_32, e46_35, e46_36, e46_37, e46_40, e46_41, e46_42, e46_45, e46_46, e46_49, e46_50, e46_51, e46_54, e46_55, e46_58, e46_59, e46_60, e46_63, e46_66, e46_67, bi_s, tyX, rl1, rl2, rl4, ↓reduceIte, Option.bind_some, true_and, and_true, false_and, and_false, true_or, or_true, false_or, or_false, if_same0, ite_eq0, ite_eq0', ite_eq1, ite_eq1', or_em, or_em', ite_not, lcmp0, lcmpL, lcmpG, nI_cl_b, eb_in_b, nI_1, nI_pred, Int32.reduceToNatClampNeg, eb_u_ap, Prod.mk.injEq, not_true_eq_false, not_false_eq_true, h.1.1, nI_lt_b, hi, sp_enc, sp_best, hb]
      | some q =>
        have hq := (sp_best_lt hb).1
        have hk0q := h.2.1 q (by omega) 0 (by omega)
        have hk3q := h.2.1 q (by omega) 3 (by omega)
        simp (decide := true) (disch := omega) only [e46_0, e46_1, e46_2, e46_3, e46_5, e46_6, e46_9, e46_12, e46_13, e46_14, e46_17, e46_18, e46_21, e46_22, e46_23, e46_26, e46_27, e46_30, e46_31, e46_32, e46_35, e46_36, e46_37, e46_40, e46_41, e46_42, e46_45, e46_46, e46_49, e46_50, e46_51, e46_54, e46_55, e46_58, e46_59, e46_60, e46_63, e46_66, e46_67, bi_s, tyX, rl1, rl2, rl4, ↓reduceIte, Option.bind_some, true_and, and_true, false_and, and_false, true_or, or_true, false_or, or_false, if_same0, ite_eq0, ite_eq0', ite_eq1, ite_eq1', or_em, or_em', ite_not, lcmp0, lcmpL, lcmpG, nI_cl_b, eb_in_b, nI_1, nI_pred, Int32.reduceToNatClampNeg, eb_u_ap, Prod.mk.injEq, not_true_eq_false, not_false_eq_true, h.1.1, nI_lt_b, hi, sp_enc, sp_best, hb, nI_m1, hk0, hk3, hk0q, hk3q]
        split <;> rfl)
  simp only [nI_0] at e
  rw [show sp_enc (sp_best (fun _ => true) (fun i => w.2.2.2.1 i 0 - w.2.2.2.1 i 3) 0) = -1 from rfl] at e
  rw [e, e46_4]
  simp (decide := true) (disch := omega) only [e46_0, e46_1, e46_2, e46_3, e46_5, e46_6, e46_9, e46_12, e46_13, e46_14, e46_17, e46_18, e46_21, e46_22, e46_23, e46_26, e46_27, e46_30, e46_31, e46_32, e46_35, e46_36, e46_37, e46_40, e46_41, e46_42, e46_45, e46_46, e46_49, e46_50, e46_51, e46_54, e46_55, e46_58, e46_59, e46_60, e46_63, e46_66, e46_67, bi_s, tyX, rl1, rl2, rl4, ↓reduceIte, Option.bind_some, true_and, and_true, false_and, and_false, true_or, or_true, false_or, or_false, if_same0, ite_eq0, ite_eq0', ite_eq1, ite_eq1', or_em, or_em', ite_not, lcmp0, lcmpL, lcmpG, nI_cl_b, eb_in_b, nI_1, nI_pred, Int32.reduceToNatClampNeg, eb_u_ap, Prod.mk.injEq, not_true_eq_false, not_false_eq_true, h.1.1, nI_lt_b, Nat.lt_irrefl]
  rfl
theorem x_roomsOfAll (h : eb_RX I k w) (hw : sp_ok w) : eb_ev L (d + 1) 44 [zr (4, k, 0)] (nc, ns, I, J, eb_RL C mt mk) = some (zi (sp_sum (fun i => w.2.2.2.1 i 2) w.1), (nc, ns, I, J, eb_RL C mt mk)) := by
  have hn := hw.1
  rw [h44 rfl]
  simp (decide := true) (disch := omega) only [e44_0, e44_1, e44_2, e44_3, e44_5, e44_6, e44_9, e44_12, e44_13, e44_14, e44_17, e44_18, e44_19, e44_22, e44_23, e44_24, e44_27, e44_30, e44_31, bi_s, tyX, rl1, rl2, rl4, ↓reduceIte, Option.bind_some, true_and, and_true, false_and, and_false, true_or, or_true, false_or, or_false, if_same0, ite_eq0, ite_eq0', ite_eq1, ite_eq1', or_em, or_em', ite_not, lcmp0, lcmpL, lcmpG, nI_cl_b, eb_in_b, nI_1, nI_pred, Int32.reduceToNatClampNeg, eb_u_ap, Prod.mk.injEq, not_true_eq_false, not_false_eq_true]
  have e := eb_loopA (n := w.1) (f := sp_sum (fun i => w.2.2.2.1 i 2))
    (F := fun i s => eb_E L d 44 4 [some (zr (4, k, 0)), some (zi s), some (zi (nI i))] [] (nc, ns, I, J, eb_RL C mt mk)) (by
      intro i hi
      rw [e44_4]
      have hk2 := h.2.1 i hi 2 (by omega)
      simp (decide := true) (disch := omega) only [e44_0, e44_1, e44_2, e44_3, e44_5, e44_6, e44_9, e44_12, e44_13, e44_14, e44_17, e44_18, e44_19, e44_22, e44_23, e44_24, e44_27, e44_30, e44_31, bi_s, tyX, rl1, rl2, rl4, ↓reduceIte, Option.bind_some, true_and, and_true, false_and, and_false, true_or, or_true, false_or, or_false, if_same0, ite_eq0, ite_eq0', ite_eq1, ite_eq1', or_em, or_em', ite_not, lcmp0, lcmpL, lcmpG, nI_cl_b, eb_in_b, nI_1, nI_pred, Int32.reduceToNatClampNeg, eb_u_ap, Prod.mk.injEq, not_true_eq_false, not_false_eq_true, h.1.1, nI_lt_b, hi, sp_sum, hk2])
  simp only [nI_0] at e
  rw [show sp_sum (fun i => w.2.2.2.1 i 2) 0 = 0 from rfl] at e
  rw [e, e44_4]
  simp (decide := true) (disch := omega) only [e44_0, e44_1, e44_2, e44_3, e44_5, e44_6, e44_9, e44_12, e44_13, e44_14, e44_17, e44_18, e44_19, e44_22, e44_23, e44_24, e44_27, e44_30, e44_31, bi_s, tyX, rl1, rl2, rl4, ↓reduceIte, Option.bind_some, true_and, and_true, false_and, and_false, true_or, or_true, false_or, or_false, if_same0, ite_eq0, ite_eq0', ite_eq1, ite_eq1', or_em, or_em', ite_not, lcmp0, lcmpL, lcmpG, nI_cl_b, eb_in_b, nI_1, nI_pred, Int32.reduceToNatClampNeg, eb_u_ap, Prod.mk.injEq, not_true_eq_false, not_false_eq_true, h.1.1, nI_lt_b, Nat.lt_irrefl]
theorem x_headsOfAll (h : eb_RX I k w) (hw : sp_ok w) : eb_ev L (d + 1) 45 [zr (4, k, 0)] (nc, ns, I, J, eb_RL C mt mk) = some (zi (sp_sum (fun j => w.2.2.2.2 j 1) w.2.1), (nc, ns, I, J, eb_RL C mt mk)) := by
  have hn := hw.2.1
  rw [h45 rfl]
  simp (decide := true) (disch := omega) only [e45_0, e45_1, e45_2, e45_3, e45_5, e45_6, e45_9, e45_12, e45_13, e45_14, e45_17, e45_18, e45_19, e45_22, e45_23, e45_24, e45_27, e45_30, e45_31, bi_s, tyX, rl1, rl2, rl4, ↓reduceIte, Option.bind_some, true_and, and_true, false_and, and_false, true_or, or_true, false_or, or_false, if_same0, ite_eq0, ite_eq0', ite_eq1, ite_eq1', or_em, or_em', ite_not, lcmp0, lcmpL, lcmpG, nI_cl_b, eb_in_b, nI_1, nI_pred, Int32.reduceToNatClampNeg, eb_u_ap, Prod.mk.injEq, not_true_eq_false, not_false_eq_true]
  have e := eb_loopA (n := w.2.1) (f := sp_sum (fun j => w.2.2.2.2 j 1))
    (F := fun i s => eb_E L d 45 4 [some (zr (4, k, 0)), some (zi s), some (zi (nI i))] [] (nc, ns, I, J, eb_RL C mt mk)) (by
      intro i hi
      rw [e45_4]
      have hk2 := h.2.2 i hi 1 (by omega)
      simp (decide := true) (disch := omega) only [e45_0, e45_1, e45_2, e45_3, e45_5, e45_6, e45_9, e45_12, e45_13, e45_14, e45_17, e45_18, e45_19, e45_22, e45_23, e45_24, e45_27, e45_30, e45_31, bi_s, tyX, rl1, rl2, rl4, ↓reduceIte, Option.bind_some, true_and, and_true, false_and, and_false, true_or, or_true, false_or, or_false, if_same0, ite_eq0, ite_eq0', ite_eq1, ite_eq1', or_em, or_em', ite_not, lcmp0, lcmpL, lcmpG, nI_cl_b, eb_in_b, nI_1, nI_pred, Int32.reduceToNatClampNeg, eb_u_ap, Prod.mk.injEq, not_true_eq_false, not_false_eq_true, h.1.2.1, nI_lt_b, hi, sp_sum, hk2])
  simp only [nI_0] at e
  rw [show sp_sum (fun j => w.2.2.2.2 j 1) 0 = 0 from rfl] at e
  rw [e, e45_4]
  simp (decide := true) (disch := omega) only [e45_0, e45_1, e45_2, e45_3, e45_5, e45_6, e45_9, e45_12, e45_13, e45_14, e45_17, e45_18, e45_19, e45_22, e45_23, e45_24, e45_27, e45_30, e45_31, bi_s, tyX, rl1, rl2, rl4, ↓reduceIte, Option.bind_some, true_and, and_true, false_and, and_false, true_or, or_true, false_or, or_false, if_same0, ite_eq0, ite_eq0', ite_eq1, ite_eq1', or_em, or_em', ite_not, lcmp0, lcmpL, lcmpG, nI_cl_b, eb_in_b, nI_1, nI_pred, Int32.reduceToNatClampNeg, eb_u_ap, Prod.mk.injEq, not_true_eq_false, not_false_eq_true, h.1.2.1, nI_lt_b, Nat.lt_irrefl]
def sp_inbook (w : eb_W) : Nat → Int32
  | 0 => 0
  | i + 1 => sp_inbook w i ||| (if w.2.2.2.1 i 4 = -1 then (0 : Int32) else (1 : Int32) <<< (nI i &&& 31))
theorem x_innsInBook (h : eb_RX I k w) (hw : sp_ok w) : eb_ev L (d + 1) 43 [zr (4, k, 0)] (nc, ns, I, J, eb_RL C mt mk) = some (zi (sp_inbook w w.1), (nc, ns, I, J, eb_RL C mt mk)) := by
  have hn := hw.1
  rw [h43 rfl]
  simp (decide := true) (disch := omega) only [e43_0, e43_1, e43_2, e43_3, e43_5, e43_6, e43_9, e43_12, e43_13, e43_14, e43_17, e43_18, e43_19, e43_22, e43_23, e43_26, e43_27, e43_30, e43_31, e43_32, e43_33, e43_34, e43_35, e43_38, e43_41, e43_42, bi_s, tyX, rl1, rl2, rl4, ↓reduceIte, Option.bind_some, true_and, and_true, false_and, and_false, true_or, or_true, false_or, or_false, if_same0, ite_eq0, ite_eq0', ite_eq1, ite_eq1', or_em, or_em', ite_not, lcmp0, lcmpL, lcmpG, nI_cl_b, eb_in_b, nI_1, nI_pred, Int32.reduceToNatClampNeg, eb_u_ap, Prod.mk.injEq, not_true_eq_false, not_false_eq_true]
  have e := eb_loopA (n := w.1) (f := sp_inbook w)
    (F := fun i s => eb_E L d 43 4 [some (zr (4, k, 0)), some (zi s), some (zi (nI i))] [] (nc, ns, I, J, eb_RL C mt mk)) (by
      intro i hi
      rw [e43_4]
      have hk2 := h.2.1 i hi 4 (by omega)
      simp (decide := true) (disch := omega) only [e43_0, e43_1, e43_2, e43_3, e43_5, e43_6, e43_9, e43_12, e43_13, e43_14, e43_17, e43_18, e43_19, e43_22, e43_23, e43_26, e43_27, e43_30, e43_31, e43_32, e43_33, e43_34, e43_35, e43_38, e43_41, e43_42, bi_s, tyX, rl1, rl2, rl4, ↓reduceIte, Option.bind_some, true_and, and_true, false_and, and_false, true_or, or_true, false_or, or_false, if_same0, ite_eq0, ite_eq0', ite_eq1, ite_eq1', or_em, or_em', ite_not, lcmp0, lcmpL, lcmpG, nI_cl_b, eb_in_b, nI_1, nI_pred, Int32.reduceToNatClampNeg, eb_u_ap, Prod.mk.injEq, not_true_eq_false, not_false_eq_true, h.1.1, nI_lt_b, hi, sp_inbook, hk2]
      split <;> rfl)
  simp only [nI_0] at e
  rw [show sp_inbook w 0 = 0 from rfl] at e
  rw [e, e43_4]
  simp (decide := true) (disch := omega) only [e43_0, e43_1, e43_2, e43_3, e43_5, e43_6, e43_9, e43_12, e43_13, e43_14, e43_17, e43_18, e43_19, e43_22, e43_23, e43_26, e43_27, e43_30, e43_31, e43_32, e43_33, e43_34, e43_35, e43_38, e43_41, e43_42, bi_s, tyX, rl1, rl2, rl4, ↓reduceIte, Option.bind_some, true_and, and_true, false_and, and_false, true_or, or_true, false_or, or_false, if_same0, ite_eq0, ite_eq0', ite_eq1, ite_eq1', or_em, or_em', ite_not, lcmp0, lcmpL, lcmpG, nI_cl_b, eb_in_b, nI_1, nI_pred, Int32.reduceToNatClampNeg, eb_u_ap, Prod.mk.injEq, not_true_eq_false, not_false_eq_true, h.1.1, nI_lt_b, Nat.lt_irrefl]
end

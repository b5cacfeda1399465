/-! the class's valleys: what is added, written, copied -/
section
variable {L d nc ns k i g : Nat} {I : eb_A → Nat → Int32} {J : eb_A → Nat → Int64} {C : Nat → Nat → Nat} {mt mk : Option Nat} {M : eb_M} {R : eb_A → Nat → Option eb_A} {w : eb_W}
theorem x_addInn_full (h : eb_RX I k w) (hn : w.1 = 6) {x y z : Int32} : eb_ev L (d + 2) 40 [zr (4, k, 0), zi x, zi y, zi z] (nc, ns, I, J, eb_RL C mt mk) = some (zi (-1), (nc, ns, I, J, eb_RL C mt mk)) := by
  have h1 : I (4, k, 0) 2 = 6 := by rw [h.1.1, hn]; rfl
  rw [h40 rfl]
  simp (decide := true) (disch := omega) only [e40_0, e40_1, e40_4, e40_6, e40_9, e40_10, e40_11, e40_12, e40_15, e40_16, e40_19, e40_20, e40_21, e40_22, e40_23, e40_26, e40_27a, e40_27b, e40_28, e40_31, e40_32, e40_33, e40_36, e40_37, e40_40, e40_41, e40_42, bi_s, tyX, rl1, rl2, rl4, ↓reduceIte, Option.bind_some, true_and, and_true, false_and, and_false, true_or, or_true, false_or, or_false, if_same0, ite_eq0, ite_eq0', ite_eq1, ite_eq1', or_em, or_em', ite_not, lcmp0, lcmpL, lcmpG, nI_cl_b, eb_in_b, nI_1, nI_pred, Int32.reduceToNatClampNeg, eb_u_ap, Prod.mk.injEq, not_true_eq_false, not_false_eq_true, h1]
theorem x_addInn (h : eb_RX I k w) (hn : w.1 < 6) {x y z : Int32} : ∃ I', eb_ev L (d + 2) 40 [zr (4, k, 0), zi x, zi y, zi z] (nc, ns, I, J, eb_RL C mt mk) = some (zi (nI w.1), (nc, ns, I', J, eb_RL C mt mk)) ∧ eb_RX I' k (sp_inn w x y z (-1)) ∧ eb_fr k I I' := by
  have h1 : (nI w.1 < 6) = True := by rw [show (6 : Int32) = nI 6 from rfl, nI_lt_b (by omega) (by omega)]; simp [hn]
  rw [h40 rfl]
  simp (decide := true) (disch := omega) only [e40_0, e40_1, e40_4, e40_6, e40_9, e40_10, e40_11, e40_12, e40_15, e40_16, e40_19, e40_20, e40_21, e40_22, e40_23, e40_26, e40_27a, e40_27b, e40_28, e40_31, e40_32, e40_33, e40_36, e40_37, e40_40, e40_41, e40_42, bi_s, tyX, rl1, rl2, rl4, ↓reduceIte, Option.bind_some, true_and, and_true, false_and, and_false, true_or, or_true, false_or, or_false, if_same0, ite_eq0, ite_eq0', ite_eq1, ite_eq1', or_em, or_em', ite_not, lcmp0, lcmpL, lcmpG, nI_cl_b, eb_in_b, nI_1, nI_pred, Int32.reduceToNatClampNeg, eb_u_ap, Prod.mk.injEq, not_true_eq_false, not_false_eq_true, h.1.1, h1, x_open]
  refine ⟨_, rfl, ⟨⟨?_, ?_, ?_, ?_, ?_⟩, fun i hi f hf => ?_, fun j hj f hf => ?_⟩, ?_⟩
  · simp [eb_u, sp_inn]
  · simp [eb_u, sp_inn, h.1.2.1]
  · simp [eb_u, sp_inn, h.1.2.2.1]
  · simp [eb_u, sp_inn, h.1.2.2.2.1]
  · simp [eb_u, sp_inn, h.1.2.2.2.2]
  · by_cases e : i = w.1
    · subst e
      rcases (show f = 0 ∨ f = 1 ∨ f = 2 ∨ f = 3 ∨ f = 4 ∨ f = 5 ∨ f = 6 by omega) with rfl | rfl | rfl | rfl | rfl | rfl | rfl <;> simp [eb_u, sp_inn, sp_up]
    · have hi2 : i < w.1 := by
        have hi : i < w.1 + 1 := hi
        omega
      simp [eb_u, sp_inn, sp_up, e, h.2.1 i hi2 f hf]
  · simp [eb_u, sp_inn, h.2.2 j hj f hf]
  · (repeat (first | exact eb_fr_rf | exact eb_fr_u ⟨rfl, Nat.le_of_ble_eq_true rfl, Nat.le_of_ble_eq_true rfl⟩ | refine eb_fr_tr ?_ (eb_fr_u ⟨rfl, Nat.le_of_ble_eq_true rfl, Nat.le_of_ble_eq_true rfl⟩)))
theorem x_addGoer_full (h : eb_RX I k w) (hn : w.2.1 = 6) {x y z : Int32} : eb_ev L (d + 2) 41 [zr (4, k, 0), zi x, zi y, zi z] (nc, ns, I, J, eb_RL C mt mk) = some (zi (-1), (nc, ns, I, J, eb_RL C mt mk)) := by
  have h1 : I (4, k, 0) 3 = 6 := by rw [h.1.2.1, hn]; rfl
  rw [h41 rfl]
  simp (decide := true) (disch := omega) only [e41_0, e41_1, e41_4, e41_6, e41_9, e41_10, e41_11, e41_12, e41_15, e41_16, e41_19, e41_20, e41_21, e41_22, e41_23, e41_26, e41_27a, e41_27b, e41_28, e41_31, e41_32, e41_33, e41_36, e41_37, e41_40, e41_41, e41_42, bi_s, tyX, rl1, rl2, rl4, ↓reduceIte, Option.bind_some, true_and, and_true, false_and, and_false, true_or, or_true, false_or, or_false, if_same0, ite_eq0, ite_eq0', ite_eq1, ite_eq1', or_em, or_em', ite_not, lcmp0, lcmpL, lcmpG, nI_cl_b, eb_in_b, nI_1, nI_pred, Int32.reduceToNatClampNeg, eb_u_ap, Prod.mk.injEq, not_true_eq_false, not_false_eq_true, h1]
theorem x_addGoer (h : eb_RX I k w) (hn : w.2.1 < 6) {x y z : Int32} : ∃ I', eb_ev L (d + 2) 41 [zr (4, k, 0), zi x, zi y, zi z] (nc, ns, I, J, eb_RL C mt mk) = some (zi (nI w.2.1), (nc, ns, I', J, eb_RL C mt mk)) ∧ eb_RX I' k (sp_goer w x y z) ∧ eb_fr k I I' := by
  have h1 : (nI w.2.1 < 6) = True := by rw [show (6 : Int32) = nI 6 from rfl, nI_lt_b (by omega) (by omega)]; simp [hn]
  have hb : ∀ (I : eb_A → Nat → Int32) (J : eb_A → Nat → Int64) (R : eb_A → Nat → Option eb_A) (x y z : Int32) (k g : Nat), eb_ev L (d + 1) 1 [zr (7, k, g), zi x, zi y, zi z] (nc, ns, I, J, R) = _ := fun I J R x y z k g => x_become rfl
  rw [h41 rfl]
  simp (decide := true) (disch := omega) only [e41_0, e41_1, e41_4, e41_6, e41_9, e41_10, e41_11, e41_12, e41_15, e41_16, e41_19, e41_20, e41_21, e41_22, e41_23, e41_26, e41_27a, e41_27b, e41_28, e41_31, e41_32, e41_33, e41_36, e41_37, e41_40, e41_41, e41_42, bi_s, tyX, rl1, rl2, rl4, ↓reduceIte, Option.bind_some, true_and, and_true, false_and, and_false, true_or, or_true, false_or, or_false, if_same0, ite_eq0, ite_eq0', ite_eq1, ite_eq1', or_em, or_em', ite_not, lcmp0, lcmpL, lcmpG, nI_cl_b, eb_in_b, nI_1, nI_pred, Int32.reduceToNatClampNeg, eb_u_ap, Prod.mk.injEq, not_true_eq_false, not_false_eq_true, h.1.2.1, h1, hb]
  refine ⟨_, rfl, ⟨⟨?_, ?_, ?_, ?_, ?_⟩, fun i hi f hf => ?_, fun j hj f hf => ?_⟩, ?_⟩
  · simp [eb_u, sp_goer, h.1.1]
  · simp [eb_u, sp_goer]
  · simp [eb_u, sp_goer, h.1.2.2.1]
  · simp [eb_u, sp_goer, h.1.2.2.2.1]
  · simp [eb_u, sp_goer, h.1.2.2.2.2]
  · simp [eb_u, sp_goer, h.2.1 i hi f hf]
  · by_cases e : j = w.2.1
    · subst e
      rcases (show f = 0 ∨ f = 1 ∨ f = 2 by omega) with rfl | rfl | rfl <;> simp [eb_u, sp_goer, sp_up]
    · have hj2 : j < w.2.1 := by
        have hj : j < w.2.1 + 1 := hj
        omega
      simp [eb_u, sp_goer, sp_up, e, h.2.2 j hj2 f hf]
  · (repeat (first | exact eb_fr_rf | exact eb_fr_u ⟨rfl, Nat.le_of_ble_eq_true rfl, Nat.le_of_ble_eq_true rfl⟩ | refine eb_fr_tr ?_ (eb_fr_u ⟨rfl, Nat.le_of_ble_eq_true rfl, Nat.le_of_ble_eq_true rfl⟩)))
theorem x_writeBook (h : eb_RX I k w) (hw : sp_ok w) {set : Int32} : ∃ I', eb_ev L (d + 1) 42 [zr (4, k, 0), zi set] (nc, ns, I, J, eb_RL C mt mk) = some (zi (sp_cnt set w.1), (nc, ns, I', J, eb_RL C mt mk)) ∧ eb_RX I' k (sp_write w set) ∧ (∀ a l, ¬ ((a.1 = 6 ∧ a.2.1 = k ∧ l = 4) ∨ (a = (4, k, 0) ∧ l = 4)) → I' a l = I a l) := by
  have hn := hw.1
  rw [h42 rfl]
  simp (decide := true) (disch := omega) only [e42_0, e42_1, e42_2, e42_3, e42_5, e42_6, e42_9, e42_12, e42_13, e42_14, e42_15, e42_16, e42_17, e42_18, e42_21, e42_22, e42_25, e42_26, e42_28, e42_29, e42_32, e42_33, e42_34, e42_36, e42_39, e42_40, e42_43, e42_44, e42_45, e42_48, e42_51, e42_52, e42_55, e42_56, e42_58, e42_61, e42_62, e42_65, e42_66, e42_67, e42_68, e42_71, e42_74, e42_75, e42_76, e42_79, e42_80, bi_s, tyX, rl1, rl2, rl4, ↓reduceIte, Option.bind_some, true_and, and_true, false_and, and_false, true_or, or_true, false_or, or_false, if_same0, ite_eq0, ite_eq0', ite_eq1, ite_eq1', or_em, or_em', ite_not, lcmp0, lcmpL, lcmpG, nI_cl_b, eb_in_b, nI_1, nI_pred, Int32.reduceToNatClampNeg, eb_u_ap, Prod.mk.injEq, not_true_eq_false, not_false_eq_true]
  obtain ⟨s, e, e1, e2, e3⟩ := eb_loop (α := Int32 × Option eb_V × (eb_A → Nat → Int32)) (n := w.1) (s0 := (0, none, I))
    (F := fun i s => eb_E L d 42 4 [some (zr (4, k, 0)), some (zi set), some (zi s.1), some (zi (nI i)), s.2.1] [] (nc, ns, s.2.2, J, eb_RL C mt mk))
    (P := fun i s => s.1 = sp_cnt set i ∧ (∀ a l, ¬ (a.1 = 6 ∧ a.2.1 = k ∧ l = 4) → s.2.2 a l = I a l) ∧ ∀ j, s.2.2 (6, k, j) 4 = if j < i then (if sp_bit set j = true then I (6, k, j) 0 else -1) else I (6, k, j) 4)
    ⟨rfl, fun _ _ _ => rfl, fun _ => by simp⟩ (by
      intro i s hi hP
      obtain ⟨a, b, I1⟩ := s
      obtain ⟨h1, h2, h3⟩ := hP
      have h1 : a = sp_cnt set i := h1
      have h2 : ∀ a l, ¬ (a.1 = 6 ∧ a.2.1 = k ∧ l = 4) → I1 a l = I a l := h2
      have h3 : ∀ j, I1 (6, k, j) 4 = if j < i then (if sp_bit set j = true then I (6, k, j) 0 else -1) else I (6, k, j) 4 := h3
      rw [e42_4]
      have g1 : I1 (4, k, 0) 2 = nI w.1 := by rw [h2 _ _ (by simp)]; exact h.1.1
      have g2 : I1 (6, k, i) 0 = I (6, k, i) 0 := h2 _ _ (by simp)
      by_cases hb : set >>> (nI i &&& 31) &&& 1 = 1
      · have hb1 : sp_bit set i = true := decide_eq_true hb
        simp (decide := true) (disch := omega) only [e42_0, e42_1, e42_2, e42_3, e42_5, e42_6, e42_9, e42_12, e42_13, e42_14, e42_15, e42_16, e42_17, e42_18, e42_21, e42_22, e42_25, e42_26, e42_28, e42_29, e42_32, e42_33, e42_34, e42_36, e42_39, e42_40, e42_43, e42_44, e42_45, e42_48, e42_51, e42_52, e42_55, e42_56, e42_58, e42_61, e42_62, e42_65, e42_66, e42_67, e42_68, e42_71, e42_74, e42_75, e42_76, e42_79, e42_80, bi_s, tyX, rl1, rl2, rl4, ↓reduceIte, Option.bind_some, true_and, and_true, false_and, and_false, true_or, or_true, false_or, or_false, if_same0, ite_eq0, ite_eq0', ite_eq1, ite_eq1', or_em, or_em', ite_not, lcmp0, lcmpL, lcmpG, nI_cl_b, eb_in_b, nI_1, nI_pred, Int32.reduceToNatClampNeg, eb_u_ap, Prod.mk.injEq, not_true_eq_false, not_false_eq_true, g1, nI_lt_b, hi, g2, hb]
        refine ⟨(a + 1, _, eb_u I1 (6, k, i) 4 (I (6, k, i) 0)), rfl, ?_, fun b l hal => ?_, fun j => ?_⟩
        · show a + 1 = _
          rw [h1]; simp [sp_cnt, sp_sum, hb1]
        · exact (if_neg (fun q => hal ⟨by rw [q.1], by rw [q.1], q.2⟩)).trans (h2 b l hal)
        · show eb_u I1 (6, k, i) 4 _ (6, k, j) 4 = _
          by_cases hj : j = i
          · subst hj; simp [eb_u, hb1, g2]
          · simp only [eb_u, Prod.mk.injEq, hj, and_false, false_and, if_false, h3 j]
            simp [show (j < i + 1) = (j < i) from propext ⟨fun q => by omega, fun q => by omega⟩]
      · have hb1 : sp_bit set i = false := decide_eq_false hb
        simp (decide := true) (disch := omega) only [e42_0, e42_1, e42_2, e42_3, e42_5, e42_6, e42_9, e42_12, e42_13, e42_14, e42_15, e42_16, e42_17, e42_18, e42_21, e42_22, e42_25, e42_26, e42_28, e42_29, e42_32, e42_33, e42_34, e42_36, e42_39, e42_40, e42_43, e42_44, e42_45, e42_48, e42_51, e42_52, e42_55, e42_56, e42_58, e42_61, e42_62, e42_65, e42_66, e42_67, e42_68, e42_71, e42_74, e42_75, e42_76, e42_79, e42_80, bi_s, tyX, rl1, rl2, rl4, ↓reduceIte, Option.bind_some, true_and, and_true, false_and, and_false, true_or, or_true, false_or, or_false, if_same0, ite_eq0, ite_eq0', ite_eq1, ite_eq1', or_em, or_em', ite_not, lcmp0, lcmpL, lcmpG, nI_cl_b, eb_in_b, nI_1, nI_pred, Int32.reduceToNatClampNeg, eb_u_ap, Prod.mk.injEq, not_true_eq_false, not_false_eq_true, g1, nI_lt_b, hi, g2, hb]
        refine ⟨(a + 0, _, eb_u I1 (6, k, i) 4 (-1)), rfl, ?_, fun b l hal => ?_, fun j => ?_⟩
        · show a + 0 = _
          rw [h1]; simp [sp_cnt, sp_sum, hb1]
        · exact (if_neg (fun q => hal ⟨by rw [q.1], by rw [q.1], q.2⟩)).trans (h2 b l hal)
        · show eb_u I1 (6, k, i) 4 _ (6, k, j) 4 = _
          by_cases hj : j = i
          · subst hj; simp [eb_u, hb1]
          · simp only [eb_u, Prod.mk.injEq, hj, and_false, false_and, if_false, h3 j]
            simp [show (j < i + 1) = (j < i) from propext ⟨fun q => by omega, fun q => by omega⟩])
  obtain ⟨a, b, I1⟩ := s
  have e1 : a = sp_cnt set w.1 := e1
  have e2 : ∀ a l, ¬ (a.1 = 6 ∧ a.2.1 = k ∧ l = 4) → I1 a l = I a l := e2
  have e3 : ∀ j, I1 (6, k, j) 4 = if j < w.1 then (if sp_bit set j = true then I (6, k, j) 0 else -1) else I (6, k, j) 4 := e3
  have g1 : I1 (4, k, 0) 2 = nI w.1 := by rw [e2 _ _ (by simp)]; exact h.1.1
  simp only [nI_0] at e
  rw [e, e42_4]
  simp (decide := true) (disch := omega) only [e42_0, e42_1, e42_2, e42_3, e42_5, e42_6, e42_9, e42_12, e42_13, e42_14, e42_15, e42_16, e42_17, e42_18, e42_21, e42_22, e42_25, e42_26, e42_28, e42_29, e42_32, e42_33, e42_34, e42_36, e42_39, e42_40, e42_43, e42_44, e42_45, e42_48, e42_51, e42_52, e42_55, e42_56, e42_58, e42_61, e42_62, e42_65, e42_66, e42_67, e42_68, e42_71, e42_74, e42_75, e42_76, e42_79, e42_80, bi_s, tyX, rl1, rl2, rl4, ↓reduceIte, Option.bind_some, true_and, and_true, false_and, and_false, true_or, or_true, false_or, or_false, if_same0, ite_eq0, ite_eq0', ite_eq1, ite_eq1', or_em, or_em', ite_not, lcmp0, lcmpL, lcmpG, nI_cl_b, eb_in_b, nI_1, nI_pred, Int32.reduceToNatClampNeg, eb_u_ap, Prod.mk.injEq, not_true_eq_false, not_false_eq_true, g1, nI_lt_b, Nat.lt_irrefl, e1]
  refine ⟨_, rfl, ⟨⟨?_, ?_, ?_, ?_, ?_⟩, fun i hi f hf => ?_, fun j hj f hf => ?_⟩, fun b l hb => ?_⟩
  · simp [eb_u, sp_write, g1]
  · simp [eb_u, sp_write, e2, h.1.2.1]
  · simp [eb_u, sp_write, sp_up, e2, h.1.2.2.1]
  · simp [eb_u, sp_write, sp_up, e2, h.1.2.2.2.1]
  · simp [eb_u, sp_write, sp_up, e2, h.1.2.2.2.2]
  · by_cases hf4 : f = 4
    · subst hf4
      have hi : i < w.1 := hi
      simp [eb_u, sp_write, sp_up, e3, hi, h.2.1 i hi 0 (by omega)]
    · simp [eb_u, sp_write, sp_up, hf4, e2, h.2.1 i hi f hf]
  · simp [eb_u, sp_write, e2, h.2.2 j hj f hf]
  · exact (if_neg (fun q => hb (Or.inr q))).trans (e2 b l (fun q => hb (Or.inl q)))
end

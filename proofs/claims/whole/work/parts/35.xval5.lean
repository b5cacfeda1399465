/-! the class's valleys: an inn's year, sums over a night -/
section
variable {L d nc ns k i g : Nat} {I : eb_A → Nat → Int32} {J : eb_A → Nat → Int64} {C : Nat → Nat → Nat} {mt mk : Option Nat} {M : eb_M} {R : eb_A → Nat → Option eb_A} {w : eb_W} {N : eb_N}
theorem imn {x y : Int32} : (if y < x then y else x) = if x < y then x else y := by
  by_cases h : y < x
  · rw [if_pos h, if_neg (Int32.not_lt.mpr (Int32.le_of_lt h))]
  · by_cases h2 : x < y
    · rw [if_pos h2, if_neg h]
    · rw [if_neg h2, if_neg h]
      exact Int32.le_antisymm (Int32.not_lt.mp h) (Int32.not_lt.mp h2)
theorem x_growOlder : ∃ I', eb_ev L (d + 3) 15 [zr (6, k, i)] (nc, ns, I, J, R) = some (zn, (nc, ns, I', J, R)) ∧ (∀ f, f < 7 → I' (6, k, i) f = sp_grow (I (6, k, i)) (I (6, k, i) 7) f) ∧ I' (6, k, i) 7 = I (6, k, i) 7 ∧ I' (6, k, i) 8 = I (6, k, i) 8 + I (6, k, i) 3 * I (6, k, i) 7 ∧ ∀ a l, ¬ a = (6, k, i) → I' a l = I a l := by
  rw [h15 rfl]
  have imn99 : ∀ y : Int32, (if y < 99 then y else 99) = if 99 < y then 99 else y := fun y => imn
  have imnb : ∀ y : Int32, (if y < I (6, k, i) 1 then y else I (6, k, i) 1) = if I (6, k, i) 1 < y then I (6, k, i) 1 else y := fun y => imn
  by_cases c5 : I (6, k, i) 7 < I (6, k, i) 2
  · by_cases c6 : 2 * I (6, k, i) 7 < I (6, k, i) 2
    · by_cases c7 : I (6, k, i) 0 < I (6, k, i) 1
      · (by_cases c1 : 0 < I (6, k, i) 7 <;> by_cases c2 : I (6, k, i) 5 < 99 <;> by_cases c3 : I (6, k, i) 4 = -1 <;> by_cases c4 : I (6, k, i) 0 < I (6, k, i) 4 <;>
            simp (decide := true) only [e15_0, e15_1a, e15_1b, e15_2, e15_5, e15_6, e15_9, e15_10, e15_13, e15_14, e15_17, e15_20, e15_21, e15_24, e15_25, e15_28, e15_29, e15_32, e15_33, e15_36, e15_39, e15_40, e15_43, e15_44, e15_45, e15_46, e15_47, e15_50, e15_51, e15_52, e15_55, e15_57, e15_58, e15_61, e15_64, e15_65, e15_68, e15_71a, e15_71b, e15_72, e15_73, e15_76, e15_79, e15_80, e15_81, e15_82, e15_85, e15_87, e15_88, e15_91, e15_94, e15_95, e15_97, e15_98, e15_101, e15_102, e15_105, e15_106, e15_107, e15_108, e15_109, e15_110, e15_113, e15_116, e15_119, e15_120, e15_121, e15_124, e15_125, e15_126, e15_129, e15_132, e15_133, e15_134, e15_137, e15_138, e15_141, e15_144, e15_145, e15_148, e15_149, e15_152, e15_153, e15_154, e15_157, e15_160, e15_161, e15_164, e15_167, e15_168, e15_169, e15_170, e15_173, e15_174, e15_175, e15_178, e15_181, bi_s, tyX, rl1, rl2, rl4, ↓reduceIte, Option.bind_some, true_and, and_true, false_and, and_false, true_or, or_true, false_or, or_false, if_same0, ite_eq0, ite_eq0', ite_eq1, ite_eq1', or_em, or_em', ite_not, lcmp0, lcmpL, lcmpG, nI_cl_b, eb_in_b, nI_1, nI_pred, Int32.reduceToNatClampNeg, eb_u_ap, Prod.mk.injEq, not_true_eq_false, not_false_eq_true, x_receive, x_isFull, x_takenTonight, max0, imn99, imnb, *] <;>
            refine ⟨_, rfl, fun f hf => ?_, ?_, ?_, fun a l ha => ?_⟩ <;>
            first
              | (simp [eb_u, ha]; done)
              | (simp [eb_u]; done)
              | (rcases (show f = 0 ∨ f = 1 ∨ f = 2 ∨ f = 3 ∨ f = 4 ∨ f = 5 ∨ f = 6 by omega) with rfl | rfl | rfl | rfl | rfl | rfl | rfl <;> simp [eb_u, sp_grow, *]))
      · (by_cases c1 : 0 < I (6, k, i) 7 <;> by_cases c2 : I (6, k, i) 5 < 99 <;> by_cases c3 : I (6, k, i) 4 = -1 <;> by_cases c4 : I (6, k, i) 0 < I (6, k, i) 4 <;>
            simp (decide := true) only [e15_0, e15_1a, e15_1b, e15_2, e15_5, e15_6, e15_9, e15_10, e15_13, e15_14, e15_17, e15_20, e15_21, e15_24, e15_25, e15_28, e15_29, e15_32, e15_33, e15_36, e15_39, e15_40, e15_43, e15_44, e15_45, e15_46, e15_47, e15_50, e15_51, e15_52, e15_55, e15_57, e15_58, e15_61, e15_64, e15_65, e15_68, e15_71a, e15_71b, e15_72, e15_73, e15_76, e15_79, e15_80, e15_81, e15_82, e15_85, e15_87, e15_88, e15_91, e15_94, e15_95, e15_97, e15_98, e15_101, e15_102, e15_105, e15_106, e15_107, e15_108, e15_109, e15_110, e15_113, e15_116, e15_119, e15_120, e15_121, e15_124, e15_125, e15_126, e15_129, e15_132, e15_133, e15_134, e15_137, e15_138, e15_141, e15_144, e15_145, e15_148, e15_149, e15_152, e15_153, e15_154, e15_157, e15_160, e15_161, e15_164, e15_167, e15_168, e15_169, e15_170, e15_173, e15_174, e15_175, e15_178, e15_181, bi_s, tyX, rl1, rl2, rl4, ↓reduceIte, Option.bind_some, true_and, and_true, false_and, and_false, true_or, or_true, false_or, or_false, if_same0, ite_eq0, ite_eq0', ite_eq1, ite_eq1', or_em, or_em', ite_not, lcmp0, lcmpL, lcmpG, nI_cl_b, eb_in_b, nI_1, nI_pred, Int32.reduceToNatClampNeg, eb_u_ap, Prod.mk.injEq, not_true_eq_false, not_false_eq_true, x_receive, x_isFull, x_takenTonight, max0, imn99, imnb, *] <;>
            refine ⟨_, rfl, fun f hf => ?_, ?_, ?_, fun a l ha => ?_⟩ <;>
            first
              | (simp [eb_u, ha]; done)
              | (simp [eb_u]; done)
              | (rcases (show f = 0 ∨ f = 1 ∨ f = 2 ∨ f = 3 ∨ f = 4 ∨ f = 5 ∨ f = 6 by omega) with rfl | rfl | rfl | rfl | rfl | rfl | rfl <;> simp [eb_u, sp_grow, *]))
    · (by_cases c1 : 0 < I (6, k, i) 7 <;> by_cases c2 : I (6, k, i) 5 < 99 <;> by_cases c3 : I (6, k, i) 4 = -1 <;> by_cases c4 : I (6, k, i) 0 < I (6, k, i) 4 <;>
            simp (decide := true) only [e15_0, e15_1a, e15_1b, e15_2, e15_5, e15_6, e15_9, e15_10, e15_13, e15_14, e15_17, e15_20, e15_21, e15_24, e15_25, e15_28, e15_29, e15_32, e15_33, e15_36, e15_39, e15_40, e15_43, e15_44, e15_45, e15_46, e15_47, e15_50, e15_51, e15_52, e15_55, e15_57, e15_58, e15_61, e15_64, e15_65, e15_68, e15_71a, e15_71b, e15_72, e15_73, e15_76, e15_79, e15_80, e15_81, e15_82, e15_85, e15_87, e15_88, e15_91, e15_94, e15_95, e15_97, e15_98, e15_101, e15_102, e15_105, e15_106, e15_107, e15_108, e15_109, e15_110, e15_113, e15_116, e15_119, e15_120, e15_121, e15_124, e15_125, e15_126, e15_129, e15_132, e15_133, e15_134, e15_137, e15_138, e15_141, e15_144, e15_145, e15_148, e15_149, e15_152, e15_153, e15_154, e15_157, e15_160, e15_161, e15_164, e15_167, e15_168, e15_169, e15_170, e15_173, e15_174, e15_175, e15_178, e15_181, bi_s, tyX, rl1, rl2, rl4, ↓reduceIte, Option.bind_some, true_and, and_true, false_and, and_false, true_or, or_true, false_or, or_false, if_same0, ite_eq0, ite_eq0', ite_eq1, ite_eq1', or_em, or_em', ite_not, lcmp0, lcmpL, lcmpG, nI_cl_b, eb_in_b, nI_1, nI_pred, Int32.reduceToNatClampNeg, eb_u_ap, Prod.mk.injEq, not_true_eq_false, not_false_eq_true, x_receive, x_isFull, x_takenTonight, max0, imn99, imnb, *] <;>
            refine ⟨_, rfl, fun f hf => ?_, ?_, ?_, fun a l ha => ?_⟩ <;>
            first
              | (simp [eb_u, ha]; done)
              | (simp [eb_u]; done)
              | (rcases (show f = 0 ∨ f = 1 ∨ f = 2 ∨ f = 3 ∨ f = 4 ∨ f = 5 ∨ f = 6 by omega) with rfl | rfl | rfl | rfl | rfl | rfl | rfl <;> simp [eb_u, sp_grow, *]))
  · (by_cases c1 : 0 < I (6, k, i) 7 <;> by_cases c2 : I (6, k, i) 5 < 99 <;> by_cases c3 : I (6, k, i) 4 = -1 <;> by_cases c4 : I (6, k, i) 0 < I (6, k, i) 4 <;>
            simp (decide := true) only [e15_0, e15_1a, e15_1b, e15_2, e15_5, e15_6, e15_9, e15_10, e15_13, e15_14, e15_17, e15_20, e15_21, e15_24, e15_25, e15_28, e15_29, e15_32, e15_33, e15_36, e15_39, e15_40, e15_43, e15_44, e15_45, e15_46, e15_47, e15_50, e15_51, e15_52, e15_55, e15_57, e15_58, e15_61, e15_64, e15_65, e15_68, e15_71a, e15_71b, e15_72, e15_73, e15_76, e15_79, e15_80, e15_81, e15_82, e15_85, e15_87, e15_88, e15_91, e15_94, e15_95, e15_97, e15_98, e15_101, e15_102, e15_105, e15_106, e15_107, e15_108, e15_109, e15_110, e15_113, e15_116, e15_119, e15_120, e15_121, e15_124, e15_125, e15_126, e15_129, e15_132, e15_133, e15_134, e15_137, e15_138, e15_141, e15_144, e15_145, e15_148, e15_149, e15_152, e15_153, e15_154, e15_157, e15_160, e15_161, e15_164, e15_167, e15_168, e15_169, e15_170, e15_173, e15_174, e15_175, e15_178, e15_181, bi_s, tyX, rl1, rl2, rl4, ↓reduceIte, Option.bind_some, true_and, and_true, false_and, and_false, true_or, or_true, false_or, or_false, if_same0, ite_eq0, ite_eq0', ite_eq1, ite_eq1', or_em, or_em', ite_not, lcmp0, lcmpL, lcmpG, nI_cl_b, eb_in_b, nI_1, nI_pred, Int32.reduceToNatClampNeg, eb_u_ap, Prod.mk.injEq, not_true_eq_false, not_false_eq_true, x_receive, x_isFull, x_takenTonight, max0, imn99, imnb, *] <;>
            refine ⟨_, rfl, fun f hf => ?_, ?_, ?_, fun a l ha => ?_⟩ <;>
            first
              | (simp [eb_u, ha]; done)
              | (simp [eb_u]; done)
              | (rcases (show f = 0 ∨ f = 1 ∨ f = 2 ∨ f = 3 ∨ f = 4 ∨ f = 5 ∨ f = 6 by omega) with rfl | rfl | rfl | rfl | rfl | rfl | rfl <;> simp [eb_u, sp_grow, *]))
theorem x_joyOf (h : eb_RX I k w) (hN : eb_NX I k w N) (hw : sp_ok w) (hg : g < w.2.1) : eb_ev L (d + 3) 59 [zr (4, k, 0), zr (7, k, g)] (nc, ns, I, J, eb_RL C mt mk) = some (zi (sp_joy w N g), (nc, ns, I, J, eb_RL C mt mk)) := by
  have hn := hw.1
  rw [h59 rfl]
  simp (decide := true) (disch := omega) only [e59_0, e59_2, e59_3, e59_6, e59_7, e59_8, e59_9, e59_11, e59_12, e59_15, e59_18, e59_19, e59_20, e59_23, e59_24, e59_25, e59_26, e59_29, e59_30, e59_31, e59_34, e59_35, e59_36, e59_37, e59_40, e59_43, e59_44, bi_s, tyX, rl1, rl2, rl4, ↓reduceIte, Option.bind_some, true_and, and_true, false_and, and_false, true_or, or_true, false_or, or_false, if_same0, ite_eq0, ite_eq0', ite_eq1, ite_eq1', or_em, or_em', ite_not, lcmp0, lcmpL, lcmpG, nI_cl_b, eb_in_b, nI_1, nI_pred, Int32.reduceToNatClampNeg, eb_u_ap, Prod.mk.injEq, not_true_eq_false, not_false_eq_true, (hN.2 g hg).2]
  have e := eb_loopA (n := w.1) (f := fun i => -30 * N.2.2 g + sp_sum (fun i => N.2.1 g i * (w.2.2.2.1 i 0 - w.2.2.2.1 i 3 - (if sp_full w N i = true then 20 else 0))) i)
    (F := fun i s => eb_E L (d + 2) 59 10 [some (zr (4, k, 0)), some (zr (7, k, g)), some (zi s), some (zi (nI i))] [] (nc, ns, I, J, eb_RL C mt mk)) (by
      intro i hi
      rw [e59_10]
      have hk0 := h.2.1 i hi 0 (by omega)
      have hk2 := h.2.1 i hi 2 (by omega)
      have hk3 := h.2.1 i hi 3 (by omega)
      have hk7 := hN.1 i hi
      have hs := (hN.2 g hg).1 i hi
      simp (decide := true) (disch := omega) only [e59_0, e59_2, e59_3, e59_6, e59_7, e59_8, e59_9, e59_11, e59_12, e59_15, e59_18, e59_19, e59_20, e59_23, e59_24, e59_25, e59_26, e59_29, e59_30, e59_31, e59_34, e59_35, e59_36, e59_37, e59_40, e59_43, e59_44, bi_s, tyX, rl1, rl2, rl4, ↓reduceIte, Option.bind_some, true_and, and_true, false_and, and_false, true_or, or_true, false_or, or_false, if_same0, ite_eq0, ite_eq0', ite_eq1, ite_eq1', or_em, or_em', ite_not, lcmp0, lcmpL, lcmpG, nI_cl_b, eb_in_b, nI_1, nI_pred, Int32.reduceToNatClampNeg, eb_u_ap, Prod.mk.injEq, not_true_eq_false, not_false_eq_true, h.1.1, nI_lt_b, hi, x_joyOfHead, sp_sum, hk0, hk2, hk3, hk7, hs, sp_full, Int32.add_assoc, Bool.not_eq_true', decide_eq_false_iff_not])
  simp only [nI_0] at e
  rw [show -30 * N.2.2 g + sp_sum (fun i => N.2.1 g i * (w.2.2.2.1 i 0 - w.2.2.2.1 i 3 - (if sp_full w N i = true then 20 else 0))) 0 = -30 * N.2.2 g from Int32.add_zero _] at e
  rw [e, e59_10]
  simp (decide := true) (disch := omega) only [e59_0, e59_2, e59_3, e59_6, e59_7, e59_8, e59_9, e59_11, e59_12, e59_15, e59_18, e59_19, e59_20, e59_23, e59_24, e59_25, e59_26, e59_29, e59_30, e59_31, e59_34, e59_35, e59_36, e59_37, e59_40, e59_43, e59_44, bi_s, tyX, rl1, rl2, rl4, ↓reduceIte, Option.bind_some, true_and, and_true, false_and, and_false, true_or, or_true, false_or, or_false, if_same0, ite_eq0, ite_eq0', ite_eq1, ite_eq1', or_em, or_em', ite_not, lcmp0, lcmpL, lcmpG, nI_cl_b, eb_in_b, nI_1, nI_pred, Int32.reduceToNatClampNeg, eb_u_ap, Prod.mk.injEq, not_true_eq_false, not_false_eq_true, h.1.1, nI_lt_b, Nat.lt_irrefl]
  rfl
theorem x_joyOfAll (h : eb_RX I k w) (hN : eb_NX I k w N) (hw : sp_ok w) : eb_ev L (d + 4) 60 [zr (4, k, 0)] (nc, ns, I, J, eb_RL C mt mk) = some (zi (sp_joyAll w N), (nc, ns, I, J, eb_RL C mt mk)) := by
  have hn := hw.2.1
  rw [h60 rfl]
  simp (decide := true) (disch := omega) only [e60_0, e60_1, e60_2, e60_3, e60_5, e60_6, e60_9, e60_12, e60_13, e60_14, e60_15, e60_18, e60_19, e60_20, e60_23, e60_24, e60_25, e60_28, e60_31, e60_32, bi_s, tyX, rl1, rl2, rl4, ↓reduceIte, Option.bind_some, true_and, and_true, false_and, and_false, true_or, or_true, false_or, or_false, if_same0, ite_eq0, ite_eq0', ite_eq1, ite_eq1', or_em, or_em', ite_not, lcmp0, lcmpL, lcmpG, nI_cl_b, eb_in_b, nI_1, nI_pred, Int32.reduceToNatClampNeg, eb_u_ap, Prod.mk.injEq, not_true_eq_false, not_false_eq_true]
  have e := eb_loopA (n := w.2.1) (f := sp_sum (fun j => sp_joy w N j))
    (F := fun i s => eb_E L (d + 3) 60 4 [some (zr (4, k, 0)), some (zi s), some (zi (nI i))] [] (nc, ns, I, J, eb_RL C mt mk)) (by
      intro i hi
      rw [e60_4]
      simp (decide := true) (disch := omega) only [e60_0, e60_1, e60_2, e60_3, e60_5, e60_6, e60_9, e60_12, e60_13, e60_14, e60_15, e60_18, e60_19, e60_20, e60_23, e60_24, e60_25, e60_28, e60_31, e60_32, bi_s, tyX, rl1, rl2, rl4, ↓reduceIte, Option.bind_some, true_and, and_true, false_and, and_false, true_or, or_true, false_or, or_false, if_same0, ite_eq0, ite_eq0', ite_eq1, ite_eq1', or_em, or_em', ite_not, lcmp0, lcmpL, lcmpG, nI_cl_b, eb_in_b, nI_1, nI_pred, Int32.reduceToNatClampNeg, eb_u_ap, Prod.mk.injEq, not_true_eq_false, not_false_eq_true, h.1.2.1, nI_lt_b, hi, sp_sum, x_joyOf h hN hw hi])
  simp only [nI_0] at e
  rw [show sp_sum (fun j => sp_joy w N j) 0 = 0 from rfl] at e
  rw [e, e60_4]
  simp (decide := true) (disch := omega) only [e60_0, e60_1, e60_2, e60_3, e60_5, e60_6, e60_9, e60_12, e60_13, e60_14, e60_15, e60_18, e60_19, e60_20, e60_23, e60_24, e60_25, e60_28, e60_31, e60_32, bi_s, tyX, rl1, rl2, rl4, ↓reduceIte, Option.bind_some, true_and, and_true, false_and, and_false, true_or, or_true, false_or, or_false, if_same0, ite_eq0, ite_eq0', ite_eq1, ite_eq1', or_em, or_em', ite_not, lcmp0, lcmpL, lcmpG, nI_cl_b, eb_in_b, nI_1, nI_pred, Int32.reduceToNatClampNeg, eb_u_ap, Prod.mk.injEq, not_true_eq_false, not_false_eq_true, h.1.2.1, nI_lt_b, Nat.lt_irrefl]
  rfl
theorem x_outsideOfAll (h : eb_RX I k w) (hN : eb_NX I k w N) (hw : sp_ok w) : eb_ev L (d + 1) 58 [zr (4, k, 0)] (nc, ns, I, J, eb_RL C mt mk) = some (zi (sp_sum N.2.2 w.2.1), (nc, ns, I, J, eb_RL C mt mk)) := by
  have hn := hw.2.1
  rw [h58 rfl]
  simp (decide := true) (disch := omega) only [e58_0, e58_1, e58_2, e58_3, e58_5, e58_6, e58_9, e58_12, e58_13, e58_14, e58_17, e58_18, e58_19, e58_22, e58_23, e58_24, e58_27, e58_30, e58_31, bi_s, tyX, rl1, rl2, rl4, ↓reduceIte, Option.bind_some, true_and, and_true, false_and, and_false, true_or, or_true, false_or, or_false, if_same0, ite_eq0, ite_eq0', ite_eq1, ite_eq1', or_em, or_em', ite_not, lcmp0, lcmpL, lcmpG, nI_cl_b, eb_in_b, nI_1, nI_pred, Int32.reduceToNatClampNeg, eb_u_ap, Prod.mk.injEq, not_true_eq_false, not_false_eq_true]
  have e := eb_loopA (n := w.2.1) (f := sp_sum N.2.2)
    (F := fun i s => eb_E L d 58 4 [some (zr (4, k, 0)), some (zi s), some (zi (nI i))] [] (nc, ns, I, J, eb_RL C mt mk)) (by
      intro i hi
      rw [e58_4]
      simp (decide := true) (disch := omega) only [e58_0, e58_1, e58_2, e58_3, e58_5, e58_6, e58_9, e58_12, e58_13, e58_14, e58_17, e58_18, e58_19, e58_22, e58_23, e58_24, e58_27, e58_30, e58_31, bi_s, tyX, rl1, rl2, rl4, ↓reduceIte, Option.bind_some, true_and, and_true, false_and, and_false, true_or, or_true, false_or, or_false, if_same0, ite_eq0, ite_eq0', ite_eq1, ite_eq1', or_em, or_em', ite_not, lcmp0, lcmpL, lcmpG, nI_cl_b, eb_in_b, nI_1, nI_pred, Int32.reduceToNatClampNeg, eb_u_ap, Prod.mk.injEq, not_true_eq_false, not_false_eq_true, h.1.2.1, nI_lt_b, hi, sp_sum, (hN.2 i hi).2])
  simp only [nI_0] at e
  rw [show sp_sum N.2.2 0 = 0 from rfl] at e
  rw [e, e58_4]
  simp (decide := true) (disch := omega) only [e58_0, e58_1, e58_2, e58_3, e58_5, e58_6, e58_9, e58_12, e58_13, e58_14, e58_17, e58_18, e58_19, e58_22, e58_23, e58_24, e58_27, e58_30, e58_31, bi_s, tyX, rl1, rl2, rl4, ↓reduceIte, Option.bind_some, true_and, and_true, false_and, and_false, true_or, or_true, false_or, or_false, if_same0, ite_eq0, ite_eq0', ite_eq1, ite_eq1', or_em, or_em', ite_not, lcmp0, lcmpL, lcmpG, nI_cl_b, eb_in_b, nI_1, nI_pred, Int32.reduceToNatClampNeg, eb_u_ap, Prod.mk.injEq, not_true_eq_false, not_false_eq_true, h.1.2.1, nI_lt_b, Nat.lt_irrefl]
def sp_fullset (w : eb_W) (N : eb_N) : Nat → Int32
  | 0 => 0
  | i + 1 => sp_fullset w N i ||| (if sp_full w N i = true then (1 : Int32) <<< (nI i &&& 31) else (0 : Int32))
theorem x_fullInns (h : eb_RX I k w) (hN : eb_NX I k w N) (hw : sp_ok w) : eb_ev L (d + 2) 57 [zr (4, k, 0)] (nc, ns, I, J, eb_RL C mt mk) = some (zi (sp_fullset w N w.1), (nc, ns, I, J, eb_RL C mt mk)) := by
  have hn := hw.1
  rw [h57 rfl]
  simp (decide := true) (disch := omega) only [e57_0, e57_1, e57_2, e57_3, e57_5, e57_6, e57_9, e57_12, e57_13, e57_14, e57_17, e57_18, e57_19, e57_22, e57_25, e57_26, e57_27, e57_28, e57_31, e57_32, e57_33, e57_34, e57_37, e57_40, e57_41, bi_s, tyX, rl1, rl2, rl4, ↓reduceIte, Option.bind_some, true_and, and_true, false_and, and_false, true_or, or_true, false_or, or_false, if_same0, ite_eq0, ite_eq0', ite_eq1, ite_eq1', or_em, or_em', ite_not, lcmp0, lcmpL, lcmpG, nI_cl_b, eb_in_b, nI_1, nI_pred, Int32.reduceToNatClampNeg, eb_u_ap, Prod.mk.injEq, not_true_eq_false, not_false_eq_true]
  have e := eb_loopA (n := w.1) (f := sp_fullset w N)
    (F := fun i s => eb_E L (d + 1) 57 4 [some (zr (4, k, 0)), some (zi s), some (zi (nI i))] [] (nc, ns, I, J, eb_RL C mt mk)) (by
      intro i hi
      rw [e57_4]
      have hk2 := h.2.1 i hi 2 (by omega)
      have hk7 := hN.1 i hi
      simp (decide := true) (disch := omega) only [e57_0, e57_1, e57_2, e57_3, e57_5, e57_6, e57_9, e57_12, e57_13, e57_14, e57_17, e57_18, e57_19, e57_22, e57_25, e57_26, e57_27, e57_28, e57_31, e57_32, e57_33, e57_34, e57_37, e57_40, e57_41, bi_s, tyX, rl1, rl2, rl4, ↓reduceIte, Option.bind_some, true_and, and_true, false_and, and_false, true_or, or_true, false_or, or_false, if_same0, ite_eq0, ite_eq0', ite_eq1, ite_eq1', or_em, or_em', ite_not, lcmp0, lcmpL, lcmpG, nI_cl_b, eb_in_b, nI_1, nI_pred, Int32.reduceToNatClampNeg, eb_u_ap, Prod.mk.injEq, not_true_eq_false, not_false_eq_true, h.1.1, nI_lt_b, hi, sp_fullset, x_isFull, hk2, hk7, sp_full, Bool.not_eq_true', decide_eq_false_iff_not]
      by_cases c : N.1 i < w.2.2.2.1 i 2 <;> simp only [c, bi_s, tyX, rl1, rl2, rl4, ↓reduceIte, Option.bind_some, true_and, and_true, false_and, and_false, true_or, or_true, false_or, or_false, if_same0, ite_eq0, ite_eq0', ite_eq1, ite_eq1', or_em, or_em', ite_not, lcmp0, lcmpL, lcmpG, nI_cl_b, eb_in_b, nI_1, nI_pred, Int32.reduceToNatClampNeg, eb_u_ap, Prod.mk.injEq, not_true_eq_false, not_false_eq_true])
  simp only [nI_0] at e
  rw [show sp_fullset w N 0 = 0 from rfl] at e
  rw [e, e57_4]
  simp (decide := true) (disch := omega) only [e57_0, e57_1, e57_2, e57_3, e57_5, e57_6, e57_9, e57_12, e57_13, e57_14, e57_17, e57_18, e57_19, e57_22, e57_25, e57_26, e57_27, e57_28, e57_31, e57_32, e57_33, e57_34, e57_37, e57_40, e57_41, bi_s, tyX, rl1, rl2, rl4, ↓reduceIte, Option.bind_some, true_and, and_true, false_and, and_false, true_or, or_true, false_or, or_false, if_same0, ite_eq0, ite_eq0', ite_eq1, ite_eq1', or_em, or_em', ite_not, lcmp0, lcmpL, lcmpG, nI_cl_b, eb_in_b, nI_1, nI_pred, Int32.reduceToNatClampNeg, eb_u_ap, Prod.mk.injEq, not_true_eq_false, not_false_eq_true, h.1.1, nI_lt_b, Nat.lt_irrefl]
end

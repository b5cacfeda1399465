/-! the class's valleys: scores, choices, crowds -/
section
variable {L d nc ns k i g : Nat} {I : eb_A → Nat → Int32} {J : eb_A → Nat → Int64} {C : Nat → Nat → Nat} {mt mk : Option Nat} {M : eb_M} {R : eb_A → Nat → Option eb_A} {w : eb_W}
theorem max0 {v : Int32} : (if (0 : Int32) < v then v else 0) = if v < 0 then 0 else v := by
  by_cases h : v < 0
  · rw [if_pos h, if_neg (Int32.not_lt.mpr (Int32.le_of_lt h))]
  · by_cases h2 : 0 < v
    · rw [if_pos h2, if_neg h]
    · rw [if_neg h2, if_neg h]
      exact Int32.le_antisymm (Int32.not_lt.mp h) (Int32.not_lt.mp h2)
theorem lt1_iff {v : Int32} : (v < 1) = ¬ 0 < v := by
  rw [Int32.not_lt, Int32.lt_iff_toInt_lt, Int32.le_iff_toInt_le]
  have : (1 : Int32).toInt = 1 := by decide
  have : (0 : Int32).toInt = 0 := by decide
  apply propext; omega
theorem x_scoreOf : eb_ev L (d + 2) 47 [zr (4, k, 0), zr (7, k, g), zr (6, k, i)] (nc, ns, I, J, R) = some (zi (sp_score (I (4, k, 0) 4) (I (6, k, i)) (I (7, k, g)) (I (6, k, i) 4)), (nc, ns, I, J, R)) := by
  rw [h47 rfl]
  simp (decide := true) only [e47_0, e47_2, e47_3, e47_6, e47_7, e47_8, e47_9, e47_12, e47_13, e47_16, e47_17, e47_20, e47_21, e47_22, e47_25, e47_26, e47_27, e47_30, e47_31, e47_32, e47_35, e47_37, e47_38, e47_41, e47_76, e47_77, e47_78, e47_79, e47_82, e47_83, e47_86, e47_87, e47_88, e47_89, e47_90, e47_91, e47_94, e47_95, e47_98, e47_99, e47_102, e47_104, e47_105, e47_108, e47_109, e47_110, e47_111, e47_114, e47_115, e47_118, e47_119, e47_122, e47_123, e47_126, e47_129, e47_130, e47_133, e47_134, e47_137, e47_138, e47_141, e47_143, e47_144, e47_146, bi_s, tyX, rl1, rl2, rl4, ↓reduceIte, Option.bind_some, true_and, and_true, false_and, and_false, true_or, or_true, false_or, or_false, if_same0, ite_eq0, ite_eq0', ite_eq1, ite_eq1', or_em, or_em', ite_not, lcmp0, lcmpL, lcmpG, nI_cl_b, eb_in_b, nI_1, nI_pred, Int32.reduceToNatClampNeg, eb_u_ap, Prod.mk.injEq, not_true_eq_false, not_false_eq_true, eb_sw, sp_score, sp_booked, max0, lt1_iff]
  have hne : 0 < I (6, k, i) 5 → ¬ I (6, k, i) 5 = 0 := fun q e => by rw [e] at q; exact absurd q (by decide)
  by_cases h0 : I (7, k, g) 0 = 0
  · simp only [h0, bi_s, tyX, rl1, rl2, rl4, ↓reduceIte, Option.bind_some, true_and, and_true, false_and, and_false, true_or, or_true, false_or, or_false, if_same0, ite_eq0, ite_eq0', ite_eq1, ite_eq1', or_em, or_em', ite_not, lcmp0, lcmpL, lcmpG, nI_cl_b, eb_in_b, nI_1, nI_pred, Int32.reduceToNatClampNeg, eb_u_ap, Prod.mk.injEq, not_true_eq_false, not_false_eq_true]
  · by_cases h2 : I (7, k, g) 0 = 2
    · by_cases h4 : I (6, k, i) 4 = -1
      · simp (decide := true) only [h4, h2, bi_s, tyX, rl1, rl2, rl4, ↓reduceIte, Option.bind_some, true_and, and_true, false_and, and_false, true_or, or_true, false_or, or_false, if_same0, ite_eq0, ite_eq0', ite_eq1, ite_eq1', or_em, or_em', ite_not, lcmp0, lcmpL, lcmpG, nI_cl_b, eb_in_b, nI_1, nI_pred, Int32.reduceToNatClampNeg, eb_u_ap, Prod.mk.injEq, not_true_eq_false, not_false_eq_true]
      · simp (decide := true) only [h4, h2, bi_s, tyX, rl1, rl2, rl4, ↓reduceIte, Option.bind_some, true_and, and_true, false_and, and_false, true_or, or_true, false_or, or_false, if_same0, ite_eq0, ite_eq0', ite_eq1, ite_eq1', or_em, or_em', ite_not, lcmp0, lcmpL, lcmpG, nI_cl_b, eb_in_b, nI_1, nI_pred, Int32.reduceToNatClampNeg, eb_u_ap, Prod.mk.injEq, not_true_eq_false, not_false_eq_true]
    · by_cases h3 : I (7, k, g) 0 = 3
      · simp (decide := true) only [h3, bi_s, tyX, rl1, rl2, rl4, ↓reduceIte, Option.bind_some, true_and, and_true, false_and, and_false, true_or, or_true, false_or, or_false, if_same0, ite_eq0, ite_eq0', ite_eq1, ite_eq1', or_em, or_em', ite_not, lcmp0, lcmpL, lcmpG, nI_cl_b, eb_in_b, nI_1, nI_pred, Int32.reduceToNatClampNeg, eb_u_ap, Prod.mk.injEq, not_true_eq_false, not_false_eq_true]
      · by_cases h5 : I (7, k, g) 0 = 4
        · by_cases hp : 0 < I (6, k, i) 5
          · by_cases hl : I (6, k, i) 5 < I (7, k, g) 2
            · have hl2 : ¬ I (7, k, g) 2 ≤ I (6, k, i) 5 := Int32.not_le.mpr hl
              by_cases h4 : I (6, k, i) 4 = -1 <;> simp (decide := true) only [h4, h5, hp, hl, hl2, hne hp, bi_s, tyX, rl1, rl2, rl4, ↓reduceIte, Option.bind_some, true_and, and_true, false_and, and_false, true_or, or_true, false_or, or_false, if_same0, ite_eq0, ite_eq0', ite_eq1, ite_eq1', or_em, or_em', ite_not, lcmp0, lcmpL, lcmpG, nI_cl_b, eb_in_b, nI_1, nI_pred, Int32.reduceToNatClampNeg, eb_u_ap, Prod.mk.injEq, not_true_eq_false, not_false_eq_true]
            · have hl2 : I (7, k, g) 2 ≤ I (6, k, i) 5 := Int32.not_lt.mp hl
              by_cases h4 : I (6, k, i) 4 = -1 <;> simp (decide := true) only [h4, h5, hp, hl, hl2, hne hp, bi_s, tyX, rl1, rl2, rl4, ↓reduceIte, Option.bind_some, true_and, and_true, false_and, and_false, true_or, or_true, false_or, or_false, if_same0, ite_eq0, ite_eq0', ite_eq1, ite_eq1', or_em, or_em', ite_not, lcmp0, lcmpL, lcmpG, nI_cl_b, eb_in_b, nI_1, nI_pred, Int32.reduceToNatClampNeg, eb_u_ap, Prod.mk.injEq, not_true_eq_false, not_false_eq_true]
          · by_cases h4 : I (6, k, i) 4 = -1 <;> simp (decide := true) only [h4, h5, hp, bi_s, tyX, rl1, rl2, rl4, ↓reduceIte, Option.bind_some, true_and, and_true, false_and, and_false, true_or, or_true, false_or, or_false, if_same0, ite_eq0, ite_eq0', ite_eq1, ite_eq1', or_em, or_em', ite_not, lcmp0, lcmpL, lcmpG, nI_cl_b, eb_in_b, nI_1, nI_pred, Int32.reduceToNatClampNeg, eb_u_ap, Prod.mk.injEq, not_true_eq_false, not_false_eq_true]
        · by_cases h4 : I (6, k, i) 4 = -1 <;> simp (decide := true) only [h4, h0, h2, h3, h5, bi_s, tyX, rl1, rl2, rl4, ↓reduceIte, Option.bind_some, true_and, and_true, false_and, and_false, true_or, or_true, false_or, or_false, if_same0, ite_eq0, ite_eq0', ite_eq1, ite_eq1', or_em, or_em', ite_not, lcmp0, lcmpL, lcmpG, nI_cl_b, eb_in_b, nI_1, nI_pred, Int32.reduceToNatClampNeg, eb_u_ap, Prod.mk.injEq, not_true_eq_false, not_false_eq_true]
theorem x_firstChoice (h : eb_RX I k w) (hw : sp_ok w) (hg : g < w.2.1) : eb_ev L (d + 3) 48 [zr (4, k, 0), zr (7, k, g)] (nc, ns, I, J, eb_RL C mt mk) = some (zi (sp_enc (sp_choice w g)), (nc, ns, I, J, eb_RL C mt mk)) := by
  have hn := hw.1
  have hs : ∀ i, i < w.1 → sp_score (I (4, k, 0) 4) (I (6, k, i)) (I (7, k, g)) (I (6, k, i) 4) = sp_score (w.2.2.1 0) (w.2.2.2.1 i) (w.2.2.2.2 g) (w.2.2.2.1 i 4) := fun i hi => by
    unfold sp_score
    rw [h.1.2.2.1, h.2.1 i hi 0 (by omega), h.2.1 i hi 3 (by omega), h.2.1 i hi 4 (by omega), h.2.1 i hi 5 (by omega), h.2.1 i hi 6 (by omega), h.2.2 g hg 0 (by omega), h.2.2 g hg 2 (by omega)]
  rw [h48 rfl]
  simp (decide := true) (disch := omega) only [e48_0, e48_1, e48_2, e48_3, e48_4, e48_5, e48_9, e48_10, e48_13, e48_16, e48_17, e48_18, e48_19, e48_22, e48_24, e48_25, e48_28, e48_30, e48_31, e48_32, e48_35, e48_37, e48_38, e48_41, e48_43, e48_44, e48_46, e48_47, e48_50, e48_53, e48_54, bi_s, tyX, rl1, rl2, rl4, ↓reduceIte, Option.bind_some, true_and, and_true, false_and, and_false, true_or, or_true, false_or, or_false, if_same0, ite_eq0, ite_eq0', ite_eq1, ite_eq1', or_em, or_em', ite_not, lcmp0, lcmpL, lcmpG, nI_cl_b, eb_in_b, nI_1, nI_pred, Int32.reduceToNatClampNeg, eb_u_ap, Prod.mk.injEq, not_true_eq_false, not_false_eq_true]
  obtain ⟨s, e, e1, e2⟩ := eb_loop (α := Int32 × Int32 × Option eb_V) (n := w.1) (s0 := (-1, 0, none))
    (F := fun i s => eb_E L (d + 2) 48 7 [some (zr (4, k, 0)), some (zr (7, k, g)), some (zi s.1), some (zi s.2.1), some (zi (nI i)), s.2.2] [] (nc, ns, I, J, eb_RL C mt mk))
    (P := fun i s => s.1 = sp_enc (sp_best (fun _ => true) (fun i => sp_score (w.2.2.1 0) (w.2.2.2.1 i) (w.2.2.2.2 g) (w.2.2.2.1 i 4)) i) ∧ ∀ b, sp_best (fun _ => true) (fun i => sp_score (w.2.2.1 0) (w.2.2.2.1 i) (w.2.2.2.2 g) (w.2.2.2.1 i 4)) i = some b → s.2.1 = sp_score (w.2.2.1 0) (w.2.2.2.1 b) (w.2.2.2.2 g) (w.2.2.2.1 b 4))
    ⟨rfl, by intro b h; cases h⟩ (by
      intro i s hi hP
      obtain ⟨a, b, c⟩ := s
      dsimp only at hP ⊢
      obtain ⟨h1, h2⟩ := hP
      rw [e48_7]
      simp (decide := true) (disch := omega) only [e48_0, e48_1, e48_2, e48_3, e48_4, e48_5, e48_9, e48_10, e48_13, e48_16, e48_17, e48_18, e48_19, e48_22, e48_24, e48_25, e48_28, e48_30, e48_31, e48_32, e48_35, e48_37, e48_38, e48_41, e48_43, e48_44, e48_46, e48_47, e48_50, e48_53, e48_54, bi_s, tyX, rl1, rl2, rl4, ↓reduceIte, Option.bind_some, true_and, and_true, false_and, and_false, true_or, or_true, false_or, or_false, if_same0, ite_eq0, ite_eq0', ite_eq1, ite_eq1', or_em, or_em', ite_not, lcmp0, lcmpL, lcmpG, nI_cl_b, eb_in_b, nI_1, nI_pred, Int32.reduceToNatClampNeg, eb_u_ap, Prod.mk.injEq, not_true_eq_false, not_false_eq_true, h.1.1, nI_lt_b, hi, x_scoreOf, hs i hi]
      cases hb : sp_best (fun _ => true) (fun i => sp_score (w.2.2.1 0) (w.2.2.2.1 i) (w.2.2.2.2 g) (w.2.2.2.1 i 4)) i with
      | none =>
        rw [hb] at h1
        simp (decide := true) only [h1, sp_enc, bi_s, tyX, rl1, rl2, rl4, ↓reduceIte, Option.bind_some, true_and, and_true, false_and, and_false, true_or, or_true, false_or, or_false, if_same0, ite_eq0, ite_eq0', ite_eq1, ite_eq1', or_em, or_em', ite_not, lcmp0, lcmpL, lcmpG, nI_cl_b, eb_in_b, nI_1, nI_pred, Int32.reduceToNatClampNeg, eb_u_ap, Prod.mk.injEq, not_true_eq_false, not_false_eq_true, sp_best, hb]
        exact ⟨(_, _, _), rfl, rfl, fun b h => by cases h; rfl⟩
      | some q =>
        have hq := (sp_best_lt hb).1
        rw [hb] at h1
        have h3 := h2 q hb
        simp only [h1, h3, sp_enc, bi_s, tyX, rl1, rl2, rl4, ↓reduceIte, Option.bind_some, true_and, and_true, false_and, and_false, true_or, or_true, false_or, or_false, if_same0, ite_eq0, ite_eq0', ite_eq1, ite_eq1', or_em, or_em', ite_not, lcmp0, lcmpL, lcmpG, nI_cl_b, eb_in_b, nI_1, nI_pred, Int32.reduceToNatClampNeg, eb_u_ap, Prod.mk.injEq, not_true_eq_false, not_false_eq_true, sp_best, hb]
        simp (disch := omega) only [nI_m1, bi_s, tyX, rl1, rl2, rl4, ↓reduceIte, Option.bind_some, true_and, and_true, false_and, and_false, true_or, or_true, false_or, or_false, if_same0, ite_eq0, ite_eq0', ite_eq1, ite_eq1', or_em, or_em', ite_not, lcmp0, lcmpL, lcmpG, nI_cl_b, eb_in_b, nI_1, nI_pred, Int32.reduceToNatClampNeg, eb_u_ap, Prod.mk.injEq, not_true_eq_false, not_false_eq_true]
        split
        · exact ⟨(_, _, _), rfl, rfl, fun b h => by cases h; rfl⟩
        · exact ⟨(_, _, _), rfl, rfl, fun b h => by cases h; rfl⟩)
  simp only [nI_0] at e
  rw [e, e48_7]
  simp (decide := true) (disch := omega) only [e48_0, e48_1, e48_2, e48_3, e48_4, e48_5, e48_9, e48_10, e48_13, e48_16, e48_17, e48_18, e48_19, e48_22, e48_24, e48_25, e48_28, e48_30, e48_31, e48_32, e48_35, e48_37, e48_38, e48_41, e48_43, e48_44, e48_46, e48_47, e48_50, e48_53, e48_54, bi_s, tyX, rl1, rl2, rl4, ↓reduceIte, Option.bind_some, true_and, and_true, false_and, and_false, true_or, or_true, false_or, or_false, if_same0, ite_eq0, ite_eq0', ite_eq1, ite_eq1', or_em, or_em', ite_not, lcmp0, lcmpL, lcmpG, nI_cl_b, eb_in_b, nI_1, nI_pred, Int32.reduceToNatClampNeg, eb_u_ap, Prod.mk.injEq, not_true_eq_false, not_false_eq_true, h.1.1, nI_lt_b, Nat.lt_irrefl, e1]
  rfl
end

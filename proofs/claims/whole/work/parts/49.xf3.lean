/-! the class's faces: the valley in truth, told and changed -/
section
variable {L d nc ns k i g : Nat} {I : eb_A → Nat → Int32} {J : eb_A → Nat → Int64} {C : Nat → Nat → Nat} {mt mk : Option Nat} {w : eb_W} {R : eb_A → Nat → Option eb_A} {S : eb_St} {M : eb_M}
theorem RX_setI {f : Nat} {v : Int32} (h : eb_RX I k w) (hf : f < 7) : eb_RX (eb_u I (6, k, i) f v) k (sp_setI w i f v) ∧ eb_fr k I (eb_u I (6, k, i) f v) := by
  refine ⟨⟨?_, fun j hj l hl => ?_, fun j hj l hl => ?_⟩, eb_fr_u ⟨rfl, Nat.le_of_ble_eq_true rfl, Nat.le_of_ble_eq_true rfl⟩⟩
  · simp only [eb_u, Prod.mk.injEq, Nat.reduceEqDiff, false_and, if_false]
    exact h.1
  · have q := h.2.1 j hj l hl
    show (if ((6, k, j) : eb_A) = (6, k, i) ∧ l = f then v else I (6, k, j) l) = sp_up w.2.2.2.1 i (sp_up (w.2.2.2.1 i) f v) j l
    by_cases e : j = i
    · subst e
      by_cases e2 : l = f
      · simp [sp_up, e2]
      · simp [sp_up, e2, q]
    · simp [sp_up, e, q]
  · simp only [eb_u, Prod.mk.injEq, Nat.reduceEqDiff, false_and, if_false]
    exact h.2.2 j hj l hl
theorem RX_setG {f : Nat} {v : Int32} (h : eb_RX I k w) : eb_RX (eb_u I (7, k, i) f v) k (sp_setG w i f v) ∧ eb_fr k I (eb_u I (7, k, i) f v) := by
  refine ⟨⟨?_, fun j hj l hl => ?_, fun j hj l hl => ?_⟩, eb_fr_u ⟨rfl, Nat.le_of_ble_eq_true rfl, Nat.le_of_ble_eq_true rfl⟩⟩
  · simp only [eb_u, Prod.mk.injEq, Nat.reduceEqDiff, false_and, if_false]
    exact h.1
  · simp only [eb_u, Prod.mk.injEq, Nat.reduceEqDiff, false_and, if_false]
    exact h.2.1 j hj l hl
  · have q := h.2.2 j hj l hl
    show (if ((7, k, j) : eb_A) = (7, k, i) ∧ l = f then v else I (7, k, j) l) = sp_up w.2.2.2.2 i (sp_up (w.2.2.2.2 i) f v) j l
    by_cases e : j = i
    · subst e
      by_cases e2 : l = f
      · simp [sp_up, e2]
      · simp [sp_up, e2, q]
    · simp [sp_up, e, q]
theorem RX_setA {v : Int32} (h : eb_RX I k w) : eb_RX (eb_u I (4, k, 0) 4 v) k (sp_setS w 0 v) ∧ eb_fr k I (eb_u I (4, k, 0) 4 v) := by
  refine ⟨⟨?_, fun j hj l hl => ?_, fun j hj l hl => ?_⟩, eb_fr_u ⟨rfl, Nat.le_of_ble_eq_true rfl, Nat.le_of_ble_eq_true rfl⟩⟩
  · obtain ⟨h1, h2, h3, h4, h5⟩ := h.1
    simp [eb_u, sp_setS, sp_up, h1, h2, h4, h5]
  · simp only [eb_u, Prod.mk.injEq, Nat.reduceEqDiff, false_and, if_false]
    exact h.2.1 j hj l hl
  · simp only [eb_u, Prod.mk.injEq, Nat.reduceEqDiff, false_and, if_false]
    exact h.2.2 j hj l hl
theorem RX_setD {v : Int32} (h : eb_RX I k w) : eb_RX (eb_u I (4, k, 0) 6 v) k (sp_setS w 2 v) ∧ eb_fr k I (eb_u I (4, k, 0) 6 v) := by
  refine ⟨⟨?_, fun j hj l hl => ?_, fun j hj l hl => ?_⟩, eb_fr_u ⟨rfl, Nat.le_of_ble_eq_true rfl, Nat.le_of_ble_eq_true rfl⟩⟩
  · obtain ⟨h1, h2, h3, h4, h5⟩ := h.1
    simp [eb_u, sp_setS, sp_up, h1, h2, h3, h4]
  · simp only [eb_u, Prod.mk.injEq, Nat.reduceEqDiff, false_and, if_false]
    exact h.2.1 j hj l hl
  · simp only [eb_u, Prod.mk.injEq, Nat.reduceEqDiff, false_and, if_false]
    exact h.2.2 j hj l hl
/-- how a call ends that changes the valley in truth -/
theorem fx_w {I' : eb_A → Nat → Int32} {w : eb_W} (h : eb_XS S I J) (q : eb_RX I' 0 w ∧ eb_fr 0 I I') : eb_XS (sp_toW S w) I' J ∧ eb_fX I I' ∧ eb_fJ J J := ⟨eb_XS_w h q.2 q.1, eb_fX_fr q.2, eb_fJ_rf⟩
theorem xf_inn (ok : sp_St S) {a b c : Int32} : eb_FX L (d + 5) 75 [zi a, zi b, zi c] S (sf_inn S a b c).2 (zi (sf_inn S a b c).1) := by
  intro nc ns I J C mt mk h
  rw [h75 rfl]
  unfold sf_inn
  by_cases c1 : sp_rg a 0 100 <;> by_cases c2 : sp_rg b 1 20 <;> by_cases c3 : sp_rg c 0 99
  · rw [if_neg (fun q => q ⟨c1, c2, c3⟩)]
    by_cases c4 : S.1.1 = 6
    · rw [if_pos c4]
      have e := x_addInn_full (L := L) (d := d + 2) (nc := nc) (ns := ns) (J := J) (C := C) (mt := mt) (mk := mk) h.1 c4 (x := a) (y := b) (z := c)
      simp (decide := true) (disch := omega) only [e75_0, e75_1, e75_4, e75_7, e75_8, e75_9, e75_11, e75_14, e75_17, e75_18, e75_19, e75_21, e75_24, e75_27, e75_28, e75_30, e75_33, e75_34, e75_35, e75_38, e75_39, e75_40, e75_41, e75_44, e75_46, e75_48, e75_49, e75_52, e75_53, e75_55, e75_58, e75_61, e75_63, bi_s, tyX, rl1, rl2, rl4, ↓reduceIte, Option.bind_some, true_and, and_true, false_and, and_false, true_or, or_true, false_or, or_false, if_same0, ite_eq0, ite_eq0', ite_eq1, ite_eq1', or_em, or_em', ite_not, lcmp0, lcmpL, lcmpG, nI_cl_b, eb_in_b, nI_1, nI_pred, Int32.reduceToNatClampNeg, eb_u_ap, Prod.mk.injEq, not_true_eq_false, not_false_eq_true, sp_rg, sp_iI, sp_iG, sp_iS, x_isGood, x_within, c1, c2, c3, e, x_refuse4]
      exact ⟨_, J, C, rfl, fx_rf h (by omega)⟩
    · rw [if_neg c4]
      have := ok.1.1
      obtain ⟨I1, e, e1, e2⟩ := x_addInn (L := L) (d := d + 2) (nc := nc) (ns := ns) (J := J) (C := C) (mt := mt) (mk := mk) h.1 (show S.1.1 < 6 by omega) (x := a) (y := b) (z := c)
      simp (decide := true) (disch := omega) only [e75_0, e75_1, e75_4, e75_7, e75_8, e75_9, e75_11, e75_14, e75_17, e75_18, e75_19, e75_21, e75_24, e75_27, e75_28, e75_30, e75_33, e75_34, e75_35, e75_38, e75_39, e75_40, e75_41, e75_44, e75_46, e75_48, e75_49, e75_52, e75_53, e75_55, e75_58, e75_61, e75_63, bi_s, tyX, rl1, rl2, rl4, ↓reduceIte, Option.bind_some, true_and, and_true, false_and, and_false, true_or, or_true, false_or, or_false, if_same0, ite_eq0, ite_eq0', ite_eq1, ite_eq1', or_em, or_em', ite_not, lcmp0, lcmpL, lcmpG, nI_cl_b, eb_in_b, nI_1, nI_pred, Int32.reduceToNatClampNeg, eb_u_ap, Prod.mk.injEq, not_true_eq_false, not_false_eq_true, sp_rg, sp_iI, sp_iG, sp_iS, x_isGood, x_within, c1, c2, c3, e, nI_m1]
      exact ⟨_, J, C, rfl, fx_w h ⟨e1, e2⟩⟩
  all_goals
    rw [if_pos (fun q => by first | exact c1 q.1 | exact c2 q.2.1 | exact c3 q.2.2)]
    simp (decide := true) (disch := omega) only [e75_0, e75_1, e75_4, e75_7, e75_8, e75_9, e75_11, e75_14, e75_17, e75_18, e75_19, e75_21, e75_24, e75_27, e75_28, e75_30, e75_33, e75_34, e75_35, e75_38, e75_39, e75_40, e75_41, e75_44, e75_46, e75_48, e75_49, e75_52, e75_53, e75_55, e75_58, e75_61, e75_63, bi_s, tyX, rl1, rl2, rl4, ↓reduceIte, Option.bind_some, true_and, and_true, false_and, and_false, true_or, or_true, false_or, or_false, if_same0, ite_eq0, ite_eq0', ite_eq1, ite_eq1', or_em, or_em', ite_not, lcmp0, lcmpL, lcmpG, nI_cl_b, eb_in_b, nI_1, nI_pred, Int32.reduceToNatClampNeg, eb_u_ap, Prod.mk.injEq, not_true_eq_false, not_false_eq_true, sp_rg, sp_iI, sp_iG, sp_iS, x_isGood, x_within, c1, c2, c3, x_refuse0]
    exact ⟨_, J, C, rfl, fx_rf h (by omega)⟩
theorem xf_goer (ok : sp_St S) {a b c : Int32} : eb_FX L (d + 5) 76 [zi a, zi b, zi c] S (sf_goer S a b c).2 (zi (sf_goer S a b c).1) := by
  intro nc ns I J C mt mk h
  rw [h76 rfl]
  unfold sf_goer
  by_cases c1 : sp_rg a 0 5 <;> by_cases c2 : sp_rg b 1 30 <;> by_cases c3 : sp_rg c 0 99
  · rw [if_neg (fun q => q ⟨c1, c2, c3⟩)]
    by_cases c4 : S.1.2.1 = 6
    · rw [if_pos c4]
      have e := x_addGoer_full (L := L) (d := d + 2) (nc := nc) (ns := ns) (J := J) (C := C) (mt := mt) (mk := mk) h.1 c4 (x := a) (y := b) (z := c)
      simp (decide := true) (disch := omega) only [e76_0, e76_1, e76_2, e76_3, e76_6, e76_9, e76_10, e76_11, e76_13, e76_16, e76_19, e76_20, e76_21, e76_23, e76_26, e76_29, e76_30, e76_32, e76_35, e76_36, e76_37, e76_40, e76_41, e76_42, e76_43, e76_46, e76_48, e76_50, e76_51, e76_54, e76_55, e76_57, e76_60, e76_63, e76_65, bi_s, tyX, rl1, rl2, rl4, ↓reduceIte, Option.bind_some, true_and, and_true, false_and, and_false, true_or, or_true, false_or, or_false, if_same0, ite_eq0, ite_eq0', ite_eq1, ite_eq1', or_em, or_em', ite_not, lcmp0, lcmpL, lcmpG, nI_cl_b, eb_in_b, nI_1, nI_pred, Int32.reduceToNatClampNeg, eb_u_ap, Prod.mk.injEq, not_true_eq_false, not_false_eq_true, sp_rg, sp_iI, sp_iG, sp_iS, x_within, c1, c2, c3, e, x_refuse4]
      exact ⟨_, J, C, rfl, fx_rf h (by omega)⟩
    · rw [if_neg c4]
      have := ok.1.2.1
      obtain ⟨I1, e, e1, e2⟩ := x_addGoer (L := L) (d := d + 2) (nc := nc) (ns := ns) (J := J) (C := C) (mt := mt) (mk := mk) h.1 (show S.1.2.1 < 6 by omega) (x := a) (y := b) (z := c)
      simp (decide := true) (disch := omega) only [e76_0, e76_1, e76_2, e76_3, e76_6, e76_9, e76_10, e76_11, e76_13, e76_16, e76_19, e76_20, e76_21, e76_23, e76_26, e76_29, e76_30, e76_32, e76_35, e76_36, e76_37, e76_40, e76_41, e76_42, e76_43, e76_46, e76_48, e76_50, e76_51, e76_54, e76_55, e76_57, e76_60, e76_63, e76_65, bi_s, tyX, rl1, rl2, rl4, ↓reduceIte, Option.bind_some, true_and, and_true, false_and, and_false, true_or, or_true, false_or, or_false, if_same0, ite_eq0, ite_eq0', ite_eq1, ite_eq1', or_em, or_em', ite_not, lcmp0, lcmpL, lcmpG, nI_cl_b, eb_in_b, nI_1, nI_pred, Int32.reduceToNatClampNeg, eb_u_ap, Prod.mk.injEq, not_true_eq_false, not_false_eq_true, sp_rg, sp_iI, sp_iG, sp_iS, x_within, c1, c2, c3, e, nI_m1]
      exact ⟨_, J, C, rfl, fx_w h ⟨e1, e2⟩⟩
  all_goals
    rw [if_pos (fun q => by first | exact c1 q.1 | exact c2 q.2.1 | exact c3 q.2.2)]
    simp (decide := true) (disch := omega) only [e76_0, e76_1, e76_2, e76_3, e76_6, e76_9, e76_10, e76_11, e76_13, e76_16, e76_19, e76_20, e76_21, e76_23, e76_26, e76_29, e76_30, e76_32, e76_35, e76_36, e76_37, e76_40, e76_41, e76_42, e76_43, e76_46, e76_48, e76_50, e76_51, e76_54, e76_55, e76_57, e76_60, e76_63, e76_65, bi_s, tyX, rl1, rl2, rl4, ↓reduceIte, Option.bind_some, true_and, and_true, false_and, and_false, true_or, or_true, false_or, or_false, if_same0, ite_eq0, ite_eq0', ite_eq1, ite_eq1', or_em, or_em', ite_not, lcmp0, lcmpL, lcmpG, nI_cl_b, eb_in_b, nI_1, nI_pred, Int32.reduceToNatClampNeg, eb_u_ap, Prod.mk.injEq, not_true_eq_false, not_false_eq_true, sp_rg, sp_iI, sp_iG, sp_iS, x_within, c1, c2, c3, x_refuse0]
    exact ⟨_, J, C, rfl, fx_rf h (by omega)⟩
theorem xf_change (ok : sp_St S) {a b c : Int32} : eb_FX L (d + 5) 77 [zi a, zi b, zi c] S (sf_change S a b c).2 (zi (sf_change S a b c).1) := by
  intro nc ns I J C mt mk h
  rw [h77 rfl]
  unfold sf_change
  have hI := x_isInn (L := L) (d := d + 2) (nc := nc) (ns := ns) (J := J) (C := C) (mt := mt) (mk := mk) (x := a) h.1 ok.1
  have hn := ok.1.1
  by_cases c1 : sp_iI S.1 a
  · rw [if_pos c1] at hI
    obtain ⟨i, hi, rfl⟩ := rg_nat (by omega) c1
    by_cases c2 : sp_rg b 0 1
    · by_cases c4 : b = 0
      · subst c4
        by_cases c3 : sp_rg c 0 100
        · rw [if_pos ⟨c1, c2, c3⟩]
          have k0 := h.1.2.1 i hi 0 (by omega)
          simp (decide := true) (disch := omega) only [e77_0, e77_1, e77_2, e77_5, e77_8, e77_9, e77_10, e77_11, e77_14, e77_17, e77_18, e77_19, e77_20, e77_23, e77_25, e77_28, e77_30, e77_33, e77_36, e77_37, e77_39, e77_42, e77_43, e77_44, e77_47, e77_50, e77_51, e77_52, e77_54, e77_55, e77_58, e77_60, e77_63, e77_66, e77_68, e77_71, e77_73, e77_74, e77_77, e77_79, e77_80, e77_83, e77_86, e77_88, e77_89, e77_92, e77_94, bi_s, tyX, rl1, rl2, rl4, ↓reduceIte, Option.bind_some, true_and, and_true, false_and, and_false, true_or, or_true, false_or, or_false, if_same0, ite_eq0, ite_eq0', ite_eq1, ite_eq1', or_em, or_em', ite_not, lcmp0, lcmpL, lcmpG, nI_cl_b, eb_in_b, nI_1, nI_pred, Int32.reduceToNatClampNeg, eb_u_ap, Prod.mk.injEq, not_true_eq_false, not_false_eq_true, sp_rg, sp_iI, sp_iG, sp_iS, hI, x_within, c3, k0, tn]
          exact ⟨_, J, C, rfl, fx_w h (RX_setI h.1 (by omega))⟩
        · rw [if_neg (fun q => c3 q.2.2)]
          simp (decide := true) (disch := omega) only [e77_0, e77_1, e77_2, e77_5, e77_8, e77_9, e77_10, e77_11, e77_14, e77_17, e77_18, e77_19, e77_20, e77_23, e77_25, e77_28, e77_30, e77_33, e77_36, e77_37, e77_39, e77_42, e77_43, e77_44, e77_47, e77_50, e77_51, e77_52, e77_54, e77_55, e77_58, e77_60, e77_63, e77_66, e77_68, e77_71, e77_73, e77_74, e77_77, e77_79, e77_80, e77_83, e77_86, e77_88, e77_89, e77_92, e77_94, bi_s, tyX, rl1, rl2, rl4, ↓reduceIte, Option.bind_some, true_and, and_true, false_and, and_false, true_or, or_true, false_or, or_false, if_same0, ite_eq0, ite_eq0', ite_eq1, ite_eq1', or_em, or_em', ite_not, lcmp0, lcmpL, lcmpG, nI_cl_b, eb_in_b, nI_1, nI_pred, Int32.reduceToNatClampNeg, eb_u_ap, Prod.mk.injEq, not_true_eq_false, not_false_eq_true, sp_rg, sp_iI, sp_iG, sp_iS, hI, x_within, c3, x_refuse0]
          exact ⟨_, J, C, rfl, fx_rf h (by omega)⟩
      · by_cases c3 : sp_rg c 0 99
        · rw [if_pos ⟨c1, c2, by rw [if_neg c4]; exact c3⟩]
          have k0 := h.1.2.1 i hi 3 (by omega)
          simp (decide := true) (disch := omega) only [e77_0, e77_1, e77_2, e77_5, e77_8, e77_9, e77_10, e77_11, e77_14, e77_17, e77_18, e77_19, e77_20, e77_23, e77_25, e77_28, e77_30, e77_33, e77_36, e77_37, e77_39, e77_42, e77_43, e77_44, e77_47, e77_50, e77_51, e77_52, e77_54, e77_55, e77_58, e77_60, e77_63, e77_66, e77_68, e77_71, e77_73, e77_74, e77_77, e77_79, e77_80, e77_83, e77_86, e77_88, e77_89, e77_92, e77_94, bi_s, tyX, rl1, rl2, rl4, ↓reduceIte, Option.bind_some, true_and, and_true, false_and, and_false, true_or, or_true, false_or, or_false, if_same0, ite_eq0, ite_eq0', ite_eq1, ite_eq1', or_em, or_em', ite_not, lcmp0, lcmpL, lcmpG, nI_cl_b, eb_in_b, nI_1, nI_pred, Int32.reduceToNatClampNeg, eb_u_ap, Prod.mk.injEq, not_true_eq_false, not_false_eq_true, sp_rg, sp_iI, sp_iG, sp_iS, hI, x_within, c2, c3, c4, k0, tn]
          exact ⟨_, J, C, rfl, fx_w h (RX_setI h.1 (by omega))⟩
        · rw [if_neg (fun q => c3 (by rw [if_neg c4] at q; exact q.2.2))]
          simp (decide := true) (disch := omega) only [e77_0, e77_1, e77_2, e77_5, e77_8, e77_9, e77_10, e77_11, e77_14, e77_17, e77_18, e77_19, e77_20, e77_23, e77_25, e77_28, e77_30, e77_33, e77_36, e77_37, e77_39, e77_42, e77_43, e77_44, e77_47, e77_50, e77_51, e77_52, e77_54, e77_55, e77_58, e77_60, e77_63, e77_66, e77_68, e77_71, e77_73, e77_74, e77_77, e77_79, e77_80, e77_83, e77_86, e77_88, e77_89, e77_92, e77_94, bi_s, tyX, rl1, rl2, rl4, ↓reduceIte, Option.bind_some, true_and, and_true, false_and, and_false, true_or, or_true, false_or, or_false, if_same0, ite_eq0, ite_eq0', ite_eq1, ite_eq1', or_em, or_em', ite_not, lcmp0, lcmpL, lcmpG, nI_cl_b, eb_in_b, nI_1, nI_pred, Int32.reduceToNatClampNeg, eb_u_ap, Prod.mk.injEq, not_true_eq_false, not_false_eq_true, sp_rg, sp_iI, sp_iG, sp_iS, hI, x_within, c2, c3, c4, x_refuse0]
          exact ⟨_, J, C, rfl, fx_rf h (by omega)⟩
    · rw [if_neg (fun q => c2 q.2.1)]
      simp (decide := true) (disch := omega) only [e77_0, e77_1, e77_2, e77_5, e77_8, e77_9, e77_10, e77_11, e77_14, e77_17, e77_18, e77_19, e77_20, e77_23, e77_25, e77_28, e77_30, e77_33, e77_36, e77_37, e77_39, e77_42, e77_43, e77_44, e77_47, e77_50, e77_51, e77_52, e77_54, e77_55, e77_58, e77_60, e77_63, e77_66, e77_68, e77_71, e77_73, e77_74, e77_77, e77_79, e77_80, e77_83, e77_86, e77_88, e77_89, e77_92, e77_94, bi_s, tyX, rl1, rl2, rl4, ↓reduceIte, Option.bind_some, true_and, and_true, false_and, and_false, true_or, or_true, false_or, or_false, if_same0, ite_eq0, ite_eq0', ite_eq1, ite_eq1', or_em, or_em', ite_not, lcmp0, lcmpL, lcmpG, nI_cl_b, eb_in_b, nI_1, nI_pred, Int32.reduceToNatClampNeg, eb_u_ap, Prod.mk.injEq, not_true_eq_false, not_false_eq_true, sp_rg, sp_iI, sp_iG, sp_iS, hI, x_within, c2, x_refuse0]
      exact ⟨_, J, C, rfl, fx_rf h (by omega)⟩
  · rw [if_neg c1] at hI
    rw [if_neg (fun q => c1 q.1)]
    simp (decide := true) (disch := omega) only [e77_0, e77_1, e77_2, e77_5, e77_8, e77_9, e77_10, e77_11, e77_14, e77_17, e77_18, e77_19, e77_20, e77_23, e77_25, e77_28, e77_30, e77_33, e77_36, e77_37, e77_39, e77_42, e77_43, e77_44, e77_47, e77_50, e77_51, e77_52, e77_54, e77_55, e77_58, e77_60, e77_63, e77_66, e77_68, e77_71, e77_73, e77_74, e77_77, e77_79, e77_80, e77_83, e77_86, e77_88, e77_89, e77_92, e77_94, bi_s, tyX, rl1, rl2, rl4, ↓reduceIte, Option.bind_some, true_and, and_true, false_and, and_false, true_or, or_true, false_or, or_false, if_same0, ite_eq0, ite_eq0', ite_eq1, ite_eq1', or_em, or_em', ite_not, lcmp0, lcmpL, lcmpG, nI_cl_b, eb_in_b, nI_1, nI_pred, Int32.reduceToNatClampNeg, eb_u_ap, Prod.mk.injEq, not_true_eq_false, not_false_eq_true, sp_rg, sp_iI, sp_iG, sp_iS, hI, x_refuse0]
    exact ⟨_, J, C, rfl, fx_rf h (by omega)⟩
theorem xf_say (ok : sp_St S) {a b : Int32} : eb_FX L (d + 5) 78 [zi a, zi b] S (sf_say S a b).2 (zi (sf_say S a b).1) := by
  intro nc ns I J C mt mk h
  rw [h78 rfl]
  unfold sf_say
  have hI := x_isInn (L := L) (d := d + 2) (nc := nc) (ns := ns) (J := J) (C := C) (mt := mt) (mk := mk) (x := a) h.1 ok.1
  have hn := ok.1.1
  by_cases c1 : sp_iI S.1 a
  · rw [if_pos c1] at hI
    obtain ⟨i, hi, rfl⟩ := rg_nat (by omega) c1
    have k0 := h.1.2.1 i hi 4 (by omega)
    by_cases c2 : b = -1
    · rw [if_pos ⟨c1, Or.inl c2⟩]
      subst c2
      simp (decide := true) (disch := omega) only [e78_0, e78_1, e78_2, e78_5, e78_8, e78_9, e78_10, e78_13, e78_14, e78_17, e78_20, e78_21, e78_23, e78_26, e78_27, e78_28, e78_31, e78_34, e78_35, e78_36, e78_39, e78_40, e78_41, e78_44, e78_47, e78_48, e78_49, e78_50, e78_53, e78_54, bi_s, tyX, rl1, rl2, rl4, ↓reduceIte, Option.bind_some, true_and, and_true, false_and, and_false, true_or, or_true, false_or, or_false, if_same0, ite_eq0, ite_eq0', ite_eq1, ite_eq1', or_em, or_em', ite_not, lcmp0, lcmpL, lcmpG, nI_cl_b, eb_in_b, nI_1, nI_pred, Int32.reduceToNatClampNeg, eb_u_ap, Prod.mk.injEq, not_true_eq_false, not_false_eq_true, sp_rg, sp_iI, sp_iG, sp_iS, hI, k0, tn]
      exact ⟨_, J, C, rfl, fx_w h (RX_setI h.1 (by omega))⟩
    · by_cases c3 : sp_rg b 0 100
      · rw [if_pos ⟨c1, Or.inr c3⟩]
        simp (decide := true) (disch := omega) only [e78_0, e78_1, e78_2, e78_5, e78_8, e78_9, e78_10, e78_13, e78_14, e78_17, e78_20, e78_21, e78_23, e78_26, e78_27, e78_28, e78_31, e78_34, e78_35, e78_36, e78_39, e78_40, e78_41, e78_44, e78_47, e78_48, e78_49, e78_50, e78_53, e78_54, bi_s, tyX, rl1, rl2, rl4, ↓reduceIte, Option.bind_some, true_and, and_true, false_and, and_false, true_or, or_true, false_or, or_false, if_same0, ite_eq0, ite_eq0', ite_eq1, ite_eq1', or_em, or_em', ite_not, lcmp0, lcmpL, lcmpG, nI_cl_b, eb_in_b, nI_1, nI_pred, Int32.reduceToNatClampNeg, eb_u_ap, Prod.mk.injEq, not_true_eq_false, not_false_eq_true, sp_rg, sp_iI, sp_iG, sp_iS, hI, x_isGood, c2, c3, k0, tn]
        exact ⟨_, J, C, rfl, fx_w h (RX_setI h.1 (by omega))⟩
      · rw [if_neg (fun q => q.2.elim c2 c3)]
        simp (decide := true) (disch := omega) only [e78_0, e78_1, e78_2, e78_5, e78_8, e78_9, e78_10, e78_13, e78_14, e78_17, e78_20, e78_21, e78_23, e78_26, e78_27, e78_28, e78_31, e78_34, e78_35, e78_36, e78_39, e78_40, e78_41, e78_44, e78_47, e78_48, e78_49, e78_50, e78_53, e78_54, bi_s, tyX, rl1, rl2, rl4, ↓reduceIte, Option.bind_some, true_and, and_true, false_and, and_false, true_or, or_true, false_or, or_false, if_same0, ite_eq0, ite_eq0', ite_eq1, ite_eq1', or_em, or_em', ite_not, lcmp0, lcmpL, lcmpG, nI_cl_b, eb_in_b, nI_1, nI_pred, Int32.reduceToNatClampNeg, eb_u_ap, Prod.mk.injEq, not_true_eq_false, not_false_eq_true, sp_rg, sp_iI, sp_iG, sp_iS, hI, x_isGood, c2, c3, x_refuse0]
        exact ⟨_, J, C, rfl, fx_rf h (by omega)⟩
  · rw [if_neg c1] at hI
    rw [if_neg (fun q => c1 q.1)]
    simp (decide := true) (disch := omega) only [e78_0, e78_1, e78_2, e78_5, e78_8, e78_9, e78_10, e78_13, e78_14, e78_17, e78_20, e78_21, e78_23, e78_26, e78_27, e78_28, e78_31, e78_34, e78_35, e78_36, e78_39, e78_40, e78_41, e78_44, e78_47, e78_48, e78_49, e78_50, e78_53, e78_54, bi_s, tyX, rl1, rl2, rl4, ↓reduceIte, Option.bind_some, true_and, and_true, false_and, and_false, true_or, or_true, false_or, or_false, if_same0, ite_eq0, ite_eq0', ite_eq1, ite_eq1', or_em, or_em', ite_not, lcmp0, lcmpL, lcmpG, nI_cl_b, eb_in_b, nI_1, nI_pred, Int32.reduceToNatClampNeg, eb_u_ap, Prod.mk.injEq, not_true_eq_false, not_false_eq_true, sp_rg, sp_iI, sp_iG, sp_iS, hI, x_refuse0]
    exact ⟨_, J, C, rfl, fx_rf h (by omega)⟩
theorem xf_write (ok : sp_St S) {a : Int32} : eb_FX L (d + 5) 79 [zi a] S (sf_write S a).2 (zi (sf_write S a).1) := by
  intro nc ns I J C mt mk h
  rw [h79 rfl]
  unfold sf_write
  have hI := x_isSet (L := L) (d := d + 2) (nc := nc) (ns := ns) (J := J) (C := C) (mt := mt) (mk := mk) (x := a) h.1 ok.1
  by_cases c1 : sp_iS S.1 a
  · rw [if_pos c1] at hI
    rw [if_pos c1]
    obtain ⟨I1, e, e1, e2⟩ := x_writeBook (L := L) (d := d + 3) (nc := nc) (ns := ns) (J := J) (C := C) (mt := mt) (mk := mk) h.1 ok.1 (set := a)
    simp (decide := true) (disch := omega) only [e79_0, e79_1, e79_2, e79_5, e79_8, e79_9, e79_12, e79_13, e79_16, e79_19, e79_20, e79_22, e79_25, bi_s, tyX, rl1, rl2, rl4, ↓reduceIte, Option.bind_some, true_and, and_true, false_and, and_false, true_or, or_true, false_or, or_false, if_same0, ite_eq0, ite_eq0', ite_eq1, ite_eq1', or_em, or_em', ite_not, lcmp0, lcmpL, lcmpG, nI_cl_b, eb_in_b, nI_1, nI_pred, Int32.reduceToNatClampNeg, eb_u_ap, Prod.mk.injEq, not_true_eq_false, not_false_eq_true, sp_rg, sp_iI, sp_iG, sp_iS, hI, e]
    exact ⟨_, J, C, rfl, fx_w h ⟨e1, eb_wb_fr e2⟩⟩
  · rw [if_neg c1] at hI
    rw [if_neg c1]
    simp (decide := true) (disch := omega) only [e79_0, e79_1, e79_2, e79_5, e79_8, e79_9, e79_12, e79_13, e79_16, e79_19, e79_20, e79_22, e79_25, bi_s, tyX, rl1, rl2, rl4, ↓reduceIte, Option.bind_some, true_and, and_true, false_and, and_false, true_or, or_true, false_or, or_false, if_same0, ite_eq0, ite_eq0', ite_eq1, ite_eq1', or_em, or_em', ite_not, lcmp0, lcmpL, lcmpG, nI_cl_b, eb_in_b, nI_1, nI_pred, Int32.reduceToNatClampNeg, eb_u_ap, Prod.mk.injEq, not_true_eq_false, not_false_eq_true, sp_rg, sp_iI, sp_iG, sp_iS, hI, x_refuse0]
    exact ⟨_, J, C, rfl, fx_rf h (by omega)⟩
theorem xf_letter (ok : sp_St S) {a b : Int32} : eb_FX L (d + 5) 80 [zi a, zi b] S (sf_letter S a b).2 (zi (sf_letter S a b).1) := by
  intro nc ns I J C mt mk h
  rw [h80 rfl]
  unfold sf_letter
  have hI := x_isInn (L := L) (d := d + 2) (nc := nc) (ns := ns) (J := J) (C := C) (mt := mt) (mk := mk) (x := a) h.1 ok.1
  have hn := ok.1.1
  by_cases c1 : sp_iI S.1 a
  · rw [if_pos c1] at hI
    obtain ⟨i, hi, rfl⟩ := rg_nat (by omega) c1
    have k5 := h.1.2.1 i hi 5 (by omega)
    have k6 := h.1.2.1 i hi 6 (by omega)
    by_cases c2 : sp_rg b 0 100
    · rw [if_neg (fun q => q ⟨c1, c2⟩)]
      rw [show tn (nI i) = i from nI_cl_b (by omega)]
      by_cases c3 : S.1.2.2.2.1 i 5 < 99
      · rw [if_pos c3]
        simp (decide := true) (disch := omega) only [e80_0, e80_1, e80_2, e80_5, e80_8, e80_9, e80_12, e80_15, e80_16, e80_18, e80_21, e80_22, e80_23, e80_26, e80_29, e80_30, e80_31, e80_32, e80_35, e80_38, e80_39, e80_42, e80_45, e80_46, e80_47, e80_50, e80_53, e80_54, e80_56, e80_59, bi_s, tyX, rl1, rl2, rl4, ↓reduceIte, Option.bind_some, true_and, and_true, false_and, and_false, true_or, or_true, false_or, or_false, if_same0, ite_eq0, ite_eq0', ite_eq1, ite_eq1', or_em, or_em', ite_not, lcmp0, lcmpL, lcmpG, nI_cl_b, eb_in_b, nI_1, nI_pred, Int32.reduceToNatClampNeg, eb_u_ap, Prod.mk.injEq, not_true_eq_false, not_false_eq_true, sp_rg, sp_iI, sp_iG, sp_iS, hI, x_isGood, c2, x_receive, k5, k6, c3]
        have r1 := RX_setI (i := i) (f := 5) (v := S.1.2.2.2.1 i 5 + 1) h.1 (by omega)
        have r2 := RX_setI (i := i) (f := 6) (v := S.1.2.2.2.1 i 6 + b) r1.1 (by omega)
        exact ⟨_, J, C, rfl, fx_w h ⟨r2.1, eb_fr_tr r1.2 r2.2⟩⟩
      · rw [if_neg c3]
        simp (decide := true) (disch := omega) only [e80_0, e80_1, e80_2, e80_5, e80_8, e80_9, e80_12, e80_15, e80_16, e80_18, e80_21, e80_22, e80_23, e80_26, e80_29, e80_30, e80_31, e80_32, e80_35, e80_38, e80_39, e80_42, e80_45, e80_46, e80_47, e80_50, e80_53, e80_54, e80_56, e80_59, bi_s, tyX, rl1, rl2, rl4, ↓reduceIte, Option.bind_some, true_and, and_true, false_and, and_false, true_or, or_true, false_or, or_false, if_same0, ite_eq0, ite_eq0', ite_eq1, ite_eq1', or_em, or_em', ite_not, lcmp0, lcmpL, lcmpG, nI_cl_b, eb_in_b, nI_1, nI_pred, Int32.reduceToNatClampNeg, eb_u_ap, Prod.mk.injEq, not_true_eq_false, not_false_eq_true, sp_rg, sp_iI, sp_iG, sp_iS, hI, x_isGood, c2, x_receive, k5, c3, x_refuse4]
        exact ⟨_, J, C, rfl, fx_rf h (by omega)⟩
    · rw [if_pos (fun q => c2 q.2)]
      simp (decide := true) (disch := omega) only [e80_0, e80_1, e80_2, e80_5, e80_8, e80_9, e80_12, e80_15, e80_16, e80_18, e80_21, e80_22, e80_23, e80_26, e80_29, e80_30, e80_31, e80_32, e80_35, e80_38, e80_39, e80_42, e80_45, e80_46, e80_47, e80_50, e80_53, e80_54, e80_56, e80_59, bi_s, tyX, rl1, rl2, rl4, ↓reduceIte, Option.bind_some, true_and, and_true, false_and, and_false, true_or, or_true, false_or, or_false, if_same0, ite_eq0, ite_eq0', ite_eq1, ite_eq1', or_em, or_em', ite_not, lcmp0, lcmpL, lcmpG, nI_cl_b, eb_in_b, nI_1, nI_pred, Int32.reduceToNatClampNeg, eb_u_ap, Prod.mk.injEq, not_true_eq_false, not_false_eq_true, sp_rg, sp_iI, sp_iG, sp_iS, hI, x_isGood, c2, x_refuse0]
      exact ⟨_, J, C, rfl, fx_rf h (by omega)⟩
  · rw [if_neg c1] at hI
    rw [if_pos (fun q => c1 q.1)]
    simp (decide := true) (disch := omega) only [e80_0, e80_1, e80_2, e80_5, e80_8, e80_9, e80_12, e80_15, e80_16, e80_18, e80_21, e80_22, e80_23, e80_26, e80_29, e80_30, e80_31, e80_32, e80_35, e80_38, e80_39, e80_42, e80_45, e80_46, e80_47, e80_50, e80_53, e80_54, e80_56, e80_59, bi_s, tyX, rl1, rl2, rl4, ↓reduceIte, Option.bind_some, true_and, and_true, false_and, and_false, true_or, or_true, false_or, or_false, if_same0, ite_eq0, ite_eq0', ite_eq1, ite_eq1', or_em, or_em', ite_not, lcmp0, lcmpL, lcmpG, nI_cl_b, eb_in_b, nI_1, nI_pred, Int32.reduceToNatClampNeg, eb_u_ap, Prod.mk.injEq, not_true_eq_false, not_false_eq_true, sp_rg, sp_iI, sp_iG, sp_iS, hI, x_refuse0]
    exact ⟨_, J, C, rfl, fx_rf h (by omega)⟩
theorem xf_age (ok : sp_St S) {a : Int32} : eb_FX L (d + 5) 81 [zi a] S (sf_age S a).2 (zi (sf_age S a).1) := by
  intro nc ns I J C mt mk h
  rw [h81 rfl]
  unfold sf_age
  have k0 := h.1.1.2.2.1
  by_cases c1 : sp_rg a 0 99
  · rw [if_pos c1]
    simp (decide := true) (disch := omega) only [e81_0, e81_1, e81_2, e81_4, e81_7, e81_10, e81_11, e81_13, e81_16, e81_17, e81_18, e81_21, e81_24, e81_25, e81_26, e81_29, e81_30, e81_33, e81_34, bi_s, tyX, rl1, rl2, rl4, ↓reduceIte, Option.bind_some, true_and, and_true, false_and, and_false, true_or, or_true, false_or, or_false, if_same0, ite_eq0, ite_eq0', ite_eq1, ite_eq1', or_em, or_em', ite_not, lcmp0, lcmpL, lcmpG, nI_cl_b, eb_in_b, nI_1, nI_pred, Int32.reduceToNatClampNeg, eb_u_ap, Prod.mk.injEq, not_true_eq_false, not_false_eq_true, sp_rg, sp_iI, sp_iG, sp_iS, x_within, c1, k0]
    exact ⟨_, J, C, rfl, fx_w h (RX_setA h.1)⟩
  · rw [if_neg c1]
    simp (decide := true) (disch := omega) only [e81_0, e81_1, e81_2, e81_4, e81_7, e81_10, e81_11, e81_13, e81_16, e81_17, e81_18, e81_21, e81_24, e81_25, e81_26, e81_29, e81_30, e81_33, e81_34, bi_s, tyX, rl1, rl2, rl4, ↓reduceIte, Option.bind_some, true_and, and_true, false_and, and_false, true_or, or_true, false_or, or_false, if_same0, ite_eq0, ite_eq0', ite_eq1, ite_eq1', or_em, or_em', ite_not, lcmp0, lcmpL, lcmpG, nI_cl_b, eb_in_b, nI_1, nI_pred, Int32.reduceToNatClampNeg, eb_u_ap, Prod.mk.injEq, not_true_eq_false, not_false_eq_true, sp_rg, sp_iI, sp_iG, sp_iS, x_within, c1, x_refuse0]
    exact ⟨_, J, C, rfl, fx_rf h (by omega)⟩
theorem xf_heads (ok : sp_St S) {a b : Int32} : eb_FX L (d + 5) 82 [zi a, zi b] S (sf_heads S a b).2 (zi (sf_heads S a b).1) := by
  intro nc ns I J C mt mk h
  rw [h82 rfl]
  unfold sf_heads
  have hI := x_isGoer (L := L) (d := d + 2) (nc := nc) (ns := ns) (J := J) (C := C) (mt := mt) (mk := mk) (x := a) h.1 ok.1
  have hn := ok.1.2.1
  by_cases c1 : sp_iG S.1 a
  · rw [if_pos c1] at hI
    obtain ⟨i, hi, rfl⟩ := rg_nat (by omega) c1
    have k5 := h.1.2.2 i hi 1 (by omega)
    by_cases c2 : sp_rg b 1 30
    · rw [if_pos ⟨c1, c2⟩]
      simp (decide := true) (disch := omega) only [e82_0, e82_1, e82_2, e82_5, e82_8, e82_9, e82_10, e82_12, e82_15, e82_18, e82_19, e82_21, e82_24, e82_25, e82_26, e82_29, e82_32, e82_33, e82_34, e82_37, e82_38, e82_39, e82_42, e82_45, e82_46, e82_47, e82_48, e82_51, e82_52, bi_s, tyX, rl1, rl2, rl4, ↓reduceIte, Option.bind_some, true_and, and_true, false_and, and_false, true_or, or_true, false_or, or_false, if_same0, ite_eq0, ite_eq0', ite_eq1, ite_eq1', or_em, or_em', ite_not, lcmp0, lcmpL, lcmpG, nI_cl_b, eb_in_b, nI_1, nI_pred, Int32.reduceToNatClampNeg, eb_u_ap, Prod.mk.injEq, not_true_eq_false, not_false_eq_true, sp_rg, sp_iI, sp_iG, sp_iS, hI, x_within, c2, k5, tn]
      exact ⟨_, J, C, rfl, fx_w h (RX_setG h.1)⟩
    · rw [if_neg (fun q => c2 q.2)]
      simp (decide := true) (disch := omega) only [e82_0, e82_1, e82_2, e82_5, e82_8, e82_9, e82_10, e82_12, e82_15, e82_18, e82_19, e82_21, e82_24, e82_25, e82_26, e82_29, e82_32, e82_33, e82_34, e82_37, e82_38, e82_39, e82_42, e82_45, e82_46, e82_47, e82_48, e82_51, e82_52, bi_s, tyX, rl1, rl2, rl4, ↓reduceIte, Option.bind_some, true_and, and_true, false_and, and_false, true_or, or_true, false_or, or_false, if_same0, ite_eq0, ite_eq0', ite_eq1, ite_eq1', or_em, or_em', ite_not, lcmp0, lcmpL, lcmpG, nI_cl_b, eb_in_b, nI_1, nI_pred, Int32.reduceToNatClampNeg, eb_u_ap, Prod.mk.injEq, not_true_eq_false, not_false_eq_true, sp_rg, sp_iI, sp_iG, sp_iS, hI, x_within, c2, x_refuse0]
      exact ⟨_, J, C, rfl, fx_rf h (by omega)⟩
  · rw [if_neg c1] at hI
    rw [if_neg (fun q => c1 q.1)]
    simp (decide := true) (disch := omega) only [e82_0, e82_1, e82_2, e82_5, e82_8, e82_9, e82_10, e82_12, e82_15, e82_18, e82_19, e82_21, e82_24, e82_25, e82_26, e82_29, e82_32, e82_33, e82_34, e82_37, e82_38, e82_39, e82_42, e82_45, e82_46, e82_47, e82_48, e82_51, e82_52, bi_s, tyX, rl1, rl2, rl4, ↓reduceIte, Option.bind_some, true_and, and_true, false_and, and_false, true_or, or_true, false_or, or_false, if_same0, ite_eq0, ite_eq0', ite_eq1, ite_eq1', or_em, or_em', ite_not, lcmp0, lcmpL, lcmpG, nI_cl_b, eb_in_b, nI_1, nI_pred, Int32.reduceToNatClampNeg, eb_u_ap, Prod.mk.injEq, not_true_eq_false, not_false_eq_true, sp_rg, sp_iI, sp_iG, sp_iS, hI, x_refuse0]
    exact ⟨_, J, C, rfl, fx_rf h (by omega)⟩
theorem xf_seed (ok : sp_St S) {a : Int32} : eb_FX L (d + 5) 121 [zi a] S (sf_seed S a).2 (zi (sf_seed S a).1) := by
  intro nc ns I J C mt mk h
  rw [h121 rfl]
  unfold sf_seed
  have k0 := h.1.1.2.2.2.2
  simp (decide := true) (disch := omega) only [e121_0, e121_1, e121_4, e121_7, e121_8, e121_9, e121_12, e121_13, e121_16, e121_17, bi_s, tyX, rl1, rl2, rl4, ↓reduceIte, Option.bind_some, true_and, and_true, false_and, and_false, true_or, or_true, false_or, or_false, if_same0, ite_eq0, ite_eq0', ite_eq1, ite_eq1', or_em, or_em', ite_not, lcmp0, lcmpL, lcmpG, nI_cl_b, eb_in_b, nI_1, nI_pred, Int32.reduceToNatClampNeg, eb_u_ap, Prod.mk.injEq, not_true_eq_false, not_false_eq_true, sp_rg, sp_iI, sp_iG, sp_iS, k0]
  exact ⟨_, J, C, rfl, fx_w h (RX_setD h.1)⟩
end

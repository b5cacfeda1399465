/-! the reference's faces: the valley told and changed, what is told of it -/
section
variable {L d nc ns r i g : Nat} {I I' : eb_A → Nat → Int32} {J J' : eb_A → Nat → Int64} {C : Nat → Nat → Nat} {mt mk : Option Nat} {M : eb_M} {R : eb_A → Nat → Option eb_A} {w : eb_W} {x : Int32} {S : eb_St}
theorem RM_setI {f : Nat} {v : Int32} (h : eb_RM I r w) : eb_RM (eb_u I (32, r, i) f v) r (sp_setI w i f v) ∧ eb_gv r I (eb_u I (32, r, i) f v) := by
  refine ⟨⟨?_, fun j hj l hl => ?_, fun j hj l hl => ?_⟩, fun a l hal => if_neg (fun z => hal (by rw [z.1]; exact ⟨rfl, Or.inl rfl⟩))⟩
  · simp only [eb_u, Prod.mk.injEq, Nat.reduceEqDiff, false_and, if_false]
    exact h.1
  · have q := h.2.1 j hj l hl
    show (if ((32, r, j) : eb_A) = (32, r, i) ∧ l = f then v else I (32, r, j) l) = sp_up w.2.2.2.1 i (sp_up (w.2.2.2.1 i) f v) j l
    by_cases e : j = i
    · subst e
      by_cases e2 : l = f
      · simp [sp_up, e2]
      · simp [sp_up, e2, q]
    · simp [sp_up, e, q]
  · simp only [eb_u, Prod.mk.injEq, Nat.reduceEqDiff, false_and, if_false]
    exact h.2.2 j hj l hl
theorem RM_setG {f : Nat} {v : Int32} (h : eb_RM I r w) : eb_RM (eb_u I (34, r, i) f v) r (sp_setG w i f v) ∧ eb_gv r I (eb_u I (34, r, i) f v) := by
  refine ⟨⟨?_, fun j hj l hl => ?_, fun j hj l hl => ?_⟩, fun a l hal => if_neg (fun z => hal (by rw [z.1]; exact ⟨rfl, Or.inr (Or.inl rfl)⟩))⟩
  · simp only [eb_u, Prod.mk.injEq, Nat.reduceEqDiff, false_and, if_false]
    exact h.1
  · simp only [eb_u, Prod.mk.injEq, Nat.reduceEqDiff, false_and, if_false]
    exact h.2.1 j hj l hl
  · have q := h.2.2 j hj l hl
    show (if ((34, r, j) : eb_A) = (34, r, i) ∧ l = f then v else I (34, r, j) l) = sp_up w.2.2.2.2 i (sp_up (w.2.2.2.2 i) f v) j l
    by_cases e : j = i
    · subst e
      by_cases e2 : l = f
      · simp [sp_up, e2]
      · simp [sp_up, e2, q]
    · simp [sp_up, e, q]
theorem RM_setA {v : Int32} (h : eb_RM I r w) : eb_RM (eb_u I (21, r, 0) 13 v) r (sp_setS w 0 v) ∧ eb_gv r I (eb_u I (21, r, 0) 13 v) := by
  refine ⟨⟨?_, fun j hj l hl => ?_, fun j hj l hl => ?_⟩, fun a l hal => if_neg (fun z => hal (by rw [z.1]; exact ⟨rfl, Or.inr (Or.inr (Or.inr (Or.inr ⟨rfl, by omega⟩)))⟩))⟩
  · obtain ⟨h1, h2, h3, h4, h5⟩ := h.1
    simp [eb_u, sp_setS, sp_up, h1, h2, h4, h5]
  · simp only [eb_u, Prod.mk.injEq, Nat.reduceEqDiff, false_and, if_false]
    exact h.2.1 j hj l hl
  · simp only [eb_u, Prod.mk.injEq, Nat.reduceEqDiff, false_and, if_false]
    exact h.2.2 j hj l hl
theorem RM_setD {v : Int32} (h : eb_RM I r w) : eb_RM (eb_u I (21, r, 0) 15 v) r (sp_setS w 2 v) ∧ eb_gv r I (eb_u I (21, r, 0) 15 v) := by
  refine ⟨⟨?_, fun j hj l hl => ?_, fun j hj l hl => ?_⟩, fun a l hal => if_neg (fun z => hal (by rw [z.1]; exact ⟨rfl, Or.inr (Or.inr (Or.inr (Or.inr ⟨rfl, by omega⟩)))⟩))⟩
  · obtain ⟨h1, h2, h3, h4, h5⟩ := h.1
    simp [eb_u, sp_setS, sp_up, h1, h2, h3, h4]
  · simp only [eb_u, Prod.mk.injEq, Nat.reduceEqDiff, false_and, if_false]
    exact h.2.1 j hj l hl
  · simp only [eb_u, Prod.mk.injEq, Nat.reduceEqDiff, false_and, if_false]
    exact h.2.2 j hj l hl
theorem gv_wb {I1 : eb_A → Nat → Int32} (h : ∀ a l, ¬ ((a.1 = 32 ∧ a.2.1 = r ∧ l = 4) ∨ (a = (21, r, 0) ∧ l = 13)) → I1 a l = I a l) : eb_gv r I I1 := fun a l hal => h a l (fun q => hal (by
  rcases q with q | q
  · exact ⟨q.2.1, Or.inl q.1⟩
  · rw [q.1]; exact ⟨rfl, Or.inr (Or.inr (Or.inr (Or.inr ⟨rfl, by omega⟩)))⟩))
theorem gv_ai {I1 : eb_A → Nat → Int32} (h : ∀ a l, ¬ (a.1 = 32 ∧ a.2.1 = r) → ¬ (a = (21, r, 0) ∧ l = 9) → I1 a l = I a l) : eb_gv r I I1 := fun a l hal => h a l (fun q => hal ⟨q.2, Or.inl q.1⟩) (fun q => hal (by rw [q.1]; exact ⟨rfl, Or.inr (Or.inr (Or.inr (Or.inr ⟨rfl, by omega⟩)))⟩))
theorem mf_inn (ok : sp_St S) {a b c : Int32} : eb_FM L (d + 5) 162 [zi a, zi b, zi c] S (sf_inn S a b c).2 (zi (sf_inn S a b c).1) := by
  intro nc ns I J C mt mk h
  rw [h162 rfl]
  unfold sf_inn
  by_cases c1 : sp_rg a 0 100 <;> by_cases c2 : sp_rg b 1 20 <;> by_cases c3 : sp_rg c 0 99
  · rw [if_neg (fun q => q ⟨c1, c2, c3⟩)]
    have hn := ok.1.1
    by_cases c4 : S.1.1 = 6
    · rw [if_pos c4]
      have g9 : I (21, 0, 0) 9 = 6 := by rw [h.1.1.1, c4]; rfl
      simp (decide := true) (disch := omega) only [e162_0, e162_1, e162_2, e162_3, e162_6, e162_9, e162_12, e162_13, e162_14, e162_15, e162_18, e162_21, e162_24, e162_25, e162_26, e162_27, e162_30, e162_33, e162_36, e162_37, e162_39, e162_42, e162_43, e162_44, e162_47, e162_49, e162_52, e162_53, e162_55, e162_58, e162_59, e162_60, e162_61, e162_62, e162_63, e162_64, e162_67, e162_68, e162_71, e162_72, e162_73, bi_s, tyX, rl1, rl2, rl4, ↓reduceIte, Option.bind_some, true_and, and_true, false_and, and_false, true_or, or_true, false_or, or_false, if_same0, ite_eq0, ite_eq0', ite_eq1, ite_eq1', or_em, or_em', ite_not, lcmp0, lcmpL, lcmpG, nI_cl_b, eb_in_b, nI_1, nI_pred, Int32.reduceToNatClampNeg, eb_u_ap, Prod.mk.injEq, not_true_eq_false, not_false_eq_true, tyM, rl21, rl25, sp_rg, sp_iI, sp_iG, sp_iS, m_ins, c1, c2, c3, g9, m_refuse4]
      exact ⟨nc, ns, _, J, mt, mk, rfl, fm_rf h (by omega)⟩
    · rw [if_neg c4]
      obtain ⟨I1, e, e1, e2⟩ := m_addInn (L := L) (d := d + 3) (nc := nc) (ns := ns) (J := J) (C := C) (mt := mt) (mk := mk) h.1 (show S.1.1 < 6 by omega) (a := a) (b := b) (c := c) (s := -1)
      have g9 : (nI S.1.1 = 6) = False := by rw [show (6 : Int32) = nI 6 from rfl, nI_eq_b (by omega) (by omega)]; exact eq_false c4
      have k9 : I1 (21, 0, 0) 9 = nI (S.1.1 + 1) := e1.1.1
      simp (decide := true) (disch := omega) only [e162_0, e162_1, e162_2, e162_3, e162_6, e162_9, e162_12, e162_13, e162_14, e162_15, e162_18, e162_21, e162_24, e162_25, e162_26, e162_27, e162_30, e162_33, e162_36, e162_37, e162_39, e162_42, e162_43, e162_44, e162_47, e162_49, e162_52, e162_53, e162_55, e162_58, e162_59, e162_60, e162_61, e162_62, e162_63, e162_64, e162_67, e162_68, e162_71, e162_72, e162_73, bi_s, tyX, rl1, rl2, rl4, ↓reduceIte, Option.bind_some, true_and, and_true, false_and, and_false, true_or, or_true, false_or, or_false, if_same0, ite_eq0, ite_eq0', ite_eq1, ite_eq1', or_em, or_em', ite_not, lcmp0, lcmpL, lcmpG, nI_cl_b, eb_in_b, nI_1, nI_pred, Int32.reduceToNatClampNeg, eb_u_ap, Prod.mk.injEq, not_true_eq_false, not_false_eq_true, tyM, rl21, rl25, sp_rg, sp_iI, sp_iG, sp_iS, m_ins, c1, c2, c3, h.1.1.1, g9, e, k9]
      exact ⟨nc, ns, I1, J, mt, mk, rfl, fm_w h ⟨e1, gv_ai e2⟩⟩
  all_goals
    rw [if_pos (fun q => by first | exact c1 q.1 | exact c2 q.2.1 | exact c3 q.2.2)]
    simp (decide := true) (disch := omega) only [e162_0, e162_1, e162_2, e162_3, e162_6, e162_9, e162_12, e162_13, e162_14, e162_15, e162_18, e162_21, e162_24, e162_25, e162_26, e162_27, e162_30, e162_33, e162_36, e162_37, e162_39, e162_42, e162_43, e162_44, e162_47, e162_49, e162_52, e162_53, e162_55, e162_58, e162_59, e162_60, e162_61, e162_62, e162_63, e162_64, e162_67, e162_68, e162_71, e162_72, e162_73, bi_s, tyX, rl1, rl2, rl4, ↓reduceIte, Option.bind_some, true_and, and_true, false_and, and_false, true_or, or_true, false_or, or_false, if_same0, ite_eq0, ite_eq0', ite_eq1, ite_eq1', or_em, or_em', ite_not, lcmp0, lcmpL, lcmpG, nI_cl_b, eb_in_b, nI_1, nI_pred, Int32.reduceToNatClampNeg, eb_u_ap, Prod.mk.injEq, not_true_eq_false, not_false_eq_true, tyM, rl21, rl25, sp_rg, sp_iI, sp_iG, sp_iS, m_ins, c1, c2, c3, m_refuse0]
    exact ⟨nc, ns, _, J, mt, mk, rfl, fm_rf h (by omega)⟩
theorem m_goer_RM (h : eb_RM I r w) (hn : w.2.1 < 6) {a b c : Int32} : eb_RM (eb_u (eb_u (eb_u (eb_u I (34, r, w.2.1) 0 a) (34, r, w.2.1) 1 b) (34, r, w.2.1) 2 c) (21, r, 0) 11 (nI (w.2.1 + 1))) r (sp_goer w a b c) ∧ eb_gv r I (eb_u (eb_u (eb_u (eb_u I (34, r, w.2.1) 0 a) (34, r, w.2.1) 1 b) (34, r, w.2.1) 2 c) (21, r, 0) 11 (nI (w.2.1 + 1))) := by
  refine ⟨⟨⟨?_, ?_, ?_, ?_, ?_⟩, fun i hi f hf => ?_, fun j hj f hf => ?_⟩, fun a l hal => ?_⟩
  · simp [eb_u, sp_goer, h.1.1]
  · simp [eb_u, sp_goer]
  · simp [eb_u, sp_goer, h.1.2.2.1]
  · simp [eb_u, sp_goer, h.1.2.2.2.1]
  · simp [eb_u, sp_goer, h.1.2.2.2.2]
  · simp [eb_u, sp_goer, h.2.1 i hi f hf]
  · by_cases e : j = w.2.1
    · subst e
      rcases (show f = 0 ∨ f = 1 ∨ f = 2 by omega) with rfl | rfl | rfl <;> simp [eb_u, sp_goer, sp_up]
    · have hj2 : j < w.2.1 := by
        have hj : j < w.2.1 + 1 := hj
        omega
      simp [eb_u, sp_goer, sp_up, e, h.2.2 j hj2 f hf]
  · have q1 : ¬ a = (34, r, w.2.1) := fun z => hal (by rw [z]; exact ⟨rfl, Or.inr (Or.inl rfl)⟩)
    have q2 : ¬ (a = (21, r, 0) ∧ l = 11) := fun z => hal (by rw [z.1]; exact ⟨rfl, Or.inr (Or.inr (Or.inr (Or.inr ⟨rfl, by omega⟩)))⟩)
    simp only [eb_u, q1, q2, false_and, if_false]
theorem mf_goer (ok : sp_St S) {a b c : Int32} : eb_FM L (d + 5) 163 [zi a, zi b, zi c] S (sf_goer S a b c).2 (zi (sf_goer S a b c).1) := by
  intro nc ns I J C mt mk h
  rw [h163 rfl]
  unfold sf_goer
  by_cases c1 : sp_rg a 0 5 <;> by_cases c2 : sp_rg b 1 30 <;> by_cases c3 : sp_rg c 0 99
  · rw [if_neg (fun q => q ⟨c1, c2, c3⟩)]
    have hn := ok.1.2.1
    by_cases c4 : S.1.2.1 = 6
    · rw [if_pos c4]
      have g9 : I (21, 0, 0) 11 = 6 := by rw [h.1.1.2.1, c4]; rfl
      simp (decide := true) (disch := omega) only [e163_0, e163_1, e163_2, e163_3, e163_6, e163_9, e163_12, e163_13, e163_14, e163_15, e163_18, e163_21, e163_24, e163_25, e163_26, e163_27, e163_30, e163_33, e163_36, e163_37, e163_39, e163_42, e163_43, e163_44, e163_47, e163_49, e163_52, e163_53, e163_55, e163_58, e163_59, e163_60, e163_63, e163_64, e163_67, e163_68, e163_69, e163_70, e163_71, e163_72, e163_75, e163_76, e163_79, e163_80, e163_81, e163_82, e163_83, e163_84, e163_87, e163_88, e163_91, e163_92, e163_93, e163_94, e163_95, e163_96a, e163_96b, e163_97, e163_100, e163_101, e163_102, e163_103, e163_106, bi_s, tyX, rl1, rl2, rl4, ↓reduceIte, Option.bind_some, true_and, and_true, false_and, and_false, true_or, or_true, false_or, or_false, if_same0, ite_eq0, ite_eq0', ite_eq1, ite_eq1', or_em, or_em', ite_not, lcmp0, lcmpL, lcmpG, nI_cl_b, eb_in_b, nI_1, nI_pred, Int32.reduceToNatClampNeg, eb_u_ap, Prod.mk.injEq, not_true_eq_false, not_false_eq_true, tyM, rl21, rl25, sp_rg, sp_iI, sp_iG, sp_iS, m_ins, c1, c2, c3, g9, m_refuse4]
      exact ⟨nc, ns, _, J, mt, mk, rfl, fm_rf h (by omega)⟩
    · rw [if_neg c4]
      have g9 : (nI S.1.2.1 = 6) = False := by rw [show (6 : Int32) = nI 6 from rfl, nI_eq_b (by omega) (by omega)]; exact eq_false c4
      simp (decide := true) (disch := omega) only [e163_0, e163_1, e163_2, e163_3, e163_6, e163_9, e163_12, e163_13, e163_14, e163_15, e163_18, e163_21, e163_24, e163_25, e163_26, e163_27, e163_30, e163_33, e163_36, e163_37, e163_39, e163_42, e163_43, e163_44, e163_47, e163_49, e163_52, e163_53, e163_55, e163_58, e163_59, e163_60, e163_63, e163_64, e163_67, e163_68, e163_69, e163_70, e163_71, e163_72, e163_75, e163_76, e163_79, e163_80, e163_81, e163_82, e163_83, e163_84, e163_87, e163_88, e163_91, e163_92, e163_93, e163_94, e163_95, e163_96a, e163_96b, e163_97, e163_100, e163_101, e163_102, e163_103, e163_106, bi_s, tyX, rl1, rl2, rl4, ↓reduceIte, Option.bind_some, true_and, and_true, false_and, and_false, true_or, or_true, false_or, or_false, if_same0, ite_eq0, ite_eq0', ite_eq1, ite_eq1', or_em, or_em', ite_not, lcmp0, lcmpL, lcmpG, nI_cl_b, eb_in_b, nI_1, nI_pred, Int32.reduceToNatClampNeg, eb_u_ap, Prod.mk.injEq, not_true_eq_false, not_false_eq_true, tyM, rl21, rl25, sp_rg, sp_iI, sp_iG, sp_iS, m_ins, c1, c2, c3, h.1.1.2.1, g9]
      exact ⟨nc, ns, eb_u (eb_u (eb_u (eb_u I (34, 0, S.1.2.1) 0 a) (34, 0, S.1.2.1) 1 b) (34, 0, S.1.2.1) 2 c) (21, 0, 0) 11 (nI (S.1.2.1 + 1)), J, mt, mk, rfl, fm_w h (m_goer_RM h.1 (by omega))⟩
  all_goals
    rw [if_pos (fun q => by first | exact c1 q.1 | exact c2 q.2.1 | exact c3 q.2.2)]
    simp (decide := true) (disch := omega) only [e163_0, e163_1, e163_2, e163_3, e163_6, e163_9, e163_12, e163_13, e163_14, e163_15, e163_18, e163_21, e163_24, e163_25, e163_26, e163_27, e163_30, e163_33, e163_36, e163_37, e163_39, e163_42, e163_43, e163_44, e163_47, e163_49, e163_52, e163_53, e163_55, e163_58, e163_59, e163_60, e163_63, e163_64, e163_67, e163_68, e163_69, e163_70, e163_71, e163_72, e163_75, e163_76, e163_79, e163_80, e163_81, e163_82, e163_83, e163_84, e163_87, e163_88, e163_91, e163_92, e163_93, e163_94, e163_95, e163_96a, e163_96b, e163_97, e163_100, e163_101, e163_102, e163_103, e163_106, bi_s, tyX, rl1, rl2, rl4, ↓reduceIte, Option.bind_some, true_and, and_true, false_and, and_false, true_or, or_true, false_or, or_false, if_same0, ite_eq0, ite_eq0', ite_eq1, ite_eq1', or_em, or_em', ite_not, lcmp0, lcmpL, lcmpG, nI_cl_b, eb_in_b, nI_1, nI_pred, Int32.reduceToNatClampNeg, eb_u_ap, Prod.mk.injEq, not_true_eq_false, not_false_eq_true, tyM, rl21, rl25, sp_rg, sp_iI, sp_iG, sp_iS, m_ins, c1, c2, c3, m_refuse0]
    exact ⟨nc, ns, _, J, mt, mk, rfl, fm_rf h (by omega)⟩
theorem mf_change (ok : sp_St S) {a b c : Int32} : eb_FM L (d + 5) 164 [zi a, zi b, zi c] S (sf_change S a b c).2 (zi (sf_change S a b c).1) := by
  intro nc ns I J C mt mk h
  rw [h164 rfl]
  unfold sf_change
  have hI := m_isInn (L := L) (d := d + 2) (nc := nc) (ns := ns) (J := J) (C := C) (mt := mt) (mk := mk) (x := a) h.1 ok.1
  have hn := ok.1.1
  by_cases c1 : sp_iI S.1 a
  · rw [if_pos c1] at hI
    obtain ⟨i, hi, rfl⟩ := rg_nat (by omega) c1
    by_cases c2 : sp_rg b 0 1
    · by_cases c4 : b = 0
      · subst c4
        by_cases c3 : sp_rg c 0 100
        · rw [if_pos ⟨c1, c2, c3⟩]
          have k0 := h.1.2.1 i hi 0 (by omega)
          simp (decide := true) (disch := omega) only [e164_0, e164_1, e164_2, e164_5, e164_8, e164_9, e164_10, e164_11, e164_12, e164_15, e164_18, e164_19, e164_20, e164_21, e164_22, e164_25, e164_28, e164_31, e164_34, e164_37, e164_40, e164_41, e164_43, e164_46, e164_47, e164_48, e164_51, e164_52, e164_55, e164_56, e164_58, e164_59, e164_62, e164_63, e164_64, e164_66, e164_67, e164_69, e164_70, e164_73, e164_74, e164_75, e164_77, e164_78, e164_79, e164_81, bi_s, tyX, rl1, rl2, rl4, ↓reduceIte, Option.bind_some, true_and, and_true, false_and, and_false, true_or, or_true, false_or, or_false, if_same0, ite_eq0, ite_eq0', ite_eq1, ite_eq1', or_em, or_em', ite_not, lcmp0, lcmpL, lcmpG, nI_cl_b, eb_in_b, nI_1, nI_pred, Int32.reduceToNatClampNeg, eb_u_ap, Prod.mk.injEq, not_true_eq_false, not_false_eq_true, tyM, rl21, rl25, sp_rg, sp_iI, sp_iG, sp_iS, hI, m_ins, c3, k0, tn]
          exact ⟨nc, ns, eb_u I (32, 0, i) 0 c, J, mt, mk, rfl, fm_w h (RM_setI h.1)⟩
        · rw [if_neg (fun q => c3 q.2.2)]
          simp (decide := true) (disch := omega) only [e164_0, e164_1, e164_2, e164_5, e164_8, e164_9, e164_10, e164_11, e164_12, e164_15, e164_18, e164_19, e164_20, e164_21, e164_22, e164_25, e164_28, e164_31, e164_34, e164_37, e164_40, e164_41, e164_43, e164_46, e164_47, e164_48, e164_51, e164_52, e164_55, e164_56, e164_58, e164_59, e164_62, e164_63, e164_64, e164_66, e164_67, e164_69, e164_70, e164_73, e164_74, e164_75, e164_77, e164_78, e164_79, e164_81, bi_s, tyX, rl1, rl2, rl4, ↓reduceIte, Option.bind_some, true_and, and_true, false_and, and_false, true_or, or_true, false_or, or_false, if_same0, ite_eq0, ite_eq0', ite_eq1, ite_eq1', or_em, or_em', ite_not, lcmp0, lcmpL, lcmpG, nI_cl_b, eb_in_b, nI_1, nI_pred, Int32.reduceToNatClampNeg, eb_u_ap, Prod.mk.injEq, not_true_eq_false, not_false_eq_true, tyM, rl21, rl25, sp_rg, sp_iI, sp_iG, sp_iS, hI, m_ins, c3, m_refuse0]
          exact ⟨nc, ns, _, J, mt, mk, rfl, fm_rf h (by omega)⟩
      · by_cases c3 : sp_rg c 0 99
        · rw [if_pos ⟨c1, c2, by rw [if_neg c4]; exact c3⟩]
          have k0 := h.1.2.1 i hi 3 (by omega)
          simp (decide := true) (disch := omega) only [e164_0, e164_1, e164_2, e164_5, e164_8, e164_9, e164_10, e164_11, e164_12, e164_15, e164_18, e164_19, e164_20, e164_21, e164_22, e164_25, e164_28, e164_31, e164_34, e164_37, e164_40, e164_41, e164_43, e164_46, e164_47, e164_48, e164_51, e164_52, e164_55, e164_56, e164_58, e164_59, e164_62, e164_63, e164_64, e164_66, e164_67, e164_69, e164_70, e164_73, e164_74, e164_75, e164_77, e164_78, e164_79, e164_81, bi_s, tyX, rl1, rl2, rl4, ↓reduceIte, Option.bind_some, true_and, and_true, false_and, and_false, true_or, or_true, false_or, or_false, if_same0, ite_eq0, ite_eq0', ite_eq1, ite_eq1', or_em, or_em', ite_not, lcmp0, lcmpL, lcmpG, nI_cl_b, eb_in_b, nI_1, nI_pred, Int32.reduceToNatClampNeg, eb_u_ap, Prod.mk.injEq, not_true_eq_false, not_false_eq_true, tyM, rl21, rl25, sp_rg, sp_iI, sp_iG, sp_iS, hI, m_ins, c2, c3, c4, k0, tn]
          exact ⟨nc, ns, eb_u I (32, 0, i) 3 c, J, mt, mk, rfl, fm_w h (RM_setI h.1)⟩
        · rw [if_neg (fun q => c3 (by rw [if_neg c4] at q; exact q.2.2))]
          simp (decide := true) (disch := omega) only [e164_0, e164_1, e164_2, e164_5, e164_8, e164_9, e164_10, e164_11, e164_12, e164_15, e164_18, e164_19, e164_20, e164_21, e164_22, e164_25, e164_28, e164_31, e164_34, e164_37, e164_40, e164_41, e164_43, e164_46, e164_47, e164_48, e164_51, e164_52, e164_55, e164_56, e164_58, e164_59, e164_62, e164_63, e164_64, e164_66, e164_67, e164_69, e164_70, e164_73, e164_74, e164_75, e164_77, e164_78, e164_79, e164_81, bi_s, tyX, rl1, rl2, rl4, ↓reduceIte, Option.bind_some, true_and, and_true, false_and, and_false, true_or, or_true, false_or, or_false, if_same0, ite_eq0, ite_eq0', ite_eq1, ite_eq1', or_em, or_em', ite_not, lcmp0, lcmpL, lcmpG, nI_cl_b, eb_in_b, nI_1, nI_pred, Int32.reduceToNatClampNeg, eb_u_ap, Prod.mk.injEq, not_true_eq_false, not_false_eq_true, tyM, rl21, rl25, sp_rg, sp_iI, sp_iG, sp_iS, hI, m_ins, c2, c3, c4, m_refuse0]
          exact ⟨nc, ns, _, J, mt, mk, rfl, fm_rf h (by omega)⟩
    · rw [if_neg (fun q => c2 q.2.1)]
      simp (decide := true) (disch := omega) only [e164_0, e164_1, e164_2, e164_5, e164_8, e164_9, e164_10, e164_11, e164_12, e164_15, e164_18, e164_19, e164_20, e164_21, e164_22, e164_25, e164_28, e164_31, e164_34, e164_37, e164_40, e164_41, e164_43, e164_46, e164_47, e164_48, e164_51, e164_52, e164_55, e164_56, e164_58, e164_59, e164_62, e164_63, e164_64, e164_66, e164_67, e164_69, e164_70, e164_73, e164_74, e164_75, e164_77, e164_78, e164_79, e164_81, bi_s, tyX, rl1, rl2, rl4, ↓reduceIte, Option.bind_some, true_and, and_true, false_and, and_false, true_or, or_true, false_or, or_false, if_same0, ite_eq0, ite_eq0', ite_eq1, ite_eq1', or_em, or_em', ite_not, lcmp0, lcmpL, lcmpG, nI_cl_b, eb_in_b, nI_1, nI_pred, Int32.reduceToNatClampNeg, eb_u_ap, Prod.mk.injEq, not_true_eq_false, not_false_eq_true, tyM, rl21, rl25, sp_rg, sp_iI, sp_iG, sp_iS, hI, m_ins, c2, m_refuse0]
      exact ⟨nc, ns, _, J, mt, mk, rfl, fm_rf h (by omega)⟩
  · rw [if_neg c1] at hI
    rw [if_neg (fun q => c1 q.1)]
    simp (decide := true) (disch := omega) only [e164_0, e164_1, e164_2, e164_5, e164_8, e164_9, e164_10, e164_11, e164_12, e164_15, e164_18, e164_19, e164_20, e164_21, e164_22, e164_25, e164_28, e164_31, e164_34, e164_37, e164_40, e164_41, e164_43, e164_46, e164_47, e164_48, e164_51, e164_52, e164_55, e164_56, e164_58, e164_59, e164_62, e164_63, e164_64, e164_66, e164_67, e164_69, e164_70, e164_73, e164_74, e164_75, e164_77, e164_78, e164_79, e164_81, bi_s, tyX, rl1, rl2, rl4, ↓reduceIte, Option.bind_some, true_and, and_true, false_and, and_false, true_or, or_true, false_or, or_false, if_same0, ite_eq0, ite_eq0', ite_eq1, ite_eq1', or_em, or_em', ite_not, lcmp0, lcmpL, lcmpG, nI_cl_b, eb_in_b, nI_1, nI_pred, Int32.reduceToNatClampNeg, eb_u_ap, Prod.mk.injEq, not_true_eq_false, not_false_eq_true, tyM, rl21, rl25, sp_rg, sp_iI, sp_iG, sp_iS, hI, m_refuse0]
    exact ⟨nc, ns, _, J, mt, mk, rfl, fm_rf h (by omega)⟩
theorem rg_m1 {b : Int32} : (-1 ≤ b ∧ b ≤ 100) = (b = -1 ∨ 0 ≤ b ∧ b ≤ 100) := by
  apply propext
  have h1 : (-1 : Int32).toInt = -1 := by decide
  have h2 : (0 : Int32).toInt = 0 := by decide
  have h3 : (100 : Int32).toInt = 100 := by decide
  have h4 : b = -1 ↔ b.toInt = -1 := ⟨fun q => by rw [q]; exact h1, fun q => Int32.toInt_inj.mp (q.trans h1.symm)⟩
  rw [h4, Int32.le_iff_toInt_le, Int32.le_iff_toInt_le, Int32.le_iff_toInt_le, h1, h2, h3]
  omega
theorem mf_say (ok : sp_St S) {a b : Int32} : eb_FM L (d + 5) 165 [zi a, zi b] S (sf_say S a b).2 (zi (sf_say S a b).1) := by
  intro nc ns I J C mt mk h
  rw [h165 rfl]
  unfold sf_say
  have hI := m_isInn (L := L) (d := d + 2) (nc := nc) (ns := ns) (J := J) (C := C) (mt := mt) (mk := mk) (x := a) h.1 ok.1
  have hn := ok.1.1
  by_cases c1 : sp_iI S.1 a
  · rw [if_pos c1] at hI
    obtain ⟨i, hi, rfl⟩ := rg_nat (by omega) c1
    have k0 := h.1.2.1 i hi 4 (by omega)
    by_cases c2 : b = -1 ∨ sp_rg b 0 100
    · rw [if_pos ⟨c1, c2⟩]
      have c3 : -1 ≤ b ∧ b ≤ 100 := by rw [rg_m1]; exact c2
      simp (decide := true) (disch := omega) only [e165_0, e165_1, e165_2, e165_5, e165_8, e165_9, e165_10, e165_13, e165_16, e165_19, e165_22, e165_23, e165_25, e165_28, e165_29, e165_30, e165_33, e165_34, e165_35, e165_36, e165_37, e165_38, e165_39, e165_42, e165_43, e165_44, e165_45, e165_46, e165_47, e165_48, bi_s, tyX, rl1, rl2, rl4, ↓reduceIte, Option.bind_some, true_and, and_true, false_and, and_false, true_or, or_true, false_or, or_false, if_same0, ite_eq0, ite_eq0', ite_eq1, ite_eq1', or_em, or_em', ite_not, lcmp0, lcmpL, lcmpG, nI_cl_b, eb_in_b, nI_1, nI_pred, Int32.reduceToNatClampNeg, eb_u_ap, Prod.mk.injEq, not_true_eq_false, not_false_eq_true, tyM, rl21, rl25, sp_rg, sp_iI, sp_iG, sp_iS, hI, m_ins, c3, k0, tn]
      exact ⟨nc, ns, eb_u I (32, 0, i) 4 b, J, mt, mk, rfl, fm_w h (RM_setI h.1)⟩
    · rw [if_neg (fun q => c2 q.2)]
      have c3 : ¬ (-1 ≤ b ∧ b ≤ 100) := by rw [rg_m1]; exact c2
      simp (decide := true) (disch := omega) only [e165_0, e165_1, e165_2, e165_5, e165_8, e165_9, e165_10, e165_13, e165_16, e165_19, e165_22, e165_23, e165_25, e165_28, e165_29, e165_30, e165_33, e165_34, e165_35, e165_36, e165_37, e165_38, e165_39, e165_42, e165_43, e165_44, e165_45, e165_46, e165_47, e165_48, bi_s, tyX, rl1, rl2, rl4, ↓reduceIte, Option.bind_some, true_and, and_true, false_and, and_false, true_or, or_true, false_or, or_false, if_same0, ite_eq0, ite_eq0', ite_eq1, ite_eq1', or_em, or_em', ite_not, lcmp0, lcmpL, lcmpG, nI_cl_b, eb_in_b, nI_1, nI_pred, Int32.reduceToNatClampNeg, eb_u_ap, Prod.mk.injEq, not_true_eq_false, not_false_eq_true, tyM, rl21, rl25, sp_rg, sp_iI, sp_iG, sp_iS, hI, m_ins, c3, m_refuse0]
      exact ⟨nc, ns, _, J, mt, mk, rfl, fm_rf h (by omega)⟩
  · rw [if_neg c1] at hI
    rw [if_neg (fun q => c1 q.1)]
    simp (decide := true) (disch := omega) only [e165_0, e165_1, e165_2, e165_5, e165_8, e165_9, e165_10, e165_13, e165_16, e165_19, e165_22, e165_23, e165_25, e165_28, e165_29, e165_30, e165_33, e165_34, e165_35, e165_36, e165_37, e165_38, e165_39, e165_42, e165_43, e165_44, e165_45, e165_46, e165_47, e165_48, bi_s, tyX, rl1, rl2, rl4, ↓reduceIte, Option.bind_some, true_and, and_true, false_and, and_false, true_or, or_true, false_or, or_false, if_same0, ite_eq0, ite_eq0', ite_eq1, ite_eq1', or_em, or_em', ite_not, lcmp0, lcmpL, lcmpG, nI_cl_b, eb_in_b, nI_1, nI_pred, Int32.reduceToNatClampNeg, eb_u_ap, Prod.mk.injEq, not_true_eq_false, not_false_eq_true, tyM, rl21, rl25, sp_rg, sp_iI, sp_iG, sp_iS, hI, m_refuse0]
    exact ⟨nc, ns, _, J, mt, mk, rfl, fm_rf h (by omega)⟩
theorem mf_write (ok : sp_St S) {a : Int32} : eb_FM L (d + 5) 168 [zi a] S (sf_write S a).2 (zi (sf_write S a).1) := by
  intro nc ns I J C mt mk h
  rw [h168 rfl]
  unfold sf_write
  have hI := m_isSet (L := L) (d := d + 2) (nc := nc) (ns := ns) (J := J) (C := C) (mt := mt) (mk := mk) (x := a) h.1 ok.1
  by_cases c1 : sp_iS S.1 a
  · rw [if_pos c1] at hI
    rw [if_pos c1]
    obtain ⟨I1, e, e1, e2⟩ := m_writes (L := L) (d := d + 3) (nc := nc) (ns := ns) (J := J) (C := C) (mt := mt) (mk := mk) h.1 ok.1 (set := a)
    simp (decide := true) (disch := omega) only [e168_0, e168_1, e168_2, e168_5, e168_8, e168_9, e168_10, e168_13, e168_16, e168_17, e168_19, e168_22, bi_s, tyX, rl1, rl2, rl4, ↓reduceIte, Option.bind_some, true_and, and_true, false_and, and_false, true_or, or_true, false_or, or_false, if_same0, ite_eq0, ite_eq0', ite_eq1, ite_eq1', or_em, or_em', ite_not, lcmp0, lcmpL, lcmpG, nI_cl_b, eb_in_b, nI_1, nI_pred, Int32.reduceToNatClampNeg, eb_u_ap, Prod.mk.injEq, not_true_eq_false, not_false_eq_true, tyM, rl21, rl25, sp_rg, sp_iI, sp_iG, sp_iS, hI, e]
    exact ⟨nc, ns, I1, J, mt, mk, rfl, fm_w h ⟨e1, gv_wb e2⟩⟩
  · rw [if_neg c1] at hI
    rw [if_neg c1]
    simp (decide := true) (disch := omega) only [e168_0, e168_1, e168_2, e168_5, e168_8, e168_9, e168_10, e168_13, e168_16, e168_17, e168_19, e168_22, bi_s, tyX, rl1, rl2, rl4, ↓reduceIte, Option.bind_some, true_and, and_true, false_and, and_false, true_or, or_true, false_or, or_false, if_same0, ite_eq0, ite_eq0', ite_eq1, ite_eq1', or_em, or_em', ite_not, lcmp0, lcmpL, lcmpG, nI_cl_b, eb_in_b, nI_1, nI_pred, Int32.reduceToNatClampNeg, eb_u_ap, Prod.mk.injEq, not_true_eq_false, not_false_eq_true, tyM, rl21, rl25, sp_rg, sp_iI, sp_iG, sp_iS, hI, m_refuse0]
    exact ⟨nc, ns, _, J, mt, mk, rfl, fm_rf h (by omega)⟩
theorem ok_99 {w : eb_W} (hw : sp_ok w) (hi : i < w.1) : (w.2.2.2.1 i 5 = 99) = ¬ (w.2.2.2.1 i 5 < 99) := by
  obtain ⟨-, -, -, -, -, q⟩ := hw.2.2.2.1 i hi
  apply propext
  constructor
  · intro z; rw [z]; decide
  · intro z; exact Int32.le_antisymm q.2 (Int32.not_lt.mp z)
theorem mf_letter (ok : sp_St S) {a b : Int32} : eb_FM L (d + 5) 170 [zi a, zi b] S (sf_letter S a b).2 (zi (sf_letter S a b).1) := by
  intro nc ns I J C mt mk h
  rw [h170 rfl]
  unfold sf_letter
  have hI := m_isInn (L := L) (d := d + 2) (nc := nc) (ns := ns) (J := J) (C := C) (mt := mt) (mk := mk) (x := a) h.1 ok.1
  have hn := ok.1.1
  by_cases c1 : sp_iI S.1 a
  · rw [if_pos c1] at hI
    obtain ⟨i, hi, rfl⟩ := rg_nat (by omega) c1
    have k5 := h.1.2.1 i hi 5 (by omega)
    have k6 := h.1.2.1 i hi 6 (by omega)
    have h99 := ok_99 ok.1 hi
    by_cases c2 : sp_rg b 0 100
    · rw [if_neg (fun q => q ⟨c1, c2⟩)]
      rw [show tn (nI i) = i from nI_cl_b (by omega)]
      by_cases c3 : S.1.2.2.2.1 i 5 < 99
      · rw [if_pos c3]
        have n99 : ¬ S.1.2.2.2.1 i 5 = 99 := by rw [h99]; exact not_not_intro c3
        have gl := m_getsLetter (L := L) (d := d + 3) (nc := nc) (ns := ns) (I := I) (J := J) (C := C) (mt := mt) (mk := mk) (r := 0) (i := i) (x := b) (by omega)
        rw [k5, k6, if_pos c3] at gl
        simp (decide := true) (disch := omega) only [e170_0, e170_1, e170_2, e170_5, e170_8, e170_9, e170_10, e170_11, e170_14, e170_17, e170_20, e170_21, e170_23, e170_26, e170_27, e170_28, e170_31, e170_32, e170_33, e170_34, e170_35, e170_37, e170_40, e170_41, e170_43, e170_46, e170_47, e170_48, e170_49, e170_50, e170_53, e170_54, e170_57, e170_58, e170_59, e170_60, e170_61, bi_s, tyX, rl1, rl2, rl4, ↓reduceIte, Option.bind_some, true_and, and_true, false_and, and_false, true_or, or_true, false_or, or_false, if_same0, ite_eq0, ite_eq0', ite_eq1, ite_eq1', or_em, or_em', ite_not, lcmp0, lcmpL, lcmpG, nI_cl_b, eb_in_b, nI_1, nI_pred, Int32.reduceToNatClampNeg, eb_u_ap, Prod.mk.injEq, not_true_eq_false, not_false_eq_true, tyM, rl21, rl25, sp_rg, sp_iI, sp_iG, sp_iS, hI, m_ins, c2, k5, n99, gl]
        have r1 := RM_setI (i := i) (f := 5) (v := S.1.2.2.2.1 i 5 + 1) h.1
        have r2 := RM_setI (i := i) (f := 6) (v := S.1.2.2.2.1 i 6 + b) r1.1
        exact ⟨nc, ns, eb_u (eb_u I (32, 0, i) 5 (S.1.2.2.2.1 i 5 + 1)) (32, 0, i) 6 (S.1.2.2.2.1 i 6 + b), J, mt, mk, rfl, fm_w h ⟨r2.1, eb_gv_tr r1.2 r2.2⟩⟩
      · rw [if_neg c3]
        have n99 : S.1.2.2.2.1 i 5 = 99 := by rw [h99]; exact c3
        simp (decide := true) (disch := omega) only [e170_0, e170_1, e170_2, e170_5, e170_8, e170_9, e170_10, e170_11, e170_14, e170_17, e170_20, e170_21, e170_23, e170_26, e170_27, e170_28, e170_31, e170_32, e170_33, e170_34, e170_35, e170_37, e170_40, e170_41, e170_43, e170_46, e170_47, e170_48, e170_49, e170_50, e170_53, e170_54, e170_57, e170_58, e170_59, e170_60, e170_61, bi_s, tyX, rl1, rl2, rl4, ↓reduceIte, Option.bind_some, true_and, and_true, false_and, and_false, true_or, or_true, false_or, or_false, if_same0, ite_eq0, ite_eq0', ite_eq1, ite_eq1', or_em, or_em', ite_not, lcmp0, lcmpL, lcmpG, nI_cl_b, eb_in_b, nI_1, nI_pred, Int32.reduceToNatClampNeg, eb_u_ap, Prod.mk.injEq, not_true_eq_false, not_false_eq_true, tyM, rl21, rl25, sp_rg, sp_iI, sp_iG, sp_iS, hI, m_ins, c2, k5, n99, m_refuse4]
        exact ⟨nc, ns, _, J, mt, mk, rfl, fm_rf h (by omega)⟩
    · rw [if_pos (fun q => c2 q.2)]
      simp (decide := true) (disch := omega) only [e170_0, e170_1, e170_2, e170_5, e170_8, e170_9, e170_10, e170_11, e170_14, e170_17, e170_20, e170_21, e170_23, e170_26, e170_27, e170_28, e170_31, e170_32, e170_33, e170_34, e170_35, e170_37, e170_40, e170_41, e170_43, e170_46, e170_47, e170_48, e170_49, e170_50, e170_53, e170_54, e170_57, e170_58, e170_59, e170_60, e170_61, bi_s, tyX, rl1, rl2, rl4, ↓reduceIte, Option.bind_some, true_and, and_true, false_and, and_false, true_or, or_true, false_or, or_false, if_same0, ite_eq0, ite_eq0', ite_eq1, ite_eq1', or_em, or_em', ite_not, lcmp0, lcmpL, lcmpG, nI_cl_b, eb_in_b, nI_1, nI_pred, Int32.reduceToNatClampNeg, eb_u_ap, Prod.mk.injEq, not_true_eq_false, not_false_eq_true, tyM, rl21, rl25, sp_rg, sp_iI, sp_iG, sp_iS, hI, m_ins, c2, m_refuse0]
      exact ⟨nc, ns, _, J, mt, mk, rfl, fm_rf h (by omega)⟩
  · rw [if_neg c1] at hI
    rw [if_pos (fun q => c1 q.1)]
    simp (decide := true) (disch := omega) only [e170_0, e170_1, e170_2, e170_5, e170_8, e170_9, e170_10, e170_11, e170_14, e170_17, e170_20, e170_21, e170_23, e170_26, e170_27, e170_28, e170_31, e170_32, e170_33, e170_34, e170_35, e170_37, e170_40, e170_41, e170_43, e170_46, e170_47, e170_48, e170_49, e170_50, e170_53, e170_54, e170_57, e170_58, e170_59, e170_60, e170_61, bi_s, tyX, rl1, rl2, rl4, ↓reduceIte, Option.bind_some, true_and, and_true, false_and, and_false, true_or, or_true, false_or, or_false, if_same0, ite_eq0, ite_eq0', ite_eq1, ite_eq1', or_em, or_em', ite_not, lcmp0, lcmpL, lcmpG, nI_cl_b, eb_in_b, nI_1, nI_pred, Int32.reduceToNatClampNeg, eb_u_ap, Prod.mk.injEq, not_true_eq_false, not_false_eq_true, tyM, rl21, rl25, sp_rg, sp_iI, sp_iG, sp_iS, hI, m_refuse0]
    exact ⟨nc, ns, _, J, mt, mk, rfl, fm_rf h (by omega)⟩
theorem mf_age (ok : sp_St S) {a : Int32} : eb_FM L (d + 5) 171 [zi a] S (sf_age S a).2 (zi (sf_age S a).1) := by
  intro nc ns I J C mt mk h
  rw [h171 rfl]
  unfold sf_age
  have k0 := h.1.1.2.2.1
  by_cases c1 : sp_rg a 0 99
  · rw [if_pos c1]
    simp (decide := true) (disch := omega) only [e171_0, e171_1, e171_2, e171_3, e171_6, e171_9, e171_12, e171_13, e171_15, e171_18, e171_19, e171_20, e171_23, e171_24, e171_25, e171_26, e171_29, e171_30, bi_s, tyX, rl1, rl2, rl4, ↓reduceIte, Option.bind_some, true_and, and_true, false_and, and_false, true_or, or_true, false_or, or_false, if_same0, ite_eq0, ite_eq0', ite_eq1, ite_eq1', or_em, or_em', ite_not, lcmp0, lcmpL, lcmpG, nI_cl_b, eb_in_b, nI_1, nI_pred, Int32.reduceToNatClampNeg, eb_u_ap, Prod.mk.injEq, not_true_eq_false, not_false_eq_true, tyM, rl21, rl25, sp_rg, sp_iI, sp_iG, sp_iS, m_ins, c1, k0]
    exact ⟨nc, ns, eb_u I (21, 0, 0) 13 a, J, mt, mk, rfl, fm_w h (RM_setA h.1)⟩
  · rw [if_neg c1]
    simp (decide := true) (disch := omega) only [e171_0, e171_1, e171_2, e171_3, e171_6, e171_9, e171_12, e171_13, e171_15, e171_18, e171_19, e171_20, e171_23, e171_24, e171_25, e171_26, e171_29, e171_30, bi_s, tyX, rl1, rl2, rl4, ↓reduceIte, Option.bind_some, true_and, and_true, false_and, and_false, true_or, or_true, false_or, or_false, if_same0, ite_eq0, ite_eq0', ite_eq1, ite_eq1', or_em, or_em', ite_not, lcmp0, lcmpL, lcmpG, nI_cl_b, eb_in_b, nI_1, nI_pred, Int32.reduceToNatClampNeg, eb_u_ap, Prod.mk.injEq, not_true_eq_false, not_false_eq_true, tyM, rl21, rl25, sp_rg, sp_iI, sp_iG, sp_iS, m_ins, c1, m_refuse0]
    exact ⟨nc, ns, _, J, mt, mk, rfl, fm_rf h (by omega)⟩
theorem mf_heads (ok : sp_St S) {a b : Int32} : eb_FM L (d + 5) 172 [zi a, zi b] S (sf_heads S a b).2 (zi (sf_heads S a b).1) := by
  intro nc ns I J C mt mk h
  rw [h172 rfl]
  unfold sf_heads
  have hI := m_isGoer (L := L) (d := d + 2) (nc := nc) (ns := ns) (J := J) (C := C) (mt := mt) (mk := mk) (x := a) h.1 ok.1
  have hn := ok.1.2.1
  by_cases c1 : sp_iG S.1 a
  · rw [if_pos c1] at hI
    obtain ⟨i, hi, rfl⟩ := rg_nat (by omega) c1
    have k5 := h.1.2.2 i hi 1 (by omega)
    by_cases c2 : sp_rg b 1 30
    · rw [if_pos ⟨c1, c2⟩]
      simp (decide := true) (disch := omega) only [e172_0, e172_1, e172_2, e172_5, e172_8, e172_9, e172_10, e172_11, e172_14, e172_17, e172_20, e172_21, e172_23, e172_26, e172_27, e172_28, e172_31, e172_32, e172_33, e172_34, e172_35, e172_36, e172_37, e172_40, e172_41, e172_42, e172_43, e172_44, e172_45, e172_46, bi_s, tyX, rl1, rl2, rl4, ↓reduceIte, Option.bind_some, true_and, and_true, false_and, and_false, true_or, or_true, false_or, or_false, if_same0, ite_eq0, ite_eq0', ite_eq1, ite_eq1', or_em, or_em', ite_not, lcmp0, lcmpL, lcmpG, nI_cl_b, eb_in_b, nI_1, nI_pred, Int32.reduceToNatClampNeg, eb_u_ap, Prod.mk.injEq, not_true_eq_false, not_false_eq_true, tyM, rl21, rl25, sp_rg, sp_iI, sp_iG, sp_iS, hI, m_ins, c2, k5, tn]
      exact ⟨nc, ns, eb_u I (34, 0, i) 1 b, J, mt, mk, rfl, fm_w h (RM_setG h.1)⟩
    · rw [if_neg (fun q => c2 q.2)]
      simp (decide := true) (disch := omega) only [e172_0, e172_1, e172_2, e172_5, e172_8, e172_9, e172_10, e172_11, e172_14, e172_17, e172_20, e172_21, e172_23, e172_26, e172_27, e172_28, e172_31, e172_32, e172_33, e172_34, e172_35, e172_36, e172_37, e172_40, e172_41, e172_42, e172_43, e172_44, e172_45, e172_46, bi_s, tyX, rl1, rl2, rl4, ↓reduceIte, Option.bind_some, true_and, and_true, false_and, and_false, true_or, or_true, false_or, or_false, if_same0, ite_eq0, ite_eq0', ite_eq1, ite_eq1', or_em, or_em', ite_not, lcmp0, lcmpL, lcmpG, nI_cl_b, eb_in_b, nI_1, nI_pred, Int32.reduceToNatClampNeg, eb_u_ap, Prod.mk.injEq, not_true_eq_false, not_false_eq_true, tyM, rl21, rl25, sp_rg, sp_iI, sp_iG, sp_iS, hI, m_ins, c2, m_refuse0]
      exact ⟨nc, ns, _, J, mt, mk, rfl, fm_rf h (by omega)⟩
  · rw [if_neg c1] at hI
    rw [if_neg (fun q => c1 q.1)]
    simp (decide := true) (disch := omega) only [e172_0, e172_1, e172_2, e172_5, e172_8, e172_9, e172_10, e172_11, e172_14, e172_17, e172_20, e172_21, e172_23, e172_26, e172_27, e172_28, e172_31, e172_32, e172_33, e172_34, e172_35, e172_36, e172_37, e172_40, e172_41, e172_42, e172_43, e172_44, e172_45, e172_46, bi_s, tyX, rl1, rl2, rl4, ↓reduceIte, Option.bind_some, true_and, and_true, false_and, and_false, true_or, or_true, false_or, or_false, if_same0, ite_eq0, ite_eq0', ite_eq1, ite_eq1', or_em, or_em', ite_not, lcmp0, lcmpL, lcmpG, nI_cl_b, eb_in_b, nI_1, nI_pred, Int32.reduceToNatClampNeg, eb_u_ap, Prod.mk.injEq, not_true_eq_false, not_false_eq_true, tyM, rl21, rl25, sp_rg, sp_iI, sp_iG, sp_iS, hI, m_refuse0]
    exact ⟨nc, ns, _, J, mt, mk, rfl, fm_rf h (by omega)⟩
theorem mf_seed (ok : sp_St S) {a : Int32} : eb_FM L (d + 5) 245 [zi a] S (sf_seed S a).2 (zi (sf_seed S a).1) := by
  intro nc ns I J C mt mk h
  rw [h245 rfl]
  unfold sf_seed
  have k0 := h.1.1.2.2.2.2
  simp (decide := true) (disch := omega) only [e245_0, e245_1, e245_4, e245_5, e245_6, e245_7, e245_10, e245_11, bi_s, tyX, rl1, rl2, rl4, ↓reduceIte, Option.bind_some, true_and, and_true, false_and, and_false, true_or, or_true, false_or, or_false, if_same0, ite_eq0, ite_eq0', ite_eq1, ite_eq1', or_em, or_em', ite_not, lcmp0, lcmpL, lcmpG, nI_cl_b, eb_in_b, nI_1, nI_pred, Int32.reduceToNatClampNeg, eb_u_ap, Prod.mk.injEq, not_true_eq_false, not_false_eq_true, tyM, rl21, rl25, sp_rg, sp_iI, sp_iG, sp_iS, k0]
  exact ⟨nc, ns, eb_u I (21, 0, 0) 15 a, J, mt, mk, rfl, fm_w h (RM_setD h.1)⟩
theorem eb_MS_tape {t : (Nat → Int32) × Nat} (h : eb_MS S I J nc ns mt mk) (e : ∀ a l, ¬ (a = (29, 0, 0) ∨ a = (21, 0, 0) ∧ (l < 9 ∨ 15 < l)) → I' a l = I a l) (h5 : I' (21, 0, 0) 7 = nI t.2) (h6 : ∀ j, j < t.2 → I' (29, 0, 0) j = t.1 j) : eb_MS (sp_toT S t) I' J nc ns mt mk := by
  obtain ⟨a1, ⟨a2, a3⟩, a4, a5, -, a8⟩ := h
  have hr : ∀ r w, eb_RM I r w → eb_RM I' r w := fun r w q => eb_RM_of q (fun l _ _ => e _ _ (by simp; omega)) (fun i l => e _ _ (by simp)) (fun j l => e _ _ (by simp))
  refine ⟨hr _ _ a1, ⟨a2, fun p q => ?_⟩, a4, fun s hs => ?_, ⟨h5, h6⟩, fun k hk => (e _ _ (by simp)).trans (a8 k hk)⟩
  · obtain ⟨k, q1, q2⟩ := a3 p q
    exact ⟨k, q1, hr _ _ q2⟩
  · obtain ⟨b1, b2, b3⟩ := a5 s hs
    refine ⟨fun q => (e _ _ (by simp)).trans (b1 q), fun q => ?_, fun q => ?_⟩
    · obtain ⟨c1, c2, c3, c4⟩ := b2 q
      exact ⟨(e _ _ (by simp)).trans c1, (e _ _ (by simp)).trans c2, (e _ _ (by simp)).trans c3, c4⟩
    · obtain ⟨c1, c2⟩ := b3 q
      exact ⟨(e _ _ (by simp)).trans c1, (e _ _ (by simp)).trans c2⟩
theorem mf_feed (ok : sp_St S) {a : Int32} : eb_FM L (d + 5) 173 [zi a] S (sf_feed S a).2 (zi (sf_feed S a).1) := by
  intro nc ns I J C mt mk h
  rw [h173 rfl]
  unfold sf_feed
  have ht := ok.2.2.2.1
  by_cases c1 : sp_rg a 0 255
  · rw [if_neg (fun q => q c1)]
    obtain ⟨g1, g2⟩ := h.2.2.2.2.1
    by_cases c2 : (ss_t S).2 = 250
    · rw [if_pos c2]
      have g3 : I (21, 0, 0) 7 = 250 := by rw [g1, c2]; rfl
      simp (decide := true) (disch := omega) only [e173_0, e173_1, e173_2, e173_3, e173_6, e173_9, e173_12, e173_13, e173_15, e173_18, e173_19, e173_20, e173_23, e173_26, e173_29, e173_30, e173_32, e173_35, e173_36, e173_37, e173_40, e173_41a, e173_41b, e173_42, e173_45, e173_46, e173_47, e173_48, e173_51, e173_52, e173_53, e173_54, e173_57, bi_s, tyX, rl1, rl2, rl4, ↓reduceIte, Option.bind_some, true_and, and_true, false_and, and_false, true_or, or_true, false_or, or_false, if_same0, ite_eq0, ite_eq0', ite_eq1, ite_eq1', or_em, or_em', ite_not, lcmp0, lcmpL, lcmpG, nI_cl_b, eb_in_b, nI_1, nI_pred, Int32.reduceToNatClampNeg, eb_u_ap, Prod.mk.injEq, not_true_eq_false, not_false_eq_true, tyM, rl21, rl25, sp_rg, sp_iI, sp_iG, sp_iS, m_ins, c1, g3, m_refuse4]
      exact ⟨nc, ns, _, J, mt, mk, rfl, fm_rf h (by omega)⟩
    · rw [if_neg c2]
      have g3 : (nI (ss_t S).2 = 250) = False := by rw [show (250 : Int32) = nI 250 from rfl, nI_eq_b (by omega) (by omega)]; exact eq_false c2
      simp (decide := true) (disch := omega) only [e173_0, e173_1, e173_2, e173_3, e173_6, e173_9, e173_12, e173_13, e173_15, e173_18, e173_19, e173_20, e173_23, e173_26, e173_29, e173_30, e173_32, e173_35, e173_36, e173_37, e173_40, e173_41a, e173_41b, e173_42, e173_45, e173_46, e173_47, e173_48, e173_51, e173_52, e173_53, e173_54, e173_57, bi_s, tyX, rl1, rl2, rl4, ↓reduceIte, Option.bind_some, true_and, and_true, false_and, and_false, true_or, or_true, false_or, or_false, if_same0, ite_eq0, ite_eq0', ite_eq1, ite_eq1', or_em, or_em', ite_not, lcmp0, lcmpL, lcmpG, nI_cl_b, eb_in_b, nI_1, nI_pred, Int32.reduceToNatClampNeg, eb_u_ap, Prod.mk.injEq, not_true_eq_false, not_false_eq_true, tyM, rl21, rl25, sp_rg, sp_iI, sp_iG, sp_iS, m_ins, c1, g1, g3]
      refine ⟨nc, ns, eb_u (eb_u I (21, 0, 0) 7 (nI ((ss_t S).2 + 1))) (29, 0, 0) (ss_t S).2 a, J, mt, mk, rfl, eb_MS_tape h (fun b l hal => ?_) ?_ (fun j hj => ?_), eb_fM_tr (eb_fM_u (Nat.le_of_ble_eq_true rfl)) (eb_fM_u (Nat.le_of_ble_eq_true rfl)), eb_fN_rf⟩
      · have q1 : ¬ (b = (21, 0, 0) ∧ l = 7) := fun q => hal (Or.inr ⟨q.1, by omega⟩)
        have q2 : ¬ b = (29, 0, 0) := fun q => hal (Or.inl q)
        simp only [eb_u, q1, q2, false_and, if_false]
      · simp [eb_u]
      · have hj : j < (ss_t S).2 + 1 := hj
        show (if ((29, 0, 0) : eb_A) = (29, 0, 0) ∧ j = (ss_t S).2 then a else if ((29, 0, 0) : eb_A) = (21, 0, 0) ∧ j = 7 then _ else I (29, 0, 0) j) = sp_up (ss_t S).1 (ss_t S).2 a j
        by_cases q : j = (ss_t S).2
        · simp [sp_up, q]
        · simp only [sp_up, Prod.mk.injEq, Nat.reduceEqDiff, false_and, and_false, if_false, q]
          exact g2 j (by omega)
  · rw [if_pos c1]
    simp (decide := true) (disch := omega) only [e173_0, e173_1, e173_2, e173_3, e173_6, e173_9, e173_12, e173_13, e173_15, e173_18, e173_19, e173_20, e173_23, e173_26, e173_29, e173_30, e173_32, e173_35, e173_36, e173_37, e173_40, e173_41a, e173_41b, e173_42, e173_45, e173_46, e173_47, e173_48, e173_51, e173_52, e173_53, e173_54, e173_57, bi_s, tyX, rl1, rl2, rl4, ↓reduceIte, Option.bind_some, true_and, and_true, false_and, and_false, true_or, or_true, false_or, or_false, if_same0, ite_eq0, ite_eq0', ite_eq1, ite_eq1', or_em, or_em', ite_not, lcmp0, lcmpL, lcmpG, nI_cl_b, eb_in_b, nI_1, nI_pred, Int32.reduceToNatClampNeg, eb_u_ap, Prod.mk.injEq, not_true_eq_false, not_false_eq_true, tyM, rl21, rl25, sp_rg, sp_iI, sp_iG, sp_iS, m_ins, c1, m_refuse0]
    exact ⟨nc, ns, _, J, mt, mk, rfl, fm_rf h (by omega)⟩
theorem mf_wipe (ok : sp_St S) : eb_FM L (d + 5) 174 [] S (sf_wipe S).2 (zi (sf_wipe S).1) := by
  intro nc ns I J C mt mk h
  rw [h174 rfl]
  unfold sf_wipe
  have g1 := h.2.2.2.2.1.1
  simp (decide := true) (disch := omega) only [e174_0, e174_1, e174_4, e174_5, e174_6, e174_7, e174_10, e174_11, bi_s, tyX, rl1, rl2, rl4, ↓reduceIte, Option.bind_some, true_and, and_true, false_and, and_false, true_or, or_true, false_or, or_false, if_same0, ite_eq0, ite_eq0', ite_eq1, ite_eq1', or_em, or_em', ite_not, lcmp0, lcmpL, lcmpG, nI_cl_b, eb_in_b, nI_1, nI_pred, Int32.reduceToNatClampNeg, eb_u_ap, Prod.mk.injEq, not_true_eq_false, not_false_eq_true, tyM, rl21, rl25, sp_rg, sp_iI, sp_iG, sp_iS, g1]
  refine ⟨nc, ns, eb_u I (21, 0, 0) 7 0, J, mt, mk, rfl, eb_MS_tape h (fun a l hal => if_neg (fun q => hal (Or.inr ⟨q.1, by omega⟩))) ?_ (fun j hj => absurd hj (Nat.not_lt_zero _)), eb_fM_u (Nat.le_of_ble_eq_true rfl), eb_fN_rf⟩
  simp [eb_u, nI_0]
theorem mf_innOf (ok : sp_St S) {a b : Int32} : eb_FM L (d + 5) 188 [zi a, zi b] S (sf_innOf S a b).2 (zi (sf_innOf S a b).1) := by
  intro nc ns I J C mt mk h
  rw [h188 rfl]
  unfold sf_innOf
  have hI := m_isInn (L := L) (d := d + 2) (nc := nc) (ns := ns) (J := J) (C := C) (mt := mt) (mk := mk) (x := a) h.1 ok.1
  have hn := ok.1.1
  by_cases c1 : sp_iI S.1 a
  · rw [if_pos c1] at hI
    obtain ⟨i, hi, rfl⟩ := rg_nat (by omega) c1
    by_cases c2 : sp_rg b 0 6
    · rw [if_pos ⟨c1, c2⟩]
      obtain ⟨j, hj, rfl⟩ := rg_le 6 (by omega) (by decide) c2
      have k0 := h.1.2.1 i hi j (by omega)
      simp (decide := true) (disch := omega) only [e188_0, e188_1, e188_2, e188_5, e188_8, e188_9, e188_10, e188_11, e188_14, e188_17, e188_20, e188_21, e188_24, e188_25, e188_26, e188_27, e188_28, e188_31, e188_32, e188_34, e188_37, bi_s, tyX, rl1, rl2, rl4, ↓reduceIte, Option.bind_some, true_and, and_true, false_and, and_false, true_or, or_true, false_or, or_false, if_same0, ite_eq0, ite_eq0', ite_eq1, ite_eq1', or_em, or_em', ite_not, lcmp0, lcmpL, lcmpG, nI_cl_b, eb_in_b, nI_1, nI_pred, Int32.reduceToNatClampNeg, eb_u_ap, Prod.mk.injEq, not_true_eq_false, not_false_eq_true, tyM, rl21, rl25, sp_rg, sp_iI, sp_iG, sp_iS, hI, m_ins, c2, k0, tn]
      exact ⟨nc, ns, I, J, mt, mk, rfl, fm_0 h⟩
    · rw [if_neg (fun q => c2 q.2)]
      simp (decide := true) (disch := omega) only [e188_0, e188_1, e188_2, e188_5, e188_8, e188_9, e188_10, e188_11, e188_14, e188_17, e188_20, e188_21, e188_24, e188_25, e188_26, e188_27, e188_28, e188_31, e188_32, e188_34, e188_37, bi_s, tyX, rl1, rl2, rl4, ↓reduceIte, Option.bind_some, true_and, and_true, false_and, and_false, true_or, or_true, false_or, or_false, if_same0, ite_eq0, ite_eq0', ite_eq1, ite_eq1', or_em, or_em', ite_not, lcmp0, lcmpL, lcmpG, nI_cl_b, eb_in_b, nI_1, nI_pred, Int32.reduceToNatClampNeg, eb_u_ap, Prod.mk.injEq, not_true_eq_false, not_false_eq_true, tyM, rl21, rl25, sp_rg, sp_iI, sp_iG, sp_iS, hI, m_ins, c2, m_refuse0]
      exact ⟨nc, ns, _, J, mt, mk, rfl, fm_rf h (by omega)⟩
  · rw [if_neg c1] at hI
    rw [if_neg (fun q => c1 q.1)]
    simp (decide := true) (disch := omega) only [e188_0, e188_1, e188_2, e188_5, e188_8, e188_9, e188_10, e188_11, e188_14, e188_17, e188_20, e188_21, e188_24, e188_25, e188_26, e188_27, e188_28, e188_31, e188_32, e188_34, e188_37, bi_s, tyX, rl1, rl2, rl4, ↓reduceIte, Option.bind_some, true_and, and_true, false_and, and_false, true_or, or_true, false_or, or_false, if_same0, ite_eq0, ite_eq0', ite_eq1, ite_eq1', or_em, or_em', ite_not, lcmp0, lcmpL, lcmpG, nI_cl_b, eb_in_b, nI_1, nI_pred, Int32.reduceToNatClampNeg, eb_u_ap, Prod.mk.injEq, not_true_eq_false, not_false_eq_true, tyM, rl21, rl25, sp_rg, sp_iI, sp_iG, sp_iS, hI, m_refuse0]
    exact ⟨nc, ns, _, J, mt, mk, rfl, fm_rf h (by omega)⟩
theorem mf_goerOf (ok : sp_St S) {a b : Int32} : eb_FM L (d + 5) 189 [zi a, zi b] S (sf_goerOf S a b).2 (zi (sf_goerOf S a b).1) := by
  intro nc ns I J C mt mk h
  rw [h189 rfl]
  unfold sf_goerOf
  have hI := m_isGoer (L := L) (d := d + 2) (nc := nc) (ns := ns) (J := J) (C := C) (mt := mt) (mk := mk) (x := a) h.1 ok.1
  have hn := ok.1.2.1
  by_cases c1 : sp_iG S.1 a
  · rw [if_pos c1] at hI
    obtain ⟨i, hi, rfl⟩ := rg_nat (by omega) c1
    by_cases c2 : sp_rg b 0 2
    · rw [if_pos ⟨c1, c2⟩]
      obtain ⟨j, hj, rfl⟩ := rg_le 2 (by omega) (by decide) c2
      have k0 := h.1.2.2 i hi j (by omega)
      simp (decide := true) (disch := omega) only [e189_0, e189_1, e189_2, e189_5, e189_8, e189_9, e189_10, e189_11, e189_14, e189_17, e189_20, e189_21, e189_24, e189_25, e189_26, e189_27, e189_28, e189_31, e189_32, e189_34, e189_37, bi_s, tyX, rl1, rl2, rl4, ↓reduceIte, Option.bind_some, true_and, and_true, false_and, and_false, true_or, or_true, false_or, or_false, if_same0, ite_eq0, ite_eq0', ite_eq1, ite_eq1', or_em, or_em', ite_not, lcmp0, lcmpL, lcmpG, nI_cl_b, eb_in_b, nI_1, nI_pred, Int32.reduceToNatClampNeg, eb_u_ap, Prod.mk.injEq, not_true_eq_false, not_false_eq_true, tyM, rl21, rl25, sp_rg, sp_iI, sp_iG, sp_iS, hI, m_ins, c2, k0, tn]
      exact ⟨nc, ns, I, J, mt, mk, rfl, fm_0 h⟩
    · rw [if_neg (fun q => c2 q.2)]
      simp (decide := true) (disch := omega) only [e189_0, e189_1, e189_2, e189_5, e189_8, e189_9, e189_10, e189_11, e189_14, e189_17, e189_20, e189_21, e189_24, e189_25, e189_26, e189_27, e189_28, e189_31, e189_32, e189_34, e189_37, bi_s, tyX, rl1, rl2, rl4, ↓reduceIte, Option.bind_some, true_and, and_true, false_and, and_false, true_or, or_true, false_or, or_false, if_same0, ite_eq0, ite_eq0', ite_eq1, ite_eq1', or_em, or_em', ite_not, lcmp0, lcmpL, lcmpG, nI_cl_b, eb_in_b, nI_1, nI_pred, Int32.reduceToNatClampNeg, eb_u_ap, Prod.mk.injEq, not_true_eq_false, not_false_eq_true, tyM, rl21, rl25, sp_rg, sp_iI, sp_iG, sp_iS, hI, m_ins, c2, m_refuse0]
      exact ⟨nc, ns, _, J, mt, mk, rfl, fm_rf h (by omega)⟩
  · rw [if_neg c1] at hI
    rw [if_neg (fun q => c1 q.1)]
    simp (decide := true) (disch := omega) only [e189_0, e189_1, e189_2, e189_5, e189_8, e189_9, e189_10, e189_11, e189_14, e189_17, e189_20, e189_21, e189_24, e189_25, e189_26, e189_27, e189_28, e189_31, e189_32, e189_34, e189_37, bi_s, tyX, rl1, rl2, rl4, ↓reduceIte, Option.bind_some, true_and, and_true, false_and, and_false, true_or, or_true, false_or, or_false, if_same0, ite_eq0, ite_eq0', ite_eq1, ite_eq1', or_em, or_em', ite_not, lcmp0, lcmpL, lcmpG, nI_cl_b, eb_in_b, nI_1, nI_pred, Int32.reduceToNatClampNeg, eb_u_ap, Prod.mk.injEq, not_true_eq_false, not_false_eq_true, tyM, rl21, rl25, sp_rg, sp_iI, sp_iG, sp_iS, hI, m_refuse0]
    exact ⟨nc, ns, _, J, mt, mk, rfl, fm_rf h (by omega)⟩
end

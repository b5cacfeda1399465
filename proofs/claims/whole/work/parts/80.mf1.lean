/-! the reference's faces: shelves -/
section
variable {L d nc ns r i g : Nat} {I I' : eb_A → Nat → Int32} {J J' : eb_A → Nat → Int64} {C : Nat → Nat → Nat} {mt mk : Option Nat} {M : eb_M} {R : eb_A → Nat → Option eb_A} {w : eb_W} {x : Int32} {S : eb_St}
theorem m_noRow (h : eb_MS S I J nc ns mt mk) (ok : sp_St S) {s : Int32} : eb_ev L (d + 2) 153 [zr (21, 0, 0), zi s] (nc, ns, I, J, eb_RL C mt mk) = match sp_fault S s with
    | some k => some (zi (-2 - nI k), (nc, ns, eb_u I (30, 0, 0) (k + 2) (I (30, 0, 0) (k + 2) + 1), J, eb_RL C mt mk))
    | none => some (zi 0, (nc, ns, I, J, eb_RL C mt mk)) := by
  rw [h153 rfl]
  unfold sp_fault
  by_cases c1 : sp_rg s 0 7
  · rw [if_neg (fun q => q c1)]
    obtain ⟨k, hk, rfl⟩ := rg_le 7 (by omega) (by decide) c1
    obtain ⟨a1, a2, a3⟩ := h.2.2.2.1 k (by omega)
    rw [show tn (nI k) = k from nI_cl_b (by omega)]
    rcases St_held ok (show k < 8 by omega) with ⟨q1, q2, q3⟩ | ⟨q1, q2, q3, q4⟩ | ⟨g, hg, q1, q2, q3, q4⟩
    · rw [if_neg (fun q => q q3), if_neg q2]
      have b := a1 q1
      simp (decide := true) (disch := omega) only [e153_0, e153_1, e153_2, e153_3, e153_6, e153_9, e153_12, e153_13, e153_15, e153_18, e153_19, e153_20, e153_23, e153_24, e153_25, e153_26, e153_29, e153_30, e153_32, e153_35, e153_36, e153_37, e153_40, e153_41, e153_42, e153_45, e153_46, e153_48, e153_51, e153_54, e153_55, bi_s, tyX, rl1, rl2, rl4, ↓reduceIte, Option.bind_some, true_and, and_true, false_and, and_false, true_or, or_true, false_or, or_false, if_same0, ite_eq0, ite_eq0', ite_eq1, ite_eq1', or_em, or_em', ite_not, lcmp0, lcmpL, lcmpG, nI_cl_b, eb_in_b, nI_1, nI_pred, Int32.reduceToNatClampNeg, eb_u_ap, Prod.mk.injEq, not_true_eq_false, not_false_eq_true, tyM, rl21, rl25, sp_rg, sp_iI, sp_iG, sp_iS, m_ins, c1, b, m_refuse2]
      rfl
    · rw [if_neg (fun q => q q3), if_pos q1]
      have b := (a2 q1).1
      simp (decide := true) (disch := omega) only [e153_0, e153_1, e153_2, e153_3, e153_6, e153_9, e153_12, e153_13, e153_15, e153_18, e153_19, e153_20, e153_23, e153_24, e153_25, e153_26, e153_29, e153_30, e153_32, e153_35, e153_36, e153_37, e153_40, e153_41, e153_42, e153_45, e153_46, e153_48, e153_51, e153_54, e153_55, bi_s, tyX, rl1, rl2, rl4, ↓reduceIte, Option.bind_some, true_and, and_true, false_and, and_false, true_or, or_true, false_or, or_false, if_same0, ite_eq0, ite_eq0', ite_eq1, ite_eq1', or_em, or_em', ite_not, lcmp0, lcmpL, lcmpG, nI_cl_b, eb_in_b, nI_1, nI_pred, Int32.reduceToNatClampNeg, eb_u_ap, Prod.mk.injEq, not_true_eq_false, not_false_eq_true, tyM, rl21, rl25, sp_rg, sp_iI, sp_iG, sp_iS, m_ins, c1, b]
    · rw [if_pos q3]
      have b := (a3 q3).1
      simp (decide := true) (disch := omega) only [e153_0, e153_1, e153_2, e153_3, e153_6, e153_9, e153_12, e153_13, e153_15, e153_18, e153_19, e153_20, e153_23, e153_24, e153_25, e153_26, e153_29, e153_30, e153_32, e153_35, e153_36, e153_37, e153_40, e153_41, e153_42, e153_45, e153_46, e153_48, e153_51, e153_54, e153_55, bi_s, tyX, rl1, rl2, rl4, ↓reduceIte, Option.bind_some, true_and, and_true, false_and, and_false, true_or, or_true, false_or, or_false, if_same0, ite_eq0, ite_eq0', ite_eq1, ite_eq1', or_em, or_em', ite_not, lcmp0, lcmpL, lcmpG, nI_cl_b, eb_in_b, nI_1, nI_pred, Int32.reduceToNatClampNeg, eb_u_ap, Prod.mk.injEq, not_true_eq_false, not_false_eq_true, tyM, rl21, rl25, sp_rg, sp_iI, sp_iG, sp_iS, m_ins, c1, b, m_refuse1]
      rfl
  · rw [if_pos c1]
    simp (decide := true) (disch := omega) only [e153_0, e153_1, e153_2, e153_3, e153_6, e153_9, e153_12, e153_13, e153_15, e153_18, e153_19, e153_20, e153_23, e153_24, e153_25, e153_26, e153_29, e153_30, e153_32, e153_35, e153_36, e153_37, e153_40, e153_41, e153_42, e153_45, e153_46, e153_48, e153_51, e153_54, e153_55, bi_s, tyX, rl1, rl2, rl4, ↓reduceIte, Option.bind_some, true_and, and_true, false_and, and_false, true_or, or_true, false_or, or_false, if_same0, ite_eq0, ite_eq0', ite_eq1, ite_eq1', or_em, or_em', ite_not, lcmp0, lcmpL, lcmpG, nI_cl_b, eb_in_b, nI_1, nI_pred, Int32.reduceToNatClampNeg, eb_u_ap, Prod.mk.injEq, not_true_eq_false, not_false_eq_true, tyM, rl21, rl25, sp_rg, sp_iI, sp_iG, sp_iS, m_ins, c1, m_refuse0]
    rfl
theorem eb_MS_J {S' : eb_St} (h : eb_MS S I J nc ns mt mk) (h1 : S'.1 = S.1) (h2 : S'.2.1 = S.2.1) (h6 : ss_t S' = ss_t S) (h7 : ss_r S' = ss_r S) (e : ∀ a l, ¬ (a = (22, 0, 0) ∨ a = (23, 0, 0) ∨ a = (24, 0, 0) ∨ a = (28, 0, 0)) → I' a l = I a l) (hs : ∀ s, s < 8 → (ss_h S' s = -1 → I' (22, 0, 0) s = 0) ∧ (sp_rg (ss_h S' s) 0 4 → I' (22, 0, 0) s = 1 ∧ I' (23, 0, 0) s = ss_h S' s ∧ I' (24, 0, 0) s = nI (ss_n S' s) ∧ ∀ j, j < 40 → J' (26, 0, s) j = ss_e S' s j) ∧ (¬ ss_h S' s < 10 → I' (22, 0, 0) s = 2 ∧ I' (28, 0, 0) s = ss_h S' s - 10)) : eb_MS S' I' J' nc ns mt mk := by
  obtain ⟨a1, ⟨a2, a3⟩, a4, a5, ⟨a6, a7⟩, a8⟩ := h
  have hr : ∀ r w, eb_RM I r w → eb_RM I' r w := fun r w q => eb_RM_of q (fun l _ _ => e _ _ (by simp)) (fun i l => e _ _ (by simp)) (fun j l => e _ _ (by simp))
  refine ⟨by rw [h1]; exact hr _ _ a1, ⟨fun q => a2 (by rw [← h2]; exact q), fun p q => ?_⟩, a4, hs, ⟨?_, fun j hj => ?_⟩, fun k hk => ?_⟩
  · obtain ⟨k, q1, q2⟩ := a3 p (by rw [← h2]; exact q)
    exact ⟨k, q1, hr _ _ q2⟩
  · rw [h6]; exact (e _ _ (by simp)).trans a6
  · rw [h6] at hj ⊢; exact (e _ _ (by simp)).trans (a7 j hj)
  · rw [h7]; exact (e _ _ (by simp)).trans (a8 k hk)
theorem mf_row (ok : sp_St S) {s sort n : Int32} : eb_FM L (d + 4) 151 [zi s, zi sort, zi n] S (sf_row S s sort n).2 (zi (sf_row S s sort n).1) := by
  intro nc ns I J C mt mk h
  rw [h151 rfl]
  unfold sf_row
  by_cases c1 : sp_rg s 0 7 <;> by_cases c2 : sp_rg sort 0 4 <;> by_cases c3 : sp_rg n 0 40
  · rw [if_pos ⟨c1, c2, c3⟩]
    obtain ⟨k, hk, rfl⟩ := rg_le 7 (by omega) (by decide) c1
    obtain ⟨m, hm, rfl⟩ := rg_le 40 (by omega) (by decide) c3
    simp (decide := true) (disch := omega) only [e151_0, e151_1, e151_2, e151_3, e151_6, e151_9, e151_12, e151_13, e151_14, e151_15, e151_18, e151_21, e151_24, e151_25, e151_26, e151_27, e151_30, e151_33, e151_36, e151_37, e151_39, e151_42, e151_43, e151_44, e151_47, e151_48, e151_49, e151_50, e151_51, e151_54, e151_55, e151_56, e151_57, e151_58, e151_61, e151_62, e151_63, e151_64, e151_65, e151_69, e151_71, e151_74, e151_75, e151_78, e151_79, e151_80, e151_82, e151_83, e151_84, e151_87, e151_90, e151_91, bi_s, tyX, rl1, rl2, rl4, ↓reduceIte, Option.bind_some, true_and, and_true, false_and, and_false, true_or, or_true, false_or, or_false, if_same0, ite_eq0, ite_eq0', ite_eq1, ite_eq1', or_em, or_em', ite_not, lcmp0, lcmpL, lcmpG, nI_cl_b, eb_in_b, nI_1, nI_pred, Int32.reduceToNatClampNeg, eb_u_ap, Prod.mk.injEq, not_true_eq_false, not_false_eq_true, tyM, rl21, rl25, sp_rg, sp_iI, sp_iG, sp_iS, m_ins, c1, c2, c3]
    generalize hI0 : eb_u (eb_u (eb_u I (22, 0, 0) k 1) (23, 0, 0) k sort) (24, 0, 0) k (nI m) = I0
    obtain ⟨J1, e, e1, e2⟩ := eb_loop (α := eb_A → Nat → Int64) (n := 40) (s0 := J)
      (F := fun i t => eb_E L (d + 3) 151 67 [some (zr (21, 0, 0)), some (zi (nI k)), some (zi sort), some (zi (nI m)), some (zi (nI i))] [] (nc, ns, I0, t, eb_RL C mt mk))
      (P := fun i t => (∀ a l, ¬ a = (26, 0, k) → t a l = J a l) ∧ ∀ j, j < i → t (26, 0, k) j = 0)
      ⟨fun _ _ _ => rfl, fun j hj => by omega⟩ (by
        intro i J1 hi hP
        obtain ⟨h2, h3⟩ := hP
        rw [e151_67]
        have h1 : (nI i < 40) = True := by rw [show (40 : Int32) = nI 40 from rfl, nI_lt_b (by omega) (by omega)]; exact eq_true hi
        simp (decide := true) (disch := omega) only [e151_0, e151_1, e151_2, e151_3, e151_6, e151_9, e151_12, e151_13, e151_14, e151_15, e151_18, e151_21, e151_24, e151_25, e151_26, e151_27, e151_30, e151_33, e151_36, e151_37, e151_39, e151_42, e151_43, e151_44, e151_47, e151_48, e151_49, e151_50, e151_51, e151_54, e151_55, e151_56, e151_57, e151_58, e151_61, e151_62, e151_63, e151_64, e151_65, e151_69, e151_71, e151_74, e151_75, e151_78, e151_79, e151_80, e151_82, e151_83, e151_84, e151_87, e151_90, e151_91, bi_s, tyX, rl1, rl2, rl4, ↓reduceIte, Option.bind_some, true_and, and_true, false_and, and_false, true_or, or_true, false_or, or_false, if_same0, ite_eq0, ite_eq0', ite_eq1, ite_eq1', or_em, or_em', ite_not, lcmp0, lcmpL, lcmpG, nI_cl_b, eb_in_b, nI_1, nI_pred, Int32.reduceToNatClampNeg, eb_u_ap, Prod.mk.injEq, not_true_eq_false, not_false_eq_true, tyM, rl21, rl25, sp_rg, sp_iI, sp_iG, sp_iS, h1]
        refine ⟨eb_u J1 (26, 0, k) i 0, rfl, fun a l hal => (if_neg (fun z => hal z.1)).trans (h2 a l hal), fun j hj => ?_⟩
        by_cases q : j = i
        · subst q; exact eb_u_s
        · exact (if_neg (fun z => q z.2)).trans (h3 j (by omega)))
    simp only [nI_0] at e
    rw [e, e151_67]
    have h1 : nI 40 = 40 := rfl
    simp (decide := true) (disch := omega) only [e151_0, e151_1, e151_2, e151_3, e151_6, e151_9, e151_12, e151_13, e151_14, e151_15, e151_18, e151_21, e151_24, e151_25, e151_26, e151_27, e151_30, e151_33, e151_36, e151_37, e151_39, e151_42, e151_43, e151_44, e151_47, e151_48, e151_49, e151_50, e151_51, e151_54, e151_55, e151_56, e151_57, e151_58, e151_61, e151_62, e151_63, e151_64, e151_65, e151_69, e151_71, e151_74, e151_75, e151_78, e151_79, e151_80, e151_82, e151_83, e151_84, e151_87, e151_90, e151_91, bi_s, tyX, rl1, rl2, rl4, ↓reduceIte, Option.bind_some, true_and, and_true, false_and, and_false, true_or, or_true, false_or, or_false, if_same0, ite_eq0, ite_eq0', ite_eq1, ite_eq1', or_em, or_em', ite_not, lcmp0, lcmpL, lcmpG, nI_cl_b, eb_in_b, nI_1, nI_pred, Int32.reduceToNatClampNeg, eb_u_ap, Prod.mk.injEq, not_true_eq_false, not_false_eq_true, tyM, rl21, rl25, sp_rg, sp_iI, sp_iG, sp_iS, h1]
    refine ⟨nc, ns, I0, J1, mt, mk, rfl, eb_MS_J h rfl rfl rfl rfl (fun a l q => ?_) (fun s hs => ?_), ?_, fun a l q => e1 a l (fun z => by rw [z] at q; exact absurd q (by omega))⟩
    · rw [← hI0]
      have q1 : ¬ a = (22, 0, 0) := fun z => q (Or.inl z)
      have q2 : ¬ a = (23, 0, 0) := fun z => q (Or.inr (Or.inl z))
      have q3 : ¬ a = (24, 0, 0) := fun z => q (Or.inr (Or.inr (Or.inl z)))
      simp only [eb_u, q1, q2, q3, false_and, if_false]
    · show (sp_up (ss_h S) k sort s = -1 → _) ∧ (sp_rg (sp_up (ss_h S) k sort s) 0 4 → _ ∧ _ = sp_up (ss_h S) k sort s ∧ _ = nI (sp_up (ss_n S) k m s) ∧ ∀ j, j < 40 → _ = sp_up (ss_e S) k (fun _ => 0) s j) ∧ (¬ sp_up (ss_h S) k sort s < 10 → _ ∧ _ = sp_up (ss_h S) k sort s - 10)
      obtain ⟨b1, b2, b3⟩ := h.2.2.2.1 s hs
      by_cases q : s = k
      · subst q
        simp only [sp_up, if_true]
        refine ⟨fun z => absurd c2.1 (by rw [z]; decide), fun _ => ⟨by rw [← hI0]; simp [eb_u], by rw [← hI0]; simp [eb_u], by rw [← hI0]; simp [eb_u], e2⟩, fun z => absurd (Int32.lt_of_le_of_lt c2.2 (by decide)) z⟩
      · simp only [sp_up, q, if_false]
        have f22 : I0 (22, 0, 0) s = I (22, 0, 0) s := by rw [← hI0]; simp [eb_u, q]
        have f23 : I0 (23, 0, 0) s = I (23, 0, 0) s := by rw [← hI0]; simp [eb_u, q]
        have f24 : I0 (24, 0, 0) s = I (24, 0, 0) s := by rw [← hI0]; simp [eb_u, q]
        have f28 : I0 (28, 0, 0) s = I (28, 0, 0) s := by rw [← hI0]; simp [eb_u]
        rw [f22, f23, f24, f28]
        refine ⟨b1, fun z => ⟨(b2 z).1, (b2 z).2.1, (b2 z).2.2.1, fun j hj => ?_⟩, b3⟩
        rw [e1 _ _ (by simp [q])]; exact (b2 z).2.2.2 j hj
    · rw [← hI0]
      exact eb_fM_tr (eb_fM_tr (eb_fM_u (Nat.le_of_ble_eq_true rfl)) (eb_fM_u (Nat.le_of_ble_eq_true rfl))) (eb_fM_u (Nat.le_of_ble_eq_true rfl))
  all_goals
    rw [if_neg (fun q => by first | exact c1 q.1 | exact c2 q.2.1 | exact c3 q.2.2)]
    simp (decide := true) (disch := omega) only [e151_0, e151_1, e151_2, e151_3, e151_6, e151_9, e151_12, e151_13, e151_14, e151_15, e151_18, e151_21, e151_24, e151_25, e151_26, e151_27, e151_30, e151_33, e151_36, e151_37, e151_39, e151_42, e151_43, e151_44, e151_47, e151_48, e151_49, e151_50, e151_51, e151_54, e151_55, e151_56, e151_57, e151_58, e151_61, e151_62, e151_63, e151_64, e151_65, e151_69, e151_71, e151_74, e151_75, e151_78, e151_79, e151_80, e151_82, e151_83, e151_84, e151_87, e151_90, e151_91, bi_s, tyX, rl1, rl2, rl4, ↓reduceIte, Option.bind_some, true_and, and_true, false_and, and_false, true_or, or_true, false_or, or_false, if_same0, ite_eq0, ite_eq0', ite_eq1, ite_eq1', or_em, or_em', ite_not, lcmp0, lcmpL, lcmpG, nI_cl_b, eb_in_b, nI_1, nI_pred, Int32.reduceToNatClampNeg, eb_u_ap, Prod.mk.injEq, not_true_eq_false, not_false_eq_true, tyM, rl21, rl25, sp_rg, sp_iI, sp_iG, sp_iS, m_ins, c1, c2, c3, m_refuse0]
    exact ⟨nc, ns, _, J, mt, mk, rfl, fm_rf h (by omega)⟩
theorem mf_set (ok : sp_St S) {s i : Int32} {v : Int64} : eb_FM L (d + 5) 154 [zi s, zi i, zl v] S (sf_set S s i v).2 (zi (sf_set S s i v).1) := by
  intro nc ns I J C mt mk h
  rw [h154 rfl]
  unfold sf_set
  have hf := m_noRow (L := L) (d := d + 2) (C := C) h ok (s := s)
  cases hs : sp_fault S s with
  | some kk =>
    have hk := sp_fault_lt hs
    simp only [hs] at hf
    simp (decide := true) (disch := omega) only [e154_0, e154_1, e154_2, e154_5, e154_7, e154_9, e154_12, e154_14, e154_15, e154_16, e154_17, e154_18, e154_19, e154_22, e154_23, e154_24, e154_25, e154_26, e154_27, e154_30, e154_33, e154_34, e154_36, e154_39, e154_40, e154_41, e154_44, e154_45, e154_46, e154_47, e154_48, e154_51, e154_52, e154_53, e154_54, e154_57, e154_58, e154_59, bi_s, tyX, rl1, rl2, rl4, ↓reduceIte, Option.bind_some, true_and, and_true, false_and, and_false, true_or, or_true, false_or, or_false, if_same0, ite_eq0, ite_eq0', ite_eq1, ite_eq1', or_em, or_em', ite_not, lcmp0, lcmpL, lcmpG, nI_cl_b, eb_in_b, nI_1, nI_pred, Int32.reduceToNatClampNeg, eb_u_ap, Prod.mk.injEq, not_true_eq_false, not_false_eq_true, tyM, rl21, rl25, sp_rg, sp_iI, sp_iG, sp_iS, hf, ref_ne]
    exact ⟨nc, ns, _, J, mt, mk, rfl, fm_rf h (by omega)⟩
  | none =>
    obtain ⟨k, hk, rfl, hr⟩ := sp_fault_none hs
    simp only [hs] at hf
    have hn : ss_n S k ≤ 40 := by
      rcases St_held ok hk with q | q | ⟨g, _, _, q, _⟩
      · exact absurd hr q.2.1
      · exact q.2.1
      · exact absurd hr q
    obtain ⟨-, g1, -⟩ := h.2.2.2.1 k hk
    obtain ⟨g1, g2, g3, g4⟩ := g1 hr
    have htn : tn (nI k) = k := nI_cl_b (by omega)
    simp only [htn]
    by_cases c : 0 ≤ i ∧ i < nI (ss_n S k)
    · rw [if_pos c]
      obtain ⟨j, hj, rfl⟩ := rg_nat (by omega) c
      have hft := fun M => m_fit (L := L) (d := d + 3) (M := M) (v := v) hr
      simp (decide := true) (disch := omega) only [e154_0, e154_1, e154_2, e154_5, e154_7, e154_9, e154_12, e154_14, e154_15, e154_16, e154_17, e154_18, e154_19, e154_22, e154_23, e154_24, e154_25, e154_26, e154_27, e154_30, e154_33, e154_34, e154_36, e154_39, e154_40, e154_41, e154_44, e154_45, e154_46, e154_47, e154_48, e154_51, e154_52, e154_53, e154_54, e154_57, e154_58, e154_59, bi_s, tyX, rl1, rl2, rl4, ↓reduceIte, Option.bind_some, true_and, and_true, false_and, and_false, true_or, or_true, false_or, or_false, if_same0, ite_eq0, ite_eq0', ite_eq1, ite_eq1', or_em, or_em', ite_not, lcmp0, lcmpL, lcmpG, nI_cl_b, eb_in_b, nI_1, nI_pred, Int32.reduceToNatClampNeg, eb_u_ap, Prod.mk.injEq, not_true_eq_false, not_false_eq_true, tyM, rl21, rl25, sp_rg, sp_iI, sp_iG, sp_iS, hf, g2, g3, m_ins, rg_pos c (show ss_n S k ≤ 100000 by omega), c, hft]
      refine ⟨nc, ns, I, eb_u J (26, 0, k) j (xs_low (ss_h S k) v), mt, mk, rfl, eb_MS_J h rfl rfl rfl rfl (fun _ _ _ => rfl) (fun s hs => ?_), eb_fM_rf, fun a l q => if_neg (fun z => by rw [z.1] at q; exact absurd q (by omega))⟩
      obtain ⟨b1, b2, b3⟩ := h.2.2.2.1 s hs
      refine ⟨b1, fun z => ⟨(b2 z).1, (b2 z).2.1, (b2 z).2.2.1, fun l hl => ?_⟩, b3⟩
      show (if ((26, 0, s) : eb_A) = (26, 0, k) ∧ l = j then xs_low (ss_h S k) v else J (26, 0, s) l) = sp_up (ss_e S) k (sp_up (ss_e S k) j (xs_low (ss_h S k) v)) s l
      by_cases q : s = k
      · subst q
        by_cases q2 : l = j
        · simp [sp_up, q2]
        · simp only [sp_up, q2, and_false, if_false, if_true]; exact g4 l hl
      · simp only [sp_up, Prod.mk.injEq, q, and_false, false_and, if_false]
        exact (b2 z).2.2.2 l hl
    · rw [if_neg c]
      simp (decide := true) (disch := omega) only [e154_0, e154_1, e154_2, e154_5, e154_7, e154_9, e154_12, e154_14, e154_15, e154_16, e154_17, e154_18, e154_19, e154_22, e154_23, e154_24, e154_25, e154_26, e154_27, e154_30, e154_33, e154_34, e154_36, e154_39, e154_40, e154_41, e154_44, e154_45, e154_46, e154_47, e154_48, e154_51, e154_52, e154_53, e154_54, e154_57, e154_58, e154_59, bi_s, tyX, rl1, rl2, rl4, ↓reduceIte, Option.bind_some, true_and, and_true, false_and, and_false, true_or, or_true, false_or, or_false, if_same0, ite_eq0, ite_eq0', ite_eq1, ite_eq1', or_em, or_em', ite_not, lcmp0, lcmpL, lcmpG, nI_cl_b, eb_in_b, nI_1, nI_pred, Int32.reduceToNatClampNeg, eb_u_ap, Prod.mk.injEq, not_true_eq_false, not_false_eq_true, tyM, rl21, rl25, sp_rg, sp_iI, sp_iG, sp_iS, hf, g3, m_ins, rg_pred, c, m_refuse0]
      exact ⟨nc, ns, _, J, mt, mk, rfl, fm_rf h (by omega)⟩
theorem mf_element (ok : sp_St S) {s i : Int32} : eb_FM L (d + 4) 156 [zi s, zi i] S S (zl (sf_element S s i)) := by
  intro nc ns I J C mt mk h
  rw [h156 rfl]
  unfold sf_element
  refine ⟨nc, ns, I, J, mt, mk, ?_, fm_0 h⟩
  by_cases c1 : sp_rg s 0 7
  · obtain ⟨k, hk, rfl⟩ := rg_le 7 (by omega) (by decide) c1
    obtain ⟨b1, b2, b3⟩ := h.2.2.2.1 k (by omega)
    rcases St_held ok (show k < 8 by omega) with ⟨q1, q2, q3⟩ | ⟨q1, q2, q3, q4⟩ | ⟨g, hg, q1, q2, q3, q4⟩
    · have b := b1 q1
      simp (decide := true) (disch := omega) only [e156_0, e156_1, e156_2, e156_3, e156_6, e156_9, e156_12, e156_13, e156_16, e156_17, e156_18, e156_19, e156_22, e156_23, e156_24, e156_25, e156_26, e156_29, e156_30, e156_31, e156_32, e156_33, e156_34, e156_37, e156_40, e156_41, e156_44, e156_45, e156_46, e156_47, e156_48, e156_51, e156_52, bi_s, tyX, rl1, rl2, rl4, ↓reduceIte, Option.bind_some, true_and, and_true, false_and, and_false, true_or, or_true, false_or, or_false, if_same0, ite_eq0, ite_eq0', ite_eq1, ite_eq1', or_em, or_em', ite_not, lcmp0, lcmpL, lcmpG, nI_cl_b, eb_in_b, nI_1, nI_pred, Int32.reduceToNatClampNeg, eb_u_ap, Prod.mk.injEq, not_true_eq_false, not_false_eq_true, tyM, rl21, rl25, sp_rg, sp_iI, sp_iG, sp_iS, m_ins, c1, b, q2, tn]
    · obtain ⟨g1, g2, g3, g4⟩ := b2 q1
      by_cases c3 : 0 ≤ i ∧ i < nI (ss_n S k)
      · obtain ⟨j, hj, rfl⟩ := rg_nat (by omega) c3
        have g5 := g4 j (by omega)
        simp (decide := true) (disch := omega) only [e156_0, e156_1, e156_2, e156_3, e156_6, e156_9, e156_12, e156_13, e156_16, e156_17, e156_18, e156_19, e156_22, e156_23, e156_24, e156_25, e156_26, e156_29, e156_30, e156_31, e156_32, e156_33, e156_34, e156_37, e156_40, e156_41, e156_44, e156_45, e156_46, e156_47, e156_48, e156_51, e156_52, bi_s, tyX, rl1, rl2, rl4, ↓reduceIte, Option.bind_some, true_and, and_true, false_and, and_false, true_or, or_true, false_or, or_false, if_same0, ite_eq0, ite_eq0', ite_eq1, ite_eq1', or_em, or_em', ite_not, lcmp0, lcmpL, lcmpG, nI_cl_b, eb_in_b, nI_1, nI_pred, Int32.reduceToNatClampNeg, eb_u_ap, Prod.mk.injEq, not_true_eq_false, not_false_eq_true, tyM, rl21, rl25, sp_rg, sp_iI, sp_iG, sp_iS, m_ins, c1, g1, q1, g3, rg_pos c3 (show ss_n S k ≤ 100000 by omega), c3, g5, tn]
      · have c4 := c3
        rw [← rg_pred (by omega)] at c4
        simp (decide := true) (disch := omega) only [e156_0, e156_1, e156_2, e156_3, e156_6, e156_9, e156_12, e156_13, e156_16, e156_17, e156_18, e156_19, e156_22, e156_23, e156_24, e156_25, e156_26, e156_29, e156_30, e156_31, e156_32, e156_33, e156_34, e156_37, e156_40, e156_41, e156_44, e156_45, e156_46, e156_47, e156_48, e156_51, e156_52, bi_s, tyX, rl1, rl2, rl4, ↓reduceIte, Option.bind_some, true_and, and_true, false_and, and_false, true_or, or_true, false_or, or_false, if_same0, ite_eq0, ite_eq0', ite_eq1, ite_eq1', or_em, or_em', ite_not, lcmp0, lcmpL, lcmpG, nI_cl_b, eb_in_b, nI_1, nI_pred, Int32.reduceToNatClampNeg, eb_u_ap, Prod.mk.injEq, not_true_eq_false, not_false_eq_true, tyM, rl21, rl25, sp_rg, sp_iI, sp_iG, sp_iS, m_ins, c1, g1, q1, g3, c3, c4, tn]
    · have b := (b3 q3).1
      simp (decide := true) (disch := omega) only [e156_0, e156_1, e156_2, e156_3, e156_6, e156_9, e156_12, e156_13, e156_16, e156_17, e156_18, e156_19, e156_22, e156_23, e156_24, e156_25, e156_26, e156_29, e156_30, e156_31, e156_32, e156_33, e156_34, e156_37, e156_40, e156_41, e156_44, e156_45, e156_46, e156_47, e156_48, e156_51, e156_52, bi_s, tyX, rl1, rl2, rl4, ↓reduceIte, Option.bind_some, true_and, and_true, false_and, and_false, true_or, or_true, false_or, or_false, if_same0, ite_eq0, ite_eq0', ite_eq1, ite_eq1', or_em, or_em', ite_not, lcmp0, lcmpL, lcmpG, nI_cl_b, eb_in_b, nI_1, nI_pred, Int32.reduceToNatClampNeg, eb_u_ap, Prod.mk.injEq, not_true_eq_false, not_false_eq_true, tyM, rl21, rl25, sp_rg, sp_iI, sp_iG, sp_iS, m_ins, c1, b, q2, tn]
  · simp (decide := true) (disch := omega) only [e156_0, e156_1, e156_2, e156_3, e156_6, e156_9, e156_12, e156_13, e156_16, e156_17, e156_18, e156_19, e156_22, e156_23, e156_24, e156_25, e156_26, e156_29, e156_30, e156_31, e156_32, e156_33, e156_34, e156_37, e156_40, e156_41, e156_44, e156_45, e156_46, e156_47, e156_48, e156_51, e156_52, bi_s, tyX, rl1, rl2, rl4, ↓reduceIte, Option.bind_some, true_and, and_true, false_and, and_false, true_or, or_true, false_or, or_false, if_same0, ite_eq0, ite_eq0', ite_eq1, ite_eq1', or_em, or_em', ite_not, lcmp0, lcmpL, lcmpG, nI_cl_b, eb_in_b, nI_1, nI_pred, Int32.reduceToNatClampNeg, eb_u_ap, Prod.mk.injEq, not_true_eq_false, not_false_eq_true, tyM, rl21, rl25, sp_rg, sp_iI, sp_iG, sp_iS, m_ins, c1]
theorem mf_holds (ok : sp_St S) {s : Int32} : eb_FM L (d + 4) 157 [zi s] S (sf_holds S s).2 (zi (sf_holds S s).1) := by
  intro nc ns I J C mt mk h
  rw [h157 rfl]
  unfold sf_holds
  refine ⟨nc, ns, I, J, mt, mk, ?_, fm_0 h⟩
  by_cases c1 : sp_rg s 0 7
  · obtain ⟨k, hk, rfl⟩ := rg_le 7 (by omega) (by decide) c1
    obtain ⟨b1, b2, b3⟩ := h.2.2.2.1 k (by omega)
    rcases St_held ok (show k < 8 by omega) with ⟨q1, q2, q3⟩ | ⟨q1, q2, q3, q4⟩ | ⟨g, hg, q1, q2, q3, q4⟩
    · have b := b1 q1
      simp (decide := true) (disch := omega) only [e157_0, e157_1, e157_2, e157_3, e157_6, e157_9, e157_12, e157_13, e157_16, e157_17, e157_18, e157_21, e157_22, e157_23, e157_24, e157_27, e157_28, e157_29, e157_30, e157_33, e157_34, e157_37, e157_38, e157_39, e157_42, e157_44, e157_45, e157_48, e157_49, e157_50, e157_51, bi_s, tyX, rl1, rl2, rl4, ↓reduceIte, Option.bind_some, true_and, and_true, false_and, and_false, true_or, or_true, false_or, or_false, if_same0, ite_eq0, ite_eq0', ite_eq1, ite_eq1', or_em, or_em', ite_not, lcmp0, lcmpL, lcmpG, nI_cl_b, eb_in_b, nI_1, nI_pred, Int32.reduceToNatClampNeg, eb_u_ap, Prod.mk.injEq, not_true_eq_false, not_false_eq_true, tyM, rl21, rl25, sp_rg, sp_iI, sp_iG, sp_iS, m_ins, c1, b, q1, tn]
    · obtain ⟨g1, g2, g3, g4⟩ := b2 q1
      simp (decide := true) (disch := omega) only [e157_0, e157_1, e157_2, e157_3, e157_6, e157_9, e157_12, e157_13, e157_16, e157_17, e157_18, e157_21, e157_22, e157_23, e157_24, e157_27, e157_28, e157_29, e157_30, e157_33, e157_34, e157_37, e157_38, e157_39, e157_42, e157_44, e157_45, e157_48, e157_49, e157_50, e157_51, bi_s, tyX, rl1, rl2, rl4, ↓reduceIte, Option.bind_some, true_and, and_true, false_and, and_false, true_or, or_true, false_or, or_false, if_same0, ite_eq0, ite_eq0', ite_eq1, ite_eq1', or_em, or_em', ite_not, lcmp0, lcmpL, lcmpG, nI_cl_b, eb_in_b, nI_1, nI_pred, Int32.reduceToNatClampNeg, eb_u_ap, Prod.mk.injEq, not_true_eq_false, not_false_eq_true, tyM, rl21, rl25, sp_rg, sp_iI, sp_iG, sp_iS, m_ins, c1, g1, g2, tn]
    · obtain ⟨g1, g2⟩ := b3 q3
      have e : 10 + (ss_h S k - 10) = ss_h S k := by rw [Int32.add_comm, Int32.sub_add_cancel]
      simp (decide := true) (disch := omega) only [e157_0, e157_1, e157_2, e157_3, e157_6, e157_9, e157_12, e157_13, e157_16, e157_17, e157_18, e157_21, e157_22, e157_23, e157_24, e157_27, e157_28, e157_29, e157_30, e157_33, e157_34, e157_37, e157_38, e157_39, e157_42, e157_44, e157_45, e157_48, e157_49, e157_50, e157_51, bi_s, tyX, rl1, rl2, rl4, ↓reduceIte, Option.bind_some, true_and, and_true, false_and, and_false, true_or, or_true, false_or, or_false, if_same0, ite_eq0, ite_eq0', ite_eq1, ite_eq1', or_em, or_em', ite_not, lcmp0, lcmpL, lcmpG, nI_cl_b, eb_in_b, nI_1, nI_pred, Int32.reduceToNatClampNeg, eb_u_ap, Prod.mk.injEq, not_true_eq_false, not_false_eq_true, tyM, rl21, rl25, sp_rg, sp_iI, sp_iG, sp_iS, m_ins, c1, g1, g2, e, tn]
  · simp (decide := true) (disch := omega) only [e157_0, e157_1, e157_2, e157_3, e157_6, e157_9, e157_12, e157_13, e157_16, e157_17, e157_18, e157_21, e157_22, e157_23, e157_24, e157_27, e157_28, e157_29, e157_30, e157_33, e157_34, e157_37, e157_38, e157_39, e157_42, e157_44, e157_45, e157_48, e157_49, e157_50, e157_51, bi_s, tyX, rl1, rl2, rl4, ↓reduceIte, Option.bind_some, true_and, and_true, false_and, and_false, true_or, or_true, false_or, or_false, if_same0, ite_eq0, ite_eq0', ite_eq1, ite_eq1', or_em, or_em', ite_not, lcmp0, lcmpL, lcmpG, nI_cl_b, eb_in_b, nI_1, nI_pred, Int32.reduceToNatClampNeg, eb_u_ap, Prod.mk.injEq, not_true_eq_false, not_false_eq_true, tyM, rl21, rl25, sp_rg, sp_iI, sp_iG, sp_iS, m_ins, c1]
theorem mf_show (ok : sp_St S) {s gg : Int32} : eb_FM L (d + 5) 158 [zi s, zi gg] S (sf_show S s gg).2 (zi (sf_show S s gg).1) := by
  intro nc ns I J C mt mk h
  rw [h158 rfl]
  unfold sf_show
  have hG := m_isGoer (L := L) (d := d + 2) (nc := nc) (ns := ns) (J := J) (C := C) (mt := mt) (mk := mk) (x := gg) h.1 ok.1
  have hg6 := ok.1.2.1
  have fin : ∀ (k : Nat) (v z : Int32), k < 8 → (v = -1 ∧ z = 0 ∨ (∃ g, g < 6 ∧ v = nI (10 + g) ∧ gg = nI g) ∧ z = 2) → eb_MS (sp_toH S k v) (eb_u (eb_u I (22, 0, 0) k z) (28, 0, 0) k gg) J nc ns mt mk ∧ eb_fM I (eb_u (eb_u I (22, 0, 0) k z) (28, 0, 0) k gg) ∧ eb_fN J J := by
    intro k v z hk hv
    refine ⟨eb_MS_J h rfl rfl rfl rfl (fun a l q => ?_) (fun s hs => ?_), eb_fM_tr (eb_fM_u (Nat.le_of_ble_eq_true rfl)) (eb_fM_u (Nat.le_of_ble_eq_true rfl)), eb_fN_rf⟩
    · have q1 : ¬ a = (22, 0, 0) := fun z => q (Or.inl z)
      have q2 : ¬ a = (28, 0, 0) := fun z => q (Or.inr (Or.inr (Or.inr z)))
      simp only [eb_u, q1, q2, false_and, if_false]
    · show (sp_up (ss_h S) k v s = -1 → _) ∧ (sp_rg (sp_up (ss_h S) k v s) 0 4 → _ ∧ _ = sp_up (ss_h S) k v s ∧ _ = nI (ss_n S s) ∧ ∀ j, j < 40 → _ = ss_e S s j) ∧ (¬ sp_up (ss_h S) k v s < 10 → _ ∧ _ = sp_up (ss_h S) k v s - 10)
      obtain ⟨b1, b2, b3⟩ := h.2.2.2.1 s hs
      by_cases q : s = k
      · subst q
        simp only [sp_up, if_true]
        rcases hv with ⟨rfl, rfl⟩ | ⟨⟨g, hg, rfl, rfl⟩, rfl⟩
        · exact ⟨fun _ => by simp [eb_u], fun y => absurd y (by decide), fun y => absurd y (by decide)⟩
        · have hsub : nI (10 + g) - 10 = nI g := by rw [Nat.add_comm, ← nI_add]; exact Int32.add_sub_cancel _ _
          refine ⟨fun y => ?_, fun y => ?_, fun _ => ⟨by simp [eb_u], by rw [hsub]; simp [eb_u]⟩⟩
          · rw [nI_m1 (by omega)] at y; exact y.elim
          · have := y.2
            rw [show (4 : Int32) = nI 4 from rfl, nI_le_b (by omega) (by omega)] at this
            omega
      · simp only [sp_up, q, if_false]
        have f22 : eb_u (eb_u I (22, 0, 0) k z) (28, 0, 0) k gg (22, 0, 0) s = I (22, 0, 0) s := by simp [eb_u, q]
        have f23 : eb_u (eb_u I (22, 0, 0) k z) (28, 0, 0) k gg (23, 0, 0) s = I (23, 0, 0) s := by simp [eb_u]
        have f24 : eb_u (eb_u I (22, 0, 0) k z) (28, 0, 0) k gg (24, 0, 0) s = I (24, 0, 0) s := by simp [eb_u]
        have f28 : eb_u (eb_u I (22, 0, 0) k z) (28, 0, 0) k gg (28, 0, 0) s = I (28, 0, 0) s := by simp [eb_u, q]
        rw [f22, f23, f24, f28]
        exact ⟨b1, b2, b3⟩
  by_cases c1 : sp_rg s 0 7
  · by_cases c2 : gg = -1
    · rw [if_pos ⟨c1, Or.inl c2⟩, if_pos c2]
      obtain ⟨k, hk, rfl⟩ := rg_le 7 (by omega) (by decide) c1
      rw [show tn (nI k) = k from nI_cl_b (by omega)]
      have f := fin k (-1) 0 (by omega) (Or.inl ⟨rfl, rfl⟩)
      subst c2
      simp (decide := true) (disch := omega) only [e158_0, e158_1, e158_2, e158_3, e158_6, e158_9, e158_12, e158_13, e158_14, e158_17, e158_18, e158_19, e158_22, e158_25, e158_26, e158_28, e158_31, e158_32, e158_33, e158_36, e158_37, e158_38, e158_39, e158_42, e158_43, e158_46, e158_47, e158_48, e158_49, e158_52, e158_53, e158_54, e158_55, e158_56, bi_s, tyX, rl1, rl2, rl4, ↓reduceIte, Option.bind_some, true_and, and_true, false_and, and_false, true_or, or_true, false_or, or_false, if_same0, ite_eq0, ite_eq0', ite_eq1, ite_eq1', or_em, or_em', ite_not, lcmp0, lcmpL, lcmpG, nI_cl_b, eb_in_b, nI_1, nI_pred, Int32.reduceToNatClampNeg, eb_u_ap, Prod.mk.injEq, not_true_eq_false, not_false_eq_true, tyM, rl21, rl25, sp_rg, sp_iI, sp_iG, sp_iS, m_ins, c1]
      exact ⟨nc, ns, eb_u (eb_u I (22, 0, 0) k 0) (28, 0, 0) k (-1), J, mt, mk, rfl, f⟩
    · by_cases c3 : sp_iG S.1 gg
      · rw [if_pos ⟨c1, Or.inr c3⟩, if_neg c2]
        rw [if_pos c3] at hG
        obtain ⟨k, hk, rfl⟩ := rg_le 7 (by omega) (by decide) c1
        rw [show tn (nI k) = k from nI_cl_b (by omega)]
        obtain ⟨g, hg, eg⟩ := rg_nat (by omega) c3
        have f := fin k (10 + gg) 2 (by omega) (Or.inr ⟨⟨g, by omega, by rw [eg]; exact nI_add 10 g, eg⟩, rfl⟩)
        simp (decide := true) (disch := omega) only [e158_0, e158_1, e158_2, e158_3, e158_6, e158_9, e158_12, e158_13, e158_14, e158_17, e158_18, e158_19, e158_22, e158_25, e158_26, e158_28, e158_31, e158_32, e158_33, e158_36, e158_37, e158_38, e158_39, e158_42, e158_43, e158_46, e158_47, e158_48, e158_49, e158_52, e158_53, e158_54, e158_55, e158_56, bi_s, tyX, rl1, rl2, rl4, ↓reduceIte, Option.bind_some, true_and, and_true, false_and, and_false, true_or, or_true, false_or, or_false, if_same0, ite_eq0, ite_eq0', ite_eq1, ite_eq1', or_em, or_em', ite_not, lcmp0, lcmpL, lcmpG, nI_cl_b, eb_in_b, nI_1, nI_pred, Int32.reduceToNatClampNeg, eb_u_ap, Prod.mk.injEq, not_true_eq_false, not_false_eq_true, tyM, rl21, rl25, sp_rg, sp_iI, sp_iG, sp_iS, m_ins, c1, c2, hG]
        exact ⟨nc, ns, eb_u (eb_u I (22, 0, 0) k 2) (28, 0, 0) k gg, J, mt, mk, rfl, f⟩
      · rw [if_neg (fun q => q.2.elim c2 c3)]
        rw [if_neg c3] at hG
        simp (decide := true) (disch := omega) only [e158_0, e158_1, e158_2, e158_3, e158_6, e158_9, e158_12, e158_13, e158_14, e158_17, e158_18, e158_19, e158_22, e158_25, e158_26, e158_28, e158_31, e158_32, e158_33, e158_36, e158_37, e158_38, e158_39, e158_42, e158_43, e158_46, e158_47, e158_48, e158_49, e158_52, e158_53, e158_54, e158_55, e158_56, bi_s, tyX, rl1, rl2, rl4, ↓reduceIte, Option.bind_some, true_and, and_true, false_and, and_false, true_or, or_true, false_or, or_false, if_same0, ite_eq0, ite_eq0', ite_eq1, ite_eq1', or_em, or_em', ite_not, lcmp0, lcmpL, lcmpG, nI_cl_b, eb_in_b, nI_1, nI_pred, Int32.reduceToNatClampNeg, eb_u_ap, Prod.mk.injEq, not_true_eq_false, not_false_eq_true, tyM, rl21, rl25, sp_rg, sp_iI, sp_iG, sp_iS, m_ins, c1, c2, hG, m_refuse0]
        exact ⟨nc, ns, _, J, mt, mk, rfl, fm_rf h (by omega)⟩
  · rw [if_neg (fun q => c1 q.1)]
    simp (decide := true) (disch := omega) only [e158_0, e158_1, e158_2, e158_3, e158_6, e158_9, e158_12, e158_13, e158_14, e158_17, e158_18, e158_19, e158_22, e158_25, e158_26, e158_28, e158_31, e158_32, e158_33, e158_36, e158_37, e158_38, e158_39, e158_42, e158_43, e158_46, e158_47, e158_48, e158_49, e158_52, e158_53, e158_54, e158_55, e158_56, bi_s, tyX, rl1, rl2, rl4, ↓reduceIte, Option.bind_some, true_and, and_true, false_and, and_false, true_or, or_true, false_or, or_false, if_same0, ite_eq0, ite_eq0', ite_eq1, ite_eq1', or_em, or_em', ite_not, lcmp0, lcmpL, lcmpG, nI_cl_b, eb_in_b, nI_1, nI_pred, Int32.reduceToNatClampNeg, eb_u_ap, Prod.mk.injEq, not_true_eq_false, not_false_eq_true, tyM, rl21, rl25, sp_rg, sp_iI, sp_iG, sp_iS, m_ins, c1, m_refuse0]
    exact ⟨nc, ns, _, J, mt, mk, rfl, fm_rf h (by omega)⟩
theorem mf_says (ok : sp_St S) {s kind : Int32} : eb_FM L (d + 5) 160 [zi s, zi kind] S (sf_says S s kind).2 (zi (sf_says S s kind).1) := by
  intro nc ns I J C mt mk h
  rw [h160 rfl]
  unfold sf_says
  by_cases c1 : sp_rg s 0 7
  · by_cases c2 : sp_rg kind 0 5
    · rw [if_neg (fun q => q ⟨c1, c2⟩)]
      obtain ⟨k, hk, rfl⟩ := rg_le 7 (by omega) (by decide) c1
      have htn : tn (nI k) = k := nI_cl_b (by omega)
      simp only [htn]
      obtain ⟨b1, b2, b3⟩ := h.2.2.2.1 k (by omega)
      rcases St_held ok (show k < 8 by omega) with ⟨q1, q2, q3⟩ | ⟨q1, q2, q3, q4⟩ | ⟨g, hg, q1, q2, q3, q4⟩
      · rw [if_neg q2, if_pos q3]
        have b := b1 q1
        simp (decide := true) (disch := omega) only [e160_0, e160_1, e160_2, e160_3, e160_6, e160_9, e160_12, e160_13, e160_14, e160_15, e160_18, e160_21, e160_24, e160_25, e160_27, e160_30, e160_31, e160_32, e160_35, e160_36, e160_37, e160_38, e160_41, e160_42, e160_45, e160_46, e160_47, e160_48, e160_51, e160_52, e160_55, e160_56, e160_59, e160_60, e160_61, e160_62, e160_63, e160_64, e160_65, e160_68, e160_71, e160_72, e160_74, e160_77, e160_78, e160_79, e160_82, e160_83, e160_84, e160_87, e160_88, e160_90, e160_93, e160_94, e160_95, e160_98, e160_99, e160_102, e160_103, e160_106, e160_107, e160_108, e160_109, e160_110, e160_111, e160_114, e160_115, e160_116, e160_119, e160_120, e160_121, e160_124, bi_s, tyX, rl1, rl2, rl4, ↓reduceIte, Option.bind_some, true_and, and_true, false_and, and_false, true_or, or_true, false_or, or_false, if_same0, ite_eq0, ite_eq0', ite_eq1, ite_eq1', or_em, or_em', ite_not, lcmp0, lcmpL, lcmpG, nI_cl_b, eb_in_b, nI_1, nI_pred, Int32.reduceToNatClampNeg, eb_u_ap, Prod.mk.injEq, not_true_eq_false, not_false_eq_true, tyM, rl21, rl25, sp_rg, sp_iI, sp_iG, sp_iS, m_ins, c1, c2, b, m_refuse2]
        exact ⟨nc, ns, _, J, mt, mk, rfl, fm_rf h (by omega)⟩
      · rw [if_pos q1]
        have b := (b2 q1).1
        simp (decide := true) (disch := omega) only [e160_0, e160_1, e160_2, e160_3, e160_6, e160_9, e160_12, e160_13, e160_14, e160_15, e160_18, e160_21, e160_24, e160_25, e160_27, e160_30, e160_31, e160_32, e160_35, e160_36, e160_37, e160_38, e160_41, e160_42, e160_45, e160_46, e160_47, e160_48, e160_51, e160_52, e160_55, e160_56, e160_59, e160_60, e160_61, e160_62, e160_63, e160_64, e160_65, e160_68, e160_71, e160_72, e160_74, e160_77, e160_78, e160_79, e160_82, e160_83, e160_84, e160_87, e160_88, e160_90, e160_93, e160_94, e160_95, e160_98, e160_99, e160_102, e160_103, e160_106, e160_107, e160_108, e160_109, e160_110, e160_111, e160_114, e160_115, e160_116, e160_119, e160_120, e160_121, e160_124, bi_s, tyX, rl1, rl2, rl4, ↓reduceIte, Option.bind_some, true_and, and_true, false_and, and_false, true_or, or_true, false_or, or_false, if_same0, ite_eq0, ite_eq0', ite_eq1, ite_eq1', or_em, or_em', ite_not, lcmp0, lcmpL, lcmpG, nI_cl_b, eb_in_b, nI_1, nI_pred, Int32.reduceToNatClampNeg, eb_u_ap, Prod.mk.injEq, not_true_eq_false, not_false_eq_true, tyM, rl21, rl25, sp_rg, sp_iI, sp_iG, sp_iS, m_ins, c1, c2, b, m_refuse1]
        exact ⟨nc, ns, _, J, mt, mk, rfl, fm_rf h (by omega)⟩
      · rw [if_neg q2, if_neg q3]
        have := ok.1.2.1
        obtain ⟨g1, g2⟩ := b3 q3
        have hsub : nI (10 + g) - 10 = nI g := by rw [Nat.add_comm, ← nI_add]; exact Int32.add_sub_cancel _ _
        rw [q1, hsub] at g2
        rw [q1, hsub, show tn (nI g) = g from nI_cl_b (by omega)]
        have k0 := h.1.2.2 g hg 0 (by omega)
        have k1 := h.1.2.2 g hg 1 (by omega)
        have hch := m_choiceOf (L := L) (d := d) (nc := nc) (ns := ns) (J := J) (C := C) (mt := mt) (mk := mk) h.1 ok.1 hg
        by_cases c4 : kind = 0 ∨ kind = S.1.2.2.2.2 g 0 ∨ kind = 1 ∧ ¬ S.1.2.2.2.2 g 0 = 0 ∧ ¬ S.1.2.2.2.2 g 0 = 3
        · rw [if_neg (fun q => q c4)]
          have hu := fun M => m_isUnder (L := L) (d := d + 3) (M := M) (a := S.1.2.2.2.2 g 0) (b := kind)
          simp only [if_pos c4] at hu
          by_cases c5 : kind = 0
          · rw [if_pos c5]
            subst c5
            simp (decide := true) (disch := omega) only [e160_0, e160_1, e160_2, e160_3, e160_6, e160_9, e160_12, e160_13, e160_14, e160_15, e160_18, e160_21, e160_24, e160_25, e160_27, e160_30, e160_31, e160_32, e160_35, e160_36, e160_37, e160_38, e160_41, e160_42, e160_45, e160_46, e160_47, e160_48, e160_51, e160_52, e160_55, e160_56, e160_59, e160_60, e160_61, e160_62, e160_63, e160_64, e160_65, e160_68, e160_71, e160_72, e160_74, e160_77, e160_78, e160_79, e160_82, e160_83, e160_84, e160_87, e160_88, e160_90, e160_93, e160_94, e160_95, e160_98, e160_99, e160_102, e160_103, e160_106, e160_107, e160_108, e160_109, e160_110, e160_111, e160_114, e160_115, e160_116, e160_119, e160_120, e160_121, e160_124, bi_s, tyX, rl1, rl2, rl4, ↓reduceIte, Option.bind_some, true_and, and_true, false_and, and_false, true_or, or_true, false_or, or_false, if_same0, ite_eq0, ite_eq0', ite_eq1, ite_eq1', or_em, or_em', ite_not, lcmp0, lcmpL, lcmpG, nI_cl_b, eb_in_b, nI_1, nI_pred, Int32.reduceToNatClampNeg, eb_u_ap, Prod.mk.injEq, not_true_eq_false, not_false_eq_true, tyM, rl21, rl25, sp_rg, sp_iI, sp_iG, sp_iS, m_ins, c1, c2, g1, g2, k0, hu, k1]
            exact ⟨nc, ns, I, J, mt, mk, rfl, fm_0 h⟩
          · rw [if_neg c5]
            simp (decide := true) (disch := omega) only [e160_0, e160_1, e160_2, e160_3, e160_6, e160_9, e160_12, e160_13, e160_14, e160_15, e160_18, e160_21, e160_24, e160_25, e160_27, e160_30, e160_31, e160_32, e160_35, e160_36, e160_37, e160_38, e160_41, e160_42, e160_45, e160_46, e160_47, e160_48, e160_51, e160_52, e160_55, e160_56, e160_59, e160_60, e160_61, e160_62, e160_63, e160_64, e160_65, e160_68, e160_71, e160_72, e160_74, e160_77, e160_78, e160_79, e160_82, e160_83, e160_84, e160_87, e160_88, e160_90, e160_93, e160_94, e160_95, e160_98, e160_99, e160_102, e160_103, e160_106, e160_107, e160_108, e160_109, e160_110, e160_111, e160_114, e160_115, e160_116, e160_119, e160_120, e160_121, e160_124, bi_s, tyX, rl1, rl2, rl4, ↓reduceIte, Option.bind_some, true_and, and_true, false_and, and_false, true_or, or_true, false_or, or_false, if_same0, ite_eq0, ite_eq0', ite_eq1, ite_eq1', or_em, or_em', ite_not, lcmp0, lcmpL, lcmpG, nI_cl_b, eb_in_b, nI_1, nI_pred, Int32.reduceToNatClampNeg, eb_u_ap, Prod.mk.injEq, not_true_eq_false, not_false_eq_true, tyM, rl21, rl25, sp_rg, sp_iI, sp_iG, sp_iS, m_ins, c1, c2, g1, g2, k0, hu, c5, hch]
            exact ⟨nc, ns, I, J, mt, mk, rfl, fm_0 h⟩
        · rw [if_pos c4]
          have hu := fun M => m_isUnder (L := L) (d := d + 3) (M := M) (a := S.1.2.2.2.2 g 0) (b := kind)
          simp only [if_neg c4] at hu
          simp (decide := true) (disch := omega) only [e160_0, e160_1, e160_2, e160_3, e160_6, e160_9, e160_12, e160_13, e160_14, e160_15, e160_18, e160_21, e160_24, e160_25, e160_27, e160_30, e160_31, e160_32, e160_35, e160_36, e160_37, e160_38, e160_41, e160_42, e160_45, e160_46, e160_47, e160_48, e160_51, e160_52, e160_55, e160_56, e160_59, e160_60, e160_61, e160_62, e160_63, e160_64, e160_65, e160_68, e160_71, e160_72, e160_74, e160_77, e160_78, e160_79, e160_82, e160_83, e160_84, e160_87, e160_88, e160_90, e160_93, e160_94, e160_95, e160_98, e160_99, e160_102, e160_103, e160_106, e160_107, e160_108, e160_109, e160_110, e160_111, e160_114, e160_115, e160_116, e160_119, e160_120, e160_121, e160_124, bi_s, tyX, rl1, rl2, rl4, ↓reduceIte, Option.bind_some, true_and, and_true, false_and, and_false, true_or, or_true, false_or, or_false, if_same0, ite_eq0, ite_eq0', ite_eq1, ite_eq1', or_em, or_em', ite_not, lcmp0, lcmpL, lcmpG, nI_cl_b, eb_in_b, nI_1, nI_pred, Int32.reduceToNatClampNeg, eb_u_ap, Prod.mk.injEq, not_true_eq_false, not_false_eq_true, tyM, rl21, rl25, sp_rg, sp_iI, sp_iG, sp_iS, m_ins, c1, c2, g1, g2, k0, hu, m_refuse1]
          exact ⟨nc, ns, _, J, mt, mk, rfl, fm_rf h (by omega)⟩
    · rw [if_pos (fun q => c2 q.2)]
      simp (decide := true) (disch := omega) only [e160_0, e160_1, e160_2, e160_3, e160_6, e160_9, e160_12, e160_13, e160_14, e160_15, e160_18, e160_21, e160_24, e160_25, e160_27, e160_30, e160_31, e160_32, e160_35, e160_36, e160_37, e160_38, e160_41, e160_42, e160_45, e160_46, e160_47, e160_48, e160_51, e160_52, e160_55, e160_56, e160_59, e160_60, e160_61, e160_62, e160_63, e160_64, e160_65, e160_68, e160_71, e160_72, e160_74, e160_77, e160_78, e160_79, e160_82, e160_83, e160_84, e160_87, e160_88, e160_90, e160_93, e160_94, e160_95, e160_98, e160_99, e160_102, e160_103, e160_106, e160_107, e160_108, e160_109, e160_110, e160_111, e160_114, e160_115, e160_116, e160_119, e160_120, e160_121, e160_124, bi_s, tyX, rl1, rl2, rl4, ↓reduceIte, Option.bind_some, true_and, and_true, false_and, and_false, true_or, or_true, false_or, or_false, if_same0, ite_eq0, ite_eq0', ite_eq1, ite_eq1', or_em, or_em', ite_not, lcmp0, lcmpL, lcmpG, nI_cl_b, eb_in_b, nI_1, nI_pred, Int32.reduceToNatClampNeg, eb_u_ap, Prod.mk.injEq, not_true_eq_false, not_false_eq_true, tyM, rl21, rl25, sp_rg, sp_iI, sp_iG, sp_iS, m_ins, c1, c2, m_refuse0]
      exact ⟨nc, ns, _, J, mt, mk, rfl, fm_rf h (by omega)⟩
  · rw [if_pos (fun q => c1 q.1)]
    simp (decide := true) (disch := omega) only [e160_0, e160_1, e160_2, e160_3, e160_6, e160_9, e160_12, e160_13, e160_14, e160_15, e160_18, e160_21, e160_24, e160_25, e160_27, e160_30, e160_31, e160_32, e160_35, e160_36, e160_37, e160_38, e160_41, e160_42, e160_45, e160_46, e160_47, e160_48, e160_51, e160_52, e160_55, e160_56, e160_59, e160_60, e160_61, e160_62, e160_63, e160_64, e160_65, e160_68, e160_71, e160_72, e160_74, e160_77, e160_78, e160_79, e160_82, e160_83, e160_84, e160_87, e160_88, e160_90, e160_93, e160_94, e160_95, e160_98, e160_99, e160_102, e160_103, e160_106, e160_107, e160_108, e160_109, e160_110, e160_111, e160_114, e160_115, e160_116, e160_119, e160_120, e160_121, e160_124, bi_s, tyX, rl1, rl2, rl4, ↓reduceIte, Option.bind_some, true_and, and_true, false_and, and_false, true_or, or_true, false_or, or_false, if_same0, ite_eq0, ite_eq0', ite_eq1, ite_eq1', or_em, or_em', ite_not, lcmp0, lcmpL, lcmpG, nI_cl_b, eb_in_b, nI_1, nI_pred, Int32.reduceToNatClampNeg, eb_u_ap, Prod.mk.injEq, not_true_eq_false, not_false_eq_true, tyM, rl21, rl25, sp_rg, sp_iI, sp_iG, sp_iS, m_ins, c1, m_refuse0]
    exact ⟨nc, ns, _, J, mt, mk, rfl, fm_rf h (by omega)⟩
end

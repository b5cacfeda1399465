/-! the class's valleys: years -/
theorem sp_years_n {w : eb_W} : ∀ {m : Nat}, (sp_years w m).2.2.2.1 = w.1 ∧ (sp_years w m).2.2.2.2.1 = w.2.1 := by
  intro m
  induction m with
  | zero => exact ⟨rfl, rfl⟩
  | succ m ih => exact ih
section
variable {L d nc ns k i g : Nat} {I : eb_A → Nat → Int32} {J : eb_A → Nat → Int64} {C : Nat → Nat → Nat} {mt mk : Option Nat} {M : eb_M} {R : eb_A → Nat → Option eb_A} {w : eb_W} {N : eb_N}
theorem x_passYears (h : eb_RX I k w) (hw : sp_ok w) (hok : ∀ m, sp_ok (sp_years w m).2.2.2) {m : Nat} (hm : m ≤ 100000) : ∃ I' C', eb_ev L (d + 6) 61 [zr (4, k, 0), zi (nI m)] (nc, ns, I, J, eb_RL C mt mk) = some (zi (sp_years w m).1, (nc, ns, I', J, eb_RL C' mt mk)) ∧ eb_fr k I I' ∧ eb_RX I' k (sp_years w m).2.2.2 ∧ (∀ j, j < w.2.1 → I' (7, k, j) 5 = (sp_years w m).2.1 j) ∧ (∀ i, i < w.1 → I' (6, k, i) 8 = (sp_years w m).2.2.1 i) ∧ (∀ m', m = m' + 1 → eb_NX I' k w (sp_night (sp_years w m').2.2.2)) ∧ ∀ k' j, ¬ k' = k → C' k' j = C k' j := by
  have hn := hw.1
  have hg := hw.2.1
  rw [h61 rfl]
  simp (decide := true) (disch := omega) only [e61_0, e61_1, e61_3, e61_4, e61_7, e61_10, e61_11, e61_14, e61_15, e61_16, e61_17, e61_20, e61_23, e61_26, e61_27, e61_29, e61_30, e61_33, e61_36, e61_37, e61_40, e61_41, e61_42, e61_43, e61_46, e61_49, e61_52, e61_53, e61_54, e61_55, e61_57, e61_58, e61_61, e61_62, e61_65, e61_66, e61_67, e61_70, e61_71, e61_72, e61_75, e61_78, e61_79, bi_s, tyX, rl1, rl2, rl4, ↓reduceIte, Option.bind_some, true_and, and_true, false_and, and_false, true_or, or_true, false_or, or_false, if_same0, ite_eq0, ite_eq0', ite_eq1, ite_eq1', or_em, or_em', ite_not, lcmp0, lcmpL, lcmpG, nI_cl_b, eb_in_b, nI_1, nI_pred, Int32.reduceToNatClampNeg, eb_u_ap, Prod.mk.injEq, not_true_eq_false, not_false_eq_true]
  obtain ⟨I1, e, e1, e2⟩ := eb_loop (α := eb_A → Nat → Int32) (n := w.1) (s0 := I)
    (F := fun i s => eb_E L (d + 5) 61 2 [some (zr (4, k, 0)), some (zi (nI m)), some (zi (nI i)), none] [] (nc, ns, s, J, eb_RL C mt mk))
    (P := fun i s => (∀ a l, ¬ (a.1 = 6 ∧ a.2.1 = k ∧ l = 8) → s a l = I a l) ∧ ∀ j, j < i → s (6, k, j) 8 = 0)
    ⟨fun _ _ _ => rfl, fun j hj => by omega⟩ (by
      intro i I1 hi hP
      obtain ⟨h2, h3⟩ := hP
      have g4 : I1 (4, k, 0) 2 = nI w.1 := by rw [h2 _ _ (by simp)]; exact h.1.1
      rw [e61_2]
      simp (decide := true) (disch := omega) only [e61_0, e61_1, e61_3, e61_4, e61_7, e61_10, e61_11, e61_14, e61_15, e61_16, e61_17, e61_20, e61_23, e61_26, e61_27, e61_29, e61_30, e61_33, e61_36, e61_37, e61_40, e61_41, e61_42, e61_43, e61_46, e61_49, e61_52, e61_53, e61_54, e61_55, e61_57, e61_58, e61_61, e61_62, e61_65, e61_66, e61_67, e61_70, e61_71, e61_72, e61_75, e61_78, e61_79, bi_s, tyX, rl1, rl2, rl4, ↓reduceIte, Option.bind_some, true_and, and_true, false_and, and_false, true_or, or_true, false_or, or_false, if_same0, ite_eq0, ite_eq0', ite_eq1, ite_eq1', or_em, or_em', ite_not, lcmp0, lcmpL, lcmpG, nI_cl_b, eb_in_b, nI_1, nI_pred, Int32.reduceToNatClampNeg, eb_u_ap, Prod.mk.injEq, not_true_eq_false, not_false_eq_true, g4, nI_lt_b, hi]
      refine ⟨_, rfl, fun a l hal => ?_, fun j hj => ?_⟩
      · exact (if_neg (fun q => hal ⟨by rw [q.1], by rw [q.1], q.2⟩)).trans (h2 a l hal)
      · by_cases hji : j = i
        · subst hji; simp [eb_u]
        · simp only [eb_u, Prod.mk.injEq, hji, and_false, false_and, if_false]; exact h3 j (by omega))
  have g4 : I1 (4, k, 0) 2 = nI w.1 := by rw [e1 _ _ (by simp)]; exact h.1.1
  simp only [nI_0] at e
  rw [e, e61_2]
  simp (decide := true) (disch := omega) only [e61_0, e61_1, e61_3, e61_4, e61_7, e61_10, e61_11, e61_14, e61_15, e61_16, e61_17, e61_20, e61_23, e61_26, e61_27, e61_29, e61_30, e61_33, e61_36, e61_37, e61_40, e61_41, e61_42, e61_43, e61_46, e61_49, e61_52, e61_53, e61_54, e61_55, e61_57, e61_58, e61_61, e61_62, e61_65, e61_66, e61_67, e61_70, e61_71, e61_72, e61_75, e61_78, e61_79, bi_s, tyX, rl1, rl2, rl4, ↓reduceIte, Option.bind_some, true_and, and_true, false_and, and_false, true_or, or_true, false_or, or_false, if_same0, ite_eq0, ite_eq0', ite_eq1, ite_eq1', or_em, or_em', ite_not, lcmp0, lcmpL, lcmpG, nI_cl_b, eb_in_b, nI_1, nI_pred, Int32.reduceToNatClampNeg, eb_u_ap, Prod.mk.injEq, not_true_eq_false, not_false_eq_true, g4, nI_lt_b, Nat.lt_irrefl]
  obtain ⟨I2, e', p1, p2⟩ := eb_loop (α := eb_A → Nat → Int32) (n := w.2.1) (s0 := I1)
    (F := fun i s => eb_E L (d + 5) 61 28 [some (zr (4, k, 0)), some (zi (nI m)), some (zi (nI i)), none] [] (nc, ns, s, J, eb_RL C mt mk))
    (P := fun i s => (∀ a l, ¬ (a.1 = 7 ∧ a.2.1 = k ∧ l = 5) → s a l = I1 a l) ∧ ∀ j, j < i → s (7, k, j) 5 = 0)
    ⟨fun _ _ _ => rfl, fun j hj => by omega⟩ (by
      intro i I2 hi hP
      obtain ⟨h2, h3⟩ := hP
      have g5 : I2 (4, k, 0) 3 = nI w.2.1 := by rw [h2 _ _ (by simp), e1 _ _ (by simp)]; exact h.1.2.1
      rw [e61_28]
      simp (decide := true) (disch := omega) only [e61_0, e61_1, e61_3, e61_4, e61_7, e61_10, e61_11, e61_14, e61_15, e61_16, e61_17, e61_20, e61_23, e61_26, e61_27, e61_29, e61_30, e61_33, e61_36, e61_37, e61_40, e61_41, e61_42, e61_43, e61_46, e61_49, e61_52, e61_53, e61_54, e61_55, e61_57, e61_58, e61_61, e61_62, e61_65, e61_66, e61_67, e61_70, e61_71, e61_72, e61_75, e61_78, e61_79, bi_s, tyX, rl1, rl2, rl4, ↓reduceIte, Option.bind_some, true_and, and_true, false_and, and_false, true_or, or_true, false_or, or_false, if_same0, ite_eq0, ite_eq0', ite_eq1, ite_eq1', or_em, or_em', ite_not, lcmp0, lcmpL, lcmpG, nI_cl_b, eb_in_b, nI_1, nI_pred, Int32.reduceToNatClampNeg, eb_u_ap, Prod.mk.injEq, not_true_eq_false, not_false_eq_true, g5, nI_lt_b, hi]
      refine ⟨_, rfl, fun a l hal => ?_, fun j hj => ?_⟩
      · exact (if_neg (fun q => hal ⟨by rw [q.1], by rw [q.1], q.2⟩)).trans (h2 a l hal)
      · by_cases hji : j = i
        · subst hji; simp [eb_u]
        · simp only [eb_u, Prod.mk.injEq, hji, and_false, false_and, if_false]; exact h3 j (by omega))
  have hoff : ∀ a l, ¬ (a.1 = 6 ∧ a.2.1 = k ∧ l = 8) → ¬ (a.1 = 7 ∧ a.2.1 = k ∧ l = 5) → I2 a l = I a l := fun a l h1 h2 => by rw [p1 a l h2, e1 a l h1]
  have hR2 : eb_RX I2 k w := eb_RX_of h (fun l => hoff _ _ (by simp) (by simp)) (fun i l hl => hoff _ _ (by simp; omega) (by simp)) (fun j l hl => hoff _ _ (by simp) (by simp; omega))
  simp only [nI_0] at e'
  rw [e', e61_28]
  simp (decide := true) (disch := omega) only [e61_0, e61_1, e61_3, e61_4, e61_7, e61_10, e61_11, e61_14, e61_15, e61_16, e61_17, e61_20, e61_23, e61_26, e61_27, e61_29, e61_30, e61_33, e61_36, e61_37, e61_40, e61_41, e61_42, e61_43, e61_46, e61_49, e61_52, e61_53, e61_54, e61_55, e61_57, e61_58, e61_61, e61_62, e61_65, e61_66, e61_67, e61_70, e61_71, e61_72, e61_75, e61_78, e61_79, bi_s, tyX, rl1, rl2, rl4, ↓reduceIte, Option.bind_some, true_and, and_true, false_and, and_false, true_or, or_true, false_or, or_false, if_same0, ite_eq0, ite_eq0', ite_eq1, ite_eq1', or_em, or_em', ite_not, lcmp0, lcmpL, lcmpG, nI_cl_b, eb_in_b, nI_1, nI_pred, Int32.reduceToNatClampNeg, eb_u_ap, Prod.mk.injEq, not_true_eq_false, not_false_eq_true, hR2.1.2.1, nI_lt_b, Nat.lt_irrefl]
  obtain ⟨s, e'', y1, y2, y3, y4, y5, y6, y7⟩ := eb_loop (α := Int32 × (eb_A → Nat → Int32) × (Nat → Nat → Nat)) (n := m) (s0 := (0, I2, C))
    (F := fun i s => eb_E L (d + 5) 61 56 [some (zr (4, k, 0)), some (zi (nI m)), some (zi s.1), some (zi (nI i))] [] (nc, ns, s.2.1, J, eb_RL s.2.2 mt mk))
    (P := fun m s => s.1 = (sp_years w m).1 ∧ eb_fr k I s.2.1 ∧ eb_RX s.2.1 k (sp_years w m).2.2.2 ∧ (∀ j, j < w.2.1 → s.2.1 (7, k, j) 5 = (sp_years w m).2.1 j) ∧ (∀ i, i < w.1 → s.2.1 (6, k, i) 8 = (sp_years w m).2.2.1 i) ∧ (∀ m', m = m' + 1 → eb_NX s.2.1 k w (sp_night (sp_years w m').2.2.2)) ∧ ∀ k' j, ¬ k' = k → s.2.2 k' j = C k' j)
    ⟨rfl, fun a l hal => hoff a l (fun q => hal ⟨q.2.1, by omega, by omega⟩) (fun q => hal ⟨q.2.1, by omega, by omega⟩), hR2, fun j hj => p2 j hj, fun i hi => (p1 _ _ (by simp)).trans (e2 i hi), fun m' hm' => by omega, fun _ _ _ => rfl⟩ (by
      intro y s hy hP
      obtain ⟨a, I3, C3⟩ := s
      obtain ⟨z1, z2, z3, z4, z5, z6, z7⟩ := hP
      have z1 : a = (sp_years w y).1 := z1
      have z2 : eb_fr k I I3 := z2
      have z3 : eb_RX I3 k (sp_years w y).2.2.2 := z3
      have z4 : ∀ j, j < w.2.1 → I3 (7, k, j) 5 = (sp_years w y).2.1 j := z4
      have z5 : ∀ i, i < w.1 → I3 (6, k, i) 8 = (sp_years w y).2.2.1 i := z5
      have z7 : ∀ k' j, ¬ k' = k → C3 k' j = C k' j := z7
      have hnn := sp_years_n (w := w) (m := y)
      obtain ⟨I4, C4, t1, t2, t3, t4⟩ := x_spendNight (L := L) (d := d) (nc := nc) (ns := ns) (J := J) (C := C3) (mt := mt) (mk := mk) z3 (hok y)
      have hR4 := eb_fn_RX t2 z3
      obtain ⟨I5, u1, u2, u3, u4, u5, u6⟩ := x_endYear (L := L) (d := d + 1) (nc := nc) (ns := ns) (J := J) (C := C4) (mt := mt) (mk := mk) hR4 t3 (hok y)
      rw [e61_56]
      simp (decide := true) (disch := omega) only [e61_0, e61_1, e61_3, e61_4, e61_7, e61_10, e61_11, e61_14, e61_15, e61_16, e61_17, e61_20, e61_23, e61_26, e61_27, e61_29, e61_30, e61_33, e61_36, e61_37, e61_40, e61_41, e61_42, e61_43, e61_46, e61_49, e61_52, e61_53, e61_54, e61_55, e61_57, e61_58, e61_61, e61_62, e61_65, e61_66, e61_67, e61_70, e61_71, e61_72, e61_75, e61_78, e61_79, bi_s, tyX, rl1, rl2, rl4, ↓reduceIte, Option.bind_some, true_and, and_true, false_and, and_false, true_or, or_true, false_or, or_false, if_same0, ite_eq0, ite_eq0', ite_eq1, ite_eq1', or_em, or_em', ite_not, lcmp0, lcmpL, lcmpG, nI_cl_b, eb_in_b, nI_1, nI_pred, Int32.reduceToNatClampNeg, eb_u_ap, Prod.mk.injEq, not_true_eq_false, not_false_eq_true, nI_lt_b, hy, t1, u1]
      refine ⟨(a + sp_joyAll (sp_years w y).2.2.2 (sp_night (sp_years w y).2.2.2), I5, C4), rfl, ?_, eb_fr_tr (eb_fr_tr z2 (eb_fn_fr t2)) u3, u2, fun j hj => ?_, fun i hi => ?_, fun m' hm' => ?_, fun k' j hk => (t4 k' j hk).trans (z7 k' j hk)⟩
      · show a + _ = _
        rw [z1]; rfl
      · show I5 (7, k, j) 5 = _
        rw [u4 j (by rw [hnn.2]; exact hj), t2 _ _ (by simp), z4 j hj]; rfl
      · show I5 (6, k, i) 8 = _
        rw [u5 i (by rw [hnn.1]; exact hi), t2 _ _ (by simp), z5 i hi]; rfl
      · have : m' = y := by omega
        subst this
        show eb_NX I5 k w _
        unfold eb_NX at u6 ⊢
        rw [hnn.1, hnn.2] at u6
        exact u6)
  obtain ⟨a, I3, C3⟩ := s
  simp only [nI_0] at e''
  rw [e'', e61_56]
  simp (decide := true) (disch := omega) only [e61_0, e61_1, e61_3, e61_4, e61_7, e61_10, e61_11, e61_14, e61_15, e61_16, e61_17, e61_20, e61_23, e61_26, e61_27, e61_29, e61_30, e61_33, e61_36, e61_37, e61_40, e61_41, e61_42, e61_43, e61_46, e61_49, e61_52, e61_53, e61_54, e61_55, e61_57, e61_58, e61_61, e61_62, e61_65, e61_66, e61_67, e61_70, e61_71, e61_72, e61_75, e61_78, e61_79, bi_s, tyX, rl1, rl2, rl4, ↓reduceIte, Option.bind_some, true_and, and_true, false_and, and_false, true_or, or_true, false_or, or_false, if_same0, ite_eq0, ite_eq0', ite_eq1, ite_eq1', or_em, or_em', ite_not, lcmp0, lcmpL, lcmpG, nI_cl_b, eb_in_b, nI_1, nI_pred, Int32.reduceToNatClampNeg, eb_u_ap, Prod.mk.injEq, not_true_eq_false, not_false_eq_true, nI_lt_b, Nat.lt_irrefl]
  have y1 : a = (sp_years w m).1 := y1
  rw [y1]
  exact ⟨I3, C3, rfl, y2, y3, y4, y5, y6, y7⟩
end

/-! the class's valleys: the end of a year -/
theorem eb_RX_of {k : Nat} {I I' : eb_A → Nat → Int32} {w : eb_W} (h : eb_RX I k w) (h4 : ∀ l, I' (4, k, 0) l = I (4, k, 0) l) (h6 : ∀ i l, l < 7 → I' (6, k, i) l = I (6, k, i) l) (h7 : ∀ j l, l < 3 → I' (7, k, j) l = I (7, k, j) l) : eb_RX I' k w := by
  obtain ⟨⟨a1, a2, a3, a4, a5⟩, a6, a7⟩ := h
  refine ⟨⟨?_, ?_, ?_, ?_, ?_⟩, fun i hi f hf => ?_, fun j hj f hf => ?_⟩
  · rw [h4]; exact a1
  · rw [h4]; exact a2
  · rw [h4]; exact a3
  · rw [h4]; exact a4
  · rw [h4]; exact a5
  · rw [h6 _ _ hf]; exact a6 i hi f hf
  · rw [h7 _ _ hf]; exact a7 j hj f hf
theorem eb_NX_of {k : Nat} {I I' : eb_A → Nat → Int32} {w : eb_W} {N : eb_N} (h : eb_NX I k w N) (h6 : ∀ i, I' (6, k, i) 7 = I (6, k, i) 7) (h8 : ∀ j i, I' (8, k, j) i = I (8, k, j) i) (h7 : ∀ j, I' (7, k, j) 4 = I (7, k, j) 4) : eb_NX I' k w N := by
  refine ⟨fun i hi => ?_, fun j hj => ⟨fun i hi => ?_, ?_⟩⟩
  · rw [h6]; exact h.1 i hi
  · rw [h8]; exact (h.2 j hj).1 i hi
  · rw [h7]; exact (h.2 j hj).2
theorem sp_grow_congr {q q' : Nat → Int32} {gu : Int32} (h : ∀ f, f < 7 → q f = q' f) : ∀ f, f < 7 → sp_grow q gu f = sp_grow q' gu f := by
  intro f hf
  rcases (show f = 0 ∨ f = 1 ∨ f = 2 ∨ f = 3 ∨ f = 4 ∨ f = 5 ∨ f = 6 by omega) with rfl | rfl | rfl | rfl | rfl | rfl | rfl <;>
    simp only [sp_grow, h 0 (by omega), h 1 (by omega), h 2 (by omega), h 3 (by omega), h 4 (by omega), h 5 (by omega), h 6 (by omega)]
section
variable {L d nc ns k i g : Nat} {I : eb_A → Nat → Int32} {J : eb_A → Nat → Int64} {C : Nat → Nat → Nat} {mt mk : Option Nat} {M : eb_M} {R : eb_A → Nat → Option eb_A} {w : eb_W} {N : eb_N}
theorem x_endYear (h : eb_RX I k w) (hN : eb_NX I k w (sp_night w)) (hw : sp_ok w) : ∃ I', eb_ev L (d + 4) 62 [zr (4, k, 0)] (nc, ns, I, J, eb_RL C mt mk) = some (zi (sp_joyAll w (sp_night w)), (nc, ns, I', J, eb_RL C mt mk)) ∧ eb_RX I' k (sp_year w) ∧ eb_fr k I I' ∧ (∀ j, j < w.2.1 → I' (7, k, j) 5 = I (7, k, j) 5 + sp_joy w (sp_night w) j) ∧ (∀ i, i < w.1 → I' (6, k, i) 8 = I (6, k, i) 8 + w.2.2.2.1 i 3 * (sp_night w).1 i) ∧ eb_NX I' k w (sp_night w) := by
  have hn := hw.1
  have hg := hw.2.1
  rw [h62 rfl]
  simp (decide := true) (disch := omega) only [e62_0, e62_1, e62_2, e62_3, e62_5, e62_6, e62_9, e62_12, e62_13, e62_14, e62_17, e62_18, e62_19, e62_22, e62_23, e62_24, e62_27, e62_28, e62_29a, e62_29b, e62_30, e62_33, e62_34, e62_35, e62_38, e62_39, e62_40, e62_41, e62_42, e62_45, e62_48, e62_49, e62_51, e62_52, e62_55, e62_58, e62_59, e62_62, e62_63, e62_64, e62_67, e62_70, e62_73, e62_74, e62_76, e62_77, e62_80, e62_81, e62_82, e62_85, e62_88, e62_89a, e62_89b, e62_90, e62_93, e62_94, e62_95, e62_98, e62_99, bi_s, tyX, rl1, rl2, rl4, ↓reduceIte, Option.bind_some, true_and, and_true, false_and, and_false, true_or, or_true, false_or, or_false, if_same0, ite_eq0, ite_eq0', ite_eq1, ite_eq1', or_em, or_em', ite_not, lcmp0, lcmpL, lcmpG, nI_cl_b, eb_in_b, nI_1, nI_pred, Int32.reduceToNatClampNeg, eb_u_ap, Prod.mk.injEq, not_true_eq_false, not_false_eq_true]
  obtain ⟨s, e, e1, e2, e3⟩ := eb_loop (α := Int32 × Option eb_V × (eb_A → Nat → Int32)) (n := w.2.1) (s0 := (0, none, I))
    (F := fun i s => eb_E L (d + 3) 62 4 [some (zr (4, k, 0)), some (zi s.1), some (zi (nI i)), s.2.1] [] (nc, ns, s.2.2, J, eb_RL C mt mk))
    (P := fun i s => s.1 = sp_sum (fun j => sp_joy w (sp_night w) j) i ∧ (∀ a l, ¬ (a.1 = 7 ∧ a.2.1 = k ∧ l = 5) → s.2.2 a l = I a l) ∧ ∀ j, s.2.2 (7, k, j) 5 = if j < i then I (7, k, j) 5 + sp_joy w (sp_night w) j else I (7, k, j) 5)
    ⟨rfl, fun _ _ _ => rfl, fun _ => by simp⟩ (by
      intro i s hi hP
      obtain ⟨a, b, I1⟩ := s
      obtain ⟨h1, h2, h3⟩ := hP
      have h1 : a = sp_sum (fun j => sp_joy w (sp_night w) j) i := h1
      have h2 : ∀ a l, ¬ (a.1 = 7 ∧ a.2.1 = k ∧ l = 5) → I1 a l = I a l := h2
      have h3 : ∀ j, I1 (7, k, j) 5 = if j < i then I (7, k, j) 5 + sp_joy w (sp_night w) j else I (7, k, j) 5 := h3
      have hR : eb_RX I1 k w := eb_RX_of h (fun l => h2 _ _ (by simp)) (fun i l hl => h2 _ _ (by simp)) (fun j l hl => h2 _ _ (by simp; omega))
      have hM : eb_NX I1 k w (sp_night w) := eb_NX_of hN (fun l => h2 _ _ (by simp)) (fun i l => h2 _ _ (by simp)) (fun j => h2 _ _ (by simp))
      have h5 : I1 (7, k, i) 5 = I (7, k, i) 5 := by rw [h3, if_neg (Nat.lt_irrefl _)]
      rw [e62_4]
      simp (decide := true) (disch := omega) only [e62_0, e62_1, e62_2, e62_3, e62_5, e62_6, e62_9, e62_12, e62_13, e62_14, e62_17, e62_18, e62_19, e62_22, e62_23, e62_24, e62_27, e62_28, e62_29a, e62_29b, e62_30, e62_33, e62_34, e62_35, e62_38, e62_39, e62_40, e62_41, e62_42, e62_45, e62_48, e62_49, e62_51, e62_52, e62_55, e62_58, e62_59, e62_62, e62_63, e62_64, e62_67, e62_70, e62_73, e62_74, e62_76, e62_77, e62_80, e62_81, e62_82, e62_85, e62_88, e62_89a, e62_89b, e62_90, e62_93, e62_94, e62_95, e62_98, e62_99, bi_s, tyX, rl1, rl2, rl4, ↓reduceIte, Option.bind_some, true_and, and_true, false_and, and_false, true_or, or_true, false_or, or_false, if_same0, ite_eq0, ite_eq0', ite_eq1, ite_eq1', or_em, or_em', ite_not, lcmp0, lcmpL, lcmpG, nI_cl_b, eb_in_b, nI_1, nI_pred, Int32.reduceToNatClampNeg, eb_u_ap, Prod.mk.injEq, not_true_eq_false, not_false_eq_true, hR.1.2.1, nI_lt_b, hi, x_joyOf hR hM hw hi, h5]
      refine ⟨(a + sp_joy w (sp_night w) i, some (zi (sp_joy w (sp_night w) i)), eb_u I1 (7, k, i) 5 (I (7, k, i) 5 + sp_joy w (sp_night w) i)), rfl, ?_, fun b l hal => ?_, fun j => ?_⟩
      · show a + _ = _
        rw [h1]; rfl
      · exact (if_neg (fun q => hal ⟨by rw [q.1], by rw [q.1], q.2⟩)).trans (h2 b l hal)
      · show eb_u I1 (7, k, i) 5 _ (7, k, j) 5 = _
        by_cases hj : j = i
        · subst hj; simp [eb_u]
        · simp only [eb_u, Prod.mk.injEq, hj, and_false, false_and, if_false, h3 j]
          simp [show (j < i + 1) = (j < i) from propext ⟨fun q => by omega, fun q => by omega⟩])
  obtain ⟨a, b, I1⟩ := s
  have e1 : a = sp_sum (fun j => sp_joy w (sp_night w) j) w.2.1 := e1
  have e2 : ∀ a l, ¬ (a.1 = 7 ∧ a.2.1 = k ∧ l = 5) → I1 a l = I a l := e2
  have e3 : ∀ j, I1 (7, k, j) 5 = if j < w.2.1 then I (7, k, j) 5 + sp_joy w (sp_night w) j else I (7, k, j) 5 := e3
  have hR : eb_RX I1 k w := eb_RX_of h (fun l => e2 _ _ (by simp)) (fun i l hl => e2 _ _ (by simp)) (fun j l hl => e2 _ _ (by simp; omega))
  have hM : eb_NX I1 k w (sp_night w) := eb_NX_of hN (fun l => e2 _ _ (by simp)) (fun i l => e2 _ _ (by simp)) (fun j => e2 _ _ (by simp))
  simp only [nI_0] at e
  rw [e, e62_4]
  simp (decide := true) (disch := omega) only [e62_0, e62_1, e62_2, e62_3, e62_5, e62_6, e62_9, e62_12, e62_13, e62_14, e62_17, e62_18, e62_19, e62_22, e62_23, e62_24, e62_27, e62_28, e62_29a, e62_29b, e62_30, e62_33, e62_34, e62_35, e62_38, e62_39, e62_40, e62_41, e62_42, e62_45, e62_48, e62_49, e62_51, e62_52, e62_55, e62_58, e62_59, e62_62, e62_63, e62_64, e62_67, e62_70, e62_73, e62_74, e62_76, e62_77, e62_80, e62_81, e62_82, e62_85, e62_88, e62_89a, e62_89b, e62_90, e62_93, e62_94, e62_95, e62_98, e62_99, bi_s, tyX, rl1, rl2, rl4, ↓reduceIte, Option.bind_some, true_and, and_true, false_and, and_false, true_or, or_true, false_or, or_false, if_same0, ite_eq0, ite_eq0', ite_eq1, ite_eq1', or_em, or_em', ite_not, lcmp0, lcmpL, lcmpG, nI_cl_b, eb_in_b, nI_1, nI_pred, Int32.reduceToNatClampNeg, eb_u_ap, Prod.mk.injEq, not_true_eq_false, not_false_eq_true, hR.1.2.1, nI_lt_b, Nat.lt_irrefl]
  obtain ⟨I2, e', p1, p2⟩ := eb_loop (α := eb_A → Nat → Int32) (n := w.1) (s0 := I1)
    (F := fun i s => eb_E L (d + 3) 62 50 [some (zr (4, k, 0)), some (zi a), some (zi (nI i)), b] [] (nc, ns, s, J, eb_RL C mt mk))
    (P := fun i s => (∀ a l, ¬ (a.1 = 6 ∧ a.2.1 = k ∧ ¬ l = 7) → s a l = I1 a l) ∧ ∀ j, if j < i then (∀ f, f < 7 → s (6, k, j) f = sp_grow (w.2.2.2.1 j) ((sp_night w).1 j) f) ∧ s (6, k, j) 8 = I (6, k, j) 8 + w.2.2.2.1 j 3 * (sp_night w).1 j else ∀ l, s (6, k, j) l = I1 (6, k, j) l)
    ⟨fun _ _ _ => rfl, fun j => by simp⟩ (by
      intro i I2 hi hP
      obtain ⟨h2, h3⟩ := hP
      have h4 := h3 i
      rw [if_neg (Nat.lt_irrefl _)] at h4
      have g4 : I2 (4, k, 0) 2 = nI w.1 := by rw [h2 _ _ (by simp)]; exact hR.1.1
      obtain ⟨I3, e4, y1, y2, y3, y4⟩ := x_growOlder (L := L) (d := d) (nc := nc) (ns := ns) (J := J) (R := eb_RL C mt mk) (k := k) (i := i) (I := I2)
      rw [e62_50]
      simp (decide := true) (disch := omega) only [e62_0, e62_1, e62_2, e62_3, e62_5, e62_6, e62_9, e62_12, e62_13, e62_14, e62_17, e62_18, e62_19, e62_22, e62_23, e62_24, e62_27, e62_28, e62_29a, e62_29b, e62_30, e62_33, e62_34, e62_35, e62_38, e62_39, e62_40, e62_41, e62_42, e62_45, e62_48, e62_49, e62_51, e62_52, e62_55, e62_58, e62_59, e62_62, e62_63, e62_64, e62_67, e62_70, e62_73, e62_74, e62_76, e62_77, e62_80, e62_81, e62_82, e62_85, e62_88, e62_89a, e62_89b, e62_90, e62_93, e62_94, e62_95, e62_98, e62_99, bi_s, tyX, rl1, rl2, rl4, ↓reduceIte, Option.bind_some, true_and, and_true, false_and, and_false, true_or, or_true, false_or, or_false, if_same0, ite_eq0, ite_eq0', ite_eq1, ite_eq1', or_em, or_em', ite_not, lcmp0, lcmpL, lcmpG, nI_cl_b, eb_in_b, nI_1, nI_pred, Int32.reduceToNatClampNeg, eb_u_ap, Prod.mk.injEq, not_true_eq_false, not_false_eq_true, g4, nI_lt_b, hi, e4]
      refine ⟨_, rfl, fun b l hal => ?_, fun j => ?_⟩
      · by_cases q : b = (6, k, i)
        · subst q
          have : l = 7 := Classical.byContradiction fun q => hal ⟨rfl, rfl, q⟩
          subst this
          rw [y2, h4]
        · rw [y4 b l q]; exact h2 b l hal
      · by_cases hj : j = i
        · subst hj
          rw [if_pos (by omega)]
          refine ⟨fun f hf => ?_, ?_⟩
          · rw [y1 f hf, h4 7, show I1 (6, k, j) 7 = _ from hM.1 j hi]
            exact sp_grow_congr (fun f hf => by rw [h4 f]; exact hR.2.1 j hi f hf) f hf
          · rw [y3, h4, h4, h4, show I1 (6, k, j) 7 = _ from hM.1 j hi, show I1 (6, k, j) 3 = _ from hR.2.1 j hi 3 (by omega), e2 _ _ (by simp)]
        · have hj2 : (j < i + 1) = (j < i) := propext ⟨fun q => by omega, fun q => by omega⟩
          have h5 := h3 j
          simp only [hj2]
          have y5 : ∀ l, I3 (6, k, j) l = I2 (6, k, j) l := fun l => y4 _ l (by simp [hj])
          simp only [y5]
          exact h5)
  have g4 : ∀ l, I2 (4, k, 0) l = I (4, k, 0) l := fun l => by rw [p1 _ _ (by simp), e2 _ _ (by simp)]
  have p3 : ∀ j, j < w.1 → (∀ f, f < 7 → I2 (6, k, j) f = sp_grow (w.2.2.2.1 j) ((sp_night w).1 j) f) ∧ I2 (6, k, j) 8 = I (6, k, j) 8 + w.2.2.2.1 j 3 * (sp_night w).1 j := fun j hj => by
    have q := p2 j
    rw [if_pos hj] at q
    exact q
  simp only [nI_0] at e'
  rw [e', e62_50]
  simp (decide := true) (disch := omega) only [e62_0, e62_1, e62_2, e62_3, e62_5, e62_6, e62_9, e62_12, e62_13, e62_14, e62_17, e62_18, e62_19, e62_22, e62_23, e62_24, e62_27, e62_28, e62_29a, e62_29b, e62_30, e62_33, e62_34, e62_35, e62_38, e62_39, e62_40, e62_41, e62_42, e62_45, e62_48, e62_49, e62_51, e62_52, e62_55, e62_58, e62_59, e62_62, e62_63, e62_64, e62_67, e62_70, e62_73, e62_74, e62_76, e62_77, e62_80, e62_81, e62_82, e62_85, e62_88, e62_89a, e62_89b, e62_90, e62_93, e62_94, e62_95, e62_98, e62_99, bi_s, tyX, rl1, rl2, rl4, ↓reduceIte, Option.bind_some, true_and, and_true, false_and, and_false, true_or, or_true, false_or, or_false, if_same0, ite_eq0, ite_eq0', ite_eq1, ite_eq1', or_em, or_em', ite_not, lcmp0, lcmpL, lcmpG, nI_cl_b, eb_in_b, nI_1, nI_pred, Int32.reduceToNatClampNeg, eb_u_ap, Prod.mk.injEq, not_true_eq_false, not_false_eq_true, g4, h.1.1, h.1.2.2.1, h.1.2.2.2.1, nI_lt_b, Nat.lt_irrefl]
  have imn99 : ∀ y : Int32, (if y < 99 then y else 99) = if 99 < y then 99 else y := fun y => imn
  rw [e1]
  have q6 : ∀ a l, ¬ a = (4, k, 0) → ¬ (a.1 = 6 ∧ a.2.1 = k) → ¬ (a.1 = 7 ∧ a.2.1 = k ∧ l = 5) → I2 a l = I a l := fun a l _ h2 h3 => by
    rw [p1 _ _ (fun q => h2 ⟨q.1, q.2.1⟩), e2 _ _ h3]
  refine ⟨_, rfl, ⟨⟨?_, ?_, ?_, ?_, ?_⟩, fun i hi f hf => ?_, fun j hj f hf => ?_⟩, fun a l hal => ?_, fun j hj => ?_, fun i hi => ?_, ?_⟩
  · simp [eb_u, sp_year, g4, h.1.1]
  · simp [eb_u, sp_year, g4, h.1.2.1]
  · simp [eb_u, sp_year, sp_up, imn99]
  · simp [eb_u, sp_year, sp_up]
  · simp [eb_u, sp_year, sp_up, g4, h.1.2.2.2.2]
  · simp only [eb_u, Prod.mk.injEq, Nat.reduceEqDiff, false_and, if_false]
    exact (p3 i hi).1 f hf
  · simp only [eb_u, Prod.mk.injEq, Nat.reduceEqDiff, false_and, if_false]
    rw [q6 _ _ (by simp) (by simp) (by simp; omega)]
    exact h.2.2 j hj f hf
  · have q4 : ¬ a = (4, k, 0) := fun q => hal (by rw [q]; exact ⟨rfl, Nat.le_refl _, Nat.le_of_ble_eq_true rfl⟩)
    simp only [eb_u, q4, false_and, if_false]
    exact q6 a l q4 (fun q => hal ⟨q.2, by omega, by omega⟩) (fun q => hal ⟨q.2.1, by omega, by omega⟩)
  · simp only [eb_u, Prod.mk.injEq, Nat.reduceEqDiff, false_and, if_false]
    rw [p1 _ _ (by simp), e3, if_pos hj]
  · simp only [eb_u, Prod.mk.injEq, Nat.reduceEqDiff, false_and, if_false]
    exact (p3 i hi).2
  · refine eb_NX_of hM (fun i => ?_) (fun j i => ?_) (fun j => ?_)
    · simp only [eb_u, Prod.mk.injEq, Nat.reduceEqDiff, false_and, if_false]
      exact p1 _ _ (by simp)
    · simp only [eb_u, Prod.mk.injEq, Nat.reduceEqDiff, false_and, if_false]
      exact p1 _ _ (by simp)
    · simp only [eb_u, Prod.mk.injEq, Nat.reduceEqDiff, false_and, if_false]
      exact p1 _ _ (by simp)
end

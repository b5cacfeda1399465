/-! the class's valleys: nights -/
section
variable {L d nc ns k i g : Nat} {I : eb_A → Nat → Int32} {J : eb_A → Nat → Int64} {C : Nat → Nat → Nat} {mt mk : Option Nat} {M : eb_M} {R : eb_A → Nat → Option eb_A} {w : eb_W} {N : eb_N}
theorem x_lodge (h : eb_RX I k w) (hN : eb_NX I k w N) (hw : sp_ok w) (hg : g < w.2.1) {hd : Int32} : ∃ I', eb_ev L (d + 3) 55 [zr (4, k, 0), zr (7, k, g), zi hd] (nc, ns, I, J, eb_RL C mt mk) = some (zn, (nc, ns, I', J, eb_RL C mt mk)) ∧ eb_fn k I I' ∧ eb_NX I' k w (sp_put w (fun i => w.2.2.2.1 i 4) g hd N) := by
  have hn := hw.1
  have hs : ∀ i, i < w.1 → sp_score (I (4, k, 0) 4) (I (6, k, i)) (I (7, k, g)) (I (6, k, i) 4) = sp_score (w.2.2.1 0) (w.2.2.2.1 i) (w.2.2.2.2 g) (w.2.2.2.1 i 4) := fun i hi => by
    unfold sp_score
    rw [h.1.2.2.1, h.2.1 i hi 0 (by omega), h.2.1 i hi 3 (by omega), h.2.1 i hi 4 (by omega), h.2.1 i hi 5 (by omega), h.2.1 i hi 6 (by omega), h.2.2 g hg 0 (by omega), h.2.2 g hg 2 (by omega)]
  rw [h55 rfl]
  simp (decide := true) (disch := omega) only [e55_0, e55_1, e55_3, e55_4, e55_7, e55_10, e55_11, e55_14, e55_15, e55_16, e55_17, e55_18, e55_21, e55_22, e55_23, e55_26, e55_27, e55_30, e55_33, e55_34, e55_35, e55_36, e55_40, e55_41, e55_44, e55_47, e55_48, e55_51, e55_52, e55_55, e55_57, e55_59, e55_60, e55_63, e55_66, e55_67, e55_68, e55_71, e55_73, e55_74, e55_77, e55_78, e55_81, e55_83, e55_84, e55_87, e55_88, e55_91, e55_93, e55_94, e55_97, e55_99, e55_100a, e55_100b, e55_101, e55_104, e55_106, e55_107, e55_110, e55_111, e55_114, e55_116, e55_117, e55_118, e55_120, e55_121, e55_122, e55_123, e55_125, e55_126, e55_127, e55_130, e55_133, e55_134a, e55_134b, e55_135, e55_138, e55_139, e55_140, e55_143, bi_s, tyX, rl1, rl2, rl4, ↓reduceIte, Option.bind_some, true_and, and_true, false_and, and_false, true_or, or_true, false_or, or_false, if_same0, ite_eq0, ite_eq0', ite_eq1, ite_eq1', or_em, or_em', ite_not, lcmp0, lcmpL, lcmpG, nI_cl_b, eb_in_b, nI_1, nI_pred, Int32.reduceToNatClampNeg, eb_u_ap, Prod.mk.injEq, not_true_eq_false, not_false_eq_true]
  obtain ⟨I1, e, e1, e2⟩ := eb_loop (α := eb_A → Nat → Int32) (n := w.1) (s0 := I)
    (F := fun i s => eb_E L (d + 2) 55 2 [some (zr (4, k, 0)), some (zr (7, k, g)), some (zi hd), some (zi (nI i)), none, none, none] [] (nc, ns, s, J, eb_RL C mt mk))
    (P := fun i s => (∀ a l, ¬ a = (10, k, 0) → s a l = I a l) ∧ ∀ j, j < i → s (10, k, 0) j = sp_score (w.2.2.1 0) (w.2.2.2.1 j) (w.2.2.2.2 g) (w.2.2.2.1 j 4))
    ⟨fun _ _ _ => rfl, fun j hj => by omega⟩ (by
      intro i I1 hi hP
      obtain ⟨h2, h3⟩ := hP
      have hs1 : sp_score (I1 (4, k, 0) 4) (I1 (6, k, i)) (I1 (7, k, g)) (I1 (6, k, i) 4) = sp_score (w.2.2.1 0) (w.2.2.2.1 i) (w.2.2.2.2 g) (w.2.2.2.1 i 4) := by
        rw [show I1 (6, k, i) = I (6, k, i) from funext fun l => h2 _ l (by simp), show I1 (7, k, g) = I (7, k, g) from funext fun l => h2 _ l (by simp), h2 (4, k, 0) 4 (by simp)]
        exact hs i hi
      have g4 : I1 (4, k, 0) 2 = nI w.1 := by rw [h2 _ _ (by simp)]; exact h.1.1
      rw [e55_2]
      simp (decide := true) (disch := omega) only [e55_0, e55_1, e55_3, e55_4, e55_7, e55_10, e55_11, e55_14, e55_15, e55_16, e55_17, e55_18, e55_21, e55_22, e55_23, e55_26, e55_27, e55_30, e55_33, e55_34, e55_35, e55_36, e55_40, e55_41, e55_44, e55_47, e55_48, e55_51, e55_52, e55_55, e55_57, e55_59, e55_60, e55_63, e55_66, e55_67, e55_68, e55_71, e55_73, e55_74, e55_77, e55_78, e55_81, e55_83, e55_84, e55_87, e55_88, e55_91, e55_93, e55_94, e55_97, e55_99, e55_100a, e55_100b, e55_101, e55_104, e55_106, e55_107, e55_110, e55_111, e55_114, e55_116, e55_117, e55_118, e55_120, e55_121, e55_122, e55_123, e55_125, e55_126, e55_127, e55_130, e55_133, e55_134a, e55_134b, e55_135, e55_138, e55_139, e55_140, e55_143, bi_s, tyX, rl1, rl2, rl4, ↓reduceIte, Option.bind_some, true_and, and_true, false_and, and_false, true_or, or_true, false_or, or_false, if_same0, ite_eq0, ite_eq0', ite_eq1, ite_eq1', or_em, or_em', ite_not, lcmp0, lcmpL, lcmpG, nI_cl_b, eb_in_b, nI_1, nI_pred, Int32.reduceToNatClampNeg, eb_u_ap, Prod.mk.injEq, not_true_eq_false, not_false_eq_true, g4, nI_lt_b, hi, x_scoreOf, hs1]
      refine ⟨_, rfl, fun a l hal => ?_, fun j hj => ?_⟩
      · simp only [eb_u, hal, false_and, if_false]; exact h2 a l hal
      · by_cases hji : j = i
        · subst hji; simp [eb_u]
        · simp only [eb_u, hji, and_false, if_false]; exact h3 j (by omega))
  have g4 : I1 (4, k, 0) 2 = nI w.1 := by rw [e1 _ _ (by simp)]; exact h.1.1
  simp only [nI_0] at e
  rw [e, e55_2]
  simp (decide := true) (disch := omega) only [e55_0, e55_1, e55_3, e55_4, e55_7, e55_10, e55_11, e55_14, e55_15, e55_16, e55_17, e55_18, e55_21, e55_22, e55_23, e55_26, e55_27, e55_30, e55_33, e55_34, e55_35, e55_36, e55_40, e55_41, e55_44, e55_47, e55_48, e55_51, e55_52, e55_55, e55_57, e55_59, e55_60, e55_63, e55_66, e55_67, e55_68, e55_71, e55_73, e55_74, e55_77, e55_78, e55_81, e55_83, e55_84, e55_87, e55_88, e55_91, e55_93, e55_94, e55_97, e55_99, e55_100a, e55_100b, e55_101, e55_104, e55_106, e55_107, e55_110, e55_111, e55_114, e55_116, e55_117, e55_118, e55_120, e55_121, e55_122, e55_123, e55_125, e55_126, e55_127, e55_130, e55_133, e55_134a, e55_134b, e55_135, e55_138, e55_139, e55_140, e55_143, bi_s, tyX, rl1, rl2, rl4, ↓reduceIte, Option.bind_some, true_and, and_true, false_and, and_false, true_or, or_true, false_or, or_false, if_same0, ite_eq0, ite_eq0', ite_eq1, ite_eq1', or_em, or_em', ite_not, lcmp0, lcmpL, lcmpG, nI_cl_b, eb_in_b, nI_1, nI_pred, Int32.reduceToNatClampNeg, eb_u_ap, Prod.mk.injEq, not_true_eq_false, not_false_eq_true, g4, nI_lt_b, Nat.lt_irrefl]
  obtain ⟨I2, y1, y2, y3, y4⟩ := x_lodgeLoop (L := L) (d := d) (nc := nc) (ns := ns) (J := J) (C := C) (mt := mt) (mk := mk) (k := k) (g := g) (hd := hd) (room := fun i => w.2.2.2.1 i 2) (s := fun i => sp_score (w.2.2.1 0) (w.2.2.2.1 i) (w.2.2.2.2 g) (w.2.2.2.1 i 4)) hn w.1 0 (N.1, N.2.1 g, hd) I1 none none (by omega) g4
    (fun i hi => by rw [e1 _ _ (by simp)]; exact h.2.1 i hi 2 (by omega)) (fun i hi => by rw [e1 _ _ (by simp)]; exact hN.1 i hi) e2 (fun i hi => by rw [e1 _ _ (by simp)]; exact (hN.2 g hg).1 i hi)
  simp only [nI_0] at y1
  rw [y1]
  refine ⟨_, rfl, fun a l hal => ?_, fun i hi => ?_, fun j hj => ⟨fun i hi => ?_, ?_⟩⟩
  · have q1 : ¬ (a = (7, k, g) ∧ l = 4) := fun q => hal (by rw [q.1]; exact ⟨rfl, Or.inr (Or.inl ⟨rfl, q.2⟩)⟩)
    have q2 : ¬ a = (8, k, g) := fun q => hal (by rw [q]; exact ⟨rfl, Or.inr (Or.inr (Or.inl rfl))⟩)
    have q3 : ¬ a = (10, k, 0) := fun q => hal (by rw [q]; exact ⟨rfl, Or.inr (Or.inr (Or.inr rfl))⟩)
    simp only [eb_u, q1, if_false]
    rw [y4 a l (fun q => hal ⟨q.2.1, Or.inl ⟨q.1, q.2.2⟩⟩) q2, e1 a l q3]
  · simp only [eb_u, Prod.mk.injEq, Nat.reduceEqDiff, false_and, if_false]
    exact y2 i hi
  · simp only [eb_u, Prod.mk.injEq, Nat.reduceEqDiff, false_and, if_false, sp_put, sp_up]
    by_cases q : j = g
    · subst q
      rw [if_pos rfl]; exact y3 i hi
    · rw [if_neg q, y4 _ _ (by simp) (by simp [q]), e1 _ _ (by simp)]
      exact (hN.2 j hj).1 i hi
  · by_cases q : j = g
    · subst q
      simp only [eb_u, sp_put, sp_up, if_true, true_and, and_self]
      rw [e1 _ _ (by simp), (hN.2 j hj).2]
    · simp only [eb_u, Prod.mk.injEq, q, and_false, false_and, if_false, sp_put, sp_up]
      rw [y4 _ _ (by simp) (by simp), e1 _ _ (by simp)]
      exact (hN.2 j hj).2
end

/-! the class's valleys: copies, an inn's year, sums over a night -/
/-- the class's valley k has the night N behind it -/
def eb_NX (I : eb_A → Nat → Int32) (k : Nat) (w : eb_W) (N : eb_N) : Prop :=
  (∀ i, i < w.1 → I (6, k, i) 7 = N.1 i) ∧ ∀ j, j < w.2.1 → (∀ i, i < w.1 → I (8, k, j) i = N.2.1 j i) ∧ I (7, k, j) 4 = N.2.2 j
section
variable {L d nc ns k i g : Nat} {I : eb_A → Nat → Int32} {J : eb_A → Nat → Int64} {C : Nat → Nat → Nat} {mt mk : Option Nat} {M : eb_M} {R : eb_A → Nat → Option eb_A} {w : eb_W} {N : eb_N}
theorem x_innLike {k1 i1 : Nat} (hk : ¬ k1 = k) : eb_ev L (d + 1) 8 [zr (6, k, i), zr (6, k1, i1)] (nc, ns, I, J, R) = some (zn, (nc, ns, eb_u (eb_u (eb_u (eb_u (eb_u (eb_u (eb_u I (6, k, i) 0 (I (6, k1, i1) 0)) (6, k, i) 1 (I (6, k1, i1) 1)) (6, k, i) 2 (I (6, k1, i1) 2)) (6, k, i) 3 (I (6, k1, i1) 3)) (6, k, i) 4 (I (6, k1, i1) 4)) (6, k, i) 5 (I (6, k1, i1) 5)) (6, k, i) 6 (I (6, k1, i1) 6), J, R)) := by
  rw [h8 rfl]
  simp (decide := true) only [e8_0, e8_1, e8_2, e8_5, e8_8, e8_9, e8_10, e8_13, e8_16, e8_17, e8_18, e8_21, e8_24, e8_25, e8_26, e8_29, e8_32, e8_33, e8_34, e8_37, e8_40, e8_41, e8_42, e8_45, e8_48, e8_49, e8_50, e8_53, e8_56, bi_s, tyX, rl1, rl2, rl4, ↓reduceIte, Option.bind_some, true_and, and_true, false_and, and_false, true_or, or_true, false_or, or_false, if_same0, ite_eq0, ite_eq0', ite_eq1, ite_eq1', or_em, or_em', ite_not, lcmp0, lcmpL, lcmpG, nI_cl_b, eb_in_b, nI_1, nI_pred, Int32.reduceToNatClampNeg, eb_u_ap, Prod.mk.injEq, not_true_eq_false, not_false_eq_true, hk]
theorem x_becomeLike {k1 : Nat} (h : eb_RX I k1 w) (hw : sp_ok w) (hk : ¬ k1 = k) : ∃ I', eb_ev L (d + 2) 39 [zr (4, k, 0), zr (4, k1, 0)] (nc, ns, I, J, eb_RL C mt mk) = some (zn, (nc, ns, I', J, eb_RL C mt mk)) ∧ eb_RX I' k w ∧ eb_fr k I I' := by
  have hn := hw.1
  have hg := hw.2.1
  rw [h39 rfl]
  have hb : ∀ (I : eb_A → Nat → Int32) (J : eb_A → Nat → Int64) (R : eb_A → Nat → Option eb_A) (x y z : Int32) (k g : Nat), eb_ev L (d + 1) 1 [zr (7, k, g), zi x, zi y, zi z] (nc, ns, I, J, R) = _ := fun I J R x y z k g => x_become rfl
  simp (decide := true) (disch := omega) only [e39_0, e39_1, e39_2, e39_5, e39_8, e39_9, e39_10, e39_13, e39_16, e39_17, e39_18, e39_21, e39_24, e39_25, e39_26, e39_29, e39_32, e39_33, e39_34, e39_37, e39_40, e39_41, e39_43, e39_44, e39_47, e39_50, e39_51, e39_54, e39_55, e39_56, e39_57, e39_60, e39_61, e39_62, e39_65, e39_68, e39_71, e39_72, e39_74, e39_75, e39_78, e39_81, e39_82, e39_85, e39_86, e39_87, e39_88, e39_89, e39_92, e39_93, e39_94, e39_95, e39_98, e39_99, e39_102, e39_103, e39_106, e39_109, e39_112, e39_115, bi_s, tyX, rl1, rl2, rl4, ↓reduceIte, Option.bind_some, true_and, and_true, false_and, and_false, true_or, or_true, false_or, or_false, if_same0, ite_eq0, ite_eq0', ite_eq1, ite_eq1', or_em, or_em', ite_not, lcmp0, lcmpL, lcmpG, nI_cl_b, eb_in_b, nI_1, nI_pred, Int32.reduceToNatClampNeg, eb_u_ap, Prod.mk.injEq, not_true_eq_false, not_false_eq_true, hk, h.1.1, h.1.2.1, h.1.2.2.1, h.1.2.2.2.1, h.1.2.2.2.2]
  generalize hI0 : eb_u (eb_u (eb_u (eb_u (eb_u I (4, k, 0) 2 (nI w.1)) (4, k, 0) 3 (nI w.2.1)) (4, k, 0) 4 (w.2.2.1 0)) (4, k, 0) 5 (w.2.2.1 1)) (4, k, 0) 6 (w.2.2.1 2) = I0
  have h0 : ∀ a l, ¬ a = (4, k, 0) → I0 a l = I a l := fun a l ha => by rw [← hI0]; simp [eb_u, ha]
  have h4 : I0 (4, k, 0) 2 = nI w.1 ∧ I0 (4, k, 0) 3 = nI w.2.1 ∧ I0 (4, k, 0) 4 = w.2.2.1 0 ∧ I0 (4, k, 0) 5 = w.2.2.1 1 ∧ I0 (4, k, 0) 6 = w.2.2.1 2 := by rw [← hI0]; simp [eb_u]
  obtain ⟨I1, e, e1, e2⟩ := eb_loop (α := eb_A → Nat → Int32) (n := w.1) (s0 := I0)
    (F := fun i s => eb_E L (d + 1) 39 42 [some (zr (4, k, 0)), some (zr (4, k1, 0)), some (zi (nI i)), none] [] (nc, ns, s, J, eb_RL C mt mk))
    (P := fun i s => (∀ a l, ¬ (a.1 = 6 ∧ a.2.1 = k) → s a l = I0 a l) ∧ ∀ j, j < i → ∀ f, f < 7 → s (6, k, j) f = w.2.2.2.1 j f)
    ⟨fun _ _ _ => rfl, fun j hj => by omega⟩ (by
      intro i I1 hi hP
      obtain ⟨h2, h3⟩ := hP
      rw [e39_42]
      have g1 : I1 (4, k, 0) 2 = nI w.1 := by rw [h2 _ _ (by simp)]; exact h4.1
      have g2 : ∀ f, f < 7 → I1 (6, k1, i) f = w.2.2.2.1 i f := fun f hf => by rw [h2 _ _ (by simp [hk]), h0 _ _ (by simp)]; exact h.2.1 i hi f hf
      simp (decide := true) (disch := omega) only [e39_0, e39_1, e39_2, e39_5, e39_8, e39_9, e39_10, e39_13, e39_16, e39_17, e39_18, e39_21, e39_24, e39_25, e39_26, e39_29, e39_32, e39_33, e39_34, e39_37, e39_40, e39_41, e39_43, e39_44, e39_47, e39_50, e39_51, e39_54, e39_55, e39_56, e39_57, e39_60, e39_61, e39_62, e39_65, e39_68, e39_71, e39_72, e39_74, e39_75, e39_78, e39_81, e39_82, e39_85, e39_86, e39_87, e39_88, e39_89, e39_92, e39_93, e39_94, e39_95, e39_98, e39_99, e39_102, e39_103, e39_106, e39_109, e39_112, e39_115, bi_s, tyX, rl1, rl2, rl4, ↓reduceIte, Option.bind_some, true_and, and_true, false_and, and_false, true_or, or_true, false_or, or_false, if_same0, ite_eq0, ite_eq0', ite_eq1, ite_eq1', or_em, or_em', ite_not, lcmp0, lcmpL, lcmpG, nI_cl_b, eb_in_b, nI_1, nI_pred, Int32.reduceToNatClampNeg, eb_u_ap, Prod.mk.injEq, not_true_eq_false, not_false_eq_true, g1, nI_lt_b, hi, x_innLike hk, g2]
      refine ⟨_, rfl, fun a l hal => ?_, fun j hj f hf => ?_⟩
      · have q : ¬ a = (6, k, i) := fun q => hal (by rw [q]; exact ⟨rfl, rfl⟩)
        simp [eb_u, q, h2 a l hal]
      · by_cases hji : j = i
        · subst hji
          rcases (show f = 0 ∨ f = 1 ∨ f = 2 ∨ f = 3 ∨ f = 4 ∨ f = 5 ∨ f = 6 by omega) with rfl | rfl | rfl | rfl | rfl | rfl | rfl <;> simp [eb_u]
        · simp [eb_u, hji, h3 j (by omega) f hf])
  have g1 : I1 (4, k, 0) 2 = nI w.1 := by rw [e1 _ _ (by simp)]; exact h4.1
  simp only [nI_0] at e
  rw [e, e39_42]
  simp (decide := true) (disch := omega) only [e39_0, e39_1, e39_2, e39_5, e39_8, e39_9, e39_10, e39_13, e39_16, e39_17, e39_18, e39_21, e39_24, e39_25, e39_26, e39_29, e39_32, e39_33, e39_34, e39_37, e39_40, e39_41, e39_43, e39_44, e39_47, e39_50, e39_51, e39_54, e39_55, e39_56, e39_57, e39_60, e39_61, e39_62, e39_65, e39_68, e39_71, e39_72, e39_74, e39_75, e39_78, e39_81, e39_82, e39_85, e39_86, e39_87, e39_88, e39_89, e39_92, e39_93, e39_94, e39_95, e39_98, e39_99, e39_102, e39_103, e39_106, e39_109, e39_112, e39_115, bi_s, tyX, rl1, rl2, rl4, ↓reduceIte, Option.bind_some, true_and, and_true, false_and, and_false, true_or, or_true, false_or, or_false, if_same0, ite_eq0, ite_eq0', ite_eq1, ite_eq1', or_em, or_em', ite_not, lcmp0, lcmpL, lcmpG, nI_cl_b, eb_in_b, nI_1, nI_pred, Int32.reduceToNatClampNeg, eb_u_ap, Prod.mk.injEq, not_true_eq_false, not_false_eq_true, g1, nI_lt_b, Nat.lt_irrefl]
  obtain ⟨s, e', p1, p2⟩ := eb_loop (α := Option eb_V × (eb_A → Nat → Int32)) (n := w.2.1) (s0 := (none, I1))
    (F := fun i s => eb_E L (d + 1) 39 73 [some (zr (4, k, 0)), some (zr (4, k1, 0)), some (zi (nI i)), s.1] [] (nc, ns, s.2, J, eb_RL C mt mk))
    (P := fun i s => (∀ a l, ¬ (a.1 = 7 ∧ a.2.1 = k) → s.2 a l = I1 a l) ∧ ∀ j, j < i → ∀ f, f < 3 → s.2 (7, k, j) f = w.2.2.2.2 j f)
    ⟨fun _ _ _ => rfl, fun j hj => by omega⟩ (by
      intro i s hi hP
      obtain ⟨c, I2⟩ := s
      obtain ⟨h2, h3⟩ := hP
      have h2 : ∀ a l, ¬ (a.1 = 7 ∧ a.2.1 = k) → I2 a l = I1 a l := h2
      have h3 : ∀ j, j < i → ∀ f, f < 3 → I2 (7, k, j) f = w.2.2.2.2 j f := h3
      rw [e39_73]
      have g1 : I2 (4, k, 0) 3 = nI w.2.1 := by rw [h2 _ _ (by simp), e1 _ _ (by simp)]; exact h4.2.1
      have g2 : ∀ f, f < 3 → I2 (7, k1, i) f = w.2.2.2.2 i f := fun f hf => by rw [h2 _ _ (by simp [hk]), e1 _ _ (by simp), h0 _ _ (by simp)]; exact h.2.2 i hi f hf
      simp (decide := true) (disch := omega) only [e39_0, e39_1, e39_2, e39_5, e39_8, e39_9, e39_10, e39_13, e39_16, e39_17, e39_18, e39_21, e39_24, e39_25, e39_26, e39_29, e39_32, e39_33, e39_34, e39_37, e39_40, e39_41, e39_43, e39_44, e39_47, e39_50, e39_51, e39_54, e39_55, e39_56, e39_57, e39_60, e39_61, e39_62, e39_65, e39_68, e39_71, e39_72, e39_74, e39_75, e39_78, e39_81, e39_82, e39_85, e39_86, e39_87, e39_88, e39_89, e39_92, e39_93, e39_94, e39_95, e39_98, e39_99, e39_102, e39_103, e39_106, e39_109, e39_112, e39_115, bi_s, tyX, rl1, rl2, rl4, ↓reduceIte, Option.bind_some, true_and, and_true, false_and, and_false, true_or, or_true, false_or, or_false, if_same0, ite_eq0, ite_eq0', ite_eq1, ite_eq1', or_em, or_em', ite_not, lcmp0, lcmpL, lcmpG, nI_cl_b, eb_in_b, nI_1, nI_pred, Int32.reduceToNatClampNeg, eb_u_ap, Prod.mk.injEq, not_true_eq_false, not_false_eq_true, g1, nI_lt_b, hi, hb, g2]
      refine ⟨(some (zr (7, k1, i)), eb_u (eb_u (eb_u I2 (7, k, i) 0 (w.2.2.2.2 i 0)) (7, k, i) 1 (w.2.2.2.2 i 1)) (7, k, i) 2 (w.2.2.2.2 i 2)), rfl, fun a l hal => ?_, fun j hj f hf => ?_⟩
      · have q : ¬ a = (7, k, i) := fun q => hal (by rw [q]; exact ⟨rfl, rfl⟩)
        simp [eb_u, q, h2 a l hal]
      · by_cases hji : j = i
        · subst hji
          rcases (show f = 0 ∨ f = 1 ∨ f = 2 by omega) with rfl | rfl | rfl <;> simp [eb_u]
        · simp [eb_u, hji, h3 j (by omega) f hf])
  obtain ⟨c, I2⟩ := s
  have p1 : ∀ a l, ¬ (a.1 = 7 ∧ a.2.1 = k) → I2 a l = I1 a l := p1
  have p2 : ∀ j, j < w.2.1 → ∀ f, f < 3 → I2 (7, k, j) f = w.2.2.2.2 j f := p2
  have q4 : ∀ l, I2 (4, k, 0) l = I0 (4, k, 0) l := fun l => by rw [p1 _ _ (by simp), e1 _ _ (by simp)]
  have g2 : I2 (4, k, 0) 3 = nI w.2.1 := by rw [q4]; exact h4.2.1
  simp only [nI_0] at e'
  rw [e', e39_73]
  simp (decide := true) (disch := omega) only [e39_0, e39_1, e39_2, e39_5, e39_8, e39_9, e39_10, e39_13, e39_16, e39_17, e39_18, e39_21, e39_24, e39_25, e39_26, e39_29, e39_32, e39_33, e39_34, e39_37, e39_40, e39_41, e39_43, e39_44, e39_47, e39_50, e39_51, e39_54, e39_55, e39_56, e39_57, e39_60, e39_61, e39_62, e39_65, e39_68, e39_71, e39_72, e39_74, e39_75, e39_78, e39_81, e39_82, e39_85, e39_86, e39_87, e39_88, e39_89, e39_92, e39_93, e39_94, e39_95, e39_98, e39_99, e39_102, e39_103, e39_106, e39_109, e39_112, e39_115, bi_s, tyX, rl1, rl2, rl4, ↓reduceIte, Option.bind_some, true_and, and_true, false_and, and_false, true_or, or_true, false_or, or_false, if_same0, ite_eq0, ite_eq0', ite_eq1, ite_eq1', or_em, or_em', ite_not, lcmp0, lcmpL, lcmpG, nI_cl_b, eb_in_b, nI_1, nI_pred, Int32.reduceToNatClampNeg, eb_u_ap, Prod.mk.injEq, not_true_eq_false, not_false_eq_true, g2, nI_lt_b, Nat.lt_irrefl]
  refine ⟨_, rfl, ⟨⟨?_, ?_, ?_, ?_, ?_⟩, fun i hi f hf => ?_, p2⟩, fun a l hal => ?_⟩
  · rw [q4]; exact h4.1
  · rw [q4]; exact h4.2.1
  · rw [q4]; exact h4.2.2.1
  · rw [q4]; exact h4.2.2.2.1
  · rw [q4]; exact h4.2.2.2.2
  · rw [p1 _ _ (by simp)]; exact e2 i hi f hf
  · have q6 : ¬ (a.1 = 6 ∧ a.2.1 = k) := fun q => hal ⟨q.2, by omega, by omega⟩
    have q7 : ¬ (a.1 = 7 ∧ a.2.1 = k) := fun q => hal ⟨q.2, by omega, by omega⟩
    have q5 : ¬ a = (4, k, 0) := fun q => hal (by rw [q]; exact ⟨rfl, Nat.le_refl _, Nat.le_of_ble_eq_true rfl⟩)
    rw [p1 a l q7, e1 a l q6, h0 a l q5]
end

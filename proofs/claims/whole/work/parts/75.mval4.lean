/-! the reference's valleys: a year -/
def sp_gv (q : Nat → Int32) : Int32 := if ¬ q 4 = -1 ∧ q 0 < q 4 then (if q 0 - 10 < 0 then 0 else q 0 - 10) else q 0
theorem sp_grow5 {q : Nat → Int32} {gu : Int32} : sp_grow q gu 5 = (if 0 < gu ∧ q 5 < 99 then q 5 + 1 else q 5) ∧ sp_grow q gu 6 = (if 0 < gu ∧ q 5 < 99 then q 6 + sp_gv q else q 6) := by
  unfold sp_grow sp_gv
  by_cases c : 0 < gu ∧ q 5 < 99
  · simp [c]
  · simp [c]
theorem ok_c : ∀ n, n < 101 → (¬ 100 < nI n - 6) ∧ nI n < nI n + 3 ∧ ¬ nI n < 0 := by decide +kernel
theorem ok_d : ∀ n, n < 100 → (¬ nI n + nI n / 4 + 1 < 0) ∧ (¬ 99 < nI n - 1) ∧ ¬ nI n + 1 < 0 := by decide +kernel
section
variable {L d nc ns r i g : Nat} {I : eb_A → Nat → Int32} {J : eb_A → Nat → Int64} {C : Nat → Nat → Nat} {mt mk : Option Nat} {M : eb_M} {R : eb_A → Nat → Option eb_A} {w : eb_W} {x : Int32} {N : eb_N} {said : Nat → Int32}
theorem eb_NM_of {I' : eb_A → Nat → Int32} (h : eb_NM I r w said N) (h1 : ∀ i, I' (39, r, 0) i = I (39, r, 0) i) (h2 : ∀ i, I' (40, r, 0) i = I (40, r, 0) i) (h3 : ∀ j i, I' (37, r, j) i = I (37, r, j) i) (h4 : ∀ i, I' (38, r, 0) i = I (38, r, 0) i) : eb_NM I' r w said N :=
  ⟨fun i hi => ⟨by rw [h1]; exact (h.1 i hi).1, by rw [h2]; exact (h.1 i hi).2⟩, fun j hj => ⟨fun i hi => by rw [h3]; exact (h.2 j hj).1 i hi, by rw [h4]; exact (h.2 j hj).2⟩⟩
/-- the first part of a year's end: letters, what was taken -/
theorem m_year1 (h : eb_RM I r w) (hN : eb_NM I r w said N) (hw : sp_ok w) (hNk : sp_Nok w N) : ∃ I' o2 o3 o4, eb_E L (d + 5) 223 6 [some (zr (21, r, 0)), some (zi 0), none, none, none] [] (nc, ns, I, J, eb_RL C mt mk) = eb_E L (d + 5) 223 94 [some (zr (21, r, 0)), some (zi (nI w.1)), o2, o3, o4] [] (nc, ns, I', J, eb_RL C mt mk) ∧ (∀ a l, ¬ (a.1 = 32 ∧ a.2.1 = r ∧ (l = 5 ∨ l = 6)) → ¬ a = (42, r, 0) → I' a l = I a l) ∧ ∀ j, j < w.1 → I' (32, r, j) 5 = sp_grow (w.2.2.2.1 j) (N.1 j) 5 ∧ I' (32, r, j) 6 = sp_grow (w.2.2.2.1 j) (N.1 j) 6 ∧ I' (42, r, 0) j = w.2.2.2.1 j 3 * N.1 j := by
  have hn := hw.1
  obtain ⟨t, e, e1, e2, e3⟩ := eb_loop (α := Option eb_V × Option eb_V × Option eb_V × (eb_A → Nat → Int32)) (n := w.1) (s0 := (none, none, none, I))
    (F := fun i s => eb_E L (d + 5) 223 6 [some (zr (21, r, 0)), some (zi (nI i)), s.1, s.2.1, s.2.2.1] [] (nc, ns, s.2.2.2, J, eb_RL C mt mk))
    (P := fun i s => (∀ a l, ¬ (a.1 = 32 ∧ a.2.1 = r ∧ (l = 5 ∨ l = 6)) → ¬ a = (42, r, 0) → s.2.2.2 a l = I a l) ∧ (∀ j, j < i → s.2.2.2 (32, r, j) 5 = sp_grow (w.2.2.2.1 j) (N.1 j) 5 ∧ s.2.2.2 (32, r, j) 6 = sp_grow (w.2.2.2.1 j) (N.1 j) 6 ∧ s.2.2.2 (42, r, 0) j = w.2.2.2.1 j 3 * N.1 j) ∧ ∀ j, i ≤ j → ∀ l, s.2.2.2 (32, r, j) l = I (32, r, j) l)
    ⟨fun _ _ _ _ => rfl, fun j hj => by omega, fun _ _ _ => rfl⟩ (by
      intro i s hi hP
      obtain ⟨o2, o3, o4, I1⟩ := s
      obtain ⟨h1, h2, h3⟩ := hP
      have h1 : ∀ a l, ¬ (a.1 = 32 ∧ a.2.1 = r ∧ (l = 5 ∨ l = 6)) → ¬ a = (42, r, 0) → I1 a l = I a l := h1
      have h2 : ∀ j, j < i → I1 (32, r, j) 5 = sp_grow (w.2.2.2.1 j) (N.1 j) 5 ∧ I1 (32, r, j) 6 = sp_grow (w.2.2.2.1 j) (N.1 j) 6 ∧ I1 (42, r, 0) j = w.2.2.2.1 j 3 * N.1 j := h2
      have h3 : ∀ j, i ≤ j → ∀ l, I1 (32, r, j) l = I (32, r, j) l := h3
      have hq : ∀ f, f < 7 → I1 (32, r, i) f = w.2.2.2.1 i f := fun f hf => by rw [h3 i (Nat.le_refl _)]; exact h.2.1 i hi f hf
      have g9 : I1 (21, r, 0) 9 = nI w.1 := by rw [h1 _ _ (by simp) (by simp)]; exact h.1.1
      have g11 : I1 (21, r, 0) 11 = nI w.2.1 := by rw [h1 _ _ (by simp) (by simp)]; exact h.1.2.1
      have hN1 : eb_NM I1 r w said N := eb_NM_of hN (fun i => h1 _ _ (by simp) (by simp)) (fun i => h1 _ _ (by simp) (by simp)) (fun j i => h1 _ _ (by simp) (by simp)) (fun i => h1 _ _ (by simp) (by simp))
      have hhe := m_headsIn (L := L) (d := d + 4) (nc := nc) (ns := ns) (J := J) (C := C) (mt := mt) (mk := mk) g11 hN1 hw hNk hi
      have c : (nI i < nI w.1) = True := by rw [nI_lt_b (by omega) (by omega)]; exact eq_true hi
      have q0 := hq 0 (by omega)
      have q3 := hq 3 (by omega)
      have q4 := hq 4 (by omega)
      have q5 := hq 5 (by omega)
      have q6 := hq 6 (by omega)
      obtain ⟨r0, -⟩ := hw.2.2.2.1 i hi
      obtain ⟨a, ha, ea⟩ := eb_rg 100 r0.1 r0.2 (by omega)
      have hpos : ¬ w.2.2.2.1 i 0 < 0 := Int32.not_lt.mpr r0.1
      have gl := fun v => m_getsLetter (L := L) (d := d + 4) (nc := nc) (ns := ns) (I := I1) (J := J) (C := C) (mt := mt) (mk := mk) (r := r) (i := i) (x := v) (by omega)
      have hg5 := sp_grow5 (q := w.2.2.2.1 i) (gu := N.1 i)
      have done : ∀ I2 : eb_A → Nat → Int32, (∀ a l, ¬ (a = (32, r, i) ∧ (l = 5 ∨ l = 6)) → ¬ (a = (42, r, 0) ∧ l = i) → I2 a l = I1 a l) → I2 (32, r, i) 5 = sp_grow (w.2.2.2.1 i) (N.1 i) 5 → I2 (32, r, i) 6 = sp_grow (w.2.2.2.1 i) (N.1 i) 6 → I2 (42, r, 0) i = w.2.2.2.1 i 3 * N.1 i → (∀ a l, ¬ (a.1 = 32 ∧ a.2.1 = r ∧ (l = 5 ∨ l = 6)) → ¬ a = (42, r, 0) → I2 a l = I a l) ∧ (∀ j, j < i + 1 → I2 (32, r, j) 5 = sp_grow (w.2.2.2.1 j) (N.1 j) 5 ∧ I2 (32, r, j) 6 = sp_grow (w.2.2.2.1 j) (N.1 j) 6 ∧ I2 (42, r, 0) j = w.2.2.2.1 j 3 * N.1 j) ∧ ∀ j, i + 1 ≤ j → ∀ l, I2 (32, r, j) l = I (32, r, j) l := by
        intro I2 f1 f2 f3 f4
        refine ⟨fun a l z1 z2 => ?_, fun j hj => ?_, fun j hj l => ?_⟩
        · rw [f1 a l (fun z => z1 (by rw [z.1]; exact ⟨rfl, rfl, z.2⟩)) (fun z => z2 z.1)]; exact h1 a l z1 z2
        · by_cases z : j = i
          · subst z; exact ⟨f2, f3, f4⟩
          · rw [f1 _ _ (by simp [z]) (by simp), f1 _ _ (by simp [z]) (by simp), f1 _ _ (by simp) (by simp [z])]
            exact h2 j (by omega)
        · rw [f1 _ _ (by simp; omega) (by simp)]; exact h3 j (by omega) l
      rw [e223_6]
      by_cases c1 : 0 < N.1 i
      · have step : ∃ o, eb_E L (d + 5) 223 7 [some (zr (21, r, 0)), some (zi (nI i)), o2, o3, o4] [zi (nI i)] (nc, ns, I1, J, eb_RL C mt mk) = eb_E L (d + 5) 223 6 [some (zr (21, r, 0)), some (zi (nI (i + 1))), some (zr (32, r, i)), some (zi (N.1 i)), o] [] (nc, ns, eb_u (if w.2.2.2.1 i 5 < 99 then eb_u (eb_u I1 (32, r, i) 5 (w.2.2.2.1 i 5 + 1)) (32, r, i) 6 (w.2.2.2.1 i 6 + sp_gv (w.2.2.2.1 i)) else I1) (42, r, 0) i (N.1 i * w.2.2.2.1 i 3), J, eb_RL C mt mk) := by
          have fin3 : ∀ v, (if w.2.2.2.1 i 5 < 99 then eb_u (eb_u I1 (32, r, i) 5 (w.2.2.2.1 i 5 + 1)) (32, r, i) 6 (w.2.2.2.1 i 6 + v) else I1) (32, r, i) 3 = w.2.2.2.1 i 3 := fun v => by
            split
            · simp [eb_u, q3]
            · exact q3
          simp only [q5, q6] at gl
          by_cases c2 : w.2.2.2.1 i 4 = -1
          · have hgv : sp_gv (w.2.2.2.1 i) = w.2.2.2.1 i 0 := if_neg (fun z => z.1 c2)
            rw [hgv]
            simp (decide := true) (disch := omega) only [e223_7, e223_8, e223_11, e223_14, e223_15, e223_18, e223_19, e223_20, e223_21, e223_22, e223_23, e223_26, e223_27, e223_28, e223_31, e223_32, e223_33, e223_34, e223_35, e223_38, e223_39, e223_40, e223_41, e223_42, e223_43, e223_44, e223_47, e223_48, e223_49, e223_50, e223_52, e223_53, e223_56, e223_57, e223_58, e223_59, e223_61, e223_62, e223_63, e223_65, e223_68, e223_69, e223_72, e223_74, e223_77, e223_78, e223_81, e223_82, e223_83, e223_84, e223_85, e223_86, e223_87, e223_88, e223_91, bi_s, tyX, rl1, rl2, rl4, ↓reduceIte, Option.bind_some, true_and, and_true, false_and, and_false, true_or, or_true, false_or, or_false, if_same0, ite_eq0, ite_eq0', ite_eq1, ite_eq1', or_em, or_em', ite_not, lcmp0, lcmpL, lcmpG, nI_cl_b, eb_in_b, nI_1, nI_pred, Int32.reduceToNatClampNeg, eb_u_ap, Prod.mk.injEq, not_true_eq_false, not_false_eq_true, tyM, rl21, rl25, sp_rg, sp_iI, sp_iG, sp_iS, g9, c, hhe, c1, q4, q0, c2, hpos, gl, fin3]
            exact ⟨_, rfl⟩
          · by_cases c3 : w.2.2.2.1 i 0 < w.2.2.2.1 i 4
            · have hgv : sp_gv (w.2.2.2.1 i) = if w.2.2.2.1 i 0 - 10 < 0 then 0 else w.2.2.2.1 i 0 - 10 := if_pos ⟨c2, c3⟩
              rw [hgv]
              by_cases c4 : w.2.2.2.1 i 0 - 10 < 0
              · rw [if_pos c4]
                simp (decide := true) (disch := omega) only [e223_7, e223_8, e223_11, e223_14, e223_15, e223_18, e223_19, e223_20, e223_21, e223_22, e223_23, e223_26, e223_27, e223_28, e223_31, e223_32, e223_33, e223_34, e223_35, e223_38, e223_39, e223_40, e223_41, e223_42, e223_43, e223_44, e223_47, e223_48, e223_49, e223_50, e223_52, e223_53, e223_56, e223_57, e223_58, e223_59, e223_61, e223_62, e223_63, e223_65, e223_68, e223_69, e223_72, e223_74, e223_77, e223_78, e223_81, e223_82, e223_83, e223_84, e223_85, e223_86, e223_87, e223_88, e223_91, bi_s, tyX, rl1, rl2, rl4, ↓reduceIte, Option.bind_some, true_and, and_true, false_and, and_false, true_or, or_true, false_or, or_false, if_same0, ite_eq0, ite_eq0', ite_eq1, ite_eq1', or_em, or_em', ite_not, lcmp0, lcmpL, lcmpG, nI_cl_b, eb_in_b, nI_1, nI_pred, Int32.reduceToNatClampNeg, eb_u_ap, Prod.mk.injEq, not_true_eq_false, not_false_eq_true, tyM, rl21, rl25, sp_rg, sp_iI, sp_iG, sp_iS, g9, c, hhe, c1, q4, q0, c2, c3, c4, gl, fin3]
                exact ⟨_, rfl⟩
              · rw [if_neg c4]
                simp (decide := true) (disch := omega) only [e223_7, e223_8, e223_11, e223_14, e223_15, e223_18, e223_19, e223_20, e223_21, e223_22, e223_23, e223_26, e223_27, e223_28, e223_31, e223_32, e223_33, e223_34, e223_35, e223_38, e223_39, e223_40, e223_41, e223_42, e223_43, e223_44, e223_47, e223_48, e223_49, e223_50, e223_52, e223_53, e223_56, e223_57, e223_58, e223_59, e223_61, e223_62, e223_63, e223_65, e223_68, e223_69, e223_72, e223_74, e223_77, e223_78, e223_81, e223_82, e223_83, e223_84, e223_85, e223_86, e223_87, e223_88, e223_91, bi_s, tyX, rl1, rl2, rl4, ↓reduceIte, Option.bind_some, true_and, and_true, false_and, and_false, true_or, or_true, false_or, or_false, if_same0, ite_eq0, ite_eq0', ite_eq1, ite_eq1', or_em, or_em', ite_not, lcmp0, lcmpL, lcmpG, nI_cl_b, eb_in_b, nI_1, nI_pred, Int32.reduceToNatClampNeg, eb_u_ap, Prod.mk.injEq, not_true_eq_false, not_false_eq_true, tyM, rl21, rl25, sp_rg, sp_iI, sp_iG, sp_iS, g9, c, hhe, c1, q4, q0, c2, c3, c4, gl, fin3]
                exact ⟨_, rfl⟩
            · have hgv : sp_gv (w.2.2.2.1 i) = w.2.2.2.1 i 0 := if_neg (fun z => c3 z.2)
              rw [hgv]
              simp (decide := true) (disch := omega) only [e223_7, e223_8, e223_11, e223_14, e223_15, e223_18, e223_19, e223_20, e223_21, e223_22, e223_23, e223_26, e223_27, e223_28, e223_31, e223_32, e223_33, e223_34, e223_35, e223_38, e223_39, e223_40, e223_41, e223_42, e223_43, e223_44, e223_47, e223_48, e223_49, e223_50, e223_52, e223_53, e223_56, e223_57, e223_58, e223_59, e223_61, e223_62, e223_63, e223_65, e223_68, e223_69, e223_72, e223_74, e223_77, e223_78, e223_81, e223_82, e223_83, e223_84, e223_85, e223_86, e223_87, e223_88, e223_91, bi_s, tyX, rl1, rl2, rl4, ↓reduceIte, Option.bind_some, true_and, and_true, false_and, and_false, true_or, or_true, false_or, or_false, if_same0, ite_eq0, ite_eq0', ite_eq1, ite_eq1', or_em, or_em', ite_not, lcmp0, lcmpL, lcmpG, nI_cl_b, eb_in_b, nI_1, nI_pred, Int32.reduceToNatClampNeg, eb_u_ap, Prod.mk.injEq, not_true_eq_false, not_false_eq_true, tyM, rl21, rl25, sp_rg, sp_iI, sp_iG, sp_iS, g9, c, hhe, c1, q4, q0, c2, c3, hpos, gl, fin3]
              exact ⟨_, rfl⟩
        obtain ⟨o, step⟩ := step
        rw [step]
        refine ⟨(some (zr (32, r, i)), some (zi (N.1 i)), o, eb_u (if w.2.2.2.1 i 5 < 99 then eb_u (eb_u I1 (32, r, i) 5 (w.2.2.2.1 i 5 + 1)) (32, r, i) 6 (w.2.2.2.1 i 6 + sp_gv (w.2.2.2.1 i)) else I1) (42, r, 0) i (N.1 i * w.2.2.2.1 i 3)), rfl, done (eb_u (if w.2.2.2.1 i 5 < 99 then eb_u (eb_u I1 (32, r, i) 5 (w.2.2.2.1 i 5 + 1)) (32, r, i) 6 (w.2.2.2.1 i 6 + sp_gv (w.2.2.2.1 i)) else I1) (42, r, 0) i (N.1 i * w.2.2.2.1 i 3)) ?_ ?_ ?_ ?_⟩
        · intro a l z1 z2
          rw [show eb_u _ (42, r, 0) i (N.1 i * w.2.2.2.1 i 3) a l = _ from if_neg z2]
          split
          · have y1 : ¬ (a = (32, r, i) ∧ l = 5) := fun q => z1 ⟨q.1, Or.inl q.2⟩
            have y2 : ¬ (a = (32, r, i) ∧ l = 6) := fun q => z1 ⟨q.1, Or.inr q.2⟩
            simp only [eb_u, y1, y2, if_false]
          · rfl
        · rw [hg5.1]
          by_cases c5 : w.2.2.2.1 i 5 < 99 <;> simp [eb_u, c1, c5, q5]
        · rw [hg5.2]
          by_cases c5 : w.2.2.2.1 i 5 < 99 <;> simp [eb_u, c1, c5, q6]
        · simp [eb_u, Int32.mul_comm]
      · simp (decide := true) (disch := omega) only [e223_7, e223_8, e223_11, e223_14, e223_15, e223_18, e223_19, e223_20, e223_21, e223_22, e223_23, e223_26, e223_27, e223_28, e223_31, e223_32, e223_33, e223_34, e223_35, e223_38, e223_39, e223_40, e223_41, e223_42, e223_43, e223_44, e223_47, e223_48, e223_49, e223_50, e223_52, e223_53, e223_56, e223_57, e223_58, e223_59, e223_61, e223_62, e223_63, e223_65, e223_68, e223_69, e223_72, e223_74, e223_77, e223_78, e223_81, e223_82, e223_83, e223_84, e223_85, e223_86, e223_87, e223_88, e223_91, bi_s, tyX, rl1, rl2, rl4, ↓reduceIte, Option.bind_some, true_and, and_true, false_and, and_false, true_or, or_true, false_or, or_false, if_same0, ite_eq0, ite_eq0', ite_eq1, ite_eq1', or_em, or_em', ite_not, lcmp0, lcmpL, lcmpG, nI_cl_b, eb_in_b, nI_1, nI_pred, Int32.reduceToNatClampNeg, eb_u_ap, Prod.mk.injEq, not_true_eq_false, not_false_eq_true, tyM, rl21, rl25, sp_rg, sp_iI, sp_iG, sp_iS, g9, c, hhe, c1, q3]
        refine ⟨(some (zr (32, r, i)), some (zi (N.1 i)), o4, eb_u I1 (42, r, 0) i (N.1 i * w.2.2.2.1 i 3)), rfl, done (eb_u I1 (42, r, 0) i (N.1 i * w.2.2.2.1 i 3)) ?_ ?_ ?_ ?_⟩
        · intro a l z1 z2
          exact if_neg z2
        · rw [hg5.1, if_neg (fun z => c1 z.1)]
          simp [eb_u, q5]
        · rw [hg5.2, if_neg (fun z => c1 z.1)]
          simp [eb_u, q6]
        · simp [eb_u, Int32.mul_comm])
  obtain ⟨o2, o3, o4, I1⟩ := t
  have e1 : ∀ a l, ¬ (a.1 = 32 ∧ a.2.1 = r ∧ (l = 5 ∨ l = 6)) → ¬ a = (42, r, 0) → I1 a l = I a l := e1
  have g9 : I1 (21, r, 0) 9 = nI w.1 := by rw [e1 _ _ (by simp) (by simp)]; exact h.1.1
  simp only [nI_0] at e
  refine ⟨I1, o2, o3, o4, ?_, e1, e2⟩
  rw [e, e223_6]
  simp (decide := true) (disch := omega) only [e223_7, e223_8, e223_11, bi_s, tyX, rl1, rl2, rl4, ↓reduceIte, Option.bind_some, true_and, and_true, false_and, and_false, true_or, or_true, false_or, or_false, if_same0, ite_eq0, ite_eq0', ite_eq1, ite_eq1', or_em, or_em', ite_not, lcmp0, lcmpL, lcmpG, nI_cl_b, eb_in_b, nI_1, nI_pred, Int32.reduceToNatClampNeg, eb_u_ap, Prod.mk.injEq, not_true_eq_false, not_false_eq_true, tyM, rl21, rl25, sp_rg, sp_iI, sp_iG, sp_iS, g9, nI_lt_b, Nat.lt_irrefl]
theorem sp_grow03 {q : Nat → Int32} {gu : Int32} : sp_grow q gu 0 = (if ¬ gu < q 2 then (if q 0 - 6 < 0 then 0 else q 0 - 6) else if 2 * gu < q 2 then (if q 0 < q 1 then (if q 1 < q 0 + 3 then q 1 else q 0 + 3) else q 0) else q 0) ∧ sp_grow q gu 3 = (if ¬ gu < q 2 then (if 99 < q 3 + q 3 / 4 + 1 then 99 else q 3 + q 3 / 4 + 1) else if 2 * gu < q 2 then (if q 3 - 1 < 0 then 0 else q 3 - 1) else q 3) := ⟨rfl, rfl⟩
/-- the last part of a year's end: how good, what price -/
theorem m_year3 (h9 : I (21, r, 0) 9 = nI w.1) (h11 : I (21, r, 0) 11 = nI w.2.1) (hq : ∀ i, i < w.1 → ∀ f, f < 5 → I (32, r, i) f = w.2.2.2.1 i f) (hN : eb_NM I r w said N) (hw : sp_ok w) (hNk : sp_Nok w N) {o2 o3 o4 : Option eb_V} : ∃ I' o2' o3' o4', eb_E L (d + 5) 223 132 [some (zr (21, r, 0)), some (zi 0), o2, o3, o4] [] (nc, ns, I, J, eb_RL C mt mk) = eb_E L (d + 5) 223 266 [some (zr (21, r, 0)), some (zi (nI w.1)), o2', o3', o4'] [] (nc, ns, I', J, eb_RL C mt mk) ∧ (∀ a l, ¬ (a.1 = 32 ∧ a.2.1 = r ∧ (l = 0 ∨ l = 3)) → I' a l = I a l) ∧ ∀ j, j < w.1 → I' (32, r, j) 0 = sp_grow (w.2.2.2.1 j) (N.1 j) 0 ∧ I' (32, r, j) 3 = sp_grow (w.2.2.2.1 j) (N.1 j) 3 := by
  have hn := hw.1
  obtain ⟨t, e, e1, e2, e3⟩ := eb_loop (α := Option eb_V × Option eb_V × Option eb_V × (eb_A → Nat → Int32)) (n := w.1) (s0 := (o2, o3, o4, I))
    (F := fun i s => eb_E L (d + 5) 223 132 [some (zr (21, r, 0)), some (zi (nI i)), s.1, s.2.1, s.2.2.1] [] (nc, ns, s.2.2.2, J, eb_RL C mt mk))
    (P := fun i s => (∀ a l, ¬ (a.1 = 32 ∧ a.2.1 = r ∧ (l = 0 ∨ l = 3)) → s.2.2.2 a l = I a l) ∧ (∀ j, j < i → s.2.2.2 (32, r, j) 0 = sp_grow (w.2.2.2.1 j) (N.1 j) 0 ∧ s.2.2.2 (32, r, j) 3 = sp_grow (w.2.2.2.1 j) (N.1 j) 3) ∧ ∀ j, i ≤ j → ∀ l, s.2.2.2 (32, r, j) l = I (32, r, j) l)
    ⟨fun _ _ _ => rfl, fun j hj => by omega, fun _ _ _ => rfl⟩ (by
      intro i s hi hP
      obtain ⟨o2, o3, o4, I1⟩ := s
      obtain ⟨h1, h2, h3⟩ := hP
      have h1 : ∀ a l, ¬ (a.1 = 32 ∧ a.2.1 = r ∧ (l = 0 ∨ l = 3)) → I1 a l = I a l := h1
      have h2 : ∀ j, j < i → I1 (32, r, j) 0 = sp_grow (w.2.2.2.1 j) (N.1 j) 0 ∧ I1 (32, r, j) 3 = sp_grow (w.2.2.2.1 j) (N.1 j) 3 := h2
      have h3 : ∀ j, i ≤ j → ∀ l, I1 (32, r, j) l = I (32, r, j) l := h3
      have hq1 : ∀ f, f < 5 → I1 (32, r, i) f = w.2.2.2.1 i f := fun f hf => by rw [h3 i (Nat.le_refl _)]; exact hq i hi f hf
      have g9 : I1 (21, r, 0) 9 = nI w.1 := by rw [h1 _ _ (by simp)]; exact h9
      have g11 : I1 (21, r, 0) 11 = nI w.2.1 := by rw [h1 _ _ (by simp)]; exact h11
      have hN1 : eb_NM I1 r w said N := eb_NM_of hN (fun i => h1 _ _ (by simp)) (fun i => h1 _ _ (by simp)) (fun j i => h1 _ _ (by simp)) (fun i => h1 _ _ (by simp))
      have hhe := m_headsIn (L := L) (d := d + 4) (nc := nc) (ns := ns) (J := J) (C := C) (mt := mt) (mk := mk) g11 hN1 hw hNk hi
      have c : (nI i < nI w.1) = True := by rw [nI_lt_b (by omega) (by omega)]; exact eq_true hi
      have kl := (hN1.1 i hi).1
      have hl0 := left0 hNk.1 hi
      have q0 := hq1 0 (by omega)
      have q1 := hq1 1 (by omega)
      have q2 := hq1 2 (by omega)
      have q3 := hq1 3 (by omega)
      obtain ⟨r0, r1, -, r3, -, -⟩ := hw.2.2.2.1 i hi
      obtain ⟨a, ha, ea⟩ := eb_rg 100 r0.1 r0.2 (by omega)
      obtain ⟨b, hb, eb⟩ := eb_rg 99 r3.1 r3.2 (by omega)
      have oa := ok_c a (by omega)
      have ob := ok_d b (by omega)
      rw [← ea] at oa
      rw [← eb] at ob
      have hg := sp_grow03 (q := w.2.2.2.1 i) (gu := N.1 i)
      have done : ∀ I2 : eb_A → Nat → Int32, (∀ a l, ¬ (a = (32, r, i) ∧ (l = 0 ∨ l = 3)) → I2 a l = I1 a l) → I2 (32, r, i) 0 = sp_grow (w.2.2.2.1 i) (N.1 i) 0 → I2 (32, r, i) 3 = sp_grow (w.2.2.2.1 i) (N.1 i) 3 → (∀ a l, ¬ (a.1 = 32 ∧ a.2.1 = r ∧ (l = 0 ∨ l = 3)) → I2 a l = I a l) ∧ (∀ j, j < i + 1 → I2 (32, r, j) 0 = sp_grow (w.2.2.2.1 j) (N.1 j) 0 ∧ I2 (32, r, j) 3 = sp_grow (w.2.2.2.1 j) (N.1 j) 3) ∧ ∀ j, i + 1 ≤ j → ∀ l, I2 (32, r, j) l = I (32, r, j) l := by
        intro I2 f1 f2 f3
        refine ⟨fun a l z1 => ?_, fun j hj => ?_, fun j hj l => ?_⟩
        · rw [f1 a l (fun z => z1 (by rw [z.1]; exact ⟨rfl, rfl, z.2⟩))]; exact h1 a l z1
        · by_cases z : j = i
          · subst z; exact ⟨f2, f3⟩
          · rw [f1 _ _ (by simp [z]), f1 _ _ (by simp [z])]
            exact h2 j (by omega)
        · rw [f1 _ _ (by simp; omega)]; exact h3 j (by omega) l
      have off : ∀ (I2 : eb_A → Nat → Int32) x y, (∀ a l, I2 a l = eb_u (eb_u I1 (32, r, i) 0 x) (32, r, i) 3 y a l) → ∀ a l, ¬ (a = (32, r, i) ∧ (l = 0 ∨ l = 3)) → I2 a l = I1 a l := by
        intro I2 x y hI a l z
        have y1 : ¬ (a = (32, r, i) ∧ l = 0) := fun q => z ⟨q.1, Or.inl q.2⟩
        have y2 : ¬ (a = (32, r, i) ∧ l = 3) := fun q => z ⟨q.1, Or.inr q.2⟩
        rw [hI]; simp only [eb_u, y1, y2, if_false]
      rw [e223_132]
      by_cases c1 : N.1 i < w.2.2.2.1 i 2
      · have hl0 : (w.2.2.2.1 i 2 - N.1 i = 0) = False := by rw [hl0]; simp [c1]
        rw [if_neg (not_not_intro c1), if_neg (not_not_intro c1)] at hg
        by_cases c2 : 2 * N.1 i < w.2.2.2.1 i 2
        · rw [if_pos c2, if_pos c2] at hg
          have hw3 : (if w.2.2.2.1 i 3 - 1 < 0 then 0 else if 99 < w.2.2.2.1 i 3 - 1 then 99 else w.2.2.2.1 i 3 - 1) = sp_grow (w.2.2.2.1 i) (N.1 i) 3 := by
            rw [hg.2, if_neg ob.2.1]
          by_cases c3 : w.2.2.2.1 i 1 < w.2.2.2.1 i 0 + 3
          · by_cases c4 : w.2.2.2.1 i 1 < w.2.2.2.1 i 0
            · have hg0 : sp_grow (w.2.2.2.1 i) (N.1 i) 0 = w.2.2.2.1 i 0 := by rw [hg.1, if_neg (Int32.lt_asymm c4)]
              simp (decide := true) (disch := omega) only [e223_133, e223_134, e223_137, e223_140, e223_141, e223_144, e223_145, e223_146, e223_147, e223_148, e223_151, e223_152, e223_153, e223_156, e223_157, e223_158, e223_159, e223_160, e223_161, e223_163, e223_164, e223_166, e223_169, e223_170, e223_171, e223_172, e223_173, e223_174, e223_175, e223_176, e223_177, e223_178, e223_179, e223_180, e223_181, e223_182, e223_183, e223_185, e223_188, e223_189, e223_192, e223_193, e223_194, e223_195, e223_198, e223_199, e223_200, e223_201, e223_202, e223_205, e223_206, e223_207, e223_208, e223_209, e223_210, e223_211, e223_212, e223_213, e223_216, e223_217, e223_218, e223_219, e223_222, e223_223, e223_224, e223_225, e223_226, e223_227, e223_228, e223_229, e223_230, e223_231, e223_232, e223_233, e223_234, e223_235, e223_236, e223_239, e223_240, e223_241, e223_242, e223_245, e223_246, e223_247, e223_248, e223_249, e223_250, e223_251, e223_252, e223_253, e223_254, e223_256, e223_259, e223_260, e223_263, bi_s, tyX, rl1, rl2, rl4, ↓reduceIte, Option.bind_some, true_and, and_true, false_and, and_false, true_or, or_true, false_or, or_false, if_same0, ite_eq0, ite_eq0', ite_eq1, ite_eq1', or_em, or_em', ite_not, lcmp0, lcmpL, lcmpG, nI_cl_b, eb_in_b, nI_1, nI_pred, Int32.reduceToNatClampNeg, eb_u_ap, Prod.mk.injEq, not_true_eq_false, not_false_eq_true, tyM, rl21, rl25, sp_rg, sp_iI, sp_iG, sp_iS, g9, c, kl, hl0, hhe, q0, q1, q2, q3, c2, c3, c4, m_within, hw3]
              exact ⟨(some (zr (32, r, i)), some (zi (w.2.2.2.1 i 1)), o4, eb_u (eb_u I1 (32, r, i) 0 (w.2.2.2.1 i 0)) (32, r, i) 3 (sp_grow (w.2.2.2.1 i) (N.1 i) 3)), rfl, done (eb_u (eb_u I1 (32, r, i) 0 (w.2.2.2.1 i 0)) (32, r, i) 3 (sp_grow (w.2.2.2.1 i) (N.1 i) 3)) (off _ _ _ (fun _ _ => rfl)) (by simp [eb_u, hg0]) (by simp [eb_u])⟩
            · have hg0 : sp_grow (w.2.2.2.1 i) (N.1 i) 0 = w.2.2.2.1 i 1 := by
                rw [hg.1]
                by_cases c5 : w.2.2.2.1 i 0 < w.2.2.2.1 i 1
                · rw [if_pos c5, if_pos c3]
                · rw [if_neg c5]
                  exact Int32.le_antisymm (Int32.not_lt.mp c4) (Int32.not_lt.mp c5)
              simp (decide := true) (disch := omega) only [e223_133, e223_134, e223_137, e223_140, e223_141, e223_144, e223_145, e223_146, e223_147, e223_148, e223_151, e223_152, e223_153, e223_156, e223_157, e223_158, e223_159, e223_160, e223_161, e223_163, e223_164, e223_166, e223_169, e223_170, e223_171, e223_172, e223_173, e223_174, e223_175, e223_176, e223_177, e223_178, e223_179, e223_180, e223_181, e223_182, e223_183, e223_185, e223_188, e223_189, e223_192, e223_193, e223_194, e223_195, e223_198, e223_199, e223_200, e223_201, e223_202, e223_205, e223_206, e223_207, e223_208, e223_209, e223_210, e223_211, e223_212, e223_213, e223_216, e223_217, e223_218, e223_219, e223_222, e223_223, e223_224, e223_225, e223_226, e223_227, e223_228, e223_229, e223_230, e223_231, e223_232, e223_233, e223_234, e223_235, e223_236, e223_239, e223_240, e223_241, e223_242, e223_245, e223_246, e223_247, e223_248, e223_249, e223_250, e223_251, e223_252, e223_253, e223_254, e223_256, e223_259, e223_260, e223_263, bi_s, tyX, rl1, rl2, rl4, ↓reduceIte, Option.bind_some, true_and, and_true, false_and, and_false, true_or, or_true, false_or, or_false, if_same0, ite_eq0, ite_eq0', ite_eq1, ite_eq1', or_em, or_em', ite_not, lcmp0, lcmpL, lcmpG, nI_cl_b, eb_in_b, nI_1, nI_pred, Int32.reduceToNatClampNeg, eb_u_ap, Prod.mk.injEq, not_true_eq_false, not_false_eq_true, tyM, rl21, rl25, sp_rg, sp_iI, sp_iG, sp_iS, g9, c, kl, hl0, hhe, q0, q1, q2, q3, c2, c3, c4, m_within, hw3]
              exact ⟨(some (zr (32, r, i)), some (zi (w.2.2.2.1 i 1)), o4, eb_u (eb_u I1 (32, r, i) 0 (w.2.2.2.1 i 1)) (32, r, i) 3 (sp_grow (w.2.2.2.1 i) (N.1 i) 3)), rfl, done (eb_u (eb_u I1 (32, r, i) 0 (w.2.2.2.1 i 1)) (32, r, i) 3 (sp_grow (w.2.2.2.1 i) (N.1 i) 3)) (off _ _ _ (fun _ _ => rfl)) (by simp [eb_u, hg0]) (by simp [eb_u])⟩
          · have c4 : ¬ w.2.2.2.1 i 1 < w.2.2.2.1 i 0 := fun z => c3 (Int32.lt_trans z oa.2.1)
            have c5 : w.2.2.2.1 i 0 < w.2.2.2.1 i 1 := Int32.lt_of_lt_of_le oa.2.1 (Int32.not_lt.mp c3)
            have hg0 : sp_grow (w.2.2.2.1 i) (N.1 i) 0 = w.2.2.2.1 i 0 + 3 := by rw [hg.1, if_pos c5, if_neg c3]
            simp (decide := true) (disch := omega) only [e223_133, e223_134, e223_137, e223_140, e223_141, e223_144, e223_145, e223_146, e223_147, e223_148, e223_151, e223_152, e223_153, e223_156, e223_157, e223_158, e223_159, e223_160, e223_161, e223_163, e223_164, e223_166, e223_169, e223_170, e223_171, e223_172, e223_173, e223_174, e223_175, e223_176, e223_177, e223_178, e223_179, e223_180, e223_181, e223_182, e223_183, e223_185, e223_188, e223_189, e223_192, e223_193, e223_194, e223_195, e223_198, e223_199, e223_200, e223_201, e223_202, e223_205, e223_206, e223_207, e223_208, e223_209, e223_210, e223_211, e223_212, e223_213, e223_216, e223_217, e223_218, e223_219, e223_222, e223_223, e223_224, e223_225, e223_226, e223_227, e223_228, e223_229, e223_230, e223_231, e223_232, e223_233, e223_234, e223_235, e223_236, e223_239, e223_240, e223_241, e223_242, e223_245, e223_246, e223_247, e223_248, e223_249, e223_250, e223_251, e223_252, e223_253, e223_254, e223_256, e223_259, e223_260, e223_263, bi_s, tyX, rl1, rl2, rl4, ↓reduceIte, Option.bind_some, true_and, and_true, false_and, and_false, true_or, or_true, false_or, or_false, if_same0, ite_eq0, ite_eq0', ite_eq1, ite_eq1', or_em, or_em', ite_not, lcmp0, lcmpL, lcmpG, nI_cl_b, eb_in_b, nI_1, nI_pred, Int32.reduceToNatClampNeg, eb_u_ap, Prod.mk.injEq, not_true_eq_false, not_false_eq_true, tyM, rl21, rl25, sp_rg, sp_iI, sp_iG, sp_iS, g9, c, kl, hl0, hhe, q0, q1, q2, q3, c2, c3, c4, m_within, hw3]
            exact ⟨(some (zr (32, r, i)), some (zi (w.2.2.2.1 i 0 + 3)), o4, eb_u (eb_u I1 (32, r, i) 0 (w.2.2.2.1 i 0 + 3)) (32, r, i) 3 (sp_grow (w.2.2.2.1 i) (N.1 i) 3)), rfl, done (eb_u (eb_u I1 (32, r, i) 0 (w.2.2.2.1 i 0 + 3)) (32, r, i) 3 (sp_grow (w.2.2.2.1 i) (N.1 i) 3)) (off _ _ _ (fun _ _ => rfl)) (by simp [eb_u, hg0]) (by simp [eb_u])⟩
        · rw [if_neg c2, if_neg c2] at hg
          simp (decide := true) (disch := omega) only [e223_133, e223_134, e223_137, e223_140, e223_141, e223_144, e223_145, e223_146, e223_147, e223_148, e223_151, e223_152, e223_153, e223_156, e223_157, e223_158, e223_159, e223_160, e223_161, e223_163, e223_164, e223_166, e223_169, e223_170, e223_171, e223_172, e223_173, e223_174, e223_175, e223_176, e223_177, e223_178, e223_179, e223_180, e223_181, e223_182, e223_183, e223_185, e223_188, e223_189, e223_192, e223_193, e223_194, e223_195, e223_198, e223_199, e223_200, e223_201, e223_202, e223_205, e223_206, e223_207, e223_208, e223_209, e223_210, e223_211, e223_212, e223_213, e223_216, e223_217, e223_218, e223_219, e223_222, e223_223, e223_224, e223_225, e223_226, e223_227, e223_228, e223_229, e223_230, e223_231, e223_232, e223_233, e223_234, e223_235, e223_236, e223_239, e223_240, e223_241, e223_242, e223_245, e223_246, e223_247, e223_248, e223_249, e223_250, e223_251, e223_252, e223_253, e223_254, e223_256, e223_259, e223_260, e223_263, bi_s, tyX, rl1, rl2, rl4, ↓reduceIte, Option.bind_some, true_and, and_true, false_and, and_false, true_or, or_true, false_or, or_false, if_same0, ite_eq0, ite_eq0', ite_eq1, ite_eq1', or_em, or_em', ite_not, lcmp0, lcmpL, lcmpG, nI_cl_b, eb_in_b, nI_1, nI_pred, Int32.reduceToNatClampNeg, eb_u_ap, Prod.mk.injEq, not_true_eq_false, not_false_eq_true, tyM, rl21, rl25, sp_rg, sp_iI, sp_iG, sp_iS, g9, c, kl, hl0, hhe, q2, c2]
          exact ⟨(some (zr (32, r, i)), o3, o4, I1), rfl, done I1 (fun _ _ _ => rfl) (q0.trans hg.1.symm) (q3.trans hg.2.symm)⟩
      · have hl0 : (w.2.2.2.1 i 2 - N.1 i = 0) = True := by rw [hl0]; simp [c1]
        rw [if_pos c1, if_pos c1] at hg
        have hw0 : (if w.2.2.2.1 i 0 - 6 < 0 then 0 else if 100 < w.2.2.2.1 i 0 - 6 then 100 else w.2.2.2.1 i 0 - 6) = sp_grow (w.2.2.2.1 i) (N.1 i) 0 := by rw [hg.1, if_neg oa.1]
        have hw3 : (if w.2.2.2.1 i 3 + w.2.2.2.1 i 3 / 4 + 1 < 0 then 0 else if 99 < w.2.2.2.1 i 3 + w.2.2.2.1 i 3 / 4 + 1 then 99 else w.2.2.2.1 i 3 + w.2.2.2.1 i 3 / 4 + 1) = sp_grow (w.2.2.2.1 i) (N.1 i) 3 := by rw [hg.2, if_neg ob.1]
        simp (decide := true) (disch := omega) only [e223_133, e223_134, e223_137, e223_140, e223_141, e223_144, e223_145, e223_146, e223_147, e223_148, e223_151, e223_152, e223_153, e223_156, e223_157, e223_158, e223_159, e223_160, e223_161, e223_163, e223_164, e223_166, e223_169, e223_170, e223_171, e223_172, e223_173, e223_174, e223_175, e223_176, e223_177, e223_178, e223_179, e223_180, e223_181, e223_182, e223_183, e223_185, e223_188, e223_189, e223_192, e223_193, e223_194, e223_195, e223_198, e223_199, e223_200, e223_201, e223_202, e223_205, e223_206, e223_207, e223_208, e223_209, e223_210, e223_211, e223_212, e223_213, e223_216, e223_217, e223_218, e223_219, e223_222, e223_223, e223_224, e223_225, e223_226, e223_227, e223_228, e223_229, e223_230, e223_231, e223_232, e223_233, e223_234, e223_235, e223_236, e223_239, e223_240, e223_241, e223_242, e223_245, e223_246, e223_247, e223_248, e223_249, e223_250, e223_251, e223_252, e223_253, e223_254, e223_256, e223_259, e223_260, e223_263, bi_s, tyX, rl1, rl2, rl4, ↓reduceIte, Option.bind_some, true_and, and_true, false_and, and_false, true_or, or_true, false_or, or_false, if_same0, ite_eq0, ite_eq0', ite_eq1, ite_eq1', or_em, or_em', ite_not, lcmp0, lcmpL, lcmpG, nI_cl_b, eb_in_b, nI_1, nI_pred, Int32.reduceToNatClampNeg, eb_u_ap, Prod.mk.injEq, not_true_eq_false, not_false_eq_true, tyM, rl21, rl25, sp_rg, sp_iI, sp_iG, sp_iS, g9, c, kl, hl0, q0, q3, m_within, hw0, hw3]
        exact ⟨(some (zr (32, r, i)), o3, o4, eb_u (eb_u I1 (32, r, i) 0 (sp_grow (w.2.2.2.1 i) (N.1 i) 0)) (32, r, i) 3 (sp_grow (w.2.2.2.1 i) (N.1 i) 3)), rfl, done (eb_u (eb_u I1 (32, r, i) 0 (sp_grow (w.2.2.2.1 i) (N.1 i) 0)) (32, r, i) 3 (sp_grow (w.2.2.2.1 i) (N.1 i) 3)) (off _ _ _ (fun _ _ => rfl)) (by simp [eb_u]) (by simp [eb_u])⟩)
  obtain ⟨o2', o3', o4', I1⟩ := t
  have e1 : ∀ a l, ¬ (a.1 = 32 ∧ a.2.1 = r ∧ (l = 0 ∨ l = 3)) → I1 a l = I a l := e1
  have g9 : I1 (21, r, 0) 9 = nI w.1 := by rw [e1 _ _ (by simp)]; exact h9
  simp only [nI_0] at e
  refine ⟨I1, o2', o3', o4', ?_, e1, e2⟩
  rw [e, e223_132]
  simp (decide := true) (disch := omega) only [e223_133, e223_134, e223_137, bi_s, tyX, rl1, rl2, rl4, ↓reduceIte, Option.bind_some, true_and, and_true, false_and, and_false, true_or, or_true, false_or, or_false, if_same0, ite_eq0, ite_eq0', ite_eq1, ite_eq1', or_em, or_em', ite_not, lcmp0, lcmpL, lcmpG, nI_cl_b, eb_in_b, nI_1, nI_pred, Int32.reduceToNatClampNeg, eb_u_ap, Prod.mk.injEq, not_true_eq_false, not_false_eq_true, tyM, rl21, rl25, sp_rg, sp_iI, sp_iG, sp_iS, g9, nI_lt_b, Nat.lt_irrefl]
end

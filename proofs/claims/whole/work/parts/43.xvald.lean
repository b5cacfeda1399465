/-! a night with two books; valleys stay in their bounds -/
theorem eb_NX_w {k : Nat} {I : eb_A → Nat → Int32} {w w' : eb_W} {N : eb_N} (h : eb_NX I k w N) (h1 : w'.1 = w.1) (h2 : w'.2.1 = w.2.1) : eb_NX I k w' N := by
  unfold eb_NX at h ⊢
  rw [h1, h2]
  exact h
theorem sp_ok_write {w : eb_W} {set : Int32} (hw : sp_ok w) : sp_ok (sp_write w set) := by
  obtain ⟨h1, h2, h3, h4, h5⟩ := hw
  refine ⟨h1, h2, ⟨Int32.le_refl _, by show (0 : Int32) ≤ 99; decide⟩, fun i hi => ?_, h5⟩
  obtain ⟨q0, q1, q2, q3, q4, q5⟩ := h4 i hi
  refine ⟨q0, q1, q2, q3, ?_, q5⟩
  show -1 ≤ (if sp_bit set i = true then w.2.2.2.1 i 0 else -1) ∧ (if sp_bit set i = true then w.2.2.2.1 i 0 else -1) ≤ 100
  split
  · exact ⟨Int32.le_trans (by decide) q0.1, q0.2⟩
  · exact ⟨by decide, by decide⟩
theorem sp_two_n {w : eb_W} {s1 s2 : Int32} : ∀ {l : List Nat} {W : eb_W × eb_N}, sp_ok W.1 → W.1.1 = w.1 → W.1.2.1 = w.2.1 → W.1.2.2.2.2 = w.2.2.2.2 → sp_ok (l.foldl (sp_twoStep s1 s2) W).1 ∧ (l.foldl (sp_twoStep s1 s2) W).1.1 = w.1 ∧ (l.foldl (sp_twoStep s1 s2) W).1.2.1 = w.2.1 ∧ (l.foldl (sp_twoStep s1 s2) W).1.2.2.2.2 = w.2.2.2.2 := by
  intro l
  induction l with
  | nil => exact fun h1 h2 h3 h4 => ⟨h1, h2, h3, h4⟩
  | cons a l ih => exact fun h1 h2 h3 h4 => ih (W := sp_twoStep s1 s2 _ a) (sp_ok_write (sp_ok_write h1)) h2 h3 h4
theorem eb_wb_fr {k : Nat} {I I' : eb_A → Nat → Int32} (h : ∀ a l, ¬ ((a.1 = 6 ∧ a.2.1 = k ∧ l = 4) ∨ (a = (4, k, 0) ∧ l = 4)) → I' a l = I a l) : eb_fr k I I' := fun a l hal => h a l fun q => by
  rcases q with q | q
  · exact hal ⟨q.2.1, by omega, by omega⟩
  · rw [q.1] at hal
    exact hal ⟨rfl, Nat.le_refl _, Nat.le_of_ble_eq_true rfl⟩
section
variable {L d nc ns k i g : Nat} {I : eb_A → Nat → Int32} {J : eb_A → Nat → Int64} {C : Nat → Nat → Nat} {mt mk : Option Nat} {w : eb_W} {s1 s2 : Int32}
theorem x_goesBk (hk : I (7, k, g) 0 = w.2.2.2.2 g 0) {R : eb_A → Nat → Option eb_A} : eb_ev L (d + 1) 4 [zr (7, k, g)] (nc, ns, I, J, R) = some (zi (if sp_bk (w.2.2.2.2 g 0) = true then 1 else 0), (nc, ns, I, J, R)) := by
  rw [x_goesByBook, hk]
  unfold sp_bk
  simp only [decide_eq_true_eq]
theorem x_twoBooks (h : eb_RX I k w) (hw : sp_ok w) : ∃ I' C', eb_ev L (d + 5) 51 [zr (4, k, 0), zi s1, zi s2] (nc, ns, I, J, eb_RL C mt mk) = some (zn, (nc, ns, I', J, eb_RL C' mt mk)) ∧ eb_fr k I I' ∧ eb_RX I' k (sp_two w s1 s2).1 ∧ eb_NX I' k w (sp_two w s1 s2).2 ∧ ∀ k' j, ¬ k' = k → C' k' j = C k' j := by
  have hn := hw.1
  have hg := hw.2.1
  obtain ⟨I0, C0, a1, a2, a3, a4, a5⟩ := x_beginNight (L := L) (d := d) (nc := nc) (ns := ns) (J := J) (C := C) (mt := mt) (mk := mk) h hw
  rw [h51 rfl]
  simp (decide := true) (disch := omega) only [e51_0, e51_1, e51_4, e51_5, e51_7, e51_8, e51_11, e51_14, e51_15, e51_18, e51_19, e51_20, e51_22, e51_24, e51_27, e51_30, e51_32, e51_35, e51_36, e51_37, e51_40, e51_41, e51_43, e51_44, e51_45, e51_48a, e51_48b, e51_49, e51_50, e51_52, e51_54, e51_57, e51_59, e51_60, e51_63, e51_64, e51_65, e51_68a, e51_68b, e51_69, e51_70, e51_72, e51_74, e51_77, e51_80, e51_83, bi_s, tyX, rl1, rl2, rl4, ↓reduceIte, Option.bind_some, true_and, and_true, false_and, and_false, true_or, or_true, false_or, or_false, if_same0, ite_eq0, ite_eq0', ite_eq1, ite_eq1', or_em, or_em', ite_not, lcmp0, lcmpL, lcmpG, nI_cl_b, eb_in_b, nI_1, nI_pred, Int32.reduceToNatClampNeg, eb_u_ap, Prod.mk.injEq, not_true_eq_false, not_false_eq_true, a1]
  obtain ⟨s, e, e1, e2, e3⟩ := eb_loop (α := Option eb_V × Option eb_V × (eb_A → Nat → Int32)) (n := w.2.1) (s0 := (none, none, I0))
    (F := fun i s => eb_E L (d + 4) 51 6 [some (zr (4, k, 0)), some (zi s1), some (zi s2), some (zi (nI i)), s.1, s.2.1] [] (nc, ns, s.2.2, J, eb_RL C0 mt mk))
    (P := fun i s => eb_fr k I s.2.2 ∧ eb_RX s.2.2 k (((sp_ord w).take i).foldl (sp_twoStep s1 s2) (w, sp_N0)).1 ∧ eb_NX s.2.2 k w (((sp_ord w).take i).foldl (sp_twoStep s1 s2) (w, sp_N0)).2)
    ⟨eb_fn_fr a2, eb_fn_RX a2 h, a3⟩ (by
      intro i s hi hP
      obtain ⟨o1, o2, I1⟩ := s
      obtain ⟨h1, h2, h3⟩ := hP
      generalize hW : ((sp_ord w).take i).foldl (sp_twoStep s1 s2) (w, sp_N0) = W at h2 h3
      have hWn := sp_two_n (w := w) (s1 := s1) (s2 := s2) (l := (sp_ord w).take i) (W := (w, sp_N0)) hw rfl rfl rfl
      rw [hW] at hWn
      obtain ⟨ok0, n1, n2, n3⟩ := hWn
      have h1 : eb_fr k I I1 := h1
      have h2 : eb_RX I1 k W.1 := h2
      have h3 : eb_NX I1 k w W.2 := h3
      have hl : i < (sp_ord w).length := by rw [sp_ord_len]; exact hi
      have hj : (sp_ord w).getD i 0 < w.2.1 := by
        refine sp_ord_lt ?_
        rw [List.getD_eq_getElem?_getD, List.getElem?_eq_getElem hl]
        exact List.getElem_mem hl
      have htk := tk hl
      have h4 := a4 i hi
      generalize (sp_ord w).getD i 0 = j at hj htk h4
      have hjW : j < W.1.2.1 := by rw [n2]; exact hj
      have g3 : I1 (4, k, 0) 3 = nI w.2.1 := by rw [h2.1.2.1, n2]
      have q0 : I1 (7, k, j) 0 = W.1.2.2.2.2 j 0 := h2.2.2 j hjW 0 (by omega)
      have q1 : I1 (7, k, j) 1 = W.1.2.2.2.2 j 1 := h2.2.2 j hjW 1 (by omega)
      have hgb := x_goesBk (L := L) (d := d + 3) (nc := nc) (ns := ns) (J := J) (R := eb_RL C0 mt mk) (w := W.1) q0
      obtain ⟨I2, b1, b2, b3⟩ := x_writeBook (L := L) (d := d + 3) (nc := nc) (ns := ns) (J := J) (C := C0) (mt := mt) (mk := mk) h2 ok0 (set := s1)
      have ok1 := sp_ok_write (set := s1) ok0
      have m2 : eb_NX I2 k (sp_write W.1 s1) W.2 := eb_NX_w (eb_NX_of h3 (fun i => b3 _ _ (by simp)) (fun j i => b3 _ _ (by simp)) (fun j => b3 _ _ (by simp))) n1 n2
      have q2 : I2 (7, k, j) 1 = W.1.2.2.2.2 j 1 := by rw [b3 _ _ (by simp)]; exact q1
      obtain ⟨I3, c1, c2, c3⟩ := x_lodge (L := L) (d := d + 1) (nc := nc) (ns := ns) (J := J) (C := C0) (mt := mt) (mk := mk) (g := j) b2 m2 ok1 hjW (hd := W.1.2.2.2.2 j 1 - sp_half W.1 j)
      have h5 := eb_fn_RX c2 b2
      obtain ⟨I4, d1, d2, d3⟩ := x_writeBook (L := L) (d := d + 3) (nc := nc) (ns := ns) (J := J) (C := C0) (mt := mt) (mk := mk) h5 ok1 (set := s2)
      have ok2 := sp_ok_write (set := s2) ok1
      have m4 := eb_NX_w (w' := sp_write (sp_write W.1 s1) s2) (eb_NX_of c3 (fun i => d3 _ _ (by simp)) (fun j i => d3 _ _ (by simp)) (fun j => d3 _ _ (by simp))) rfl rfl
      obtain ⟨I5, f1, f2, f3⟩ := x_lodge (L := L) (d := d + 1) (nc := nc) (ns := ns) (J := J) (C := C0) (mt := mt) (mk := mk) (g := j) d2 m4 ok2 hjW (hd := sp_half W.1 j)
      refine ⟨(some (zr (7, k, j)), some (zi (sp_half W.1 j)), I5), ?_, ?_, ?_, ?_⟩
      · show eb_E L (d + 4) _ _ _ _ _ = eb_E L (d + 4) _ _ _ _ _
        rw [e51_6]
        unfold sp_half at c1 f1 ⊢
        by_cases hb : sp_bk (W.1.2.2.2.2 j 0) = true
        · rw [if_pos hb] at c1 f1 ⊢
          simp (decide := true) (disch := omega) only [e51_0, e51_1, e51_4, e51_5, e51_7, e51_8, e51_11, e51_14, e51_15, e51_18, e51_19, e51_20, e51_22, e51_24, e51_27, e51_30, e51_32, e51_35, e51_36, e51_37, e51_40, e51_41, e51_43, e51_44, e51_45, e51_48a, e51_48b, e51_49, e51_50, e51_52, e51_54, e51_57, e51_59, e51_60, e51_63, e51_64, e51_65, e51_68a, e51_68b, e51_69, e51_70, e51_72, e51_74, e51_77, e51_80, e51_83, bi_s, tyX, rl1, rl2, rl4, ↓reduceIte, Option.bind_some, true_and, and_true, false_and, and_false, true_or, or_true, false_or, or_false, if_same0, ite_eq0, ite_eq0', ite_eq1, ite_eq1', or_em, or_em', ite_not, lcmp0, lcmpL, lcmpG, nI_cl_b, eb_in_b, nI_1, nI_pred, Int32.reduceToNatClampNeg, eb_u_ap, Prod.mk.injEq, not_true_eq_false, not_false_eq_true, g3, nI_lt_b, hi, h4, hgb, hb, q1, q2, b1, c1, d1, f1]
        · rw [if_neg hb] at c1 f1 ⊢
          simp (decide := true) (disch := omega) only [e51_0, e51_1, e51_4, e51_5, e51_7, e51_8, e51_11, e51_14, e51_15, e51_18, e51_19, e51_20, e51_22, e51_24, e51_27, e51_30, e51_32, e51_35, e51_36, e51_37, e51_40, e51_41, e51_43, e51_44, e51_45, e51_48a, e51_48b, e51_49, e51_50, e51_52, e51_54, e51_57, e51_59, e51_60, e51_63, e51_64, e51_65, e51_68a, e51_68b, e51_69, e51_70, e51_72, e51_74, e51_77, e51_80, e51_83, bi_s, tyX, rl1, rl2, rl4, ↓reduceIte, Option.bind_some, true_and, and_true, false_and, and_false, true_or, or_true, false_or, or_false, if_same0, ite_eq0, ite_eq0', ite_eq1, ite_eq1', or_em, or_em', ite_not, lcmp0, lcmpL, lcmpG, nI_cl_b, eb_in_b, nI_1, nI_pred, Int32.reduceToNatClampNeg, eb_u_ap, Prod.mk.injEq, not_true_eq_false, not_false_eq_true, g3, nI_lt_b, hi, h4, hgb, hb, q1, q2, b1, c1, d1, f1]
      · exact eb_fr_tr (eb_fr_tr (eb_fr_tr (eb_fr_tr h1 (eb_wb_fr b3)) (eb_fn_fr c2)) (eb_wb_fr d3)) (eb_fn_fr f2)
      · show eb_RX I5 k _
        rw [htk, List.foldl_append, hW]
        exact eb_fn_RX f2 d2
      · show eb_NX I5 k w _
        rw [htk, List.foldl_append, hW]
        exact eb_NX_w f3 n1.symm n2.symm)
  obtain ⟨o1, o2, I1⟩ := s
  have e1 : eb_fr k I I1 := e1
  rw [List.take_of_length_le (by rw [sp_ord_len]; exact Nat.le_refl _)] at e2 e3
  have hn2 := (sp_two_n (w := w) (s1 := s1) (s2 := s2) (l := sp_ord w) (W := (w, sp_N0)) hw rfl rfl rfl).2.2.1
  have g3 : I1 (4, k, 0) 3 = nI w.2.1 := by rw [show I1 (4, k, 0) 3 = _ from e2.1.2.1, hn2]
  simp only [nI_0] at e
  rw [e, e51_6]
  simp (decide := true) (disch := omega) only [e51_0, e51_1, e51_4, e51_5, e51_7, e51_8, e51_11, e51_14, e51_15, e51_18, e51_19, e51_20, e51_22, e51_24, e51_27, e51_30, e51_32, e51_35, e51_36, e51_37, e51_40, e51_41, e51_43, e51_44, e51_45, e51_48a, e51_48b, e51_49, e51_50, e51_52, e51_54, e51_57, e51_59, e51_60, e51_63, e51_64, e51_65, e51_68a, e51_68b, e51_69, e51_70, e51_72, e51_74, e51_77, e51_80, e51_83, bi_s, tyX, rl1, rl2, rl4, ↓reduceIte, Option.bind_some, true_and, and_true, false_and, and_false, true_or, or_true, false_or, or_false, if_same0, ite_eq0, ite_eq0', ite_eq1, ite_eq1', or_em, or_em', ite_not, lcmp0, lcmpL, lcmpG, nI_cl_b, eb_in_b, nI_1, nI_pred, Int32.reduceToNatClampNeg, eb_u_ap, Prod.mk.injEq, not_true_eq_false, not_false_eq_true, g3, nI_lt_b, Nat.lt_irrefl]
  exact ⟨I1, C0, rfl, e1, e2, e3, a5⟩
end

/-! the class's valleys: a whole night, years -/
theorem sp_ord_len {w : eb_W} : (sp_ord w).length = w.2.1 := by
  show ((List.range w.2.1).filter (fun j => !sp_lt w j) ++ (List.range w.2.1).filter (sp_lt w)).length = _
  rw [List.length_append, sp_n_len, sp_n_len, sp_n_not]
theorem sp_ord_lt {w : eb_W} {j : Nat} (h : j ∈ sp_ord w) : j < w.2.1 := by
  unfold sp_ord at h
  simp only [List.mem_append, List.mem_filter, List.mem_range] at h
  rcases h with h | h <;> exact h.1
section
variable {L d nc ns k i g : Nat} {I : eb_A → Nat → Int32} {J : eb_A → Nat → Int64} {C : Nat → Nat → Nat} {mt mk : Option Nat} {M : eb_M} {R : eb_A → Nat → Option eb_A} {w : eb_W} {N : eb_N}
theorem x_beginNight (h : eb_RX I k w) (hw : sp_ok w) : ∃ I' C', eb_ev L (d + 4) 52 [zr (4, k, 0)] (nc, ns, I, J, eb_RL C mt mk) = some (zn, (nc, ns, I', J, eb_RL C' mt mk)) ∧ eb_fn k I I' ∧ eb_NX I' k w sp_N0 ∧ (∀ c, c < w.2.1 → C' k c = (sp_ord w).getD c 0) ∧ ∀ k' j, ¬ k' = k → C' k' j = C k' j := by
  have hn := hw.1
  have hg := hw.2.1
  rw [h52 rfl]
  simp (decide := true) (disch := omega) only [e52_0, e52_1, e52_3, e52_4, e52_7, e52_10, e52_11, e52_14, e52_15, e52_16, e52_17, e52_20, e52_23, e52_26, e52_27, e52_29, e52_30, e52_33, e52_36, e52_37, e52_40, e52_41, e52_42, e52_45, e52_48, e52_51, e52_52, e52_53, e52_54, e52_57, e52_58, e52_59, e52_60, e52_63, e52_64, e52_67, e52_68, e52_71, bi_s, tyX, rl1, rl2, rl4, ↓reduceIte, Option.bind_some, true_and, and_true, false_and, and_false, true_or, or_true, false_or, or_false, if_same0, ite_eq0, ite_eq0', ite_eq1, ite_eq1', or_em, or_em', ite_not, lcmp0, lcmpL, lcmpG, nI_cl_b, eb_in_b, nI_1, nI_pred, Int32.reduceToNatClampNeg, eb_u_ap, Prod.mk.injEq, not_true_eq_false, not_false_eq_true]
  obtain ⟨I1, e, e1, e2⟩ := eb_loop (α := eb_A → Nat → Int32) (n := w.1) (s0 := I)
    (F := fun i s => eb_E L (d + 3) 52 2 [some (zr (4, k, 0)), some (zi (nI i))] [] (nc, ns, s, J, eb_RL C mt mk))
    (P := fun i s => (∀ a l, ¬ (a.1 = 6 ∧ a.2.1 = k ∧ l = 7) → s a l = I a l) ∧ ∀ j, j < i → s (6, k, j) 7 = 0)
    ⟨fun _ _ _ => rfl, fun j hj => by omega⟩ (by
      intro i I1 hi hP
      obtain ⟨h2, h3⟩ := hP
      have g4 : I1 (4, k, 0) 2 = nI w.1 := by rw [h2 _ _ (by simp)]; exact h.1.1
      rw [e52_2]
      simp (decide := true) (disch := omega) only [e52_0, e52_1, e52_3, e52_4, e52_7, e52_10, e52_11, e52_14, e52_15, e52_16, e52_17, e52_20, e52_23, e52_26, e52_27, e52_29, e52_30, e52_33, e52_36, e52_37, e52_40, e52_41, e52_42, e52_45, e52_48, e52_51, e52_52, e52_53, e52_54, e52_57, e52_58, e52_59, e52_60, e52_63, e52_64, e52_67, e52_68, e52_71, bi_s, tyX, rl1, rl2, rl4, ↓reduceIte, Option.bind_some, true_and, and_true, false_and, and_false, true_or, or_true, false_or, or_false, if_same0, ite_eq0, ite_eq0', ite_eq1, ite_eq1', or_em, or_em', ite_not, lcmp0, lcmpL, lcmpG, nI_cl_b, eb_in_b, nI_1, nI_pred, Int32.reduceToNatClampNeg, eb_u_ap, Prod.mk.injEq, not_true_eq_false, not_false_eq_true, g4, nI_lt_b, hi]
      refine ⟨_, rfl, fun a l hal => ?_, fun j hj => ?_⟩
      · exact (if_neg (fun q => hal ⟨by rw [q.1], by rw [q.1], q.2⟩)).trans (h2 a l hal)
      · by_cases hji : j = i
        · subst hji; simp [eb_u]
        · simp only [eb_u, Prod.mk.injEq, hji, and_false, false_and, if_false]; exact h3 j (by omega))
  have g4 : I1 (4, k, 0) 2 = nI w.1 := by rw [e1 _ _ (by simp)]; exact h.1.1
  simp only [nI_0] at e
  rw [e, e52_2]
  simp (decide := true) (disch := omega) only [e52_0, e52_1, e52_3, e52_4, e52_7, e52_10, e52_11, e52_14, e52_15, e52_16, e52_17, e52_20, e52_23, e52_26, e52_27, e52_29, e52_30, e52_33, e52_36, e52_37, e52_40, e52_41, e52_42, e52_45, e52_48, e52_51, e52_52, e52_53, e52_54, e52_57, e52_58, e52_59, e52_60, e52_63, e52_64, e52_67, e52_68, e52_71, bi_s, tyX, rl1, rl2, rl4, ↓reduceIte, Option.bind_some, true_and, and_true, false_and, and_false, true_or, or_true, false_or, or_false, if_same0, ite_eq0, ite_eq0', ite_eq1, ite_eq1', or_em, or_em', ite_not, lcmp0, lcmpL, lcmpG, nI_cl_b, eb_in_b, nI_1, nI_pred, Int32.reduceToNatClampNeg, eb_u_ap, Prod.mk.injEq, not_true_eq_false, not_false_eq_true, g4, nI_lt_b, Nat.lt_irrefl]
  obtain ⟨I2, e', p1, p2⟩ := eb_loop (α := eb_A → Nat → Int32) (n := w.2.1) (s0 := I1)
    (F := fun i s => eb_E L (d + 3) 52 28 [some (zr (4, k, 0)), some (zi (nI i))] [] (nc, ns, s, J, eb_RL C mt mk))
    (P := fun i s => (∀ a l, ¬ (a.1 = 7 ∧ a.2.1 = k ∧ l = 4) → ¬ (a.1 = 8 ∧ a.2.1 = k) → s a l = I1 a l) ∧ ∀ j, j < i → s (7, k, j) 4 = 0 ∧ ∀ i, i < 6 → s (8, k, j) i = 0)
    ⟨fun _ _ _ _ => rfl, fun j hj => by omega⟩ (by
      intro i I2 hi hP
      obtain ⟨h2, h3⟩ := hP
      have g5 : I2 (4, k, 0) 3 = nI w.2.1 := by rw [h2 _ _ (by simp) (by simp), e1 _ _ (by simp)]; exact h.1.2.1
      obtain ⟨I3, y1, y2, y3, y4⟩ := x_leaveBeds (L := L) (d := d + 2) (nc := nc) (ns := ns) (J := J) (C := C) (mt := mt) (mk := mk) (k := k) (g := i) (I := I2)
      rw [e52_28]
      simp (decide := true) (disch := omega) only [e52_0, e52_1, e52_3, e52_4, e52_7, e52_10, e52_11, e52_14, e52_15, e52_16, e52_17, e52_20, e52_23, e52_26, e52_27, e52_29, e52_30, e52_33, e52_36, e52_37, e52_40, e52_41, e52_42, e52_45, e52_48, e52_51, e52_52, e52_53, e52_54, e52_57, e52_58, e52_59, e52_60, e52_63, e52_64, e52_67, e52_68, e52_71, bi_s, tyX, rl1, rl2, rl4, ↓reduceIte, Option.bind_some, true_and, and_true, false_and, and_false, true_or, or_true, false_or, or_false, if_same0, ite_eq0, ite_eq0', ite_eq1, ite_eq1', or_em, or_em', ite_not, lcmp0, lcmpL, lcmpG, nI_cl_b, eb_in_b, nI_1, nI_pred, Int32.reduceToNatClampNeg, eb_u_ap, Prod.mk.injEq, not_true_eq_false, not_false_eq_true, g5, nI_lt_b, hi, y1]
      refine ⟨_, rfl, fun a l hal ha2 => ?_, fun j hj => ?_⟩
      · rw [y4 a l (fun q => hal ⟨by rw [q.1], by rw [q.1], q.2⟩) (fun q => ha2 (by rw [q]; exact ⟨rfl, rfl⟩))]
        exact h2 a l hal ha2
      · by_cases hji : j = i
        · subst hji; exact ⟨y2, y3⟩
        · refine ⟨?_, fun i' hi' => ?_⟩
          · rw [y4 _ _ (by simp [hji]) (by simp)]; exact (h3 j (by omega)).1
          · rw [y4 _ _ (by simp) (by simp [hji])]; exact (h3 j (by omega)).2 i' hi')
  have hfn : eb_fn k I I2 := fun a l hal => by
    rw [p1 a l (fun q => hal ⟨q.2.1, Or.inr (Or.inl ⟨q.1, q.2.2⟩)⟩) (fun q => hal ⟨q.2, Or.inr (Or.inr (Or.inl q.1))⟩), e1 a l (fun q => hal ⟨q.2.1, Or.inl ⟨q.1, q.2.2⟩⟩)]
  have hR : eb_RX I2 k w := eb_fn_RX hfn h
  have hsub : nI w.2.1 - nI (sp_n (sp_lt w) w.2.1) = nI (sp_n (fun j => !sp_lt w j) w.2.1) := by
    have key : ∀ a b : Nat, nI (a + b) - nI b = nI a := fun a b => by rw [← nI_add, Int32.add_sub_cancel]
    have q := key (sp_n (fun j => !sp_lt w j) w.2.1) (sp_n (sp_lt w) w.2.1)
    rw [sp_n_not] at q
    exact q
  have hnot := sp_n_not (p := sp_lt w) (n := w.2.1)
  obtain ⟨C1, c1, c2, c3⟩ := x_lineUp (L := L) (d := d) (nc := nc) (ns := ns) (J := J) (C := C) (mt := mt) (mk := mk) hR hw (p := fun j => !sp_lt w j) (from0 := 0) (b := 0) (fun j hj => by
    unfold sp_lt
    by_cases q : w.2.2.2.2 j 0 = 5 <;> simp [q]) (by omega)
  obtain ⟨C2, c4, c5, c6⟩ := x_lineUp (L := L) (d := d) (nc := nc) (ns := ns) (J := J) (C := C1) (mt := mt) (mk := mk) hR hw (p := sp_lt w) (from0 := sp_n (fun j => !sp_lt w j) w.2.1) (b := 1) (fun j hj => by
    unfold sp_lt
    by_cases q : w.2.2.2.2 j 0 = 5 <;> simp [q]) (by omega)
  simp only [nI_0] at e' c1
  rw [e', e52_28]
  simp (decide := true) (disch := omega) only [e52_0, e52_1, e52_3, e52_4, e52_7, e52_10, e52_11, e52_14, e52_15, e52_16, e52_17, e52_20, e52_23, e52_26, e52_27, e52_29, e52_30, e52_33, e52_36, e52_37, e52_40, e52_41, e52_42, e52_45, e52_48, e52_51, e52_52, e52_53, e52_54, e52_57, e52_58, e52_59, e52_60, e52_63, e52_64, e52_67, e52_68, e52_71, bi_s, tyX, rl1, rl2, rl4, ↓reduceIte, Option.bind_some, true_and, and_true, false_and, and_false, true_or, or_true, false_or, or_false, if_same0, ite_eq0, ite_eq0', ite_eq1, ite_eq1', or_em, or_em', ite_not, lcmp0, lcmpL, lcmpG, nI_cl_b, eb_in_b, nI_1, nI_pred, Int32.reduceToNatClampNeg, eb_u_ap, Prod.mk.injEq, not_true_eq_false, not_false_eq_true, hR.1.2.1, nI_lt_b, Nat.lt_irrefl, c1, x_lateOnes hR hw, hsub, c4]
  refine ⟨I2, C2, rfl, hfn, ⟨fun i hi => ?_, fun j hj => ⟨fun i hi => (p2 j hj).2 i (by omega), (p2 j hj).1⟩⟩, fun c hc => ?_, fun k' j hk => ?_⟩
  · rw [p1 _ _ (by simp) (by simp)]; exact e2 i hi
  · rw [c6 c, c3 c]
    show _ = ((List.range w.2.1).filter (fun j => !sp_lt w j) ++ (List.range w.2.1).filter (sp_lt w)).getD c 0
    have hl := sp_n_len (p := fun j => !sp_lt w j) (n := w.2.1)
    by_cases q : c < sp_n (fun j => !sp_lt w j) w.2.1
    · rw [if_neg (by omega), if_pos (by omega), List.getD_eq_getElem?_getD, List.getD_eq_getElem?_getD, List.getElem?_append_left (by rw [hl]; exact q)]
      rfl
    · rw [if_pos (by omega), List.getD_eq_getElem?_getD, List.getD_eq_getElem?_getD, List.getElem?_append_right (by rw [hl]; omega), hl]
  · rw [c5 k' j hk, c2 k' j hk]
theorem x_spendNight (h : eb_RX I k w) (hw : sp_ok w) : ∃ I' C', eb_ev L (d + 5) 50 [zr (4, k, 0)] (nc, ns, I, J, eb_RL C mt mk) = some (zn, (nc, ns, I', J, eb_RL C' mt mk)) ∧ eb_fn k I I' ∧ eb_NX I' k w (sp_night w) ∧ ∀ k' j, ¬ k' = k → C' k' j = C k' j := by
  have hn := hw.1
  have hg := hw.2.1
  obtain ⟨I0, C0, a1, a2, a3, a4, a5⟩ := x_beginNight (L := L) (d := d) (nc := nc) (ns := ns) (J := J) (C := C) (mt := mt) (mk := mk) h hw
  rw [h50 rfl]
  simp (decide := true) (disch := omega) only [e50_0, e50_1, e50_4, e50_5, e50_7, e50_8, e50_11, e50_14, e50_15, e50_16, e50_19, e50_20, e50_21, e50_22, e50_25, e50_26, e50_27, e50_30, e50_33, e50_36, e50_39, bi_s, tyX, rl1, rl2, rl4, ↓reduceIte, Option.bind_some, true_and, and_true, false_and, and_false, true_or, or_true, false_or, or_false, if_same0, ite_eq0, ite_eq0', ite_eq1, ite_eq1', or_em, or_em', ite_not, lcmp0, lcmpL, lcmpG, nI_cl_b, eb_in_b, nI_1, nI_pred, Int32.reduceToNatClampNeg, eb_u_ap, Prod.mk.injEq, not_true_eq_false, not_false_eq_true, a1]
  obtain ⟨I1, e, e1, e2⟩ := eb_loop (α := eb_A → Nat → Int32) (n := w.2.1) (s0 := I0)
    (F := fun i s => eb_E L (d + 4) 50 6 [some (zr (4, k, 0)), some (zi (nI i))] [] (nc, ns, s, J, eb_RL C0 mt mk))
    (P := fun i s => eb_fn k I s ∧ eb_NX s k w (((sp_ord w).take i).foldl (fun N j => sp_put w (fun i => w.2.2.2.1 i 4) j (w.2.2.2.2 j 1) N) sp_N0))
    ⟨a2, a3⟩ (by
      intro i I1 hi hP
      obtain ⟨h2, h3⟩ := hP
      have hR : eb_RX I1 k w := eb_fn_RX h2 h
      have hl : i < (sp_ord w).length := by rw [sp_ord_len]; exact hi
      have hj : (sp_ord w).getD i 0 < w.2.1 := by
        refine sp_ord_lt ?_
        rw [List.getD_eq_getElem?_getD, List.getElem?_eq_getElem hl]
        exact List.getElem_mem hl
      obtain ⟨I2, y1, y2, y3⟩ := x_lodge (L := L) (d := d + 1) (nc := nc) (ns := ns) (J := J) (C := C0) (mt := mt) (mk := mk) hR h3 hw hj (hd := w.2.2.2.2 ((sp_ord w).getD i 0) 1)
      rw [e50_6]
      simp (decide := true) (disch := omega) only [e50_0, e50_1, e50_4, e50_5, e50_7, e50_8, e50_11, e50_14, e50_15, e50_16, e50_19, e50_20, e50_21, e50_22, e50_25, e50_26, e50_27, e50_30, e50_33, e50_36, e50_39, bi_s, tyX, rl1, rl2, rl4, ↓reduceIte, Option.bind_some, true_and, and_true, false_and, and_false, true_or, or_true, false_or, or_false, if_same0, ite_eq0, ite_eq0', ite_eq1, ite_eq1', or_em, or_em', ite_not, lcmp0, lcmpL, lcmpG, nI_cl_b, eb_in_b, nI_1, nI_pred, Int32.reduceToNatClampNeg, eb_u_ap, Prod.mk.injEq, not_true_eq_false, not_false_eq_true, hR.1.2.1, nI_lt_b, hi, a4 i hi, hR.2.2 _ hj 1 (by omega), y1]
      refine ⟨_, rfl, eb_fn_tr h2 y2, ?_⟩
      rw [tk hl, List.foldl_append]
      exact y3)
  simp only [nI_0] at e
  have hR : eb_RX I1 k w := eb_fn_RX e1 h
  rw [e, e50_6]
  simp (decide := true) (disch := omega) only [e50_0, e50_1, e50_4, e50_5, e50_7, e50_8, e50_11, e50_14, e50_15, e50_16, e50_19, e50_20, e50_21, e50_22, e50_25, e50_26, e50_27, e50_30, e50_33, e50_36, e50_39, bi_s, tyX, rl1, rl2, rl4, ↓reduceIte, Option.bind_some, true_and, and_true, false_and, and_false, true_or, or_true, false_or, or_false, if_same0, ite_eq0, ite_eq0', ite_eq1, ite_eq1', or_em, or_em', ite_not, lcmp0, lcmpL, lcmpG, nI_cl_b, eb_in_b, nI_1, nI_pred, Int32.reduceToNatClampNeg, eb_u_ap, Prod.mk.injEq, not_true_eq_false, not_false_eq_true, hR.1.2.1, nI_lt_b, Nat.lt_irrefl]
  refine ⟨I1, C0, rfl, e1, ?_, a5⟩
  rw [List.take_of_length_le (by rw [sp_ord_len]; exact Nat.le_refl _)] at e2
  exact e2
end

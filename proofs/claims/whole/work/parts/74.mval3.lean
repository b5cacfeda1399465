/-! the reference's valleys: sums over a night, what is told of inns, what is added and written -/
theorem sp_sum_one {f : Nat → Int32} {j : Nat} : ∀ {n : Nat}, (j < n → sp_sum (fun k => if k = j then f k else 0) n = f j) ∧ (n ≤ j → sp_sum (fun k => if k = j then f k else 0) n = 0) := by
  intro n
  induction n with
  | zero => exact ⟨fun h => absurd h (Nat.not_lt_zero _), fun _ => rfl⟩
  | succ n ih =>
    refine ⟨fun h => ?_, fun h => ?_⟩
    · show sp_sum _ n + (if n = j then f n else 0) = f j
      by_cases q : n = j
      · rw [if_pos q, ih.2 (by omega), q]; exact Int32.zero_add _
      · rw [if_neg q, ih.1 (by omega)]; exact Int32.add_zero _
    · show sp_sum _ n + (if n = j then f n else 0) = 0
      rw [if_neg (by omega), ih.2 (by omega)]; rfl
theorem left0 {n : Nat} {room G1 : Nat → Int32} (h : sp_Gok n room G1) {i : Nat} (hi : i < n) : (room i - G1 i = 0) = ¬ (G1 i < room i) := by
  obtain ⟨u, v, u1, u2, u3, u4⟩ := h i hi
  rw [u1, u2, nI_sub u3, show (0 : Int32) = nI 0 from rfl, nI_eq_b (by omega) (by omega), nI_lt_b (by omega) (by omega)]
  exact propext ⟨fun q => by omega, fun q => by omega⟩
section
variable {L d nc ns r i g : Nat} {I : eb_A → Nat → Int32} {J : eb_A → Nat → Int64} {C : Nat → Nat → Nat} {mt mk : Option Nat} {M : eb_M} {R : eb_A → Nat → Option eb_A} {w : eb_W} {x : Int32} {N : eb_N} {said : Nat → Int32}
theorem m_headsIn (h11 : I (21, r, 0) 11 = nI w.2.1) (hN : eb_NM I r w said N) (hw : sp_ok w) (hNk : sp_Nok w N) (hi : i < w.1) : eb_ev L (d + 1) 198 [zr (21, r, 0), zi (nI i)] (nc, ns, I, J, eb_RL C mt mk) = some (zi (N.1 i), (nc, ns, I, J, eb_RL C mt mk)) := by
  have hn := hw.1
  have hg := hw.2.1
  rw [h198 rfl]
  simp (decide := true) (disch := omega) only [e198_0, e198_1, e198_2, e198_3, e198_5, e198_6, e198_9, e198_12, e198_13, e198_14, e198_17, e198_18, e198_19, e198_20, e198_21, e198_22, e198_23, e198_26, e198_29, e198_30, bi_s, tyX, rl1, rl2, rl4, ↓reduceIte, Option.bind_some, true_and, and_true, false_and, and_false, true_or, or_true, false_or, or_false, if_same0, ite_eq0, ite_eq0', ite_eq1, ite_eq1', or_em, or_em', ite_not, lcmp0, lcmpL, lcmpG, nI_cl_b, eb_in_b, nI_1, nI_pred, Int32.reduceToNatClampNeg, eb_u_ap, Prod.mk.injEq, not_true_eq_false, not_false_eq_true, tyM, rl21, rl25, sp_rg, sp_iI, sp_iG, sp_iS]
  have e := eb_loopA (n := w.2.1) (f := sp_sum (fun j => N.2.1 j i))
    (F := fun j s => eb_E L d 198 4 [some (zr (21, r, 0)), some (zi (nI i)), some (zi s), some (zi (nI j))] [] (nc, ns, I, J, eb_RL C mt mk)) (by
      intro j hj
      have k := (hN.2 j hj).1 i hi
      rw [e198_4]
      simp (decide := true) (disch := omega) only [e198_0, e198_1, e198_2, e198_3, e198_5, e198_6, e198_9, e198_12, e198_13, e198_14, e198_17, e198_18, e198_19, e198_20, e198_21, e198_22, e198_23, e198_26, e198_29, e198_30, bi_s, tyX, rl1, rl2, rl4, ↓reduceIte, Option.bind_some, true_and, and_true, false_and, and_false, true_or, or_true, false_or, or_false, if_same0, ite_eq0, ite_eq0', ite_eq1, ite_eq1', or_em, or_em', ite_not, lcmp0, lcmpL, lcmpG, nI_cl_b, eb_in_b, nI_1, nI_pred, Int32.reduceToNatClampNeg, eb_u_ap, Prod.mk.injEq, not_true_eq_false, not_false_eq_true, tyM, rl21, rl25, sp_rg, sp_iI, sp_iG, sp_iS, h11, nI_lt_b, hj, k, sp_sum])
  simp only [nI_0] at e
  rw [show sp_sum (fun j => N.2.1 j i) 0 = 0 from rfl] at e
  rw [e, e198_4]
  simp (decide := true) (disch := omega) only [e198_0, e198_1, e198_2, e198_3, e198_5, e198_6, e198_9, e198_12, e198_13, e198_14, e198_17, e198_18, e198_19, e198_20, e198_21, e198_22, e198_23, e198_26, e198_29, e198_30, bi_s, tyX, rl1, rl2, rl4, ↓reduceIte, Option.bind_some, true_and, and_true, false_and, and_false, true_or, or_true, false_or, or_false, if_same0, ite_eq0, ite_eq0', ite_eq1, ite_eq1', or_em, or_em', ite_not, lcmp0, lcmpL, lcmpG, nI_cl_b, eb_in_b, nI_1, nI_pred, Int32.reduceToNatClampNeg, eb_u_ap, Prod.mk.injEq, not_true_eq_false, not_false_eq_true, tyM, rl21, rl25, sp_rg, sp_iI, sp_iG, sp_iS, h11, nI_lt_b, Nat.lt_irrefl]
  rw [hNk.2 i]
theorem m_joyOf (h9 : I (21, r, 0) 9 = nI w.1) (h03 : ∀ i, i < w.1 → I (32, r, i) 0 = w.2.2.2.1 i 0 ∧ I (32, r, i) 3 = w.2.2.2.1 i 3) (hN : eb_NM I r w said N) (hw : sp_ok w) (hNk : sp_Nok w N) (hg : g < w.2.1) : eb_ev L (d + 1) 203 [zr (21, r, 0), zi (nI g)] (nc, ns, I, J, eb_RL C mt mk) = some (zi (sp_joy w N g), (nc, ns, I, J, eb_RL C mt mk)) := by
  have hn := hw.1
  have hg6 := hw.2.1
  rw [h203 rfl]
  have ko := (hN.2 g hg).2
  simp (decide := true) (disch := omega) only [e203_0, e203_2, e203_3, e203_6, e203_7, e203_8, e203_9, e203_10, e203_11, e203_13, e203_14, e203_17, e203_20, e203_21, e203_22, e203_25, e203_26, e203_27, e203_28, e203_29, e203_30, e203_33, e203_34, e203_35, e203_36, e203_37, e203_38, e203_41, e203_42, e203_43, e203_44, e203_45, e203_46, e203_47, e203_50, e203_51, e203_52, e203_55, e203_57, e203_60, e203_61, e203_62, e203_63, e203_64, e203_65, e203_68, e203_71, e203_72, bi_s, tyX, rl1, rl2, rl4, ↓reduceIte, Option.bind_some, true_and, and_true, false_and, and_false, true_or, or_true, false_or, or_false, if_same0, ite_eq0, ite_eq0', ite_eq1, ite_eq1', or_em, or_em', ite_not, lcmp0, lcmpL, lcmpG, nI_cl_b, eb_in_b, nI_1, nI_pred, Int32.reduceToNatClampNeg, eb_u_ap, Prod.mk.injEq, not_true_eq_false, not_false_eq_true, tyM, rl21, rl25, sp_rg, sp_iI, sp_iG, sp_iS, ko]
  have e := eb_loopA (n := w.1) (f := fun i => -30 * N.2.2 g + sp_sum (fun i => N.2.1 g i * (w.2.2.2.1 i 0 - w.2.2.2.1 i 3 - (if sp_full w N i = true then 20 else 0))) i)
    (F := fun i s => eb_E L d 203 12 [some (zr (21, r, 0)), some (zi (nI g)), some (zi s), some (zi (nI i))] [] (nc, ns, I, J, eb_RL C mt mk)) (by
      intro i hi
      have k := (hN.2 g hg).1 i hi
      have kl := (hN.1 i hi).1
      have k0 := (h03 i hi).1
      have k3 := (h03 i hi).2
      have hl0 := left0 hNk.1 hi
      rw [e203_12]
      by_cases c : N.1 i < w.2.2.2.1 i 2
      · have hf : sp_full w N i = false := by unfold sp_full; rw [decide_eq_true c]; rfl
        have hl0 : (w.2.2.2.1 i 2 - N.1 i = 0) = False := by rw [hl0]; simp [c]
        simp (decide := true) (disch := omega) only [e203_0, e203_2, e203_3, e203_6, e203_7, e203_8, e203_9, e203_10, e203_11, e203_13, e203_14, e203_17, e203_20, e203_21, e203_22, e203_25, e203_26, e203_27, e203_28, e203_29, e203_30, e203_33, e203_34, e203_35, e203_36, e203_37, e203_38, e203_41, e203_42, e203_43, e203_44, e203_45, e203_46, e203_47, e203_50, e203_51, e203_52, e203_55, e203_57, e203_60, e203_61, e203_62, e203_63, e203_64, e203_65, e203_68, e203_71, e203_72, bi_s, tyX, rl1, rl2, rl4, ↓reduceIte, Option.bind_some, true_and, and_true, false_and, and_false, true_or, or_true, false_or, or_false, if_same0, ite_eq0, ite_eq0', ite_eq1, ite_eq1', or_em, or_em', ite_not, lcmp0, lcmpL, lcmpG, nI_cl_b, eb_in_b, nI_1, nI_pred, Int32.reduceToNatClampNeg, eb_u_ap, Prod.mk.injEq, not_true_eq_false, not_false_eq_true, tyM, rl21, rl25, sp_rg, sp_iI, sp_iG, sp_iS, h9, nI_lt_b, hi, k, kl, k0, k3, hl0, sp_sum, hf, Int32.add_assoc]
      · have hf : sp_full w N i = true := by unfold sp_full; rw [decide_eq_false c]; rfl
        have hl0 : (w.2.2.2.1 i 2 - N.1 i = 0) = True := by rw [hl0]; simp [c]
        simp (decide := true) (disch := omega) only [e203_0, e203_2, e203_3, e203_6, e203_7, e203_8, e203_9, e203_10, e203_11, e203_13, e203_14, e203_17, e203_20, e203_21, e203_22, e203_25, e203_26, e203_27, e203_28, e203_29, e203_30, e203_33, e203_34, e203_35, e203_36, e203_37, e203_38, e203_41, e203_42, e203_43, e203_44, e203_45, e203_46, e203_47, e203_50, e203_51, e203_52, e203_55, e203_57, e203_60, e203_61, e203_62, e203_63, e203_64, e203_65, e203_68, e203_71, e203_72, bi_s, tyX, rl1, rl2, rl4, ↓reduceIte, Option.bind_some, true_and, and_true, false_and, and_false, true_or, or_true, false_or, or_false, if_same0, ite_eq0, ite_eq0', ite_eq1, ite_eq1', or_em, or_em', ite_not, lcmp0, lcmpL, lcmpG, nI_cl_b, eb_in_b, nI_1, nI_pred, Int32.reduceToNatClampNeg, eb_u_ap, Prod.mk.injEq, not_true_eq_false, not_false_eq_true, tyM, rl21, rl25, sp_rg, sp_iI, sp_iG, sp_iS, h9, nI_lt_b, hi, k, kl, k0, k3, hl0, sp_sum, hf, Int32.add_assoc])
  simp only [nI_0] at e
  rw [show -30 * N.2.2 g + sp_sum (fun i => N.2.1 g i * (w.2.2.2.1 i 0 - w.2.2.2.1 i 3 - (if sp_full w N i = true then 20 else 0))) 0 = -30 * N.2.2 g from Int32.add_zero _] at e
  rw [e, e203_12]
  simp (decide := true) (disch := omega) only [e203_0, e203_2, e203_3, e203_6, e203_7, e203_8, e203_9, e203_10, e203_11, e203_13, e203_14, e203_17, e203_20, e203_21, e203_22, e203_25, e203_26, e203_27, e203_28, e203_29, e203_30, e203_33, e203_34, e203_35, e203_36, e203_37, e203_38, e203_41, e203_42, e203_43, e203_44, e203_45, e203_46, e203_47, e203_50, e203_51, e203_52, e203_55, e203_57, e203_60, e203_61, e203_62, e203_63, e203_64, e203_65, e203_68, e203_71, e203_72, bi_s, tyX, rl1, rl2, rl4, ↓reduceIte, Option.bind_some, true_and, and_true, false_and, and_false, true_or, or_true, false_or, or_false, if_same0, ite_eq0, ite_eq0', ite_eq1, ite_eq1', or_em, or_em', ite_not, lcmp0, lcmpL, lcmpG, nI_cl_b, eb_in_b, nI_1, nI_pred, Int32.reduceToNatClampNeg, eb_u_ap, Prod.mk.injEq, not_true_eq_false, not_false_eq_true, tyM, rl21, rl25, sp_rg, sp_iI, sp_iG, sp_iS, h9, nI_lt_b, Nat.lt_irrefl]
  rfl
theorem m_joyBy0 (h9 : I (21, r, 0) 9 = nI w.1) (h11 : I (21, r, 0) 11 = nI w.2.1) (h03 : ∀ i, i < w.1 → I (32, r, i) 0 = w.2.2.2.1 i 0 ∧ I (32, r, i) 3 = w.2.2.2.1 i 3) (hN : eb_NM I r w said N) (hw : sp_ok w) (hNk : sp_Nok w N) : eb_ev L (d + 2) 204 [zr (21, r, 0), zi (-1)] (nc, ns, I, J, eb_RL C mt mk) = some (zi (sp_joyAll w N), (nc, ns, I, J, eb_RL C mt mk)) := by
  have hg := hw.2.1
  rw [h204 rfl]
  simp (decide := true) (disch := omega) only [e204_0, e204_1, e204_2, e204_3, e204_5, e204_6, e204_9, e204_12, e204_13, e204_14, e204_15, e204_18, e204_19, e204_20, e204_23, e204_24, e204_25, e204_28, e204_31, e204_32, e204_33, e204_34, e204_37, e204_40, e204_41, bi_s, tyX, rl1, rl2, rl4, ↓reduceIte, Option.bind_some, true_and, and_true, false_and, and_false, true_or, or_true, false_or, or_false, if_same0, ite_eq0, ite_eq0', ite_eq1, ite_eq1', or_em, or_em', ite_not, lcmp0, lcmpL, lcmpG, nI_cl_b, eb_in_b, nI_1, nI_pred, Int32.reduceToNatClampNeg, eb_u_ap, Prod.mk.injEq, not_true_eq_false, not_false_eq_true, tyM, rl21, rl25, sp_rg, sp_iI, sp_iG, sp_iS]
  have e := eb_loopA (n := w.2.1) (f := sp_sum (fun j => sp_joy w N j))
    (F := fun j s => eb_E L (d + 1) 204 4 [some (zr (21, r, 0)), some (zi (-1)), some (zi s), some (zi (nI j))] [] (nc, ns, I, J, eb_RL C mt mk)) (by
      intro j hj
      have k := m_joyOf (L := L) (d := d) (nc := nc) (ns := ns) (J := J) (C := C) (mt := mt) (mk := mk) h9 h03 hN hw hNk hj
      rw [e204_4]
      simp (decide := true) (disch := omega) only [e204_0, e204_1, e204_2, e204_3, e204_5, e204_6, e204_9, e204_12, e204_13, e204_14, e204_15, e204_18, e204_19, e204_20, e204_23, e204_24, e204_25, e204_28, e204_31, e204_32, e204_33, e204_34, e204_37, e204_40, e204_41, bi_s, tyX, rl1, rl2, rl4, ↓reduceIte, Option.bind_some, true_and, and_true, false_and, and_false, true_or, or_true, false_or, or_false, if_same0, ite_eq0, ite_eq0', ite_eq1, ite_eq1', or_em, or_em', ite_not, lcmp0, lcmpL, lcmpG, nI_cl_b, eb_in_b, nI_1, nI_pred, Int32.reduceToNatClampNeg, eb_u_ap, Prod.mk.injEq, not_true_eq_false, not_false_eq_true, tyM, rl21, rl25, sp_rg, sp_iI, sp_iG, sp_iS, h11, nI_lt_b, hj, k, sp_sum])
  simp only [nI_0] at e
  rw [show sp_sum (fun j => sp_joy w N j) 0 = 0 from rfl] at e
  rw [e, e204_4]
  simp (decide := true) (disch := omega) only [e204_0, e204_1, e204_2, e204_3, e204_5, e204_6, e204_9, e204_12, e204_13, e204_14, e204_15, e204_18, e204_19, e204_20, e204_23, e204_24, e204_25, e204_28, e204_31, e204_32, e204_33, e204_34, e204_37, e204_40, e204_41, bi_s, tyX, rl1, rl2, rl4, ↓reduceIte, Option.bind_some, true_and, and_true, false_and, and_false, true_or, or_true, false_or, or_false, if_same0, ite_eq0, ite_eq0', ite_eq1, ite_eq1', or_em, or_em', ite_not, lcmp0, lcmpL, lcmpG, nI_cl_b, eb_in_b, nI_1, nI_pred, Int32.reduceToNatClampNeg, eb_u_ap, Prod.mk.injEq, not_true_eq_false, not_false_eq_true, tyM, rl21, rl25, sp_rg, sp_iI, sp_iG, sp_iS, h11, nI_lt_b, Nat.lt_irrefl]
  rfl
theorem m_joyBy1 (h9 : I (21, r, 0) 9 = nI w.1) (h11 : I (21, r, 0) 11 = nI w.2.1) (h03 : ∀ i, i < w.1 → I (32, r, i) 0 = w.2.2.2.1 i 0 ∧ I (32, r, i) 3 = w.2.2.2.1 i 3) (hN : eb_NM I r w said N) (hw : sp_ok w) (hNk : sp_Nok w N) (hg : g < w.2.1) : eb_ev L (d + 2) 204 [zr (21, r, 0), zi (nI g)] (nc, ns, I, J, eb_RL C mt mk) = some (zi (sp_joy w N g), (nc, ns, I, J, eb_RL C mt mk)) := by
  have hg6 := hw.2.1
  rw [h204 rfl]
  simp (decide := true) (disch := omega) only [e204_0, e204_1, e204_2, e204_3, e204_5, e204_6, e204_9, e204_12, e204_13, e204_14, e204_15, e204_18, e204_19, e204_20, e204_23, e204_24, e204_25, e204_28, e204_31, e204_32, e204_33, e204_34, e204_37, e204_40, e204_41, bi_s, tyX, rl1, rl2, rl4, ↓reduceIte, Option.bind_some, true_and, and_true, false_and, and_false, true_or, or_true, false_or, or_false, if_same0, ite_eq0, ite_eq0', ite_eq1, ite_eq1', or_em, or_em', ite_not, lcmp0, lcmpL, lcmpG, nI_cl_b, eb_in_b, nI_1, nI_pred, Int32.reduceToNatClampNeg, eb_u_ap, Prod.mk.injEq, not_true_eq_false, not_false_eq_true, tyM, rl21, rl25, sp_rg, sp_iI, sp_iG, sp_iS]
  have hm1 : ¬ nI g = -1 := by rw [nI_m1 (by omega)]; exact fun z => z
  have e := eb_loopA (n := w.2.1) (f := sp_sum (fun k => if k = g then sp_joy w N k else 0))
    (F := fun j s => eb_E L (d + 1) 204 4 [some (zr (21, r, 0)), some (zi (nI g)), some (zi s), some (zi (nI j))] [] (nc, ns, I, J, eb_RL C mt mk)) (by
      intro j hj
      have k := m_joyOf (L := L) (d := d) (nc := nc) (ns := ns) (J := J) (C := C) (mt := mt) (mk := mk) h9 h03 hN hw hNk hj
      rw [e204_4]
      by_cases c : j = g
      · subst c
        simp (decide := true) (disch := omega) only [e204_0, e204_1, e204_2, e204_3, e204_5, e204_6, e204_9, e204_12, e204_13, e204_14, e204_15, e204_18, e204_19, e204_20, e204_23, e204_24, e204_25, e204_28, e204_31, e204_32, e204_33, e204_34, e204_37, e204_40, e204_41, bi_s, tyX, rl1, rl2, rl4, ↓reduceIte, Option.bind_some, true_and, and_true, false_and, and_false, true_or, or_true, false_or, or_false, if_same0, ite_eq0, ite_eq0', ite_eq1, ite_eq1', or_em, or_em', ite_not, lcmp0, lcmpL, lcmpG, nI_cl_b, eb_in_b, nI_1, nI_pred, Int32.reduceToNatClampNeg, eb_u_ap, Prod.mk.injEq, not_true_eq_false, not_false_eq_true, tyM, rl21, rl25, sp_rg, sp_iI, sp_iG, sp_iS, h11, nI_lt_b, hj, k, sp_sum, hm1]
      · have c' : (nI j = nI g) = False := by rw [nI_eq_b (by omega) (by omega)]; exact eq_false c
        simp (decide := true) (disch := omega) only [e204_0, e204_1, e204_2, e204_3, e204_5, e204_6, e204_9, e204_12, e204_13, e204_14, e204_15, e204_18, e204_19, e204_20, e204_23, e204_24, e204_25, e204_28, e204_31, e204_32, e204_33, e204_34, e204_37, e204_40, e204_41, bi_s, tyX, rl1, rl2, rl4, ↓reduceIte, Option.bind_some, true_and, and_true, false_and, and_false, true_or, or_true, false_or, or_false, if_same0, ite_eq0, ite_eq0', ite_eq1, ite_eq1', or_em, or_em', ite_not, lcmp0, lcmpL, lcmpG, nI_cl_b, eb_in_b, nI_1, nI_pred, Int32.reduceToNatClampNeg, eb_u_ap, Prod.mk.injEq, not_true_eq_false, not_false_eq_true, tyM, rl21, rl25, sp_rg, sp_iI, sp_iG, sp_iS, h11, nI_lt_b, hj, sp_sum, hm1, c', c])
  simp only [nI_0] at e
  rw [show sp_sum (fun k => if k = g then sp_joy w N k else 0) 0 = 0 from rfl, sp_sum_one.1 hg] at e
  rw [e, e204_4]
  simp (decide := true) (disch := omega) only [e204_0, e204_1, e204_2, e204_3, e204_5, e204_6, e204_9, e204_12, e204_13, e204_14, e204_15, e204_18, e204_19, e204_20, e204_23, e204_24, e204_25, e204_28, e204_31, e204_32, e204_33, e204_34, e204_37, e204_40, e204_41, bi_s, tyX, rl1, rl2, rl4, ↓reduceIte, Option.bind_some, true_and, and_true, false_and, and_false, true_or, or_true, false_or, or_false, if_same0, ite_eq0, ite_eq0', ite_eq1, ite_eq1', or_em, or_em', ite_not, lcmp0, lcmpL, lcmpG, nI_cl_b, eb_in_b, nI_1, nI_pred, Int32.reduceToNatClampNeg, eb_u_ap, Prod.mk.injEq, not_true_eq_false, not_false_eq_true, tyM, rl21, rl25, sp_rg, sp_iI, sp_iG, sp_iS, h11, nI_lt_b, Nat.lt_irrefl]
theorem m_truestOf (h : eb_RM I r w) (hw : sp_ok w) : eb_ev L (d + 1) 210 [zr (21, r, 0)] (nc, ns, I, J, eb_RL C mt mk) = some (zi (sp_enc (sp_truest w)), (nc, ns, I, J, eb_RL C mt mk)) := by
  have hn := hw.1
  rw [h210 rfl]
  simp (decide := true) (disch := omega) only [e210_0, e210_1, e210_2, e210_3, e210_5, e210_6, e210_9, e210_12, e210_13, e210_14, e210_17, e210_18, e210_21, e210_22, e210_23, e210_24, e210_25, e210_26, e210_29, e210_30, e210_31, e210_32, e210_33, e210_34, e210_35, e210_38, e210_39, e210_40, e210_41, e210_42, e210_43, e210_46, e210_47, e210_48, e210_49, e210_50, e210_51, e210_54, e210_55, e210_58, e210_59, e210_60, e210_63, e210_66, e210_67, bi_s, tyX, rl1, rl2, rl4, ↓reduceIte, Option.bind_some, true_and, and_true, false_and, and_false, true_or, or_true, false_or, or_false, if_same0, ite_eq0, ite_eq0', ite_eq1, ite_eq1', or_em, or_em', ite_not, lcmp0, lcmpL, lcmpG, nI_cl_b, eb_in_b, nI_1, nI_pred, Int32.reduceToNatClampNeg, eb_u_ap, Prod.mk.injEq, not_true_eq_false, not_false_eq_true, tyM, rl21, rl25, sp_rg, sp_iI, sp_iG, sp_iS]
  unfold sp_truest
  generalize hs : (fun i => w.2.2.2.1 i 0 - w.2.2.2.1 i 3) = s
  have hsi : ∀ i, w.2.2.2.1 i 0 - w.2.2.2.1 i 3 = s i := fun i => by rw [← hs]
  have e := eb_loopA (n := w.1) (f := fun i => sp_enc (sp_best (fun _ => true) s i))
    (F := fun i v => eb_E L d 210 4 [some (zr (21, r, 0)), some (zi v), some (zi (nI i))] [] (nc, ns, I, J, eb_RL C mt mk)) (by
      intro i hi
      have hbs := sp_best_s (has := fun _ => true) (f := s) (n := i)
      have k0 := h.2.1 i hi 0 (by omega)
      have k3 := h.2.1 i hi 3 (by omega)
      rw [e210_4]
      cases hq : sp_best (fun _ => true) s i with
      | none =>
        rw [hq] at hbs
        have hbs : sp_best (fun _ => true) s (i + 1) = some i := hbs
        rw [hbs]
        simp (decide := true) (disch := omega) only [e210_0, e210_1, e210_2, e210_3, e210_5, e210_6, e210_9, e210_12, e210_13, e210_14, e210_17, e210_18, e210_21, e210_22, e210_23, e210_24, e210_25, e210_26, e210_29, e210_30, e210_31, e210_32, e210_33, e210_34, e210_35, e210_38, e210_39, e210_40, e210_41, e210_42, e210_43, e210_46, e210_47, e210_48, e210_49, e210_50, e210_51, e210_54, e210_55, e210_58, e210_59, e210_60, e210_63, e210_66, e210_67, bi_s, tyX, rl1, rl2, rl4, ↓reduceIte, Option.bind_some, true_and, and_true, false_and, and_false, true_or, or_true, false_or, or_false, if_same0, ite_eq0, ite_eq0', ite_eq1, ite_eq1', or_em, or_em', ite_not, lcmp0, lcmpL, lcmpG, nI_cl_b, eb_in_b, nI_1, nI_pred, Int32.reduceToNatClampNeg, eb_u_ap, Prod.mk.injEq, not_true_eq_false, not_false_eq_true, tyM, rl21, rl25, sp_rg, sp_iI, sp_iG, sp_iS, h.1.1, nI_lt_b, hi, sp_enc]
      | some b =>
        have hb := (sp_best_lt hq).1
        have m0 := h.2.1 b (by omega) 0 (by omega)
        have m3 := h.2.1 b (by omega) 3 (by omega)
        rw [hq] at hbs
        by_cases c2 : s b < s i
        · have hbs : sp_best (fun _ => true) s (i + 1) = some i := hbs.trans (if_pos ⟨rfl, c2⟩)
          rw [hbs]
          simp (decide := true) (disch := omega) only [e210_0, e210_1, e210_2, e210_3, e210_5, e210_6, e210_9, e210_12, e210_13, e210_14, e210_17, e210_18, e210_21, e210_22, e210_23, e210_24, e210_25, e210_26, e210_29, e210_30, e210_31, e210_32, e210_33, e210_34, e210_35, e210_38, e210_39, e210_40, e210_41, e210_42, e210_43, e210_46, e210_47, e210_48, e210_49, e210_50, e210_51, e210_54, e210_55, e210_58, e210_59, e210_60, e210_63, e210_66, e210_67, bi_s, tyX, rl1, rl2, rl4, ↓reduceIte, Option.bind_some, true_and, and_true, false_and, and_false, true_or, or_true, false_or, or_false, if_same0, ite_eq0, ite_eq0', ite_eq1, ite_eq1', or_em, or_em', ite_not, lcmp0, lcmpL, lcmpG, nI_cl_b, eb_in_b, nI_1, nI_pred, Int32.reduceToNatClampNeg, eb_u_ap, Prod.mk.injEq, not_true_eq_false, not_false_eq_true, tyM, rl21, rl25, sp_rg, sp_iI, sp_iG, sp_iS, h.1.1, nI_lt_b, hi, sp_enc, nI_m1, k0, k3, m0, m3, hsi, c2]
        · have hbs : sp_best (fun _ => true) s (i + 1) = some b := hbs.trans (if_neg (fun z => c2 z.2))
          rw [hbs]
          simp (decide := true) (disch := omega) only [e210_0, e210_1, e210_2, e210_3, e210_5, e210_6, e210_9, e210_12, e210_13, e210_14, e210_17, e210_18, e210_21, e210_22, e210_23, e210_24, e210_25, e210_26, e210_29, e210_30, e210_31, e210_32, e210_33, e210_34, e210_35, e210_38, e210_39, e210_40, e210_41, e210_42, e210_43, e210_46, e210_47, e210_48, e210_49, e210_50, e210_51, e210_54, e210_55, e210_58, e210_59, e210_60, e210_63, e210_66, e210_67, bi_s, tyX, rl1, rl2, rl4, ↓reduceIte, Option.bind_some, true_and, and_true, false_and, and_false, true_or, or_true, false_or, or_false, if_same0, ite_eq0, ite_eq0', ite_eq1, ite_eq1', or_em, or_em', ite_not, lcmp0, lcmpL, lcmpG, nI_cl_b, eb_in_b, nI_1, nI_pred, Int32.reduceToNatClampNeg, eb_u_ap, Prod.mk.injEq, not_true_eq_false, not_false_eq_true, tyM, rl21, rl25, sp_rg, sp_iI, sp_iG, sp_iS, h.1.1, nI_lt_b, hi, sp_enc, nI_m1, k0, k3, m0, m3, hsi, c2])
  simp only [nI_0] at e
  rw [show sp_enc (sp_best (fun _ => true) s 0) = -1 from rfl] at e
  rw [e, e210_4]
  simp (decide := true) (disch := omega) only [e210_0, e210_1, e210_2, e210_3, e210_5, e210_6, e210_9, e210_12, e210_13, e210_14, e210_17, e210_18, e210_21, e210_22, e210_23, e210_24, e210_25, e210_26, e210_29, e210_30, e210_31, e210_32, e210_33, e210_34, e210_35, e210_38, e210_39, e210_40, e210_41, e210_42, e210_43, e210_46, e210_47, e210_48, e210_49, e210_50, e210_51, e210_54, e210_55, e210_58, e210_59, e210_60, e210_63, e210_66, e210_67, bi_s, tyX, rl1, rl2, rl4, ↓reduceIte, Option.bind_some, true_and, and_true, false_and, and_false, true_or, or_true, false_or, or_false, if_same0, ite_eq0, ite_eq0', ite_eq1, ite_eq1', or_em, or_em', ite_not, lcmp0, lcmpL, lcmpG, nI_cl_b, eb_in_b, nI_1, nI_pred, Int32.reduceToNatClampNeg, eb_u_ap, Prod.mk.injEq, not_true_eq_false, not_false_eq_true, tyM, rl21, rl25, sp_rg, sp_iI, sp_iG, sp_iS, h.1.1, nI_lt_b, Nat.lt_irrefl]
theorem m_addInn (h : eb_RM I r w) (hn : w.1 < 6) {a b c s : Int32} : ∃ I', eb_ev L (d + 1) 161 [zr (21, r, 0), zi a, zi b, zi c, zi s] (nc, ns, I, J, eb_RL C mt mk) = some (zn, (nc, ns, I', J, eb_RL C mt mk)) ∧ eb_RM I' r (sp_inn w a b c s) ∧ ∀ a l, ¬ (a.1 = 32 ∧ a.2.1 = r) → ¬ (a = (21, r, 0) ∧ l = 9) → I' a l = I a l := by
  rw [h161 rfl]
  simp (decide := true) (disch := omega) only [e161_0, e161_1, e161_4, e161_5a, e161_5b, e161_6, e161_9, e161_10, e161_11, e161_12, e161_15, e161_16, e161_18, e161_20, e161_21, e161_22, e161_23, e161_25, e161_26, e161_27, e161_28, e161_30, e161_31, e161_32, e161_33, e161_35, e161_36, e161_37, e161_38, e161_40, e161_41, e161_43, e161_44, e161_46, e161_47, e161_48, e161_49, e161_51, e161_53, e161_54, e161_55, bi_s, tyX, rl1, rl2, rl4, ↓reduceIte, Option.bind_some, true_and, and_true, false_and, and_false, true_or, or_true, false_or, or_false, if_same0, ite_eq0, ite_eq0', ite_eq1, ite_eq1', or_em, or_em', ite_not, lcmp0, lcmpL, lcmpG, nI_cl_b, eb_in_b, nI_1, nI_pred, Int32.reduceToNatClampNeg, eb_u_ap, Prod.mk.injEq, not_true_eq_false, not_false_eq_true, tyM, rl21, rl25, sp_rg, sp_iI, sp_iG, sp_iS, h.1.1]
  refine ⟨_, rfl, ⟨⟨?_, ?_, ?_, ?_, ?_⟩, fun i hi f hf => ?_, fun j hj f hf => ?_⟩, fun a l h1 h2 => ?_⟩
  · simp [eb_u, sp_inn]
  · simp [eb_u, sp_inn, h.1.2.1]
  · simp [eb_u, sp_inn, h.1.2.2.1]
  · simp [eb_u, sp_inn, h.1.2.2.2.1]
  · simp [eb_u, sp_inn, h.1.2.2.2.2]
  · by_cases e : i = w.1
    · subst e
      rcases (show f = 0 ∨ f = 1 ∨ f = 2 ∨ f = 3 ∨ f = 4 ∨ f = 5 ∨ f = 6 by omega) with rfl | rfl | rfl | rfl | rfl | rfl | rfl <;> simp [eb_u, sp_inn, sp_up]
    · have hi2 : i < w.1 := by
        have hi : i < w.1 + 1 := hi
        omega
      simp [eb_u, sp_inn, sp_up, e, h.2.1 i hi2 f hf]
  · simp [eb_u, sp_inn, h.2.2 j hj f hf]
  · have q1 : ¬ a = (32, r, w.1) := fun q => h1 (by rw [q]; exact ⟨rfl, rfl⟩)
    simp only [eb_u, q1, h2, false_and, if_false]
theorem m_writes (h : eb_RM I r w) (hw : sp_ok w) {set : Int32} : ∃ I', eb_ev L (d + 1) 166 [zr (21, r, 0), zi set] (nc, ns, I, J, eb_RL C mt mk) = some (zi (sp_cnt set w.1), (nc, ns, I', J, eb_RL C mt mk)) ∧ eb_RM I' r (sp_write w set) ∧ (∀ a l, ¬ ((a.1 = 32 ∧ a.2.1 = r ∧ l = 4) ∨ (a = (21, r, 0) ∧ l = 13)) → I' a l = I a l) := by
  have hn := hw.1
  rw [h166 rfl]
  simp (decide := true) (disch := omega) only [e166_0, e166_1, e166_2, e166_3, e166_5, e166_6, e166_9, e166_12, e166_13, e166_14, e166_15, e166_16, e166_17, e166_20, e166_21, e166_24, e166_25, e166_27, e166_28, e166_31, e166_32, e166_33, e166_34, e166_36, e166_39, e166_40, e166_43, e166_44, e166_45, e166_46, e166_47, e166_50, e166_51, e166_52, e166_53, e166_55, e166_58, e166_59, e166_62, e166_63, e166_64, e166_65, e166_68, e166_71, e166_72, e166_73, e166_76, e166_77, bi_s, tyX, rl1, rl2, rl4, ↓reduceIte, Option.bind_some, true_and, and_true, false_and, and_false, true_or, or_true, false_or, or_false, if_same0, ite_eq0, ite_eq0', ite_eq1, ite_eq1', or_em, or_em', ite_not, lcmp0, lcmpL, lcmpG, nI_cl_b, eb_in_b, nI_1, nI_pred, Int32.reduceToNatClampNeg, eb_u_ap, Prod.mk.injEq, not_true_eq_false, not_false_eq_true, tyM, rl21, rl25, sp_rg, sp_iI, sp_iG, sp_iS]
  obtain ⟨s, e, e1, e2, e3⟩ := eb_loop (α := Int32 × Option eb_V × (eb_A → Nat → Int32)) (n := w.1) (s0 := (0, none, I))
    (F := fun i s => eb_E L d 166 4 [some (zr (21, r, 0)), some (zi set), some (zi s.1), some (zi (nI i)), s.2.1] [] (nc, ns, s.2.2, J, eb_RL C mt mk))
    (P := fun i s => s.1 = sp_cnt set i ∧ (∀ a l, ¬ (a.1 = 32 ∧ a.2.1 = r ∧ l = 4) → s.2.2 a l = I a l) ∧ ∀ j, s.2.2 (32, r, j) 4 = if j < i then (if sp_bit set j = true then I (32, r, j) 0 else -1) else I (32, r, j) 4)
    ⟨rfl, fun _ _ _ => rfl, fun _ => by simp⟩ (by
      intro i s hi hP
      obtain ⟨a, b, I1⟩ := s
      obtain ⟨h1, h2, h3⟩ := hP
      have h1 : a = sp_cnt set i := h1
      have h2 : ∀ a l, ¬ (a.1 = 32 ∧ a.2.1 = r ∧ l = 4) → I1 a l = I a l := h2
      have h3 : ∀ j, I1 (32, r, j) 4 = if j < i then (if sp_bit set j = true then I (32, r, j) 0 else -1) else I (32, r, j) 4 := h3
      rw [e166_4]
      have g1 : I1 (21, r, 0) 9 = nI w.1 := by rw [h2 _ _ (by simp)]; exact h.1.1
      have g2 : I1 (32, r, i) 0 = I (32, r, i) 0 := h2 _ _ (by simp)
      by_cases hb1 : sp_bit set i = true
      · simp (decide := true) (disch := omega) only [e166_0, e166_1, e166_2, e166_3, e166_5, e166_6, e166_9, e166_12, e166_13, e166_14, e166_15, e166_16, e166_17, e166_20, e166_21, e166_24, e166_25, e166_27, e166_28, e166_31, e166_32, e166_33, e166_34, e166_36, e166_39, e166_40, e166_43, e166_44, e166_45, e166_46, e166_47, e166_50, e166_51, e166_52, e166_53, e166_55, e166_58, e166_59, e166_62, e166_63, e166_64, e166_65, e166_68, e166_71, e166_72, e166_73, e166_76, e166_77, bi_s, tyX, rl1, rl2, rl4, ↓reduceIte, Option.bind_some, true_and, and_true, false_and, and_false, true_or, or_true, false_or, or_false, if_same0, ite_eq0, ite_eq0', ite_eq1, ite_eq1', or_em, or_em', ite_not, lcmp0, lcmpL, lcmpG, nI_cl_b, eb_in_b, nI_1, nI_pred, Int32.reduceToNatClampNeg, eb_u_ap, Prod.mk.injEq, not_true_eq_false, not_false_eq_true, tyM, rl21, rl25, sp_rg, sp_iI, sp_iG, sp_iS, g1, nI_lt_b, hi, g2, sp_bit0, hb1]
        refine ⟨(a + 1, _, eb_u I1 (32, r, i) 4 (I (32, r, i) 0)), rfl, ?_, fun b l hal => ?_, fun j => ?_⟩
        · show a + 1 = _
          rw [h1]; simp [sp_cnt, sp_sum, hb1]
        · exact (if_neg (fun q => hal ⟨by rw [q.1], by rw [q.1], q.2⟩)).trans (h2 b l hal)
        · show eb_u I1 (32, r, i) 4 _ (32, r, j) 4 = _
          by_cases hj : j = i
          · subst hj; simp [eb_u, hb1, g2]
          · simp only [eb_u, Prod.mk.injEq, hj, and_false, false_and, if_false, h3 j]
            simp [show (j < i + 1) = (j < i) from propext ⟨fun q => by omega, fun q => by omega⟩]
      · have hb1 : sp_bit set i = false := by simpa using hb1
        simp (decide := true) (disch := omega) only [e166_0, e166_1, e166_2, e166_3, e166_5, e166_6, e166_9, e166_12, e166_13, e166_14, e166_15, e166_16, e166_17, e166_20, e166_21, e166_24, e166_25, e166_27, e166_28, e166_31, e166_32, e166_33, e166_34, e166_36, e166_39, e166_40, e166_43, e166_44, e166_45, e166_46, e166_47, e166_50, e166_51, e166_52, e166_53, e166_55, e166_58, e166_59, e166_62, e166_63, e166_64, e166_65, e166_68, e166_71, e166_72, e166_73, e166_76, e166_77, bi_s, tyX, rl1, rl2, rl4, ↓reduceIte, Option.bind_some, true_and, and_true, false_and, and_false, true_or, or_true, false_or, or_false, if_same0, ite_eq0, ite_eq0', ite_eq1, ite_eq1', or_em, or_em', ite_not, lcmp0, lcmpL, lcmpG, nI_cl_b, eb_in_b, nI_1, nI_pred, Int32.reduceToNatClampNeg, eb_u_ap, Prod.mk.injEq, not_true_eq_false, not_false_eq_true, tyM, rl21, rl25, sp_rg, sp_iI, sp_iG, sp_iS, g1, nI_lt_b, hi, g2, sp_bit0, hb1]
        refine ⟨(a + 0, _, eb_u I1 (32, r, i) 4 (-1)), rfl, ?_, fun b l hal => ?_, fun j => ?_⟩
        · show a + 0 = _
          rw [h1]; simp [sp_cnt, sp_sum, hb1]
        · exact (if_neg (fun q => hal ⟨by rw [q.1], by rw [q.1], q.2⟩)).trans (h2 b l hal)
        · show eb_u I1 (32, r, i) 4 _ (32, r, j) 4 = _
          by_cases hj : j = i
          · subst hj; simp [eb_u, hb1]
          · simp only [eb_u, Prod.mk.injEq, hj, and_false, false_and, if_false, h3 j]
            simp [show (j < i + 1) = (j < i) from propext ⟨fun q => by omega, fun q => by omega⟩])
  obtain ⟨a, b, I1⟩ := s
  have e1 : a = sp_cnt set w.1 := e1
  have e2 : ∀ a l, ¬ (a.1 = 32 ∧ a.2.1 = r ∧ l = 4) → I1 a l = I a l := e2
  have e3 : ∀ j, I1 (32, r, j) 4 = if j < w.1 then (if sp_bit set j = true then I (32, r, j) 0 else -1) else I (32, r, j) 4 := e3
  have g1 : I1 (21, r, 0) 9 = nI w.1 := by rw [e2 _ _ (by simp)]; exact h.1.1
  simp only [nI_0] at e
  rw [e, e166_4]
  simp (decide := true) (disch := omega) only [e166_0, e166_1, e166_2, e166_3, e166_5, e166_6, e166_9, e166_12, e166_13, e166_14, e166_15, e166_16, e166_17, e166_20, e166_21, e166_24, e166_25, e166_27, e166_28, e166_31, e166_32, e166_33, e166_34, e166_36, e166_39, e166_40, e166_43, e166_44, e166_45, e166_46, e166_47, e166_50, e166_51, e166_52, e166_53, e166_55, e166_58, e166_59, e166_62, e166_63, e166_64, e166_65, e166_68, e166_71, e166_72, e166_73, e166_76, e166_77, bi_s, tyX, rl1, rl2, rl4, ↓reduceIte, Option.bind_some, true_and, and_true, false_and, and_false, true_or, or_true, false_or, or_false, if_same0, ite_eq0, ite_eq0', ite_eq1, ite_eq1', or_em, or_em', ite_not, lcmp0, lcmpL, lcmpG, nI_cl_b, eb_in_b, nI_1, nI_pred, Int32.reduceToNatClampNeg, eb_u_ap, Prod.mk.injEq, not_true_eq_false, not_false_eq_true, tyM, rl21, rl25, sp_rg, sp_iI, sp_iG, sp_iS, g1, nI_lt_b, Nat.lt_irrefl, e1]
  refine ⟨_, rfl, ⟨⟨?_, ?_, ?_, ?_, ?_⟩, fun i hi f hf => ?_, fun j hj f hf => ?_⟩, fun b l hb => ?_⟩
  · simp [eb_u, sp_write, g1]
  · simp [eb_u, sp_write, e2, h.1.2.1]
  · simp [eb_u, sp_write, sp_up, e2, h.1.2.2.1]
  · simp [eb_u, sp_write, sp_up, e2, h.1.2.2.2.1]
  · simp [eb_u, sp_write, sp_up, e2, h.1.2.2.2.2]
  · by_cases hf4 : f = 4
    · subst hf4
      have hi : i < w.1 := hi
      simp [eb_u, sp_write, sp_up, e3, hi, h.2.1 i hi 0 (by omega)]
    · simp [eb_u, sp_write, sp_up, hf4, e2, h.2.1 i hi f hf]
  · simp [eb_u, sp_write, e2, h.2.2 j hj f hf]
  · exact (if_neg (fun q => hb (Or.inr q))).trans (e2 b l (fun q => hb (Or.inl q)))
theorem m_getsLetter (hi : i < 6) : eb_ev L (d + 1) 169 [zr (21, r, 0), zi (nI i), zi x] (nc, ns, I, J, eb_RL C mt mk) = some (zn, (nc, ns, (if I (32, r, i) 5 < 99 then eb_u (eb_u I (32, r, i) 5 (I (32, r, i) 5 + 1)) (32, r, i) 6 (I (32, r, i) 6 + x) else I), J, eb_RL C mt mk)) := by
  rw [h169 rfl]
  by_cases c : I (32, r, i) 5 < 99 <;> simp (decide := true) (disch := omega) only [e169_0, e169_1, e169_4, e169_5, e169_6, e169_7, e169_8, e169_10, e169_13, e169_14, e169_17, e169_18, e169_19, e169_20, e169_21, e169_22, e169_23, e169_24, e169_25, e169_26, e169_29, e169_30, e169_31, e169_33, e169_34, e169_35, e169_36, e169_37, e169_38, bi_s, tyX, rl1, rl2, rl4, ↓reduceIte, Option.bind_some, true_and, and_true, false_and, and_false, true_or, or_true, false_or, or_false, if_same0, ite_eq0, ite_eq0', ite_eq1, ite_eq1', or_em, or_em', ite_not, lcmp0, lcmpL, lcmpG, nI_cl_b, eb_in_b, nI_1, nI_pred, Int32.reduceToNatClampNeg, eb_u_ap, Prod.mk.injEq, not_true_eq_false, not_false_eq_true, tyM, rl21, rl25, sp_rg, sp_iI, sp_iG, sp_iS, c]
end

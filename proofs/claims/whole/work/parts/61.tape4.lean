/-! the tape: letters, books, statements, the whole, as the class reads them -/
theorem nI_small : ∀ n, n < 7 → nI n - 1 < 100000 := by decide +kernel
section
variable {L d nc ns k i g : Nat} {I : eb_A → Nat → Int32} {J : eb_A → Nat → Int64} {C : Nat → Nat → Nat} {mt mk : Option Nat} {w : eb_W} {R : eb_A → Nat → Option eb_A} {S : eb_St} {M : eb_M} {T : eb_Tp} {K : eb_K}
theorem x_readLetter (ht : sk_okT T) (hwf : sk_wf T K) (hw : sp_ok w) : eb_PR L (d + 7) 29 T w K (pr_letter T w K) := by
  intro nc ns I J C mt mk h hK hR
  have hg := hw.1
  rw [h29 rfl]
  obtain ⟨I1, a1, a2, a3⟩ := x_next (L := L) (d := d + 3) (nc := nc) (ns := ns) (J := J) (C := C) (mt := mt) (mk := mk) h ht hK hwf
  have h1 := eb_fk_TX a3 h
  have hw1 := sk_nx_wf hwf
  have hR1 := eb_fk_RX a3 hR
  have hn := x_number (L := L) (d := d + 4) (nc := nc) (ns := ns) (J := J) (C := C) (mt := mt) (mk := mk) h1 ht a2 hw1 (lo := 0) (hi := nI w.1 - 1) (nI_small w.1 (by omega))
  unfold pr_letter
  cases hs : sk_take T (sk_nx T K) 0 (nI w.1 - 1) with
  | none =>
    rw [hs] at hn
    have hn : eb_ev L (d + 6) 33 [zr (13, 0, 0), zi 0, zi (nI w.1 - 1)] (nc, ns, I1, J, eb_RL C mt mk) = some (zi (-1), (nc, ns, I1, J, eb_RL C mt mk)) := hn
    simp (decide := true) (disch := omega) only [e29_0, e29_1, e29_4, e29_5, e29_6, e29_7, e29_10, e29_11, e29_12, e29_15, e29_16, e29_17, e29_18, e29_21, e29_22, e29_25, e29_26, e29_27, e29_30, e29_33, e29_34, e29_35, e29_36, e29_39, e29_40, e29_41, e29_43, e29_46, e29_47, e29_48, e29_49, e29_52, e29_53, e29_56, e29_57, e29_58, e29_59, e29_62, e29_65, e29_66, e29_69, e29_70, bi_s, tyX, rl1, rl2, rl4, ↓reduceIte, Option.bind_some, true_and, and_true, false_and, and_false, true_or, or_true, false_or, or_false, if_same0, ite_eq0, ite_eq0', ite_eq1, ite_eq1', or_em, or_em', ite_not, lcmp0, lcmpL, lcmpG, nI_cl_b, eb_in_b, nI_1, nI_pred, Int32.reduceToNatClampNeg, eb_u_ap, Prod.mk.injEq, not_true_eq_false, not_false_eq_true, sp_rg, sp_iI, sp_iG, sp_iS, a1, hR1.1.1, hn]
    exact ⟨I1, rfl, a2, eb_ft_k a3, fun w' q => by cases q⟩
  | some v =>
    rw [hs] at hn
    have hv := sk_take_rg hs
    rw [lt_pred (by omega) hv.1] at hv
    obtain ⟨j, hj, rfl⟩ := rg_nat (by omega) ⟨hv.1, hv.2.1⟩
    have hn : eb_ev L (d + 6) 33 [zr (13, 0, 0), zi 0, zi (nI w.1 - 1)] (nc, ns, I1, J, eb_RL C mt mk) = some (zi (nI j), (nc, ns, I1, J, eb_RL C mt mk)) := hn
    have k5 := hR1.2.1 j hj 5 (by omega)
    dsimp only
    rw [show tn (nI j) = j from nI_cl_b (by omega)]
    by_cases c : w.2.2.2.1 j 5 < 99
    · rw [if_pos c]
      obtain ⟨I2, b1, b2, b3⟩ := x_next (L := L) (d := d + 3) (nc := nc) (ns := ns) (J := J) (C := C) (mt := mt) (mk := mk) h1 ht a2 hw1
      have h2 := eb_fk_TX b3 h1
      have hw2 := sk_nx_wf hw1
      cases hs2 : sk_take T (sk_nx T (sk_nx T K)) 0 100 with
      | none =>
        obtain ⟨I3, c1, c2, c3⟩ := x_takeN (L := L) (d := d + 2) (nc := nc) (ns := ns) (J := J) (C := C) (mt := mt) (mk := mk) h2 ht b2 hw2 (by decide) (by decide) hs2
        simp (decide := true) (disch := omega) only [e29_0, e29_1, e29_4, e29_5, e29_6, e29_7, e29_10, e29_11, e29_12, e29_15, e29_16, e29_17, e29_18, e29_21, e29_22, e29_25, e29_26, e29_27, e29_30, e29_33, e29_34, e29_35, e29_36, e29_39, e29_40, e29_41, e29_43, e29_46, e29_47, e29_48, e29_49, e29_52, e29_53, e29_56, e29_57, e29_58, e29_59, e29_62, e29_65, e29_66, e29_69, e29_70, bi_s, tyX, rl1, rl2, rl4, ↓reduceIte, Option.bind_some, true_and, and_true, false_and, and_false, true_or, or_true, false_or, or_false, if_same0, ite_eq0, ite_eq0', ite_eq1, ite_eq1', or_em, or_em', ite_not, lcmp0, lcmpL, lcmpG, nI_cl_b, eb_in_b, nI_1, nI_pred, Int32.reduceToNatClampNeg, eb_u_ap, Prod.mk.injEq, not_true_eq_false, not_false_eq_true, sp_rg, sp_iI, sp_iG, sp_iS, a1, hR1.1.1, hn, nI_m1, x_hasRoom, k5, c, b1, c1]
        exact ⟨I3, rfl, c2, eb_ft_k (eb_fk_tr (eb_fk_tr a3 b3) c3), fun w' q => by cases q⟩
      | some y =>
        obtain ⟨I3, c1, c2, c3, c4⟩ := x_takeS (L := L) (d := d + 2) (nc := nc) (ns := ns) (J := J) (C := C) (mt := mt) (mk := mk) h2 ht b2 hw2 (by decide) (by decide) hs2
        have hR3 := eb_fk_RX (eb_fk_tr b3 c3) hR1
        have m5 := hR3.2.1 j hj 5 (by omega)
        have m6 := hR3.2.1 j hj 6 (by omega)
        have r1 := RX_setI (i := j) (f := 5) (v := w.2.2.2.1 j 5 + 1) hR3 (by omega)
        have r2 := RX_setI (i := j) (f := 6) (v := w.2.2.2.1 j 6 + y) r1.1 (by omega)
        simp (decide := true) (disch := omega) only [e29_0, e29_1, e29_4, e29_5, e29_6, e29_7, e29_10, e29_11, e29_12, e29_15, e29_16, e29_17, e29_18, e29_21, e29_22, e29_25, e29_26, e29_27, e29_30, e29_33, e29_34, e29_35, e29_36, e29_39, e29_40, e29_41, e29_43, e29_46, e29_47, e29_48, e29_49, e29_52, e29_53, e29_56, e29_57, e29_58, e29_59, e29_62, e29_65, e29_66, e29_69, e29_70, bi_s, tyX, rl1, rl2, rl4, ↓reduceIte, Option.bind_some, true_and, and_true, false_and, and_false, true_or, or_true, false_or, or_false, if_same0, ite_eq0, ite_eq0', ite_eq1, ite_eq1', or_em, or_em', ite_not, lcmp0, lcmpL, lcmpG, nI_cl_b, eb_in_b, nI_1, nI_pred, Int32.reduceToNatClampNeg, eb_u_ap, Prod.mk.injEq, not_true_eq_false, not_false_eq_true, sp_rg, sp_iI, sp_iG, sp_iS, a1, hR1.1.1, hn, nI_m1, x_hasRoom, k5, c, b1, c1, c4, x_receive, m5, m6]
        refine ⟨_, rfl, eb_fr_KX (eb_fr_tr r1.2 r2.2) c2, eb_ft_tr (eb_ft_k (eb_fk_tr (eb_fk_tr a3 b3) c3)) (eb_ft_f (eb_fr_tr r1.2 r2.2)), fun w' q => by cases q; exact r2.1⟩
    · rw [if_neg c]
      simp (decide := true) (disch := omega) only [e29_0, e29_1, e29_4, e29_5, e29_6, e29_7, e29_10, e29_11, e29_12, e29_15, e29_16, e29_17, e29_18, e29_21, e29_22, e29_25, e29_26, e29_27, e29_30, e29_33, e29_34, e29_35, e29_36, e29_39, e29_40, e29_41, e29_43, e29_46, e29_47, e29_48, e29_49, e29_52, e29_53, e29_56, e29_57, e29_58, e29_59, e29_62, e29_65, e29_66, e29_69, e29_70, bi_s, tyX, rl1, rl2, rl4, ↓reduceIte, Option.bind_some, true_and, and_true, false_and, and_false, true_or, or_true, false_or, or_false, if_same0, ite_eq0, ite_eq0', ite_eq1, ite_eq1', or_em, or_em', ite_not, lcmp0, lcmpL, lcmpG, nI_cl_b, eb_in_b, nI_1, nI_pred, Int32.reduceToNatClampNeg, eb_u_ap, Prod.mk.injEq, not_true_eq_false, not_false_eq_true, sp_rg, sp_iI, sp_iG, sp_iS, a1, hR1.1.1, hn, nI_m1, x_hasRoom, k5, c]
      exact ⟨I1, rfl, a2, eb_ft_k a3, fun w' q => by cases q⟩
theorem x_writeLoop (ht : sk_okT T) (hw : sp_ok w) : ∀ (f told : Nat) (set : Int32) (K : eb_K) (I : eb_A → Nat → Int32) (o : Option eb_V) (r : eb_K × Option Int32), told + f = 7 → sk_wf T K → eb_TX I T → eb_KX I K → eb_RX I 1 w → pr_wl T w.1 f (decide (told = 0)) set K = r →
    ∃ I', eb_E L (d + 6) 31 8 [some (zr (13, 0, 0)), some (zr (4, 1, 0)), some (zi set), some (zi (nI told)), o] [] (nc, ns, I, J, eb_RL C mt mk) = some (zi (eb_b01 r.2), (nc, ns, I', J, eb_RL C mt mk)) ∧ eb_KX I' r.1 ∧ eb_ft I I' ∧ ∀ s, r.2 = some s → eb_RX I' 1 (sp_write w s) := by
  have hg := hw.1
  intro f
  induction f with
  | zero =>
    intro told set K I o r hf hwf h hK hR hr
    subst hr
    have hb : ((6 : Int32) < nI told) = True := by rw [show (6 : Int32) = nI 6 from rfl, nI_lt_b (by omega) (by omega)]; exact eq_true (by omega)
    obtain ⟨I1, a1, a2, a3⟩ := x_writeBook (L := L) (d := d + 5) (nc := nc) (ns := ns) (J := J) (C := C) (mt := mt) (mk := mk) hR hw (set := set)
    rw [e31_8]
    simp (decide := true) (disch := omega) only [e31_0, e31_1, e31_2, e31_3, e31_6, e31_7, e31_9, e31_11, e31_14, e31_15, e31_18, e31_19, e31_22, e31_23, e31_26, e31_27, e31_28, e31_29, e31_32, e31_33, e31_34, e31_37, e31_39, e31_41, e31_42, e31_45, e31_46, e31_48, e31_49, e31_50, e31_51, e31_52, e31_55, e31_56, e31_57, e31_58, e31_59, e31_61, e31_62, e31_63, e31_64, e31_65, e31_68, e31_71, e31_74, e31_75, e31_76, e31_79a, e31_79b, e31_80, e31_81, bi_s, tyX, rl1, rl2, rl4, ↓reduceIte, Option.bind_some, true_and, and_true, false_and, and_false, true_or, or_true, false_or, or_false, if_same0, ite_eq0, ite_eq0', ite_eq1, ite_eq1', or_em, or_em', ite_not, lcmp0, lcmpL, lcmpG, nI_cl_b, eb_in_b, nI_1, nI_pred, Int32.reduceToNatClampNeg, eb_u_ap, Prod.mk.injEq, not_true_eq_false, not_false_eq_true, sp_rg, sp_iI, sp_iG, sp_iS, hb, a1]
    exact ⟨I1, rfl, eb_fr_KX (eb_wb_fr a3) hK, eb_ft_f (eb_wb_fr a3), fun s q => by cases q; exact a2⟩
  | succ f ih =>
    intro told set K I o r hf hwf h hK hR hr
    subst hr
    have hb : ((6 : Int32) < nI told) = False := by rw [show (6 : Int32) = nI 6 from rfl, nI_lt_b (by omega) (by omega)]; exact eq_false (by omega)
    have ht0 : (nI told = 0) = (told = 0) := by rw [show (0 : Int32) = nI 0 from rfl, nI_eq_b (by omega) (by omega)]
    unfold pr_wl
    have hn := x_number (L := L) (d := d + 4) (nc := nc) (ns := ns) (J := J) (C := C) (mt := mt) (mk := mk) h ht hK hwf (lo := 0) (hi := nI w.1 - 1) (nI_small w.1 (by omega))
    have hn : eb_ev L (d + 6) 33 [zr (13, 0, 0), zi 0, zi (nI w.1 - 1)] (nc, ns, I, J, eb_RL C mt mk) = some (zi ((sk_take T K 0 (nI w.1 - 1)).getD (-1)), (nc, ns, I, J, eb_RL C mt mk)) := hn
    by_cases c0 : told = 0 ∨ K.1 = 2
    · rw [if_pos (by rcases c0 with q | q; exact Or.inl (decide_eq_true q); exact Or.inr q)]
      have hgo : ∀ X Y : Option eb_R, (if told = 0 then X else if K.1 = 2 then X else Y) = X := fun X Y => by
        by_cases q : told = 0
        · rw [if_pos q]
        · rw [if_neg q, if_pos (c0.resolve_left q)]
      rw [e31_8]
      cases hs : sk_take T K 0 (nI w.1 - 1) with
      | none =>
        rw [hs] at hn
        simp (decide := true) (disch := omega) only [e31_0, e31_1, e31_2, e31_3, e31_6, e31_7, e31_9, e31_11, e31_14, e31_15, e31_18, e31_19, e31_22, e31_23, e31_26, e31_27, e31_28, e31_29, e31_32, e31_33, e31_34, e31_37, e31_39, e31_41, e31_42, e31_45, e31_46, e31_48, e31_49, e31_50, e31_51, e31_52, e31_55, e31_56, e31_57, e31_58, e31_59, e31_61, e31_62, e31_63, e31_64, e31_65, e31_68, e31_71, e31_74, e31_75, e31_76, e31_79a, e31_79b, e31_80, e31_81, bi_s, tyX, rl1, rl2, rl4, ↓reduceIte, Option.bind_some, true_and, and_true, false_and, and_false, true_or, or_true, false_or, or_false, if_same0, ite_eq0, ite_eq0', ite_eq1, ite_eq1', or_em, or_em', ite_not, lcmp0, lcmpL, lcmpG, nI_cl_b, eb_in_b, nI_1, nI_pred, Int32.reduceToNatClampNeg, eb_u_ap, Prod.mk.injEq, not_true_eq_false, not_false_eq_true, sp_rg, sp_iI, sp_iG, sp_iS, hb, ht0, hK.2.2, hR.1.1, hgo, hn, Option.getD_none]
        exact ⟨I, rfl, hK, eb_ft_rf, fun s q => by cases q⟩
      | some v =>
        rw [hs] at hn
        have hv := sk_take_rg hs
        rw [lt_pred (by omega) hv.1] at hv
        obtain ⟨j, hj, rfl⟩ := rg_nat (by omega) ⟨hv.1, hv.2.1⟩
        dsimp only
        rw [show tn (nI j) = j from nI_cl_b (by omega)]
        unfold sp_bit
        by_cases c : set >>> (nI j &&& 31) &&& 1 = 1
        · rw [if_pos (decide_eq_true c)]
          simp (decide := true) (disch := omega) only [e31_0, e31_1, e31_2, e31_3, e31_6, e31_7, e31_9, e31_11, e31_14, e31_15, e31_18, e31_19, e31_22, e31_23, e31_26, e31_27, e31_28, e31_29, e31_32, e31_33, e31_34, e31_37, e31_39, e31_41, e31_42, e31_45, e31_46, e31_48, e31_49, e31_50, e31_51, e31_52, e31_55, e31_56, e31_57, e31_58, e31_59, e31_61, e31_62, e31_63, e31_64, e31_65, e31_68, e31_71, e31_74, e31_75, e31_76, e31_79a, e31_79b, e31_80, e31_81, bi_s, tyX, rl1, rl2, rl4, ↓reduceIte, Option.bind_some, true_and, and_true, false_and, and_false, true_or, or_true, false_or, or_false, if_same0, ite_eq0, ite_eq0', ite_eq1, ite_eq1', or_em, or_em', ite_not, lcmp0, lcmpL, lcmpG, nI_cl_b, eb_in_b, nI_1, nI_pred, Int32.reduceToNatClampNeg, eb_u_ap, Prod.mk.injEq, not_true_eq_false, not_false_eq_true, sp_rg, sp_iI, sp_iG, sp_iS, hb, ht0, hK.2.2, hR.1.1, hgo, hn, Option.getD_some, nI_m1, c]
          exact ⟨I, rfl, hK, eb_ft_rf, fun s q => by cases q⟩
        · rw [if_neg (fun q => c (of_decide_eq_true q))]
          obtain ⟨I1, a1, a2, a3⟩ := x_next (L := L) (d := d + 3) (nc := nc) (ns := ns) (J := J) (C := C) (mt := mt) (mk := mk) h ht hK hwf
          simp (decide := true) (disch := omega) only [e31_0, e31_1, e31_2, e31_3, e31_6, e31_7, e31_9, e31_11, e31_14, e31_15, e31_18, e31_19, e31_22, e31_23, e31_26, e31_27, e31_28, e31_29, e31_32, e31_33, e31_34, e31_37, e31_39, e31_41, e31_42, e31_45, e31_46, e31_48, e31_49, e31_50, e31_51, e31_52, e31_55, e31_56, e31_57, e31_58, e31_59, e31_61, e31_62, e31_63, e31_64, e31_65, e31_68, e31_71, e31_74, e31_75, e31_76, e31_79a, e31_79b, e31_80, e31_81, bi_s, tyX, rl1, rl2, rl4, ↓reduceIte, Option.bind_some, true_and, and_true, false_and, and_false, true_or, or_true, false_or, or_false, if_same0, ite_eq0, ite_eq0', ite_eq1, ite_eq1', or_em, or_em', ite_not, lcmp0, lcmpL, lcmpG, nI_cl_b, eb_in_b, nI_1, nI_pred, Int32.reduceToNatClampNeg, eb_u_ap, Prod.mk.injEq, not_true_eq_false, not_false_eq_true, sp_rg, sp_iI, sp_iG, sp_iS, hb, ht0, hK.2.2, hR.1.1, hgo, hn, Option.getD_some, nI_m1, c, a1]
          obtain ⟨I2, b1, b2, b3, b4⟩ := ih (told + 1) (set ||| (1 : Int32) <<< (nI j &&& 31)) (sk_nx T K) I1 (some (zi (nI j))) _ (by omega) (sk_nx_wf hwf) (eb_fk_TX a3 h) a2 (eb_fk_RX a3 hR) rfl
          rw [show decide (told + 1 = 0) = false from decide_eq_false (by omega)] at b1 b2 b4
          exact ⟨I2, b1, b2, eb_ft_tr (eb_ft_k a3) b3, b4⟩
    · have q1 : ¬ told = 0 := fun q => c0 (Or.inl q)
      have q2 : ¬ K.1 = 2 := fun q => c0 (Or.inr q)
      rw [if_neg (fun q => q.elim (fun z => q1 (of_decide_eq_true z)) q2)]
      obtain ⟨I1, a1, a2, a3⟩ := x_writeBook (L := L) (d := d + 5) (nc := nc) (ns := ns) (J := J) (C := C) (mt := mt) (mk := mk) hR hw (set := set)
      rw [e31_8]
      simp (decide := true) (disch := omega) only [e31_0, e31_1, e31_2, e31_3, e31_6, e31_7, e31_9, e31_11, e31_14, e31_15, e31_18, e31_19, e31_22, e31_23, e31_26, e31_27, e31_28, e31_29, e31_32, e31_33, e31_34, e31_37, e31_39, e31_41, e31_42, e31_45, e31_46, e31_48, e31_49, e31_50, e31_51, e31_52, e31_55, e31_56, e31_57, e31_58, e31_59, e31_61, e31_62, e31_63, e31_64, e31_65, e31_68, e31_71, e31_74, e31_75, e31_76, e31_79a, e31_79b, e31_80, e31_81, bi_s, tyX, rl1, rl2, rl4, ↓reduceIte, Option.bind_some, true_and, and_true, false_and, and_false, true_or, or_true, false_or, or_false, if_same0, ite_eq0, ite_eq0', ite_eq1, ite_eq1', or_em, or_em', ite_not, lcmp0, lcmpL, lcmpG, nI_cl_b, eb_in_b, nI_1, nI_pred, Int32.reduceToNatClampNeg, eb_u_ap, Prod.mk.injEq, not_true_eq_false, not_false_eq_true, sp_rg, sp_iI, sp_iG, sp_iS, hb, ht0, hK.2.2, q1, q2, a1]
      exact ⟨I1, rfl, eb_fr_KX (eb_wb_fr a3) hK, eb_ft_f (eb_wb_fr a3), fun s q => by cases q; exact a2⟩
theorem x_readWrite (ht : sk_okT T) (hwf : sk_wf T K) (hw : sp_ok w) : eb_PR L (d + 7) 31 T w K (pr_write T w K) := by
  intro nc ns I J C mt mk h hK hR
  rw [h31 rfl]
  obtain ⟨I1, a1, a2, a3⟩ := x_next (L := L) (d := d + 3) (nc := nc) (ns := ns) (J := J) (C := C) (mt := mt) (mk := mk) h ht hK hwf
  obtain ⟨I2, b1, b2, b3, b4⟩ := x_writeLoop (L := L) (d := d) (nc := nc) (ns := ns) (J := J) (C := C) (mt := mt) (mk := mk) ht hw 7 0 0 (sk_nx T K) I1 none _ (by omega) (sk_nx_wf hwf) (eb_fk_TX a3 h) a2 (eb_fk_RX a3 hR) rfl
  rw [show decide ((0 : Nat) = 0) = true from rfl] at b1 b2 b4
  simp only [nI_0] at b1
  simp (decide := true) (disch := omega) only [e31_0, e31_1, e31_2, e31_3, e31_6, e31_7, bi_s, tyX, rl1, rl2, rl4, ↓reduceIte, Option.bind_some, true_and, and_true, false_and, and_false, true_or, or_true, false_or, or_false, if_same0, ite_eq0, ite_eq0', ite_eq1, ite_eq1', or_em, or_em', ite_not, lcmp0, lcmpL, lcmpG, nI_cl_b, eb_in_b, nI_1, nI_pred, Int32.reduceToNatClampNeg, eb_u_ap, Prod.mk.injEq, not_true_eq_false, not_false_eq_true, sp_rg, sp_iI, sp_iG, sp_iS, a1]
  rw [b1]
  unfold pr_write
  cases hr : pr_wl T w.1 7 true 0 (sk_nx T K) with
  | mk k o =>
    rw [hr] at b1 b2 b4
    cases o with
    | none => exact ⟨I2, rfl, b2, eb_ft_tr (eb_ft_k a3) b3, fun w' q => by cases q⟩
    | some s => exact ⟨I2, rfl, b2, eb_ft_tr (eb_ft_k a3) b3, fun w' q => by cases q; exact b4 s rfl⟩
theorem x_readStatement (ht : sk_okT T) (hwf : sk_wf T K) (hw : sp_ok w) : eb_PR L (d + 8) 26 T w K (pr_stmt T w K) := by
  intro nc ns I J C mt mk h hK hR
  rw [h26 rfl]
  have i0 := x_isWord (L := L) (d := d + 1) (nc := nc) (ns := ns) (J := J) (C := C) (mt := mt) (mk := mk) h ht hK hwf (z := 0) (by omega)
  have i1 := x_isWord (L := L) (d := d + 1) (nc := nc) (ns := ns) (J := J) (C := C) (mt := mt) (mk := mk) h ht hK hwf (z := 1) (by omega)
  have i2 := x_isWord (L := L) (d := d + 1) (nc := nc) (ns := ns) (J := J) (C := C) (mt := mt) (mk := mk) h ht hK hwf (z := 2) (by omega)
  have i3 := x_isWord (L := L) (d := d + 1) (nc := nc) (ns := ns) (J := J) (C := C) (mt := mt) (mk := mk) h ht hK hwf (z := 3) (by omega)
  have i4 := x_isWord (L := L) (d := d + 1) (nc := nc) (ns := ns) (J := J) (C := C) (mt := mt) (mk := mk) h ht hK hwf (z := 4) (by omega)
  have h01 : ∀ {α : Type} (o : Option α), (eb_b01 o = 0 ∨ eb_b01 o = 1) = True := fun o => by
    cases o with
    | none => exact eq_true (Or.inl rfl)
    | some _ => exact eq_true (Or.inr rfl)
  unfold pr_stmt
  by_cases c0 : sk_isw T K 0 = true
  · rw [if_pos c0] at i0 ⊢
    obtain ⟨I1, a1, a2, a3, a4⟩ := x_readInn (L := L) (d := d) ht hwf hw nc ns I J C mt mk h hK hR
    simp (decide := true) (disch := omega) only [e26_0, e26_1, e26_3, e26_6, e26_9, e26_10, e26_11, e26_14, e26_15, e26_16, e26_18, e26_21, e26_24, e26_25, e26_26, e26_29, e26_30, e26_31, e26_33, e26_36, e26_39, e26_40, e26_41, e26_44, e26_45, e26_46, e26_48, e26_51, e26_54, e26_55, e26_56, e26_59, e26_60, e26_61, e26_63, e26_66, e26_69, e26_70, e26_71, e26_74, e26_77, e26_78, e26_81, e26_82, bi_s, tyX, rl1, rl2, rl4, ↓reduceIte, Option.bind_some, true_and, and_true, false_and, and_false, true_or, or_true, false_or, or_false, if_same0, ite_eq0, ite_eq0', ite_eq1, ite_eq1', or_em, or_em', ite_not, lcmp0, lcmpL, lcmpG, nI_cl_b, eb_in_b, nI_1, nI_pred, Int32.reduceToNatClampNeg, eb_u_ap, Prod.mk.injEq, not_true_eq_false, not_false_eq_true, sp_rg, sp_iI, sp_iG, sp_iS, i0, a1, h01]
    exact ⟨I1, rfl, a2, a3, a4⟩
  rw [if_neg c0] at i0 ⊢
  by_cases c1 : sk_isw T K 1 = true
  · rw [if_pos c1] at i1 ⊢
    obtain ⟨I1, a1, a2, a3, a4⟩ := x_readGoer (L := L) (d := d) ht hwf hw nc ns I J C mt mk h hK hR
    simp (decide := true) (disch := omega) only [e26_0, e26_1, e26_3, e26_6, e26_9, e26_10, e26_11, e26_14, e26_15, e26_16, e26_18, e26_21, e26_24, e26_25, e26_26, e26_29, e26_30, e26_31, e26_33, e26_36, e26_39, e26_40, e26_41, e26_44, e26_45, e26_46, e26_48, e26_51, e26_54, e26_55, e26_56, e26_59, e26_60, e26_61, e26_63, e26_66, e26_69, e26_70, e26_71, e26_74, e26_77, e26_78, e26_81, e26_82, bi_s, tyX, rl1, rl2, rl4, ↓reduceIte, Option.bind_some, true_and, and_true, false_and, and_false, true_or, or_true, false_or, or_false, if_same0, ite_eq0, ite_eq0', ite_eq1, ite_eq1', or_em, or_em', ite_not, lcmp0, lcmpL, lcmpG, nI_cl_b, eb_in_b, nI_1, nI_pred, Int32.reduceToNatClampNeg, eb_u_ap, Prod.mk.injEq, not_true_eq_false, not_false_eq_true, sp_rg, sp_iI, sp_iG, sp_iS, i0, i1, a1, h01]
    exact ⟨I1, rfl, a2, a3, a4⟩
  rw [if_neg c1] at i1 ⊢
  by_cases c2 : sk_isw T K 2 = true
  · rw [if_pos c2] at i2 ⊢
    obtain ⟨I1, a1, a2, a3, a4⟩ := x_readLetter (L := L) (d := d) ht hwf hw nc ns I J C mt mk h hK hR
    simp (decide := true) (disch := omega) only [e26_0, e26_1, e26_3, e26_6, e26_9, e26_10, e26_11, e26_14, e26_15, e26_16, e26_18, e26_21, e26_24, e26_25, e26_26, e26_29, e26_30, e26_31, e26_33, e26_36, e26_39, e26_40, e26_41, e26_44, e26_45, e26_46, e26_48, e26_51, e26_54, e26_55, e26_56, e26_59, e26_60, e26_61, e26_63, e26_66, e26_69, e26_70, e26_71, e26_74, e26_77, e26_78, e26_81, e26_82, bi_s, tyX, rl1, rl2, rl4, ↓reduceIte, Option.bind_some, true_and, and_true, false_and, and_false, true_or, or_true, false_or, or_false, if_same0, ite_eq0, ite_eq0', ite_eq1, ite_eq1', or_em, or_em', ite_not, lcmp0, lcmpL, lcmpG, nI_cl_b, eb_in_b, nI_1, nI_pred, Int32.reduceToNatClampNeg, eb_u_ap, Prod.mk.injEq, not_true_eq_false, not_false_eq_true, sp_rg, sp_iI, sp_iG, sp_iS, i0, i1, i2, a1, h01]
    exact ⟨I1, rfl, a2, a3, a4⟩
  rw [if_neg c2] at i2 ⊢
  by_cases c3 : sk_isw T K 3 = true
  · rw [if_pos c3] at i3 ⊢
    obtain ⟨I1, a1, a2, a3, a4⟩ := x_readAge (L := L) (d := d) ht hwf nc ns I J C mt mk h hK hR
    simp (decide := true) (disch := omega) only [e26_0, e26_1, e26_3, e26_6, e26_9, e26_10, e26_11, e26_14, e26_15, e26_16, e26_18, e26_21, e26_24, e26_25, e26_26, e26_29, e26_30, e26_31, e26_33, e26_36, e26_39, e26_40, e26_41, e26_44, e26_45, e26_46, e26_48, e26_51, e26_54, e26_55, e26_56, e26_59, e26_60, e26_61, e26_63, e26_66, e26_69, e26_70, e26_71, e26_74, e26_77, e26_78, e26_81, e26_82, bi_s, tyX, rl1, rl2, rl4, ↓reduceIte, Option.bind_some, true_and, and_true, false_and, and_false, true_or, or_true, false_or, or_false, if_same0, ite_eq0, ite_eq0', ite_eq1, ite_eq1', or_em, or_em', ite_not, lcmp0, lcmpL, lcmpG, nI_cl_b, eb_in_b, nI_1, nI_pred, Int32.reduceToNatClampNeg, eb_u_ap, Prod.mk.injEq, not_true_eq_false, not_false_eq_true, sp_rg, sp_iI, sp_iG, sp_iS, i0, i1, i2, i3, a1, h01]
    exact ⟨I1, rfl, a2, a3, a4⟩
  rw [if_neg c3] at i3 ⊢
  by_cases c4 : sk_isw T K 4 = true
  · rw [if_pos c4] at i4 ⊢
    obtain ⟨I1, a1, a2, a3, a4⟩ := x_readWrite (L := L) (d := d) ht hwf hw nc ns I J C mt mk h hK hR
    cases hr : (pr_write T w K).2 with
    | none =>
      rw [hr] at a1 a4
      have a1 : eb_ev L (d + 7) 31 [zr (13, 0, 0), zr (4, 1, 0)] (nc, ns, I, J, eb_RL C mt mk) = some (zi 0, (nc, ns, I1, J, eb_RL C mt mk)) := a1
      simp (decide := true) (disch := omega) only [e26_0, e26_1, e26_3, e26_6, e26_9, e26_10, e26_11, e26_14, e26_15, e26_16, e26_18, e26_21, e26_24, e26_25, e26_26, e26_29, e26_30, e26_31, e26_33, e26_36, e26_39, e26_40, e26_41, e26_44, e26_45, e26_46, e26_48, e26_51, e26_54, e26_55, e26_56, e26_59, e26_60, e26_61, e26_63, e26_66, e26_69, e26_70, e26_71, e26_74, e26_77, e26_78, e26_81, e26_82, bi_s, tyX, rl1, rl2, rl4, ↓reduceIte, Option.bind_some, true_and, and_true, false_and, and_false, true_or, or_true, false_or, or_false, if_same0, ite_eq0, ite_eq0', ite_eq1, ite_eq1', or_em, or_em', ite_not, lcmp0, lcmpL, lcmpG, nI_cl_b, eb_in_b, nI_1, nI_pred, Int32.reduceToNatClampNeg, eb_u_ap, Prod.mk.injEq, not_true_eq_false, not_false_eq_true, sp_rg, sp_iI, sp_iG, sp_iS, i0, i1, i2, i3, i4, a1]
      exact ⟨I1, rfl, a2, a3, a4⟩
    | some s =>
      rw [hr] at a1 a4
      have a1 : eb_ev L (d + 7) 31 [zr (13, 0, 0), zr (4, 1, 0)] (nc, ns, I, J, eb_RL C mt mk) = some (zi 1, (nc, ns, I1, J, eb_RL C mt mk)) := a1
      simp (decide := true) (disch := omega) only [e26_0, e26_1, e26_3, e26_6, e26_9, e26_10, e26_11, e26_14, e26_15, e26_16, e26_18, e26_21, e26_24, e26_25, e26_26, e26_29, e26_30, e26_31, e26_33, e26_36, e26_39, e26_40, e26_41, e26_44, e26_45, e26_46, e26_48, e26_51, e26_54, e26_55, e26_56, e26_59, e26_60, e26_61, e26_63, e26_66, e26_69, e26_70, e26_71, e26_74, e26_77, e26_78, e26_81, e26_82, bi_s, tyX, rl1, rl2, rl4, ↓reduceIte, Option.bind_some, true_and, and_true, false_and, and_false, true_or, or_true, false_or, or_false, if_same0, ite_eq0, ite_eq0', ite_eq1, ite_eq1', or_em, or_em', ite_not, lcmp0, lcmpL, lcmpG, nI_cl_b, eb_in_b, nI_1, nI_pred, Int32.reduceToNatClampNeg, eb_u_ap, Prod.mk.injEq, not_true_eq_false, not_false_eq_true, sp_rg, sp_iI, sp_iG, sp_iS, i0, i1, i2, i3, i4, a1]
      exact ⟨I1, rfl, a2, a3, a4⟩
  rw [if_neg c4] at i4 ⊢
  simp (decide := true) (disch := omega) only [e26_0, e26_1, e26_3, e26_6, e26_9, e26_10, e26_11, e26_14, e26_15, e26_16, e26_18, e26_21, e26_24, e26_25, e26_26, e26_29, e26_30, e26_31, e26_33, e26_36, e26_39, e26_40, e26_41, e26_44, e26_45, e26_46, e26_48, e26_51, e26_54, e26_55, e26_56, e26_59, e26_60, e26_61, e26_63, e26_66, e26_69, e26_70, e26_71, e26_74, e26_77, e26_78, e26_81, e26_82, bi_s, tyX, rl1, rl2, rl4, ↓reduceIte, Option.bind_some, true_and, and_true, false_and, and_false, true_or, or_true, false_or, or_false, if_same0, ite_eq0, ite_eq0', ite_eq1, ite_eq1', or_em, or_em', ite_not, lcmp0, lcmpL, lcmpG, nI_cl_b, eb_in_b, nI_1, nI_pred, Int32.reduceToNatClampNeg, eb_u_ap, Prod.mk.injEq, not_true_eq_false, not_false_eq_true, sp_rg, sp_iI, sp_iG, sp_iS, i0, i1, i2, i3, i4]
  exact ⟨I, rfl, hK, eb_ft_rf, fun w' q => by cases q⟩
end

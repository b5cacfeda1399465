/-! the class's faces: years that spoil, letters drawn, the image, judging -/
section
variable {L d nc ns k i g : Nat} {I : eb_A → Nat → Int32} {J : eb_A → Nat → Int64} {C : Nat → Nat → Nat} {mt mk : Option Nat} {w : eb_W} {R : eb_A → Nat → Option eb_A} {S : eb_St} {M : eb_M}
/-- one year more of what is thought -/
theorem x_oneYear {m : Nat} (h : eb_RX I k (sp_at w m)) (hw : sp_ok w) : ∃ I' C', eb_ev L (d + 6) 61 [zr (4, k, 0), zi 1] (nc, ns, I, J, eb_RL C mt mk) = some (zi (sp_joyAll (sp_at w m) (sp_night (sp_at w m))), (nc, ns, I', J, eb_RL C' mt mk)) ∧ eb_fr k I I' ∧ eb_RX I' k (sp_at w (m + 1)) := by
  obtain ⟨I2, C2, t1, t2, t3, t4, t5, t6, t7⟩ := x_passYears (L := L) (d := d) (nc := nc) (ns := ns) (J := J) (C := C) (mt := mt) (mk := mk) h (sp_ok_at hw m) (sp_ok_at (sp_ok_at hw m)) (m := 1) (by omega)
  refine ⟨I2, C2, ?_, t2, t3⟩
  have : (sp_years (sp_at w m) 1).1 = sp_joyAll (sp_at w m) (sp_night (sp_at w m)) := Int32.zero_add _
  rw [← this]
  exact t1
theorem xf_spoilt (ok : sp_St S) {a b : Int32} : eb_FX L (d + 8) 114 [zi a, zi b] S (sf_spoilt S a b).2 (zi (sf_spoilt S a b).1) := by
  intro nc ns I J C mt mk h
  rw [h114 rfl]
  unfold sf_spoilt
  have hI := x_isInn (L := L) (d := d + 5) (nc := nc) (ns := ns) (J := J) (C := C) (mt := mt) (mk := mk) (x := a) h.1 ok.1
  have hn1 := ok.1.1
  by_cases c1 : sp_iI S.1 a
  · rw [if_pos c1] at hI
    by_cases c2 : sp_rg b 0 100
    · rw [if_pos ⟨c1, c2⟩]
      obtain ⟨i, hi, rfl⟩ := rg_nat (by omega) c1
      rw [show tn (nI i) = i from nI_cl_b (by omega)]
      generalize hp : (fun y => decide ((sp_at S.1 y).2.2.2.1 i 0 < b)) = p
      obtain ⟨I0, a1, a2, a3⟩ := x_think (L := L) (d := d + 4) (nc := nc) (ns := ns) (J := J) (C := C) (mt := mt) (mk := mk) h.1 ok.1
      simp (decide := true) (disch := omega) only [e114_0, e114_1, e114_2, e114_5, e114_8, e114_9, e114_12, e114_15, e114_16, e114_18, e114_21, e114_22, e114_23, e114_26a, e114_26b, e114_27, e114_28, e114_30, e114_32, e114_35, e114_36, e114_39, e114_40, e114_43a, e114_43b, e114_44, e114_45, e114_48, e114_51, e114_52, e114_53, e114_56, e114_57, e114_60, e114_61, e114_62, e114_65, e114_68, e114_69, bi_s, tyX, rl1, rl2, rl4, ↓reduceIte, Option.bind_some, true_and, and_true, false_and, and_false, true_or, or_true, false_or, or_false, if_same0, ite_eq0, ite_eq0', ite_eq1, ite_eq1', or_em, or_em', ite_not, lcmp0, lcmpL, lcmpG, nI_cl_b, eb_in_b, nI_1, nI_pred, Int32.reduceToNatClampNeg, eb_u_ap, Prod.mk.injEq, not_true_eq_false, not_false_eq_true, sp_rg, sp_iI, sp_iG, sp_iS, hI, x_isGood, c2, a1]
      have key := eb_loopE (α := (eb_A → Nat → Int32) × (Nat → Nat → Nat)) (n := 30) (s0 := (I0, C))
        (F := fun y s => eb_E L (d + 7) 114 29 [some (zr (1, 0, 0)), some (zi (nI i)), some (zi b), some (zi (nI (y + 1)))] [] (nc, ns, s.1, J, eb_RL s.2 mt mk))
        (P := fun y s => eb_fr 1 I s.1 ∧ eb_RX s.1 1 (sp_at S.1 y) ∧ sp_fst p (y + 1) (30 - y) = sp_fst p 1 30)
        (Q := fun r => ∃ I' J' C', r = some (zi (sp_fst p 1 30), (nc, ns, I', J', eb_RL C' mt mk)) ∧ eb_XS S I' J' ∧ eb_fX I I' ∧ eb_fJ J J')
        ⟨a2, a3, rfl⟩ (by
          intro y s hy hP
          obtain ⟨I1, C1⟩ := s
          obtain ⟨h1, h3, h2⟩ := hP
          have h1 : eb_fr 1 I I1 := h1
          obtain ⟨I2, C2, b1, b2, b3⟩ := x_oneYear (L := L) (d := d + 1) (nc := nc) (ns := ns) (J := J) (C := C1) (mt := mt) (mk := mk) h3 ok.1
          have k0 := b3.2.1 i (by rw [(sp_years_n (w := S.1) (m := y + 1)).1]; exact hi) 0 (by omega)
          have hb : (30 < nI (y + 1)) = False := by rw [show (30 : Int32) = nI 30 from rfl, nI_lt_b (by omega) (by omega)]; simp; omega
          have hpy : p (y + 1) = decide ((sp_at S.1 (y + 1)).2.2.2.1 i 0 < b) := by rw [← hp]
          have h20 : 30 - y = (30 - (y + 1)) + 1 := by omega
          rw [h20] at h2
          have h2 : (if p (y + 1) = true then nI (y + 1) else sp_fst p (y + 1 + 1) (30 - (y + 1))) = sp_fst p 1 30 := h2
          by_cases c : (sp_at S.1 (y + 1)).2.2.2.1 i 0 < b
          · right
            rw [hpy, if_pos (decide_eq_true c)] at h2
            rw [e114_29]
            simp (decide := true) (disch := omega) only [e114_0, e114_1, e114_2, e114_5, e114_8, e114_9, e114_12, e114_15, e114_16, e114_18, e114_21, e114_22, e114_23, e114_26a, e114_26b, e114_27, e114_28, e114_30, e114_32, e114_35, e114_36, e114_39, e114_40, e114_43a, e114_43b, e114_44, e114_45, e114_48, e114_51, e114_52, e114_53, e114_56, e114_57, e114_60, e114_61, e114_62, e114_65, e114_68, e114_69, bi_s, tyX, rl1, rl2, rl4, ↓reduceIte, Option.bind_some, true_and, and_true, false_and, and_false, true_or, or_true, false_or, or_false, if_same0, ite_eq0, ite_eq0', ite_eq1, ite_eq1', or_em, or_em', ite_not, lcmp0, lcmpL, lcmpG, nI_cl_b, eb_in_b, nI_1, nI_pred, Int32.reduceToNatClampNeg, eb_u_ap, Prod.mk.injEq, not_true_eq_false, not_false_eq_true, sp_rg, sp_iI, sp_iG, sp_iS, hb, b1, k0, c]
            exact ⟨I2, J, C2, by rw [← h2], fx_t h (eb_fr_tr h1 b2)⟩
          · left
            rw [hpy, if_neg (fun q => c (of_decide_eq_true q))] at h2
            rw [e114_29]
            simp (decide := true) (disch := omega) only [e114_0, e114_1, e114_2, e114_5, e114_8, e114_9, e114_12, e114_15, e114_16, e114_18, e114_21, e114_22, e114_23, e114_26a, e114_26b, e114_27, e114_28, e114_30, e114_32, e114_35, e114_36, e114_39, e114_40, e114_43a, e114_43b, e114_44, e114_45, e114_48, e114_51, e114_52, e114_53, e114_56, e114_57, e114_60, e114_61, e114_62, e114_65, e114_68, e114_69, bi_s, tyX, rl1, rl2, rl4, ↓reduceIte, Option.bind_some, true_and, and_true, false_and, and_false, true_or, or_true, false_or, or_false, if_same0, ite_eq0, ite_eq0', ite_eq1, ite_eq1', or_em, or_em', ite_not, lcmp0, lcmpL, lcmpG, nI_cl_b, eb_in_b, nI_1, nI_pred, Int32.reduceToNatClampNeg, eb_u_ap, Prod.mk.injEq, not_true_eq_false, not_false_eq_true, sp_rg, sp_iI, sp_iG, sp_iS, hb, b1, k0, c]
            exact ⟨(I2, C2), rfl, eb_fr_tr h1 b2, b3, h2⟩) (by
          intro s hP
          obtain ⟨I1, C1⟩ := s
          obtain ⟨h1, h3, h2⟩ := hP
          have h2 : -1 = sp_fst p 1 30 := h2
          have hb : (30 < nI (30 + 1)) = True := by decide
          rw [e114_29]
          simp (decide := true) (disch := omega) only [e114_0, e114_1, e114_2, e114_5, e114_8, e114_9, e114_12, e114_15, e114_16, e114_18, e114_21, e114_22, e114_23, e114_26a, e114_26b, e114_27, e114_28, e114_30, e114_32, e114_35, e114_36, e114_39, e114_40, e114_43a, e114_43b, e114_44, e114_45, e114_48, e114_51, e114_52, e114_53, e114_56, e114_57, e114_60, e114_61, e114_62, e114_65, e114_68, e114_69, bi_s, tyX, rl1, rl2, rl4, ↓reduceIte, Option.bind_some, true_and, and_true, false_and, and_false, true_or, or_true, false_or, or_false, if_same0, ite_eq0, ite_eq0', ite_eq1, ite_eq1', or_em, or_em', ite_not, lcmp0, lcmpL, lcmpG, nI_cl_b, eb_in_b, nI_1, nI_pred, Int32.reduceToNatClampNeg, eb_u_ap, Prod.mk.injEq, not_true_eq_false, not_false_eq_true, sp_rg, sp_iI, sp_iG, sp_iS, hb]
          exact ⟨I1, J, C1, by rw [← h2], fx_t h h1⟩)
      exact key
    · rw [if_neg (fun q => c2 q.2)]
      simp (decide := true) (disch := omega) only [e114_0, e114_1, e114_2, e114_5, e114_8, e114_9, e114_12, e114_15, e114_16, e114_18, e114_21, e114_22, e114_23, e114_26a, e114_26b, e114_27, e114_28, e114_30, e114_32, e114_35, e114_36, e114_39, e114_40, e114_43a, e114_43b, e114_44, e114_45, e114_48, e114_51, e114_52, e114_53, e114_56, e114_57, e114_60, e114_61, e114_62, e114_65, e114_68, e114_69, bi_s, tyX, rl1, rl2, rl4, ↓reduceIte, Option.bind_some, true_and, and_true, false_and, and_false, true_or, or_true, false_or, or_false, if_same0, ite_eq0, ite_eq0', ite_eq1, ite_eq1', or_em, or_em', ite_not, lcmp0, lcmpL, lcmpG, nI_cl_b, eb_in_b, nI_1, nI_pred, Int32.reduceToNatClampNeg, eb_u_ap, Prod.mk.injEq, not_true_eq_false, not_false_eq_true, sp_rg, sp_iI, sp_iG, sp_iS, hI, x_isGood, c2, x_refuse0]
      exact ⟨_, J, C, rfl, fx_rf h (by omega)⟩
  · rw [if_neg c1] at hI
    rw [if_neg (fun q => c1 q.1)]
    simp (decide := true) (disch := omega) only [e114_0, e114_1, e114_2, e114_5, e114_8, e114_9, e114_12, e114_15, e114_16, e114_18, e114_21, e114_22, e114_23, e114_26a, e114_26b, e114_27, e114_28, e114_30, e114_32, e114_35, e114_36, e114_39, e114_40, e114_43a, e114_43b, e114_44, e114_45, e114_48, e114_51, e114_52, e114_53, e114_56, e114_57, e114_60, e114_61, e114_62, e114_65, e114_68, e114_69, bi_s, tyX, rl1, rl2, rl4, ↓reduceIte, Option.bind_some, true_and, and_true, false_and, and_false, true_or, or_true, false_or, or_false, if_same0, ite_eq0, ite_eq0', ite_eq1, ite_eq1', or_em, or_em', ite_not, lcmp0, lcmpL, lcmpG, nI_cl_b, eb_in_b, nI_1, nI_pred, Int32.reduceToNatClampNeg, eb_u_ap, Prod.mk.injEq, not_true_eq_false, not_false_eq_true, sp_rg, sp_iI, sp_iG, sp_iS, hI, x_refuse0]
    exact ⟨_, J, C, rfl, fx_rf h (by omega)⟩
theorem xf_recovers (ok : sp_St S) {a : Int32} : eb_FX L (d + 8) 116 [zi a] S (sf_recovers S a).2 (zi (sf_recovers S a).1) := by
  intro nc ns I J C mt mk h
  rw [h116 rfl]
  unfold sf_recovers
  have hI := x_isInn (L := L) (d := d + 5) (nc := nc) (ns := ns) (J := J) (C := C) (mt := mt) (mk := mk) (x := a) h.1 ok.1
  have hn1 := ok.1.1
  by_cases c1 : sp_iI S.1 a
  · rw [if_pos c1] at hI
    rw [if_pos c1]
    obtain ⟨i, hi, rfl⟩ := rg_nat (by omega) c1
    rw [show tn (nI i) = i from nI_cl_b (by omega)]
    generalize hp : (fun y => decide ((sp_at (sp_write S.1 0) y).2.2.2.1 i 1 ≤ (sp_at (sp_write S.1 0) y).2.2.2.1 i 0)) = p
    obtain ⟨I0, a1, a2, a3⟩ := x_think (L := L) (d := d + 4) (nc := nc) (ns := ns) (J := J) (C := C) (mt := mt) (mk := mk) h.1 ok.1
    obtain ⟨I4, a4, a5, a6⟩ := x_writeBook (L := L) (d := d + 6) (nc := nc) (ns := ns) (J := J) (C := C) (mt := mt) (mk := mk) a3 ok.1 (set := 0)
    have ok1 := sp_ok_write (set := 0) ok.1
    simp (decide := true) (disch := omega) only [e116_0, e116_1, e116_2, e116_5, e116_8, e116_9, e116_11, e116_14, e116_15, e116_16, e116_19, e116_20, e116_23a, e116_23b, e116_24, e116_25, e116_27, e116_29, e116_32, e116_33, e116_36, e116_37, e116_40a, e116_40b, e116_41, e116_42, e116_45, e116_48, e116_49, e116_50, e116_53, e116_54, e116_57, e116_60, e116_61, e116_62, e116_65, e116_68, e116_69, e116_70, e116_73, e116_76, e116_77, bi_s, tyX, rl1, rl2, rl4, ↓reduceIte, Option.bind_some, true_and, and_true, false_and, and_false, true_or, or_true, false_or, or_false, if_same0, ite_eq0, ite_eq0', ite_eq1, ite_eq1', or_em, or_em', ite_not, lcmp0, lcmpL, lcmpG, nI_cl_b, eb_in_b, nI_1, nI_pred, Int32.reduceToNatClampNeg, eb_u_ap, Prod.mk.injEq, not_true_eq_false, not_false_eq_true, sp_rg, sp_iI, sp_iG, sp_iS, hI, a1, a4]
    have key := eb_loopE (α := (eb_A → Nat → Int32) × (Nat → Nat → Nat)) (n := 30) (s0 := (I4, C))
        (F := fun y s => eb_E L (d + 7) 116 26 [some (zr (1, 0, 0)), some (zi (nI i)), some (zi (nI (y + 1)))] [] (nc, ns, s.1, J, eb_RL s.2 mt mk))
        (P := fun y s => eb_fr 1 I s.1 ∧ eb_RX s.1 1 (sp_at (sp_write S.1 0) y) ∧ sp_fst p (y + 1) (30 - y) = sp_fst p 1 30)
        (Q := fun r => ∃ I' J' C', r = some (zi (sp_fst p 1 30), (nc, ns, I', J', eb_RL C' mt mk)) ∧ eb_XS S I' J' ∧ eb_fX I I' ∧ eb_fJ J J')
        ⟨eb_fr_tr a2 (eb_wb_fr a6), a5, rfl⟩ (by
          intro y s hy hP
          obtain ⟨I1, C1⟩ := s
          obtain ⟨h1, h3, h2⟩ := hP
          have h1 : eb_fr 1 I I1 := h1
          obtain ⟨I2, C2, b1, b2, b3⟩ := x_oneYear (L := L) (d := d + 1) (nc := nc) (ns := ns) (J := J) (C := C1) (mt := mt) (mk := mk) h3 ok1
          have hi2 : i < (sp_at (sp_write S.1 0) (y + 1)).1 := by rw [(sp_years_n (w := sp_write S.1 0) (m := y + 1)).1]; exact hi
          have k0 := b3.2.1 i hi2 0 (by omega)
          have k1 := b3.2.1 i hi2 1 (by omega)
          have hb : (30 < nI (y + 1)) = False := by rw [show (30 : Int32) = nI 30 from rfl, nI_lt_b (by omega) (by omega)]; simp; omega
          have hpy : p (y + 1) = decide ((sp_at (sp_write S.1 0) (y + 1)).2.2.2.1 i 1 ≤ (sp_at (sp_write S.1 0) (y + 1)).2.2.2.1 i 0) := by rw [← hp]
          have h20 : 30 - y = (30 - (y + 1)) + 1 := by omega
          rw [h20] at h2
          have h2 : (if p (y + 1) = true then nI (y + 1) else sp_fst p (y + 1 + 1) (30 - (y + 1))) = sp_fst p 1 30 := h2
          by_cases c : (sp_at (sp_write S.1 0) (y + 1)).2.2.2.1 i 0 < (sp_at (sp_write S.1 0) (y + 1)).2.2.2.1 i 1
          · left
            rw [hpy, if_neg (fun q => absurd c (Int32.not_lt.mpr (of_decide_eq_true q)))] at h2
            rw [e116_26]
            simp (decide := true) (disch := omega) only [e116_0, e116_1, e116_2, e116_5, e116_8, e116_9, e116_11, e116_14, e116_15, e116_16, e116_19, e116_20, e116_23a, e116_23b, e116_24, e116_25, e116_27, e116_29, e116_32, e116_33, e116_36, e116_37, e116_40a, e116_40b, e116_41, e116_42, e116_45, e116_48, e116_49, e116_50, e116_53, e116_54, e116_57, e116_60, e116_61, e116_62, e116_65, e116_68, e116_69, e116_70, e116_73, e116_76, e116_77, bi_s, tyX, rl1, rl2, rl4, ↓reduceIte, Option.bind_some, true_and, and_true, false_and, and_false, true_or, or_true, false_or, or_false, if_same0, ite_eq0, ite_eq0', ite_eq1, ite_eq1', or_em, or_em', ite_not, lcmp0, lcmpL, lcmpG, nI_cl_b, eb_in_b, nI_1, nI_pred, Int32.reduceToNatClampNeg, eb_u_ap, Prod.mk.injEq, not_true_eq_false, not_false_eq_true, sp_rg, sp_iI, sp_iG, sp_iS, hb, b1, k0, k1, c]
            exact ⟨(I2, C2), rfl, eb_fr_tr h1 b2, b3, h2⟩
          · right
            rw [hpy, if_pos (decide_eq_true (Int32.not_lt.mp c))] at h2
            rw [e116_26]
            simp (decide := true) (disch := omega) only [e116_0, e116_1, e116_2, e116_5, e116_8, e116_9, e116_11, e116_14, e116_15, e116_16, e116_19, e116_20, e116_23a, e116_23b, e116_24, e116_25, e116_27, e116_29, e116_32, e116_33, e116_36, e116_37, e116_40a, e116_40b, e116_41, e116_42, e116_45, e116_48, e116_49, e116_50, e116_53, e116_54, e116_57, e116_60, e116_61, e116_62, e116_65, e116_68, e116_69, e116_70, e116_73, e116_76, e116_77, bi_s, tyX, rl1, rl2, rl4, ↓reduceIte, Option.bind_some, true_and, and_true, false_and, and_false, true_or, or_true, false_or, or_false, if_same0, ite_eq0, ite_eq0', ite_eq1, ite_eq1', or_em, or_em', ite_not, lcmp0, lcmpL, lcmpG, nI_cl_b, eb_in_b, nI_1, nI_pred, Int32.reduceToNatClampNeg, eb_u_ap, Prod.mk.injEq, not_true_eq_false, not_false_eq_true, sp_rg, sp_iI, sp_iG, sp_iS, hb, b1, k0, k1, c]
            exact ⟨I2, J, C2, by rw [← h2], fx_t h (eb_fr_tr h1 b2)⟩) (by
          intro s hP
          obtain ⟨I1, C1⟩ := s
          obtain ⟨h1, h3, h2⟩ := hP
          have h2 : -1 = sp_fst p 1 30 := h2
          have hb : (30 < nI (30 + 1)) = True := by decide
          rw [e116_26]
          simp (decide := true) (disch := omega) only [e116_0, e116_1, e116_2, e116_5, e116_8, e116_9, e116_11, e116_14, e116_15, e116_16, e116_19, e116_20, e116_23a, e116_23b, e116_24, e116_25, e116_27, e116_29, e116_32, e116_33, e116_36, e116_37, e116_40a, e116_40b, e116_41, e116_42, e116_45, e116_48, e116_49, e116_50, e116_53, e116_54, e116_57, e116_60, e116_61, e116_62, e116_65, e116_68, e116_69, e116_70, e116_73, e116_76, e116_77, bi_s, tyX, rl1, rl2, rl4, ↓reduceIte, Option.bind_some, true_and, and_true, false_and, and_false, true_or, or_true, false_or, or_false, if_same0, ite_eq0, ite_eq0', ite_eq1, ite_eq1', or_em, or_em', ite_not, lcmp0, lcmpL, lcmpG, nI_cl_b, eb_in_b, nI_1, nI_pred, Int32.reduceToNatClampNeg, eb_u_ap, Prod.mk.injEq, not_true_eq_false, not_false_eq_true, sp_rg, sp_iI, sp_iG, sp_iS, hb]
          exact ⟨I1, J, C1, by rw [← h2], fx_t h h1⟩)
    exact key
  · rw [if_neg c1] at hI
    rw [if_neg c1]
    simp (decide := true) (disch := omega) only [e116_0, e116_1, e116_2, e116_5, e116_8, e116_9, e116_11, e116_14, e116_15, e116_16, e116_19, e116_20, e116_23a, e116_23b, e116_24, e116_25, e116_27, e116_29, e116_32, e116_33, e116_36, e116_37, e116_40a, e116_40b, e116_41, e116_42, e116_45, e116_48, e116_49, e116_50, e116_53, e116_54, e116_57, e116_60, e116_61, e116_62, e116_65, e116_68, e116_69, e116_70, e116_73, e116_76, e116_77, bi_s, tyX, rl1, rl2, rl4, ↓reduceIte, Option.bind_some, true_and, and_true, false_and, and_false, true_or, or_true, false_or, or_false, if_same0, ite_eq0, ite_eq0', ite_eq1, ite_eq1', or_em, or_em', ite_not, lcmp0, lcmpL, lcmpG, nI_cl_b, eb_in_b, nI_1, nI_pred, Int32.reduceToNatClampNeg, eb_u_ap, Prod.mk.injEq, not_true_eq_false, not_false_eq_true, sp_rg, sp_iI, sp_iG, sp_iS, hI, x_refuse0]
    exact ⟨_, J, C, rfl, fx_rf h (by omega)⟩
theorem xf_bears (ok : sp_St S) {a b n c : Int32} : eb_FX L (d + 9) 115 [zi a, zi b, zi n, zi c] S (sf_bears S a b n c).2 (zi (sf_bears S a b n c).1) := by
  intro nc ns I J C mt mk h
  rw [h115 rfl]
  unfold sf_bears
  have hG := x_isGoer (L := L) (d := d + 6) (nc := nc) (ns := ns) (J := J) (C := C) (mt := mt) (mk := mk) (x := a) h.1 ok.1
  have hI := x_isInn (L := L) (d := d + 6) (nc := nc) (ns := ns) (J := J) (C := C) (mt := mt) (mk := mk) (x := b) h.1 ok.1
  have hn1 := ok.1.1
  have hn2 := ok.1.2.1
  by_cases c1 : sp_iG S.1 a
  · rw [if_pos c1] at hG
    by_cases c2 : sp_iI S.1 b
    · rw [if_pos c2] at hI
      by_cases c3 : sp_rg n 1 12
      · by_cases c4 : sp_rg c 0 100
        · rw [if_pos ⟨c1, c2, c3, c4⟩]
          obtain ⟨g, hg, rfl⟩ := rg_nat (by omega) c1
          obtain ⟨i, hi, rfl⟩ := rg_nat (by omega) c2
          obtain ⟨m, hm, rfl⟩ := rg_12 c3
          rw [show tn (nI i) = i from nI_cl_b (by omega), show tn (nI g) = g from nI_cl_b (by omega), show tn (nI m) = m from nI_cl_b (by omega)]
          generalize hp : (fun h => sp_stays (sp_setG S.1 g 1 (nI h)) i c m) = p
          simp (decide := true) (disch := omega) only [e115_0, e115_1, e115_2, e115_5, e115_8, e115_9, e115_10, e115_13, e115_16, e115_17, e115_20, e115_23, e115_25, e115_28, e115_31, e115_32, e115_34, e115_37, e115_38, e115_40, e115_44, e115_45, e115_48, e115_49, e115_52, e115_55, e115_56, e115_57, e115_59, e115_62, e115_63, e115_66, e115_67, e115_68, e115_70, e115_73, e115_76, e115_78, e115_79, e115_82, e115_85, e115_86, bi_s, tyX, rl1, rl2, rl4, ↓reduceIte, Option.bind_some, true_and, and_true, false_and, and_false, true_or, or_true, false_or, or_false, if_same0, ite_eq0, ite_eq0', ite_eq1, ite_eq1', or_em, or_em', ite_not, lcmp0, lcmpL, lcmpG, nI_cl_b, eb_in_b, nI_1, nI_pred, Int32.reduceToNatClampNeg, eb_u_ap, Prod.mk.injEq, not_true_eq_false, not_false_eq_true, sp_rg, sp_iI, sp_iG, sp_iS, hG, hI, x_isSpan, c3, x_isGood, c4]
          have key := eb_loopE (α := (eb_A → Nat → Int32) × (Nat → Nat → Nat)) (n := 30) (s0 := (I, C))
            (F := fun y s => eb_E L (d + 8) 115 42 [some (zr (1, 0, 0)), some (zi (nI g)), some (zi (nI i)), some (zi (nI m)), some (zi c), some (zi (nI (30 - y)))] [] (nc, ns, s.1, J, eb_RL s.2 mt mk))
            (P := fun y s => eb_fr 1 I s.1 ∧ sp_lst1 p (30 - y) = sp_lst1 p 30)
            (Q := fun r => ∃ I' J' C', r = some (zi (sp_lst1 p 30), (nc, ns, I', J', eb_RL C' mt mk)) ∧ eb_XS S I' J' ∧ eb_fX I I' ∧ eb_fJ J J')
            ⟨eb_fr_rf, rfl⟩ (by
              intro y s hy hP
              obtain ⟨I1, C1⟩ := s
              obtain ⟨h1, h2⟩ := hP
              have h1 : eb_fr 1 I I1 := h1
              have hR1 : eb_RX I1 0 S.1 := eb_RX_fr h.1 h1 (by decide)
              obtain ⟨I2, a1, a2, a3⟩ := x_think (L := L) (d := d + 5) (nc := nc) (ns := ns) (J := J) (C := C1) (mt := mt) (mk := mk) hR1 ok.1
              have h30 : 30 - y = (30 - (y + 1)) + 1 := by omega
              generalize 30 - (y + 1) = z at h30
              rw [h30] at h2
              have r1 := RX_setG (i := g) (f := 1) (v := nI (z + 1)) a3
              have ok1 : sp_ok (sp_setG S.1 g 1 (nI (z + 1))) := ok_setG ok.1 (fun q => okG_1 q (nI_rg (lo := 1) (hi := 30) ⟨by omega, by omega⟩ (by omega)))
              obtain ⟨I3, C3, b1, b2⟩ := x_staysGood (L := L) (d := d + 1) (nc := nc) (ns := ns) (J := J) (C := C1) (mt := mt) (mk := mk) r1.1 ok1 (i := i) hi (m := m) (by omega) (gg := c)
              have hpy : p (z + 1) = sp_stays (sp_setG S.1 g 1 (nI (z + 1))) i c m := by rw [← hp]
              rw [← hpy] at b1
              have h2 : (if p (z + 1) = true then nI (z + 1) else sp_lst1 p z) = sp_lst1 p 30 := h2
              have hb : (nI (z + 1) < 1) = False := by rw [show (1 : Int32) = nI 1 from rfl, nI_lt_b (by omega) (by omega)]; simp
              have hfr : eb_fr 1 I I3 := eb_fr_tr (eb_fr_tr (eb_fr_tr h1 a2) r1.2) b2
              rw [h30, e115_42]
              by_cases cc : p (z + 1) = true
              · right
                rw [if_pos cc] at h2
                simp (decide := true) (disch := omega) only [e115_0, e115_1, e115_2, e115_5, e115_8, e115_9, e115_10, e115_13, e115_16, e115_17, e115_20, e115_23, e115_25, e115_28, e115_31, e115_32, e115_34, e115_37, e115_38, e115_40, e115_44, e115_45, e115_48, e115_49, e115_52, e115_55, e115_56, e115_57, e115_59, e115_62, e115_63, e115_66, e115_67, e115_68, e115_70, e115_73, e115_76, e115_78, e115_79, e115_82, e115_85, e115_86, bi_s, tyX, rl1, rl2, rl4, ↓reduceIte, Option.bind_some, true_and, and_true, false_and, and_false, true_or, or_true, false_or, or_false, if_same0, ite_eq0, ite_eq0', ite_eq1, ite_eq1', or_em, or_em', ite_not, lcmp0, lcmpL, lcmpG, nI_cl_b, eb_in_b, nI_1, nI_pred, Int32.reduceToNatClampNeg, eb_u_ap, Prod.mk.injEq, not_true_eq_false, not_false_eq_true, sp_rg, sp_iI, sp_iG, sp_iS, hb, a1, b1, cc]
                exact ⟨I3, J, C3, by rw [← h2], fx_t h hfr⟩
              · left
                rw [if_neg cc] at h2
                simp (decide := true) (disch := omega) only [e115_0, e115_1, e115_2, e115_5, e115_8, e115_9, e115_10, e115_13, e115_16, e115_17, e115_20, e115_23, e115_25, e115_28, e115_31, e115_32, e115_34, e115_37, e115_38, e115_40, e115_44, e115_45, e115_48, e115_49, e115_52, e115_55, e115_56, e115_57, e115_59, e115_62, e115_63, e115_66, e115_67, e115_68, e115_70, e115_73, e115_76, e115_78, e115_79, e115_82, e115_85, e115_86, bi_s, tyX, rl1, rl2, rl4, ↓reduceIte, Option.bind_some, true_and, and_true, false_and, and_false, true_or, or_true, false_or, or_false, if_same0, ite_eq0, ite_eq0', ite_eq1, ite_eq1', or_em, or_em', ite_not, lcmp0, lcmpL, lcmpG, nI_cl_b, eb_in_b, nI_1, nI_pred, Int32.reduceToNatClampNeg, eb_u_ap, Prod.mk.injEq, not_true_eq_false, not_false_eq_true, sp_rg, sp_iI, sp_iG, sp_iS, hb, a1, b1, cc, nI_dec]
                exact ⟨(I3, C3), rfl, hfr, h2⟩) (by
              intro s hP
              obtain ⟨I1, C1⟩ := s
              obtain ⟨h1, h2⟩ := hP
              have h2 : -1 = sp_lst1 p 30 := h2
              have hb : (nI (30 - 30) < 1) = True := by decide
              rw [e115_42]
              simp (decide := true) (disch := omega) only [e115_0, e115_1, e115_2, e115_5, e115_8, e115_9, e115_10, e115_13, e115_16, e115_17, e115_20, e115_23, e115_25, e115_28, e115_31, e115_32, e115_34, e115_37, e115_38, e115_40, e115_44, e115_45, e115_48, e115_49, e115_52, e115_55, e115_56, e115_57, e115_59, e115_62, e115_63, e115_66, e115_67, e115_68, e115_70, e115_73, e115_76, e115_78, e115_79, e115_82, e115_85, e115_86, bi_s, tyX, rl1, rl2, rl4, ↓reduceIte, Option.bind_some, true_and, and_true, false_and, and_false, true_or, or_true, false_or, or_false, if_same0, ite_eq0, ite_eq0', ite_eq1, ite_eq1', or_em, or_em', ite_not, lcmp0, lcmpL, lcmpG, nI_cl_b, eb_in_b, nI_1, nI_pred, Int32.reduceToNatClampNeg, eb_u_ap, Prod.mk.injEq, not_true_eq_false, not_false_eq_true, sp_rg, sp_iI, sp_iG, sp_iS, hb]
              exact ⟨I1, J, C1, by rw [← h2], fx_t h h1⟩)
          exact key
        · rw [if_neg (fun q => c4 q.2.2.2)]
          simp (decide := true) (disch := omega) only [e115_0, e115_1, e115_2, e115_5, e115_8, e115_9, e115_10, e115_13, e115_16, e115_17, e115_20, e115_23, e115_25, e115_28, e115_31, e115_32, e115_34, e115_37, e115_38, e115_40, e115_44, e115_45, e115_48, e115_49, e115_52, e115_55, e115_56, e115_57, e115_59, e115_62, e115_63, e115_66, e115_67, e115_68, e115_70, e115_73, e115_76, e115_78, e115_79, e115_82, e115_85, e115_86, bi_s, tyX, rl1, rl2, rl4, ↓reduceIte, Option.bind_some, true_and, and_true, false_and, and_false, true_or, or_true, false_or, or_false, if_same0, ite_eq0, ite_eq0', ite_eq1, ite_eq1', or_em, or_em', ite_not, lcmp0, lcmpL, lcmpG, nI_cl_b, eb_in_b, nI_1, nI_pred, Int32.reduceToNatClampNeg, eb_u_ap, Prod.mk.injEq, not_true_eq_false, not_false_eq_true, sp_rg, sp_iI, sp_iG, sp_iS, hG, hI, x_isSpan, c3, x_isGood, c4, x_refuse0]
          exact ⟨_, J, C, rfl, fx_rf h (by omega)⟩
      · rw [if_neg (fun q => c3 q.2.2.1)]
        simp (decide := true) (disch := omega) only [e115_0, e115_1, e115_2, e115_5, e115_8, e115_9, e115_10, e115_13, e115_16, e115_17, e115_20, e115_23, e115_25, e115_28, e115_31, e115_32, e115_34, e115_37, e115_38, e115_40, e115_44, e115_45, e115_48, e115_49, e115_52, e115_55, e115_56, e115_57, e115_59, e115_62, e115_63, e115_66, e115_67, e115_68, e115_70, e115_73, e115_76, e115_78, e115_79, e115_82, e115_85, e115_86, bi_s, tyX, rl1, rl2, rl4, ↓reduceIte, Option.bind_some, true_and, and_true, false_and, and_false, true_or, or_true, false_or, or_false, if_same0, ite_eq0, ite_eq0', ite_eq1, ite_eq1', or_em, or_em', ite_not, lcmp0, lcmpL, lcmpG, nI_cl_b, eb_in_b, nI_1, nI_pred, Int32.reduceToNatClampNeg, eb_u_ap, Prod.mk.injEq, not_true_eq_false, not_false_eq_true, sp_rg, sp_iI, sp_iG, sp_iS, hG, hI, x_isSpan, c3, x_refuse0]
        exact ⟨_, J, C, rfl, fx_rf h (by omega)⟩
    · rw [if_neg c2] at hI
      rw [if_neg (fun q => c2 q.2.1)]
      simp (decide := true) (disch := omega) only [e115_0, e115_1, e115_2, e115_5, e115_8, e115_9, e115_10, e115_13, e115_16, e115_17, e115_20, e115_23, e115_25, e115_28, e115_31, e115_32, e115_34, e115_37, e115_38, e115_40, e115_44, e115_45, e115_48, e115_49, e115_52, e115_55, e115_56, e115_57, e115_59, e115_62, e115_63, e115_66, e115_67, e115_68, e115_70, e115_73, e115_76, e115_78, e115_79, e115_82, e115_85, e115_86, bi_s, tyX, rl1, rl2, rl4, ↓reduceIte, Option.bind_some, true_and, and_true, false_and, and_false, true_or, or_true, false_or, or_false, if_same0, ite_eq0, ite_eq0', ite_eq1, ite_eq1', or_em, or_em', ite_not, lcmp0, lcmpL, lcmpG, nI_cl_b, eb_in_b, nI_1, nI_pred, Int32.reduceToNatClampNeg, eb_u_ap, Prod.mk.injEq, not_true_eq_false, not_false_eq_true, sp_rg, sp_iI, sp_iG, sp_iS, hG, hI, x_refuse0]
      exact ⟨_, J, C, rfl, fx_rf h (by omega)⟩
  · rw [if_neg c1] at hG
    rw [if_neg (fun q => c1 q.1)]
    simp (decide := true) (disch := omega) only [e115_0, e115_1, e115_2, e115_5, e115_8, e115_9, e115_10, e115_13, e115_16, e115_17, e115_20, e115_23, e115_25, e115_28, e115_31, e115_32, e115_34, e115_37, e115_38, e115_40, e115_44, e115_45, e115_48, e115_49, e115_52, e115_55, e115_56, e115_57, e115_59, e115_62, e115_63, e115_66, e115_67, e115_68, e115_70, e115_73, e115_76, e115_78, e115_79, e115_82, e115_85, e115_86, bi_s, tyX, rl1, rl2, rl4, ↓reduceIte, Option.bind_some, true_and, and_true, false_and, and_false, true_or, or_true, false_or, or_false, if_same0, ite_eq0, ite_eq0', ite_eq1, ite_eq1', or_em, or_em', ite_not, lcmp0, lcmpL, lcmpG, nI_cl_b, eb_in_b, nI_1, nI_pred, Int32.reduceToNatClampNeg, eb_u_ap, Prod.mk.injEq, not_true_eq_false, not_false_eq_true, sp_rg, sp_iI, sp_iG, sp_iS, hG, x_refuse0]
    exact ⟨_, J, C, rfl, fx_rf h (by omega)⟩
theorem xf_dearest (ok : sp_St S) {n a : Int32} : eb_FX L (d + 8) 117 [zi n, zi a] S (sf_dearest S n a).2 (zi (sf_dearest S n a).1) := by
  intro nc ns I J C mt mk h
  rw [h117 rfl]
  unfold sf_dearest
  have hI := x_isInn (L := L) (d := d + 5) (nc := nc) (ns := ns) (J := J) (C := C) (mt := mt) (mk := mk) (x := a) h.1 ok.1
  have hn1 := ok.1.1
  by_cases c1 : sp_rg n 1 12
  · by_cases c2 : sp_iI S.1 a
    · rw [if_pos c2] at hI
      rw [if_pos ⟨c1, c2⟩]
      obtain ⟨m, hm, rfl⟩ := rg_12 c1
      obtain ⟨i, hi, rfl⟩ := rg_nat (by omega) c2
      rw [show tn (nI i) = i from nI_cl_b (by omega), show tn (nI m) = m from nI_cl_b (by omega)]
      generalize hp : (fun p => (sp_years (sp_setI S.1 i 3 (nI p)) m).2.2.1 i) = p
      simp (decide := true) (disch := omega) only [e117_0, e117_1, e117_4, e117_7, e117_8, e117_9, e117_12, e117_15, e117_16, e117_18, e117_21, e117_22, e117_23, e117_24, e117_25, e117_27, e117_28, e117_32, e117_34, e117_37, e117_38, e117_41, e117_44, e117_45, e117_46, e117_48, e117_51, e117_52, e117_55, e117_56, e117_59a, e117_59b, e117_60, e117_61, e117_64, e117_67, e117_68, e117_69, e117_72, e117_74, e117_77, e117_79, e117_80, e117_81, e117_84, e117_87, e117_88, e117_89, e117_92, e117_94, e117_97, e117_100, e117_101, bi_s, tyX, rl1, rl2, rl4, ↓reduceIte, Option.bind_some, true_and, and_true, false_and, and_false, true_or, or_true, false_or, or_false, if_same0, ite_eq0, ite_eq0', ite_eq1, ite_eq1', or_em, or_em', ite_not, lcmp0, lcmpL, lcmpG, nI_cl_b, eb_in_b, nI_1, nI_pred, Int32.reduceToNatClampNeg, eb_u_ap, Prod.mk.injEq, not_true_eq_false, not_false_eq_true, sp_rg, sp_iI, sp_iG, sp_iS, x_isSpan, c1, hI]
      obtain ⟨t, e, e1, e2, e3⟩ := eb_loop (α := Int32 × Int32 × (eb_A → Nat → Int32) × (Nat → Nat → Nat)) (n := 100) (s0 := (0, -1, I, C))
        (F := fun y s => eb_E L (d + 7) 117 30 [some (zr (1, 0, 0)), some (zi (nI m)), some (zi (nI i)), some (zi s.1), some (zi s.2.1), some (zi (nI y))] [] (nc, ns, s.2.2.1, J, eb_RL s.2.2.2 mt mk))
        (P := fun y s => s.1 = (sp_most p y).1 ∧ s.2.1 = (sp_most p y).2 ∧ eb_fr 1 I s.2.2.1)
        ⟨rfl, rfl, eb_fr_rf⟩ (by
          intro y s hy hP
          obtain ⟨s1, s2, I1, C1⟩ := s
          obtain ⟨h1, h2, h3⟩ := hP
          have h1 : s1 = (sp_most p y).1 := h1
          have h2 : s2 = (sp_most p y).2 := h2
          have h3 : eb_fr 1 I I1 := h3
          have hR1 : eb_RX I1 0 S.1 := eb_RX_fr h.1 h3 (by decide)
          obtain ⟨I2, a1, a2, a3⟩ := x_think (L := L) (d := d + 4) (nc := nc) (ns := ns) (J := J) (C := C1) (mt := mt) (mk := mk) hR1 ok.1
          have r1 := RX_setI (i := i) (f := 3) (v := nI y) a3 (by omega)
          have ok1 : sp_ok (sp_setI S.1 i 3 (nI y)) := ok_setI ok.1 (fun q => okI_3 q (nI_rg (lo := 0) (hi := 99) ⟨by omega, by omega⟩ (by omega)))
          obtain ⟨I3, C3, t1, t2, t3, t4, t5, t6, t7⟩ := x_passYears (L := L) (d := d + 1) (nc := nc) (ns := ns) (J := J) (C := C1) (mt := mt) (mk := mk) r1.1 ok1 (sp_ok_at ok1) (m := m) (by omega)
          have hpy : p y = (sp_years (sp_setI S.1 i 3 (nI y)) m).2.2.1 i := by rw [← hp]
          have k8 := t5 i hi
          rw [← hpy] at k8
          have hb : (99 < nI y) = False := by rw [show (99 : Int32) = nI 99 from rfl, nI_lt_b (by omega) (by omega)]; simp; omega
          have hfr : eb_fr 1 I I3 := eb_fr_tr (eb_fr_tr (eb_fr_tr h3 a2) r1.2) t2
          rw [e117_30]
          by_cases c : (sp_most p y).2 < p y
          · have hs : sp_most p (y + 1) = (nI y, p y) := if_pos c
            simp (decide := true) (disch := omega) only [e117_0, e117_1, e117_4, e117_7, e117_8, e117_9, e117_12, e117_15, e117_16, e117_18, e117_21, e117_22, e117_23, e117_24, e117_25, e117_27, e117_28, e117_32, e117_34, e117_37, e117_38, e117_41, e117_44, e117_45, e117_46, e117_48, e117_51, e117_52, e117_55, e117_56, e117_59a, e117_59b, e117_60, e117_61, e117_64, e117_67, e117_68, e117_69, e117_72, e117_74, e117_77, e117_79, e117_80, e117_81, e117_84, e117_87, e117_88, e117_89, e117_92, e117_94, e117_97, e117_100, e117_101, bi_s, tyX, rl1, rl2, rl4, ↓reduceIte, Option.bind_some, true_and, and_true, false_and, and_false, true_or, or_true, false_or, or_false, if_same0, ite_eq0, ite_eq0', ite_eq1, ite_eq1', or_em, or_em', ite_not, lcmp0, lcmpL, lcmpG, nI_cl_b, eb_in_b, nI_1, nI_pred, Int32.reduceToNatClampNeg, eb_u_ap, Prod.mk.injEq, not_true_eq_false, not_false_eq_true, sp_rg, sp_iI, sp_iG, sp_iS, hb, a1, t1, k8, h2, c]
            exact ⟨(nI y, p y, I3, C3), rfl, by rw [hs], by rw [hs], hfr⟩
          · have hs : sp_most p (y + 1) = sp_most p y := if_neg c
            simp (decide := true) (disch := omega) only [e117_0, e117_1, e117_4, e117_7, e117_8, e117_9, e117_12, e117_15, e117_16, e117_18, e117_21, e117_22, e117_23, e117_24, e117_25, e117_27, e117_28, e117_32, e117_34, e117_37, e117_38, e117_41, e117_44, e117_45, e117_46, e117_48, e117_51, e117_52, e117_55, e117_56, e117_59a, e117_59b, e117_60, e117_61, e117_64, e117_67, e117_68, e117_69, e117_72, e117_74, e117_77, e117_79, e117_80, e117_81, e117_84, e117_87, e117_88, e117_89, e117_92, e117_94, e117_97, e117_100, e117_101, bi_s, tyX, rl1, rl2, rl4, ↓reduceIte, Option.bind_some, true_and, and_true, false_and, and_false, true_or, or_true, false_or, or_false, if_same0, ite_eq0, ite_eq0', ite_eq1, ite_eq1', or_em, or_em', ite_not, lcmp0, lcmpL, lcmpG, nI_cl_b, eb_in_b, nI_1, nI_pred, Int32.reduceToNatClampNeg, eb_u_ap, Prod.mk.injEq, not_true_eq_false, not_false_eq_true, sp_rg, sp_iI, sp_iG, sp_iS, hb, a1, t1, k8, h2, c]
            exact ⟨(s1, (sp_most p y).2, I3, C3), rfl, by rw [hs]; exact h1, by rw [hs], hfr⟩)
      obtain ⟨s1, s2, I1, C1⟩ := t
      have e1 : s1 = (sp_most p 100).1 := e1
      simp only [nI_0] at e
      have hb : (99 < nI 100) = True := by decide
      rw [e, e117_30]
      simp (decide := true) (disch := omega) only [e117_0, e117_1, e117_4, e117_7, e117_8, e117_9, e117_12, e117_15, e117_16, e117_18, e117_21, e117_22, e117_23, e117_24, e117_25, e117_27, e117_28, e117_32, e117_34, e117_37, e117_38, e117_41, e117_44, e117_45, e117_46, e117_48, e117_51, e117_52, e117_55, e117_56, e117_59a, e117_59b, e117_60, e117_61, e117_64, e117_67, e117_68, e117_69, e117_72, e117_74, e117_77, e117_79, e117_80, e117_81, e117_84, e117_87, e117_88, e117_89, e117_92, e117_94, e117_97, e117_100, e117_101, bi_s, tyX, rl1, rl2, rl4, ↓reduceIte, Option.bind_some, true_and, and_true, false_and, and_false, true_or, or_true, false_or, or_false, if_same0, ite_eq0, ite_eq0', ite_eq1, ite_eq1', or_em, or_em', ite_not, lcmp0, lcmpL, lcmpG, nI_cl_b, eb_in_b, nI_1, nI_pred, Int32.reduceToNatClampNeg, eb_u_ap, Prod.mk.injEq, not_true_eq_false, not_false_eq_true, sp_rg, sp_iI, sp_iG, sp_iS, hb]
      exact ⟨I1, J, C1, by rw [e1], fx_t h e3⟩
    · rw [if_neg c2] at hI
      rw [if_neg (fun q => c2 q.2)]
      simp (decide := true) (disch := omega) only [e117_0, e117_1, e117_4, e117_7, e117_8, e117_9, e117_12, e117_15, e117_16, e117_18, e117_21, e117_22, e117_23, e117_24, e117_25, e117_27, e117_28, e117_32, e117_34, e117_37, e117_38, e117_41, e117_44, e117_45, e117_46, e117_48, e117_51, e117_52, e117_55, e117_56, e117_59a, e117_59b, e117_60, e117_61, e117_64, e117_67, e117_68, e117_69, e117_72, e117_74, e117_77, e117_79, e117_80, e117_81, e117_84, e117_87, e117_88, e117_89, e117_92, e117_94, e117_97, e117_100, e117_101, bi_s, tyX, rl1, rl2, rl4, ↓reduceIte, Option.bind_some, true_and, and_true, false_and, and_false, true_or, or_true, false_or, or_false, if_same0, ite_eq0, ite_eq0', ite_eq1, ite_eq1', or_em, or_em', ite_not, lcmp0, lcmpL, lcmpG, nI_cl_b, eb_in_b, nI_1, nI_pred, Int32.reduceToNatClampNeg, eb_u_ap, Prod.mk.injEq, not_true_eq_false, not_false_eq_true, sp_rg, sp_iI, sp_iG, sp_iS, x_isSpan, c1, hI, x_refuse0]
      exact ⟨_, J, C, rfl, fx_rf h (by omega)⟩
  · rw [if_neg (fun q => c1 q.1)]
    simp (decide := true) (disch := omega) only [e117_0, e117_1, e117_4, e117_7, e117_8, e117_9, e117_12, e117_15, e117_16, e117_18, e117_21, e117_22, e117_23, e117_24, e117_25, e117_27, e117_28, e117_32, e117_34, e117_37, e117_38, e117_41, e117_44, e117_45, e117_46, e117_48, e117_51, e117_52, e117_55, e117_56, e117_59a, e117_59b, e117_60, e117_61, e117_64, e117_67, e117_68, e117_69, e117_72, e117_74, e117_77, e117_79, e117_80, e117_81, e117_84, e117_87, e117_88, e117_89, e117_92, e117_94, e117_97, e117_100, e117_101, bi_s, tyX, rl1, rl2, rl4, ↓reduceIte, Option.bind_some, true_and, and_true, false_and, and_false, true_or, or_true, false_or, or_false, if_same0, ite_eq0, ite_eq0', ite_eq1, ite_eq1', or_em, or_em', ite_not, lcmp0, lcmpL, lcmpG, nI_cl_b, eb_in_b, nI_1, nI_pred, Int32.reduceToNatClampNeg, eb_u_ap, Prod.mk.injEq, not_true_eq_false, not_false_eq_true, sp_rg, sp_iI, sp_iG, sp_iS, x_isSpan, c1, x_refuse0]
    exact ⟨_, J, C, rfl, fx_rf h (by omega)⟩
theorem xf_year (ok : sp_St S) : eb_FX L (d + 8) 118 [] S (sf_year S).2 (zi (sf_year S).1) := by
  intro nc ns I J C mt mk h
  rw [h118 rfl]
  unfold sf_year
  obtain ⟨I2, C2, t1, t2, t3, t4, t5, t6, t7⟩ := x_passYears (L := L) (d := d + 1) (nc := nc) (ns := ns) (J := J) (C := C) (mt := mt) (mk := mk) h.1 ok.1 (sp_ok_at ok.1) (m := 1) (by omega)
  rw [show nI 1 = 1 from rfl] at t1
  simp (decide := true) (disch := omega) only [e118_0, e118_1, e118_4, e118_5, e118_8, bi_s, tyX, rl1, rl2, rl4, ↓reduceIte, Option.bind_some, true_and, and_true, false_and, and_false, true_or, or_true, false_or, or_false, if_same0, ite_eq0, ite_eq0', ite_eq1, ite_eq1', or_em, or_em', ite_not, lcmp0, lcmpL, lcmpG, nI_cl_b, eb_in_b, nI_1, nI_pred, Int32.reduceToNatClampNeg, eb_u_ap, Prod.mk.injEq, not_true_eq_false, not_false_eq_true, sp_rg, sp_iI, sp_iG, sp_iS, t1]
  exact ⟨I2, J, C2, rfl, fx_w h ⟨t3, t2⟩⟩
theorem xf_goes (ok : sp_St S) {n : Int32} : eb_FX L (d + 8) 119 [zi n] S (sf_goes S n).2 (zi (sf_goes S n).1) := by
  intro nc ns I J C mt mk h
  rw [h119 rfl]
  unfold sf_goes
  by_cases c1 : sp_rg n 1 12
  · rw [if_pos c1]
    obtain ⟨m, hm, rfl⟩ := rg_12 c1
    obtain ⟨I2, C2, t1, t2, t3, t4, t5, t6, t7⟩ := x_passYears (L := L) (d := d + 1) (nc := nc) (ns := ns) (J := J) (C := C) (mt := mt) (mk := mk) h.1 ok.1 (sp_ok_at ok.1) (m := m) (by omega)
    simp (decide := true) (disch := omega) only [e119_0, e119_1, e119_4, e119_7, e119_8, e119_11, e119_12, e119_15, e119_18, e119_19, e119_21, e119_24, bi_s, tyX, rl1, rl2, rl4, ↓reduceIte, Option.bind_some, true_and, and_true, false_and, and_false, true_or, or_true, false_or, or_false, if_same0, ite_eq0, ite_eq0', ite_eq1, ite_eq1', or_em, or_em', ite_not, lcmp0, lcmpL, lcmpG, nI_cl_b, eb_in_b, nI_1, nI_pred, Int32.reduceToNatClampNeg, eb_u_ap, Prod.mk.injEq, not_true_eq_false, not_false_eq_true, sp_rg, sp_iI, sp_iG, sp_iS, x_isSpan, c1, t1, tn]
    exact ⟨I2, J, C2, rfl, fx_w h ⟨t3, t2⟩⟩
  · rw [if_neg c1]
    simp (decide := true) (disch := omega) only [e119_0, e119_1, e119_4, e119_7, e119_8, e119_11, e119_12, e119_15, e119_18, e119_19, e119_21, e119_24, bi_s, tyX, rl1, rl2, rl4, ↓reduceIte, Option.bind_some, true_and, and_true, false_and, and_false, true_or, or_true, false_or, or_false, if_same0, ite_eq0, ite_eq0', ite_eq1, ite_eq1', or_em, or_em', ite_not, lcmp0, lcmpL, lcmpG, nI_cl_b, eb_in_b, nI_1, nI_pred, Int32.reduceToNatClampNeg, eb_u_ap, Prod.mk.injEq, not_true_eq_false, not_false_eq_true, sp_rg, sp_iI, sp_iG, sp_iS, x_isSpan, c1, x_far0]
    exact ⟨_, J, C, rfl, fx_rf h (by omega)⟩
end

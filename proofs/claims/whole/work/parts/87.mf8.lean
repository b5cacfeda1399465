/-! the reference's faces: years on a copy made afresh -/
section
variable {L d nc ns r i g t : Nat} {I I' I1 : eb_A → Nat → Int32} {J J1 : eb_A → Nat → Int64} {C : Nat → Nat → Nat} {mt mk : Option Nat} {M : eb_M} {R : eb_A → Nat → Option eb_A} {w : eb_W} {x : Int32} {S : eb_St}
theorem fm_t (h : eb_MS S I1 J1 nc ns (some t) mk) (q : eb_gv t I1 I') (h2 : eb_fM I I1) (h3 : eb_fN J J1) : eb_MS S I' J1 nc ns (some t) mk ∧ eb_fM I I' ∧ eb_fN J J1 := ⟨eb_MS_t h q, eb_fM_tr h2 (eb_fM_gv q), h3⟩
/-- one year more of what is thought -/
theorem m_oneYear {m : Nat} (h : eb_RM I r (sp_at w m)) (hw : sp_ok w) : ∃ I', eb_ev L (d + 6) 223 [zr (21, r, 0)] (nc, ns, I, J, eb_RL C mt mk) = some (zn, (nc, ns, I', J, eb_RL C mt mk)) ∧ eb_gv r I I' ∧ eb_RM I' r (sp_at w (m + 1)) ∧ (∀ i, i < w.1 → I' (42, r, 0) i = (sp_at w m).2.2.2.1 i 3 * (sp_night (sp_at w m)).1 i) := by
  obtain ⟨I2, a1, a2, a3, a4, a5, a6⟩ := m_year (L := L) (d := d) (nc := nc) (ns := ns) (J := J) (C := C) (mt := mt) (mk := mk) h (sp_ok_at hw m)
  exact ⟨I2, a1, a2, a3, fun i hi => a6 i (by rw [(sp_years_n (w := w) (m := m)).1]; exact hi)⟩
theorem mf_years (ok : sp_St S) {n a : Int32} : eb_FM L (d + 8) 225 [zi n, zi a] S (sf_years S n a).2 (zi (sf_years S n a).1) := by
  intro nc ns I J C mt mk h
  rw [h225 rfl]
  unfold sf_years
  have hG := m_isGoer (L := L) (d := d + 5) (nc := nc) (ns := ns) (J := J) (C := C) (mt := mt) (mk := mk) (x := a) h.1 ok.1
  have hn1 := ok.1.2.1
  by_cases c1 : sp_rg n 1 12
  · by_cases c2 : a = -1 ∨ sp_iG S.1 a
    · rw [if_pos ⟨c1, c2⟩]
      obtain ⟨m, hm, rfl⟩ := rg_12 c1
      obtain ⟨t, nc1, ns1, I1, J1, e1, e2, e3, e4, e5⟩ := m_fresh (L := L) (d := d + 3) (C := C) h ok
      have hg : a = -1 ∨ ∃ j, j < S.1.2.1 ∧ a = nI j := c2.imp (fun q => q) (fun q => by obtain ⟨g, hg, e⟩ := rg_nat (by omega) q; exact ⟨g, hg, e⟩)
      obtain ⟨I2, a1, a2, a3⟩ := m_joyIn (L := L) (d := d) (nc := nc1) (ns := ns1) (J := J1) (C := C) (mt := some t) (mk := mk) e3 ok.1 (m := m) (by omega) hg
      rw [show tn (nI m) = m from nI_cl_b (by omega)]
      by_cases c3 : a = -1
      · subst c3
        simp (decide := true) (disch := omega) only [e225_0, e225_1, e225_4, e225_7, e225_8, e225_9, e225_12, e225_13, e225_14, e225_17, e225_20, e225_22, e225_23, e225_25, e225_28, e225_29, e225_30, e225_31, e225_34, e225_35, e225_36, e225_39, bi_s, tyX, rl1, rl2, rl4, ↓reduceIte, Option.bind_some, true_and, and_true, false_and, and_false, true_or, or_true, false_or, or_false, if_same0, ite_eq0, ite_eq0', ite_eq1, ite_eq1', or_em, or_em', ite_not, lcmp0, lcmpL, lcmpG, nI_cl_b, eb_in_b, nI_1, nI_pred, Int32.reduceToNatClampNeg, eb_u_ap, Prod.mk.injEq, not_true_eq_false, not_false_eq_true, tyM, rl21, rl25, sp_rg, sp_iI, sp_iG, sp_iS, m_isYears, c1, e1, a1]
        exact ⟨nc1, ns1, I2, J1, some t, mk, rfl, fm_t e2 a2 e4 e5⟩
      · rw [if_pos (c2.resolve_left c3)] at hG
        simp (decide := true) (disch := omega) only [e225_0, e225_1, e225_4, e225_7, e225_8, e225_9, e225_12, e225_13, e225_14, e225_17, e225_20, e225_22, e225_23, e225_25, e225_28, e225_29, e225_30, e225_31, e225_34, e225_35, e225_36, e225_39, bi_s, tyX, rl1, rl2, rl4, ↓reduceIte, Option.bind_some, true_and, and_true, false_and, and_false, true_or, or_true, false_or, or_false, if_same0, ite_eq0, ite_eq0', ite_eq1, ite_eq1', or_em, or_em', ite_not, lcmp0, lcmpL, lcmpG, nI_cl_b, eb_in_b, nI_1, nI_pred, Int32.reduceToNatClampNeg, eb_u_ap, Prod.mk.injEq, not_true_eq_false, not_false_eq_true, tyM, rl21, rl25, sp_rg, sp_iI, sp_iG, sp_iS, m_isYears, c1, c3, hG, e1, a1]
        exact ⟨nc1, ns1, I2, J1, some t, mk, rfl, fm_t e2 a2 e4 e5⟩
    · rw [if_neg (fun q => c2 (Or.inr q))] at hG
      rw [if_neg (fun q => c2 q.2)]
      have c3 : ¬ a = -1 := fun q => c2 (Or.inl q)
      simp (decide := true) (disch := omega) only [e225_0, e225_1, e225_4, e225_7, e225_8, e225_9, e225_12, e225_13, e225_14, e225_17, e225_20, e225_22, e225_23, e225_25, e225_28, e225_29, e225_30, e225_31, e225_34, e225_35, e225_36, e225_39, bi_s, tyX, rl1, rl2, rl4, ↓reduceIte, Option.bind_some, true_and, and_true, false_and, and_false, true_or, or_true, false_or, or_false, if_same0, ite_eq0, ite_eq0', ite_eq1, ite_eq1', or_em, or_em', ite_not, lcmp0, lcmpL, lcmpG, nI_cl_b, eb_in_b, nI_1, nI_pred, Int32.reduceToNatClampNeg, eb_u_ap, Prod.mk.injEq, not_true_eq_false, not_false_eq_true, tyM, rl21, rl25, sp_rg, sp_iI, sp_iG, sp_iS, m_isYears, c1, c3, hG, m_refuse0]
      exact ⟨nc, ns, _, J, mt, mk, rfl, fm_rf h (by omega)⟩
  · rw [if_neg (fun q => c1 q.1)]
    simp (decide := true) (disch := omega) only [e225_0, e225_1, e225_4, e225_7, e225_8, e225_9, e225_12, e225_13, e225_14, e225_17, e225_20, e225_22, e225_23, e225_25, e225_28, e225_29, e225_30, e225_31, e225_34, e225_35, e225_36, e225_39, bi_s, tyX, rl1, rl2, rl4, ↓reduceIte, Option.bind_some, true_and, and_true, false_and, and_false, true_or, or_true, false_or, or_false, if_same0, ite_eq0, ite_eq0', ite_eq1, ite_eq1', or_em, or_em', ite_not, lcmp0, lcmpL, lcmpG, nI_cl_b, eb_in_b, nI_1, nI_pred, Int32.reduceToNatClampNeg, eb_u_ap, Prod.mk.injEq, not_true_eq_false, not_false_eq_true, tyM, rl21, rl25, sp_rg, sp_iI, sp_iG, sp_iS, m_isYears, c1, m_refuse0]
    exact ⟨nc, ns, _, J, mt, mk, rfl, fm_rf h (by omega)⟩
theorem mf_called (ok : sp_St S) {n a b : Int32} : eb_FM L (d + 8) 236 [zi n, zi a, zi b] S (sf_called S n a b).2 (zi (sf_called S n a b).1) := by
  intro nc ns I J C mt mk h
  rw [h236 rfl]
  unfold sf_called
  have hI := m_isInn (L := L) (d := d + 5) (nc := nc) (ns := ns) (J := J) (C := C) (mt := mt) (mk := mk) (x := a) h.1 ok.1
  have hn1 := ok.1.1
  by_cases c1 : sp_rg n 1 12
  · by_cases c2 : sp_iI S.1 a
    · rw [if_pos c2] at hI
      by_cases c4 : sp_rg b 0 100
      · rw [if_pos ⟨c1, c2, c4⟩]
        obtain ⟨m, hm, rfl⟩ := rg_12 c1
        obtain ⟨i, hi, rfl⟩ := rg_nat (by omega) c2
        obtain ⟨t, nc1, ns1, I1, J1, e1, e2, e3, e4, e5⟩ := m_fresh (L := L) (d := d + 3) (C := C) h ok
        obtain ⟨I2, a1, a2, a3⟩ := m_joyIn0 (L := L) (d := d) (nc := nc1) (ns := ns1) (J := J1) (C := C) (mt := some t) (mk := mk) e3 ok.1 (m := m) (by omega)
        have f1 := fm_t e2 a2 e4 e5
        obtain ⟨t2, nc2, ns2, I3, J3, b1, b2, b3, b4, b5⟩ := m_fresh (L := L) (d := d + 3) (C := C) f1.1 ok
        have r1 := RM_setI (i := i) (f := 4) (v := b) b3
        have ok1 : sp_ok (sp_setI S.1 i 4 b) := ok_setI ok.1 (fun q => okI_4 q ⟨Int32.le_trans (by decide) c4.1, c4.2⟩)
        obtain ⟨I4, g1, g2, g3⟩ := m_joyIn0 (L := L) (d := d) (nc := nc2) (ns := ns2) (J := J3) (C := C) (mt := some t2) (mk := mk) r1.1 ok1 (m := m) (by omega)
        simp (decide := true) (disch := omega) only [e236_0, e236_1, e236_4, e236_7, e236_8, e236_9, e236_12, e236_15, e236_16, e236_17, e236_18, e236_21, e236_24, e236_27, e236_29, e236_30, e236_32, e236_35, e236_36, e236_37, e236_38, e236_41, e236_42, e236_43, e236_46, e236_48, e236_49, e236_52, e236_54, e236_56, e236_59, e236_60, e236_61, e236_62, e236_63, e236_64, e236_66, e236_67, e236_68, e236_71, e236_73, e236_74, bi_s, tyX, rl1, rl2, rl4, ↓reduceIte, Option.bind_some, true_and, and_true, false_and, and_false, true_or, or_true, false_or, or_false, if_same0, ite_eq0, ite_eq0', ite_eq1, ite_eq1', or_em, or_em', ite_not, lcmp0, lcmpL, lcmpG, nI_cl_b, eb_in_b, nI_1, nI_pred, Int32.reduceToNatClampNeg, eb_u_ap, Prod.mk.injEq, not_true_eq_false, not_false_eq_true, tyM, rl21, rl25, sp_rg, sp_iI, sp_iG, sp_iS, m_isYears, c1, hI, m_ins, c4, e1, a1, b1, g1, tn]
        exact ⟨nc2, ns2, I4, J3, some t2, mk, rfl, fm_t b2 (eb_gv_tr r1.2 g2) (eb_fM_tr f1.2.1 b4) (eb_fN_tr f1.2.2 b5)⟩
      · rw [if_neg (fun q => c4 q.2.2)]
        simp (decide := true) (disch := omega) only [e236_0, e236_1, e236_4, e236_7, e236_8, e236_9, e236_12, e236_15, e236_16, e236_17, e236_18, e236_21, e236_24, e236_27, e236_29, e236_30, e236_32, e236_35, e236_36, e236_37, e236_38, e236_41, e236_42, e236_43, e236_46, e236_48, e236_49, e236_52, e236_54, e236_56, e236_59, e236_60, e236_61, e236_62, e236_63, e236_64, e236_66, e236_67, e236_68, e236_71, e236_73, e236_74, bi_s, tyX, rl1, rl2, rl4, ↓reduceIte, Option.bind_some, true_and, and_true, false_and, and_false, true_or, or_true, false_or, or_false, if_same0, ite_eq0, ite_eq0', ite_eq1, ite_eq1', or_em, or_em', ite_not, lcmp0, lcmpL, lcmpG, nI_cl_b, eb_in_b, nI_1, nI_pred, Int32.reduceToNatClampNeg, eb_u_ap, Prod.mk.injEq, not_true_eq_false, not_false_eq_true, tyM, rl21, rl25, sp_rg, sp_iI, sp_iG, sp_iS, m_isYears, c1, hI, m_ins, c4, m_refuse0]
        exact ⟨nc, ns, _, J, mt, mk, rfl, fm_rf h (by omega)⟩
    · rw [if_neg c2] at hI
      rw [if_neg (fun q => c2 q.2.1)]
      simp (decide := true) (disch := omega) only [e236_0, e236_1, e236_4, e236_7, e236_8, e236_9, e236_12, e236_15, e236_16, e236_17, e236_18, e236_21, e236_24, e236_27, e236_29, e236_30, e236_32, e236_35, e236_36, e236_37, e236_38, e236_41, e236_42, e236_43, e236_46, e236_48, e236_49, e236_52, e236_54, e236_56, e236_59, e236_60, e236_61, e236_62, e236_63, e236_64, e236_66, e236_67, e236_68, e236_71, e236_73, e236_74, bi_s, tyX, rl1, rl2, rl4, ↓reduceIte, Option.bind_some, true_and, and_true, false_and, and_false, true_or, or_true, false_or, or_false, if_same0, ite_eq0, ite_eq0', ite_eq1, ite_eq1', or_em, or_em', ite_not, lcmp0, lcmpL, lcmpG, nI_cl_b, eb_in_b, nI_1, nI_pred, Int32.reduceToNatClampNeg, eb_u_ap, Prod.mk.injEq, not_true_eq_false, not_false_eq_true, tyM, rl21, rl25, sp_rg, sp_iI, sp_iG, sp_iS, m_isYears, c1, hI, m_refuse0]
      exact ⟨nc, ns, _, J, mt, mk, rfl, fm_rf h (by omega)⟩
  · rw [if_neg (fun q => c1 q.1)]
    simp (decide := true) (disch := omega) only [e236_0, e236_1, e236_4, e236_7, e236_8, e236_9, e236_12, e236_15, e236_16, e236_17, e236_18, e236_21, e236_24, e236_27, e236_29, e236_30, e236_32, e236_35, e236_36, e236_37, e236_38, e236_41, e236_42, e236_43, e236_46, e236_48, e236_49, e236_52, e236_54, e236_56, e236_59, e236_60, e236_61, e236_62, e236_63, e236_64, e236_66, e236_67, e236_68, e236_71, e236_73, e236_74, bi_s, tyX, rl1, rl2, rl4, ↓reduceIte, Option.bind_some, true_and, and_true, false_and, and_false, true_or, or_true, false_or, or_false, if_same0, ite_eq0, ite_eq0', ite_eq1, ite_eq1', or_em, or_em', ite_not, lcmp0, lcmpL, lcmpG, nI_cl_b, eb_in_b, nI_1, nI_pred, Int32.reduceToNatClampNeg, eb_u_ap, Prod.mk.injEq, not_true_eq_false, not_false_eq_true, tyM, rl21, rl25, sp_rg, sp_iI, sp_iG, sp_iS, m_isYears, c1, m_refuse0]
    exact ⟨nc, ns, _, J, mt, mk, rfl, fm_rf h (by omega)⟩
theorem mf_kept (ok : sp_St S) {n a : Int32} : eb_FM L (d + 8) 235 [zi n, zi a] S (sf_kept S n a).2 (zi (sf_kept S n a).1) := by
  intro nc ns I J C mt mk h
  rw [h235 rfl]
  unfold sf_kept
  have hI := m_isInn (L := L) (d := d + 5) (nc := nc) (ns := ns) (J := J) (C := C) (mt := mt) (mk := mk) (x := a) h.1 ok.1
  have hn1 := ok.1.1
  by_cases c1 : sp_rg n 1 12
  · by_cases c2 : sp_iI S.1 a
    · rw [if_pos c2] at hI
      rw [if_neg (fun q => q ⟨c1, c2⟩)]
      obtain ⟨m, hm, rfl⟩ := rg_12 c1
      obtain ⟨i, hi, rfl⟩ := rg_nat (by omega) c2
      rw [show tn (nI i) = i from nI_cl_b (by omega), show tn (nI m) = m from nI_cl_b (by omega)]
      have k4 := h.1.2.1 i hi 4 (by omega)
      by_cases c4 : S.1.2.2.2.1 i 4 = -1
      · rw [if_pos c4]
        simp (decide := true) (disch := omega) only [e235_0, e235_1, e235_4, e235_7, e235_8, e235_9, e235_12, e235_15, e235_17, e235_18, e235_20, e235_23, e235_24, e235_25, e235_26, e235_29, e235_30, e235_31, e235_32, e235_33, e235_34, e235_37, e235_39, e235_40, e235_42, e235_45, e235_46, e235_47, e235_48, e235_51, e235_52, e235_55, e235_56, e235_57, e235_60, e235_62, e235_64, e235_67, e235_68, e235_69, e235_70, e235_71, e235_72, e235_74, e235_75, e235_78, e235_79, e235_80, bi_s, tyX, rl1, rl2, rl4, ↓reduceIte, Option.bind_some, true_and, and_true, false_and, and_false, true_or, or_true, false_or, or_false, if_same0, ite_eq0, ite_eq0', ite_eq1, ite_eq1', or_em, or_em', ite_not, lcmp0, lcmpL, lcmpG, nI_cl_b, eb_in_b, nI_1, nI_pred, Int32.reduceToNatClampNeg, eb_u_ap, Prod.mk.injEq, not_true_eq_false, not_false_eq_true, tyM, rl21, rl25, sp_rg, sp_iI, sp_iG, sp_iS, m_isYears, c1, hI, k4, c4, m_refuse3]
        exact ⟨nc, ns, _, J, mt, mk, rfl, fm_rf h (by omega)⟩
      · rw [if_neg c4]
        obtain ⟨t, nc1, ns1, I1, J1, e1, e2, e3, e4, e5⟩ := m_fresh (L := L) (d := d + 3) (C := C) h ok
        obtain ⟨I2, a1, a2⟩ := m_ownJoy (L := L) (d := d) (nc := nc1) (ns := ns1) (J := J1) (C := C) (mt := some t) (mk := mk) e3 ok.1 (m := m) (by omega)
        have f1 := fm_t e2 a2 e4 e5
        obtain ⟨t2, nc2, ns2, I3, J3, b1, b2, b3, b4, b5⟩ := m_fresh (L := L) (d := d + 3) (C := C) f1.1 ok
        have r1 := RM_setI (i := i) (f := 4) (v := -1) b3
        have ok1 : sp_ok (sp_setI S.1 i 4 (-1)) := ok_setI ok.1 (fun q => okI_4 q ⟨by decide, by decide⟩)
        obtain ⟨I4, g1, g2⟩ := m_ownJoy (L := L) (d := d) (nc := nc2) (ns := ns2) (J := J3) (C := C) (mt := some t2) (mk := mk) r1.1 ok1 (m := m) (by omega)
        simp (decide := true) (disch := omega) only [e235_0, e235_1, e235_4, e235_7, e235_8, e235_9, e235_12, e235_15, e235_17, e235_18, e235_20, e235_23, e235_24, e235_25, e235_26, e235_29, e235_30, e235_31, e235_32, e235_33, e235_34, e235_37, e235_39, e235_40, e235_42, e235_45, e235_46, e235_47, e235_48, e235_51, e235_52, e235_55, e235_56, e235_57, e235_60, e235_62, e235_64, e235_67, e235_68, e235_69, e235_70, e235_71, e235_72, e235_74, e235_75, e235_78, e235_79, e235_80, bi_s, tyX, rl1, rl2, rl4, ↓reduceIte, Option.bind_some, true_and, and_true, false_and, and_false, true_or, or_true, false_or, or_false, if_same0, ite_eq0, ite_eq0', ite_eq1, ite_eq1', or_em, or_em', ite_not, lcmp0, lcmpL, lcmpG, nI_cl_b, eb_in_b, nI_1, nI_pred, Int32.reduceToNatClampNeg, eb_u_ap, Prod.mk.injEq, not_true_eq_false, not_false_eq_true, tyM, rl21, rl25, sp_rg, sp_iI, sp_iG, sp_iS, m_isYears, c1, hI, k4, c4, e1, a1, b1, g1]
        exact ⟨nc2, ns2, I4, J3, some t2, mk, rfl, fm_t b2 (eb_gv_tr r1.2 g2) (eb_fM_tr f1.2.1 b4) (eb_fN_tr f1.2.2 b5)⟩
    · rw [if_neg c2] at hI
      rw [if_pos (fun q => c2 q.2)]
      simp (decide := true) (disch := omega) only [e235_0, e235_1, e235_4, e235_7, e235_8, e235_9, e235_12, e235_15, e235_17, e235_18, e235_20, e235_23, e235_24, e235_25, e235_26, e235_29, e235_30, e235_31, e235_32, e235_33, e235_34, e235_37, e235_39, e235_40, e235_42, e235_45, e235_46, e235_47, e235_48, e235_51, e235_52, e235_55, e235_56, e235_57, e235_60, e235_62, e235_64, e235_67, e235_68, e235_69, e235_70, e235_71, e235_72, e235_74, e235_75, e235_78, e235_79, e235_80, bi_s, tyX, rl1, rl2, rl4, ↓reduceIte, Option.bind_some, true_and, and_true, false_and, and_false, true_or, or_true, false_or, or_false, if_same0, ite_eq0, ite_eq0', ite_eq1, ite_eq1', or_em, or_em', ite_not, lcmp0, lcmpL, lcmpG, nI_cl_b, eb_in_b, nI_1, nI_pred, Int32.reduceToNatClampNeg, eb_u_ap, Prod.mk.injEq, not_true_eq_false, not_false_eq_true, tyM, rl21, rl25, sp_rg, sp_iI, sp_iG, sp_iS, m_isYears, c1, hI, m_refuse0]
      exact ⟨nc, ns, _, J, mt, mk, rfl, fm_rf h (by omega)⟩
  · rw [if_pos (fun q => c1 q.1)]
    simp (decide := true) (disch := omega) only [e235_0, e235_1, e235_4, e235_7, e235_8, e235_9, e235_12, e235_15, e235_17, e235_18, e235_20, e235_23, e235_24, e235_25, e235_26, e235_29, e235_30, e235_31, e235_32, e235_33, e235_34, e235_37, e235_39, e235_40, e235_42, e235_45, e235_46, e235_47, e235_48, e235_51, e235_52, e235_55, e235_56, e235_57, e235_60, e235_62, e235_64, e235_67, e235_68, e235_69, e235_70, e235_71, e235_72, e235_74, e235_75, e235_78, e235_79, e235_80, bi_s, tyX, rl1, rl2, rl4, ↓reduceIte, Option.bind_some, true_and, and_true, false_and, and_false, true_or, or_true, false_or, or_false, if_same0, ite_eq0, ite_eq0', ite_eq1, ite_eq1', or_em, or_em', ite_not, lcmp0, lcmpL, lcmpG, nI_cl_b, eb_in_b, nI_1, nI_pred, Int32.reduceToNatClampNeg, eb_u_ap, Prod.mk.injEq, not_true_eq_false, not_false_eq_true, tyM, rl21, rl25, sp_rg, sp_iI, sp_iG, sp_iS, m_isYears, c1, m_refuse0]
    exact ⟨nc, ns, _, J, mt, mk, rfl, fm_rf h (by omega)⟩
theorem mf_year (ok : sp_St S) : eb_FM L (d + 8) 241 [] S (sf_year S).2 (zi (sf_year S).1) := by
  intro nc ns I J C mt mk h
  rw [h241 rfl]
  unfold sf_year
  obtain ⟨I2, a1, a2, a3⟩ := m_joyIn0 (L := L) (d := d) (nc := nc) (ns := ns) (J := J) (C := C) (mt := mt) (mk := mk) h.1 ok.1 (m := 1) (by omega)
  rw [show nI 1 = 1 from rfl] at a1
  simp (decide := true) (disch := omega) only [e241_0, e241_1, e241_2, e241_3, e241_6, bi_s, tyX, rl1, rl2, rl4, ↓reduceIte, Option.bind_some, true_and, and_true, false_and, and_false, true_or, or_true, false_or, or_false, if_same0, ite_eq0, ite_eq0', ite_eq1, ite_eq1', or_em, or_em', ite_not, lcmp0, lcmpL, lcmpG, nI_cl_b, eb_in_b, nI_1, nI_pred, Int32.reduceToNatClampNeg, eb_u_ap, Prod.mk.injEq, not_true_eq_false, not_false_eq_true, tyM, rl21, rl25, sp_rg, sp_iI, sp_iG, sp_iS, a1]
  exact ⟨nc, ns, I2, J, mt, mk, rfl, fm_w h ⟨a3, a2⟩⟩
theorem mf_goes (ok : sp_St S) {n : Int32} : eb_FM L (d + 8) 242 [zi n] S (sf_goes S n).2 (zi (sf_goes S n).1) := by
  intro nc ns I J C mt mk h
  rw [h242 rfl]
  unfold sf_goes
  by_cases c1 : sp_rg n 1 12
  · rw [if_pos c1]
    obtain ⟨m, hm, rfl⟩ := rg_12 c1
    obtain ⟨I2, a1, a2, a3⟩ := m_joyIn0 (L := L) (d := d) (nc := nc) (ns := ns) (J := J) (C := C) (mt := mt) (mk := mk) h.1 ok.1 (m := m) (by omega)
    rw [show tn (nI m) = m from nI_cl_b (by omega)]
    simp (decide := true) (disch := omega) only [e242_0, e242_1, e242_4, e242_7, e242_8, e242_9, e242_10, e242_13, e242_16, e242_18, e242_19, e242_21, e242_24, e242_25, bi_s, tyX, rl1, rl2, rl4, ↓reduceIte, Option.bind_some, true_and, and_true, false_and, and_false, true_or, or_true, false_or, or_false, if_same0, ite_eq0, ite_eq0', ite_eq1, ite_eq1', or_em, or_em', ite_not, lcmp0, lcmpL, lcmpG, nI_cl_b, eb_in_b, nI_1, nI_pred, Int32.reduceToNatClampNeg, eb_u_ap, Prod.mk.injEq, not_true_eq_false, not_false_eq_true, tyM, rl21, rl25, sp_rg, sp_iI, sp_iG, sp_iS, m_isYears, c1, a1]
    exact ⟨nc, ns, I2, J, mt, mk, rfl, fm_w h ⟨a3, a2⟩⟩
  · rw [if_neg c1]
    simp (decide := true) (disch := omega) only [e242_0, e242_1, e242_4, e242_7, e242_8, e242_9, e242_10, e242_13, e242_16, e242_18, e242_19, e242_21, e242_24, e242_25, bi_s, tyX, rl1, rl2, rl4, ↓reduceIte, Option.bind_some, true_and, and_true, false_and, and_false, true_or, or_true, false_or, or_false, if_same0, ite_eq0, ite_eq0', ite_eq1, ite_eq1', or_em, or_em', ite_not, lcmp0, lcmpL, lcmpG, nI_cl_b, eb_in_b, nI_1, nI_pred, Int32.reduceToNatClampNeg, eb_u_ap, Prod.mk.injEq, not_true_eq_false, not_false_eq_true, tyM, rl21, rl25, sp_rg, sp_iI, sp_iG, sp_iS, m_isYears, c1, m_refuse0]
    exact ⟨nc, ns, _, J, mt, mk, rfl, fm_rf h (by omega)⟩
/-- m years of a model, an inn's takings added up -/
theorem mf_then (ok : sp_St S) {n a b : Int32} : eb_FM L (d + 8) 226 [zi n, zi a, zi b] S (sf_then S n a b).2 (zi (sf_then S n a b).1) := by
  intro nc ns I J C mt mk h
  rw [h226 rfl]
  unfold sf_then
  have hI := m_isInn (L := L) (d := d + 5) (nc := nc) (ns := ns) (J := J) (C := C) (mt := mt) (mk := mk) (x := a) h.1 ok.1
  have hn1 := ok.1.1
  by_cases c1 : sp_rg n 1 12
  · by_cases c2 : sp_iI S.1 a
    · rw [if_pos c2] at hI
      by_cases c4 : sp_rg b 0 2
      · rw [if_pos ⟨c1, c2, c4⟩]
        obtain ⟨m, hm, rfl⟩ := rg_12 c1
        obtain ⟨i, hi, rfl⟩ := rg_nat (by omega) c2
        rw [show tn (nI i) = i from nI_cl_b (by omega), show tn (nI m) = m from nI_cl_b (by omega)]
        obtain ⟨t, nc1, ns1, I1, J1, f1, f2, f3, f4, f5⟩ := m_fresh (L := L) (d := d + 3) (C := C) h ok
        simp (decide := true) (disch := omega) only [e226_0, e226_1, e226_4, e226_7, e226_8, e226_9, e226_12, e226_15, e226_16, e226_17, e226_18, e226_21, e226_24, e226_27, e226_28, e226_30, e226_33, e226_34, e226_35, e226_38, e226_40, e226_41, e226_43, e226_44, bi_s, tyX, rl1, rl2, rl4, ↓reduceIte, Option.bind_some, true_and, and_true, false_and, and_false, true_or, or_true, false_or, or_false, if_same0, ite_eq0, ite_eq0', ite_eq1, ite_eq1', or_em, or_em', ite_not, lcmp0, lcmpL, lcmpG, nI_cl_b, eb_in_b, nI_1, nI_pred, Int32.reduceToNatClampNeg, eb_u_ap, Prod.mk.injEq, not_true_eq_false, not_false_eq_true, tyM, rl21, rl25, sp_rg, sp_iI, sp_iG, sp_iS, m_isYears, c1, hI, m_ins, c4, f1]
        obtain ⟨T, e, e1, e2, e3⟩ := eb_loop (α := Int32 × (eb_A → Nat → Int32)) (n := m) (s0 := (0, I1))
          (F := fun y s => eb_E L (d + 7) 226 46 [some (zr (21, 0, 0)), some (zi (nI m)), some (zi (nI i)), some (zi b), some (zr (21, t, 0)), some (zi s.1), some (zi (nI y))] [] (nc1, ns1, s.2, J1, eb_RL C (some t) mk))
          (P := fun y s => s.1 = (sp_years S.1 y).2.2.1 i ∧ eb_gv t I1 s.2 ∧ eb_RM s.2 t (sp_at S.1 y))
          ⟨rfl, eb_gv_rf, f3⟩ (by
            intro y s hy hP
            obtain ⟨s1, I2⟩ := s
            obtain ⟨h1, h2, h3⟩ := hP
            have h1 : s1 = (sp_years S.1 y).2.2.1 i := h1
            have h3 : eb_RM I2 t (sp_at S.1 y) := h3
            obtain ⟨I3, a1, a2, a3, a6⟩ := m_oneYear (L := L) (d := d + 1) (nc := nc1) (ns := ns1) (J := J1) (C := C) (mt := some t) (mk := mk) h3 ok.1
            have k := a6 i hi
            rw [e226_46]
            simp (decide := true) (disch := omega) only [e226_48, e226_49, e226_52, e226_54, e226_57, e226_59, e226_61, e226_64, e226_65, e226_66, e226_67, e226_69, e226_72, bi_s, tyX, rl1, rl2, rl4, ↓reduceIte, Option.bind_some, true_and, and_true, false_and, and_false, true_or, or_true, false_or, or_false, if_same0, ite_eq0, ite_eq0', ite_eq1, ite_eq1', or_em, or_em', ite_not, lcmp0, lcmpL, lcmpG, nI_cl_b, eb_in_b, nI_1, nI_pred, Int32.reduceToNatClampNeg, eb_u_ap, Prod.mk.injEq, not_true_eq_false, not_false_eq_true, tyM, rl21, rl25, sp_rg, sp_iI, sp_iG, sp_iS, nI_lt_b, hy, a1, k]
            refine ⟨(s1 + (sp_at S.1 y).2.2.2.1 i 3 * (sp_night (sp_at S.1 y)).1 i, I3), rfl, ?_, eb_gv_tr h2 a2, a3⟩
            show s1 + _ = _
            rw [h1]; rfl)
        obtain ⟨s1, I2⟩ := T
        have e1 : s1 = (sp_years S.1 m).2.2.1 i := e1
        have e3 : eb_RM I2 t (sp_at S.1 m) := e3
        simp only [nI_0] at e
        have hi2 : i < (sp_at S.1 m).1 := by rw [(sp_years_n (w := S.1) (m := m)).1]; exact hi
        have k0 := e3.2.1 i hi2 0 (by omega)
        have k3 := e3.2.1 i hi2 3 (by omega)
        rw [e, e226_46]
        by_cases c5 : b = 0
        · subst c5
          simp (decide := true) (disch := omega) only [e226_48, e226_49, e226_52, e226_54, e226_57, e226_59, e226_61, e226_64, e226_65, e226_66, e226_67, e226_69, e226_72, e226_75, e226_76, e226_79, e226_81, e226_84, e226_85, e226_86, e226_87, e226_88, e226_91, e226_92, e226_93, e226_96, e226_98, e226_101, e226_102, e226_103, e226_104, e226_105, e226_108, e226_110, bi_s, tyX, rl1, rl2, rl4, ↓reduceIte, Option.bind_some, true_and, and_true, false_and, and_false, true_or, or_true, false_or, or_false, if_same0, ite_eq0, ite_eq0', ite_eq1, ite_eq1', or_em, or_em', ite_not, lcmp0, lcmpL, lcmpG, nI_cl_b, eb_in_b, nI_1, nI_pred, Int32.reduceToNatClampNeg, eb_u_ap, Prod.mk.injEq, not_true_eq_false, not_false_eq_true, tyM, rl21, rl25, sp_rg, sp_iI, sp_iG, sp_iS, nI_lt_b, Nat.lt_irrefl, k0]
          exact ⟨nc1, ns1, I2, J1, some t, mk, rfl, fm_t f2 e2 f4 f5⟩
        · by_cases c6 : b = 1
          · subst c6
            simp (decide := true) (disch := omega) only [e226_48, e226_49, e226_52, e226_54, e226_57, e226_59, e226_61, e226_64, e226_65, e226_66, e226_67, e226_69, e226_72, e226_75, e226_76, e226_79, e226_81, e226_84, e226_85, e226_86, e226_87, e226_88, e226_91, e226_92, e226_93, e226_96, e226_98, e226_101, e226_102, e226_103, e226_104, e226_105, e226_108, e226_110, bi_s, tyX, rl1, rl2, rl4, ↓reduceIte, Option.bind_some, true_and, and_true, false_and, and_false, true_or, or_true, false_or, or_false, if_same0, ite_eq0, ite_eq0', ite_eq1, ite_eq1', or_em, or_em', ite_not, lcmp0, lcmpL, lcmpG, nI_cl_b, eb_in_b, nI_1, nI_pred, Int32.reduceToNatClampNeg, eb_u_ap, Prod.mk.injEq, not_true_eq_false, not_false_eq_true, tyM, rl21, rl25, sp_rg, sp_iI, sp_iG, sp_iS, nI_lt_b, Nat.lt_irrefl, k3]
            exact ⟨nc1, ns1, I2, J1, some t, mk, rfl, fm_t f2 e2 f4 f5⟩
          · simp (decide := true) (disch := omega) only [e226_48, e226_49, e226_52, e226_54, e226_57, e226_59, e226_61, e226_64, e226_65, e226_66, e226_67, e226_69, e226_72, e226_75, e226_76, e226_79, e226_81, e226_84, e226_85, e226_86, e226_87, e226_88, e226_91, e226_92, e226_93, e226_96, e226_98, e226_101, e226_102, e226_103, e226_104, e226_105, e226_108, e226_110, bi_s, tyX, rl1, rl2, rl4, ↓reduceIte, Option.bind_some, true_and, and_true, false_and, and_false, true_or, or_true, false_or, or_false, if_same0, ite_eq0, ite_eq0', ite_eq1, ite_eq1', or_em, or_em', ite_not, lcmp0, lcmpL, lcmpG, nI_cl_b, eb_in_b, nI_1, nI_pred, Int32.reduceToNatClampNeg, eb_u_ap, Prod.mk.injEq, not_true_eq_false, not_false_eq_true, tyM, rl21, rl25, sp_rg, sp_iI, sp_iG, sp_iS, nI_lt_b, Nat.lt_irrefl, c5, c6]
            exact ⟨nc1, ns1, I2, J1, some t, mk, by rw [e1], fm_t f2 e2 f4 f5⟩
      · rw [if_neg (fun q => c4 q.2.2)]
        simp (decide := true) (disch := omega) only [e226_0, e226_1, e226_4, e226_7, e226_8, e226_9, e226_12, e226_15, e226_16, e226_17, e226_18, e226_21, e226_24, e226_27, e226_28, e226_30, e226_33, e226_34, e226_35, e226_38, e226_40, e226_41, e226_43, e226_44, bi_s, tyX, rl1, rl2, rl4, ↓reduceIte, Option.bind_some, true_and, and_true, false_and, and_false, true_or, or_true, false_or, or_false, if_same0, ite_eq0, ite_eq0', ite_eq1, ite_eq1', or_em, or_em', ite_not, lcmp0, lcmpL, lcmpG, nI_cl_b, eb_in_b, nI_1, nI_pred, Int32.reduceToNatClampNeg, eb_u_ap, Prod.mk.injEq, not_true_eq_false, not_false_eq_true, tyM, rl21, rl25, sp_rg, sp_iI, sp_iG, sp_iS, m_isYears, c1, hI, m_ins, c4, m_refuse0]
        exact ⟨nc, ns, _, J, mt, mk, rfl, fm_rf h (by omega)⟩
    · rw [if_neg c2] at hI
      rw [if_neg (fun q => c2 q.2.1)]
      simp (decide := true) (disch := omega) only [e226_0, e226_1, e226_4, e226_7, e226_8, e226_9, e226_12, e226_15, e226_16, e226_17, e226_18, e226_21, e226_24, e226_27, e226_28, e226_30, e226_33, e226_34, e226_35, e226_38, e226_40, e226_41, e226_43, e226_44, bi_s, tyX, rl1, rl2, rl4, ↓reduceIte, Option.bind_some, true_and, and_true, false_and, and_false, true_or, or_true, false_or, or_false, if_same0, ite_eq0, ite_eq0', ite_eq1, ite_eq1', or_em, or_em', ite_not, lcmp0, lcmpL, lcmpG, nI_cl_b, eb_in_b, nI_1, nI_pred, Int32.reduceToNatClampNeg, eb_u_ap, Prod.mk.injEq, not_true_eq_false, not_false_eq_true, tyM, rl21, rl25, sp_rg, sp_iI, sp_iG, sp_iS, m_isYears, c1, hI, m_refuse0]
      exact ⟨nc, ns, _, J, mt, mk, rfl, fm_rf h (by omega)⟩
  · rw [if_neg (fun q => c1 q.1)]
    simp (decide := true) (disch := omega) only [e226_0, e226_1, e226_4, e226_7, e226_8, e226_9, e226_12, e226_15, e226_16, e226_17, e226_18, e226_21, e226_24, e226_27, e226_28, e226_30, e226_33, e226_34, e226_35, e226_38, e226_40, e226_41, e226_43, e226_44, bi_s, tyX, rl1, rl2, rl4, ↓reduceIte, Option.bind_some, true_and, and_true, false_and, and_false, true_or, or_true, false_or, or_false, if_same0, ite_eq0, ite_eq0', ite_eq1, ite_eq1', or_em, or_em', ite_not, lcmp0, lcmpL, lcmpG, nI_cl_b, eb_in_b, nI_1, nI_pred, Int32.reduceToNatClampNeg, eb_u_ap, Prod.mk.injEq, not_true_eq_false, not_false_eq_true, tyM, rl21, rl25, sp_rg, sp_iI, sp_iG, sp_iS, m_isYears, c1, m_refuse0]
    exact ⟨nc, ns, _, J, mt, mk, rfl, fm_rf h (by omega)⟩
end

/-! the reference's valleys: years in a row, draws, books by the way, copies -/
section
variable {L d nc ns r i g : Nat} {I : eb_A → Nat → Int32} {J : eb_A → Nat → Int64} {C : Nat → Nat → Nat} {mt mk : Option Nat} {M : eb_M} {R : eb_A → Nat → Option eb_A} {w : eb_W} {x : Int32} {N : eb_N} {said : Nat → Int32}
theorem m_joyIn (h : eb_RM I r w) (hw : sp_ok w) {m : Nat} (hm : m ≤ 100000) {gg : Int32} (hg : gg = -1 ∨ ∃ j, j < w.2.1 ∧ gg = nI j) : ∃ I', eb_ev L (d + 7) 224 [zr (21, r, 0), zi (nI m), zi gg] (nc, ns, I, J, eb_RL C mt mk) = some (zi (if gg = -1 then (sp_years w m).1 else (sp_years w m).2.1 (tn gg)), (nc, ns, I', J, eb_RL C mt mk)) ∧ eb_gv r I I' ∧ eb_RM I' r (sp_at w m) := by
  have hg6 := hw.2.1
  rw [h224 rfl]
  simp (decide := true) (disch := omega) only [e224_0, e224_1, e224_2, e224_3, e224_7, e224_8, e224_11, e224_12, e224_15, e224_16, e224_17, e224_18, e224_21, e224_22, e224_25, e224_28, e224_29, e224_32, e224_33, e224_34, e224_35, e224_36, e224_39, e224_42, e224_43, bi_s, tyX, rl1, rl2, rl4, ↓reduceIte, Option.bind_some, true_and, and_true, false_and, and_false, true_or, or_true, false_or, or_false, if_same0, ite_eq0, ite_eq0', ite_eq1, ite_eq1', or_em, or_em', ite_not, lcmp0, lcmpL, lcmpG, nI_cl_b, eb_in_b, nI_1, nI_pred, Int32.reduceToNatClampNeg, eb_u_ap, Prod.mk.injEq, not_true_eq_false, not_false_eq_true, tyM, rl21, rl25, sp_rg, sp_iI, sp_iG, sp_iS]
  obtain ⟨t, e, e1, e2, e3⟩ := eb_loop (α := Int32 × (eb_A → Nat → Int32)) (n := m) (s0 := (0, I))
    (F := fun y s => eb_E L (d + 6) 224 5 [some (zr (21, r, 0)), some (zi (nI m)), some (zi gg), some (zi s.1), some (zi (nI y))] [] (nc, ns, s.2, J, eb_RL C mt mk))
    (P := fun y s => s.1 = (if gg = -1 then (sp_years w y).1 else (sp_years w y).2.1 (tn gg)) ∧ eb_gv r I s.2 ∧ eb_RM s.2 r (sp_at w y))
    ⟨by show (0 : Int32) = if gg = -1 then 0 else 0; split <;> rfl, eb_gv_rf, h⟩ (by
      intro y s hy hP
      obtain ⟨s1, I1⟩ := s
      obtain ⟨h1, h2, h3⟩ := hP
      have h1 : s1 = (if gg = -1 then (sp_years w y).1 else (sp_years w y).2.1 (tn gg)) := h1
      have h3 : eb_RM I1 r (sp_at w y) := h3
      have hnn := sp_years_n (w := w) (m := y)
      obtain ⟨I2, a1, a2, a3, a4, a5, a6⟩ := m_year (L := L) (d := d) (nc := nc) (ns := ns) (J := J) (C := C) (mt := mt) (mk := mk) h3 (sp_ok_at hw y)
      rw [e224_5]
      rcases hg with q | ⟨j, hj, q⟩
      · subst q
        simp (decide := true) (disch := omega) only [e224_0, e224_1, e224_2, e224_3, e224_7, e224_8, e224_11, e224_12, e224_15, e224_16, e224_17, e224_18, e224_21, e224_22, e224_25, e224_28, e224_29, e224_32, e224_33, e224_34, e224_35, e224_36, e224_39, e224_42, e224_43, bi_s, tyX, rl1, rl2, rl4, ↓reduceIte, Option.bind_some, true_and, and_true, false_and, and_false, true_or, or_true, false_or, or_false, if_same0, ite_eq0, ite_eq0', ite_eq1, ite_eq1', or_em, or_em', ite_not, lcmp0, lcmpL, lcmpG, nI_cl_b, eb_in_b, nI_1, nI_pred, Int32.reduceToNatClampNeg, eb_u_ap, Prod.mk.injEq, not_true_eq_false, not_false_eq_true, tyM, rl21, rl25, sp_rg, sp_iI, sp_iG, sp_iS, nI_lt_b, hy, a1, a4]
        refine ⟨(s1 + sp_joyAll (sp_at w y) (sp_night (sp_at w y)), I2), rfl, ?_, eb_gv_tr h2 a2, a3⟩
        show s1 + _ = _
        rw [h1]; rfl
      · subst q
        have hm1 : ¬ nI j = -1 := by rw [nI_m1 (by omega)]; exact fun z => z
        have k := a5 j (by rw [hnn.2]; exact hj)
        simp (decide := true) (disch := omega) only [e224_0, e224_1, e224_2, e224_3, e224_7, e224_8, e224_11, e224_12, e224_15, e224_16, e224_17, e224_18, e224_21, e224_22, e224_25, e224_28, e224_29, e224_32, e224_33, e224_34, e224_35, e224_36, e224_39, e224_42, e224_43, bi_s, tyX, rl1, rl2, rl4, ↓reduceIte, Option.bind_some, true_and, and_true, false_and, and_false, true_or, or_true, false_or, or_false, if_same0, ite_eq0, ite_eq0', ite_eq1, ite_eq1', or_em, or_em', ite_not, lcmp0, lcmpL, lcmpG, nI_cl_b, eb_in_b, nI_1, nI_pred, Int32.reduceToNatClampNeg, eb_u_ap, Prod.mk.injEq, not_true_eq_false, not_false_eq_true, tyM, rl21, rl25, sp_rg, sp_iI, sp_iG, sp_iS, nI_lt_b, hy, a1, hm1, k]
        refine ⟨(s1 + sp_joy (sp_at w y) (sp_night (sp_at w y)) j, I2), rfl, ?_, eb_gv_tr h2 a2, a3⟩
        show s1 + _ = (sp_years w (y + 1)).2.1 j
        rw [if_neg hm1, show tn (nI j) = j from nI_cl_b (by omega)] at h1
        rw [h1]; rfl)
  obtain ⟨s1, I1⟩ := t
  have e1 : s1 = (if gg = -1 then (sp_years w m).1 else (sp_years w m).2.1 (tn gg)) := e1
  simp only [nI_0] at e
  rw [e, e224_5]
  simp (decide := true) (disch := omega) only [e224_0, e224_1, e224_2, e224_3, e224_7, e224_8, e224_11, e224_12, e224_15, e224_16, e224_17, e224_18, e224_21, e224_22, e224_25, e224_28, e224_29, e224_32, e224_33, e224_34, e224_35, e224_36, e224_39, e224_42, e224_43, bi_s, tyX, rl1, rl2, rl4, ↓reduceIte, Option.bind_some, true_and, and_true, false_and, and_false, true_or, or_true, false_or, or_false, if_same0, ite_eq0, ite_eq0', ite_eq1, ite_eq1', or_em, or_em', ite_not, lcmp0, lcmpL, lcmpG, nI_cl_b, eb_in_b, nI_1, nI_pred, Int32.reduceToNatClampNeg, eb_u_ap, Prod.mk.injEq, not_true_eq_false, not_false_eq_true, tyM, rl21, rl25, sp_rg, sp_iI, sp_iG, sp_iS, nI_lt_b, Nat.lt_irrefl]
  exact ⟨I1, by rw [e1], e2, e3⟩
theorem m_joyIn0 (h : eb_RM I r w) (hw : sp_ok w) {m : Nat} (hm : m ≤ 100000) : ∃ I', eb_ev L (d + 7) 224 [zr (21, r, 0), zi (nI m), zi (-1)] (nc, ns, I, J, eb_RL C mt mk) = some (zi (sp_years w m).1, (nc, ns, I', J, eb_RL C mt mk)) ∧ eb_gv r I I' ∧ eb_RM I' r (sp_at w m) := m_joyIn (gg := -1) h hw hm (Or.inl rfl)
theorem sp_sum_add {f g : Nat → Int32} : ∀ {n : Nat}, sp_sum f n + sp_sum g n = sp_sum (fun j => f j + g j) n := by
  intro n
  induction n with
  | zero => rfl
  | succ n ih =>
    show sp_sum f n + f n + (sp_sum g n + g n) = sp_sum (fun j => f j + g j) n + (f n + g n)
    rw [← ih, Int32.add_assoc, Int32.add_assoc, ← Int32.add_assoc (f n), Int32.add_comm (f n) (sp_sum g n), Int32.add_assoc (sp_sum g n)]
theorem sp_own_s {m : Nat} : sp_own w (m + 1) = sp_own w m + sp_sum (fun j => if w.2.2.2.2 j 0 = 3 then sp_joy (sp_at w m) (sp_night (sp_at w m)) j else 0) w.2.1 := by
  unfold sp_own
  rw [sp_sum_add]
  refine sp_sum_congr fun j _ => ?_
  by_cases q : w.2.2.2.2 j 0 = 3
  · rw [if_pos q, if_pos q, if_pos q]; rfl
  · rw [if_neg q, if_neg q, if_neg q]; rfl
theorem sp_at_g : ∀ m, (sp_at w m).2.2.2.2 = w.2.2.2.2 := by
  intro m
  induction m with
  | zero => rfl
  | succ m ih => exact ih
theorem m_ownJoy (h : eb_RM I r w) (hw : sp_ok w) {m : Nat} (hm : m ≤ 100000) : ∃ I', eb_ev L (d + 7) 234 [zr (21, r, 0), zi (nI m)] (nc, ns, I, J, eb_RL C mt mk) = some (zi (sp_own w m), (nc, ns, I', J, eb_RL C mt mk)) ∧ eb_gv r I I' := by
  have hg6 := hw.2.1
  rw [h234 rfl]
  simp (decide := true) (disch := omega) only [e234_0, e234_1, e234_2, e234_3, e234_5, e234_6, e234_9, e234_10, e234_13, e234_14, e234_18, e234_19, e234_22, e234_25, e234_26, e234_27, e234_30, e234_32, e234_33, e234_34, e234_35, e234_36, e234_39, e234_40, e234_43, e234_45, e234_46, e234_49, e234_50, e234_51, e234_52, e234_55, e234_58, e234_61, e234_64, e234_65, bi_s, tyX, rl1, rl2, rl4, ↓reduceIte, Option.bind_some, true_and, and_true, false_and, and_false, true_or, or_true, false_or, or_false, if_same0, ite_eq0, ite_eq0', ite_eq1, ite_eq1', or_em, or_em', ite_not, lcmp0, lcmpL, lcmpG, nI_cl_b, eb_in_b, nI_1, nI_pred, Int32.reduceToNatClampNeg, eb_u_ap, Prod.mk.injEq, not_true_eq_false, not_false_eq_true, tyM, rl21, rl25, sp_rg, sp_iI, sp_iG, sp_iS]
  obtain ⟨t, e, e1, e2, e3⟩ := eb_loop (α := Int32 × Option eb_V × (eb_A → Nat → Int32)) (n := m) (s0 := (0, none, I))
    (F := fun y s => eb_E L (d + 6) 234 4 [some (zr (21, r, 0)), some (zi (nI m)), some (zi s.1), some (zi (nI y)), s.2.1] [] (nc, ns, s.2.2, J, eb_RL C mt mk))
    (P := fun y s => s.1 = sp_own w y ∧ eb_gv r I s.2.2 ∧ eb_RM s.2.2 r (sp_at w y))
    ⟨by
      show (0 : Int32) = sp_own w 0
      have : sp_own w 0 = sp_sum (fun _ => 0) w.2.1 := sp_sum_congr (fun j _ => by show (if _ then (0 : Int32) else 0) = 0; split <;> rfl)
      rw [this, sp_sum_0], eb_gv_rf, h⟩ (by
      intro y s hy hP
      obtain ⟨s1, o, I1⟩ := s
      obtain ⟨h1, h2, h3⟩ := hP
      have h1 : s1 = sp_own w y := h1
      have h3 : eb_RM I1 r (sp_at w y) := h3
      have hnn := sp_years_n (w := w) (m := y)
      obtain ⟨I2, a1, a2, a3, a4, a5, a6⟩ := m_year (L := L) (d := d) (nc := nc) (ns := ns) (J := J) (C := C) (mt := mt) (mk := mk) h3 (sp_ok_at hw y)
      rw [e234_4]
      simp (decide := true) (disch := omega) only [e234_5, e234_6, e234_9, e234_10, e234_13, e234_14, bi_s, tyX, rl1, rl2, rl4, ↓reduceIte, Option.bind_some, true_and, and_true, false_and, and_false, true_or, or_true, false_or, or_false, if_same0, ite_eq0, ite_eq0', ite_eq1, ite_eq1', or_em, or_em', ite_not, lcmp0, lcmpL, lcmpG, nI_cl_b, eb_in_b, nI_1, nI_pred, Int32.reduceToNatClampNeg, eb_u_ap, Prod.mk.injEq, not_true_eq_false, not_false_eq_true, tyM, rl21, rl25, sp_rg, sp_iI, sp_iG, sp_iS, nI_lt_b, hy, a1]
      have g11 : I2 (21, r, 0) 11 = nI w.2.1 := by rw [a3.1.2.1]; exact congrArg nI hnn.2
      have e := eb_loopA (n := w.2.1) (f := fun j => s1 + sp_sum (fun j => if w.2.2.2.2 j 0 = 3 then sp_joy (sp_at w y) (sp_night (sp_at w y)) j else 0) j)
        (F := fun j v => eb_E L (d + 6) 234 16 [some (zr (21, r, 0)), some (zi (nI m)), some (zi v), some (zi (nI y)), some (zi (nI j))] [] (nc, ns, I2, J, eb_RL C mt mk)) (by
          intro j hj
          have k := a5 j (by rw [hnn.2]; exact hj)
          have k0 : I2 (34, r, j) 0 = w.2.2.2.2 j 0 := by
            rw [a3.2.2 j (by show j < (sp_at w y).2.1; rw [hnn.2]; exact hj) 0 (by omega)]
            exact congrFun (congrFun (sp_at_g y) j) 0
          rw [e234_16]
          by_cases c : w.2.2.2.2 j 0 = 3
          · simp (decide := true) (disch := omega) only [e234_18, e234_19, e234_22, e234_25, e234_26, e234_27, e234_30, e234_32, e234_33, e234_34, e234_35, e234_36, e234_39, e234_40, e234_43, e234_45, e234_46, e234_49, e234_50, e234_51, e234_52, e234_55, bi_s, tyX, rl1, rl2, rl4, ↓reduceIte, Option.bind_some, true_and, and_true, false_and, and_false, true_or, or_true, false_or, or_false, if_same0, ite_eq0, ite_eq0', ite_eq1, ite_eq1', or_em, or_em', ite_not, lcmp0, lcmpL, lcmpG, nI_cl_b, eb_in_b, nI_1, nI_pred, Int32.reduceToNatClampNeg, eb_u_ap, Prod.mk.injEq, not_true_eq_false, not_false_eq_true, tyM, rl21, rl25, sp_rg, sp_iI, sp_iG, sp_iS, g11, nI_lt_b, hj, k0, c, k, sp_sum, Int32.add_assoc]
          · simp (decide := true) (disch := omega) only [e234_18, e234_19, e234_22, e234_25, e234_26, e234_27, e234_30, e234_32, e234_33, e234_34, e234_35, e234_36, e234_39, e234_40, e234_43, e234_45, e234_46, e234_49, e234_50, e234_51, e234_52, e234_55, bi_s, tyX, rl1, rl2, rl4, ↓reduceIte, Option.bind_some, true_and, and_true, false_and, and_false, true_or, or_true, false_or, or_false, if_same0, ite_eq0, ite_eq0', ite_eq1, ite_eq1', or_em, or_em', ite_not, lcmp0, lcmpL, lcmpG, nI_cl_b, eb_in_b, nI_1, nI_pred, Int32.reduceToNatClampNeg, eb_u_ap, Prod.mk.injEq, not_true_eq_false, not_false_eq_true, tyM, rl21, rl25, sp_rg, sp_iI, sp_iG, sp_iS, g11, nI_lt_b, hj, k0, c, sp_sum, Int32.add_assoc])
      simp only [nI_0] at e
      rw [show s1 + sp_sum (fun j => if w.2.2.2.2 j 0 = 3 then sp_joy (sp_at w y) (sp_night (sp_at w y)) j else 0) 0 = s1 from Int32.add_zero _] at e
      rw [e, e234_16]
      simp (decide := true) (disch := omega) only [e234_18, e234_19, e234_22, e234_25, e234_26, e234_27, e234_30, e234_32, e234_33, e234_34, e234_35, e234_36, e234_39, e234_40, e234_43, e234_45, e234_46, e234_49, e234_50, e234_51, e234_52, e234_55, e234_58, e234_61, bi_s, tyX, rl1, rl2, rl4, ↓reduceIte, Option.bind_some, true_and, and_true, false_and, and_false, true_or, or_true, false_or, or_false, if_same0, ite_eq0, ite_eq0', ite_eq1, ite_eq1', or_em, or_em', ite_not, lcmp0, lcmpL, lcmpG, nI_cl_b, eb_in_b, nI_1, nI_pred, Int32.reduceToNatClampNeg, eb_u_ap, Prod.mk.injEq, not_true_eq_false, not_false_eq_true, tyM, rl21, rl25, sp_rg, sp_iI, sp_iG, sp_iS, g11, nI_lt_b, Nat.lt_irrefl]
      refine ⟨(_, _, I2), rfl, ?_, eb_gv_tr h2 a2, a3⟩
      show s1 + _ = _
      rw [sp_own_s, h1])
  obtain ⟨s1, o, I1⟩ := t
  have e1 : s1 = sp_own w m := e1
  simp only [nI_0] at e
  rw [e, e234_4]
  simp (decide := true) (disch := omega) only [e234_0, e234_1, e234_2, e234_3, e234_5, e234_6, e234_9, e234_10, e234_13, e234_14, e234_18, e234_19, e234_22, e234_25, e234_26, e234_27, e234_30, e234_32, e234_33, e234_34, e234_35, e234_36, e234_39, e234_40, e234_43, e234_45, e234_46, e234_49, e234_50, e234_51, e234_52, e234_55, e234_58, e234_61, e234_64, e234_65, bi_s, tyX, rl1, rl2, rl4, ↓reduceIte, Option.bind_some, true_and, and_true, false_and, and_false, true_or, or_true, false_or, or_false, if_same0, ite_eq0, ite_eq0', ite_eq1, ite_eq1', or_em, or_em', ite_not, lcmp0, lcmpL, lcmpG, nI_cl_b, eb_in_b, nI_1, nI_pred, Int32.reduceToNatClampNeg, eb_u_ap, Prod.mk.injEq, not_true_eq_false, not_false_eq_true, tyM, rl21, rl25, sp_rg, sp_iI, sp_iG, sp_iS, nI_lt_b, Nat.lt_irrefl]
  exact ⟨I1, by rw [e1], e2⟩
theorem m_draw {m : Nat} (hm : 0 < m) (hm2 : m ≤ 100000) : eb_ev L (d + 1) 243 [zr (21, r, 0), zi (nI m)] (nc, ns, I, J, R) = some (zi (nI (sp_u16 (sp_nx (I (21, r, 0) 15)) % m)), (nc, ns, eb_u I (21, r, 0) 15 (sp_nx (I (21, r, 0) 15)), J, R)) := by
  rw [h243 rfl]
  have h2 : ¬ nI m = 0 := nI_ne0 hm (by omega)
  have h3 := sp_u16_lt (sp_nx (I (21, r, 0) 15))
  simp (decide := true) (disch := omega) only [e243_0, e243_1, e243_2, e243_5, e243_8, e243_9, e243_12, e243_13, e243_16, e243_17, e243_20, e243_22, e243_23, e243_24, e243_25, bi_s, tyX, rl1, rl2, rl4, ↓reduceIte, Option.bind_some, true_and, and_true, false_and, and_false, true_or, or_true, false_or, or_false, if_same0, ite_eq0, ite_eq0', ite_eq1, ite_eq1', or_em, or_em', ite_not, lcmp0, lcmpL, lcmpG, nI_cl_b, eb_in_b, nI_1, nI_pred, Int32.reduceToNatClampNeg, eb_u_ap, Prod.mk.injEq, not_true_eq_false, not_false_eq_true, tyM, rl21, rl25, sp_rg, sp_iI, sp_iG, sp_iS, h2]
  rw [show I (21, r, 0) 15 * 1103515245 + 12345 = sp_nx (I (21, r, 0) 15) from rfl, eb_u16, pk_rem (by omega) hm (by omega)]
theorem m_over {a b : eb_A} {n : Nat} (ha : eb_ty L a.1 = (10, n)) (hb : eb_ty L b.1 = (10, n)) (hab : ¬ a = b) (hn : n ≤ 1000) : ∃ I', eb_ev L (d + 1) 247 [zr a, zr b] (nc, ns, I, J, R) = some (zn, (nc, ns, I', J, R)) ∧ (∀ l, l < n → I' b l = I a l) ∧ ∀ c l, ¬ c = b → I' c l = I c l := by
  rw [h247]
  simp (decide := true) (disch := omega) only [e247_0, e247_1, e247_3, e247_4, e247_5, e247_8, e247_9, e247_10, e247_11, e247_12, e247_13, e247_14, e247_17, e247_20, bi_s, tyX, rl1, rl2, rl4, ↓reduceIte, Option.bind_some, true_and, and_true, false_and, and_false, true_or, or_true, false_or, or_false, if_same0, ite_eq0, ite_eq0', ite_eq1, ite_eq1', or_em, or_em', ite_not, lcmp0, lcmpL, lcmpG, nI_cl_b, eb_in_b, nI_1, nI_pred, Int32.reduceToNatClampNeg, eb_u_ap, Prod.mk.injEq, not_true_eq_false, not_false_eq_true, tyM, rl21, rl25, sp_rg, sp_iI, sp_iG, sp_iS]
  obtain ⟨I1, e, e1, e2⟩ := eb_loop (α := eb_A → Nat → Int32) (n := n) (s0 := I)
    (F := fun i s => eb_E L d 247 2 [some (zr a), some (zr b), some (zi (nI i))] [] (nc, ns, s, J, R))
    (P := fun i s => (∀ l, l < i → s b l = I a l) ∧ ∀ c l, ¬ c = b → s c l = I c l)
    ⟨fun l hl => absurd hl (Nat.not_lt_zero _), fun _ _ _ => rfl⟩ (by
      intro i I1 hi hP
      obtain ⟨h1, h2⟩ := hP
      have k := h2 a i hab
      rw [e247_2]
      simp (decide := true) (disch := omega) only [e247_0, e247_1, e247_3, e247_4, e247_5, e247_8, e247_9, e247_10, e247_11, e247_12, e247_13, e247_14, e247_17, e247_20, bi_s, tyX, rl1, rl2, rl4, ↓reduceIte, Option.bind_some, true_and, and_true, false_and, and_false, true_or, or_true, false_or, or_false, if_same0, ite_eq0, ite_eq0', ite_eq1, ite_eq1', or_em, or_em', ite_not, lcmp0, lcmpL, lcmpG, nI_cl_b, eb_in_b, nI_1, nI_pred, Int32.reduceToNatClampNeg, eb_u_ap, Prod.mk.injEq, not_true_eq_false, not_false_eq_true, tyM, rl21, rl25, sp_rg, sp_iI, sp_iG, sp_iS, ha, hb, nI_lt_b, hi, k]
      refine ⟨eb_u I1 b i (I a i), rfl, fun l hl => ?_, fun c l hc => (if_neg (fun z => hc z.1)).trans (h2 c l hc)⟩
      by_cases q : l = i
      · subst q; exact eb_u_s
      · exact (if_neg (fun z => q z.2)).trans (h1 l (by omega)))
  simp only [nI_0] at e
  rw [e, e247_2]
  simp (decide := true) (disch := omega) only [e247_0, e247_1, e247_3, e247_4, e247_5, e247_8, e247_9, e247_10, e247_11, e247_12, e247_13, e247_14, e247_17, e247_20, bi_s, tyX, rl1, rl2, rl4, ↓reduceIte, Option.bind_some, true_and, and_true, false_and, and_false, true_or, or_true, false_or, or_false, if_same0, ite_eq0, ite_eq0', ite_eq1, ite_eq1', or_em, or_em', ite_not, lcmp0, lcmpL, lcmpG, nI_cl_b, eb_in_b, nI_1, nI_pred, Int32.reduceToNatClampNeg, eb_u_ap, Prod.mk.injEq, not_true_eq_false, not_false_eq_true, tyM, rl21, rl25, sp_rg, sp_iI, sp_iG, sp_iS, ha, nI_lt_b, Nat.lt_irrefl]
  exact ⟨I1, rfl, e1, e2⟩
theorem m_takeFrom {r1 : Nat} (h : eb_RM I r1 w) (hw : sp_ok w) (hr : ¬ r1 = r) : ∃ I', eb_ev L (d + 2) 248 [zr (21, r, 0), zr (21, r1, 0)] (nc, ns, I, J, eb_RL C mt mk) = some (zn, (nc, ns, I', J, eb_RL C mt mk)) ∧ eb_RM I' r w ∧ eb_gv r I I' := by
  have hn := hw.1
  have hg := hw.2.1
  rw [h248 rfl]
  simp (decide := true) (disch := omega) only [e248_0, e248_1, e248_2, e248_5, e248_8, e248_9, e248_10, e248_13, e248_16, e248_17, e248_19, e248_21, e248_24, e248_25, e248_28, e248_29, e248_30, e248_31, e248_34, e248_35, e248_36, e248_39, e248_40, e248_43, e248_44, e248_45, e248_46, e248_49, e248_50, e248_51, e248_54, e248_57, e248_60, e248_61, e248_62, e248_65, e248_68, e248_69, e248_70, e248_73, e248_76, e248_77, e248_78, e248_81, e248_84, bi_s, tyX, rl1, rl2, rl4, ↓reduceIte, Option.bind_some, true_and, and_true, false_and, and_false, true_or, or_true, false_or, or_false, if_same0, ite_eq0, ite_eq0', ite_eq1, ite_eq1', or_em, or_em', ite_not, lcmp0, lcmpL, lcmpG, nI_cl_b, eb_in_b, nI_1, nI_pred, Int32.reduceToNatClampNeg, eb_u_ap, Prod.mk.injEq, not_true_eq_false, not_false_eq_true, tyM, rl21, rl25, sp_rg, sp_iI, sp_iG, sp_iS, hr, h.1.1, h.1.2.1]
  generalize hI0 : eb_u (eb_u I (21, r, 0) 9 (nI w.1)) (21, r, 0) 11 (nI w.2.1) = I0
  have f0 : ∀ a l, ¬ (a = (21, r, 0) ∧ (l = 9 ∨ l = 11)) → I0 a l = I a l := fun a l q => by
    have q1 : ¬ (a = (21, r, 0) ∧ l = 9) := fun z => q ⟨z.1, Or.inl z.2⟩
    have q2 : ¬ (a = (21, r, 0) ∧ l = 11) := fun z => q ⟨z.1, Or.inr z.2⟩
    rw [← hI0]; simp only [eb_u, q1, q2, if_false]
  obtain ⟨I1, e, e1, e2, e3⟩ := eb_loop (α := eb_A → Nat → Int32) (n := 6) (s0 := I0)
    (F := fun i s => eb_E L (d + 1) 248 18 [some (zr (21, r, 0)), some (zr (21, r1, 0)), some (zi (nI i))] [] (nc, ns, s, J, eb_RL C mt mk))
    (P := fun i s => (∀ j, j < i → ∀ l, l < 7 → s (32, r, j) l = I (32, r1, j) l) ∧ (∀ j, j < i → ∀ l, l < 3 → s (34, r, j) l = I (34, r1, j) l) ∧ ∀ a l, ¬ (a.2.1 = r ∧ (a.1 = 32 ∨ a.1 = 34)) → s a l = I0 a l)
    ⟨fun j hj => absurd hj (Nat.not_lt_zero _), fun j hj => absurd hj (Nat.not_lt_zero _), fun _ _ _ => rfl⟩ (by
      intro i I1 hi hP
      obtain ⟨h1, h2, h3⟩ := hP
      obtain ⟨I2, a1, a2, a3⟩ := m_over (L := L) (d := d) (nc := nc) (ns := ns) (I := I1) (J := J) (R := eb_RL C mt mk) (a := (32, r1, i)) (b := (32, r, i)) (n := 7) rfl rfl (by simp [hr]) (by omega)
      obtain ⟨I3, b1, b2, b3⟩ := m_over (L := L) (d := d) (nc := nc) (ns := ns) (I := I2) (J := J) (R := eb_RL C mt mk) (a := (34, r1, i)) (b := (34, r, i)) (n := 3) rfl rfl (by simp [hr]) (by omega)
      have c6 : (nI i < 6) = True := by rw [show (6 : Int32) = nI 6 from rfl, nI_lt_b (by omega) (by omega)]; exact eq_true hi
      rw [e248_18]
      simp (decide := true) (disch := omega) only [e248_19, e248_21, e248_24, e248_25, e248_28, e248_29, e248_30, e248_31, e248_34, e248_35, e248_36, e248_39, e248_40, e248_43, e248_44, e248_45, e248_46, e248_49, e248_50, e248_51, e248_54, e248_57, bi_s, tyX, rl1, rl2, rl4, ↓reduceIte, Option.bind_some, true_and, and_true, false_and, and_false, true_or, or_true, false_or, or_false, if_same0, ite_eq0, ite_eq0', ite_eq1, ite_eq1', or_em, or_em', ite_not, lcmp0, lcmpL, lcmpG, nI_cl_b, eb_in_b, nI_1, nI_pred, Int32.reduceToNatClampNeg, eb_u_ap, Prod.mk.injEq, not_true_eq_false, not_false_eq_true, tyM, rl21, rl25, sp_rg, sp_iI, sp_iG, sp_iS, c6, a1, b1]
      refine ⟨I3, rfl, fun j hj l hl => ?_, fun j hj l hl => ?_, fun a l hal => ?_⟩
      · rw [b3 _ _ (by simp)]
        by_cases q : j = i
        · subst q
          rw [a2 l hl, h3 _ _ (by simp [hr]), f0 _ _ (by simp)]
        · rw [a3 _ _ (by simp [q])]; exact h1 j (by omega) l hl
      · by_cases q : j = i
        · subst q
          rw [b2 l hl, a3 _ _ (by simp), h3 _ _ (by simp [hr]), f0 _ _ (by simp)]
        · rw [b3 _ _ (by simp [q]), a3 _ _ (by simp)]; exact h2 j (by omega) l hl
      · rw [b3 a l (fun z => hal (by rw [z]; exact ⟨rfl, Or.inr rfl⟩)), a3 a l (fun z => hal (by rw [z]; exact ⟨rfl, Or.inl rfl⟩))]
        exact h3 a l hal)
  simp only [nI_0] at e
  have c6 : nI 6 = 6 := rfl
  have k13 : I1 (21, r1, 0) 13 = w.2.2.1 0 := by rw [e3 _ _ (by simp), f0 _ _ (by simp [hr])]; exact h.1.2.2.1
  have k14 : I1 (21, r1, 0) 14 = w.2.2.1 1 := by rw [e3 _ _ (by simp), f0 _ _ (by simp [hr])]; exact h.1.2.2.2.1
  have k15 : I1 (21, r1, 0) 15 = w.2.2.1 2 := by rw [e3 _ _ (by simp), f0 _ _ (by simp [hr])]; exact h.1.2.2.2.2
  rw [e, e248_18]
  simp (decide := true) (disch := omega) only [e248_19, e248_21, e248_24, e248_25, e248_28, e248_29, e248_30, e248_31, e248_34, e248_35, e248_36, e248_39, e248_40, e248_43, e248_44, e248_45, e248_46, e248_49, e248_50, e248_51, e248_54, e248_57, e248_60, e248_61, e248_62, e248_65, e248_68, e248_69, e248_70, e248_73, e248_76, e248_77, e248_78, e248_81, e248_84, bi_s, tyX, rl1, rl2, rl4, ↓reduceIte, Option.bind_some, true_and, and_true, false_and, and_false, true_or, or_true, false_or, or_false, if_same0, ite_eq0, ite_eq0', ite_eq1, ite_eq1', or_em, or_em', ite_not, lcmp0, lcmpL, lcmpG, nI_cl_b, eb_in_b, nI_1, nI_pred, Int32.reduceToNatClampNeg, eb_u_ap, Prod.mk.injEq, not_true_eq_false, not_false_eq_true, tyM, rl21, rl25, sp_rg, sp_iI, sp_iG, sp_iS, c6, k13, k14, k15, hr]
  generalize hI5 : eb_u (eb_u (eb_u I1 (21, r, 0) 13 (w.2.2.1 0)) (21, r, 0) 14 (w.2.2.1 1)) (21, r, 0) 15 (w.2.2.1 2) = I5
  have f5 : ∀ a l, ¬ (a = (21, r, 0) ∧ (l = 13 ∨ l = 14 ∨ l = 15)) → I5 a l = I1 a l := fun a l q => by
    have q1 : ¬ (a = (21, r, 0) ∧ l = 13) := fun z => q ⟨z.1, Or.inl z.2⟩
    have q2 : ¬ (a = (21, r, 0) ∧ l = 14) := fun z => q ⟨z.1, Or.inr (Or.inl z.2)⟩
    have q3 : ¬ (a = (21, r, 0) ∧ l = 15) := fun z => q ⟨z.1, Or.inr (Or.inr z.2)⟩
    rw [← hI5]; simp only [eb_u, q1, q2, q3, if_false]
  refine ⟨I5, rfl, ⟨⟨?_, ?_, ?_, ?_, ?_⟩, fun i hi f hf => ?_, fun j hj f hf => ?_⟩, fun a l hal => ?_⟩
  · rw [f5 _ _ (by simp), e3 _ _ (by simp), ← hI0]; simp [eb_u]
  · rw [f5 _ _ (by simp), e3 _ _ (by simp), ← hI0]; simp [eb_u]
  · rw [← hI5]; simp [eb_u]
  · rw [← hI5]; simp [eb_u]
  · rw [← hI5]; simp [eb_u]
  · rw [f5 _ _ (by simp), e1 i (by omega) f hf]; exact h.2.1 i hi f hf
  · rw [f5 _ _ (by simp), e2 j (by omega) f hf]; exact h.2.2 j hj f hf
  · rw [f5 a l (fun z => hal (by rw [z.1]; exact ⟨rfl, Or.inr (Or.inr (Or.inr (Or.inr ⟨rfl, by omega⟩)))⟩)), e3 a l (fun z => hal ⟨z.1, by omega⟩), f0 a l (fun z => hal (by rw [z.1]; exact ⟨rfl, Or.inr (Or.inr (Or.inr (Or.inr ⟨rfl, by omega⟩)))⟩))]
end

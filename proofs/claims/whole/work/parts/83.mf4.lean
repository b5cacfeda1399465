/-! the reference's faces: tonight -/
section
variable {L d nc ns r i g : Nat} {I I' : eb_A → Nat → Int32} {J J' : eb_A → Nat → Int64} {C : Nat → Nat → Nat} {mt mk : Option Nat} {M : eb_M} {R : eb_A → Nat → Option eb_A} {w : eb_W} {x : Int32} {S : eb_St}
theorem mf_score (ok : sp_St S) {a b : Int32} : eb_FM L (d + 5) 193 [zi a, zi b] S (sf_score S a b).2 (zi (sf_score S a b).1) := by
  intro nc ns I J C mt mk h
  rw [h193 rfl]
  unfold sf_score
  have hG := m_isGoer (L := L) (d := d + 2) (nc := nc) (ns := ns) (J := J) (C := C) (mt := mt) (mk := mk) (x := a) h.1 ok.1
  have hI := m_isInn (L := L) (d := d + 2) (nc := nc) (ns := ns) (J := J) (C := C) (mt := mt) (mk := mk) (x := b) h.1 ok.1
  have hn := ok.1.2.1
  have hn1 := ok.1.1
  by_cases c1 : sp_iG S.1 a
  · rw [if_pos c1] at hG
    by_cases c2 : sp_iI S.1 b
    · rw [if_pos c2] at hI
      rw [if_pos ⟨c1, c2⟩]
      obtain ⟨j, hj, rfl⟩ := rg_nat (by omega) c1
      obtain ⟨i, hi, rfl⟩ := rg_nat (by omega) c2
      have hs := m_scoreOf (L := L) (d := d + 1) (nc := nc) (ns := ns) (J := J) (C := C) (mt := mt) (mk := mk) h.1 ok.1 hj hi
      simp (decide := true) (disch := omega) only [e193_0, e193_1, e193_2, e193_5, e193_8, e193_9, e193_10, e193_13, e193_16, e193_17, e193_18, e193_19, e193_22, e193_25, e193_27, e193_28, e193_30, e193_33, e193_34, bi_s, tyX, rl1, rl2, rl4, ↓reduceIte, Option.bind_some, true_and, and_true, false_and, and_false, true_or, or_true, false_or, or_false, if_same0, ite_eq0, ite_eq0', ite_eq1, ite_eq1', or_em, or_em', ite_not, lcmp0, lcmpL, lcmpG, nI_cl_b, eb_in_b, nI_1, nI_pred, Int32.reduceToNatClampNeg, eb_u_ap, Prod.mk.injEq, not_true_eq_false, not_false_eq_true, tyM, rl21, rl25, sp_rg, sp_iI, sp_iG, sp_iS, hG, hI, hs, tn]
      exact ⟨nc, ns, I, J, mt, mk, rfl, fm_0 h⟩
    · rw [if_neg c2] at hI
      rw [if_neg (fun q => c2 q.2)]
      simp (decide := true) (disch := omega) only [e193_0, e193_1, e193_2, e193_5, e193_8, e193_9, e193_10, e193_13, e193_16, e193_17, e193_18, e193_19, e193_22, e193_25, e193_27, e193_28, e193_30, e193_33, e193_34, bi_s, tyX, rl1, rl2, rl4, ↓reduceIte, Option.bind_some, true_and, and_true, false_and, and_false, true_or, or_true, false_or, or_false, if_same0, ite_eq0, ite_eq0', ite_eq1, ite_eq1', or_em, or_em', ite_not, lcmp0, lcmpL, lcmpG, nI_cl_b, eb_in_b, nI_1, nI_pred, Int32.reduceToNatClampNeg, eb_u_ap, Prod.mk.injEq, not_true_eq_false, not_false_eq_true, tyM, rl21, rl25, sp_rg, sp_iI, sp_iG, sp_iS, hG, hI, m_refuse0]
      exact ⟨nc, ns, _, J, mt, mk, rfl, fm_rf h (by omega)⟩
  · rw [if_neg c1] at hG
    rw [if_neg (fun q => c1 q.1)]
    simp (decide := true) (disch := omega) only [e193_0, e193_1, e193_2, e193_5, e193_8, e193_9, e193_10, e193_13, e193_16, e193_17, e193_18, e193_19, e193_22, e193_25, e193_27, e193_28, e193_30, e193_33, e193_34, bi_s, tyX, rl1, rl2, rl4, ↓reduceIte, Option.bind_some, true_and, and_true, false_and, and_false, true_or, or_true, false_or, or_false, if_same0, ite_eq0, ite_eq0', ite_eq1, ite_eq1', or_em, or_em', ite_not, lcmp0, lcmpL, lcmpG, nI_cl_b, eb_in_b, nI_1, nI_pred, Int32.reduceToNatClampNeg, eb_u_ap, Prod.mk.injEq, not_true_eq_false, not_false_eq_true, tyM, rl21, rl25, sp_rg, sp_iI, sp_iG, sp_iS, hG, m_refuse0]
    exact ⟨nc, ns, _, J, mt, mk, rfl, fm_rf h (by omega)⟩
theorem mf_sleeps (ok : sp_St S) {a b : Int32} : eb_FM L (d + 7) 199 [zi a, zi b] S (sf_sleeps S a b).2 (zi (sf_sleeps S a b).1) := by
  intro nc ns I J C mt mk h
  rw [h199 rfl]
  unfold sf_sleeps
  have hG := m_isGoer (L := L) (d := d + 4) (nc := nc) (ns := ns) (J := J) (C := C) (mt := mt) (mk := mk) (x := a) h.1 ok.1
  have hI := m_isInn (L := L) (d := d + 4) (nc := nc) (ns := ns) (J := J) (C := C) (mt := mt) (mk := mk) (x := b) h.1 ok.1
  have hn := ok.1.2.1
  have hn1 := ok.1.1
  by_cases c1 : sp_iG S.1 a
  · rw [if_pos c1] at hG
    by_cases c2 : sp_iI S.1 b
    · rw [if_pos c2] at hI
      rw [if_pos ⟨c1, c2⟩]
      obtain ⟨j, hj, rfl⟩ := rg_nat (by omega) c1
      obtain ⟨i, hi, rfl⟩ := rg_nat (by omega) c2
      obtain ⟨I1, e1, e2, e3⟩ := m_goThrough (L := L) (d := d + 1) (nc := nc) (ns := ns) (J := J) (C := C) (mt := mt) (mk := mk) h.1 ok.1
      have k0 := (e3.2 j hj).1 i hi
      simp (decide := true) (disch := omega) only [e199_0, e199_1, e199_2, e199_5, e199_8, e199_9, e199_10, e199_13, e199_16, e199_17, e199_19, e199_22, e199_23, e199_24, e199_27, e199_28, e199_31, e199_32, e199_33, e199_34, e199_35, bi_s, tyX, rl1, rl2, rl4, ↓reduceIte, Option.bind_some, true_and, and_true, false_and, and_false, true_or, or_true, false_or, or_false, if_same0, ite_eq0, ite_eq0', ite_eq1, ite_eq1', or_em, or_em', ite_not, lcmp0, lcmpL, lcmpG, nI_cl_b, eb_in_b, nI_1, nI_pred, Int32.reduceToNatClampNeg, eb_u_ap, Prod.mk.injEq, not_true_eq_false, not_false_eq_true, tyM, rl21, rl25, sp_rg, sp_iI, sp_iG, sp_iS, hG, hI, e1, k0, tn]
      exact ⟨nc, ns, I1, J, mt, mk, rfl, fm_n h e2⟩
    · rw [if_neg c2] at hI
      rw [if_neg (fun q => c2 q.2)]
      simp (decide := true) (disch := omega) only [e199_0, e199_1, e199_2, e199_5, e199_8, e199_9, e199_10, e199_13, e199_16, e199_17, e199_19, e199_22, e199_23, e199_24, e199_27, e199_28, e199_31, e199_32, e199_33, e199_34, e199_35, bi_s, tyX, rl1, rl2, rl4, ↓reduceIte, Option.bind_some, true_and, and_true, false_and, and_false, true_or, or_true, false_or, or_false, if_same0, ite_eq0, ite_eq0', ite_eq1, ite_eq1', or_em, or_em', ite_not, lcmp0, lcmpL, lcmpG, nI_cl_b, eb_in_b, nI_1, nI_pred, Int32.reduceToNatClampNeg, eb_u_ap, Prod.mk.injEq, not_true_eq_false, not_false_eq_true, tyM, rl21, rl25, sp_rg, sp_iI, sp_iG, sp_iS, hG, hI, m_refuse0]
      exact ⟨nc, ns, _, J, mt, mk, rfl, fm_rf h (by omega)⟩
  · rw [if_neg c1] at hG
    rw [if_neg (fun q => c1 q.1)]
    simp (decide := true) (disch := omega) only [e199_0, e199_1, e199_2, e199_5, e199_8, e199_9, e199_10, e199_13, e199_16, e199_17, e199_19, e199_22, e199_23, e199_24, e199_27, e199_28, e199_31, e199_32, e199_33, e199_34, e199_35, bi_s, tyX, rl1, rl2, rl4, ↓reduceIte, Option.bind_some, true_and, and_true, false_and, and_false, true_or, or_true, false_or, or_false, if_same0, ite_eq0, ite_eq0', ite_eq1, ite_eq1', or_em, or_em', ite_not, lcmp0, lcmpL, lcmpG, nI_cl_b, eb_in_b, nI_1, nI_pred, Int32.reduceToNatClampNeg, eb_u_ap, Prod.mk.injEq, not_true_eq_false, not_false_eq_true, tyM, rl21, rl25, sp_rg, sp_iI, sp_iG, sp_iS, hG, m_refuse0]
    exact ⟨nc, ns, _, J, mt, mk, rfl, fm_rf h (by omega)⟩
theorem mf_guests (ok : sp_St S) {a : Int32} : eb_FM L (d + 7) 200 [zi a] S (sf_guests S a).2 (zi (sf_guests S a).1) := by
  intro nc ns I J C mt mk h
  rw [h200 rfl]
  unfold sf_guests
  have hI := m_isInn (L := L) (d := d + 4) (nc := nc) (ns := ns) (J := J) (C := C) (mt := mt) (mk := mk) (x := a) h.1 ok.1
  have hn1 := ok.1.1
  by_cases c1 : sp_iI S.1 a
  · rw [if_pos c1] at hI
    rw [if_pos c1]
    obtain ⟨i, hi, rfl⟩ := rg_nat (by omega) c1
    obtain ⟨I1, e1, e2, e3⟩ := m_goThrough (L := L) (d := d + 1) (nc := nc) (ns := ns) (J := J) (C := C) (mt := mt) (mk := mk) h.1 ok.1
    have k0 := m_headsIn (L := L) (d := d + 5) (nc := nc) (ns := ns) (J := J) (C := C) (mt := mt) (mk := mk) (eb_gn_RM e2 h.1).1.2.1 e3 ok.1 (sp_Nok_night ok.1) hi
    simp (decide := true) (disch := omega) only [e200_0, e200_1, e200_2, e200_5, e200_8, e200_9, e200_11, e200_14, e200_15, e200_16, e200_19, e200_20, e200_21, e200_24, bi_s, tyX, rl1, rl2, rl4, ↓reduceIte, Option.bind_some, true_and, and_true, false_and, and_false, true_or, or_true, false_or, or_false, if_same0, ite_eq0, ite_eq0', ite_eq1, ite_eq1', or_em, or_em', ite_not, lcmp0, lcmpL, lcmpG, nI_cl_b, eb_in_b, nI_1, nI_pred, Int32.reduceToNatClampNeg, eb_u_ap, Prod.mk.injEq, not_true_eq_false, not_false_eq_true, tyM, rl21, rl25, sp_rg, sp_iI, sp_iG, sp_iS, hI, e1, k0, tn]
    exact ⟨nc, ns, I1, J, mt, mk, rfl, fm_n h e2⟩
  · rw [if_neg c1] at hI
    rw [if_neg c1]
    simp (decide := true) (disch := omega) only [e200_0, e200_1, e200_2, e200_5, e200_8, e200_9, e200_11, e200_14, e200_15, e200_16, e200_19, e200_20, e200_21, e200_24, bi_s, tyX, rl1, rl2, rl4, ↓reduceIte, Option.bind_some, true_and, and_true, false_and, and_false, true_or, or_true, false_or, or_false, if_same0, ite_eq0, ite_eq0', ite_eq1, ite_eq1', or_em, or_em', ite_not, lcmp0, lcmpL, lcmpG, nI_cl_b, eb_in_b, nI_1, nI_pred, Int32.reduceToNatClampNeg, eb_u_ap, Prod.mk.injEq, not_true_eq_false, not_false_eq_true, tyM, rl21, rl25, sp_rg, sp_iI, sp_iG, sp_iS, hI, m_refuse0]
    exact ⟨nc, ns, _, J, mt, mk, rfl, fm_rf h (by omega)⟩
theorem mf_taken (ok : sp_St S) {a : Int32} : eb_FM L (d + 7) 206 [zi a] S (sf_taken S a).2 (zi (sf_taken S a).1) := by
  intro nc ns I J C mt mk h
  rw [h206 rfl]
  unfold sf_taken
  have hI := m_isInn (L := L) (d := d + 4) (nc := nc) (ns := ns) (J := J) (C := C) (mt := mt) (mk := mk) (x := a) h.1 ok.1
  have hn1 := ok.1.1
  by_cases c1 : sp_iI S.1 a
  · rw [if_pos c1] at hI
    rw [if_pos c1]
    obtain ⟨i, hi, rfl⟩ := rg_nat (by omega) c1
    obtain ⟨I1, e1, e2, e3⟩ := m_goThrough (L := L) (d := d + 1) (nc := nc) (ns := ns) (J := J) (C := C) (mt := mt) (mk := mk) h.1 ok.1
    have hR := eb_gn_RM e2 h.1
    have k0 := m_headsIn (L := L) (d := d + 5) (nc := nc) (ns := ns) (J := J) (C := C) (mt := mt) (mk := mk) hR.1.2.1 e3 ok.1 (sp_Nok_night ok.1) hi
    have k3 := hR.2.1 i hi 3 (by omega)
    simp (decide := true) (disch := omega) only [e206_0, e206_1, e206_2, e206_5, e206_8, e206_9, e206_11, e206_14, e206_15, e206_16, e206_19, e206_20, e206_23, e206_24, e206_25, e206_26, e206_27, e206_28, e206_29, e206_32, e206_33, bi_s, tyX, rl1, rl2, rl4, ↓reduceIte, Option.bind_some, true_and, and_true, false_and, and_false, true_or, or_true, false_or, or_false, if_same0, ite_eq0, ite_eq0', ite_eq1, ite_eq1', or_em, or_em', ite_not, lcmp0, lcmpL, lcmpG, nI_cl_b, eb_in_b, nI_1, nI_pred, Int32.reduceToNatClampNeg, eb_u_ap, Prod.mk.injEq, not_true_eq_false, not_false_eq_true, tyM, rl21, rl25, sp_rg, sp_iI, sp_iG, sp_iS, hI, e1, k0, k3, tn]
    exact ⟨nc, ns, I1, J, mt, mk, rfl, fm_n h e2⟩
  · rw [if_neg c1] at hI
    rw [if_neg c1]
    simp (decide := true) (disch := omega) only [e206_0, e206_1, e206_2, e206_5, e206_8, e206_9, e206_11, e206_14, e206_15, e206_16, e206_19, e206_20, e206_23, e206_24, e206_25, e206_26, e206_27, e206_28, e206_29, e206_32, e206_33, bi_s, tyX, rl1, rl2, rl4, ↓reduceIte, Option.bind_some, true_and, and_true, false_and, and_false, true_or, or_true, false_or, or_false, if_same0, ite_eq0, ite_eq0', ite_eq1, ite_eq1', or_em, or_em', ite_not, lcmp0, lcmpL, lcmpG, nI_cl_b, eb_in_b, nI_1, nI_pred, Int32.reduceToNatClampNeg, eb_u_ap, Prod.mk.injEq, not_true_eq_false, not_false_eq_true, tyM, rl21, rl25, sp_rg, sp_iI, sp_iG, sp_iS, hI, m_refuse0]
    exact ⟨nc, ns, _, J, mt, mk, rfl, fm_rf h (by omega)⟩
theorem mf_out (ok : sp_St S) {a : Int32} : eb_FM L (d + 7) 201 [zi a] S (sf_out S a).2 (zi (sf_out S a).1) := by
  intro nc ns I J C mt mk h
  rw [h201 rfl]
  unfold sf_out
  have hI := m_isGoer (L := L) (d := d + 4) (nc := nc) (ns := ns) (J := J) (C := C) (mt := mt) (mk := mk) (x := a) h.1 ok.1
  have hn1 := ok.1.2.1
  obtain ⟨I1, e1, e2, e3⟩ := m_goThrough (L := L) (d := d + 1) (nc := nc) (ns := ns) (J := J) (C := C) (mt := mt) (mk := mk) h.1 ok.1
  have hR := eb_gn_RM e2 h.1
  by_cases c2 : a = -1
  · rw [if_pos c2]
    subst c2
    have e := eb_loopA (n := S.1.2.1) (f := sp_sum (sp_night S.1).2.2)
      (F := fun j s => eb_E L (d + 6) 201 28 [some (zr (21, 0, 0)), some (zi (-1)), some (zi s), some (zi (nI j))] [] (nc, ns, I1, J, eb_RL C mt mk)) (by
        intro j hj
        have k := (e3.2 j hj).2
        rw [e201_28]
        simp (decide := true) (disch := omega) only [e201_29, e201_30, e201_33, e201_36, e201_37, e201_38, e201_39, e201_42, e201_43, e201_44, e201_47, e201_48, e201_51, e201_52, e201_53, e201_56, e201_57, e201_58, e201_59, e201_62, bi_s, tyX, rl1, rl2, rl4, ↓reduceIte, Option.bind_some, true_and, and_true, false_and, and_false, true_or, or_true, false_or, or_false, if_same0, ite_eq0, ite_eq0', ite_eq1, ite_eq1', or_em, or_em', ite_not, lcmp0, lcmpL, lcmpG, nI_cl_b, eb_in_b, nI_1, nI_pred, Int32.reduceToNatClampNeg, eb_u_ap, Prod.mk.injEq, not_true_eq_false, not_false_eq_true, tyM, rl21, rl25, sp_rg, sp_iI, sp_iG, sp_iS, hR.1.2.1, nI_lt_b, hj, k, sp_sum])
    simp only [nI_0] at e
    rw [show sp_sum (sp_night S.1).2.2 0 = 0 from rfl] at e
    simp (decide := true) (disch := omega) only [e201_0, e201_1, e201_2, e201_5, e201_6, e201_7, e201_10, e201_13, e201_14, e201_16, e201_19, e201_20, e201_21, e201_24, e201_25, e201_26, e201_27, bi_s, tyX, rl1, rl2, rl4, ↓reduceIte, Option.bind_some, true_and, and_true, false_and, and_false, true_or, or_true, false_or, or_false, if_same0, ite_eq0, ite_eq0', ite_eq1, ite_eq1', or_em, or_em', ite_not, lcmp0, lcmpL, lcmpG, nI_cl_b, eb_in_b, nI_1, nI_pred, Int32.reduceToNatClampNeg, eb_u_ap, Prod.mk.injEq, not_true_eq_false, not_false_eq_true, tyM, rl21, rl25, sp_rg, sp_iI, sp_iG, sp_iS, e1]
    rw [e, e201_28]
    simp (decide := true) (disch := omega) only [e201_29, e201_30, e201_33, e201_36, e201_37, e201_38, e201_39, e201_42, e201_43, e201_44, e201_47, e201_48, e201_51, e201_52, e201_53, e201_56, e201_57, e201_58, e201_59, e201_62, e201_65, e201_66, bi_s, tyX, rl1, rl2, rl4, ↓reduceIte, Option.bind_some, true_and, and_true, false_and, and_false, true_or, or_true, false_or, or_false, if_same0, ite_eq0, ite_eq0', ite_eq1, ite_eq1', or_em, or_em', ite_not, lcmp0, lcmpL, lcmpG, nI_cl_b, eb_in_b, nI_1, nI_pred, Int32.reduceToNatClampNeg, eb_u_ap, Prod.mk.injEq, not_true_eq_false, not_false_eq_true, tyM, rl21, rl25, sp_rg, sp_iI, sp_iG, sp_iS, hR.1.2.1, nI_lt_b, Nat.lt_irrefl]
    exact ⟨nc, ns, I1, J, mt, mk, rfl, fm_n h e2⟩
  · rw [if_neg c2]
    by_cases c1 : sp_iG S.1 a
    · rw [if_pos c1] at hI
      rw [if_pos c1]
      obtain ⟨g, hg, rfl⟩ := rg_nat (by omega) c1
      have e := eb_loopA (n := S.1.2.1) (f := sp_sum (fun k => if k = g then (sp_night S.1).2.2 k else 0))
        (F := fun j s => eb_E L (d + 6) 201 28 [some (zr (21, 0, 0)), some (zi (nI g)), some (zi s), some (zi (nI j))] [] (nc, ns, I1, J, eb_RL C mt mk)) (by
          intro j hj
          have k := (e3.2 j hj).2
          rw [e201_28]
          by_cases c : j = g
          · subst c
            simp (decide := true) (disch := omega) only [e201_29, e201_30, e201_33, e201_36, e201_37, e201_38, e201_39, e201_42, e201_43, e201_44, e201_47, e201_48, e201_51, e201_52, e201_53, e201_56, e201_57, e201_58, e201_59, e201_62, bi_s, tyX, rl1, rl2, rl4, ↓reduceIte, Option.bind_some, true_and, and_true, false_and, and_false, true_or, or_true, false_or, or_false, if_same0, ite_eq0, ite_eq0', ite_eq1, ite_eq1', or_em, or_em', ite_not, lcmp0, lcmpL, lcmpG, nI_cl_b, eb_in_b, nI_1, nI_pred, Int32.reduceToNatClampNeg, eb_u_ap, Prod.mk.injEq, not_true_eq_false, not_false_eq_true, tyM, rl21, rl25, sp_rg, sp_iI, sp_iG, sp_iS, hR.1.2.1, nI_lt_b, hj, k, sp_sum, c2]
          · have c' : (nI j = nI g) = False := by rw [nI_eq_b (by omega) (by omega)]; exact eq_false c
            simp (decide := true) (disch := omega) only [e201_29, e201_30, e201_33, e201_36, e201_37, e201_38, e201_39, e201_42, e201_43, e201_44, e201_47, e201_48, e201_51, e201_52, e201_53, e201_56, e201_57, e201_58, e201_59, e201_62, bi_s, tyX, rl1, rl2, rl4, ↓reduceIte, Option.bind_some, true_and, and_true, false_and, and_false, true_or, or_true, false_or, or_false, if_same0, ite_eq0, ite_eq0', ite_eq1, ite_eq1', or_em, or_em', ite_not, lcmp0, lcmpL, lcmpG, nI_cl_b, eb_in_b, nI_1, nI_pred, Int32.reduceToNatClampNeg, eb_u_ap, Prod.mk.injEq, not_true_eq_false, not_false_eq_true, tyM, rl21, rl25, sp_rg, sp_iI, sp_iG, sp_iS, hR.1.2.1, nI_lt_b, hj, sp_sum, c2, c', c])
      simp only [nI_0] at e
      rw [show sp_sum (fun k => if k = g then (sp_night S.1).2.2 k else 0) 0 = 0 from rfl, sp_sum_one.1 hg] at e
      simp (decide := true) (disch := omega) only [e201_0, e201_1, e201_2, e201_5, e201_6, e201_7, e201_10, e201_13, e201_14, e201_16, e201_19, e201_20, e201_21, e201_24, e201_25, e201_26, e201_27, bi_s, tyX, rl1, rl2, rl4, ↓reduceIte, Option.bind_some, true_and, and_true, false_and, and_false, true_or, or_true, false_or, or_false, if_same0, ite_eq0, ite_eq0', ite_eq1, ite_eq1', or_em, or_em', ite_not, lcmp0, lcmpL, lcmpG, nI_cl_b, eb_in_b, nI_1, nI_pred, Int32.reduceToNatClampNeg, eb_u_ap, Prod.mk.injEq, not_true_eq_false, not_false_eq_true, tyM, rl21, rl25, sp_rg, sp_iI, sp_iG, sp_iS, c2, hI, e1]
      rw [e, e201_28]
      simp (decide := true) (disch := omega) only [e201_29, e201_30, e201_33, e201_36, e201_37, e201_38, e201_39, e201_42, e201_43, e201_44, e201_47, e201_48, e201_51, e201_52, e201_53, e201_56, e201_57, e201_58, e201_59, e201_62, e201_65, e201_66, bi_s, tyX, rl1, rl2, rl4, ↓reduceIte, Option.bind_some, true_and, and_true, false_and, and_false, true_or, or_true, false_or, or_false, if_same0, ite_eq0, ite_eq0', ite_eq1, ite_eq1', or_em, or_em', ite_not, lcmp0, lcmpL, lcmpG, nI_cl_b, eb_in_b, nI_1, nI_pred, Int32.reduceToNatClampNeg, eb_u_ap, Prod.mk.injEq, not_true_eq_false, not_false_eq_true, tyM, rl21, rl25, sp_rg, sp_iI, sp_iG, sp_iS, hR.1.2.1, nI_lt_b, Nat.lt_irrefl, tn]
      exact ⟨nc, ns, I1, J, mt, mk, rfl, fm_n h e2⟩
    · rw [if_neg c1] at hI
      rw [if_neg c1]
      simp (decide := true) (disch := omega) only [e201_0, e201_1, e201_2, e201_5, e201_6, e201_7, e201_10, e201_13, e201_14, e201_16, e201_19, e201_20, e201_21, e201_24, e201_25, e201_26, e201_27, bi_s, tyX, rl1, rl2, rl4, ↓reduceIte, Option.bind_some, true_and, and_true, false_and, and_false, true_or, or_true, false_or, or_false, if_same0, ite_eq0, ite_eq0', ite_eq1, ite_eq1', or_em, or_em', ite_not, lcmp0, lcmpL, lcmpG, nI_cl_b, eb_in_b, nI_1, nI_pred, Int32.reduceToNatClampNeg, eb_u_ap, Prod.mk.injEq, not_true_eq_false, not_false_eq_true, tyM, rl21, rl25, sp_rg, sp_iI, sp_iG, sp_iS, c2, hI, m_refuse0]
      exact ⟨nc, ns, _, J, mt, mk, rfl, fm_rf h (by omega)⟩
theorem mf_joy (ok : sp_St S) {a : Int32} : eb_FM L (d + 7) 205 [zi a] S (sf_joy S a).2 (zi (sf_joy S a).1) := by
  intro nc ns I J C mt mk h
  rw [h205 rfl]
  unfold sf_joy
  have hI := m_isGoer (L := L) (d := d + 4) (nc := nc) (ns := ns) (J := J) (C := C) (mt := mt) (mk := mk) (x := a) h.1 ok.1
  have hn1 := ok.1.2.1
  obtain ⟨I1, e1, e2, e3⟩ := m_goThrough (L := L) (d := d + 1) (nc := nc) (ns := ns) (J := J) (C := C) (mt := mt) (mk := mk) h.1 ok.1
  have hR := eb_gn_RM e2 h.1
  have h03 : ∀ i, i < S.1.1 → I1 (32, 0, i) 0 = S.1.2.2.2.1 i 0 ∧ I1 (32, 0, i) 3 = S.1.2.2.2.1 i 3 := fun i hi => ⟨hR.2.1 i hi 0 (by omega), hR.2.1 i hi 3 (by omega)⟩
  by_cases c2 : a = -1
  · rw [if_pos c2]
    subst c2
    have e4 := m_joyBy0 (L := L) (d := d + 4) (nc := nc) (ns := ns) (J := J) (C := C) (mt := mt) (mk := mk) hR.1.1 hR.1.2.1 h03 e3 ok.1 (sp_Nok_night ok.1)
    simp (decide := true) (disch := omega) only [e205_0, e205_1, e205_2, e205_5, e205_6, e205_7, e205_10, e205_13, e205_15, e205_16, e205_18, e205_21, e205_22, e205_23, e205_24, e205_27, e205_28, e205_29, e205_32, bi_s, tyX, rl1, rl2, rl4, ↓reduceIte, Option.bind_some, true_and, and_true, false_and, and_false, true_or, or_true, false_or, or_false, if_same0, ite_eq0, ite_eq0', ite_eq1, ite_eq1', or_em, or_em', ite_not, lcmp0, lcmpL, lcmpG, nI_cl_b, eb_in_b, nI_1, nI_pred, Int32.reduceToNatClampNeg, eb_u_ap, Prod.mk.injEq, not_true_eq_false, not_false_eq_true, tyM, rl21, rl25, sp_rg, sp_iI, sp_iG, sp_iS, e1, e4]
    exact ⟨nc, ns, I1, J, mt, mk, rfl, fm_n h e2⟩
  · rw [if_neg c2]
    by_cases c1 : sp_iG S.1 a
    · rw [if_pos c1] at hI
      rw [if_pos c1]
      obtain ⟨g, hg, rfl⟩ := rg_nat (by omega) c1
      have e4 := m_joyBy1 (L := L) (d := d + 4) (nc := nc) (ns := ns) (J := J) (C := C) (mt := mt) (mk := mk) hR.1.1 hR.1.2.1 h03 e3 ok.1 (sp_Nok_night ok.1) hg
      simp (decide := true) (disch := omega) only [e205_0, e205_1, e205_2, e205_5, e205_6, e205_7, e205_10, e205_13, e205_15, e205_16, e205_18, e205_21, e205_22, e205_23, e205_24, e205_27, e205_28, e205_29, e205_32, bi_s, tyX, rl1, rl2, rl4, ↓reduceIte, Option.bind_some, true_and, and_true, false_and, and_false, true_or, or_true, false_or, or_false, if_same0, ite_eq0, ite_eq0', ite_eq1, ite_eq1', or_em, or_em', ite_not, lcmp0, lcmpL, lcmpG, nI_cl_b, eb_in_b, nI_1, nI_pred, Int32.reduceToNatClampNeg, eb_u_ap, Prod.mk.injEq, not_true_eq_false, not_false_eq_true, tyM, rl21, rl25, sp_rg, sp_iI, sp_iG, sp_iS, c2, hI, e1, e4, tn]
      exact ⟨nc, ns, I1, J, mt, mk, rfl, fm_n h e2⟩
    · rw [if_neg c1] at hI
      rw [if_neg c1]
      simp (decide := true) (disch := omega) only [e205_0, e205_1, e205_2, e205_5, e205_6, e205_7, e205_10, e205_13, e205_15, e205_16, e205_18, e205_21, e205_22, e205_23, e205_24, e205_27, e205_28, e205_29, e205_32, bi_s, tyX, rl1, rl2, rl4, ↓reduceIte, Option.bind_some, true_and, and_true, false_and, and_false, true_or, or_true, false_or, or_false, if_same0, ite_eq0, ite_eq0', ite_eq1, ite_eq1', or_em, or_em', ite_not, lcmp0, lcmpL, lcmpG, nI_cl_b, eb_in_b, nI_1, nI_pred, Int32.reduceToNatClampNeg, eb_u_ap, Prod.mk.injEq, not_true_eq_false, not_false_eq_true, tyM, rl21, rl25, sp_rg, sp_iI, sp_iG, sp_iS, c2, hI, m_refuse0]
      exact ⟨nc, ns, _, J, mt, mk, rfl, fm_rf h (by omega)⟩
theorem mf_full (ok : sp_St S) : eb_FM L (d + 7) 202 [] S (sf_full S).2 (zi (sf_full S).1) := by
  intro nc ns I J C mt mk h
  rw [h202 rfl]
  unfold sf_full
  have hn := ok.1.1
  obtain ⟨I1, e1, e2, e3⟩ := m_goThrough (L := L) (d := d + 1) (nc := nc) (ns := ns) (J := J) (C := C) (mt := mt) (mk := mk) h.1 ok.1
  have hR := eb_gn_RM e2 h.1
  have e := eb_loopA (n := S.1.1) (f := sp_fullset S.1 (sp_night S.1))
    (F := fun i s => eb_E L (d + 6) 202 8 [some (zr (21, 0, 0)), some (zi s), some (zi (nI i))] [] (nc, ns, I1, J, eb_RL C mt mk)) (by
      intro i hi
      have kl := (e3.1 i hi).1
      have hl0 := left0 (sp_Nok_night ok.1).1 hi
      rw [e202_8]
      by_cases c : (sp_night S.1).1 i < S.1.2.2.2.1 i 2
      · have hf : sp_full S.1 (sp_night S.1) i = false := by unfold sp_full; rw [decide_eq_true c]; rfl
        have hl0 : (S.1.2.2.2.1 i 2 - (sp_night S.1).1 i = 0) = False := by rw [hl0]; simp [c]
        simp (decide := true) (disch := omega) only [e202_9, e202_10, e202_13, e202_16, e202_17, e202_18, e202_21, e202_22, e202_23, e202_26, e202_27, e202_28, e202_29, e202_32, e202_33, e202_34, e202_35, e202_38, bi_s, tyX, rl1, rl2, rl4, ↓reduceIte, Option.bind_some, true_and, and_true, false_and, and_false, true_or, or_true, false_or, or_false, if_same0, ite_eq0, ite_eq0', ite_eq1, ite_eq1', or_em, or_em', ite_not, lcmp0, lcmpL, lcmpG, nI_cl_b, eb_in_b, nI_1, nI_pred, Int32.reduceToNatClampNeg, eb_u_ap, Prod.mk.injEq, not_true_eq_false, not_false_eq_true, tyM, rl21, rl25, sp_rg, sp_iI, sp_iG, sp_iS, hR.1.1, nI_lt_b, hi, kl, hl0, sp_fullset, hf]
      · have hf : sp_full S.1 (sp_night S.1) i = true := by unfold sp_full; rw [decide_eq_false c]; rfl
        have hl0 : (S.1.2.2.2.1 i 2 - (sp_night S.1).1 i = 0) = True := by rw [hl0]; simp [c]
        simp (decide := true) (disch := omega) only [e202_9, e202_10, e202_13, e202_16, e202_17, e202_18, e202_21, e202_22, e202_23, e202_26, e202_27, e202_28, e202_29, e202_32, e202_33, e202_34, e202_35, e202_38, bi_s, tyX, rl1, rl2, rl4, ↓reduceIte, Option.bind_some, true_and, and_true, false_and, and_false, true_or, or_true, false_or, or_false, if_same0, ite_eq0, ite_eq0', ite_eq1, ite_eq1', or_em, or_em', ite_not, lcmp0, lcmpL, lcmpG, nI_cl_b, eb_in_b, nI_1, nI_pred, Int32.reduceToNatClampNeg, eb_u_ap, Prod.mk.injEq, not_true_eq_false, not_false_eq_true, tyM, rl21, rl25, sp_rg, sp_iI, sp_iG, sp_iS, hR.1.1, nI_lt_b, hi, kl, hl0, sp_fullset, hf])
  simp only [nI_0] at e
  rw [show sp_fullset S.1 (sp_night S.1) 0 = 0 from rfl] at e
  simp (decide := true) (disch := omega) only [e202_0, e202_1, e202_4, e202_5, e202_6, e202_7, bi_s, tyX, rl1, rl2, rl4, ↓reduceIte, Option.bind_some, true_and, and_true, false_and, and_false, true_or, or_true, false_or, or_false, if_same0, ite_eq0, ite_eq0', ite_eq1, ite_eq1', or_em, or_em', ite_not, lcmp0, lcmpL, lcmpG, nI_cl_b, eb_in_b, nI_1, nI_pred, Int32.reduceToNatClampNeg, eb_u_ap, Prod.mk.injEq, not_true_eq_false, not_false_eq_true, tyM, rl21, rl25, sp_rg, sp_iI, sp_iG, sp_iS, e1]
  rw [e, e202_8]
  simp (decide := true) (disch := omega) only [e202_9, e202_10, e202_13, e202_16, e202_17, e202_18, e202_21, e202_22, e202_23, e202_26, e202_27, e202_28, e202_29, e202_32, e202_33, e202_34, e202_35, e202_38, e202_41, e202_42, bi_s, tyX, rl1, rl2, rl4, ↓reduceIte, Option.bind_some, true_and, and_true, false_and, and_false, true_or, or_true, false_or, or_false, if_same0, ite_eq0, ite_eq0', ite_eq1, ite_eq1', or_em, or_em', ite_not, lcmp0, lcmpL, lcmpG, nI_cl_b, eb_in_b, nI_1, nI_pred, Int32.reduceToNatClampNeg, eb_u_ap, Prod.mk.injEq, not_true_eq_false, not_false_eq_true, tyM, rl21, rl25, sp_rg, sp_iI, sp_iG, sp_iS, hR.1.1, nI_lt_b, Nat.lt_irrefl]
  exact ⟨nc, ns, I1, J, mt, mk, rfl, fm_n h e2⟩
theorem mf_crowd (ok : sp_St S) {a : Int32} : eb_FM L (d + 7) 208 [zi a] S (sf_crowd S a).2 (zi (sf_crowd S a).1) := by
  intro nc ns I J C mt mk h
  rw [h208 rfl]
  unfold sf_crowd
  have hI := m_isInn (L := L) (d := d + 4) (nc := nc) (ns := ns) (J := J) (C := C) (mt := mt) (mk := mk) (x := a) h.1 ok.1
  have hn1 := ok.1.2.1
  by_cases c1 : sp_iI S.1 a
  · rw [if_pos c1] at hI
    rw [if_pos c1]
    have e := eb_loopA (n := S.1.2.1) (f := sp_sum (fun j => if sp_bk (S.1.2.2.2.2 j 0) = true ∧ sp_enc (sp_choice S.1 j) = a then S.1.2.2.2.2 j 1 else 0))
      (F := fun j s => eb_E L (d + 6) 208 19 [some (zr (21, 0, 0)), some (zi a), some (zi s), some (zi (nI j))] [] (nc, ns, I, J, eb_RL C mt mk)) (by
        intro j hj
        have kb := m_isByBook (L := L) (d := d + 5) (nc := nc) (ns := ns) (J := J) (C := C) (mt := mt) (mk := mk) h.1 ok.1 hj
        have kc := m_choiceOf (L := L) (d := d + 2) (nc := nc) (ns := ns) (J := J) (C := C) (mt := mt) (mk := mk) h.1 ok.1 hj
        have k1 := h.1.2.2 j hj 1 (by omega)
        rw [e208_19]
        by_cases c : sp_bk (S.1.2.2.2.2 j 0) = true
        · rw [if_pos c] at kb
          by_cases c2 : sp_enc (sp_choice S.1 j) = a
          · simp (decide := true) (disch := omega) only [e208_20, e208_21, e208_24, e208_27, e208_28, e208_29, e208_30, e208_33, e208_36, e208_37, e208_38, e208_41, e208_42, e208_45, e208_46, e208_49, e208_50, e208_51, e208_52, e208_53, e208_56, e208_57, e208_58, e208_59, e208_62, bi_s, tyX, rl1, rl2, rl4, ↓reduceIte, Option.bind_some, true_and, and_true, false_and, and_false, true_or, or_true, false_or, or_false, if_same0, ite_eq0, ite_eq0', ite_eq1, ite_eq1', or_em, or_em', ite_not, lcmp0, lcmpL, lcmpG, nI_cl_b, eb_in_b, nI_1, nI_pred, Int32.reduceToNatClampNeg, eb_u_ap, Prod.mk.injEq, not_true_eq_false, not_false_eq_true, tyM, rl21, rl25, sp_rg, sp_iI, sp_iG, sp_iS, h.1.1.2.1, nI_lt_b, hj, kb, kc, c2, k1, sp_sum, c]
          · simp (decide := true) (disch := omega) only [e208_20, e208_21, e208_24, e208_27, e208_28, e208_29, e208_30, e208_33, e208_36, e208_37, e208_38, e208_41, e208_42, e208_45, e208_46, e208_49, e208_50, e208_51, e208_52, e208_53, e208_56, e208_57, e208_58, e208_59, e208_62, bi_s, tyX, rl1, rl2, rl4, ↓reduceIte, Option.bind_some, true_and, and_true, false_and, and_false, true_or, or_true, false_or, or_false, if_same0, ite_eq0, ite_eq0', ite_eq1, ite_eq1', or_em, or_em', ite_not, lcmp0, lcmpL, lcmpG, nI_cl_b, eb_in_b, nI_1, nI_pred, Int32.reduceToNatClampNeg, eb_u_ap, Prod.mk.injEq, not_true_eq_false, not_false_eq_true, tyM, rl21, rl25, sp_rg, sp_iI, sp_iG, sp_iS, h.1.1.2.1, nI_lt_b, hj, kb, kc, c2, sp_sum, c]
        · rw [if_neg c] at kb
          simp (decide := true) (disch := omega) only [e208_20, e208_21, e208_24, e208_27, e208_28, e208_29, e208_30, e208_33, e208_36, e208_37, e208_38, e208_41, e208_42, e208_45, e208_46, e208_49, e208_50, e208_51, e208_52, e208_53, e208_56, e208_57, e208_58, e208_59, e208_62, bi_s, tyX, rl1, rl2, rl4, ↓reduceIte, Option.bind_some, true_and, and_true, false_and, and_false, true_or, or_true, false_or, or_false, if_same0, ite_eq0, ite_eq0', ite_eq1, ite_eq1', or_em, or_em', ite_not, lcmp0, lcmpL, lcmpG, nI_cl_b, eb_in_b, nI_1, nI_pred, Int32.reduceToNatClampNeg, eb_u_ap, Prod.mk.injEq, not_true_eq_false, not_false_eq_true, tyM, rl21, rl25, sp_rg, sp_iI, sp_iG, sp_iS, h.1.1.2.1, nI_lt_b, hj, kb, sp_sum, c])
    simp only [nI_0] at e
    have e0 : sp_sum (fun j => if sp_bk (S.1.2.2.2.2 j 0) = true ∧ sp_enc (sp_choice S.1 j) = a then S.1.2.2.2.2 j 1 else 0) 0 = 0 := rfl
    rw [e0] at e
    simp (decide := true) (disch := omega) only [e208_0, e208_1, e208_2, e208_5, e208_8, e208_9, e208_11, e208_14, e208_15, e208_16, e208_17, e208_18, bi_s, tyX, rl1, rl2, rl4, ↓reduceIte, Option.bind_some, true_and, and_true, false_and, and_false, true_or, or_true, false_or, or_false, if_same0, ite_eq0, ite_eq0', ite_eq1, ite_eq1', or_em, or_em', ite_not, lcmp0, lcmpL, lcmpG, nI_cl_b, eb_in_b, nI_1, nI_pred, Int32.reduceToNatClampNeg, eb_u_ap, Prod.mk.injEq, not_true_eq_false, not_false_eq_true, tyM, rl21, rl25, sp_rg, sp_iI, sp_iG, sp_iS, hI]
    rw [e, e208_19]
    simp (decide := true) (disch := omega) only [e208_20, e208_21, e208_24, e208_27, e208_28, e208_29, e208_30, e208_33, e208_36, e208_37, e208_38, e208_41, e208_42, e208_45, e208_46, e208_49, e208_50, e208_51, e208_52, e208_53, e208_56, e208_57, e208_58, e208_59, e208_62, e208_65, e208_66, bi_s, tyX, rl1, rl2, rl4, ↓reduceIte, Option.bind_some, true_and, and_true, false_and, and_false, true_or, or_true, false_or, or_false, if_same0, ite_eq0, ite_eq0', ite_eq1, ite_eq1', or_em, or_em', ite_not, lcmp0, lcmpL, lcmpG, nI_cl_b, eb_in_b, nI_1, nI_pred, Int32.reduceToNatClampNeg, eb_u_ap, Prod.mk.injEq, not_true_eq_false, not_false_eq_true, tyM, rl21, rl25, sp_rg, sp_iI, sp_iG, sp_iS, h.1.1.2.1, nI_lt_b, Nat.lt_irrefl]
    exact ⟨nc, ns, I, J, mt, mk, rfl, fm_0 h⟩
  · rw [if_neg c1] at hI
    rw [if_neg c1]
    simp (decide := true) (disch := omega) only [e208_0, e208_1, e208_2, e208_5, e208_8, e208_9, e208_11, e208_14, e208_15, e208_16, e208_17, e208_18, bi_s, tyX, rl1, rl2, rl4, ↓reduceIte, Option.bind_some, true_and, and_true, false_and, and_false, true_or, or_true, false_or, or_false, if_same0, ite_eq0, ite_eq0', ite_eq1, ite_eq1', or_em, or_em', ite_not, lcmp0, lcmpL, lcmpG, nI_cl_b, eb_in_b, nI_1, nI_pred, Int32.reduceToNatClampNeg, eb_u_ap, Prod.mk.injEq, not_true_eq_false, not_false_eq_true, tyM, rl21, rl25, sp_rg, sp_iI, sp_iG, sp_iS, hI, m_refuse0]
    exact ⟨nc, ns, _, J, mt, mk, rfl, fm_rf h (by omega)⟩
theorem ok_l0 {w : eb_W} (hw : sp_ok w) (hi : i < w.1) : (w.2.2.2.1 i 5 = 0) = (w.2.2.2.1 i 5 < 1) := by
  obtain ⟨-, -, -, -, -, q⟩ := hw.2.2.2.1 i hi
  obtain ⟨l, hl, el⟩ := eb_rg 99 q.1 q.2 (by omega)
  rw [el, show (0 : Int32) = nI 0 from rfl, show (1 : Int32) = nI 1 from rfl, nI_eq_b (by omega) (by omega), nI_lt_b (by omega) (by omega)]
  exact propext ⟨fun q => by omega, fun q => by omega⟩
theorem mf_lean (ok : sp_St S) {a : Int32} : eb_FM L (d + 7) 209 [zi a] S (sf_lean S a).2 (zi (sf_lean S a).1) := by
  intro nc ns I J C mt mk h
  rw [h209 rfl]
  unfold sf_lean
  have hI := m_isInn (L := L) (d := d + 4) (nc := nc) (ns := ns) (J := J) (C := C) (mt := mt) (mk := mk) (x := a) h.1 ok.1
  have hn1 := ok.1.1
  by_cases c1 : sp_iI S.1 a
  · rw [if_pos c1] at hI
    rw [if_neg (fun q => q c1)]
    obtain ⟨i, hi, rfl⟩ := rg_nat (by omega) c1
    have k0 := h.1.2.1 i hi 0 (by omega)
    have k5 := h.1.2.1 i hi 5 (by omega)
    have k6 := h.1.2.1 i hi 6 (by omega)
    have hl0 := ok_l0 ok.1 hi
    rw [show tn (nI i) = i from nI_cl_b (by omega)]
    by_cases c2 : S.1.2.2.2.1 i 5 < 1
    · rw [if_pos c2]
      have hz : (S.1.2.2.2.1 i 5 = 0) = True := by rw [hl0]; exact eq_true c2
      simp (decide := true) (disch := omega) only [e209_0, e209_1, e209_2, e209_5, e209_8, e209_10, e209_11, e209_13, e209_16, e209_17, e209_18, e209_19, e209_22, e209_23, e209_24, e209_25, e209_26, e209_29, e209_31, e209_32, e209_34, e209_37, e209_38, e209_41, e209_42, e209_45, e209_46, e209_47, e209_49, e209_50, e209_51, e209_54, e209_55, e209_56, e209_57, e209_58, e209_59, e209_60, e209_63, e209_64, e209_65, e209_66, e209_67, e209_68, bi_s, tyX, rl1, rl2, rl4, ↓reduceIte, Option.bind_some, true_and, and_true, false_and, and_false, true_or, or_true, false_or, or_false, if_same0, ite_eq0, ite_eq0', ite_eq1, ite_eq1', or_em, or_em', ite_not, lcmp0, lcmpL, lcmpG, nI_cl_b, eb_in_b, nI_1, nI_pred, Int32.reduceToNatClampNeg, eb_u_ap, Prod.mk.injEq, not_true_eq_false, not_false_eq_true, tyM, rl21, rl25, sp_rg, sp_iI, sp_iG, sp_iS, hI, k5, hz, m_refuse3]
      exact ⟨nc, ns, _, J, mt, mk, rfl, fm_rf h (by omega)⟩
    · rw [if_neg c2]
      have hz : (S.1.2.2.2.1 i 5 = 0) = False := by rw [hl0]; exact eq_false c2
      simp (decide := true) (disch := omega) only [e209_0, e209_1, e209_2, e209_5, e209_8, e209_10, e209_11, e209_13, e209_16, e209_17, e209_18, e209_19, e209_22, e209_23, e209_24, e209_25, e209_26, e209_29, e209_31, e209_32, e209_34, e209_37, e209_38, e209_41, e209_42, e209_45, e209_46, e209_47, e209_49, e209_50, e209_51, e209_54, e209_55, e209_56, e209_57, e209_58, e209_59, e209_60, e209_63, e209_64, e209_65, e209_66, e209_67, e209_68, bi_s, tyX, rl1, rl2, rl4, ↓reduceIte, Option.bind_some, true_and, and_true, false_and, and_false, true_or, or_true, false_or, or_false, if_same0, ite_eq0, ite_eq0', ite_eq1, ite_eq1', or_em, or_em', ite_not, lcmp0, lcmpL, lcmpG, nI_cl_b, eb_in_b, nI_1, nI_pred, Int32.reduceToNatClampNeg, eb_u_ap, Prod.mk.injEq, not_true_eq_false, not_false_eq_true, tyM, rl21, rl25, sp_rg, sp_iI, sp_iG, sp_iS, hI, k5, hz, k6, k0]
      exact ⟨nc, ns, I, J, mt, mk, rfl, fm_0 h⟩
  · rw [if_neg c1] at hI
    rw [if_pos c1]
    simp (decide := true) (disch := omega) only [e209_0, e209_1, e209_2, e209_5, e209_8, e209_10, e209_11, e209_13, e209_16, e209_17, e209_18, e209_19, e209_22, e209_23, e209_24, e209_25, e209_26, e209_29, e209_31, e209_32, e209_34, e209_37, e209_38, e209_41, e209_42, e209_45, e209_46, e209_47, e209_49, e209_50, e209_51, e209_54, e209_55, e209_56, e209_57, e209_58, e209_59, e209_60, e209_63, e209_64, e209_65, e209_66, e209_67, e209_68, bi_s, tyX, rl1, rl2, rl4, ↓reduceIte, Option.bind_some, true_and, and_true, false_and, and_false, true_or, or_true, false_or, or_false, if_same0, ite_eq0, ite_eq0', ite_eq1, ite_eq1', or_em, or_em', ite_not, lcmp0, lcmpL, lcmpG, nI_cl_b, eb_in_b, nI_1, nI_pred, Int32.reduceToNatClampNeg, eb_u_ap, Prod.mk.injEq, not_true_eq_false, not_false_eq_true, tyM, rl21, rl25, sp_rg, sp_iI, sp_iG, sp_iS, hI, m_refuse0]
    exact ⟨nc, ns, _, J, mt, mk, rfl, fm_rf h (by omega)⟩
theorem mf_nine (ok : sp_St S) {a b c : Int32} : eb_FM L (d + 7) 219 [zi a, zi b, zi c] S (sf_nine S a b c).2 (zi (sf_nine S a b c).1) := by
  intro nc ns I J C mt mk h
  rw [h219 rfl]
  unfold sf_nine
  have hI := m_isInn (L := L) (d := d + 4) (nc := nc) (ns := ns) (J := J) (C := C) (mt := mt) (mk := mk) (x := a) h.1 ok.1
  have hn1 := ok.1.1
  by_cases c1 : sp_iI S.1 a
  · rw [if_pos c1] at hI
    by_cases c2 : sp_rg b 1 40
    · by_cases c3 : sp_rg c 0 100
      · rw [if_pos ⟨c1, c2, c3⟩]
        obtain ⟨i, hi, rfl⟩ := rg_nat (by omega) c1
        have k0 := h.1.2.1 i hi 0 (by omega)
        have k5 := h.1.2.1 i hi 5 (by omega)
        have k6 := h.1.2.1 i hi 6 (by omega)
        have hq : ¬ S.1.2.2.2.1 i 5 + b = 0 := by
          obtain ⟨x, hx, ex⟩ := eb_rg 99 (ok.1.2.2.2.1 i hi).2.2.2.2.2.1 (ok.1.2.2.2.1 i hi).2.2.2.2.2.2 (by omega)
          obtain ⟨y, hy, rfl⟩ := rg_le 40 (by omega) (by decide) c2
          have h1 := c2.1
          rw [show (1 : Int32) = nI 1 from rfl, nI_le_b (by omega) (by omega)] at h1
          rw [ex, nI_add, show (0 : Int32) = nI 0 from rfl, nI_eq_b (by omega) (by omega)]
          omega
        simp (decide := true) (disch := omega) only [e219_0, e219_1, e219_2, e219_5, e219_8, e219_9, e219_10, e219_11, e219_14, e219_17, e219_20, e219_21, e219_22, e219_23, e219_26, e219_29, e219_32, e219_34, e219_35, e219_37, e219_40, e219_41, e219_42, e219_43, e219_46, e219_47, e219_48, e219_50, e219_51, e219_52, e219_53, e219_54, e219_55, e219_56, e219_59, e219_60, e219_61, e219_62, e219_63, e219_64, e219_65, e219_66, e219_67, e219_70, e219_71, e219_72, e219_73, e219_74, e219_75, bi_s, tyX, rl1, rl2, rl4, ↓reduceIte, Option.bind_some, true_and, and_true, false_and, and_false, true_or, or_true, false_or, or_false, if_same0, ite_eq0, ite_eq0', ite_eq1, ite_eq1', or_em, or_em', ite_not, lcmp0, lcmpL, lcmpG, nI_cl_b, eb_in_b, nI_1, nI_pred, Int32.reduceToNatClampNeg, eb_u_ap, Prod.mk.injEq, not_true_eq_false, not_false_eq_true, tyM, rl21, rl25, sp_rg, sp_iI, sp_iG, sp_iS, hI, m_ins, c2, c3, k5, hq, k6, k0, tn]
        exact ⟨nc, ns, I, J, mt, mk, rfl, fm_0 h⟩
      · rw [if_neg (fun q => c3 q.2.2)]
        simp (decide := true) (disch := omega) only [e219_0, e219_1, e219_2, e219_5, e219_8, e219_9, e219_10, e219_11, e219_14, e219_17, e219_20, e219_21, e219_22, e219_23, e219_26, e219_29, e219_32, e219_34, e219_35, e219_37, e219_40, e219_41, e219_42, e219_43, e219_46, e219_47, e219_48, e219_50, e219_51, e219_52, e219_53, e219_54, e219_55, e219_56, e219_59, e219_60, e219_61, e219_62, e219_63, e219_64, e219_65, e219_66, e219_67, e219_70, e219_71, e219_72, e219_73, e219_74, e219_75, bi_s, tyX, rl1, rl2, rl4, ↓reduceIte, Option.bind_some, true_and, and_true, false_and, and_false, true_or, or_true, false_or, or_false, if_same0, ite_eq0, ite_eq0', ite_eq1, ite_eq1', or_em, or_em', ite_not, lcmp0, lcmpL, lcmpG, nI_cl_b, eb_in_b, nI_1, nI_pred, Int32.reduceToNatClampNeg, eb_u_ap, Prod.mk.injEq, not_true_eq_false, not_false_eq_true, tyM, rl21, rl25, sp_rg, sp_iI, sp_iG, sp_iS, hI, m_ins, c2, c3, m_refuse0]
        exact ⟨nc, ns, _, J, mt, mk, rfl, fm_rf h (by omega)⟩
    · rw [if_neg (fun q => c2 q.2.1)]
      simp (decide := true) (disch := omega) only [e219_0, e219_1, e219_2, e219_5, e219_8, e219_9, e219_10, e219_11, e219_14, e219_17, e219_20, e219_21, e219_22, e219_23, e219_26, e219_29, e219_32, e219_34, e219_35, e219_37, e219_40, e219_41, e219_42, e219_43, e219_46, e219_47, e219_48, e219_50, e219_51, e219_52, e219_53, e219_54, e219_55, e219_56, e219_59, e219_60, e219_61, e219_62, e219_63, e219_64, e219_65, e219_66, e219_67, e219_70, e219_71, e219_72, e219_73, e219_74, e219_75, bi_s, tyX, rl1, rl2, rl4, ↓reduceIte, Option.bind_some, true_and, and_true, false_and, and_false, true_or, or_true, false_or, or_false, if_same0, ite_eq0, ite_eq0', ite_eq1, ite_eq1', or_em, or_em', ite_not, lcmp0, lcmpL, lcmpG, nI_cl_b, eb_in_b, nI_1, nI_pred, Int32.reduceToNatClampNeg, eb_u_ap, Prod.mk.injEq, not_true_eq_false, not_false_eq_true, tyM, rl21, rl25, sp_rg, sp_iI, sp_iG, sp_iS, hI, m_ins, c2, m_refuse0]
      exact ⟨nc, ns, _, J, mt, mk, rfl, fm_rf h (by omega)⟩
  · rw [if_neg c1] at hI
    rw [if_neg (fun q => c1 q.1)]
    simp (decide := true) (disch := omega) only [e219_0, e219_1, e219_2, e219_5, e219_8, e219_9, e219_10, e219_11, e219_14, e219_17, e219_20, e219_21, e219_22, e219_23, e219_26, e219_29, e219_32, e219_34, e219_35, e219_37, e219_40, e219_41, e219_42, e219_43, e219_46, e219_47, e219_48, e219_50, e219_51, e219_52, e219_53, e219_54, e219_55, e219_56, e219_59, e219_60, e219_61, e219_62, e219_63, e219_64, e219_65, e219_66, e219_67, e219_70, e219_71, e219_72, e219_73, e219_74, e219_75, bi_s, tyX, rl1, rl2, rl4, ↓reduceIte, Option.bind_some, true_and, and_true, false_and, and_false, true_or, or_true, false_or, or_false, if_same0, ite_eq0, ite_eq0', ite_eq1, ite_eq1', or_em, or_em', ite_not, lcmp0, lcmpL, lcmpG, nI_cl_b, eb_in_b, nI_1, nI_pred, Int32.reduceToNatClampNeg, eb_u_ap, Prod.mk.injEq, not_true_eq_false, not_false_eq_true, tyM, rl21, rl25, sp_rg, sp_iI, sp_iG, sp_iS, hI, m_refuse0]
    exact ⟨nc, ns, _, J, mt, mk, rfl, fm_rf h (by omega)⟩
theorem mf_truest (ok : sp_St S) : eb_FM L (d + 7) 211 [] S (sf_truest S).2 (zi (sf_truest S).1) := by
  intro nc ns I J C mt mk h
  rw [h211 rfl]
  unfold sf_truest
  have hn := ok.1.1
  have e := m_truestOf (L := L) (d := d + 5) (nc := nc) (ns := ns) (J := J) (C := C) (mt := mt) (mk := mk) h.1 ok.1
  cases hb : sp_truest S.1 with
  | none =>
    rw [hb] at e
    simp (decide := true) (disch := omega) only [e211_0, e211_1, e211_4, e211_5, e211_6, e211_7, e211_10, e211_11, e211_13, e211_16, e211_19, e211_20, bi_s, tyX, rl1, rl2, rl4, ↓reduceIte, Option.bind_some, true_and, and_true, false_and, and_false, true_or, or_true, false_or, or_false, if_same0, ite_eq0, ite_eq0', ite_eq1, ite_eq1', or_em, or_em', ite_not, lcmp0, lcmpL, lcmpG, nI_cl_b, eb_in_b, nI_1, nI_pred, Int32.reduceToNatClampNeg, eb_u_ap, Prod.mk.injEq, not_true_eq_false, not_false_eq_true, tyM, rl21, rl25, sp_rg, sp_iI, sp_iG, sp_iS, e, sp_enc, m_refuse3]
    exact ⟨nc, ns, _, J, mt, mk, rfl, fm_rf h (by omega)⟩
  | some b =>
    rw [hb] at e
    have := (sp_best_lt hb).1
    simp (decide := true) (disch := omega) only [e211_0, e211_1, e211_4, e211_5, e211_6, e211_7, e211_10, e211_11, e211_13, e211_16, e211_19, e211_20, bi_s, tyX, rl1, rl2, rl4, ↓reduceIte, Option.bind_some, true_and, and_true, false_and, and_false, true_or, or_true, false_or, or_false, if_same0, ite_eq0, ite_eq0', ite_eq1, ite_eq1', or_em, or_em', ite_not, lcmp0, lcmpL, lcmpG, nI_cl_b, eb_in_b, nI_1, nI_pred, Int32.reduceToNatClampNeg, eb_u_ap, Prod.mk.injEq, not_true_eq_false, not_false_eq_true, tyM, rl21, rl25, sp_rg, sp_iI, sp_iG, sp_iS, e, sp_enc, nI_m1]
    exact ⟨nc, ns, I, J, mt, mk, rfl, fm_0 h⟩
theorem m_wrongBy (h : eb_RM I r w) (hw : sp_ok w) (hi : i < w.1) : eb_ev L (d + 1) 212 [zr (21, r, 0), zi (nI i)] (nc, ns, I, J, eb_RL C mt mk) = some (zi (sp_abs (w.2.2.2.1 i 4 - w.2.2.2.1 i 0)), (nc, ns, I, J, eb_RL C mt mk)) := by
  have hn := hw.1
  have k0 := h.2.1 i hi 0 (by omega)
  have k4 := h.2.1 i hi 4 (by omega)
  rw [h212 rfl]
  unfold sp_abs
  by_cases c : w.2.2.2.1 i 4 - w.2.2.2.1 i 0 < 0
  · have c2 : ¬ 0 ≤ w.2.2.2.1 i 4 - w.2.2.2.1 i 0 := Int32.not_le.mpr c
    simp (decide := true) (disch := omega) only [e212_0, e212_1, e212_4, e212_5, e212_6, e212_7, e212_8, e212_9, e212_12, e212_13, e212_14, e212_15, e212_16, e212_17, e212_18, e212_19, e212_22, e212_23, e212_24, e212_27, e212_28, bi_s, tyX, rl1, rl2, rl4, ↓reduceIte, Option.bind_some, true_and, and_true, false_and, and_false, true_or, or_true, false_or, or_false, if_same0, ite_eq0, ite_eq0', ite_eq1, ite_eq1', or_em, or_em', ite_not, lcmp0, lcmpL, lcmpG, nI_cl_b, eb_in_b, nI_1, nI_pred, Int32.reduceToNatClampNeg, eb_u_ap, Prod.mk.injEq, not_true_eq_false, not_false_eq_true, tyM, rl21, rl25, sp_rg, sp_iI, sp_iG, sp_iS, k4, k0, c, c2]
    rw [Int32.zero_sub]
  · have c2 : 0 ≤ w.2.2.2.1 i 4 - w.2.2.2.1 i 0 := Int32.not_lt.mp c
    simp (decide := true) (disch := omega) only [e212_0, e212_1, e212_4, e212_5, e212_6, e212_7, e212_8, e212_9, e212_12, e212_13, e212_14, e212_15, e212_16, e212_17, e212_18, e212_19, e212_22, e212_23, e212_24, e212_27, e212_28, bi_s, tyX, rl1, rl2, rl4, ↓reduceIte, Option.bind_some, true_and, and_true, false_and, and_false, true_or, or_true, false_or, or_false, if_same0, ite_eq0, ite_eq0', ite_eq1, ite_eq1', or_em, or_em', ite_not, lcmp0, lcmpL, lcmpG, nI_cl_b, eb_in_b, nI_1, nI_pred, Int32.reduceToNatClampNeg, eb_u_ap, Prod.mk.injEq, not_true_eq_false, not_false_eq_true, tyM, rl21, rl25, sp_rg, sp_iI, sp_iG, sp_iS, k4, k0, c, c2]
theorem mf_oldest (ok : sp_St S) : eb_FM L (d + 7) 213 [] S (sf_oldest S).2 (zi (sf_oldest S).1) := by
  intro nc ns I J C mt mk h
  rw [h213 rfl]
  unfold sf_oldest sp_oldest
  have hn := ok.1.1
  simp (decide := true) (disch := omega) only [e213_0, e213_1, e213_2, e213_3, bi_s, tyX, rl1, rl2, rl4, ↓reduceIte, Option.bind_some, true_and, and_true, false_and, and_false, true_or, or_true, false_or, or_false, if_same0, ite_eq0, ite_eq0', ite_eq1, ite_eq1', or_em, or_em', ite_not, lcmp0, lcmpL, lcmpG, nI_cl_b, eb_in_b, nI_1, nI_pred, Int32.reduceToNatClampNeg, eb_u_ap, Prod.mk.injEq, not_true_eq_false, not_false_eq_true, tyM, rl21, rl25, sp_rg, sp_iI, sp_iG, sp_iS]
  generalize hs : (fun i => sp_abs (S.1.2.2.2.1 i 4 - S.1.2.2.2.1 i 0)) = s
  generalize hp : (fun i => decide (¬ S.1.2.2.2.1 i 4 = -1)) = p
  have hwb : ∀ i, i < S.1.1 → eb_ev L (d + 6) 212 [zr (21, 0, 0), zi (nI i)] (nc, ns, I, J, eb_RL C mt mk) = some (zi (s i), (nc, ns, I, J, eb_RL C mt mk)) := fun i hi => by rw [m_wrongBy h.1 ok.1 hi, ← hs]
  obtain ⟨t, e, e1⟩ := eb_loop (α := Int32 × Option eb_V) (n := S.1.1) (s0 := (-1, none))
    (F := fun i t => eb_E L (d + 6) 213 4 [some (zr (21, 0, 0)), some (zi t.1), some (zi (nI i)), t.2] [] (nc, ns, I, J, eb_RL C mt mk))
    (P := fun i t => t.1 = sp_enc (sp_best p s i))
    rfl (by
      intro i t hi hP
      obtain ⟨t1, t2⟩ := t
      have hP : t1 = sp_enc (sp_best p s i) := hP
      have k4 := h.1.2.1 i hi 4 (by omega)
      have hpi : p i = decide (¬ S.1.2.2.2.1 i 4 = -1) := by rw [← hp]
      have hbs := sp_best_s (has := p) (f := s) (n := i)
      have w1 := hwb i hi
      rw [e213_4]
      by_cases c : S.1.2.2.2.1 i 4 = -1
      · have hf : p i = false := by rw [hpi, c]; decide
        have hb : sp_best p s (i + 1) = sp_best p s i := by
          rw [hbs]
          cases sp_best p s i with
          | none => simp [hf]
          | some b => simp [hf]
        simp (decide := true) (disch := omega) only [e213_5, e213_6, e213_9, e213_12, e213_13, e213_16, e213_17, e213_18, e213_19, e213_20, e213_21, e213_24, e213_25, e213_28, e213_29, e213_30, e213_31, e213_34, e213_35, e213_36, e213_39, e213_40, e213_41, e213_44, e213_45, e213_46, e213_49, e213_52, e213_53, e213_56, e213_57, e213_58, e213_61, bi_s, tyX, rl1, rl2, rl4, ↓reduceIte, Option.bind_some, true_and, and_true, false_and, and_false, true_or, or_true, false_or, or_false, if_same0, ite_eq0, ite_eq0', ite_eq1, ite_eq1', or_em, or_em', ite_not, lcmp0, lcmpL, lcmpG, nI_cl_b, eb_in_b, nI_1, nI_pred, Int32.reduceToNatClampNeg, eb_u_ap, Prod.mk.injEq, not_true_eq_false, not_false_eq_true, tyM, rl21, rl25, sp_rg, sp_iI, sp_iG, sp_iS, h.1.1.1, nI_lt_b, hi, k4, c]
        exact ⟨(t1, some (zi 0)), rfl, by rw [hb]; exact hP⟩
      · have ht : p i = true := by rw [hpi]; exact decide_eq_true c
        cases hq : sp_best p s i with
        | none =>
          rw [hq] at hbs hP
          have hbs : sp_best p s (i + 1) = some i := hbs.trans (if_pos ht)
          have hP : t1 = -1 := hP
          simp (decide := true) (disch := omega) only [e213_5, e213_6, e213_9, e213_12, e213_13, e213_16, e213_17, e213_18, e213_19, e213_20, e213_21, e213_24, e213_25, e213_28, e213_29, e213_30, e213_31, e213_34, e213_35, e213_36, e213_39, e213_40, e213_41, e213_44, e213_45, e213_46, e213_49, e213_52, e213_53, e213_56, e213_57, e213_58, e213_61, bi_s, tyX, rl1, rl2, rl4, ↓reduceIte, Option.bind_some, true_and, and_true, false_and, and_false, true_or, or_true, false_or, or_false, if_same0, ite_eq0, ite_eq0', ite_eq1, ite_eq1', or_em, or_em', ite_not, lcmp0, lcmpL, lcmpG, nI_cl_b, eb_in_b, nI_1, nI_pred, Int32.reduceToNatClampNeg, eb_u_ap, Prod.mk.injEq, not_true_eq_false, not_false_eq_true, tyM, rl21, rl25, sp_rg, sp_iI, sp_iG, sp_iS, h.1.1.1, nI_lt_b, hi, k4, c, hP]
          exact ⟨(nI i, some (zi 1)), rfl, by rw [hbs]; rfl⟩
        | some b =>
          have hb := (sp_best_lt hq).1
          have w2 := hwb b (by omega)
          rw [hq] at hbs hP
          have hP : t1 = nI b := hP
          by_cases c2 : s b < s i
          · have hbs : sp_best p s (i + 1) = some i := hbs.trans (if_pos ⟨ht, c2⟩)
            simp (decide := true) (disch := omega) only [e213_5, e213_6, e213_9, e213_12, e213_13, e213_16, e213_17, e213_18, e213_19, e213_20, e213_21, e213_24, e213_25, e213_28, e213_29, e213_30, e213_31, e213_34, e213_35, e213_36, e213_39, e213_40, e213_41, e213_44, e213_45, e213_46, e213_49, e213_52, e213_53, e213_56, e213_57, e213_58, e213_61, bi_s, tyX, rl1, rl2, rl4, ↓reduceIte, Option.bind_some, true_and, and_true, false_and, and_false, true_or, or_true, false_or, or_false, if_same0, ite_eq0, ite_eq0', ite_eq1, ite_eq1', or_em, or_em', ite_not, lcmp0, lcmpL, lcmpG, nI_cl_b, eb_in_b, nI_1, nI_pred, Int32.reduceToNatClampNeg, eb_u_ap, Prod.mk.injEq, not_true_eq_false, not_false_eq_true, tyM, rl21, rl25, sp_rg, sp_iI, sp_iG, sp_iS, h.1.1.1, nI_lt_b, hi, k4, c, hP, nI_m1, w1, w2, c2]
            exact ⟨(nI i, some (zi 1)), rfl, by rw [hbs]; rfl⟩
          · have hbs : sp_best p s (i + 1) = some b := hbs.trans (if_neg (fun z => c2 z.2))
            simp (decide := true) (disch := omega) only [e213_5, e213_6, e213_9, e213_12, e213_13, e213_16, e213_17, e213_18, e213_19, e213_20, e213_21, e213_24, e213_25, e213_28, e213_29, e213_30, e213_31, e213_34, e213_35, e213_36, e213_39, e213_40, e213_41, e213_44, e213_45, e213_46, e213_49, e213_52, e213_53, e213_56, e213_57, e213_58, e213_61, bi_s, tyX, rl1, rl2, rl4, ↓reduceIte, Option.bind_some, true_and, and_true, false_and, and_false, true_or, or_true, false_or, or_false, if_same0, ite_eq0, ite_eq0', ite_eq1, ite_eq1', or_em, or_em', ite_not, lcmp0, lcmpL, lcmpG, nI_cl_b, eb_in_b, nI_1, nI_pred, Int32.reduceToNatClampNeg, eb_u_ap, Prod.mk.injEq, not_true_eq_false, not_false_eq_true, tyM, rl21, rl25, sp_rg, sp_iI, sp_iG, sp_iS, h.1.1.1, nI_lt_b, hi, k4, c, hP, nI_m1, w1, w2, c2]
            exact ⟨(nI b, some (zi 1)), rfl, by rw [hbs]; rfl⟩)
  obtain ⟨t1, t2⟩ := t
  have e1 : t1 = sp_enc (sp_best p s S.1.1) := e1
  simp only [nI_0] at e
  rw [e, e213_4]
  simp (decide := true) (disch := omega) only [e213_5, e213_6, e213_9, e213_12, e213_13, e213_16, e213_17, e213_18, e213_19, e213_20, e213_21, e213_24, e213_25, e213_28, e213_29, e213_30, e213_31, e213_34, e213_35, e213_36, e213_39, e213_40, e213_41, e213_44, e213_45, e213_46, e213_49, e213_52, e213_53, e213_56, e213_57, e213_58, e213_61, e213_64, e213_65, bi_s, tyX, rl1, rl2, rl4, ↓reduceIte, Option.bind_some, true_and, and_true, false_and, and_false, true_or, or_true, false_or, or_false, if_same0, ite_eq0, ite_eq0', ite_eq1, ite_eq1', or_em, or_em', ite_not, lcmp0, lcmpL, lcmpG, nI_cl_b, eb_in_b, nI_1, nI_pred, Int32.reduceToNatClampNeg, eb_u_ap, Prod.mk.injEq, not_true_eq_false, not_false_eq_true, tyM, rl21, rl25, sp_rg, sp_iI, sp_iG, sp_iS, h.1.1.1, nI_lt_b, Nat.lt_irrefl]
  exact ⟨nc, ns, I, J, mt, mk, by rw [e1], fm_0 h⟩
end

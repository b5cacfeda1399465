/-! the class's faces: what else is thought of tonight, years, letters drawn, the image -/
section
variable {L d nc ns k i g : Nat} {I : eb_A → Nat → Int32} {J : eb_A → Nat → Int64} {C : Nat → Nat → Nat} {mt mk : Option Nat} {w : eb_W} {R : eb_A → Nat → Option eb_A} {S : eb_St} {M : eb_M}
theorem xf_trust (ok : sp_St S) {a : Int32} : eb_FX L (d + 7) 101 [zi a] S (sf_trust S a).2 (zi (sf_trust S a).1) := by
  intro nc ns I J C mt mk h
  rw [h101 rfl]
  unfold sf_trust
  have hI := x_isInn (L := L) (d := d + 4) (nc := nc) (ns := ns) (J := J) (C := C) (mt := mt) (mk := mk) (x := a) h.1 ok.1
  have hn1 := ok.1.1
  by_cases c1 : sp_iI S.1 a
  · rw [if_pos c1] at hI
    rw [if_pos c1]
    generalize hp : (fun r => decide (0 < sp_crowd (sp_setS S.1 0 (nI r)) a)) = p
    obtain ⟨I0, a1, a2, a3⟩ := x_think (L := L) (d := d + 3) (nc := nc) (ns := ns) (J := J) (C := C) (mt := mt) (mk := mk) h.1 ok.1
    simp (decide := true) (disch := omega) only [e101_0, e101_1, e101_2, e101_5, e101_8, e101_9, e101_11, e101_14, e101_15, e101_16, e101_19a, e101_19b, e101_20, e101_22, e101_24, e101_27, e101_28, e101_31, e101_32, e101_35, e101_36, e101_39, e101_40, e101_43, e101_46, e101_47, e101_48, e101_51, e101_54, e101_55, bi_s, tyX, rl1, rl2, rl4, ↓reduceIte, Option.bind_some, true_and, and_true, false_and, and_false, true_or, or_true, false_or, or_false, if_same0, ite_eq0, ite_eq0', ite_eq1, ite_eq1', or_em, or_em', ite_not, lcmp0, lcmpL, lcmpG, nI_cl_b, eb_in_b, nI_1, nI_pred, Int32.reduceToNatClampNeg, eb_u_ap, Prod.mk.injEq, not_true_eq_false, not_false_eq_true, sp_rg, sp_iI, sp_iG, sp_iS, hI, a1]
    have key := eb_loopE (α := eb_A → Nat → Int32) (n := 100) (s0 := I0)
      (F := fun y s => eb_E L (d + 6) 101 23 [some (zr (1, 0, 0)), some (zi a), some (zi (if y < 100 then nI (99 - y) else -1))] [] (nc, ns, s, J, eb_RL C mt mk))
      (P := fun y s => eb_fr 1 I s ∧ (∃ v, eb_RX s 1 (sp_setS S.1 0 v)) ∧ sp_lst p (100 - y) = sp_lst p 100)
      (Q := fun r => ∃ I' J' C', r = some (zi (sp_lst p 100), (nc, ns, I', J', eb_RL C' mt mk)) ∧ eb_XS S I' J' ∧ eb_fX I I' ∧ eb_fJ J J')
      ⟨a2, ⟨S.1.2.2.1 0, by
        obtain ⟨q1, q2, q3⟩ := a3
        exact ⟨⟨q1.1, q1.2.1, q1.2.2.1, q1.2.2.2.1, q1.2.2.2.2⟩, q2, q3⟩⟩, rfl⟩ (by
        intro y I1 hy hP
        obtain ⟨h1, ⟨v, h3⟩, h2⟩ := hP
        have r1 := RX_setA (v := nI (99 - y)) h3
        have r2 : eb_RX (eb_u I1 (4, 1, 0) 4 (nI (99 - y))) 1 (sp_setS S.1 0 (nI (99 - y))) := by
          obtain ⟨q1, q2, q3⟩ := r1.1
          exact ⟨⟨q1.1, q1.2.1, q1.2.2.1, q1.2.2.2.1, q1.2.2.2.2⟩, q2, q3⟩
        have ok1 : sp_ok (sp_setS S.1 0 (nI (99 - y))) := ok_setA ok.1 (nI_rg (lo := 0) (hi := 99) ⟨by omega, by omega⟩ (by omega))
        have hc := x_crowdOf (L := L) (d := d + 2) (nc := nc) (ns := ns) (J := J) (C := C) (mt := mt) (mk := mk) r2 ok1 (x := a)
        have hpy : p (99 - y) = decide (0 < sp_crowd (sp_setS S.1 0 (nI (99 - y))) a) := by rw [← hp]
        have hl : (if y < 100 then nI (99 - y) else -1) = nI (99 - y) := if_pos hy
        have h100 : 100 - y = (99 - y) + 1 := by omega
        rw [h100] at h2
        have h2 : (if p (99 - y) = true then nI (99 - y) else sp_lst p (99 - y)) = sp_lst p 100 := h2
        have hneg : (nI (99 - y) < 0) = False := nI_neg (by omega)
        rw [hl, e101_23]
        by_cases c : 0 < sp_crowd (sp_setS S.1 0 (nI (99 - y))) a
        · right
          rw [hpy, if_pos (decide_eq_true c)] at h2
          simp (decide := true) (disch := omega) only [e101_0, e101_1, e101_2, e101_5, e101_8, e101_9, e101_11, e101_14, e101_15, e101_16, e101_19a, e101_19b, e101_20, e101_22, e101_24, e101_27, e101_28, e101_31, e101_32, e101_35, e101_36, e101_39, e101_40, e101_43, e101_46, e101_47, e101_48, e101_51, e101_54, e101_55, bi_s, tyX, rl1, rl2, rl4, ↓reduceIte, Option.bind_some, true_and, and_true, false_and, and_false, true_or, or_true, false_or, or_false, if_same0, ite_eq0, ite_eq0', ite_eq1, ite_eq1', or_em, or_em', ite_not, lcmp0, lcmpL, lcmpG, nI_cl_b, eb_in_b, nI_1, nI_pred, Int32.reduceToNatClampNeg, eb_u_ap, Prod.mk.injEq, not_true_eq_false, not_false_eq_true, sp_rg, sp_iI, sp_iG, sp_iS, hneg, hc, c]
          exact ⟨eb_u I1 (4, 1, 0) 4 (nI (99 - y)), J, C, by rw [← h2], fx_t h (eb_fr_tr h1 r1.2)⟩
        · left
          rw [hpy, if_neg (fun q => c (of_decide_eq_true q))] at h2
          simp (decide := true) (disch := omega) only [e101_0, e101_1, e101_2, e101_5, e101_8, e101_9, e101_11, e101_14, e101_15, e101_16, e101_19a, e101_19b, e101_20, e101_22, e101_24, e101_27, e101_28, e101_31, e101_32, e101_35, e101_36, e101_39, e101_40, e101_43, e101_46, e101_47, e101_48, e101_51, e101_54, e101_55, bi_s, tyX, rl1, rl2, rl4, ↓reduceIte, Option.bind_some, true_and, and_true, false_and, and_false, true_or, or_true, false_or, or_false, if_same0, ite_eq0, ite_eq0', ite_eq1, ite_eq1', or_em, or_em', ite_not, lcmp0, lcmpL, lcmpG, nI_cl_b, eb_in_b, nI_1, nI_pred, Int32.reduceToNatClampNeg, eb_u_ap, Prod.mk.injEq, not_true_eq_false, not_false_eq_true, sp_rg, sp_iI, sp_iG, sp_iS, hneg, hc, c]
          refine ⟨_, ?_, eb_fr_tr h1 r1.2, ⟨_, r2⟩, ?_⟩
          · have : nI (99 - y) + -1 = (if y + 1 < 100 then nI (99 - (y + 1)) else -1) := by
              by_cases q : y + 1 < 100
              · rw [if_pos q, show 99 - y = 99 - (y + 1) + 1 by omega, nI_dec]
              · rw [if_neg q, show 99 - y = 0 by omega]; rfl
            rw [this]
          · rw [show 100 - (y + 1) = 99 - y by omega]; exact h2) (by
        intro I1 hP
        obtain ⟨h1, -, h2⟩ := hP
        have h2 : -1 = sp_lst p 100 := h2
        rw [e101_23]
        simp (decide := true) (disch := omega) only [e101_0, e101_1, e101_2, e101_5, e101_8, e101_9, e101_11, e101_14, e101_15, e101_16, e101_19a, e101_19b, e101_20, e101_22, e101_24, e101_27, e101_28, e101_31, e101_32, e101_35, e101_36, e101_39, e101_40, e101_43, e101_46, e101_47, e101_48, e101_51, e101_54, e101_55, bi_s, tyX, rl1, rl2, rl4, ↓reduceIte, Option.bind_some, true_and, and_true, false_and, and_false, true_or, or_true, false_or, or_false, if_same0, ite_eq0, ite_eq0', ite_eq1, ite_eq1', or_em, or_em', ite_not, lcmp0, lcmpL, lcmpG, nI_cl_b, eb_in_b, nI_1, nI_pred, Int32.reduceToNatClampNeg, eb_u_ap, Prod.mk.injEq, not_true_eq_false, not_false_eq_true, sp_rg, sp_iI, sp_iG, sp_iS]
        rw [h2]
        exact ⟨I1, J, C, rfl, fx_t h h1⟩)
    exact key
  · rw [if_neg c1] at hI
    rw [if_neg c1]
    simp (decide := true) (disch := omega) only [e101_0, e101_1, e101_2, e101_5, e101_8, e101_9, e101_11, e101_14, e101_15, e101_16, e101_19a, e101_19b, e101_20, e101_22, e101_24, e101_27, e101_28, e101_31, e101_32, e101_35, e101_36, e101_39, e101_40, e101_43, e101_46, e101_47, e101_48, e101_51, e101_54, e101_55, bi_s, tyX, rl1, rl2, rl4, ↓reduceIte, Option.bind_some, true_and, and_true, false_and, and_false, true_or, or_true, false_or, or_false, if_same0, ite_eq0, ite_eq0', ite_eq1, ite_eq1', or_em, or_em', ite_not, lcmp0, lcmpL, lcmpG, nI_cl_b, eb_in_b, nI_1, nI_pred, Int32.reduceToNatClampNeg, eb_u_ap, Prod.mk.injEq, not_true_eq_false, not_false_eq_true, sp_rg, sp_iI, sp_iG, sp_iS, hI, x_refuse0]
    exact ⟨_, J, C, rfl, fx_rf h (by omega)⟩
theorem xf_share (ok : sp_St S) {a : Int32} : eb_FX L (d + 7) 102 [zi a] S (sf_share S a).2 (zi (sf_share S a).1) := by
  intro nc ns I J C mt mk h
  rw [h102 rfl]
  unfold sf_share
  have hG := x_isGoer (L := L) (d := d + 4) (nc := nc) (ns := ns) (J := J) (C := C) (mt := mt) (mk := mk) (x := a) h.1 ok.1
  have hn1 := ok.1.2.1
  have hn := ok.1.1
  by_cases c1 : sp_iG S.1 a
  · rw [if_pos c1] at hG
    rw [if_neg (fun q => q c1)]
    obtain ⟨g, hg, rfl⟩ := rg_nat (by omega) c1
    have k1 := h.1.2.2 g hg 1 (by omega)
    have e := x_truestInn (L := L) (d := d + 5) (nc := nc) (ns := ns) (J := J) (C := C) (mt := mt) (mk := mk) h.1 ok.1
    cases hb : sp_truest S.1 with
    | none =>
      rw [hb] at e
      have hI := x_isInn (L := L) (d := d + 4) (nc := nc) (ns := ns) (J := J) (C := C) (mt := mt) (mk := mk) (x := -1) h.1 ok.1
      rw [if_neg (fun q => absurd q.1 (by decide))] at hI
      simp (decide := true) (disch := omega) only [e102_0, e102_1, e102_2, e102_5, e102_8, e102_9, e102_11, e102_14, e102_15, e102_16, e102_19, e102_22, e102_23, e102_24, e102_27, e102_30, e102_31, e102_32, e102_35, e102_36, e102_37, e102_38, e102_41, e102_44, e102_45, e102_46, e102_49, e102_50, e102_52, e102_55, e102_56, e102_58, e102_59, e102_62, e102_65, e102_66, e102_67, e102_70, e102_71, e102_72, e102_73, e102_74, e102_75, bi_s, tyX, rl1, rl2, rl4, ↓reduceIte, Option.bind_some, true_and, and_true, false_and, and_false, true_or, or_true, false_or, or_false, if_same0, ite_eq0, ite_eq0', ite_eq1, ite_eq1', or_em, or_em', ite_not, lcmp0, lcmpL, lcmpG, nI_cl_b, eb_in_b, nI_1, nI_pred, Int32.reduceToNatClampNeg, eb_u_ap, Prod.mk.injEq, not_true_eq_false, not_false_eq_true, sp_rg, sp_iI, sp_iG, sp_iS, hG, e, sp_enc, k1, hI, x_refuse3]
      exact ⟨_, J, C, rfl, fx_rf h (by omega)⟩
    | some b =>
      rw [hb] at e
      have hbl := (sp_best_lt hb).1
      have hI := x_isInn (L := L) (d := d + 4) (nc := nc) (ns := ns) (J := J) (C := C) (mt := mt) (mk := mk) (x := nI b) h.1 ok.1
      rw [if_pos ⟨nI_pos' (by omega), by rw [nI_lt_b (by omega) (by omega)]; exact hbl⟩] at hI
      obtain ⟨I1, C1, e1, e2, e3⟩ := x_tonight (L := L) (d := d) (nc := nc) (ns := ns) (J := J) (C := C) (mt := mt) (mk := mk) h.1 ok.1
      have k0 := (e3.2 g hg).1 b hbl
      obtain ⟨-, hh, -⟩ := ok.1.2.2.2.2 g hg
      have z1 : ¬ S.1.2.2.2.2 g 1 < 1 := Int32.not_lt.mpr hh.1
      have z2 : ¬ S.1.2.2.2.2 g 1 = 0 := fun q => by rw [q] at hh; exact absurd hh.1 (by decide)
      simp (decide := true) (disch := omega) only [e102_0, e102_1, e102_2, e102_5, e102_8, e102_9, e102_11, e102_14, e102_15, e102_16, e102_19, e102_22, e102_23, e102_24, e102_27, e102_30, e102_31, e102_32, e102_35, e102_36, e102_37, e102_38, e102_41, e102_44, e102_45, e102_46, e102_49, e102_50, e102_52, e102_55, e102_56, e102_58, e102_59, e102_62, e102_65, e102_66, e102_67, e102_70, e102_71, e102_72, e102_73, e102_74, e102_75, bi_s, tyX, rl1, rl2, rl4, ↓reduceIte, Option.bind_some, true_and, and_true, false_and, and_false, true_or, or_true, false_or, or_false, if_same0, ite_eq0, ite_eq0', ite_eq1, ite_eq1', or_em, or_em', ite_not, lcmp0, lcmpL, lcmpG, nI_cl_b, eb_in_b, nI_1, nI_pred, Int32.reduceToNatClampNeg, eb_u_ap, Prod.mk.injEq, not_true_eq_false, not_false_eq_true, sp_rg, sp_iI, sp_iG, sp_iS, hG, e, sp_enc, k1, hI, z1, e1, k0, z2, tn]
      exact ⟨_, J, C1, rfl, fx_n h e2⟩
  · rw [if_neg c1] at hG
    rw [if_pos c1]
    simp (decide := true) (disch := omega) only [e102_0, e102_1, e102_2, e102_5, e102_8, e102_9, e102_11, e102_14, e102_15, e102_16, e102_19, e102_22, e102_23, e102_24, e102_27, e102_30, e102_31, e102_32, e102_35, e102_36, e102_37, e102_38, e102_41, e102_44, e102_45, e102_46, e102_49, e102_50, e102_52, e102_55, e102_56, e102_58, e102_59, e102_62, e102_65, e102_66, e102_67, e102_70, e102_71, e102_72, e102_73, e102_74, e102_75, bi_s, tyX, rl1, rl2, rl4, ↓reduceIte, Option.bind_some, true_and, and_true, false_and, and_false, true_or, or_true, false_or, or_false, if_same0, ite_eq0, ite_eq0', ite_eq1, ite_eq1', or_em, or_em', ite_not, lcmp0, lcmpL, lcmpG, nI_cl_b, eb_in_b, nI_1, nI_pred, Int32.reduceToNatClampNeg, eb_u_ap, Prod.mk.injEq, not_true_eq_false, not_false_eq_true, sp_rg, sp_iI, sp_iG, sp_iS, hG, x_refuse0]
    exact ⟨_, J, C, rfl, fx_rf h (by omega)⟩
theorem xf_two (ok : sp_St S) {a b : Int32} : eb_FX L (d + 7) 104 [zi a, zi b] S (sf_two S a b).2 (zi (sf_two S a b).1) := by
  intro nc ns I J C mt mk h
  rw [h104 rfl]
  unfold sf_two
  have hA := x_isSet (L := L) (d := d + 4) (nc := nc) (ns := ns) (J := J) (C := C) (mt := mt) (mk := mk) (x := a) h.1 ok.1
  have hB := x_isSet (L := L) (d := d + 4) (nc := nc) (ns := ns) (J := J) (C := C) (mt := mt) (mk := mk) (x := b) h.1 ok.1
  by_cases c1 : sp_iS S.1 a
  · rw [if_pos c1] at hA
    by_cases c2 : sp_iS S.1 b
    · rw [if_pos c2] at hB
      rw [if_pos ⟨c1, c2⟩]
      obtain ⟨I1, a1, a2, a3⟩ := x_think (L := L) (d := d + 3) (nc := nc) (ns := ns) (J := J) (C := C) (mt := mt) (mk := mk) h.1 ok.1
      obtain ⟨I2, C2, b1, b2, b3, b4, b5⟩ := x_twoBooks (L := L) (d := d + 1) (nc := nc) (ns := ns) (J := J) (C := C) (mt := mt) (mk := mk) (s1 := a) (s2 := b) a3 ok.1
      have hn2 := sp_two_n (w := S.1) (s1 := a) (s2 := b) (l := sp_ord S.1) (W := (S.1, sp_N0)) ok.1 rfl rfl rfl
      have e4 := x_joyOfAll (L := L) (d := d + 2) (nc := nc) (ns := ns) (J := J) (C := C2) (mt := mt) (mk := mk) b3 (eb_NX_w b4 hn2.2.1 hn2.2.2.1) hn2.1
      simp (decide := true) (disch := omega) only [e104_0, e104_1, e104_2, e104_5, e104_8, e104_9, e104_10, e104_13, e104_16, e104_17, e104_19, e104_22, e104_23, e104_24, e104_27, e104_28, e104_29, e104_32, e104_33, e104_36, e104_39, bi_s, tyX, rl1, rl2, rl4, ↓reduceIte, Option.bind_some, true_and, and_true, false_and, and_false, true_or, or_true, false_or, or_false, if_same0, ite_eq0, ite_eq0', ite_eq1, ite_eq1', or_em, or_em', ite_not, lcmp0, lcmpL, lcmpG, nI_cl_b, eb_in_b, nI_1, nI_pred, Int32.reduceToNatClampNeg, eb_u_ap, Prod.mk.injEq, not_true_eq_false, not_false_eq_true, sp_rg, sp_iI, sp_iG, sp_iS, hA, hB, a1, b1, e4]
      exact ⟨_, J, C2, rfl, fx_t h (eb_fr_tr a2 b2)⟩
    · rw [if_neg c2] at hB
      rw [if_neg (fun q => c2 q.2)]
      simp (decide := true) (disch := omega) only [e104_0, e104_1, e104_2, e104_5, e104_8, e104_9, e104_10, e104_13, e104_16, e104_17, e104_19, e104_22, e104_23, e104_24, e104_27, e104_28, e104_29, e104_32, e104_33, e104_36, e104_39, bi_s, tyX, rl1, rl2, rl4, ↓reduceIte, Option.bind_some, true_and, and_true, false_and, and_false, true_or, or_true, false_or, or_false, if_same0, ite_eq0, ite_eq0', ite_eq1, ite_eq1', or_em, or_em', ite_not, lcmp0, lcmpL, lcmpG, nI_cl_b, eb_in_b, nI_1, nI_pred, Int32.reduceToNatClampNeg, eb_u_ap, Prod.mk.injEq, not_true_eq_false, not_false_eq_true, sp_rg, sp_iI, sp_iG, sp_iS, hA, hB, x_far0]
      exact ⟨_, J, C, rfl, fx_rf h (by omega)⟩
  · rw [if_neg c1] at hA
    rw [if_neg (fun q => c1 q.1)]
    simp (decide := true) (disch := omega) only [e104_0, e104_1, e104_2, e104_5, e104_8, e104_9, e104_10, e104_13, e104_16, e104_17, e104_19, e104_22, e104_23, e104_24, e104_27, e104_28, e104_29, e104_32, e104_33, e104_36, e104_39, bi_s, tyX, rl1, rl2, rl4, ↓reduceIte, Option.bind_some, true_and, and_true, false_and, and_false, true_or, or_true, false_or, or_false, if_same0, ite_eq0, ite_eq0', ite_eq1, ite_eq1', or_em, or_em', ite_not, lcmp0, lcmpL, lcmpG, nI_cl_b, eb_in_b, nI_1, nI_pred, Int32.reduceToNatClampNeg, eb_u_ap, Prod.mk.injEq, not_true_eq_false, not_false_eq_true, sp_rg, sp_iI, sp_iG, sp_iS, hA, x_far0]
    exact ⟨_, J, C, rfl, fx_rf h (by omega)⟩
/-- thinking, then n years -/
theorem x_thinkYears (h : eb_RX I 0 w) (hw : sp_ok w) {m : Nat} (hm : m ≤ 100000) : ∃ I0 I' C', eb_ev L (d + 7) 138 [zr (1, 0, 0)] (nc, ns, I, J, eb_RL C mt mk) = some (zr (4, 1, 0), (nc, ns, I0, J, eb_RL C mt mk)) ∧ eb_ev L (d + 7) 61 [zr (4, 1, 0), zi (nI m)] (nc, ns, I0, J, eb_RL C mt mk) = some (zi (sp_years w m).1, (nc, ns, I', J, eb_RL C' mt mk)) ∧ eb_fr 1 I I' ∧ eb_RX I' 1 (sp_at w m) ∧ (∀ j, j < w.2.1 → I' (7, 1, j) 5 = (sp_years w m).2.1 j) ∧ (∀ i, i < w.1 → I' (6, 1, i) 8 = (sp_years w m).2.2.1 i) := by
  obtain ⟨I1, a1, a2, a3⟩ := x_think (L := L) (d := d + 4) (nc := nc) (ns := ns) (J := J) (C := C) (mt := mt) (mk := mk) h hw
  obtain ⟨I2, C2, t1, t2, t3, t4, t5, t6, t7⟩ := x_passYears (L := L) (d := d + 1) (nc := nc) (ns := ns) (J := J) (C := C) (mt := mt) (mk := mk) a3 hw (sp_ok_at hw) hm
  exact ⟨I1, I2, C2, a1, t1, eb_fr_tr a2 t2, t3, t4, t5⟩
theorem rg_12 {n : Int32} (c : sp_rg n 1 12) : ∃ m, m ≤ 12 ∧ n = nI m := rg_le 12 (by omega) (by decide) c
theorem xf_years (ok : sp_St S) {n a : Int32} : eb_FX L (d + 8) 106 [zi n, zi a] S (sf_years S n a).2 (zi (sf_years S n a).1) := by
  intro nc ns I J C mt mk h
  rw [h106 rfl]
  unfold sf_years
  have hG := x_isGoerOrNone (L := L) (d := d + 4) (nc := nc) (ns := ns) (J := J) (C := C) (mt := mt) (mk := mk) (x := a) h.1 ok.1
  have hn1 := ok.1.2.1
  by_cases c1 : sp_rg n 1 12
  · by_cases c2 : a = -1 ∨ sp_iG S.1 a
    · rw [if_pos c2] at hG
      rw [if_pos ⟨c1, c2⟩]
      obtain ⟨m, hm, rfl⟩ := rg_12 c1
      obtain ⟨I0, I1, C1, e1, e2, e3, e4, e5, e6⟩ := x_thinkYears (L := L) (d := d) (nc := nc) (ns := ns) (J := J) (C := C) (mt := mt) (mk := mk) h.1 ok.1 (m := m) (by omega)
      by_cases c3 : a = -1
      · subst c3
        simp (decide := true) (disch := omega) only [e106_0, e106_1, e106_4, e106_7, e106_8, e106_9, e106_12, e106_15, e106_16, e106_18, e106_21, e106_22, e106_23, e106_26, e106_27, e106_30, e106_31, e106_32, e106_33, e106_36, e106_37, e106_40, e106_41, e106_44, e106_47, e106_48, e106_49, e106_52, bi_s, tyX, rl1, rl2, rl4, ↓reduceIte, Option.bind_some, true_and, and_true, false_and, and_false, true_or, or_true, false_or, or_false, if_same0, ite_eq0, ite_eq0', ite_eq1, ite_eq1', or_em, or_em', ite_not, lcmp0, lcmpL, lcmpG, nI_cl_b, eb_in_b, nI_1, nI_pred, Int32.reduceToNatClampNeg, eb_u_ap, Prod.mk.injEq, not_true_eq_false, not_false_eq_true, sp_rg, sp_iI, sp_iG, sp_iS, x_isSpan, c1, hG, e1, e2, tn]
        exact ⟨_, J, C1, rfl, fx_t h e3⟩
      · obtain ⟨g, hg, rfl⟩ := rg_nat (by omega) (c2.resolve_left c3)
        have k5 := e5 g hg
        simp (decide := true) (disch := omega) only [e106_0, e106_1, e106_4, e106_7, e106_8, e106_9, e106_12, e106_15, e106_16, e106_18, e106_21, e106_22, e106_23, e106_26, e106_27, e106_30, e106_31, e106_32, e106_33, e106_36, e106_37, e106_40, e106_41, e106_44, e106_47, e106_48, e106_49, e106_52, bi_s, tyX, rl1, rl2, rl4, ↓reduceIte, Option.bind_some, true_and, and_true, false_and, and_false, true_or, or_true, false_or, or_false, if_same0, ite_eq0, ite_eq0', ite_eq1, ite_eq1', or_em, or_em', ite_not, lcmp0, lcmpL, lcmpG, nI_cl_b, eb_in_b, nI_1, nI_pred, Int32.reduceToNatClampNeg, eb_u_ap, Prod.mk.injEq, not_true_eq_false, not_false_eq_true, sp_rg, sp_iI, sp_iG, sp_iS, x_isSpan, c1, hG, e1, e2, c3, k5, tn]
        exact ⟨_, J, C1, rfl, fx_t h e3⟩
    · rw [if_neg c2] at hG
      rw [if_neg (fun q => c2 q.2)]
      simp (decide := true) (disch := omega) only [e106_0, e106_1, e106_4, e106_7, e106_8, e106_9, e106_12, e106_15, e106_16, e106_18, e106_21, e106_22, e106_23, e106_26, e106_27, e106_30, e106_31, e106_32, e106_33, e106_36, e106_37, e106_40, e106_41, e106_44, e106_47, e106_48, e106_49, e106_52, bi_s, tyX, rl1, rl2, rl4, ↓reduceIte, Option.bind_some, true_and, and_true, false_and, and_false, true_or, or_true, false_or, or_false, if_same0, ite_eq0, ite_eq0', ite_eq1, ite_eq1', or_em, or_em', ite_not, lcmp0, lcmpL, lcmpG, nI_cl_b, eb_in_b, nI_1, nI_pred, Int32.reduceToNatClampNeg, eb_u_ap, Prod.mk.injEq, not_true_eq_false, not_false_eq_true, sp_rg, sp_iI, sp_iG, sp_iS, x_isSpan, c1, hG, x_far0]
      exact ⟨_, J, C, rfl, fx_rf h (by omega)⟩
  · rw [if_neg (fun q => c1 q.1)]
    simp (decide := true) (disch := omega) only [e106_0, e106_1, e106_4, e106_7, e106_8, e106_9, e106_12, e106_15, e106_16, e106_18, e106_21, e106_22, e106_23, e106_26, e106_27, e106_30, e106_31, e106_32, e106_33, e106_36, e106_37, e106_40, e106_41, e106_44, e106_47, e106_48, e106_49, e106_52, bi_s, tyX, rl1, rl2, rl4, ↓reduceIte, Option.bind_some, true_and, and_true, false_and, and_false, true_or, or_true, false_or, or_false, if_same0, ite_eq0, ite_eq0', ite_eq1, ite_eq1', or_em, or_em', ite_not, lcmp0, lcmpL, lcmpG, nI_cl_b, eb_in_b, nI_1, nI_pred, Int32.reduceToNatClampNeg, eb_u_ap, Prod.mk.injEq, not_true_eq_false, not_false_eq_true, sp_rg, sp_iI, sp_iG, sp_iS, x_isSpan, c1, x_far0]
    exact ⟨_, J, C, rfl, fx_rf h (by omega)⟩
theorem xf_then (ok : sp_St S) {n a b : Int32} : eb_FX L (d + 8) 107 [zi n, zi a, zi b] S (sf_then S n a b).2 (zi (sf_then S n a b).1) := by
  intro nc ns I J C mt mk h
  rw [h107 rfl]
  unfold sf_then
  have hI := x_isInn (L := L) (d := d + 5) (nc := nc) (ns := ns) (J := J) (C := C) (mt := mt) (mk := mk) (x := a) h.1 ok.1
  have hn1 := ok.1.1
  by_cases c1 : sp_rg n 1 12
  · by_cases c2 : sp_iI S.1 a
    · rw [if_pos c2] at hI
      by_cases c4 : sp_rg b 0 2
      · rw [if_pos ⟨c1, c2, c4⟩]
        obtain ⟨m, hm, rfl⟩ := rg_12 c1
        obtain ⟨I0, I1, C1, e1, e2, e3, e4, e5, e6⟩ := x_thinkYears (L := L) (d := d) (nc := nc) (ns := ns) (J := J) (C := C) (mt := mt) (mk := mk) h.1 ok.1 (m := m) (by omega)
        obtain ⟨i, hi, rfl⟩ := rg_nat (by omega) c2
        have hi2 : i < (sp_at S.1 m).1 := by rw [(sp_years_n (w := S.1) (m := m)).1]; exact hi
        have k0 := e4.2.1 i hi2 0 (by omega)
        have k3 := e4.2.1 i hi2 3 (by omega)
        have k8 := e6 i hi
        by_cases c5 : b = 0
        · subst c5
          simp (decide := true) (disch := omega) only [e107_0, e107_1, e107_4, e107_7, e107_8, e107_9, e107_12, e107_15, e107_16, e107_17, e107_18, e107_21, e107_24, e107_25, e107_27, e107_30, e107_31, e107_32, e107_35, e107_36, e107_39a, e107_39b, e107_40, e107_41, e107_44, e107_47, e107_48, e107_49, e107_51, e107_52, e107_55, e107_57, e107_60, e107_61, e107_62, e107_63, e107_66, e107_68, e107_71, e107_74, e107_76, e107_79, bi_s, tyX, rl1, rl2, rl4, ↓reduceIte, Option.bind_some, true_and, and_true, false_and, and_false, true_or, or_true, false_or, or_false, if_same0, ite_eq0, ite_eq0', ite_eq1, ite_eq1', or_em, or_em', ite_not, lcmp0, lcmpL, lcmpG, nI_cl_b, eb_in_b, nI_1, nI_pred, Int32.reduceToNatClampNeg, eb_u_ap, Prod.mk.injEq, not_true_eq_false, not_false_eq_true, sp_rg, sp_iI, sp_iG, sp_iS, x_isSpan, c1, hI, x_within, e1, e2, k0, tn]
          exact ⟨_, J, C1, rfl, fx_t h e3⟩
        · by_cases c6 : b = 1
          · subst c6
            simp (decide := true) (disch := omega) only [e107_0, e107_1, e107_4, e107_7, e107_8, e107_9, e107_12, e107_15, e107_16, e107_17, e107_18, e107_21, e107_24, e107_25, e107_27, e107_30, e107_31, e107_32, e107_35, e107_36, e107_39a, e107_39b, e107_40, e107_41, e107_44, e107_47, e107_48, e107_49, e107_51, e107_52, e107_55, e107_57, e107_60, e107_61, e107_62, e107_63, e107_66, e107_68, e107_71, e107_74, e107_76, e107_79, bi_s, tyX, rl1, rl2, rl4, ↓reduceIte, Option.bind_some, true_and, and_true, false_and, and_false, true_or, or_true, false_or, or_false, if_same0, ite_eq0, ite_eq0', ite_eq1, ite_eq1', or_em, or_em', ite_not, lcmp0, lcmpL, lcmpG, nI_cl_b, eb_in_b, nI_1, nI_pred, Int32.reduceToNatClampNeg, eb_u_ap, Prod.mk.injEq, not_true_eq_false, not_false_eq_true, sp_rg, sp_iI, sp_iG, sp_iS, x_isSpan, c1, hI, x_within, e1, e2, k3, tn]
            exact ⟨_, J, C1, rfl, fx_t h e3⟩
          · simp (decide := true) (disch := omega) only [e107_0, e107_1, e107_4, e107_7, e107_8, e107_9, e107_12, e107_15, e107_16, e107_17, e107_18, e107_21, e107_24, e107_25, e107_27, e107_30, e107_31, e107_32, e107_35, e107_36, e107_39a, e107_39b, e107_40, e107_41, e107_44, e107_47, e107_48, e107_49, e107_51, e107_52, e107_55, e107_57, e107_60, e107_61, e107_62, e107_63, e107_66, e107_68, e107_71, e107_74, e107_76, e107_79, bi_s, tyX, rl1, rl2, rl4, ↓reduceIte, Option.bind_some, true_and, and_true, false_and, and_false, true_or, or_true, false_or, or_false, if_same0, ite_eq0, ite_eq0', ite_eq1, ite_eq1', or_em, or_em', ite_not, lcmp0, lcmpL, lcmpG, nI_cl_b, eb_in_b, nI_1, nI_pred, Int32.reduceToNatClampNeg, eb_u_ap, Prod.mk.injEq, not_true_eq_false, not_false_eq_true, sp_rg, sp_iI, sp_iG, sp_iS, x_isSpan, c1, hI, x_within, c4, e1, e2, c5, c6, k8, tn]
            exact ⟨_, J, C1, rfl, fx_t h e3⟩
      · rw [if_neg (fun q => c4 q.2.2)]
        simp (decide := true) (disch := omega) only [e107_0, e107_1, e107_4, e107_7, e107_8, e107_9, e107_12, e107_15, e107_16, e107_17, e107_18, e107_21, e107_24, e107_25, e107_27, e107_30, e107_31, e107_32, e107_35, e107_36, e107_39a, e107_39b, e107_40, e107_41, e107_44, e107_47, e107_48, e107_49, e107_51, e107_52, e107_55, e107_57, e107_60, e107_61, e107_62, e107_63, e107_66, e107_68, e107_71, e107_74, e107_76, e107_79, bi_s, tyX, rl1, rl2, rl4, ↓reduceIte, Option.bind_some, true_and, and_true, false_and, and_false, true_or, or_true, false_or, or_false, if_same0, ite_eq0, ite_eq0', ite_eq1, ite_eq1', or_em, or_em', ite_not, lcmp0, lcmpL, lcmpG, nI_cl_b, eb_in_b, nI_1, nI_pred, Int32.reduceToNatClampNeg, eb_u_ap, Prod.mk.injEq, not_true_eq_false, not_false_eq_true, sp_rg, sp_iI, sp_iG, sp_iS, x_isSpan, c1, hI, x_within, c4, x_refuse0]
        exact ⟨_, J, C, rfl, fx_rf h (by omega)⟩
    · rw [if_neg c2] at hI
      rw [if_neg (fun q => c2 q.2.1)]
      simp (decide := true) (disch := omega) only [e107_0, e107_1, e107_4, e107_7, e107_8, e107_9, e107_12, e107_15, e107_16, e107_17, e107_18, e107_21, e107_24, e107_25, e107_27, e107_30, e107_31, e107_32, e107_35, e107_36, e107_39a, e107_39b, e107_40, e107_41, e107_44, e107_47, e107_48, e107_49, e107_51, e107_52, e107_55, e107_57, e107_60, e107_61, e107_62, e107_63, e107_66, e107_68, e107_71, e107_74, e107_76, e107_79, bi_s, tyX, rl1, rl2, rl4, ↓reduceIte, Option.bind_some, true_and, and_true, false_and, and_false, true_or, or_true, false_or, or_false, if_same0, ite_eq0, ite_eq0', ite_eq1, ite_eq1', or_em, or_em', ite_not, lcmp0, lcmpL, lcmpG, nI_cl_b, eb_in_b, nI_1, nI_pred, Int32.reduceToNatClampNeg, eb_u_ap, Prod.mk.injEq, not_true_eq_false, not_false_eq_true, sp_rg, sp_iI, sp_iG, sp_iS, x_isSpan, c1, hI, x_refuse0]
      exact ⟨_, J, C, rfl, fx_rf h (by omega)⟩
  · rw [if_neg (fun q => c1 q.1)]
    simp (decide := true) (disch := omega) only [e107_0, e107_1, e107_4, e107_7, e107_8, e107_9, e107_12, e107_15, e107_16, e107_17, e107_18, e107_21, e107_24, e107_25, e107_27, e107_30, e107_31, e107_32, e107_35, e107_36, e107_39a, e107_39b, e107_40, e107_41, e107_44, e107_47, e107_48, e107_49, e107_51, e107_52, e107_55, e107_57, e107_60, e107_61, e107_62, e107_63, e107_66, e107_68, e107_71, e107_74, e107_76, e107_79, bi_s, tyX, rl1, rl2, rl4, ↓reduceIte, Option.bind_some, true_and, and_true, false_and, and_false, true_or, or_true, false_or, or_false, if_same0, ite_eq0, ite_eq0', ite_eq1, ite_eq1', or_em, or_em', ite_not, lcmp0, lcmpL, lcmpG, nI_cl_b, eb_in_b, nI_1, nI_pred, Int32.reduceToNatClampNeg, eb_u_ap, Prod.mk.injEq, not_true_eq_false, not_false_eq_true, sp_rg, sp_iI, sp_iG, sp_iS, x_isSpan, c1, x_refuse0]
    exact ⟨_, J, C, rfl, fx_rf h (by omega)⟩
theorem xf_called (ok : sp_St S) {n a b : Int32} : eb_FX L (d + 8) 113 [zi n, zi a, zi b] S (sf_called S n a b).2 (zi (sf_called S n a b).1) := by
  intro nc ns I J C mt mk h
  rw [h113 rfl]
  unfold sf_called
  have hI := x_isInn (L := L) (d := d + 5) (nc := nc) (ns := ns) (J := J) (C := C) (mt := mt) (mk := mk) (x := a) h.1 ok.1
  have hn1 := ok.1.1
  by_cases c1 : sp_rg n 1 12
  · by_cases c2 : sp_iI S.1 a
    · rw [if_pos c2] at hI
      by_cases c4 : sp_rg b 0 100
      · rw [if_pos ⟨c1, c2, c4⟩]
        obtain ⟨m, hm, rfl⟩ := rg_12 c1
        obtain ⟨I0, I1, C1, e1, e2, e3, e4, e5, e6⟩ := x_thinkYears (L := L) (d := d) (nc := nc) (ns := ns) (J := J) (C := C) (mt := mt) (mk := mk) h.1 ok.1 (m := m) (by omega)
        obtain ⟨i, hi, rfl⟩ := rg_nat (by omega) c2
        obtain ⟨I2, a1, a2, a3⟩ := x_think (L := L) (d := d + 4) (nc := nc) (ns := ns) (J := J) (C := C1) (mt := mt) (mk := mk) (eb_RX_fr h.1 e3 (by decide)) ok.1
        have r1 := RX_setI (i := i) (f := 4) (v := b) a3 (by omega)
        have ok1 : sp_ok (sp_setI S.1 i 4 b) := ok_setI ok.1 (fun q => okI_4 q ⟨Int32.le_trans (by decide) c4.1, c4.2⟩)
        obtain ⟨I3, C3, t1, t2, t3, t4, t5, t6, t7⟩ := x_passYears (L := L) (d := d + 1) (nc := nc) (ns := ns) (J := J) (C := C1) (mt := mt) (mk := mk) r1.1 ok1 (sp_ok_at ok1) (m := m) (by omega)
        simp (decide := true) (disch := omega) only [e113_0, e113_1, e113_4, e113_7, e113_8, e113_9, e113_12, e113_15, e113_16, e113_19, e113_22, e113_23, e113_25, e113_28, e113_29, e113_30, e113_33, e113_34, e113_37, e113_39, e113_40, e113_43, e113_46, e113_47, e113_48, e113_49, e113_52, e113_53, e113_56, e113_57, e113_60, e113_62, e113_63, bi_s, tyX, rl1, rl2, rl4, ↓reduceIte, Option.bind_some, true_and, and_true, false_and, and_false, true_or, or_true, false_or, or_false, if_same0, ite_eq0, ite_eq0', ite_eq1, ite_eq1', or_em, or_em', ite_not, lcmp0, lcmpL, lcmpG, nI_cl_b, eb_in_b, nI_1, nI_pred, Int32.reduceToNatClampNeg, eb_u_ap, Prod.mk.injEq, not_true_eq_false, not_false_eq_true, sp_rg, sp_iI, sp_iG, sp_iS, x_isSpan, c1, hI, x_isGood, c4, e1, e2, a1, t1, tn]
        exact ⟨_, J, C3, rfl, fx_t h (eb_fr_tr (eb_fr_tr (eb_fr_tr e3 a2) r1.2) t2)⟩
      · rw [if_neg (fun q => c4 q.2.2)]
        simp (decide := true) (disch := omega) only [e113_0, e113_1, e113_4, e113_7, e113_8, e113_9, e113_12, e113_15, e113_16, e113_19, e113_22, e113_23, e113_25, e113_28, e113_29, e113_30, e113_33, e113_34, e113_37, e113_39, e113_40, e113_43, e113_46, e113_47, e113_48, e113_49, e113_52, e113_53, e113_56, e113_57, e113_60, e113_62, e113_63, bi_s, tyX, rl1, rl2, rl4, ↓reduceIte, Option.bind_some, true_and, and_true, false_and, and_false, true_or, or_true, false_or, or_false, if_same0, ite_eq0, ite_eq0', ite_eq1, ite_eq1', or_em, or_em', ite_not, lcmp0, lcmpL, lcmpG, nI_cl_b, eb_in_b, nI_1, nI_pred, Int32.reduceToNatClampNeg, eb_u_ap, Prod.mk.injEq, not_true_eq_false, not_false_eq_true, sp_rg, sp_iI, sp_iG, sp_iS, x_isSpan, c1, hI, x_isGood, c4, x_far0]
        exact ⟨_, J, C, rfl, fx_rf h (by omega)⟩
    · rw [if_neg c2] at hI
      rw [if_neg (fun q => c2 q.2.1)]
      simp (decide := true) (disch := omega) only [e113_0, e113_1, e113_4, e113_7, e113_8, e113_9, e113_12, e113_15, e113_16, e113_19, e113_22, e113_23, e113_25, e113_28, e113_29, e113_30, e113_33, e113_34, e113_37, e113_39, e113_40, e113_43, e113_46, e113_47, e113_48, e113_49, e113_52, e113_53, e113_56, e113_57, e113_60, e113_62, e113_63, bi_s, tyX, rl1, rl2, rl4, ↓reduceIte, Option.bind_some, true_and, and_true, false_and, and_false, true_or, or_true, false_or, or_false, if_same0, ite_eq0, ite_eq0', ite_eq1, ite_eq1', or_em, or_em', ite_not, lcmp0, lcmpL, lcmpG, nI_cl_b, eb_in_b, nI_1, nI_pred, Int32.reduceToNatClampNeg, eb_u_ap, Prod.mk.injEq, not_true_eq_false, not_false_eq_true, sp_rg, sp_iI, sp_iG, sp_iS, x_isSpan, c1, hI, x_far0]
      exact ⟨_, J, C, rfl, fx_rf h (by omega)⟩
  · rw [if_neg (fun q => c1 q.1)]
    simp (decide := true) (disch := omega) only [e113_0, e113_1, e113_4, e113_7, e113_8, e113_9, e113_12, e113_15, e113_16, e113_19, e113_22, e113_23, e113_25, e113_28, e113_29, e113_30, e113_33, e113_34, e113_37, e113_39, e113_40, e113_43, e113_46, e113_47, e113_48, e113_49, e113_52, e113_53, e113_56, e113_57, e113_60, e113_62, e113_63, bi_s, tyX, rl1, rl2, rl4, ↓reduceIte, Option.bind_some, true_and, and_true, false_and, and_false, true_or, or_true, false_or, or_false, if_same0, ite_eq0, ite_eq0', ite_eq1, ite_eq1', or_em, or_em', ite_not, lcmp0, lcmpL, lcmpG, nI_cl_b, eb_in_b, nI_1, nI_pred, Int32.reduceToNatClampNeg, eb_u_ap, Prod.mk.injEq, not_true_eq_false, not_false_eq_true, sp_rg, sp_iI, sp_iG, sp_iS, x_isSpan, c1, x_far0]
    exact ⟨_, J, C, rfl, fx_rf h (by omega)⟩
theorem xf_kept (ok : sp_St S) {n a : Int32} : eb_FX L (d + 8) 112 [zi n, zi a] S (sf_kept S n a).2 (zi (sf_kept S n a).1) := by
  intro nc ns I J C mt mk h
  rw [h112 rfl]
  unfold sf_kept
  have hI := x_isInn (L := L) (d := d + 5) (nc := nc) (ns := ns) (J := J) (C := C) (mt := mt) (mk := mk) (x := a) h.1 ok.1
  have hn1 := ok.1.1
  by_cases c1 : sp_rg n 1 12
  · by_cases c2 : sp_iI S.1 a
    · rw [if_pos c2] at hI
      rw [if_neg (fun q => q ⟨c1, c2⟩)]
      obtain ⟨m, hm, rfl⟩ := rg_12 c1
      obtain ⟨i, hi, rfl⟩ := rg_nat (by omega) c2
      rw [show tn (nI i) = i from nI_cl_b (by omega), show tn (nI m) = m from nI_cl_b (by omega)]
      have k4 := h.1.2.1 i hi 4 (by omega)
      by_cases c4 : S.1.2.2.2.1 i 4 = -1
      · rw [if_pos c4]
        simp (decide := true) (disch := omega) only [e112_0, e112_1, e112_4, e112_7, e112_8, e112_9, e112_12, e112_15, e112_16, e112_18, e112_21, e112_22, e112_23, e112_26, e112_29, e112_30, e112_31, e112_34, e112_35, e112_38, e112_39, e112_41, e112_44, e112_45, e112_46, e112_49, e112_50, e112_53a, e112_53b, e112_54, e112_55, e112_58, e112_61, e112_62, e112_63, e112_66, e112_69, e112_70, e112_71, e112_72, e112_75, e112_76, e112_79, e112_80, e112_83a, e112_83b, e112_84, e112_85, e112_88, e112_91, e112_92, e112_93, bi_s, tyX, rl1, rl2, rl4, ↓reduceIte, Option.bind_some, true_and, and_true, false_and, and_false, true_or, or_true, false_or, or_false, if_same0, ite_eq0, ite_eq0', ite_eq1, ite_eq1', or_em, or_em', ite_not, lcmp0, lcmpL, lcmpG, nI_cl_b, eb_in_b, nI_1, nI_pred, Int32.reduceToNatClampNeg, eb_u_ap, Prod.mk.injEq, not_true_eq_false, not_false_eq_true, sp_rg, sp_iI, sp_iG, sp_iS, x_isSpan, c1, hI, k4, c4, x_far3]
        exact ⟨_, J, C, rfl, fx_rf h (by omega)⟩
      · rw [if_neg c4]
        obtain ⟨I0, I1, C1, e1, e2, e3, e4, e5, e6⟩ := x_thinkYears (L := L) (d := d) (nc := nc) (ns := ns) (J := J) (C := C) (mt := mt) (mk := mk) h.1 ok.1 (m := m) (by omega)
        have o1 := x_ownJoy (L := L) (d := d + 6) (nc := nc) (ns := ns) (J := J) (C := C1) (mt := mt) (mk := mk) e4 (sp_ok_at ok.1 m) (f := (sp_years S.1 m).2.1) (fun j hj => e5 j (by rw [← (sp_years_n (w := S.1) (m := m)).2]; exact hj))
        obtain ⟨I2, a1, a2, a3⟩ := x_think (L := L) (d := d + 4) (nc := nc) (ns := ns) (J := J) (C := C1) (mt := mt) (mk := mk) (eb_RX_fr h.1 e3 (by decide)) ok.1
        have r1 := RX_setI (i := i) (f := 4) (v := -1) a3 (by omega)
        have ok1 : sp_ok (sp_setI S.1 i 4 (-1)) := ok_setI ok.1 (fun q => okI_4 q ⟨by decide, by decide⟩)
        obtain ⟨I3, C3, t1, t2, t3, t4, t5, t6, t7⟩ := x_passYears (L := L) (d := d + 1) (nc := nc) (ns := ns) (J := J) (C := C1) (mt := mt) (mk := mk) r1.1 ok1 (sp_ok_at ok1) (m := m) (by omega)
        have o2 := x_ownJoy (L := L) (d := d + 6) (nc := nc) (ns := ns) (J := J) (C := C3) (mt := mt) (mk := mk) t3 (sp_ok_at ok1 m) (f := (sp_years (sp_setI S.1 i 4 (-1)) m).2.1) (fun j hj => t4 j (by rw [← (sp_years_n (w := sp_setI S.1 i 4 (-1)) (m := m)).2]; exact hj))
        have ow : ∀ (w : eb_W) (m : Nat), sp_sum (fun j => if (sp_at w m).2.2.2.2 j 0 = 3 then (sp_years w m).2.1 j else 0) (sp_at w m).2.1 = sp_own w m := fun w m => by
          have hk : ∀ m, (sp_at w m).2.2.2.2 = w.2.2.2.2 := by
            intro m
            induction m with
            | zero => rfl
            | succ m ih => exact ih
          rw [hk, (sp_years_n (w := w) (m := m)).2]
          rfl
        rw [ow] at o1 o2
        simp (decide := true) (disch := omega) only [e112_0, e112_1, e112_4, e112_7, e112_8, e112_9, e112_12, e112_15, e112_16, e112_18, e112_21, e112_22, e112_23, e112_26, e112_29, e112_30, e112_31, e112_34, e112_35, e112_38, e112_39, e112_41, e112_44, e112_45, e112_46, e112_49, e112_50, e112_53a, e112_53b, e112_54, e112_55, e112_58, e112_61, e112_62, e112_63, e112_66, e112_69, e112_70, e112_71, e112_72, e112_75, e112_76, e112_79, e112_80, e112_83a, e112_83b, e112_84, e112_85, e112_88, e112_91, e112_92, e112_93, bi_s, tyX, rl1, rl2, rl4, ↓reduceIte, Option.bind_some, true_and, and_true, false_and, and_false, true_or, or_true, false_or, or_false, if_same0, ite_eq0, ite_eq0', ite_eq1, ite_eq1', or_em, or_em', ite_not, lcmp0, lcmpL, lcmpG, nI_cl_b, eb_in_b, nI_1, nI_pred, Int32.reduceToNatClampNeg, eb_u_ap, Prod.mk.injEq, not_true_eq_false, not_false_eq_true, sp_rg, sp_iI, sp_iG, sp_iS, x_isSpan, c1, hI, k4, c4, e1, e2, o1, a1, t1, o2]
        exact ⟨_, J, C3, rfl, fx_t h (eb_fr_tr (eb_fr_tr (eb_fr_tr e3 a2) r1.2) t2)⟩
    · rw [if_neg c2] at hI
      rw [if_pos (fun q => c2 q.2)]
      simp (decide := true) (disch := omega) only [e112_0, e112_1, e112_4, e112_7, e112_8, e112_9, e112_12, e112_15, e112_16, e112_18, e112_21, e112_22, e112_23, e112_26, e112_29, e112_30, e112_31, e112_34, e112_35, e112_38, e112_39, e112_41, e112_44, e112_45, e112_46, e112_49, e112_50, e112_53a, e112_53b, e112_54, e112_55, e112_58, e112_61, e112_62, e112_63, e112_66, e112_69, e112_70, e112_71, e112_72, e112_75, e112_76, e112_79, e112_80, e112_83a, e112_83b, e112_84, e112_85, e112_88, e112_91, e112_92, e112_93, bi_s, tyX, rl1, rl2, rl4, ↓reduceIte, Option.bind_some, true_and, and_true, false_and, and_false, true_or, or_true, false_or, or_false, if_same0, ite_eq0, ite_eq0', ite_eq1, ite_eq1', or_em, or_em', ite_not, lcmp0, lcmpL, lcmpG, nI_cl_b, eb_in_b, nI_1, nI_pred, Int32.reduceToNatClampNeg, eb_u_ap, Prod.mk.injEq, not_true_eq_false, not_false_eq_true, sp_rg, sp_iI, sp_iG, sp_iS, x_isSpan, c1, hI, x_far0]
      exact ⟨_, J, C, rfl, fx_rf h (by omega)⟩
  · rw [if_pos (fun q => c1 q.1)]
    simp (decide := true) (disch := omega) only [e112_0, e112_1, e112_4, e112_7, e112_8, e112_9, e112_12, e112_15, e112_16, e112_18, e112_21, e112_22, e112_23, e112_26, e112_29, e112_30, e112_31, e112_34, e112_35, e112_38, e112_39, e112_41, e112_44, e112_45, e112_46, e112_49, e112_50, e112_53a, e112_53b, e112_54, e112_55, e112_58, e112_61, e112_62, e112_63, e112_66, e112_69, e112_70, e112_71, e112_72, e112_75, e112_76, e112_79, e112_80, e112_83a, e112_83b, e112_84, e112_85, e112_88, e112_91, e112_92, e112_93, bi_s, tyX, rl1, rl2, rl4, ↓reduceIte, Option.bind_some, true_and, and_true, false_and, and_false, true_or, or_true, false_or, or_false, if_same0, ite_eq0, ite_eq0', ite_eq1, ite_eq1', or_em, or_em', ite_not, lcmp0, lcmpL, lcmpG, nI_cl_b, eb_in_b, nI_1, nI_pred, Int32.reduceToNatClampNeg, eb_u_ap, Prod.mk.injEq, not_true_eq_false, not_false_eq_true, sp_rg, sp_iI, sp_iG, sp_iS, x_isSpan, c1, x_far0]
    exact ⟨_, J, C, rfl, fx_rf h (by omega)⟩
end

/-! the class's faces: what is thought of tonight -/
theorem okI_0 {q : Nat → Int32} {v : Int32} (h : sp_okI q) (hv : 0 ≤ v ∧ v ≤ 100) : sp_okI (sp_up q 0 v) := ⟨hv, h.2.1, h.2.2.1, h.2.2.2.1, h.2.2.2.2.1, h.2.2.2.2.2⟩
theorem okI_2 {q : Nat → Int32} {v : Int32} (h : sp_okI q) (hv : 1 ≤ v ∧ v ≤ 20) : sp_okI (sp_up q 2 v) := ⟨h.1, h.2.1, hv, h.2.2.2.1, h.2.2.2.2.1, h.2.2.2.2.2⟩
theorem okI_3 {q : Nat → Int32} {v : Int32} (h : sp_okI q) (hv : 0 ≤ v ∧ v ≤ 99) : sp_okI (sp_up q 3 v) := ⟨h.1, h.2.1, h.2.2.1, hv, h.2.2.2.2.1, h.2.2.2.2.2⟩
theorem okI_4 {q : Nat → Int32} {v : Int32} (h : sp_okI q) (hv : -1 ≤ v ∧ v ≤ 100) : sp_okI (sp_up q 4 v) := ⟨h.1, h.2.1, h.2.2.1, h.2.2.2.1, hv, h.2.2.2.2.2⟩
theorem ok_setI {w : eb_W} {i f : Nat} {v : Int32} (h : sp_ok w) (hv : sp_okI (w.2.2.2.1 i) → sp_okI (sp_up (w.2.2.2.1 i) f v)) : sp_ok (sp_setI w i f v) := by
  refine ⟨h.1, h.2.1, h.2.2.1, fun j hj => ?_, h.2.2.2.2⟩
  have q := h.2.2.2.1 j hj
  show sp_okI (if j = i then sp_up (w.2.2.2.1 i) f v else w.2.2.2.1 j)
  by_cases e : j = i
  · rw [if_pos e]; rw [e] at q; exact hv q
  · rw [if_neg e]; exact q
theorem okG_0 {q : Nat → Int32} {v : Int32} (h : sp_okG q) (hv : 0 ≤ v ∧ v ≤ 5) : sp_okG (sp_up q 0 v) := ⟨hv, h.2.1, h.2.2⟩
theorem okG_1 {q : Nat → Int32} {v : Int32} (h : sp_okG q) (hv : 1 ≤ v ∧ v ≤ 30) : sp_okG (sp_up q 1 v) := ⟨h.1, hv, h.2.2⟩
theorem ok_setG {w : eb_W} {i f : Nat} {v : Int32} (h : sp_ok w) (hv : sp_okG (w.2.2.2.2 i) → sp_okG (sp_up (w.2.2.2.2 i) f v)) : sp_ok (sp_setG w i f v) := by
  refine ⟨h.1, h.2.1, h.2.2.1, h.2.2.2.1, fun j hj => ?_⟩
  have q := h.2.2.2.2 j hj
  show sp_okG (if j = i then sp_up (w.2.2.2.2 i) f v else w.2.2.2.2 j)
  by_cases e : j = i
  · rw [if_pos e]; rw [e] at q; exact hv q
  · rw [if_neg e]; exact q
theorem ok_setA {w : eb_W} {v : Int32} (h : sp_ok w) (hv : 0 ≤ v ∧ v ≤ 99) : sp_ok (sp_setS w 0 v) := ⟨h.1, h.2.1, hv, h.2.2.2⟩
theorem abs_ok : ∀ a, a < 101 → ∀ b, b < 101 → -1 < sp_abs (nI a - nI b) := by decide +kernel
theorem nI_dec (n : Nat) : nI (n + 1) + -1 = nI n := by rw [← Int32.sub_eq_add_neg]; exact nI_pred n
theorem nI_rg {a lo hi : Nat} (h : lo ≤ a ∧ a ≤ hi) (hh : hi ≤ 100000) : nI lo ≤ nI a ∧ nI a ≤ nI hi := by
  rw [nI_le_b (by omega) (by omega), nI_le_b (by omega) (by omega)]; exact h
section
variable {L d nc ns k i g : Nat} {I : eb_A → Nat → Int32} {J : eb_A → Nat → Int64} {C : Nat → Nat → Nat} {mt mk : Option Nat} {w : eb_W} {R : eb_A → Nat → Option eb_A} {S : eb_St} {M : eb_M}
theorem xf_oldest (ok : sp_St S) : eb_FX L (d + 7) 98 [] S (sf_oldest S).2 (zi (sf_oldest S).1) := by
  intro nc ns I J C mt mk h
  rw [h98 rfl]
  unfold sf_oldest sp_oldest
  have hn := ok.1.1
  simp (decide := true) (disch := omega) only [e98_0, e98_1, e98_2, e98_3, e98_4, e98_5, e98_7, e98_8, e98_11, e98_14, e98_17, e98_18, e98_21, e98_24, e98_25, e98_26, e98_28, e98_30, e98_33, e98_34, e98_37, e98_38, e98_41, e98_43, e98_46, e98_48, e98_51, e98_52, e98_55, e98_57, e98_59, e98_60, e98_63, e98_64, e98_65, e98_67, e98_68, e98_71, e98_74, e98_75, bi_s, tyX, rl1, rl2, rl4, ↓reduceIte, Option.bind_some, true_and, and_true, false_and, and_false, true_or, or_true, false_or, or_false, if_same0, ite_eq0, ite_eq0', ite_eq1, ite_eq1', or_em, or_em', ite_not, lcmp0, lcmpL, lcmpG, nI_cl_b, eb_in_b, nI_1, nI_pred, Int32.reduceToNatClampNeg, eb_u_ap, Prod.mk.injEq, not_true_eq_false, not_false_eq_true, sp_rg, sp_iI, sp_iG, sp_iS]
  generalize hs : (fun i => sp_abs (S.1.2.2.2.1 i 4 - S.1.2.2.2.1 i 0)) = s
  generalize hp : (fun i => decide (¬ S.1.2.2.2.1 i 4 = -1)) = p
  obtain ⟨t, e, e1, e2⟩ := eb_loop (α := Int32 × Int32 × Option eb_V × Option eb_V) (n := S.1.1) (s0 := (-1, -1, none, none))
    (F := fun i t => eb_E L (d + 6) 98 6 [some (zr (1, 0, 0)), some (zi t.1), some (zi t.2.1), some (zi (nI i)), t.2.2.1, t.2.2.2] [] (nc, ns, I, J, eb_RL C mt mk))
    (P := fun i t => t.1 = sp_enc (sp_best p s i) ∧ match sp_best p s i with | none => t.2.1 = -1 | some b => t.2.1 = s b ∧ -1 < s b)
    ⟨rfl, rfl⟩ (by
      intro i t hi hP
      obtain ⟨t1, t2, t3, t4⟩ := t
      obtain ⟨h1, h2⟩ := hP
      have h1 : t1 = sp_enc (sp_best p s i) := h1
      have h2 : match sp_best p s i with | none => t2 = -1 | some b => t2 = s b ∧ -1 < s b := h2
      have k0 := h.1.2.1 i hi 0 (by omega)
      have k4 := h.1.2.1 i hi 4 (by omega)
      have hpi : p i = decide (¬ S.1.2.2.2.1 i 4 = -1) := by rw [← hp]
      have hsi : s i = sp_abs (S.1.2.2.2.1 i 4 - S.1.2.2.2.1 i 0) := by rw [← hs]
      rw [e98_6]
      by_cases c : S.1.2.2.2.1 i 4 = -1
      · have hb : sp_best p s (i + 1) = sp_best p s i := by
          have hf : p i = false := by rw [hpi, c]; decide
          show (match sp_best p s i with | none => if p i = true then some i else none | some b => if p i = true ∧ s b < s i then some i else some b) = _
          cases sp_best p s i with
          | none => simp [hf]
          | some b => simp [hf]
        rw [hb]
        have c2 : ¬ t2 < -1 := by
          cases hq : sp_best p s i with
          | none => rw [hq] at h2; rw [h2]; decide
          | some b => rw [hq] at h2; rw [h2.1]; exact Int32.lt_asymm h2.2
        simp (decide := true) (disch := omega) only [e98_0, e98_1, e98_2, e98_3, e98_4, e98_5, e98_7, e98_8, e98_11, e98_14, e98_17, e98_18, e98_21, e98_24, e98_25, e98_26, e98_28, e98_30, e98_33, e98_34, e98_37, e98_38, e98_41, e98_43, e98_46, e98_48, e98_51, e98_52, e98_55, e98_57, e98_59, e98_60, e98_63, e98_64, e98_65, e98_67, e98_68, e98_71, e98_74, e98_75, bi_s, tyX, rl1, rl2, rl4, ↓reduceIte, Option.bind_some, true_and, and_true, false_and, and_false, true_or, or_true, false_or, or_false, if_same0, ite_eq0, ite_eq0', ite_eq1, ite_eq1', or_em, or_em', ite_not, lcmp0, lcmpL, lcmpG, nI_cl_b, eb_in_b, nI_1, nI_pred, Int32.reduceToNatClampNeg, eb_u_ap, Prod.mk.injEq, not_true_eq_false, not_false_eq_true, sp_rg, sp_iI, sp_iG, sp_iS, h.1.1.1, nI_lt_b, hi, k4, c, c2]
        exact ⟨(t1, t2, _, _), rfl, h1, h2⟩
      · have ht : p i = true := by rw [hpi]; exact decide_eq_true c
        obtain ⟨q0, -, -, -, q4, -⟩ := ok.1.2.2.2.1 i hi
        have hpos : -1 < s i := by
          obtain ⟨a, ha, ea⟩ := eb_rg 100 q0.1 q0.2 (by omega)
          have q5 : 0 ≤ S.1.2.2.2.1 i 4 := by
            have z1 := Int32.le_iff_toInt_le.mp q4.1
            have z2 : S.1.2.2.2.1 i 4 ≠ -1 := c
            rw [Int32.le_iff_toInt_le]
            have z3 : (S.1.2.2.2.1 i 4).toInt ≠ (-1 : Int32).toInt := fun q => z2 (Int32.toInt_inj.mp q)
            have : (-1 : Int32).toInt = -1 := by decide
            have : (0 : Int32).toInt = 0 := by decide
            omega
          obtain ⟨b, hb, eb⟩ := eb_rg 100 q5 q4.2 (by omega)
          rw [hsi, ea, eb]
          exact abs_ok b (by omega) a (by omega)
        have hab : (if 0 ≤ S.1.2.2.2.1 i 4 - S.1.2.2.2.1 i 0 then S.1.2.2.2.1 i 4 - S.1.2.2.2.1 i 0 else 0 - (S.1.2.2.2.1 i 4 - S.1.2.2.2.1 i 0)) = s i := by rw [hsi]; rfl
        have c3 : ¬ s i = -1 := fun q => by rw [q] at hpos; exact absurd hpos (by decide)
        by_cases c2 : t2 < s i
        · have hb : sp_best p s (i + 1) = some i := by
            show (match sp_best p s i with | none => if p i = true then some i else none | some b => if p i = true ∧ s b < s i then some i else some b) = _
            cases hq : sp_best p s i with
            | none => simp [ht]
            | some b =>
              rw [hq] at h2
              rw [h2.1] at c2
              simp [ht, c2]
          rw [hb]
          simp (decide := true) (disch := omega) only [e98_0, e98_1, e98_2, e98_3, e98_4, e98_5, e98_7, e98_8, e98_11, e98_14, e98_17, e98_18, e98_21, e98_24, e98_25, e98_26, e98_28, e98_30, e98_33, e98_34, e98_37, e98_38, e98_41, e98_43, e98_46, e98_48, e98_51, e98_52, e98_55, e98_57, e98_59, e98_60, e98_63, e98_64, e98_65, e98_67, e98_68, e98_71, e98_74, e98_75, bi_s, tyX, rl1, rl2, rl4, ↓reduceIte, Option.bind_some, true_and, and_true, false_and, and_false, true_or, or_true, false_or, or_false, if_same0, ite_eq0, ite_eq0', ite_eq1, ite_eq1', or_em, or_em', ite_not, lcmp0, lcmpL, lcmpG, nI_cl_b, eb_in_b, nI_1, nI_pred, Int32.reduceToNatClampNeg, eb_u_ap, Prod.mk.injEq, not_true_eq_false, not_false_eq_true, sp_rg, sp_iI, sp_iG, sp_iS, h.1.1.1, nI_lt_b, hi, k4, k0, c, hab, c2]
          exact ⟨(_, s i, _, _), rfl, rfl, rfl, hpos⟩
        · have hb : sp_best p s (i + 1) = sp_best p s i := by
            show (match sp_best p s i with | none => if p i = true then some i else none | some b => if p i = true ∧ s b < s i then some i else some b) = _
            cases hq : sp_best p s i with
            | none => rw [hq] at h2; rw [h2] at c2; exact absurd hpos c2
            | some b =>
              rw [hq] at h2
              rw [h2.1] at c2
              simp [c2]
          rw [hb]
          simp (decide := true) (disch := omega) only [e98_0, e98_1, e98_2, e98_3, e98_4, e98_5, e98_7, e98_8, e98_11, e98_14, e98_17, e98_18, e98_21, e98_24, e98_25, e98_26, e98_28, e98_30, e98_33, e98_34, e98_37, e98_38, e98_41, e98_43, e98_46, e98_48, e98_51, e98_52, e98_55, e98_57, e98_59, e98_60, e98_63, e98_64, e98_65, e98_67, e98_68, e98_71, e98_74, e98_75, bi_s, tyX, rl1, rl2, rl4, ↓reduceIte, Option.bind_some, true_and, and_true, false_and, and_false, true_or, or_true, false_or, or_false, if_same0, ite_eq0, ite_eq0', ite_eq1, ite_eq1', or_em, or_em', ite_not, lcmp0, lcmpL, lcmpG, nI_cl_b, eb_in_b, nI_1, nI_pred, Int32.reduceToNatClampNeg, eb_u_ap, Prod.mk.injEq, not_true_eq_false, not_false_eq_true, sp_rg, sp_iI, sp_iG, sp_iS, h.1.1.1, nI_lt_b, hi, k4, k0, c, hab, c2]
          exact ⟨(t1, t2, _, _), rfl, h1, h2⟩)
  simp only [nI_0] at e
  rw [e, e98_6]
  simp (decide := true) (disch := omega) only [e98_0, e98_1, e98_2, e98_3, e98_4, e98_5, e98_7, e98_8, e98_11, e98_14, e98_17, e98_18, e98_21, e98_24, e98_25, e98_26, e98_28, e98_30, e98_33, e98_34, e98_37, e98_38, e98_41, e98_43, e98_46, e98_48, e98_51, e98_52, e98_55, e98_57, e98_59, e98_60, e98_63, e98_64, e98_65, e98_67, e98_68, e98_71, e98_74, e98_75, bi_s, tyX, rl1, rl2, rl4, ↓reduceIte, Option.bind_some, true_and, and_true, false_and, and_false, true_or, or_true, false_or, or_false, if_same0, ite_eq0, ite_eq0', ite_eq1, ite_eq1', or_em, or_em', ite_not, lcmp0, lcmpL, lcmpG, nI_cl_b, eb_in_b, nI_1, nI_pred, Int32.reduceToNatClampNeg, eb_u_ap, Prod.mk.injEq, not_true_eq_false, not_false_eq_true, sp_rg, sp_iI, sp_iG, sp_iS, h.1.1.1, nI_lt_b, Nat.lt_irrefl, e1]
  exact ⟨_, J, C, rfl, fx_0 h⟩
theorem xf_enough (ok : sp_St S) {a : Int32} : eb_FX L (d + 7) 99 [zi a] S (sf_enough S a).2 (zi (sf_enough S a).1) := by
  intro nc ns I J C mt mk h
  rw [h99 rfl]
  unfold sf_enough
  have hI := x_isInn (L := L) (d := d + 4) (nc := nc) (ns := ns) (J := J) (C := C) (mt := mt) (mk := mk) (x := a) h.1 ok.1
  have hn1 := ok.1.1
  by_cases c1 : sp_iI S.1 a
  · rw [if_pos c1] at hI
    rw [if_pos c1]
    obtain ⟨i, hi, rfl⟩ := rg_nat (by omega) c1
    rw [show tn (nI i) = i from nI_cl_b (by omega)]
    generalize hp : (fun r => decide ((sp_night (sp_setI S.1 i 2 (nI r))).1 i < nI r)) = p
    simp (decide := true) (disch := omega) only [e99_0, e99_1, e99_2, e99_5, e99_8, e99_9, e99_11, e99_14, e99_15, e99_16, e99_18, e99_20, e99_23, e99_24, e99_27, e99_30, e99_31, e99_32, e99_33, e99_36, e99_37, e99_40, e99_43, e99_44, e99_47, e99_50, e99_51, e99_52, e99_55, e99_58, e99_59, e99_60, e99_63, e99_66, e99_67, bi_s, tyX, rl1, rl2, rl4, ↓reduceIte, Option.bind_some, true_and, and_true, false_and, and_false, true_or, or_true, false_or, or_false, if_same0, ite_eq0, ite_eq0', ite_eq1, ite_eq1', or_em, or_em', ite_not, lcmp0, lcmpL, lcmpG, nI_cl_b, eb_in_b, nI_1, nI_pred, Int32.reduceToNatClampNeg, eb_u_ap, Prod.mk.injEq, not_true_eq_false, not_false_eq_true, sp_rg, sp_iI, sp_iG, sp_iS, hI]
    have key := eb_loopE (α := (eb_A → Nat → Int32) × (Nat → Nat → Nat)) (n := 20) (s0 := (I, C))
      (F := fun y s => eb_E L (d + 6) 99 17 [some (zr (1, 0, 0)), some (zi (nI i)), some (zi (nI (y + 1)))] [] (nc, ns, s.1, J, eb_RL s.2 mt mk))
      (P := fun y s => eb_fr 1 I s.1 ∧ sp_fst p (y + 1) (20 - y) = sp_fst p 1 20)
      (Q := fun r => ∃ I' J' C', r = some (zi (sp_fst p 1 20), (nc, ns, I', J', eb_RL C' mt mk)) ∧ eb_XS S I' J' ∧ eb_fX I I' ∧ eb_fJ J J')
      ⟨eb_fr_rf, rfl⟩ (by
        intro y s hy hP
        obtain ⟨I1, C1⟩ := s
        obtain ⟨h1, h2⟩ := hP
        have h1 : eb_fr 1 I I1 := h1
        have hR1 : eb_RX I1 0 S.1 := eb_RX_fr h.1 h1 (by decide)
        obtain ⟨I2, a1, a2, a3⟩ := x_think (L := L) (d := d + 3) (nc := nc) (ns := ns) (J := J) (C := C1) (mt := mt) (mk := mk) hR1 ok.1
        have r1 := RX_setI (i := i) (f := 2) (v := nI (y + 1)) a3 (by omega)
        have ok1 : sp_ok (sp_setI S.1 i 2 (nI (y + 1))) := ok_setI ok.1 (fun q => okI_2 q (nI_rg (lo := 1) (hi := 20) ⟨by omega, by omega⟩ (by omega)))
        obtain ⟨I3, C3, b1, b2, b3, b4⟩ := x_spendNight (L := L) (d := d + 1) (nc := nc) (ns := ns) (J := J) (C := C1) (mt := mt) (mk := mk) r1.1 ok1
        have k2 : I3 (6, 1, i) 2 = nI (y + 1) := by rw [(eb_fn_RX b2 r1.1).2.1 i hi 2 (by omega)]; simp [sp_setI, sp_up]
        have k7 := b3.1 i hi
        have hb : (20 < nI (y + 1)) = False := by rw [show (20 : Int32) = nI 20 from rfl, nI_lt_b (by omega) (by omega)]; simp; omega
        have hfr : eb_fr 1 I I3 := eb_fr_tr (eb_fr_tr (eb_fr_tr h1 a2) r1.2) (eb_fn_fr b2)
        have hpy : p (y + 1) = decide ((sp_night (sp_setI S.1 i 2 (nI (y + 1)))).1 i < nI (y + 1)) := by rw [← hp]
        have h20 : 20 - y = (20 - (y + 1)) + 1 := by omega
        rw [h20] at h2
        have h2 : (if p (y + 1) = true then nI (y + 1) else sp_fst p (y + 1 + 1) (20 - (y + 1))) = sp_fst p 1 20 := h2
        by_cases c : (sp_night (sp_setI S.1 i 2 (nI (y + 1)))).1 i < nI (y + 1)
        · right
          rw [hpy, if_pos (decide_eq_true c)] at h2
          rw [e99_17]
          simp (decide := true) (disch := omega) only [e99_0, e99_1, e99_2, e99_5, e99_8, e99_9, e99_11, e99_14, e99_15, e99_16, e99_18, e99_20, e99_23, e99_24, e99_27, e99_30, e99_31, e99_32, e99_33, e99_36, e99_37, e99_40, e99_43, e99_44, e99_47, e99_50, e99_51, e99_52, e99_55, e99_58, e99_59, e99_60, e99_63, e99_66, e99_67, bi_s, tyX, rl1, rl2, rl4, ↓reduceIte, Option.bind_some, true_and, and_true, false_and, and_false, true_or, or_true, false_or, or_false, if_same0, ite_eq0, ite_eq0', ite_eq1, ite_eq1', or_em, or_em', ite_not, lcmp0, lcmpL, lcmpG, nI_cl_b, eb_in_b, nI_1, nI_pred, Int32.reduceToNatClampNeg, eb_u_ap, Prod.mk.injEq, not_true_eq_false, not_false_eq_true, sp_rg, sp_iI, sp_iG, sp_iS, hb, a1, b1, x_isFull, k2, k7, c]
          rw [h2]
          exact ⟨I3, J, C3, rfl, fx_t h hfr⟩
        · left
          rw [hpy, if_neg (fun q => c (of_decide_eq_true q))] at h2
          rw [e99_17]
          simp (decide := true) (disch := omega) only [e99_0, e99_1, e99_2, e99_5, e99_8, e99_9, e99_11, e99_14, e99_15, e99_16, e99_18, e99_20, e99_23, e99_24, e99_27, e99_30, e99_31, e99_32, e99_33, e99_36, e99_37, e99_40, e99_43, e99_44, e99_47, e99_50, e99_51, e99_52, e99_55, e99_58, e99_59, e99_60, e99_63, e99_66, e99_67, bi_s, tyX, rl1, rl2, rl4, ↓reduceIte, Option.bind_some, true_and, and_true, false_and, and_false, true_or, or_true, false_or, or_false, if_same0, ite_eq0, ite_eq0', ite_eq1, ite_eq1', or_em, or_em', ite_not, lcmp0, lcmpL, lcmpG, nI_cl_b, eb_in_b, nI_1, nI_pred, Int32.reduceToNatClampNeg, eb_u_ap, Prod.mk.injEq, not_true_eq_false, not_false_eq_true, sp_rg, sp_iI, sp_iG, sp_iS, hb, a1, b1, x_isFull, k2, k7, c]
          exact ⟨(I3, C3), rfl, hfr, h2⟩) (by
        intro s hP
        obtain ⟨I1, C1⟩ := s
        obtain ⟨h1, h2⟩ := hP
        have h2 : -1 = sp_fst p 1 20 := h2
        have hb : (20 < nI (20 + 1)) = True := by decide
        rw [e99_17]
        simp (decide := true) (disch := omega) only [e99_0, e99_1, e99_2, e99_5, e99_8, e99_9, e99_11, e99_14, e99_15, e99_16, e99_18, e99_20, e99_23, e99_24, e99_27, e99_30, e99_31, e99_32, e99_33, e99_36, e99_37, e99_40, e99_43, e99_44, e99_47, e99_50, e99_51, e99_52, e99_55, e99_58, e99_59, e99_60, e99_63, e99_66, e99_67, bi_s, tyX, rl1, rl2, rl4, ↓reduceIte, Option.bind_some, true_and, and_true, false_and, and_false, true_or, or_true, false_or, or_false, if_same0, ite_eq0, ite_eq0', ite_eq1, ite_eq1', or_em, or_em', ite_not, lcmp0, lcmpL, lcmpG, nI_cl_b, eb_in_b, nI_1, nI_pred, Int32.reduceToNatClampNeg, eb_u_ap, Prod.mk.injEq, not_true_eq_false, not_false_eq_true, sp_rg, sp_iI, sp_iG, sp_iS, hb]
        rw [h2]
        exact ⟨I1, J, C1, rfl, fx_t h h1⟩)
    exact key
  · rw [if_neg c1] at hI
    rw [if_neg c1]
    simp (decide := true) (disch := omega) only [e99_0, e99_1, e99_2, e99_5, e99_8, e99_9, e99_11, e99_14, e99_15, e99_16, e99_18, e99_20, e99_23, e99_24, e99_27, e99_30, e99_31, e99_32, e99_33, e99_36, e99_37, e99_40, e99_43, e99_44, e99_47, e99_50, e99_51, e99_52, e99_55, e99_58, e99_59, e99_60, e99_63, e99_66, e99_67, bi_s, tyX, rl1, rl2, rl4, ↓reduceIte, Option.bind_some, true_and, and_true, false_and, and_false, true_or, or_true, false_or, or_false, if_same0, ite_eq0, ite_eq0', ite_eq1, ite_eq1', or_em, or_em', ite_not, lcmp0, lcmpL, lcmpG, nI_cl_b, eb_in_b, nI_1, nI_pred, Int32.reduceToNatClampNeg, eb_u_ap, Prod.mk.injEq, not_true_eq_false, not_false_eq_true, sp_rg, sp_iI, sp_iG, sp_iS, hI, x_refuse0]
    exact ⟨_, J, C, rfl, fx_rf h (by omega)⟩
theorem xf_better (ok : sp_St S) {a : Int32} : eb_FX L (d + 7) 100 [zi a] S (sf_better S a).2 (zi (sf_better S a).1) := by
  intro nc ns I J C mt mk h
  rw [h100 rfl]
  unfold sf_better
  have hI := x_isGoer (L := L) (d := d + 4) (nc := nc) (ns := ns) (J := J) (C := C) (mt := mt) (mk := mk) (x := a) h.1 ok.1
  have hn1 := ok.1.2.1
  by_cases c1 : sp_iG S.1 a
  · rw [if_pos c1] at hI
    rw [if_pos c1]
    obtain ⟨g, hg, rfl⟩ := rg_nat (by omega) c1
    rw [show tn (nI g) = g from nI_cl_b (by omega)]
    generalize hp : (fun k => sp_joy (sp_setG S.1 g 0 (nI k)) (sp_night (sp_setG S.1 g 0 (nI k))) g) = p
    simp (decide := true) (disch := omega) only [e100_0, e100_1, e100_2, e100_5, e100_8, e100_9, e100_11, e100_14, e100_15, e100_16, e100_17, e100_18, e100_19, e100_20, e100_24, e100_26, e100_29, e100_30, e100_33, e100_36, e100_37, e100_38, e100_40, e100_43, e100_44, e100_47, e100_50, e100_51, e100_54, e100_55, e100_58, e100_61, e100_62, e100_63, e100_66, e100_68, e100_69, e100_70, e100_73, e100_75, e100_76, e100_79, e100_81, e100_82, e100_84, e100_85, e100_88, e100_91, e100_92, bi_s, tyX, rl1, rl2, rl4, ↓reduceIte, Option.bind_some, true_and, and_true, false_and, and_false, true_or, or_true, false_or, or_false, if_same0, ite_eq0, ite_eq0', ite_eq1, ite_eq1', or_em, or_em', ite_not, lcmp0, lcmpL, lcmpG, nI_cl_b, eb_in_b, nI_1, nI_pred, Int32.reduceToNatClampNeg, eb_u_ap, Prod.mk.injEq, not_true_eq_false, not_false_eq_true, sp_rg, sp_iI, sp_iG, sp_iS, hI]
    obtain ⟨t, e, e1, e2, e3⟩ := eb_loop (α := Int32 × Int32 × Option eb_V × (eb_A → Nat → Int32) × (Nat → Nat → Nat)) (n := 6) (s0 := (-1, 0, none, I, C))
      (F := fun y s => eb_E L (d + 6) 100 22 [some (zr (1, 0, 0)), some (zi (nI g)), some (zi s.1), some (zi s.2.1), some (zi (nI y)), s.2.2.1] [] (nc, ns, s.2.2.2.1, J, eb_RL s.2.2.2.2 mt mk))
      (P := fun y s => s.1 = sp_enc (sp_best (fun _ => true) p y) ∧ (∀ b, sp_best (fun _ => true) p y = some b → s.2.1 = p b) ∧ eb_fr 1 I s.2.2.2.1)
      ⟨rfl, (fun b q => by cases q), eb_fr_rf⟩ (by
        intro y s hy hP
        obtain ⟨s1, s2, s3, I1, C1⟩ := s
        obtain ⟨h1, h2, h3⟩ := hP
        have h1 : s1 = sp_enc (sp_best (fun _ => true) p y) := h1
        have h2 : ∀ b, sp_best (fun _ => true) p y = some b → s2 = p b := h2
        have h3 : eb_fr 1 I I1 := h3
        have hR1 : eb_RX I1 0 S.1 := eb_RX_fr h.1 h3 (by decide)
        obtain ⟨I2, a1, a2, a3⟩ := x_think (L := L) (d := d + 3) (nc := nc) (ns := ns) (J := J) (C := C1) (mt := mt) (mk := mk) hR1 ok.1
        have r1 := RX_setG (i := g) (f := 0) (v := nI y) a3
        have ok1 : sp_ok (sp_setG S.1 g 0 (nI y)) := ok_setG ok.1 (fun q => okG_0 q (nI_rg (lo := 0) (hi := 5) ⟨by omega, by omega⟩ (by omega)))
        obtain ⟨I3, C3, b1, b2, b3, b4⟩ := x_spendNight (L := L) (d := d + 1) (nc := nc) (ns := ns) (J := J) (C := C1) (mt := mt) (mk := mk) r1.1 ok1
        have hj := x_joyOf (L := L) (d := d + 3) (nc := nc) (ns := ns) (J := J) (C := C3) (mt := mt) (mk := mk) (eb_fn_RX b2 r1.1) b3 ok1 (g := g) hg
        have hpy : p y = sp_joy (sp_setG S.1 g 0 (nI y)) (sp_night (sp_setG S.1 g 0 (nI y))) g := by rw [← hp]
        rw [← hpy] at hj
        have hb : (nI y < 6) = True := by rw [show (6 : Int32) = nI 6 from rfl, nI_lt_b (by omega) (by omega)]; simp; omega
        have hfr : eb_fr 1 I I3 := eb_fr_tr (eb_fr_tr (eb_fr_tr h3 a2) r1.2) (eb_fn_fr b2)
        rw [e100_22]
        cases hq : sp_best (fun _ => true) p y with
        | none =>
          rw [hq] at h1
          have h1 : s1 = -1 := h1
          have hs : sp_best (fun _ => true) p (y + 1) = some y := by unfold sp_best; rw [hq]; rfl
          simp (decide := true) (disch := omega) only [e100_0, e100_1, e100_2, e100_5, e100_8, e100_9, e100_11, e100_14, e100_15, e100_16, e100_17, e100_18, e100_19, e100_20, e100_24, e100_26, e100_29, e100_30, e100_33, e100_36, e100_37, e100_38, e100_40, e100_43, e100_44, e100_47, e100_50, e100_51, e100_54, e100_55, e100_58, e100_61, e100_62, e100_63, e100_66, e100_68, e100_69, e100_70, e100_73, e100_75, e100_76, e100_79, e100_81, e100_82, e100_84, e100_85, e100_88, e100_91, e100_92, bi_s, tyX, rl1, rl2, rl4, ↓reduceIte, Option.bind_some, true_and, and_true, false_and, and_false, true_or, or_true, false_or, or_false, if_same0, ite_eq0, ite_eq0', ite_eq1, ite_eq1', or_em, or_em', ite_not, lcmp0, lcmpL, lcmpG, nI_cl_b, eb_in_b, nI_1, nI_pred, Int32.reduceToNatClampNeg, eb_u_ap, Prod.mk.injEq, not_true_eq_false, not_false_eq_true, sp_rg, sp_iI, sp_iG, sp_iS, hb, a1, b1, hj, h1]
          exact ⟨(nI y, p y, _, I3, C3), rfl, by rw [hs]; rfl, (fun b z => by rw [hs] at z; cases z; rfl), hfr⟩
        | some b =>
          have hlt := (sp_best_lt hq).1
          rw [hq] at h1
          have h1 : s1 = nI b := h1
          have h4 := h2 b hq
          by_cases c : p b < p y
          · have hs : sp_best (fun _ => true) p (y + 1) = some y := by unfold sp_best; rw [hq]; simp [c]
            simp (decide := true) (disch := omega) only [e100_0, e100_1, e100_2, e100_5, e100_8, e100_9, e100_11, e100_14, e100_15, e100_16, e100_17, e100_18, e100_19, e100_20, e100_24, e100_26, e100_29, e100_30, e100_33, e100_36, e100_37, e100_38, e100_40, e100_43, e100_44, e100_47, e100_50, e100_51, e100_54, e100_55, e100_58, e100_61, e100_62, e100_63, e100_66, e100_68, e100_69, e100_70, e100_73, e100_75, e100_76, e100_79, e100_81, e100_82, e100_84, e100_85, e100_88, e100_91, e100_92, bi_s, tyX, rl1, rl2, rl4, ↓reduceIte, Option.bind_some, true_and, and_true, false_and, and_false, true_or, or_true, false_or, or_false, if_same0, ite_eq0, ite_eq0', ite_eq1, ite_eq1', or_em, or_em', ite_not, lcmp0, lcmpL, lcmpG, nI_cl_b, eb_in_b, nI_1, nI_pred, Int32.reduceToNatClampNeg, eb_u_ap, Prod.mk.injEq, not_true_eq_false, not_false_eq_true, sp_rg, sp_iI, sp_iG, sp_iS, hb, a1, b1, hj, h1, nI_m1, h4, c]
            exact ⟨(nI y, p y, _, I3, C3), rfl, by rw [hs]; rfl, (fun b z => by rw [hs] at z; cases z; rfl), hfr⟩
          · have hs : sp_best (fun _ => true) p (y + 1) = some b := by unfold sp_best; rw [hq]; simp [c]
            simp (decide := true) (disch := omega) only [e100_0, e100_1, e100_2, e100_5, e100_8, e100_9, e100_11, e100_14, e100_15, e100_16, e100_17, e100_18, e100_19, e100_20, e100_24, e100_26, e100_29, e100_30, e100_33, e100_36, e100_37, e100_38, e100_40, e100_43, e100_44, e100_47, e100_50, e100_51, e100_54, e100_55, e100_58, e100_61, e100_62, e100_63, e100_66, e100_68, e100_69, e100_70, e100_73, e100_75, e100_76, e100_79, e100_81, e100_82, e100_84, e100_85, e100_88, e100_91, e100_92, bi_s, tyX, rl1, rl2, rl4, ↓reduceIte, Option.bind_some, true_and, and_true, false_and, and_false, true_or, or_true, false_or, or_false, if_same0, ite_eq0, ite_eq0', ite_eq1, ite_eq1', or_em, or_em', ite_not, lcmp0, lcmpL, lcmpG, nI_cl_b, eb_in_b, nI_1, nI_pred, Int32.reduceToNatClampNeg, eb_u_ap, Prod.mk.injEq, not_true_eq_false, not_false_eq_true, sp_rg, sp_iI, sp_iG, sp_iS, hb, a1, b1, hj, h1, nI_m1, h4, c]
            exact ⟨(nI b, p b, _, I3, C3), rfl, by rw [hs]; rfl, (fun b z => by rw [hs] at z; cases z; rfl), hfr⟩)
    obtain ⟨s1, s2, s3, I1, C1⟩ := t
    have e1 : s1 = sp_enc (sp_best (fun _ => true) p 6) := e1
    have e3 : eb_fr 1 I I1 := e3
    simp only [nI_0] at e
    have h6 : nI 6 = 6 := rfl
    rw [e, e100_22]
    simp (decide := true) (disch := omega) only [e100_0, e100_1, e100_2, e100_5, e100_8, e100_9, e100_11, e100_14, e100_15, e100_16, e100_17, e100_18, e100_19, e100_20, e100_24, e100_26, e100_29, e100_30, e100_33, e100_36, e100_37, e100_38, e100_40, e100_43, e100_44, e100_47, e100_50, e100_51, e100_54, e100_55, e100_58, e100_61, e100_62, e100_63, e100_66, e100_68, e100_69, e100_70, e100_73, e100_75, e100_76, e100_79, e100_81, e100_82, e100_84, e100_85, e100_88, e100_91, e100_92, bi_s, tyX, rl1, rl2, rl4, ↓reduceIte, Option.bind_some, true_and, and_true, false_and, and_false, true_or, or_true, false_or, or_false, if_same0, ite_eq0, ite_eq0', ite_eq1, ite_eq1', or_em, or_em', ite_not, lcmp0, lcmpL, lcmpG, nI_cl_b, eb_in_b, nI_1, nI_pred, Int32.reduceToNatClampNeg, eb_u_ap, Prod.mk.injEq, not_true_eq_false, not_false_eq_true, sp_rg, sp_iI, sp_iG, sp_iS, h6]
    rw [e1]
    exact ⟨I1, J, C1, rfl, fx_t h e3⟩
  · rw [if_neg c1] at hI
    rw [if_neg c1]
    simp (decide := true) (disch := omega) only [e100_0, e100_1, e100_2, e100_5, e100_8, e100_9, e100_11, e100_14, e100_15, e100_16, e100_17, e100_18, e100_19, e100_20, e100_24, e100_26, e100_29, e100_30, e100_33, e100_36, e100_37, e100_38, e100_40, e100_43, e100_44, e100_47, e100_50, e100_51, e100_54, e100_55, e100_58, e100_61, e100_62, e100_63, e100_66, e100_68, e100_69, e100_70, e100_73, e100_75, e100_76, e100_79, e100_81, e100_82, e100_84, e100_85, e100_88, e100_91, e100_92, bi_s, tyX, rl1, rl2, rl4, ↓reduceIte, Option.bind_some, true_and, and_true, false_and, and_false, true_or, or_true, false_or, or_false, if_same0, ite_eq0, ite_eq0', ite_eq1, ite_eq1', or_em, or_em', ite_not, lcmp0, lcmpL, lcmpG, nI_cl_b, eb_in_b, nI_1, nI_pred, Int32.reduceToNatClampNeg, eb_u_ap, Prod.mk.injEq, not_true_eq_false, not_false_eq_true, sp_rg, sp_iI, sp_iG, sp_iS, hI, x_refuse0]
    exact ⟨_, J, C, rfl, fx_rf h (by omega)⟩
end

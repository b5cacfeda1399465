/-! the class's faces: the tape's size, what inns and goers are, tonight -/
section
variable {L d nc ns k i g : Nat} {I : eb_A → Nat → Int32} {J : eb_A → Nat → Int64} {C : Nat → Nat → Nat} {mt mk : Option Nat} {w : eb_W} {R : eb_A → Nat → Option eb_A} {S : eb_St} {M : eb_M}
/-- how a call ends that leaves all as it is -/
theorem fx_0 (h : eb_XS S I J) : eb_XS S I J ∧ eb_fX I I ∧ eb_fJ J J := ⟨h, eb_fX_rf, eb_fJ_rf⟩
/-- how a call ends that spends a night -/
theorem fx_n {I' : eb_A → Nat → Int32} (h : eb_XS S I J) (q : eb_fn 0 I I') : eb_XS S I' J ∧ eb_fX I I' ∧ eb_fJ J J := ⟨eb_XS_n h q, eb_fX_fr (eb_fn_fr q), eb_fJ_rf⟩
/-- how a call ends that thinks -/
theorem fx_t {I' : eb_A → Nat → Int32} (h : eb_XS S I J) (q : eb_fr 1 I I') : eb_XS S I' J ∧ eb_fX I I' ∧ eb_fJ J J := ⟨eb_XS_t h q, eb_fX_fr q, eb_fJ_rf⟩
theorem eb_XS_tape {t : (Nat → Int32) × Nat} {I' : eb_A → Nat → Int32} (h : eb_XS S I J) (e : ∀ a l, ¬ (a.1 = 13 ∨ a.1 = 14) → I' a l = I a l) (h5 : I' (13, 0, 0) 1 = nI t.2) (h6 : ∀ j, j < t.2 → I' (14, 0, 0) j = t.1 j) : eb_XS (sp_toT S t) I' J := by
  obtain ⟨h1, ⟨h2, h3⟩, h4, -, h7⟩ := h
  exact ⟨eb_RX_of h1 (fun l => e _ _ (by simp)) (fun i l _ => e _ _ (by simp)) (fun i l _ => e _ _ (by simp)), ⟨(e _ _ (by simp)).trans h2, fun p hp => eb_RX_of (h3 p hp) (fun l => e _ _ (by simp)) (fun i l _ => e _ _ (by simp)) (fun i l _ => e _ _ (by simp))⟩, fun s hs => ⟨(e _ _ (by simp)).trans (h4 s hs).1, fun hr => ⟨(e _ _ (by simp)).trans ((h4 s hs).2 hr).1, ((h4 s hs).2 hr).2⟩⟩, ⟨h5, h6⟩, fun r hr => (e _ _ (by simp)).trans (h7 r hr)⟩
theorem xf_feed (ok : sp_St S) {a : Int32} : eb_FX L (d + 5) 83 [zi a] S (sf_feed S a).2 (zi (sf_feed S a).1) := by
  intro nc ns I J C mt mk h
  rw [h83 rfl]
  unfold sf_feed
  have ht := ok.2.2.2.1
  by_cases c1 : sp_rg a 0 255
  · rw [if_neg (fun q => q c1)]
    obtain ⟨g1, g2⟩ := h.2.2.2.1
    by_cases c2 : (ss_t S).2 = 250
    · rw [if_pos c2]
      have e : eb_ev L (d + 4) 24 [zr (13, 0, 0), zi a] (nc, ns, I, J, eb_RL C mt mk) = some (zi 0, (nc, ns, I, J, eb_RL C mt mk)) := by
        rw [h24 rfl]
        have g3 : I (13, 0, 0) 1 = 250 := by rw [g1, c2]; rfl
        simp (decide := true) (disch := omega) only [e24_0, e24_1, e24_4, e24_7, e24_10, e24_11, e24_12, e24_13, e24_16, e24_17, e24_20, e24_21, e24_22, e24_23a, e24_23b, e24_24, e24_27, e24_28, e24_29, e24_32, e24_33, bi_s, tyX, rl1, rl2, rl4, ↓reduceIte, Option.bind_some, true_and, and_true, false_and, and_false, true_or, or_true, false_or, or_false, if_same0, ite_eq0, ite_eq0', ite_eq1, ite_eq1', or_em, or_em', ite_not, lcmp0, lcmpL, lcmpG, nI_cl_b, eb_in_b, nI_1, nI_pred, Int32.reduceToNatClampNeg, eb_u_ap, Prod.mk.injEq, not_true_eq_false, not_false_eq_true, sp_rg, sp_iI, sp_iG, sp_iS, g3]
      simp (decide := true) (disch := omega) only [e83_0, e83_1, e83_2, e83_5, e83_8, e83_11, e83_12, e83_14, e83_17, e83_18, e83_19, e83_22, e83_23, e83_26, e83_29, e83_30, e83_33, e83_36, e83_39, e83_40, e83_42, e83_45, bi_s, tyX, rl1, rl2, rl4, ↓reduceIte, Option.bind_some, true_and, and_true, false_and, and_false, true_or, or_true, false_or, or_false, if_same0, ite_eq0, ite_eq0', ite_eq1, ite_eq1', or_em, or_em', ite_not, lcmp0, lcmpL, lcmpG, nI_cl_b, eb_in_b, nI_1, nI_pred, Int32.reduceToNatClampNeg, eb_u_ap, Prod.mk.injEq, not_true_eq_false, not_false_eq_true, sp_rg, sp_iI, sp_iG, sp_iS, x_within, c1, e, x_refuse4]
      exact ⟨_, J, C, rfl, fx_rf h (by omega)⟩
    · rw [if_neg c2]
      have e : eb_ev L (d + 4) 24 [zr (13, 0, 0), zi a] (nc, ns, I, J, eb_RL C mt mk) = some (zi 1, (nc, ns, eb_u (eb_u I (14, 0, 0) (ss_t S).2 a) (13, 0, 0) 1 (nI ((ss_t S).2 + 1)), J, eb_RL C mt mk)) := by
        rw [h24 rfl]
        have g3 : (nI (ss_t S).2 < 250) = True := by rw [show (250 : Int32) = nI 250 from rfl, nI_lt_b (by omega) (by omega)]; simp; omega
        simp (decide := true) (disch := omega) only [e24_0, e24_1, e24_4, e24_7, e24_10, e24_11, e24_12, e24_13, e24_16, e24_17, e24_20, e24_21, e24_22, e24_23a, e24_23b, e24_24, e24_27, e24_28, e24_29, e24_32, e24_33, bi_s, tyX, rl1, rl2, rl4, ↓reduceIte, Option.bind_some, true_and, and_true, false_and, and_false, true_or, or_true, false_or, or_false, if_same0, ite_eq0, ite_eq0', ite_eq1, ite_eq1', or_em, or_em', ite_not, lcmp0, lcmpL, lcmpG, nI_cl_b, eb_in_b, nI_1, nI_pred, Int32.reduceToNatClampNeg, eb_u_ap, Prod.mk.injEq, not_true_eq_false, not_false_eq_true, sp_rg, sp_iI, sp_iG, sp_iS, g1, g3]
      simp (decide := true) (disch := omega) only [e83_0, e83_1, e83_2, e83_5, e83_8, e83_11, e83_12, e83_14, e83_17, e83_18, e83_19, e83_22, e83_23, e83_26, e83_29, e83_30, e83_33, e83_36, e83_39, e83_40, e83_42, e83_45, bi_s, tyX, rl1, rl2, rl4, ↓reduceIte, Option.bind_some, true_and, and_true, false_and, and_false, true_or, or_true, false_or, or_false, if_same0, ite_eq0, ite_eq0', ite_eq1, ite_eq1', or_em, or_em', ite_not, lcmp0, lcmpL, lcmpG, nI_cl_b, eb_in_b, nI_1, nI_pred, Int32.reduceToNatClampNeg, eb_u_ap, Prod.mk.injEq, not_true_eq_false, not_false_eq_true, sp_rg, sp_iI, sp_iG, sp_iS, x_within, c1, e]
      refine ⟨_, J, C, rfl, eb_XS_tape h (fun a l hal => ?_) ?_ (fun j hj => ?_), eb_fX_tr (eb_fX_u ⟨Nat.le_of_ble_eq_true rfl, Nat.le_of_ble_eq_true rfl⟩) (eb_fX_u ⟨Nat.le_of_ble_eq_true rfl, Nat.le_of_ble_eq_true rfl⟩), eb_fJ_rf⟩
      · have q1 : ¬ a = (13, 0, 0) := fun q => hal (Or.inl (by rw [q]))
        have q2 : ¬ a = (14, 0, 0) := fun q => hal (Or.inr (by rw [q]))
        simp only [eb_u, q1, q2, false_and, if_false]
      · simp [eb_u]
      · have hj : j < (ss_t S).2 + 1 := hj
        show (if ((14, 0, 0) : eb_A) = (13, 0, 0) ∧ j = 1 then _ else if ((14, 0, 0) : eb_A) = (14, 0, 0) ∧ j = (ss_t S).2 then a else I (14, 0, 0) j) = sp_up (ss_t S).1 (ss_t S).2 a j
        by_cases q : j = (ss_t S).2
        · simp [sp_up, q]
        · simp only [sp_up, Prod.mk.injEq, Nat.reduceEqDiff, false_and, and_false, if_false, q]
          exact g2 j (by omega)
  · rw [if_pos c1]
    simp (decide := true) (disch := omega) only [e83_0, e83_1, e83_2, e83_5, e83_8, e83_11, e83_12, e83_14, e83_17, e83_18, e83_19, e83_22, e83_23, e83_26, e83_29, e83_30, e83_33, e83_36, e83_39, e83_40, e83_42, e83_45, bi_s, tyX, rl1, rl2, rl4, ↓reduceIte, Option.bind_some, true_and, and_true, false_and, and_false, true_or, or_true, false_or, or_false, if_same0, ite_eq0, ite_eq0', ite_eq1, ite_eq1', or_em, or_em', ite_not, lcmp0, lcmpL, lcmpG, nI_cl_b, eb_in_b, nI_1, nI_pred, Int32.reduceToNatClampNeg, eb_u_ap, Prod.mk.injEq, not_true_eq_false, not_false_eq_true, sp_rg, sp_iI, sp_iG, sp_iS, x_within, c1, x_refuse0]
    exact ⟨_, J, C, rfl, fx_rf h (by omega)⟩
theorem xf_wipe (ok : sp_St S) : eb_FX L (d + 5) 84 [] S (sf_wipe S).2 (zi (sf_wipe S).1) := by
  intro nc ns I J C mt mk h
  rw [h84 rfl]
  unfold sf_wipe
  have g1 := h.2.2.2.1.1
  simp (decide := true) (disch := omega) only [e84_0, e84_1, e84_4, e84_7, e84_8, e84_9, e84_12, e84_13, e84_16, e84_17, bi_s, tyX, rl1, rl2, rl4, ↓reduceIte, Option.bind_some, true_and, and_true, false_and, and_false, true_or, or_true, false_or, or_false, if_same0, ite_eq0, ite_eq0', ite_eq1, ite_eq1', or_em, or_em', ite_not, lcmp0, lcmpL, lcmpG, nI_cl_b, eb_in_b, nI_1, nI_pred, Int32.reduceToNatClampNeg, eb_u_ap, Prod.mk.injEq, not_true_eq_false, not_false_eq_true, sp_rg, sp_iI, sp_iG, sp_iS, g1]
  refine ⟨_, J, C, rfl, eb_XS_tape h (fun a l hal => ?_) ?_ (fun j hj => absurd hj (Nat.not_lt_zero _)), eb_fX_u ⟨Nat.le_of_ble_eq_true rfl, Nat.le_of_ble_eq_true rfl⟩, eb_fJ_rf⟩
  · have q1 : ¬ a = (13, 0, 0) := fun q => hal (Or.inl (by rw [q]))
    simp only [eb_u, q1, false_and, if_false]
  · simp [eb_u, nI_0]
theorem xf_innOf (ok : sp_St S) {a b : Int32} : eb_FX L (d + 5) 86 [zi a, zi b] S (sf_innOf S a b).2 (zi (sf_innOf S a b).1) := by
  intro nc ns I J C mt mk h
  rw [h86 rfl]
  unfold sf_innOf
  have hI := x_isInn (L := L) (d := d + 2) (nc := nc) (ns := ns) (J := J) (C := C) (mt := mt) (mk := mk) (x := a) h.1 ok.1
  have hn := ok.1.1
  by_cases c1 : sp_iI S.1 a
  · rw [if_pos c1] at hI
    obtain ⟨i, hi, rfl⟩ := rg_nat (by omega) c1
    have k0 := h.1.2.1 i hi
    by_cases c2 : sp_rg b 0 6
    · rw [if_pos ⟨c1, c2⟩]
      obtain ⟨j, hj, rfl⟩ := rg_le 6 (by omega) (by decide) c2
      rcases (show j = 0 ∨ j = 1 ∨ j = 2 ∨ j = 3 ∨ j = 4 ∨ j = 5 ∨ j = 6 by omega) with rfl | rfl | rfl | rfl | rfl | rfl | rfl <;>
        simp (decide := true) (disch := omega) only [e86_0, e86_1, e86_2, e86_5, e86_8, e86_9, e86_11, e86_14, e86_15, e86_16, e86_19, e86_22, e86_23, e86_24, e86_25, e86_26, e86_68, e86_69, e86_72, e86_73, e86_74, e86_77, e86_78, e86_79, e86_82, e86_83, e86_84, e86_87, e86_88, e86_89, e86_92, e86_93, e86_94, e86_97, e86_98, e86_99, e86_102, e86_103, e86_104, e86_106, e86_109, bi_s, tyX, rl1, rl2, rl4, ↓reduceIte, Option.bind_some, true_and, and_true, false_and, and_false, true_or, or_true, false_or, or_false, if_same0, ite_eq0, ite_eq0', ite_eq1, ite_eq1', or_em, or_em', ite_not, lcmp0, lcmpL, lcmpG, nI_cl_b, eb_in_b, nI_1, nI_pred, Int32.reduceToNatClampNeg, eb_u_ap, Prod.mk.injEq, not_true_eq_false, not_false_eq_true, sp_rg, sp_iI, sp_iG, sp_iS, hI, eb_sw, k0, tn] <;> exact ⟨_, J, C, rfl, fx_0 h⟩
    · rw [if_neg (fun q => c2 q.2)]
      have n0 : ¬ b = 0 := fun q => c2 (by rw [q]; decide)
      have n1 : ¬ b = 1 := fun q => c2 (by rw [q]; decide)
      have n2 : ¬ b = 2 := fun q => c2 (by rw [q]; decide)
      have n3 : ¬ b = 3 := fun q => c2 (by rw [q]; decide)
      have n4 : ¬ b = 4 := fun q => c2 (by rw [q]; decide)
      have n5 : ¬ b = 5 := fun q => c2 (by rw [q]; decide)
      have n6 : ¬ b = 6 := fun q => c2 (by rw [q]; decide)
      simp (decide := true) (disch := omega) only [e86_0, e86_1, e86_2, e86_5, e86_8, e86_9, e86_11, e86_14, e86_15, e86_16, e86_19, e86_22, e86_23, e86_24, e86_25, e86_26, e86_68, e86_69, e86_72, e86_73, e86_74, e86_77, e86_78, e86_79, e86_82, e86_83, e86_84, e86_87, e86_88, e86_89, e86_92, e86_93, e86_94, e86_97, e86_98, e86_99, e86_102, e86_103, e86_104, e86_106, e86_109, bi_s, tyX, rl1, rl2, rl4, ↓reduceIte, Option.bind_some, true_and, and_true, false_and, and_false, true_or, or_true, false_or, or_false, if_same0, ite_eq0, ite_eq0', ite_eq1, ite_eq1', or_em, or_em', ite_not, lcmp0, lcmpL, lcmpG, nI_cl_b, eb_in_b, nI_1, nI_pred, Int32.reduceToNatClampNeg, eb_u_ap, Prod.mk.injEq, not_true_eq_false, not_false_eq_true, sp_rg, sp_iI, sp_iG, sp_iS, hI, eb_sw, n0, n1, n2, n3, n4, n5, n6, x_refuse0]
      exact ⟨_, J, C, rfl, fx_rf h (by omega)⟩
  · rw [if_neg c1] at hI
    rw [if_neg (fun q => c1 q.1)]
    simp (decide := true) (disch := omega) only [e86_0, e86_1, e86_2, e86_5, e86_8, e86_9, e86_11, e86_14, e86_15, e86_16, e86_19, e86_22, e86_23, e86_24, e86_25, e86_26, e86_68, e86_69, e86_72, e86_73, e86_74, e86_77, e86_78, e86_79, e86_82, e86_83, e86_84, e86_87, e86_88, e86_89, e86_92, e86_93, e86_94, e86_97, e86_98, e86_99, e86_102, e86_103, e86_104, e86_106, e86_109, bi_s, tyX, rl1, rl2, rl4, ↓reduceIte, Option.bind_some, true_and, and_true, false_and, and_false, true_or, or_true, false_or, or_false, if_same0, ite_eq0, ite_eq0', ite_eq1, ite_eq1', or_em, or_em', ite_not, lcmp0, lcmpL, lcmpG, nI_cl_b, eb_in_b, nI_1, nI_pred, Int32.reduceToNatClampNeg, eb_u_ap, Prod.mk.injEq, not_true_eq_false, not_false_eq_true, sp_rg, sp_iI, sp_iG, sp_iS, hI, x_refuse0]
    exact ⟨_, J, C, rfl, fx_rf h (by omega)⟩
theorem xf_goerOf (ok : sp_St S) {a b : Int32} : eb_FX L (d + 5) 87 [zi a, zi b] S (sf_goerOf S a b).2 (zi (sf_goerOf S a b).1) := by
  intro nc ns I J C mt mk h
  rw [h87 rfl]
  unfold sf_goerOf
  have hI := x_isGoer (L := L) (d := d + 2) (nc := nc) (ns := ns) (J := J) (C := C) (mt := mt) (mk := mk) (x := a) h.1 ok.1
  have hn := ok.1.2.1
  by_cases c1 : sp_iG S.1 a
  · rw [if_pos c1] at hI
    obtain ⟨i, hi, rfl⟩ := rg_nat (by omega) c1
    have k0 := h.1.2.2 i hi
    by_cases c2 : sp_rg b 0 2
    · rw [if_pos ⟨c1, c2⟩]
      obtain ⟨j, hj, rfl⟩ := rg_le 2 (by omega) (by decide) c2
      rcases (show j = 0 ∨ j = 1 ∨ j = 2 by omega) with rfl | rfl | rfl <;>
        simp (decide := true) (disch := omega) only [e87_0, e87_1, e87_2, e87_5, e87_8, e87_9, e87_11, e87_14, e87_15, e87_16, e87_19, e87_22, e87_23, e87_24, e87_25, e87_26, e87_52, e87_53, e87_56, e87_57, e87_58, e87_61, e87_62, e87_63, e87_66, e87_67, e87_68, e87_70, e87_73, bi_s, tyX, rl1, rl2, rl4, ↓reduceIte, Option.bind_some, true_and, and_true, false_and, and_false, true_or, or_true, false_or, or_false, if_same0, ite_eq0, ite_eq0', ite_eq1, ite_eq1', or_em, or_em', ite_not, lcmp0, lcmpL, lcmpG, nI_cl_b, eb_in_b, nI_1, nI_pred, Int32.reduceToNatClampNeg, eb_u_ap, Prod.mk.injEq, not_true_eq_false, not_false_eq_true, sp_rg, sp_iI, sp_iG, sp_iS, hI, eb_sw, k0, tn] <;> exact ⟨_, J, C, rfl, fx_0 h⟩
    · rw [if_neg (fun q => c2 q.2)]
      have n0 : ¬ b = 0 := fun q => c2 (by rw [q]; decide)
      have n1 : ¬ b = 1 := fun q => c2 (by rw [q]; decide)
      have n2 : ¬ b = 2 := fun q => c2 (by rw [q]; decide)
      simp (decide := true) (disch := omega) only [e87_0, e87_1, e87_2, e87_5, e87_8, e87_9, e87_11, e87_14, e87_15, e87_16, e87_19, e87_22, e87_23, e87_24, e87_25, e87_26, e87_52, e87_53, e87_56, e87_57, e87_58, e87_61, e87_62, e87_63, e87_66, e87_67, e87_68, e87_70, e87_73, bi_s, tyX, rl1, rl2, rl4, ↓reduceIte, Option.bind_some, true_and, and_true, false_and, and_false, true_or, or_true, false_or, or_false, if_same0, ite_eq0, ite_eq0', ite_eq1, ite_eq1', or_em, or_em', ite_not, lcmp0, lcmpL, lcmpG, nI_cl_b, eb_in_b, nI_1, nI_pred, Int32.reduceToNatClampNeg, eb_u_ap, Prod.mk.injEq, not_true_eq_false, not_false_eq_true, sp_rg, sp_iI, sp_iG, sp_iS, hI, eb_sw, n0, n1, n2, x_refuse0]
      exact ⟨_, J, C, rfl, fx_rf h (by omega)⟩
  · rw [if_neg c1] at hI
    rw [if_neg (fun q => c1 q.1)]
    simp (decide := true) (disch := omega) only [e87_0, e87_1, e87_2, e87_5, e87_8, e87_9, e87_11, e87_14, e87_15, e87_16, e87_19, e87_22, e87_23, e87_24, e87_25, e87_26, e87_52, e87_53, e87_56, e87_57, e87_58, e87_61, e87_62, e87_63, e87_66, e87_67, e87_68, e87_70, e87_73, bi_s, tyX, rl1, rl2, rl4, ↓reduceIte, Option.bind_some, true_and, and_true, false_and, and_false, true_or, or_true, false_or, or_false, if_same0, ite_eq0, ite_eq0', ite_eq1, ite_eq1', or_em, or_em', ite_not, lcmp0, lcmpL, lcmpG, nI_cl_b, eb_in_b, nI_1, nI_pred, Int32.reduceToNatClampNeg, eb_u_ap, Prod.mk.injEq, not_true_eq_false, not_false_eq_true, sp_rg, sp_iI, sp_iG, sp_iS, hI, x_refuse0]
    exact ⟨_, J, C, rfl, fx_rf h (by omega)⟩
theorem score_RX (h : eb_RX I k w) (hg : g < w.2.1) (hi : i < w.1) : sp_score (I (4, k, 0) 4) (I (6, k, i)) (I (7, k, g)) (I (6, k, i) 4) = sp_score (w.2.2.1 0) (w.2.2.2.1 i) (w.2.2.2.2 g) (w.2.2.2.1 i 4) := by
  unfold sp_score
  rw [h.1.2.2.1, h.2.1 i hi 0 (by omega), h.2.1 i hi 3 (by omega), h.2.1 i hi 4 (by omega), h.2.1 i hi 5 (by omega), h.2.1 i hi 6 (by omega), h.2.2 g hg 0 (by omega), h.2.2 g hg 2 (by omega)]
theorem xf_score (ok : sp_St S) {a b : Int32} : eb_FX L (d + 5) 88 [zi a, zi b] S (sf_score S a b).2 (zi (sf_score S a b).1) := by
  intro nc ns I J C mt mk h
  rw [h88 rfl]
  unfold sf_score
  have hG := x_isGoer (L := L) (d := d + 2) (nc := nc) (ns := ns) (J := J) (C := C) (mt := mt) (mk := mk) (x := a) h.1 ok.1
  have hI := x_isInn (L := L) (d := d + 2) (nc := nc) (ns := ns) (J := J) (C := C) (mt := mt) (mk := mk) (x := b) h.1 ok.1
  have hn := ok.1.2.1
  have hn1 := ok.1.1
  by_cases c1 : sp_iG S.1 a
  · rw [if_pos c1] at hG
    by_cases c2 : sp_iI S.1 b
    · rw [if_pos c2] at hI
      rw [if_pos ⟨c1, c2⟩]
      obtain ⟨j, hj, rfl⟩ := rg_nat (by omega) c1
      obtain ⟨i, hi, rfl⟩ := rg_nat (by omega) c2
      simp (decide := true) (disch := omega) only [e88_0, e88_1, e88_2, e88_5, e88_8, e88_9, e88_10, e88_13, e88_16, e88_17, e88_19, e88_22, e88_23, e88_24, e88_27, e88_28, e88_31, e88_34, e88_35, e88_36, e88_37, e88_40, e88_43, e88_44, e88_45, e88_48, bi_s, tyX, rl1, rl2, rl4, ↓reduceIte, Option.bind_some, true_and, and_true, false_and, and_false, true_or, or_true, false_or, or_false, if_same0, ite_eq0, ite_eq0', ite_eq1, ite_eq1', or_em, or_em', ite_not, lcmp0, lcmpL, lcmpG, nI_cl_b, eb_in_b, nI_1, nI_pred, Int32.reduceToNatClampNeg, eb_u_ap, Prod.mk.injEq, not_true_eq_false, not_false_eq_true, sp_rg, sp_iI, sp_iG, sp_iS, hG, hI, x_scoreOf, score_RX h.1 hj hi, tn]
      exact ⟨_, J, C, rfl, fx_0 h⟩
    · rw [if_neg c2] at hI
      rw [if_neg (fun q => c2 q.2)]
      simp (decide := true) (disch := omega) only [e88_0, e88_1, e88_2, e88_5, e88_8, e88_9, e88_10, e88_13, e88_16, e88_17, e88_19, e88_22, e88_23, e88_24, e88_27, e88_28, e88_31, e88_34, e88_35, e88_36, e88_37, e88_40, e88_43, e88_44, e88_45, e88_48, bi_s, tyX, rl1, rl2, rl4, ↓reduceIte, Option.bind_some, true_and, and_true, false_and, and_false, true_or, or_true, false_or, or_false, if_same0, ite_eq0, ite_eq0', ite_eq1, ite_eq1', or_em, or_em', ite_not, lcmp0, lcmpL, lcmpG, nI_cl_b, eb_in_b, nI_1, nI_pred, Int32.reduceToNatClampNeg, eb_u_ap, Prod.mk.injEq, not_true_eq_false, not_false_eq_true, sp_rg, sp_iI, sp_iG, sp_iS, hG, hI, x_far0]
      exact ⟨_, J, C, rfl, fx_rf h (by omega)⟩
  · rw [if_neg c1] at hG
    rw [if_neg (fun q => c1 q.1)]
    simp (decide := true) (disch := omega) only [e88_0, e88_1, e88_2, e88_5, e88_8, e88_9, e88_10, e88_13, e88_16, e88_17, e88_19, e88_22, e88_23, e88_24, e88_27, e88_28, e88_31, e88_34, e88_35, e88_36, e88_37, e88_40, e88_43, e88_44, e88_45, e88_48, bi_s, tyX, rl1, rl2, rl4, ↓reduceIte, Option.bind_some, true_and, and_true, false_and, and_false, true_or, or_true, false_or, or_false, if_same0, ite_eq0, ite_eq0', ite_eq1, ite_eq1', or_em, or_em', ite_not, lcmp0, lcmpL, lcmpG, nI_cl_b, eb_in_b, nI_1, nI_pred, Int32.reduceToNatClampNeg, eb_u_ap, Prod.mk.injEq, not_true_eq_false, not_false_eq_true, sp_rg, sp_iI, sp_iG, sp_iS, hG, x_far0]
    exact ⟨_, J, C, rfl, fx_rf h (by omega)⟩
theorem xf_sleeps (ok : sp_St S) {a b : Int32} : eb_FX L (d + 7) 89 [zi a, zi b] S (sf_sleeps S a b).2 (zi (sf_sleeps S a b).1) := by
  intro nc ns I J C mt mk h
  rw [h89 rfl]
  unfold sf_sleeps
  have hG := x_isGoer (L := L) (d := d + 4) (nc := nc) (ns := ns) (J := J) (C := C) (mt := mt) (mk := mk) (x := a) h.1 ok.1
  have hI := x_isInn (L := L) (d := d + 4) (nc := nc) (ns := ns) (J := J) (C := C) (mt := mt) (mk := mk) (x := b) h.1 ok.1
  have hn := ok.1.2.1
  have hn1 := ok.1.1
  by_cases c1 : sp_iG S.1 a
  · rw [if_pos c1] at hG
    by_cases c2 : sp_iI S.1 b
    · rw [if_pos c2] at hI
      rw [if_pos ⟨c1, c2⟩]
      obtain ⟨j, hj, rfl⟩ := rg_nat (by omega) c1
      obtain ⟨i, hi, rfl⟩ := rg_nat (by omega) c2
      obtain ⟨I1, C1, e1, e2, e3⟩ := x_tonight (L := L) (d := d) (nc := nc) (ns := ns) (J := J) (C := C) (mt := mt) (mk := mk) h.1 ok.1
      have k0 := (e3.2 j hj).1 i hi
      simp (decide := true) (disch := omega) only [e89_0, e89_1, e89_2, e89_5, e89_8, e89_9, e89_10, e89_13, e89_16, e89_17, e89_19, e89_22, e89_23, e89_24, e89_27, e89_30, e89_31, e89_32, e89_35, e89_36, e89_37, bi_s, tyX, rl1, rl2, rl4, ↓reduceIte, Option.bind_some, true_and, and_true, false_and, and_false, true_or, or_true, false_or, or_false, if_same0, ite_eq0, ite_eq0', ite_eq1, ite_eq1', or_em, or_em', ite_not, lcmp0, lcmpL, lcmpG, nI_cl_b, eb_in_b, nI_1, nI_pred, Int32.reduceToNatClampNeg, eb_u_ap, Prod.mk.injEq, not_true_eq_false, not_false_eq_true, sp_rg, sp_iI, sp_iG, sp_iS, hG, hI, e1, k0, tn]
      exact ⟨_, J, C1, rfl, fx_n h e2⟩
    · rw [if_neg c2] at hI
      rw [if_neg (fun q => c2 q.2)]
      simp (decide := true) (disch := omega) only [e89_0, e89_1, e89_2, e89_5, e89_8, e89_9, e89_10, e89_13, e89_16, e89_17, e89_19, e89_22, e89_23, e89_24, e89_27, e89_30, e89_31, e89_32, e89_35, e89_36, e89_37, bi_s, tyX, rl1, rl2, rl4, ↓reduceIte, Option.bind_some, true_and, and_true, false_and, and_false, true_or, or_true, false_or, or_false, if_same0, ite_eq0, ite_eq0', ite_eq1, ite_eq1', or_em, or_em', ite_not, lcmp0, lcmpL, lcmpG, nI_cl_b, eb_in_b, nI_1, nI_pred, Int32.reduceToNatClampNeg, eb_u_ap, Prod.mk.injEq, not_true_eq_false, not_false_eq_true, sp_rg, sp_iI, sp_iG, sp_iS, hG, hI, x_refuse0]
      exact ⟨_, J, C, rfl, fx_rf h (by omega)⟩
  · rw [if_neg c1] at hG
    rw [if_neg (fun q => c1 q.1)]
    simp (decide := true) (disch := omega) only [e89_0, e89_1, e89_2, e89_5, e89_8, e89_9, e89_10, e89_13, e89_16, e89_17, e89_19, e89_22, e89_23, e89_24, e89_27, e89_30, e89_31, e89_32, e89_35, e89_36, e89_37, bi_s, tyX, rl1, rl2, rl4, ↓reduceIte, Option.bind_some, true_and, and_true, false_and, and_false, true_or, or_true, false_or, or_false, if_same0, ite_eq0, ite_eq0', ite_eq1, ite_eq1', or_em, or_em', ite_not, lcmp0, lcmpL, lcmpG, nI_cl_b, eb_in_b, nI_1, nI_pred, Int32.reduceToNatClampNeg, eb_u_ap, Prod.mk.injEq, not_true_eq_false, not_false_eq_true, sp_rg, sp_iI, sp_iG, sp_iS, hG, x_refuse0]
    exact ⟨_, J, C, rfl, fx_rf h (by omega)⟩
theorem xf_guests (ok : sp_St S) {a : Int32} : eb_FX L (d + 7) 90 [zi a] S (sf_guests S a).2 (zi (sf_guests S a).1) := by
  intro nc ns I J C mt mk h
  rw [h90 rfl]
  unfold sf_guests
  have hI := x_isInn (L := L) (d := d + 4) (nc := nc) (ns := ns) (J := J) (C := C) (mt := mt) (mk := mk) (x := a) h.1 ok.1
  have hn1 := ok.1.1
  by_cases c1 : sp_iI S.1 a
  · rw [if_pos c1] at hI
    rw [if_pos c1]
    obtain ⟨i, hi, rfl⟩ := rg_nat (by omega) c1
    obtain ⟨I1, C1, e1, e2, e3⟩ := x_tonight (L := L) (d := d) (nc := nc) (ns := ns) (J := J) (C := C) (mt := mt) (mk := mk) h.1 ok.1
    have k0 := e3.1 i hi
    simp (decide := true) (disch := omega) only [e90_0, e90_1, e90_2, e90_5, e90_8, e90_9, e90_12, e90_15, e90_16, e90_17, e90_20, e90_23, e90_24, e90_26, e90_29, bi_s, tyX, rl1, rl2, rl4, ↓reduceIte, Option.bind_some, true_and, and_true, false_and, and_false, true_or, or_true, false_or, or_false, if_same0, ite_eq0, ite_eq0', ite_eq1, ite_eq1', or_em, or_em', ite_not, lcmp0, lcmpL, lcmpG, nI_cl_b, eb_in_b, nI_1, nI_pred, Int32.reduceToNatClampNeg, eb_u_ap, Prod.mk.injEq, not_true_eq_false, not_false_eq_true, sp_rg, sp_iI, sp_iG, sp_iS, hI, e1, k0, tn]
    exact ⟨_, J, C1, rfl, fx_n h e2⟩
  · rw [if_neg c1] at hI
    rw [if_neg c1]
    simp (decide := true) (disch := omega) only [e90_0, e90_1, e90_2, e90_5, e90_8, e90_9, e90_12, e90_15, e90_16, e90_17, e90_20, e90_23, e90_24, e90_26, e90_29, bi_s, tyX, rl1, rl2, rl4, ↓reduceIte, Option.bind_some, true_and, and_true, false_and, and_false, true_or, or_true, false_or, or_false, if_same0, ite_eq0, ite_eq0', ite_eq1, ite_eq1', or_em, or_em', ite_not, lcmp0, lcmpL, lcmpG, nI_cl_b, eb_in_b, nI_1, nI_pred, Int32.reduceToNatClampNeg, eb_u_ap, Prod.mk.injEq, not_true_eq_false, not_false_eq_true, sp_rg, sp_iI, sp_iG, sp_iS, hI, x_refuse0]
    exact ⟨_, J, C, rfl, fx_rf h (by omega)⟩
theorem xf_taken (ok : sp_St S) {a : Int32} : eb_FX L (d + 7) 94 [zi a] S (sf_taken S a).2 (zi (sf_taken S a).1) := by
  intro nc ns I J C mt mk h
  rw [h94 rfl]
  unfold sf_taken
  have hI := x_isInn (L := L) (d := d + 4) (nc := nc) (ns := ns) (J := J) (C := C) (mt := mt) (mk := mk) (x := a) h.1 ok.1
  have hn1 := ok.1.1
  by_cases c1 : sp_iI S.1 a
  · rw [if_pos c1] at hI
    rw [if_pos c1]
    obtain ⟨i, hi, rfl⟩ := rg_nat (by omega) c1
    obtain ⟨I1, C1, e1, e2, e3⟩ := x_tonight (L := L) (d := d) (nc := nc) (ns := ns) (J := J) (C := C) (mt := mt) (mk := mk) h.1 ok.1
    have k0 := e3.1 i hi
    have k3 := (eb_fn_RX e2 h.1).2.1 i hi 3 (by omega)
    simp (decide := true) (disch := omega) only [e94_0, e94_1, e94_2, e94_5, e94_8, e94_9, e94_12, e94_15, e94_16, e94_17, e94_20, e94_23, e94_24, e94_26, e94_29, bi_s, tyX, rl1, rl2, rl4, ↓reduceIte, Option.bind_some, true_and, and_true, false_and, and_false, true_or, or_true, false_or, or_false, if_same0, ite_eq0, ite_eq0', ite_eq1, ite_eq1', or_em, or_em', ite_not, lcmp0, lcmpL, lcmpG, nI_cl_b, eb_in_b, nI_1, nI_pred, Int32.reduceToNatClampNeg, eb_u_ap, Prod.mk.injEq, not_true_eq_false, not_false_eq_true, sp_rg, sp_iI, sp_iG, sp_iS, hI, e1, x_takenTonight, k0, k3, tn]
    exact ⟨_, J, C1, rfl, fx_n h e2⟩
  · rw [if_neg c1] at hI
    rw [if_neg c1]
    simp (decide := true) (disch := omega) only [e94_0, e94_1, e94_2, e94_5, e94_8, e94_9, e94_12, e94_15, e94_16, e94_17, e94_20, e94_23, e94_24, e94_26, e94_29, bi_s, tyX, rl1, rl2, rl4, ↓reduceIte, Option.bind_some, true_and, and_true, false_and, and_false, true_or, or_true, false_or, or_false, if_same0, ite_eq0, ite_eq0', ite_eq1, ite_eq1', or_em, or_em', ite_not, lcmp0, lcmpL, lcmpG, nI_cl_b, eb_in_b, nI_1, nI_pred, Int32.reduceToNatClampNeg, eb_u_ap, Prod.mk.injEq, not_true_eq_false, not_false_eq_true, sp_rg, sp_iI, sp_iG, sp_iS, hI, x_refuse0]
    exact ⟨_, J, C, rfl, fx_rf h (by omega)⟩
theorem xf_out (ok : sp_St S) {a : Int32} : eb_FX L (d + 7) 91 [zi a] S (sf_out S a).2 (zi (sf_out S a).1) := by
  intro nc ns I J C mt mk h
  rw [h91 rfl]
  unfold sf_out
  have hI := x_isGoerOrNone (L := L) (d := d + 3) (nc := nc) (ns := ns) (J := J) (C := C) (mt := mt) (mk := mk) (x := a) h.1 ok.1
  have hn1 := ok.1.2.1
  obtain ⟨I1, C1, e1, e2, e3⟩ := x_tonight (L := L) (d := d) (nc := nc) (ns := ns) (J := J) (C := C) (mt := mt) (mk := mk) h.1 ok.1
  by_cases c2 : a = -1
  · rw [if_pos (Or.inl c2)] at hI
    rw [if_pos c2]
    subst c2
    have e4 := x_outsideOfAll (L := L) (d := d + 5) (nc := nc) (ns := ns) (J := J) (C := C1) (mt := mt) (mk := mk) (eb_fn_RX e2 h.1) e3 ok.1
    simp (decide := true) (disch := omega) only [e91_0, e91_1, e91_2, e91_5, e91_8, e91_9, e91_11, e91_14, e91_15, e91_16, e91_17, e91_20, e91_21, e91_24, e91_27, e91_30, e91_31, e91_34, e91_37, e91_38, e91_39, e91_42, bi_s, tyX, rl1, rl2, rl4, ↓reduceIte, Option.bind_some, true_and, and_true, false_and, and_false, true_or, or_true, false_or, or_false, if_same0, ite_eq0, ite_eq0', ite_eq1, ite_eq1', or_em, or_em', ite_not, lcmp0, lcmpL, lcmpG, nI_cl_b, eb_in_b, nI_1, nI_pred, Int32.reduceToNatClampNeg, eb_u_ap, Prod.mk.injEq, not_true_eq_false, not_false_eq_true, sp_rg, sp_iI, sp_iG, sp_iS, hI, e1, e4, tn]
    exact ⟨_, J, C1, rfl, fx_n h e2⟩
  · rw [if_neg c2]
    by_cases c1 : sp_iG S.1 a
    · rw [if_pos (Or.inr c1)] at hI
      rw [if_pos c1]
      obtain ⟨i, hi, rfl⟩ := rg_nat (by omega) c1
      have k0 := (e3.2 i hi).2
      simp (decide := true) (disch := omega) only [e91_0, e91_1, e91_2, e91_5, e91_8, e91_9, e91_11, e91_14, e91_15, e91_16, e91_17, e91_20, e91_21, e91_24, e91_27, e91_30, e91_31, e91_34, e91_37, e91_38, e91_39, e91_42, bi_s, tyX, rl1, rl2, rl4, ↓reduceIte, Option.bind_some, true_and, and_true, false_and, and_false, true_or, or_true, false_or, or_false, if_same0, ite_eq0, ite_eq0', ite_eq1, ite_eq1', or_em, or_em', ite_not, lcmp0, lcmpL, lcmpG, nI_cl_b, eb_in_b, nI_1, nI_pred, Int32.reduceToNatClampNeg, eb_u_ap, Prod.mk.injEq, not_true_eq_false, not_false_eq_true, sp_rg, sp_iI, sp_iG, sp_iS, hI, e1, k0, c2, tn]
      exact ⟨_, J, C1, rfl, fx_n h e2⟩
    · rw [if_neg (fun q => q.elim c2 c1)] at hI
      rw [if_neg c1]
      simp (decide := true) (disch := omega) only [e91_0, e91_1, e91_2, e91_5, e91_8, e91_9, e91_11, e91_14, e91_15, e91_16, e91_17, e91_20, e91_21, e91_24, e91_27, e91_30, e91_31, e91_34, e91_37, e91_38, e91_39, e91_42, bi_s, tyX, rl1, rl2, rl4, ↓reduceIte, Option.bind_some, true_and, and_true, false_and, and_false, true_or, or_true, false_or, or_false, if_same0, ite_eq0, ite_eq0', ite_eq1, ite_eq1', or_em, or_em', ite_not, lcmp0, lcmpL, lcmpG, nI_cl_b, eb_in_b, nI_1, nI_pred, Int32.reduceToNatClampNeg, eb_u_ap, Prod.mk.injEq, not_true_eq_false, not_false_eq_true, sp_rg, sp_iI, sp_iG, sp_iS, hI, x_refuse0]
      exact ⟨_, J, C, rfl, fx_rf h (by omega)⟩
theorem xf_joy (ok : sp_St S) {a : Int32} : eb_FX L (d + 7) 93 [zi a] S (sf_joy S a).2 (zi (sf_joy S a).1) := by
  intro nc ns I J C mt mk h
  rw [h93 rfl]
  unfold sf_joy
  have hI := x_isGoerOrNone (L := L) (d := d + 3) (nc := nc) (ns := ns) (J := J) (C := C) (mt := mt) (mk := mk) (x := a) h.1 ok.1
  have hn1 := ok.1.2.1
  obtain ⟨I1, C1, e1, e2, e3⟩ := x_tonight (L := L) (d := d) (nc := nc) (ns := ns) (J := J) (C := C) (mt := mt) (mk := mk) h.1 ok.1
  by_cases c2 : a = -1
  · rw [if_pos (Or.inl c2)] at hI
    rw [if_pos c2]
    subst c2
    have e4 := x_joyOfAll (L := L) (d := d + 2) (nc := nc) (ns := ns) (J := J) (C := C1) (mt := mt) (mk := mk) (eb_fn_RX e2 h.1) e3 ok.1
    simp (decide := true) (disch := omega) only [e93_0, e93_1, e93_2, e93_5, e93_8, e93_9, e93_11, e93_14, e93_15, e93_16, e93_17, e93_20, e93_21, e93_24, e93_27, e93_30, e93_31, e93_34, e93_35, e93_38, e93_41, e93_42, e93_43, e93_46, bi_s, tyX, rl1, rl2, rl4, ↓reduceIte, Option.bind_some, true_and, and_true, false_and, and_false, true_or, or_true, false_or, or_false, if_same0, ite_eq0, ite_eq0', ite_eq1, ite_eq1', or_em, or_em', ite_not, lcmp0, lcmpL, lcmpG, nI_cl_b, eb_in_b, nI_1, nI_pred, Int32.reduceToNatClampNeg, eb_u_ap, Prod.mk.injEq, not_true_eq_false, not_false_eq_true, sp_rg, sp_iI, sp_iG, sp_iS, hI, e1, e4, tn]
    exact ⟨_, J, C1, rfl, fx_n h e2⟩
  · rw [if_neg c2]
    by_cases c1 : sp_iG S.1 a
    · rw [if_pos (Or.inr c1)] at hI
      rw [if_pos c1]
      obtain ⟨i, hi, rfl⟩ := rg_nat (by omega) c1
      have e4 := x_joyOf (L := L) (d := d + 3) (nc := nc) (ns := ns) (J := J) (C := C1) (mt := mt) (mk := mk) (eb_fn_RX e2 h.1) e3 ok.1 hi
      simp (decide := true) (disch := omega) only [e93_0, e93_1, e93_2, e93_5, e93_8, e93_9, e93_11, e93_14, e93_15, e93_16, e93_17, e93_20, e93_21, e93_24, e93_27, e93_30, e93_31, e93_34, e93_35, e93_38, e93_41, e93_42, e93_43, e93_46, bi_s, tyX, rl1, rl2, rl4, ↓reduceIte, Option.bind_some, true_and, and_true, false_and, and_false, true_or, or_true, false_or, or_false, if_same0, ite_eq0, ite_eq0', ite_eq1, ite_eq1', or_em, or_em', ite_not, lcmp0, lcmpL, lcmpG, nI_cl_b, eb_in_b, nI_1, nI_pred, Int32.reduceToNatClampNeg, eb_u_ap, Prod.mk.injEq, not_true_eq_false, not_false_eq_true, sp_rg, sp_iI, sp_iG, sp_iS, hI, e1, e4, c2, tn]
      exact ⟨_, J, C1, rfl, fx_n h e2⟩
    · rw [if_neg (fun q => q.elim c2 c1)] at hI
      rw [if_neg c1]
      simp (decide := true) (disch := omega) only [e93_0, e93_1, e93_2, e93_5, e93_8, e93_9, e93_11, e93_14, e93_15, e93_16, e93_17, e93_20, e93_21, e93_24, e93_27, e93_30, e93_31, e93_34, e93_35, e93_38, e93_41, e93_42, e93_43, e93_46, bi_s, tyX, rl1, rl2, rl4, ↓reduceIte, Option.bind_some, true_and, and_true, false_and, and_false, true_or, or_true, false_or, or_false, if_same0, ite_eq0, ite_eq0', ite_eq1, ite_eq1', or_em, or_em', ite_not, lcmp0, lcmpL, lcmpG, nI_cl_b, eb_in_b, nI_1, nI_pred, Int32.reduceToNatClampNeg, eb_u_ap, Prod.mk.injEq, not_true_eq_false, not_false_eq_true, sp_rg, sp_iI, sp_iG, sp_iS, hI, x_far0]
      exact ⟨_, J, C, rfl, fx_rf h (by omega)⟩
theorem xf_full (ok : sp_St S) : eb_FX L (d + 7) 92 [] S (sf_full S).2 (zi (sf_full S).1) := by
  intro nc ns I J C mt mk h
  rw [h92 rfl]
  unfold sf_full
  obtain ⟨I1, C1, e1, e2, e3⟩ := x_tonight (L := L) (d := d) (nc := nc) (ns := ns) (J := J) (C := C) (mt := mt) (mk := mk) h.1 ok.1
  have e4 := x_fullInns (L := L) (d := d + 4) (nc := nc) (ns := ns) (J := J) (C := C1) (mt := mt) (mk := mk) (eb_fn_RX e2 h.1) e3 ok.1
  simp (decide := true) (disch := omega) only [e92_0, e92_1, e92_4, e92_7, bi_s, tyX, rl1, rl2, rl4, ↓reduceIte, Option.bind_some, true_and, and_true, false_and, and_false, true_or, or_true, false_or, or_false, if_same0, ite_eq0, ite_eq0', ite_eq1, ite_eq1', or_em, or_em', ite_not, lcmp0, lcmpL, lcmpG, nI_cl_b, eb_in_b, nI_1, nI_pred, Int32.reduceToNatClampNeg, eb_u_ap, Prod.mk.injEq, not_true_eq_false, not_false_eq_true, sp_rg, sp_iI, sp_iG, sp_iS, e1, e4]
  exact ⟨_, J, C1, rfl, fx_n h e2⟩
theorem xf_crowd (ok : sp_St S) {a : Int32} : eb_FX L (d + 7) 95 [zi a] S (sf_crowd S a).2 (zi (sf_crowd S a).1) := by
  intro nc ns I J C mt mk h
  rw [h95 rfl]
  unfold sf_crowd
  have hI := x_isInn (L := L) (d := d + 4) (nc := nc) (ns := ns) (J := J) (C := C) (mt := mt) (mk := mk) (x := a) h.1 ok.1
  have hn1 := ok.1.1
  by_cases c1 : sp_iI S.1 a
  · rw [if_pos c1] at hI
    rw [if_pos c1]
    have e4 := x_crowdOf (L := L) (d := d + 2) (nc := nc) (ns := ns) (J := J) (C := C) (mt := mt) (mk := mk) h.1 ok.1 (x := a)
    simp (decide := true) (disch := omega) only [e95_0, e95_1, e95_2, e95_5, e95_8, e95_9, e95_12, e95_13, e95_16, e95_19, e95_20, e95_22, e95_25, bi_s, tyX, rl1, rl2, rl4, ↓reduceIte, Option.bind_some, true_and, and_true, false_and, and_false, true_or, or_true, false_or, or_false, if_same0, ite_eq0, ite_eq0', ite_eq1, ite_eq1', or_em, or_em', ite_not, lcmp0, lcmpL, lcmpG, nI_cl_b, eb_in_b, nI_1, nI_pred, Int32.reduceToNatClampNeg, eb_u_ap, Prod.mk.injEq, not_true_eq_false, not_false_eq_true, sp_rg, sp_iI, sp_iG, sp_iS, hI, e4]
    exact ⟨_, J, C, rfl, fx_0 h⟩
  · rw [if_neg c1] at hI
    rw [if_neg c1]
    simp (decide := true) (disch := omega) only [e95_0, e95_1, e95_2, e95_5, e95_8, e95_9, e95_12, e95_13, e95_16, e95_19, e95_20, e95_22, e95_25, bi_s, tyX, rl1, rl2, rl4, ↓reduceIte, Option.bind_some, true_and, and_true, false_and, and_false, true_or, or_true, false_or, or_false, if_same0, ite_eq0, ite_eq0', ite_eq1, ite_eq1', or_em, or_em', ite_not, lcmp0, lcmpL, lcmpG, nI_cl_b, eb_in_b, nI_1, nI_pred, Int32.reduceToNatClampNeg, eb_u_ap, Prod.mk.injEq, not_true_eq_false, not_false_eq_true, sp_rg, sp_iI, sp_iG, sp_iS, hI, x_refuse0]
    exact ⟨_, J, C, rfl, fx_rf h (by omega)⟩
theorem xf_lean (ok : sp_St S) {a : Int32} : eb_FX L (d + 7) 96 [zi a] S (sf_lean S a).2 (zi (sf_lean S a).1) := by
  intro nc ns I J C mt mk h
  rw [h96 rfl]
  unfold sf_lean
  have hI := x_isInn (L := L) (d := d + 4) (nc := nc) (ns := ns) (J := J) (C := C) (mt := mt) (mk := mk) (x := a) h.1 ok.1
  have hn1 := ok.1.1
  by_cases c1 : sp_iI S.1 a
  · rw [if_pos c1] at hI
    rw [if_neg (fun q => q c1)]
    obtain ⟨i, hi, rfl⟩ := rg_nat (by omega) c1
    have k0 := h.1.2.1 i hi 0 (by omega)
    have k5 := h.1.2.1 i hi 5 (by omega)
    have k6 := h.1.2.1 i hi 6 (by omega)
    rw [show tn (nI i) = i from nI_cl_b (by omega)]
    by_cases c2 : S.1.2.2.2.1 i 5 < 1
    · rw [if_pos c2]
      simp (decide := true) (disch := omega) only [e96_0, e96_1, e96_2, e96_5, e96_8, e96_9, e96_11, e96_14, e96_15, e96_16, e96_19, e96_22, e96_23, e96_24, e96_27, e96_28, e96_31, e96_32, e96_34, e96_37, e96_38, e96_39, e96_42, e96_45, e96_46, e96_47, e96_48, e96_49, e96_52, bi_s, tyX, rl1, rl2, rl4, ↓reduceIte, Option.bind_some, true_and, and_true, false_and, and_false, true_or, or_true, false_or, or_false, if_same0, ite_eq0, ite_eq0', ite_eq1, ite_eq1', or_em, or_em', ite_not, lcmp0, lcmpL, lcmpG, nI_cl_b, eb_in_b, nI_1, nI_pred, Int32.reduceToNatClampNeg, eb_u_ap, Prod.mk.injEq, not_true_eq_false, not_false_eq_true, sp_rg, sp_iI, sp_iG, sp_iS, hI, k5, c2, x_far3]
      exact ⟨_, J, C, rfl, fx_rf h (by omega)⟩
    · rw [if_neg c2]
      have z1 : S.1.2.2.2.1 i 5 + 0 = S.1.2.2.2.1 i 5 := Int32.add_zero _
      have z2 : S.1.2.2.2.1 i 6 + 0 = S.1.2.2.2.1 i 6 := Int32.add_zero _
      have z3 : (0 : Int32) * 0 = 0 := rfl
      simp (decide := true) (disch := omega) only [e96_0, e96_1, e96_2, e96_5, e96_8, e96_9, e96_11, e96_14, e96_15, e96_16, e96_19, e96_22, e96_23, e96_24, e96_27, e96_28, e96_31, e96_32, e96_34, e96_37, e96_38, e96_39, e96_42, e96_45, e96_46, e96_47, e96_48, e96_49, e96_52, bi_s, tyX, rl1, rl2, rl4, ↓reduceIte, Option.bind_some, true_and, and_true, false_and, and_false, true_or, or_true, false_or, or_false, if_same0, ite_eq0, ite_eq0', ite_eq1, ite_eq1', or_em, or_em', ite_not, lcmp0, lcmpL, lcmpG, nI_cl_b, eb_in_b, nI_1, nI_pred, Int32.reduceToNatClampNeg, eb_u_ap, Prod.mk.injEq, not_true_eq_false, not_false_eq_true, sp_rg, sp_iI, sp_iG, sp_iS, hI, k5, c2, x_leanWith, z1, z3, z2, k6, k0]
      exact ⟨_, J, C, rfl, fx_0 h⟩
  · rw [if_neg c1] at hI
    rw [if_pos c1]
    simp (decide := true) (disch := omega) only [e96_0, e96_1, e96_2, e96_5, e96_8, e96_9, e96_11, e96_14, e96_15, e96_16, e96_19, e96_22, e96_23, e96_24, e96_27, e96_28, e96_31, e96_32, e96_34, e96_37, e96_38, e96_39, e96_42, e96_45, e96_46, e96_47, e96_48, e96_49, e96_52, bi_s, tyX, rl1, rl2, rl4, ↓reduceIte, Option.bind_some, true_and, and_true, false_and, and_false, true_or, or_true, false_or, or_false, if_same0, ite_eq0, ite_eq0', ite_eq1, ite_eq1', or_em, or_em', ite_not, lcmp0, lcmpL, lcmpG, nI_cl_b, eb_in_b, nI_1, nI_pred, Int32.reduceToNatClampNeg, eb_u_ap, Prod.mk.injEq, not_true_eq_false, not_false_eq_true, sp_rg, sp_iI, sp_iG, sp_iS, hI, x_far0]
    exact ⟨_, J, C, rfl, fx_rf h (by omega)⟩
theorem xf_nine (ok : sp_St S) {a b c : Int32} : eb_FX L (d + 7) 103 [zi a, zi b, zi c] S (sf_nine S a b c).2 (zi (sf_nine S a b c).1) := by
  intro nc ns I J C mt mk h
  rw [h103 rfl]
  unfold sf_nine
  have hI := x_isInn (L := L) (d := d + 4) (nc := nc) (ns := ns) (J := J) (C := C) (mt := mt) (mk := mk) (x := a) h.1 ok.1
  have hn1 := ok.1.1
  by_cases c1 : sp_iI S.1 a
  · rw [if_pos c1] at hI
    by_cases c2 : sp_rg b 1 40
    · by_cases c3 : sp_rg c 0 100
      · rw [if_pos ⟨c1, c2, c3⟩]
        obtain ⟨i, hi, rfl⟩ := rg_nat (by omega) c1
        have k0 := h.1.2.1 i hi 0 (by omega)
        have k5 := h.1.2.1 i hi 5 (by omega)
        have k6 := h.1.2.1 i hi 6 (by omega)
        have hq : ¬ S.1.2.2.2.1 i 5 + b < 1 := by
          obtain ⟨x, hx, ex⟩ := eb_rg 99 (ok.1.2.2.2.1 i hi).2.2.2.2.2.1 (ok.1.2.2.2.1 i hi).2.2.2.2.2.2 (by omega)
          obtain ⟨y, hy, rfl⟩ := rg_le 40 (by omega) (by decide) c2
          have h1 := c2.1
          rw [show (1 : Int32) = nI 1 from rfl, nI_le_b (by omega) (by omega)] at h1
          rw [ex, nI_add, show (1 : Int32) = nI 1 from rfl, nI_lt_b (by omega) (by omega)]
          omega
        simp (decide := true) (disch := omega) only [e103_0, e103_1, e103_2, e103_5, e103_8, e103_9, e103_10, e103_12, e103_15, e103_18, e103_19, e103_22, e103_25, e103_26, e103_28, e103_31, e103_32, e103_33, e103_36, e103_39, e103_40, e103_41, e103_42, e103_43, e103_46, bi_s, tyX, rl1, rl2, rl4, ↓reduceIte, Option.bind_some, true_and, and_true, false_and, and_false, true_or, or_true, false_or, or_false, if_same0, ite_eq0, ite_eq0', ite_eq1, ite_eq1', or_em, or_em', ite_not, lcmp0, lcmpL, lcmpG, nI_cl_b, eb_in_b, nI_1, nI_pred, Int32.reduceToNatClampNeg, eb_u_ap, Prod.mk.injEq, not_true_eq_false, not_false_eq_true, sp_rg, sp_iI, sp_iG, sp_iS, hI, x_within, x_isGood, c2, c3, k5, hq, x_leanWith, k6, k0, tn]
        exact ⟨_, J, C, rfl, fx_0 h⟩
      · rw [if_neg (fun q => c3 q.2.2)]
        simp (decide := true) (disch := omega) only [e103_0, e103_1, e103_2, e103_5, e103_8, e103_9, e103_10, e103_12, e103_15, e103_18, e103_19, e103_22, e103_25, e103_26, e103_28, e103_31, e103_32, e103_33, e103_36, e103_39, e103_40, e103_41, e103_42, e103_43, e103_46, bi_s, tyX, rl1, rl2, rl4, ↓reduceIte, Option.bind_some, true_and, and_true, false_and, and_false, true_or, or_true, false_or, or_false, if_same0, ite_eq0, ite_eq0', ite_eq1, ite_eq1', or_em, or_em', ite_not, lcmp0, lcmpL, lcmpG, nI_cl_b, eb_in_b, nI_1, nI_pred, Int32.reduceToNatClampNeg, eb_u_ap, Prod.mk.injEq, not_true_eq_false, not_false_eq_true, sp_rg, sp_iI, sp_iG, sp_iS, hI, x_within, x_isGood, c2, c3, x_far0]
        exact ⟨_, J, C, rfl, fx_rf h (by omega)⟩
    · rw [if_neg (fun q => c2 q.2.1)]
      simp (decide := true) (disch := omega) only [e103_0, e103_1, e103_2, e103_5, e103_8, e103_9, e103_10, e103_12, e103_15, e103_18, e103_19, e103_22, e103_25, e103_26, e103_28, e103_31, e103_32, e103_33, e103_36, e103_39, e103_40, e103_41, e103_42, e103_43, e103_46, bi_s, tyX, rl1, rl2, rl4, ↓reduceIte, Option.bind_some, true_and, and_true, false_and, and_false, true_or, or_true, false_or, or_false, if_same0, ite_eq0, ite_eq0', ite_eq1, ite_eq1', or_em, or_em', ite_not, lcmp0, lcmpL, lcmpG, nI_cl_b, eb_in_b, nI_1, nI_pred, Int32.reduceToNatClampNeg, eb_u_ap, Prod.mk.injEq, not_true_eq_false, not_false_eq_true, sp_rg, sp_iI, sp_iG, sp_iS, hI, x_within, c2, x_far0]
      exact ⟨_, J, C, rfl, fx_rf h (by omega)⟩
  · rw [if_neg c1] at hI
    rw [if_neg (fun q => c1 q.1)]
    simp (decide := true) (disch := omega) only [e103_0, e103_1, e103_2, e103_5, e103_8, e103_9, e103_10, e103_12, e103_15, e103_18, e103_19, e103_22, e103_25, e103_26, e103_28, e103_31, e103_32, e103_33, e103_36, e103_39, e103_40, e103_41, e103_42, e103_43, e103_46, bi_s, tyX, rl1, rl2, rl4, ↓reduceIte, Option.bind_some, true_and, and_true, false_and, and_false, true_or, or_true, false_or, or_false, if_same0, ite_eq0, ite_eq0', ite_eq1, ite_eq1', or_em, or_em', ite_not, lcmp0, lcmpL, lcmpG, nI_cl_b, eb_in_b, nI_1, nI_pred, Int32.reduceToNatClampNeg, eb_u_ap, Prod.mk.injEq, not_true_eq_false, not_false_eq_true, sp_rg, sp_iI, sp_iG, sp_iS, hI, x_far0]
    exact ⟨_, J, C, rfl, fx_rf h (by omega)⟩
theorem xf_truest (ok : sp_St S) : eb_FX L (d + 7) 97 [] S (sf_truest S).2 (zi (sf_truest S).1) := by
  intro nc ns I J C mt mk h
  rw [h97 rfl]
  unfold sf_truest
  have hn := ok.1.1
  have e := x_truestInn (L := L) (d := d + 5) (nc := nc) (ns := ns) (J := J) (C := C) (mt := mt) (mk := mk) h.1 ok.1
  cases hb : sp_truest S.1 with
  | none =>
    rw [hb] at e
    simp (decide := true) (disch := omega) only [e97_0, e97_1, e97_4, e97_7, e97_8, e97_9, e97_10, e97_13, e97_14, e97_16, e97_19, e97_22, e97_23, bi_s, tyX, rl1, rl2, rl4, ↓reduceIte, Option.bind_some, true_and, and_true, false_and, and_false, true_or, or_true, false_or, or_false, if_same0, ite_eq0, ite_eq0', ite_eq1, ite_eq1', or_em, or_em', ite_not, lcmp0, lcmpL, lcmpG, nI_cl_b, eb_in_b, nI_1, nI_pred, Int32.reduceToNatClampNeg, eb_u_ap, Prod.mk.injEq, not_true_eq_false, not_false_eq_true, sp_rg, sp_iI, sp_iG, sp_iS, e, sp_enc, x_refuse3]
    exact ⟨_, J, C, rfl, fx_rf h (by omega)⟩
  | some b =>
    rw [hb] at e
    have := (sp_best_lt hb).1
    simp (decide := true) (disch := omega) only [e97_0, e97_1, e97_4, e97_7, e97_8, e97_9, e97_10, e97_13, e97_14, e97_16, e97_19, e97_22, e97_23, bi_s, tyX, rl1, rl2, rl4, ↓reduceIte, Option.bind_some, true_and, and_true, false_and, and_false, true_or, or_true, false_or, or_false, if_same0, ite_eq0, ite_eq0', ite_eq1, ite_eq1', or_em, or_em', ite_not, lcmp0, lcmpL, lcmpG, nI_cl_b, eb_in_b, nI_1, nI_pred, Int32.reduceToNatClampNeg, eb_u_ap, Prod.mk.injEq, not_true_eq_false, not_false_eq_true, sp_rg, sp_iI, sp_iG, sp_iS, e, sp_enc, nI_m1]
    exact ⟨_, J, C, rfl, fx_0 h⟩
end

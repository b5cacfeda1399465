/-! the class's faces: copies, elements, what shelves hold, what goers say -/
theorem bi_cp {L d : Nat} {M : eb_M} {a b : eb_A} {i j n : Int32} (ha : (eb_ty L a.1).1 = 11 ∧ (eb_ty L b.1).1 = 11) (hn : ¬ n < 0 ∧ ¬ i < 0 ∧ ¬ j < 0) (h1 : i.toNatClampNeg + n.toNatClampNeg ≤ (eb_ty L a.1).2) (h2 : j.toNatClampNeg + n.toNatClampNeg ≤ (eb_ty L b.1).2) : eb_ev L (d + 1) 904 [zr a, zi i, zr b, zi j, zi n] M = some (zn, (M.1, M.2.1, M.2.2.1, eb_cp M.2.2.2.1 a b i.toNatClampNeg j.toNatClampNeg n.toNatClampNeg, M.2.2.2.2)) := if_pos ⟨ha, hn, h1, h2⟩
section
variable {L d nc ns k i g : Nat} {I : eb_A → Nat → Int32} {J : eb_A → Nat → Int64} {C : Nat → Nat → Nat} {mt mk : Option Nat} {w : eb_W} {R : eb_A → Nat → Option eb_A} {S : eb_St} {M : eb_M}
/-- what a shelf holds: nothing, a row, a goer -/
theorem St_held (ok : sp_St S) {k : Nat} (hk : k < 8) : (ss_h S k = -1 ∧ ¬ sp_rg (ss_h S k) 0 4 ∧ ss_h S k < 10) ∨ (sp_rg (ss_h S k) 0 4 ∧ ss_n S k ≤ 40 ∧ ss_h S k < 10 ∧ ¬ ss_h S k = -1) ∨ ∃ g, g < S.1.2.1 ∧ ss_h S k = nI (10 + g) ∧ ¬ sp_rg (ss_h S k) 0 4 ∧ ¬ ss_h S k < 10 ∧ ¬ ss_h S k = -1 := by
  rcases ok.2.2.1 k hk with q | q | ⟨g, hg, q⟩
  · left; rw [q]; exact ⟨rfl, by decide, by decide⟩
  · right; left
    refine ⟨q.1, q.2, Int32.lt_of_le_of_lt q.1.2 (by decide), fun e => ?_⟩
    rw [e] at q
    exact absurd q.1.1 (by decide)
  · right; right
    have := ok.1.2.1
    refine ⟨g, hg, q, ?_, ?_, ?_⟩
    · rw [q]
      rintro ⟨-, h⟩
      rw [show (4 : Int32) = nI 4 from rfl, nI_le_b (by omega) (by omega)] at h
      omega
    · rw [q, show (10 : Int32) = nI 10 from rfl, nI_lt_b (by omega) (by omega)]; omega
    · rw [q, nI_m1 (by omega)]; exact fun h => h
theorem run_nat {i n : Int32} {z : Nat} (hz : z ≤ 100000) (h0 : 0 ≤ n) (h : 0 ≤ i ∧ i ≤ nI z - n) : ∃ a b, i = nI a ∧ n = nI b ∧ a + b ≤ z := by
  obtain ⟨b, hb, rfl⟩ := nI_of (Int32.not_lt.mpr h0)
  have hs : nI z - nI b = Int32.ofInt (z - b) := by
    show Int32.ofNat z - Int32.ofNat b = _
    rw [← Int32.ofInt_eq_ofNat, ← Int32.ofInt_eq_ofNat, ← Int32.ofInt_sub]
  have hI : (nI z - nI b).toInt = (z : Int) - b := by
    rw [hs, Int32.toInt_ofInt_of_le (by omega) (by omega)]
  obtain ⟨a, ha, rfl⟩ := nI_of (Int32.not_lt.mpr h.1)
  have h2 := Int32.le_iff_toInt_le.mp h.2
  rw [hI, nI_toInt ha] at h2
  exact ⟨a, b, rfl, rfl, by omega⟩
theorem xf_element (ok : sp_St S) {s i : Int32} : eb_FX L (d + 4) 71 [zi s, zi i] S S (zl (sf_element S s i)) := by
  intro nc ns I J C mt mk h
  rw [h71 rfl]
  unfold sf_element
  by_cases c1 : sp_rg s 0 7
  · obtain ⟨k, hk, rfl⟩ := rg_le 7 (by omega) (by decide) c1
    obtain ⟨g0, g1⟩ := h.2.2.1 k (by omega)
    by_cases c2 : sp_rg (ss_h S k) 0 4
    · obtain ⟨g1, g2⟩ := g1 c2
      have hn : ss_n S k ≤ 40 := by
        rcases St_held ok (show k < 8 by omega) with q | q | ⟨g, _, _, q, _⟩
        · exact absurd c2 q.2.1
        · exact q.2.1
        · exact absurd c2 q
      by_cases c3 : 0 ≤ i ∧ i < nI (ss_n S k)
      · obtain ⟨j, hj, rfl⟩ := rg_nat (by omega) c3
        have g3 := g2 j (by omega)
        simp (decide := true) (disch := omega) only [e71_0, e71_1, e71_4, e71_7, e71_8, e71_11, e71_12, e71_13, e71_16, e71_19, e71_20, e71_21, e71_22, e71_25, e71_26, e71_27, e71_30, e71_31, e71_32, e71_35, e71_38, e71_39, e71_40, e71_41, e71_44, e71_45, e71_46, e71_49, e71_50, e71_51, bi_s, tyX, rl1, rl2, rl4, ↓reduceIte, Option.bind_some, true_and, and_true, false_and, and_false, true_or, or_true, false_or, or_false, if_same0, ite_eq0, ite_eq0', ite_eq1, ite_eq1', or_em, or_em', ite_not, lcmp0, lcmpL, lcmpG, nI_cl_b, eb_in_b, nI_1, nI_pred, Int32.reduceToNatClampNeg, eb_u_ap, Prod.mk.injEq, not_true_eq_false, not_false_eq_true, sp_rg, sp_iI, sp_iG, sp_iS, x_isShelf, c1, x_holdsRow, g0, g1, c2, x_within, rg_pos c3 (show ss_n S k ≤ 100000 by omega), c3, g3, tn]
        exact ⟨_, J, C, rfl, h, eb_fX_rf, eb_fJ_rf⟩
      · have c4 := c3
        rw [← rg_pred (by omega)] at c4
        simp (decide := true) (disch := omega) only [e71_0, e71_1, e71_4, e71_7, e71_8, e71_11, e71_12, e71_13, e71_16, e71_19, e71_20, e71_21, e71_22, e71_25, e71_26, e71_27, e71_30, e71_31, e71_32, e71_35, e71_38, e71_39, e71_40, e71_41, e71_44, e71_45, e71_46, e71_49, e71_50, e71_51, bi_s, tyX, rl1, rl2, rl4, ↓reduceIte, Option.bind_some, true_and, and_true, false_and, and_false, true_or, or_true, false_or, or_false, if_same0, ite_eq0, ite_eq0', ite_eq1, ite_eq1', or_em, or_em', ite_not, lcmp0, lcmpL, lcmpG, nI_cl_b, eb_in_b, nI_1, nI_pred, Int32.reduceToNatClampNeg, eb_u_ap, Prod.mk.injEq, not_true_eq_false, not_false_eq_true, sp_rg, sp_iI, sp_iG, sp_iS, x_isShelf, c1, x_holdsRow, g0, g1, c2, x_within, c3, c4, tn]
        exact ⟨_, J, C, rfl, h, eb_fX_rf, eb_fJ_rf⟩
    · simp (decide := true) (disch := omega) only [e71_0, e71_1, e71_4, e71_7, e71_8, e71_11, e71_12, e71_13, e71_16, e71_19, e71_20, e71_21, e71_22, e71_25, e71_26, e71_27, e71_30, e71_31, e71_32, e71_35, e71_38, e71_39, e71_40, e71_41, e71_44, e71_45, e71_46, e71_49, e71_50, e71_51, bi_s, tyX, rl1, rl2, rl4, ↓reduceIte, Option.bind_some, true_and, and_true, false_and, and_false, true_or, or_true, false_or, or_false, if_same0, ite_eq0, ite_eq0', ite_eq1, ite_eq1', or_em, or_em', ite_not, lcmp0, lcmpL, lcmpG, nI_cl_b, eb_in_b, nI_1, nI_pred, Int32.reduceToNatClampNeg, eb_u_ap, Prod.mk.injEq, not_true_eq_false, not_false_eq_true, sp_rg, sp_iI, sp_iG, sp_iS, x_isShelf, c1, x_holdsRow, g0, c2, tn]
      exact ⟨_, J, C, rfl, h, eb_fX_rf, eb_fJ_rf⟩
  · simp (decide := true) (disch := omega) only [e71_0, e71_1, e71_4, e71_7, e71_8, e71_11, e71_12, e71_13, e71_16, e71_19, e71_20, e71_21, e71_22, e71_25, e71_26, e71_27, e71_30, e71_31, e71_32, e71_35, e71_38, e71_39, e71_40, e71_41, e71_44, e71_45, e71_46, e71_49, e71_50, e71_51, bi_s, tyX, rl1, rl2, rl4, ↓reduceIte, Option.bind_some, true_and, and_true, false_and, and_false, true_or, or_true, false_or, or_false, if_same0, ite_eq0, ite_eq0', ite_eq1, ite_eq1', or_em, or_em', ite_not, lcmp0, lcmpL, lcmpG, nI_cl_b, eb_in_b, nI_1, nI_pred, Int32.reduceToNatClampNeg, eb_u_ap, Prod.mk.injEq, not_true_eq_false, not_false_eq_true, sp_rg, sp_iI, sp_iG, sp_iS, x_isShelf, c1]
    exact ⟨_, J, C, rfl, h, eb_fX_rf, eb_fJ_rf⟩
theorem xf_holds (ok : sp_St S) {s : Int32} : eb_FX L (d + 4) 72 [zi s] S (sf_holds S s).2 (zi (sf_holds S s).1) := by
  intro nc ns I J C mt mk h
  rw [h72 rfl]
  unfold sf_holds
  by_cases c1 : sp_rg s 0 7
  · obtain ⟨k, hk, rfl⟩ := rg_le 7 (by omega) (by decide) c1
    obtain ⟨g0, g1⟩ := h.2.2.1 k (by omega)
    simp (decide := true) (disch := omega) only [e72_0, e72_1, e72_4, e72_7, e72_8, e72_11, e72_12, e72_13, e72_16, e72_19, e72_20, bi_s, tyX, rl1, rl2, rl4, ↓reduceIte, Option.bind_some, true_and, and_true, false_and, and_false, true_or, or_true, false_or, or_false, if_same0, ite_eq0, ite_eq0', ite_eq1, ite_eq1', or_em, or_em', ite_not, lcmp0, lcmpL, lcmpG, nI_cl_b, eb_in_b, nI_1, nI_pred, Int32.reduceToNatClampNeg, eb_u_ap, Prod.mk.injEq, not_true_eq_false, not_false_eq_true, sp_rg, sp_iI, sp_iG, sp_iS, x_isShelf, c1, g0, tn]
    exact ⟨_, J, C, rfl, h, eb_fX_rf, eb_fJ_rf⟩
  · simp (decide := true) (disch := omega) only [e72_0, e72_1, e72_4, e72_7, e72_8, e72_11, e72_12, e72_13, e72_16, e72_19, e72_20, bi_s, tyX, rl1, rl2, rl4, ↓reduceIte, Option.bind_some, true_and, and_true, false_and, and_false, true_or, or_true, false_or, or_false, if_same0, ite_eq0, ite_eq0', ite_eq1, ite_eq1', or_em, or_em', ite_not, lcmp0, lcmpL, lcmpG, nI_cl_b, eb_in_b, nI_1, nI_pred, Int32.reduceToNatClampNeg, eb_u_ap, Prod.mk.injEq, not_true_eq_false, not_false_eq_true, sp_rg, sp_iI, sp_iG, sp_iS, x_isShelf, c1]
    exact ⟨_, J, C, rfl, h, eb_fX_rf, eb_fJ_rf⟩
theorem eb_XS_h {k : Nat} {v : Int32} (h : eb_XS S I J) (hv : ¬ sp_rg v 0 4) : eb_XS (sp_toH S k v) (eb_u I (3, 0, k) 0 v) J := by
  obtain ⟨h1, ⟨h2, h3⟩, h4, ⟨h5, h6⟩, h7⟩ := h
  have e : ∀ a l, ¬ a = (3, 0, k) → eb_u I (3, 0, k) 0 v a l = I a l := fun a l ha => by simp only [eb_u, ha, false_and, if_false]
  refine ⟨eb_RX_of h1 (fun l => e _ _ (by simp)) (fun i l _ => e _ _ (by simp)) (fun i l _ => e _ _ (by simp)), ⟨(e _ _ (by simp)).trans h2, fun p hp => eb_RX_of (h3 p hp) (fun l => e _ _ (by simp)) (fun i l _ => e _ _ (by simp)) (fun i l _ => e _ _ (by simp))⟩, fun s hs => ?_, ⟨(e _ _ (by simp)).trans h5, fun j hj => (e _ _ (by simp)).trans (h6 j hj)⟩, fun r hr => (e _ _ (by simp)).trans (h7 r hr)⟩
  show _ = sp_up (ss_h S) k v s ∧ (sp_rg (sp_up (ss_h S) k v s) 0 4 → _ = nI (ss_n S s) ∧ ∀ j, j < 40 → _ = ss_e S s j)
  by_cases q : s = k
  · subst q
    refine ⟨by simp [eb_u, sp_up], fun hr => ?_⟩
    simp only [sp_up, if_true] at hr
    exact absurd hr hv
  · simp only [sp_up, q, if_false]
    exact ⟨(e _ _ (by simp [q])).trans (h4 s hs).1, fun hr => ⟨(e _ _ (by simp [q])).trans ((h4 s hs).2 hr).1, ((h4 s hs).2 hr).2⟩⟩
theorem xf_show (ok : sp_St S) {s gg : Int32} : eb_FX L (d + 5) 73 [zi s, zi gg] S (sf_show S s gg).2 (zi (sf_show S s gg).1) := by
  intro nc ns I J C mt mk h
  rw [h73 rfl]
  unfold sf_show
  have hG := x_isGoerOrNone (L := L) (d := d + 1) (nc := nc) (ns := ns) (J := J) (C := C) (mt := mt) (mk := mk) (x := gg) h.1 ok.1
  by_cases c1 : sp_rg s 0 7 <;> by_cases c2 : gg = -1 ∨ sp_iG S.1 gg
  · rw [if_pos ⟨c1, c2⟩]
    rw [if_pos c2] at hG
    obtain ⟨k, hk, rfl⟩ := rg_le 7 (by omega) (by decide) c1
    by_cases c3 : gg = -1
    · subst c3
      simp (decide := true) (disch := omega) only [e73_0, e73_1, e73_4, e73_7, e73_8, e73_9, e73_12, e73_15, e73_16, e73_18, e73_21, e73_22, e73_23, e73_26, e73_27, e73_28, e73_29, e73_30, e73_33, e73_34, e73_37, e73_39, e73_40, e73_41, e73_44, e73_45, bi_s, tyX, rl1, rl2, rl4, ↓reduceIte, Option.bind_some, true_and, and_true, false_and, and_false, true_or, or_true, false_or, or_false, if_same0, ite_eq0, ite_eq0', ite_eq1, ite_eq1', or_em, or_em', ite_not, lcmp0, lcmpL, lcmpG, nI_cl_b, eb_in_b, nI_1, nI_pred, Int32.reduceToNatClampNeg, eb_u_ap, Prod.mk.injEq, not_true_eq_false, not_false_eq_true, sp_rg, sp_iI, sp_iG, sp_iS, x_isShelf, c1, hG]
      exact ⟨_, J, C, rfl, eb_XS_h h (by decide), eb_fX_u ⟨Nat.le_of_ble_eq_true rfl, Nat.le_of_ble_eq_true rfl⟩, eb_fJ_rf⟩
    · simp (decide := true) (disch := omega) only [e73_0, e73_1, e73_4, e73_7, e73_8, e73_9, e73_12, e73_15, e73_16, e73_18, e73_21, e73_22, e73_23, e73_26, e73_27, e73_28, e73_29, e73_30, e73_33, e73_34, e73_37, e73_39, e73_40, e73_41, e73_44, e73_45, bi_s, tyX, rl1, rl2, rl4, ↓reduceIte, Option.bind_some, true_and, and_true, false_and, and_false, true_or, or_true, false_or, or_false, if_same0, ite_eq0, ite_eq0', ite_eq1, ite_eq1', or_em, or_em', ite_not, lcmp0, lcmpL, lcmpG, nI_cl_b, eb_in_b, nI_1, nI_pred, Int32.reduceToNatClampNeg, eb_u_ap, Prod.mk.injEq, not_true_eq_false, not_false_eq_true, sp_rg, sp_iI, sp_iG, sp_iS, x_isShelf, c1, hG, c3]
      refine ⟨_, J, C, rfl, eb_XS_h h ?_, eb_fX_u ⟨Nat.le_of_ble_eq_true rfl, Nat.le_of_ble_eq_true rfl⟩, eb_fJ_rf⟩
      have c4 : sp_iG S.1 gg := by
        rcases c2 with q | q
        · exact absurd q c3
        · exact q
      have := ok.1.2.1
      obtain ⟨j, hj, rfl⟩ := rg_nat (by omega) c4
      rintro ⟨-, q⟩
      rw [show (10 : Int32) + nI j = nI (10 + j) from nI_add 10 j, show (4 : Int32) = nI 4 from rfl, nI_le_b (by omega) (by omega)] at q
      omega
  · rw [if_neg (fun q => c2 q.2)]
    rw [if_neg c2] at hG
    simp (decide := true) (disch := omega) only [e73_0, e73_1, e73_4, e73_7, e73_8, e73_9, e73_12, e73_15, e73_16, e73_18, e73_21, e73_22, e73_23, e73_26, e73_27, e73_28, e73_29, e73_30, e73_33, e73_34, e73_37, e73_39, e73_40, e73_41, e73_44, e73_45, bi_s, tyX, rl1, rl2, rl4, ↓reduceIte, Option.bind_some, true_and, and_true, false_and, and_false, true_or, or_true, false_or, or_false, if_same0, ite_eq0, ite_eq0', ite_eq1, ite_eq1', or_em, or_em', ite_not, lcmp0, lcmpL, lcmpG, nI_cl_b, eb_in_b, nI_1, nI_pred, Int32.reduceToNatClampNeg, eb_u_ap, Prod.mk.injEq, not_true_eq_false, not_false_eq_true, sp_rg, sp_iI, sp_iG, sp_iS, x_isShelf, c1, hG, x_refuse0]
    exact ⟨_, J, C, rfl, fx_rf h (by omega)⟩
  all_goals
    rw [if_neg (fun q => c1 q.1)]
    simp (decide := true) (disch := omega) only [e73_0, e73_1, e73_4, e73_7, e73_8, e73_9, e73_12, e73_15, e73_16, e73_18, e73_21, e73_22, e73_23, e73_26, e73_27, e73_28, e73_29, e73_30, e73_33, e73_34, e73_37, e73_39, e73_40, e73_41, e73_44, e73_45, bi_s, tyX, rl1, rl2, rl4, ↓reduceIte, Option.bind_some, true_and, and_true, false_and, and_false, true_or, or_true, false_or, or_false, if_same0, ite_eq0, ite_eq0', ite_eq1, ite_eq1', or_em, or_em', ite_not, lcmp0, lcmpL, lcmpG, nI_cl_b, eb_in_b, nI_1, nI_pred, Int32.reduceToNatClampNeg, eb_u_ap, Prod.mk.injEq, not_true_eq_false, not_false_eq_true, sp_rg, sp_iI, sp_iG, sp_iS, x_isShelf, c1, x_refuse0]
    exact ⟨_, J, C, rfl, fx_rf h (by omega)⟩
theorem xf_says (ok : sp_St S) {s kind : Int32} : eb_FX L (d + 5) 74 [zi s, zi kind] S (sf_says S s kind).2 (zi (sf_says S s kind).1) := by
  intro nc ns I J C mt mk h
  rw [h74 rfl]
  unfold sf_says
  by_cases c1 : sp_rg s 0 7
  · by_cases c2 : sp_rg kind 0 5
    · rw [if_neg (fun q => q ⟨c1, c2⟩)]
      obtain ⟨k, hk, rfl⟩ := rg_le 7 (by omega) (by decide) c1
      obtain ⟨g0, g1⟩ := h.2.2.1 k (by omega)
      have htn : tn (nI k) = k := nI_cl_b (by omega)
      simp only [htn]
      rcases St_held ok (show k < 8 by omega) with ⟨q1, q2, q3⟩ | ⟨q1, q2, q3, q4⟩ | ⟨g, hg, q1, q2, q3, q4⟩
      · rw [if_neg q2, if_pos q3]
        have hG := x_isGoer (L := L) (d := d + 2) (nc := nc) (ns := ns) (J := J) (C := C) (mt := mt) (mk := mk) (x := -1 - 10) h.1 ok.1
        have c3 : ¬ sp_iG S.1 (-1 - 10) := fun q => absurd q.1 (by decide)
        rw [if_neg c3] at hG
        rw [q1] at g0
        simp (decide := true) (disch := omega) only [e74_0, e74_1, e74_4, e74_7, e74_8, e74_9, e74_10, e74_13, e74_16, e74_17, e74_19, e74_22, e74_23, e74_24, e74_27, e74_28, e74_29, e74_30, e74_31, e74_34, e74_37, e74_38, e74_40, e74_43, e74_44, e74_45, e74_48, e74_50, e74_51, e74_53, e74_54, e74_56, e74_59, e74_62, e74_63, e74_65, e74_68, e74_69, e74_70, e74_73, e74_76, e74_78, e74_79, e74_81, e74_83, e74_84, e74_87, e74_90, e74_91, e74_93, e74_96, e74_97, e74_98, e74_101, e74_103, e74_106, e74_109, e74_110, e74_113, e74_115, e74_118, bi_s, tyX, rl1, rl2, rl4, ↓reduceIte, Option.bind_some, true_and, and_true, false_and, and_false, true_or, or_true, false_or, or_false, if_same0, ite_eq0, ite_eq0', ite_eq1, ite_eq1', or_em, or_em', ite_not, lcmp0, lcmpL, lcmpG, nI_cl_b, eb_in_b, nI_1, nI_pred, Int32.reduceToNatClampNeg, eb_u_ap, Prod.mk.injEq, not_true_eq_false, not_false_eq_true, sp_rg, sp_iI, sp_iG, sp_iS, x_isShelf, c1, x_within, c2, x_holdsRow, g0, hG, x_refuse2]
        exact ⟨_, J, C, rfl, fx_rf h (by omega)⟩
      · rw [if_pos q1]
        simp (decide := true) (disch := omega) only [e74_0, e74_1, e74_4, e74_7, e74_8, e74_9, e74_10, e74_13, e74_16, e74_17, e74_19, e74_22, e74_23, e74_24, e74_27, e74_28, e74_29, e74_30, e74_31, e74_34, e74_37, e74_38, e74_40, e74_43, e74_44, e74_45, e74_48, e74_50, e74_51, e74_53, e74_54, e74_56, e74_59, e74_62, e74_63, e74_65, e74_68, e74_69, e74_70, e74_73, e74_76, e74_78, e74_79, e74_81, e74_83, e74_84, e74_87, e74_90, e74_91, e74_93, e74_96, e74_97, e74_98, e74_101, e74_103, e74_106, e74_109, e74_110, e74_113, e74_115, e74_118, bi_s, tyX, rl1, rl2, rl4, ↓reduceIte, Option.bind_some, true_and, and_true, false_and, and_false, true_or, or_true, false_or, or_false, if_same0, ite_eq0, ite_eq0', ite_eq1, ite_eq1', or_em, or_em', ite_not, lcmp0, lcmpL, lcmpG, nI_cl_b, eb_in_b, nI_1, nI_pred, Int32.reduceToNatClampNeg, eb_u_ap, Prod.mk.injEq, not_true_eq_false, not_false_eq_true, sp_rg, sp_iI, sp_iG, sp_iS, x_isShelf, c1, x_within, c2, x_holdsRow, g0, q1, x_refuse1]
        exact ⟨_, J, C, rfl, fx_rf h (by omega)⟩
      · rw [if_neg q2, if_neg q3]
        have := ok.1.2.1
        have hsub : nI (10 + g) - 10 = nI g := by rw [Nat.add_comm, ← nI_add]; exact Int32.add_sub_cancel _ _
        have hG := x_isGoer (L := L) (d := d + 2) (nc := nc) (ns := ns) (J := J) (C := C) (mt := mt) (mk := mk) (x := nI g) h.1 ok.1
        have c3 : sp_iG S.1 (nI g) := ⟨nI_pos' (by omega), by rw [nI_lt_b (by omega) (by omega)]; exact hg⟩
        rw [if_pos c3] at hG
        rw [q1] at g0 q2
        have k0 := h.1.2.2 g hg 0 (by omega)
        have k1 := h.1.2.2 g hg 1 (by omega)
        have hch := x_firstChoice (L := L) (d := d + 1) (nc := nc) (ns := ns) (J := J) (C := C) (mt := mt) (mk := mk) h.1 ok.1 hg
        rw [q1, hsub, show tn (nI g) = g from nI_cl_b (by omega)]
        by_cases c4 : kind = 0 ∨ kind = S.1.2.2.2.2 g 0 ∨ kind = 1 ∧ ¬ S.1.2.2.2.2 g 0 = 0 ∧ ¬ S.1.2.2.2.2 g 0 = 3
        · rw [if_neg (fun q => q c4)]
          have c4 := eq_true c4
          by_cases c5 : kind = 0
          · subst c5
            simp (decide := true) (disch := omega) only [e74_0, e74_1, e74_4, e74_7, e74_8, e74_9, e74_10, e74_13, e74_16, e74_17, e74_19, e74_22, e74_23, e74_24, e74_27, e74_28, e74_29, e74_30, e74_31, e74_34, e74_37, e74_38, e74_40, e74_43, e74_44, e74_45, e74_48, e74_50, e74_51, e74_53, e74_54, e74_56, e74_59, e74_62, e74_63, e74_65, e74_68, e74_69, e74_70, e74_73, e74_76, e74_78, e74_79, e74_81, e74_83, e74_84, e74_87, e74_90, e74_91, e74_93, e74_96, e74_97, e74_98, e74_101, e74_103, e74_106, e74_109, e74_110, e74_113, e74_115, e74_118, bi_s, tyX, rl1, rl2, rl4, ↓reduceIte, Option.bind_some, true_and, and_true, false_and, and_false, true_or, or_true, false_or, or_false, if_same0, ite_eq0, ite_eq0', ite_eq1, ite_eq1', or_em, or_em', ite_not, lcmp0, lcmpL, lcmpG, nI_cl_b, eb_in_b, nI_1, nI_pred, Int32.reduceToNatClampNeg, eb_u_ap, Prod.mk.injEq, not_true_eq_false, not_false_eq_true, sp_rg, sp_iI, sp_iG, sp_iS, x_isShelf, c1, x_within, x_holdsRow, g0, q2, hsub, hG, x_isOf, k0, k1]
            exact ⟨_, J, C, rfl, h, eb_fX_rf, eb_fJ_rf⟩
          · simp only [c5, false_or] at c4
            simp (decide := true) (disch := omega) only [e74_0, e74_1, e74_4, e74_7, e74_8, e74_9, e74_10, e74_13, e74_16, e74_17, e74_19, e74_22, e74_23, e74_24, e74_27, e74_28, e74_29, e74_30, e74_31, e74_34, e74_37, e74_38, e74_40, e74_43, e74_44, e74_45, e74_48, e74_50, e74_51, e74_53, e74_54, e74_56, e74_59, e74_62, e74_63, e74_65, e74_68, e74_69, e74_70, e74_73, e74_76, e74_78, e74_79, e74_81, e74_83, e74_84, e74_87, e74_90, e74_91, e74_93, e74_96, e74_97, e74_98, e74_101, e74_103, e74_106, e74_109, e74_110, e74_113, e74_115, e74_118, bi_s, tyX, rl1, rl2, rl4, ↓reduceIte, Option.bind_some, true_and, and_true, false_and, and_false, true_or, or_true, false_or, or_false, if_same0, ite_eq0, ite_eq0', ite_eq1, ite_eq1', or_em, or_em', ite_not, lcmp0, lcmpL, lcmpG, nI_cl_b, eb_in_b, nI_1, nI_pred, Int32.reduceToNatClampNeg, eb_u_ap, Prod.mk.injEq, not_true_eq_false, not_false_eq_true, sp_rg, sp_iI, sp_iG, sp_iS, x_isShelf, c1, x_within, c2, x_holdsRow, g0, q2, hsub, hG, x_isOf, k0, c4, c5, hch]
            exact ⟨_, J, C, rfl, h, eb_fX_rf, eb_fJ_rf⟩
        · rw [if_pos c4]
          have c4 := eq_false c4
          simp (decide := true) (disch := omega) only [e74_0, e74_1, e74_4, e74_7, e74_8, e74_9, e74_10, e74_13, e74_16, e74_17, e74_19, e74_22, e74_23, e74_24, e74_27, e74_28, e74_29, e74_30, e74_31, e74_34, e74_37, e74_38, e74_40, e74_43, e74_44, e74_45, e74_48, e74_50, e74_51, e74_53, e74_54, e74_56, e74_59, e74_62, e74_63, e74_65, e74_68, e74_69, e74_70, e74_73, e74_76, e74_78, e74_79, e74_81, e74_83, e74_84, e74_87, e74_90, e74_91, e74_93, e74_96, e74_97, e74_98, e74_101, e74_103, e74_106, e74_109, e74_110, e74_113, e74_115, e74_118, bi_s, tyX, rl1, rl2, rl4, ↓reduceIte, Option.bind_some, true_and, and_true, false_and, and_false, true_or, or_true, false_or, or_false, if_same0, ite_eq0, ite_eq0', ite_eq1, ite_eq1', or_em, or_em', ite_not, lcmp0, lcmpL, lcmpG, nI_cl_b, eb_in_b, nI_1, nI_pred, Int32.reduceToNatClampNeg, eb_u_ap, Prod.mk.injEq, not_true_eq_false, not_false_eq_true, sp_rg, sp_iI, sp_iG, sp_iS, x_isShelf, c1, x_within, c2, x_holdsRow, g0, q2, hsub, hG, x_isOf, k0, c4, x_refuse1]
          exact ⟨_, J, C, rfl, fx_rf h (by omega)⟩
    · rw [if_pos (fun q => c2 q.2)]
      simp (decide := true) (disch := omega) only [e74_0, e74_1, e74_4, e74_7, e74_8, e74_9, e74_10, e74_13, e74_16, e74_17, e74_19, e74_22, e74_23, e74_24, e74_27, e74_28, e74_29, e74_30, e74_31, e74_34, e74_37, e74_38, e74_40, e74_43, e74_44, e74_45, e74_48, e74_50, e74_51, e74_53, e74_54, e74_56, e74_59, e74_62, e74_63, e74_65, e74_68, e74_69, e74_70, e74_73, e74_76, e74_78, e74_79, e74_81, e74_83, e74_84, e74_87, e74_90, e74_91, e74_93, e74_96, e74_97, e74_98, e74_101, e74_103, e74_106, e74_109, e74_110, e74_113, e74_115, e74_118, bi_s, tyX, rl1, rl2, rl4, ↓reduceIte, Option.bind_some, true_and, and_true, false_and, and_false, true_or, or_true, false_or, or_false, if_same0, ite_eq0, ite_eq0', ite_eq1, ite_eq1', or_em, or_em', ite_not, lcmp0, lcmpL, lcmpG, nI_cl_b, eb_in_b, nI_1, nI_pred, Int32.reduceToNatClampNeg, eb_u_ap, Prod.mk.injEq, not_true_eq_false, not_false_eq_true, sp_rg, sp_iI, sp_iG, sp_iS, x_isShelf, c1, x_within, c2, x_refuse0]
      exact ⟨_, J, C, rfl, fx_rf h (by omega)⟩
  · rw [if_pos (fun q => c1 q.1)]
    simp (decide := true) (disch := omega) only [e74_0, e74_1, e74_4, e74_7, e74_8, e74_9, e74_10, e74_13, e74_16, e74_17, e74_19, e74_22, e74_23, e74_24, e74_27, e74_28, e74_29, e74_30, e74_31, e74_34, e74_37, e74_38, e74_40, e74_43, e74_44, e74_45, e74_48, e74_50, e74_51, e74_53, e74_54, e74_56, e74_59, e74_62, e74_63, e74_65, e74_68, e74_69, e74_70, e74_73, e74_76, e74_78, e74_79, e74_81, e74_83, e74_84, e74_87, e74_90, e74_91, e74_93, e74_96, e74_97, e74_98, e74_101, e74_103, e74_106, e74_109, e74_110, e74_113, e74_115, e74_118, bi_s, tyX, rl1, rl2, rl4, ↓reduceIte, Option.bind_some, true_and, and_true, false_and, and_false, true_or, or_true, false_or, or_false, if_same0, ite_eq0, ite_eq0', ite_eq1, ite_eq1', or_em, or_em', ite_not, lcmp0, lcmpL, lcmpG, nI_cl_b, eb_in_b, nI_1, nI_pred, Int32.reduceToNatClampNeg, eb_u_ap, Prod.mk.injEq, not_true_eq_false, not_false_eq_true, sp_rg, sp_iI, sp_iG, sp_iS, x_isShelf, c1, x_refuse0]
    exact ⟨_, J, C, rfl, fx_rf h (by omega)⟩
theorem xf_copy (ok : sp_St S) {p q i j n : Int32} : eb_FX L (d + 4) 70 [zi p, zi q, zi i, zi j, zi n] S (sf_copy S p q i j n).2 (zi (sf_copy S p q i j n).1) := by
  intro nc ns I J C mt mk h
  rw [h70 rfl]
  unfold sf_copy
  by_cases c1 : sp_rg p 0 7
  · by_cases c2 : sp_rg q 0 7
    · rw [if_neg (fun z => z ⟨c1, c2⟩)]
      obtain ⟨a, ha, rfl⟩ := rg_le 7 (by omega) (by decide) c1
      obtain ⟨b, hb, rfl⟩ := rg_le 7 (by omega) (by decide) c2
      obtain ⟨g0, g1⟩ := h.2.2.1 a (by omega)
      obtain ⟨f0, f1⟩ := h.2.2.1 b (by omega)
      have ht1 : tn (nI a) = a := nI_cl_b (by omega)
      have ht2 : tn (nI b) = b := nI_cl_b (by omega)
      simp only [ht1, ht2]
      have hNO1 : ∀ {X : Option eb_R}, X = some (zi (-3), (nc, ns, eb_u I (15, 0, 0) 1 (I (15, 0, 0) 1 + 1), J, eb_RL C mt mk)) → ∃ I' J' C', X = some (zi (sp_no S 1).1, (nc, ns, I', J', eb_RL C' mt mk)) ∧ eb_XS (sp_no S 1).2 I' J' ∧ eb_fX I I' ∧ eb_fJ J J' := fun e => ⟨_, J, C, e, fx_rf h (by omega)⟩
      by_cases e1 : ss_h S a < 10
      · by_cases e2 : ss_h S b < 10
        · by_cases e3 : ss_h S a = -1
          · rw [if_neg (fun z => z.elim (fun z => z e1) (fun z => z.elim (fun z => z e2) (fun z => z.1 e3))), if_pos (Or.inl e3)]
            rw [e3] at g0
            simp (decide := true) (disch := omega) only [e70_0, e70_1, e70_4, e70_7, e70_8, e70_11, e70_14, e70_15, e70_17, e70_20, e70_21, e70_22, e70_25, e70_26, e70_27, e70_29, e70_30, e70_33, e70_34, e70_35, e70_37, e70_39, e70_42, e70_43, e70_46, e70_48, e70_51, e70_52, e70_55, e70_56, e70_59, e70_60, e70_62, e70_64, e70_67, e70_70, e70_72, e70_75, e70_78, e70_80, e70_83, e70_85, e70_88, e70_90, e70_93, e70_96, e70_97, e70_99, e70_102, e70_103, e70_105, e70_108, e70_109, e70_111, e70_114, e70_115, e70_117, e70_118, e70_120, e70_123, e70_126, e70_128, e70_130, e70_132, e70_135, e70_138, e70_139, e70_141, e70_144, e70_145, e70_147, e70_150, e70_151, e70_153, e70_156, e70_158, e70_160, e70_163, e70_165, bi_s, tyX, rl1, rl2, rl4, ↓reduceIte, Option.bind_some, true_and, and_true, false_and, and_false, true_or, or_true, false_or, or_false, if_same0, ite_eq0, ite_eq0', ite_eq1, ite_eq1', or_em, or_em', ite_not, lcmp0, lcmpL, lcmpG, nI_cl_b, eb_in_b, nI_1, nI_pred, Int32.reduceToNatClampNeg, eb_u_ap, Prod.mk.injEq, not_true_eq_false, not_false_eq_true, sp_rg, sp_iI, sp_iG, sp_iS, x_isShelf, c1, c2, x_holdsGoer, g0, f0, e2, x_refuse2]
            exact ⟨_, J, C, rfl, fx_rf h (by omega)⟩
          · by_cases e4 : ss_h S b = -1
            · rw [if_neg (fun z => z.elim (fun z => z e1) (fun z => z.elim (fun z => z e2) (fun z => z.2.1 e4))), if_pos (Or.inr e4)]
              rw [e4] at f0
              simp (decide := true) (disch := omega) only [e70_0, e70_1, e70_4, e70_7, e70_8, e70_11, e70_14, e70_15, e70_17, e70_20, e70_21, e70_22, e70_25, e70_26, e70_27, e70_29, e70_30, e70_33, e70_34, e70_35, e70_37, e70_39, e70_42, e70_43, e70_46, e70_48, e70_51, e70_52, e70_55, e70_56, e70_59, e70_60, e70_62, e70_64, e70_67, e70_70, e70_72, e70_75, e70_78, e70_80, e70_83, e70_85, e70_88, e70_90, e70_93, e70_96, e70_97, e70_99, e70_102, e70_103, e70_105, e70_108, e70_109, e70_111, e70_114, e70_115, e70_117, e70_118, e70_120, e70_123, e70_126, e70_128, e70_130, e70_132, e70_135, e70_138, e70_139, e70_141, e70_144, e70_145, e70_147, e70_150, e70_151, e70_153, e70_156, e70_158, e70_160, e70_163, e70_165, bi_s, tyX, rl1, rl2, rl4, ↓reduceIte, Option.bind_some, true_and, and_true, false_and, and_false, true_or, or_true, false_or, or_false, if_same0, ite_eq0, ite_eq0', ite_eq1, ite_eq1', or_em, or_em', ite_not, lcmp0, lcmpL, lcmpG, nI_cl_b, eb_in_b, nI_1, nI_pred, Int32.reduceToNatClampNeg, eb_u_ap, Prod.mk.injEq, not_true_eq_false, not_false_eq_true, sp_rg, sp_iI, sp_iG, sp_iS, x_isShelf, c1, c2, x_holdsGoer, g0, f0, e1, e3, x_refuse2]
              exact ⟨_, J, C, rfl, fx_rf h (by omega)⟩
            · by_cases e5 : ss_h S a = ss_h S b
              · rw [if_neg (fun z => z.elim (fun z => z e1) (fun z => z.elim (fun z => z e2) (fun z => z.2.2 e5))), if_neg (fun z => z.elim e3 e4)]
                have r1 : sp_rg (ss_h S a) 0 4 ∧ ss_n S a ≤ 40 := by
                  rcases St_held ok (show a < 8 by omega) with z | z | ⟨g, _, _, _, z, _⟩
                  · exact absurd z.1 e3
                  · exact ⟨z.1, z.2.1⟩
                  · exact absurd e1 z
                have r2 : sp_rg (ss_h S b) 0 4 ∧ ss_n S b ≤ 40 := by
                  rcases St_held ok (show b < 8 by omega) with z | z | ⟨g, _, _, _, z, _⟩
                  · exact absurd z.1 e4
                  · exact ⟨z.1, z.2.1⟩
                  · exact absurd e2 z
                obtain ⟨g1, g2⟩ := g1 r1.1
                obtain ⟨f1, f2⟩ := f1 r2.1
                by_cases c3 : 0 ≤ n ∧ 0 ≤ i ∧ i ≤ nI (ss_n S a) - n
                · by_cases c4 : 0 ≤ n ∧ 0 ≤ j ∧ j ≤ nI (ss_n S b) - n
                  · rw [if_pos ⟨c3.1, c3.2, c4.2⟩]
                    obtain ⟨i', n', rfl, rfl, h1⟩ := run_nat (by omega) c3.1 c3.2
                    obtain ⟨j', n2, rfl, en, h2⟩ := run_nat (by omega) c4.1 c4.2
                    rw [nI_eq_b (by omega) (by omega)] at en
                    subst en
                    have hcp := bi_cp (L := L) (d := d + 2) (M := (nc, ns, I, J, eb_RL C mt mk)) (a := (12, 0, a)) (b := (12, 0, b)) (i := nI i') (j := nI j') (n := nI n') ⟨rfl, rfl⟩ ⟨nI_pos (by omega), nI_pos (by omega), nI_pos (by omega)⟩ (by rw [nI_cl_b (by omega), nI_cl_b (by omega)]; show i' + n' ≤ 40; omega) (by rw [nI_cl_b (by omega), nI_cl_b (by omega)]; show j' + n' ≤ 40; omega)
                    rw [nI_cl_b (by omega), nI_cl_b (by omega), nI_cl_b (by omega)] at hcp
                    simp (decide := true) (disch := omega) only [e70_0, e70_1, e70_4, e70_7, e70_8, e70_11, e70_14, e70_15, e70_17, e70_20, e70_21, e70_22, e70_25, e70_26, e70_27, e70_29, e70_30, e70_33, e70_34, e70_35, e70_37, e70_39, e70_42, e70_43, e70_46, e70_48, e70_51, e70_52, e70_55, e70_56, e70_59, e70_60, e70_62, e70_64, e70_67, e70_70, e70_72, e70_75, e70_78, e70_80, e70_83, e70_85, e70_88, e70_90, e70_93, e70_96, e70_97, e70_99, e70_102, e70_103, e70_105, e70_108, e70_109, e70_111, e70_114, e70_115, e70_117, e70_118, e70_120, e70_123, e70_126, e70_128, e70_130, e70_132, e70_135, e70_138, e70_139, e70_141, e70_144, e70_145, e70_147, e70_150, e70_151, e70_153, e70_156, e70_158, e70_160, e70_163, e70_165, bi_s, tyX, rl1, rl2, rl4, ↓reduceIte, Option.bind_some, true_and, and_true, false_and, and_false, true_or, or_true, false_or, or_false, if_same0, ite_eq0, ite_eq0', ite_eq1, ite_eq1', or_em, or_em', ite_not, lcmp0, lcmpL, lcmpG, nI_cl_b, eb_in_b, nI_1, nI_pred, Int32.reduceToNatClampNeg, eb_u_ap, Prod.mk.injEq, not_true_eq_false, not_false_eq_true, sp_rg, sp_iI, sp_iG, sp_iS, x_isShelf, c1, c2, x_holdsGoer, g0, f0, e1, e2, e3, e4, e5, x_hasRun, g1, f1, c3, c4, hcp, tn]
                    refine ⟨I, _, C, rfl, ⟨h.1, h.2.1, fun s hs => ⟨(h.2.2.1 s hs).1, fun hr2 => ⟨((h.2.2.1 s hs).2 hr2).1, fun l hl => ?_⟩⟩, h.2.2.2⟩, eb_fX_rf, fun a l hal => if_neg (fun q => hal (by rw [q.1]; exact ⟨Nat.le_of_ble_eq_true rfl, Nat.le_of_ble_eq_true rfl⟩))⟩
                    show (if ((12, 0, s) : eb_A) = (12, 0, b) ∧ j' ≤ l ∧ l < j' + n' then J (12, 0, a) (i' + (l - j')) else J (12, 0, s) l) = sp_up (ss_e S) b (fun l => if j' ≤ l ∧ l < j' + n' then ss_e S a (i' + (l - j')) else ss_e S b l) s l
                    by_cases z : s = b
                    · subst z
                      simp only [sp_up, true_and, if_true]
                      by_cases z2 : j' ≤ l ∧ l < j' + n'
                      · rw [if_pos z2, if_pos z2]; exact g2 _ (by omega)
                      · rw [if_neg z2, if_neg z2]; exact f2 l hl
                    · simp only [sp_up, Prod.mk.injEq, z, and_false, false_and, if_false]
                      exact ((h.2.2.1 s hs).2 hr2).2 l hl
                  · rw [if_neg (fun z => c4 ⟨z.1, z.2.2⟩)]
                    simp (decide := true) (disch := omega) only [e70_0, e70_1, e70_4, e70_7, e70_8, e70_11, e70_14, e70_15, e70_17, e70_20, e70_21, e70_22, e70_25, e70_26, e70_27, e70_29, e70_30, e70_33, e70_34, e70_35, e70_37, e70_39, e70_42, e70_43, e70_46, e70_48, e70_51, e70_52, e70_55, e70_56, e70_59, e70_60, e70_62, e70_64, e70_67, e70_70, e70_72, e70_75, e70_78, e70_80, e70_83, e70_85, e70_88, e70_90, e70_93, e70_96, e70_97, e70_99, e70_102, e70_103, e70_105, e70_108, e70_109, e70_111, e70_114, e70_115, e70_117, e70_118, e70_120, e70_123, e70_126, e70_128, e70_130, e70_132, e70_135, e70_138, e70_139, e70_141, e70_144, e70_145, e70_147, e70_150, e70_151, e70_153, e70_156, e70_158, e70_160, e70_163, e70_165, bi_s, tyX, rl1, rl2, rl4, ↓reduceIte, Option.bind_some, true_and, and_true, false_and, and_false, true_or, or_true, false_or, or_false, if_same0, ite_eq0, ite_eq0', ite_eq1, ite_eq1', or_em, or_em', ite_not, lcmp0, lcmpL, lcmpG, nI_cl_b, eb_in_b, nI_1, nI_pred, Int32.reduceToNatClampNeg, eb_u_ap, Prod.mk.injEq, not_true_eq_false, not_false_eq_true, sp_rg, sp_iI, sp_iG, sp_iS, x_isShelf, c1, c2, x_holdsGoer, g0, f0, e1, e2, e3, e4, e5, x_hasRun, g1, f1, c3, eq_false (fun z => c4 ⟨c3.1, z⟩), x_refuse0]
                    exact ⟨_, J, C, rfl, fx_rf h (by omega)⟩
                · rw [if_neg (fun z => c3 ⟨z.1, z.2.1⟩)]
                  simp (decide := true) (disch := omega) only [e70_0, e70_1, e70_4, e70_7, e70_8, e70_11, e70_14, e70_15, e70_17, e70_20, e70_21, e70_22, e70_25, e70_26, e70_27, e70_29, e70_30, e70_33, e70_34, e70_35, e70_37, e70_39, e70_42, e70_43, e70_46, e70_48, e70_51, e70_52, e70_55, e70_56, e70_59, e70_60, e70_62, e70_64, e70_67, e70_70, e70_72, e70_75, e70_78, e70_80, e70_83, e70_85, e70_88, e70_90, e70_93, e70_96, e70_97, e70_99, e70_102, e70_103, e70_105, e70_108, e70_109, e70_111, e70_114, e70_115, e70_117, e70_118, e70_120, e70_123, e70_126, e70_128, e70_130, e70_132, e70_135, e70_138, e70_139, e70_141, e70_144, e70_145, e70_147, e70_150, e70_151, e70_153, e70_156, e70_158, e70_160, e70_163, e70_165, bi_s, tyX, rl1, rl2, rl4, ↓reduceIte, Option.bind_some, true_and, and_true, false_and, and_false, true_or, or_true, false_or, or_false, if_same0, ite_eq0, ite_eq0', ite_eq1, ite_eq1', or_em, or_em', ite_not, lcmp0, lcmpL, lcmpG, nI_cl_b, eb_in_b, nI_1, nI_pred, Int32.reduceToNatClampNeg, eb_u_ap, Prod.mk.injEq, not_true_eq_false, not_false_eq_true, sp_rg, sp_iI, sp_iG, sp_iS, x_isShelf, c1, c2, x_holdsGoer, g0, f0, e1, e2, e3, e4, e5, x_hasRun, g1, f1, eq_false c3, x_refuse0]
                  exact ⟨_, J, C, rfl, fx_rf h (by omega)⟩
              · rw [if_pos (Or.inr (Or.inr ⟨e3, e4, e5⟩))]
                simp (decide := true) (disch := omega) only [e70_0, e70_1, e70_4, e70_7, e70_8, e70_11, e70_14, e70_15, e70_17, e70_20, e70_21, e70_22, e70_25, e70_26, e70_27, e70_29, e70_30, e70_33, e70_34, e70_35, e70_37, e70_39, e70_42, e70_43, e70_46, e70_48, e70_51, e70_52, e70_55, e70_56, e70_59, e70_60, e70_62, e70_64, e70_67, e70_70, e70_72, e70_75, e70_78, e70_80, e70_83, e70_85, e70_88, e70_90, e70_93, e70_96, e70_97, e70_99, e70_102, e70_103, e70_105, e70_108, e70_109, e70_111, e70_114, e70_115, e70_117, e70_118, e70_120, e70_123, e70_126, e70_128, e70_130, e70_132, e70_135, e70_138, e70_139, e70_141, e70_144, e70_145, e70_147, e70_150, e70_151, e70_153, e70_156, e70_158, e70_160, e70_163, e70_165, bi_s, tyX, rl1, rl2, rl4, ↓reduceIte, Option.bind_some, true_and, and_true, false_and, and_false, true_or, or_true, false_or, or_false, if_same0, ite_eq0, ite_eq0', ite_eq1, ite_eq1', or_em, or_em', ite_not, lcmp0, lcmpL, lcmpG, nI_cl_b, eb_in_b, nI_1, nI_pred, Int32.reduceToNatClampNeg, eb_u_ap, Prod.mk.injEq, not_true_eq_false, not_false_eq_true, sp_rg, sp_iI, sp_iG, sp_iS, x_isShelf, c1, c2, x_holdsGoer, g0, f0, e1, e2, e3, e4, e5, x_refuse1]
                exact ⟨_, J, C, rfl, fx_rf h (by omega)⟩
        · rw [if_pos (Or.inr (Or.inl e2))]
          refine hNO1 ?_
          have e4 : ¬ ss_h S b = -1 := fun z => e2 (by rw [z]; decide)
          by_cases e3 : ss_h S a = -1 <;> by_cases e5 : ss_h S a = ss_h S b <;> simp (decide := true) (disch := omega) only [e70_0, e70_1, e70_4, e70_7, e70_8, e70_11, e70_14, e70_15, e70_17, e70_20, e70_21, e70_22, e70_25, e70_26, e70_27, e70_29, e70_30, e70_33, e70_34, e70_35, e70_37, e70_39, e70_42, e70_43, e70_46, e70_48, e70_51, e70_52, e70_55, e70_56, e70_59, e70_60, e70_62, e70_64, e70_67, e70_70, e70_72, e70_75, e70_78, e70_80, e70_83, e70_85, e70_88, e70_90, e70_93, e70_96, e70_97, e70_99, e70_102, e70_103, e70_105, e70_108, e70_109, e70_111, e70_114, e70_115, e70_117, e70_118, e70_120, e70_123, e70_126, e70_128, e70_130, e70_132, e70_135, e70_138, e70_139, e70_141, e70_144, e70_145, e70_147, e70_150, e70_151, e70_153, e70_156, e70_158, e70_160, e70_163, e70_165, bi_s, tyX, rl1, rl2, rl4, ↓reduceIte, Option.bind_some, true_and, and_true, false_and, and_false, true_or, or_true, false_or, or_false, if_same0, ite_eq0, ite_eq0', ite_eq1, ite_eq1', or_em, or_em', ite_not, lcmp0, lcmpL, lcmpG, nI_cl_b, eb_in_b, nI_1, nI_pred, Int32.reduceToNatClampNeg, eb_u_ap, Prod.mk.injEq, not_true_eq_false, not_false_eq_true, sp_rg, sp_iI, sp_iG, sp_iS, x_isShelf, c1, c2, x_holdsGoer, g0, f0, e1, e2, e3, e4, x_refuse1]
      · rw [if_pos (Or.inl e1)]
        refine hNO1 ?_
        have e3 : ¬ ss_h S a = -1 := fun z => e1 (by rw [z]; decide)
        by_cases e4 : ss_h S b = -1 <;> simp (decide := true) (disch := omega) only [e70_0, e70_1, e70_4, e70_7, e70_8, e70_11, e70_14, e70_15, e70_17, e70_20, e70_21, e70_22, e70_25, e70_26, e70_27, e70_29, e70_30, e70_33, e70_34, e70_35, e70_37, e70_39, e70_42, e70_43, e70_46, e70_48, e70_51, e70_52, e70_55, e70_56, e70_59, e70_60, e70_62, e70_64, e70_67, e70_70, e70_72, e70_75, e70_78, e70_80, e70_83, e70_85, e70_88, e70_90, e70_93, e70_96, e70_97, e70_99, e70_102, e70_103, e70_105, e70_108, e70_109, e70_111, e70_114, e70_115, e70_117, e70_118, e70_120, e70_123, e70_126, e70_128, e70_130, e70_132, e70_135, e70_138, e70_139, e70_141, e70_144, e70_145, e70_147, e70_150, e70_151, e70_153, e70_156, e70_158, e70_160, e70_163, e70_165, bi_s, tyX, rl1, rl2, rl4, ↓reduceIte, Option.bind_some, true_and, and_true, false_and, and_false, true_or, or_true, false_or, or_false, if_same0, ite_eq0, ite_eq0', ite_eq1, ite_eq1', or_em, or_em', ite_not, lcmp0, lcmpL, lcmpG, nI_cl_b, eb_in_b, nI_1, nI_pred, Int32.reduceToNatClampNeg, eb_u_ap, Prod.mk.injEq, not_true_eq_false, not_false_eq_true, sp_rg, sp_iI, sp_iG, sp_iS, x_isShelf, c1, c2, x_holdsGoer, g0, f0, e1, e3, e4, x_refuse1]
    · rw [if_pos (fun z => c2 z.2)]
      simp (decide := true) (disch := omega) only [e70_0, e70_1, e70_4, e70_7, e70_8, e70_11, e70_14, e70_15, e70_17, e70_20, e70_21, e70_22, e70_25, e70_26, e70_27, e70_29, e70_30, e70_33, e70_34, e70_35, e70_37, e70_39, e70_42, e70_43, e70_46, e70_48, e70_51, e70_52, e70_55, e70_56, e70_59, e70_60, e70_62, e70_64, e70_67, e70_70, e70_72, e70_75, e70_78, e70_80, e70_83, e70_85, e70_88, e70_90, e70_93, e70_96, e70_97, e70_99, e70_102, e70_103, e70_105, e70_108, e70_109, e70_111, e70_114, e70_115, e70_117, e70_118, e70_120, e70_123, e70_126, e70_128, e70_130, e70_132, e70_135, e70_138, e70_139, e70_141, e70_144, e70_145, e70_147, e70_150, e70_151, e70_153, e70_156, e70_158, e70_160, e70_163, e70_165, bi_s, tyX, rl1, rl2, rl4, ↓reduceIte, Option.bind_some, true_and, and_true, false_and, and_false, true_or, or_true, false_or, or_false, if_same0, ite_eq0, ite_eq0', ite_eq1, ite_eq1', or_em, or_em', ite_not, lcmp0, lcmpL, lcmpG, nI_cl_b, eb_in_b, nI_1, nI_pred, Int32.reduceToNatClampNeg, eb_u_ap, Prod.mk.injEq, not_true_eq_false, not_false_eq_true, sp_rg, sp_iI, sp_iG, sp_iS, x_isShelf, c1, c2, x_refuse0]
      exact ⟨_, J, C, rfl, fx_rf h (by omega)⟩
  · rw [if_pos (fun z => c1 z.1)]
    simp (decide := true) (disch := omega) only [e70_0, e70_1, e70_4, e70_7, e70_8, e70_11, e70_14, e70_15, e70_17, e70_20, e70_21, e70_22, e70_25, e70_26, e70_27, e70_29, e70_30, e70_33, e70_34, e70_35, e70_37, e70_39, e70_42, e70_43, e70_46, e70_48, e70_51, e70_52, e70_55, e70_56, e70_59, e70_60, e70_62, e70_64, e70_67, e70_70, e70_72, e70_75, e70_78, e70_80, e70_83, e70_85, e70_88, e70_90, e70_93, e70_96, e70_97, e70_99, e70_102, e70_103, e70_105, e70_108, e70_109, e70_111, e70_114, e70_115, e70_117, e70_118, e70_120, e70_123, e70_126, e70_128, e70_130, e70_132, e70_135, e70_138, e70_139, e70_141, e70_144, e70_145, e70_147, e70_150, e70_151, e70_153, e70_156, e70_158, e70_160, e70_163, e70_165, bi_s, tyX, rl1, rl2, rl4, ↓reduceIte, Option.bind_some, true_and, and_true, false_and, and_false, true_or, or_true, false_or, or_false, if_same0, ite_eq0, ite_eq0', ite_eq1, ite_eq1', or_em, or_em', ite_not, lcmp0, lcmpL, lcmpG, nI_cl_b, eb_in_b, nI_1, nI_pred, Int32.reduceToNatClampNeg, eb_u_ap, Prod.mk.injEq, not_true_eq_false, not_false_eq_true, sp_rg, sp_iI, sp_iG, sp_iS, x_isShelf, c1, x_refuse0]
    exact ⟨_, J, C, rfl, fx_rf h (by omega)⟩
end

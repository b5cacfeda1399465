/-! the class's faces: shelves -/
section
variable {L d nc ns k i g : Nat} {I : eb_A → Nat → Int32} {J : eb_A → Nat → Int64} {C : Nat → Nat → Nat} {mt mk : Option Nat} {w : eb_W} {R : eb_A → Nat → Option eb_A} {S : eb_St} {M : eb_M}
theorem x_holdRow {s : Nat} {a b : Int32} : ∃ J', eb_ev L (d + 1) 19 [zr (3, 0, s), zi a, zi b] (nc, ns, I, J, eb_RL C mt mk) = some (zn, (nc, ns, eb_u (eb_u I (3, 0, s) 0 a) (3, 0, s) 1 b, J', eb_RL C mt mk)) ∧ (∀ j, j < 40 → J' (12, 0, s) j = 0) ∧ ∀ a l, ¬ a = (12, 0, s) → J' a l = J a l := by
  rw [h19 rfl]
  simp (decide := true) (disch := omega) only [e19_0, e19_1, e19_2, e19_5, e19_6, e19_7, e19_10, e19_11, e19_13, e19_15, e19_18, e19_19, e19_22, e19_23, e19_24, e19_25, e19_28, e19_31, bi_s, tyX, rl1, rl2, rl4, ↓reduceIte, Option.bind_some, true_and, and_true, false_and, and_false, true_or, or_true, false_or, or_false, if_same0, ite_eq0, ite_eq0', ite_eq1, ite_eq1', or_em, or_em', ite_not, lcmp0, lcmpL, lcmpG, nI_cl_b, eb_in_b, nI_1, nI_pred, Int32.reduceToNatClampNeg, eb_u_ap, Prod.mk.injEq, not_true_eq_false, not_false_eq_true]
  obtain ⟨J1, e, e1, e2⟩ := eb_loop (α := eb_A → Nat → Int64) (n := 40) (s0 := J)
    (F := fun i t => eb_E L d 19 12 [some (zr (3, 0, s)), some (zi a), some (zi b), some (zi (nI i))] [] (nc, ns, eb_u (eb_u I (3, 0, s) 0 a) (3, 0, s) 1 b, t, eb_RL C mt mk))
    (P := fun i t => (∀ a l, ¬ a = (12, 0, s) → t a l = J a l) ∧ ∀ j, j < i → t (12, 0, s) j = 0)
    ⟨fun _ _ _ => rfl, fun j hj => by omega⟩ (by
      intro i J1 hi hP
      obtain ⟨h2, h3⟩ := hP
      rw [e19_12]
      have h1 : (nI i < 40) = True := by rw [show (40 : Int32) = nI 40 from rfl, nI_lt_b (by omega) (by omega)]; simp [hi]
      simp (decide := true) (disch := omega) only [e19_0, e19_1, e19_2, e19_5, e19_6, e19_7, e19_10, e19_11, e19_13, e19_15, e19_18, e19_19, e19_22, e19_23, e19_24, e19_25, e19_28, e19_31, bi_s, tyX, rl1, rl2, rl4, ↓reduceIte, Option.bind_some, true_and, and_true, false_and, and_false, true_or, or_true, false_or, or_false, if_same0, ite_eq0, ite_eq0', ite_eq1, ite_eq1', or_em, or_em', ite_not, lcmp0, lcmpL, lcmpG, nI_cl_b, eb_in_b, nI_1, nI_pred, Int32.reduceToNatClampNeg, eb_u_ap, Prod.mk.injEq, not_true_eq_false, not_false_eq_true, h1]
      refine ⟨_, rfl, fun a l hal => ?_, fun j hj => ?_⟩
      · simp only [eb_u, hal, false_and, if_false]; exact h2 a l hal
      · by_cases q : j = i
        · subst q; simp [eb_u]
        · simp only [eb_u, q, and_false, if_false]; exact h3 j (by omega))
  simp only [nI_0] at e
  rw [e, e19_12]
  have h1 : nI 40 = 40 := rfl
  simp (decide := true) (disch := omega) only [e19_0, e19_1, e19_2, e19_5, e19_6, e19_7, e19_10, e19_11, e19_13, e19_15, e19_18, e19_19, e19_22, e19_23, e19_24, e19_25, e19_28, e19_31, bi_s, tyX, rl1, rl2, rl4, ↓reduceIte, Option.bind_some, true_and, and_true, false_and, and_false, true_or, or_true, false_or, or_false, if_same0, ite_eq0, ite_eq0', ite_eq1, ite_eq1', or_em, or_em', ite_not, lcmp0, lcmpL, lcmpG, nI_cl_b, eb_in_b, nI_1, nI_pred, Int32.reduceToNatClampNeg, eb_u_ap, Prod.mk.injEq, not_true_eq_false, not_false_eq_true, h1]
  exact ⟨J1, rfl, e2, e1⟩
theorem x_rowFault (h : eb_XS S I J) (ok : sp_St S) {s : Int32} : eb_ev L (d + 3) 135 [zr (1, 0, 0), zi s] (nc, ns, I, J, eb_RL C mt mk) = some (zi (match sp_fault S s with | some k => -2 - nI k | none => 0), (nc, ns, I, J, eb_RL C mt mk)) := by
  rw [h135 rfl]
  unfold sp_fault
  by_cases c1 : sp_rg s 0 7
  · obtain ⟨k, hk, rfl⟩ := rg_le 7 (by omega) (by decide) c1
    have h0 := (h.2.2.1 k (by omega)).1
    by_cases c2 : ss_h S k < 10
    · by_cases c3 : sp_rg (ss_h S k) 0 4
      · simp (decide := true) (disch := omega) only [e135_0, e135_1, e135_4, e135_7, e135_9, e135_10, e135_11, e135_14, e135_15, e135_16, e135_19, e135_22, e135_24, e135_25, e135_26, e135_29, e135_30, e135_31, e135_34, e135_37, e135_38, e135_41, e135_43, bi_s, tyX, rl1, rl2, rl4, ↓reduceIte, Option.bind_some, true_and, and_true, false_and, and_false, true_or, or_true, false_or, or_false, if_same0, ite_eq0, ite_eq0', ite_eq1, ite_eq1', or_em, or_em', ite_not, lcmp0, lcmpL, lcmpG, nI_cl_b, eb_in_b, nI_1, nI_pred, Int32.reduceToNatClampNeg, eb_u_ap, Prod.mk.injEq, not_true_eq_false, not_false_eq_true, sp_rg, sp_iI, sp_iG, sp_iS, x_isShelf, c1, x_holdsGoer, x_holdsRow, h0, c2, c3]
      · simp (decide := true) (disch := omega) only [e135_0, e135_1, e135_4, e135_7, e135_9, e135_10, e135_11, e135_14, e135_15, e135_16, e135_19, e135_22, e135_24, e135_25, e135_26, e135_29, e135_30, e135_31, e135_34, e135_37, e135_38, e135_41, e135_43, bi_s, tyX, rl1, rl2, rl4, ↓reduceIte, Option.bind_some, true_and, and_true, false_and, and_false, true_or, or_true, false_or, or_false, if_same0, ite_eq0, ite_eq0', ite_eq1, ite_eq1', or_em, or_em', ite_not, lcmp0, lcmpL, lcmpG, nI_cl_b, eb_in_b, nI_1, nI_pred, Int32.reduceToNatClampNeg, eb_u_ap, Prod.mk.injEq, not_true_eq_false, not_false_eq_true, sp_rg, sp_iI, sp_iG, sp_iS, x_isShelf, c1, x_holdsGoer, x_holdsRow, h0, c2, c3]
        rfl
    · simp (decide := true) (disch := omega) only [e135_0, e135_1, e135_4, e135_7, e135_9, e135_10, e135_11, e135_14, e135_15, e135_16, e135_19, e135_22, e135_24, e135_25, e135_26, e135_29, e135_30, e135_31, e135_34, e135_37, e135_38, e135_41, e135_43, bi_s, tyX, rl1, rl2, rl4, ↓reduceIte, Option.bind_some, true_and, and_true, false_and, and_false, true_or, or_true, false_or, or_false, if_same0, ite_eq0, ite_eq0', ite_eq1, ite_eq1', or_em, or_em', ite_not, lcmp0, lcmpL, lcmpG, nI_cl_b, eb_in_b, nI_1, nI_pred, Int32.reduceToNatClampNeg, eb_u_ap, Prod.mk.injEq, not_true_eq_false, not_false_eq_true, sp_rg, sp_iI, sp_iG, sp_iS, x_isShelf, c1, x_holdsGoer, x_holdsRow, h0, c2]
      rfl
  · simp (decide := true) (disch := omega) only [e135_0, e135_1, e135_4, e135_7, e135_9, e135_10, e135_11, e135_14, e135_15, e135_16, e135_19, e135_22, e135_24, e135_25, e135_26, e135_29, e135_30, e135_31, e135_34, e135_37, e135_38, e135_41, e135_43, bi_s, tyX, rl1, rl2, rl4, ↓reduceIte, Option.bind_some, true_and, and_true, false_and, and_false, true_or, or_true, false_or, or_false, if_same0, ite_eq0, ite_eq0', ite_eq1, ite_eq1', or_em, or_em', ite_not, lcmp0, lcmpL, lcmpG, nI_cl_b, eb_in_b, nI_1, nI_pred, Int32.reduceToNatClampNeg, eb_u_ap, Prod.mk.injEq, not_true_eq_false, not_false_eq_true, sp_rg, sp_iI, sp_iG, sp_iS, x_isShelf, c1]
    rfl
theorem sp_fault_lt {s : Int32} {k : Nat} (h : sp_fault S s = some k) : k < 3 := by
  unfold sp_fault at h
  split at h
  · cases h; omega
  · split at h
    · cases h; omega
    · split at h
      · cases h
      · cases h; omega
theorem sp_fault_none {s : Int32} (h : sp_fault S s = none) : ∃ k, k < 8 ∧ s = nI k ∧ sp_rg (ss_h S k) 0 4 := by
  unfold sp_fault at h
  split at h
  · cases h
  · next c =>
    obtain ⟨k, hk, rfl⟩ := rg_le 7 (by omega) (by decide) (Decidable.not_not.mp c)
    rw [show tn (nI k) = k from nI_cl_b (by omega)] at h
    split at h
    · cases h
    · split at h
      · next c3 => exact ⟨k, by omega, rfl, c3⟩
      · cases h
theorem rg_pos {i : Int32} {n : Nat} (c : 0 ≤ i ∧ i < nI n) (hn : n ≤ 100000) : (i ≤ nI n - 1) = True := by rw [lt_pred hn c.1]; exact eq_true c.2
/-- a fault's refusal -/
theorem x_refk {kk : Nat} (hk : kk < 5) : eb_ev L (d + 2) 125 [zr (1, 0, 0), zi (-2 - nI kk)] (nc, ns, I, J, eb_RL C mt mk) = some (zi (-2 - nI kk), (nc, ns, eb_u I (15, 0, 0) kk (I (15, 0, 0) kk + 1), J, eb_RL C mt mk)) := x_refuse hk
theorem ref_ne {kk : Nat} (hk : kk < 5) : ¬ -2 - nI kk = 0 := by
  rcases (show kk = 0 ∨ kk = 1 ∨ kk = 2 ∨ kk = 3 ∨ kk = 4 by omega) with rfl | rfl | rfl | rfl | rfl <;> decide
theorem xf_row (ok : sp_St S) {s sort n : Int32} : eb_FX L (d + 4) 68 [zi s, zi sort, zi n] S (sf_row S s sort n).2 (zi (sf_row S s sort n).1) := by
  intro nc ns I J C mt mk h
  rw [h68 rfl]
  unfold sf_row
  by_cases c1 : sp_rg s 0 7 <;> by_cases c2 : sp_rg sort 0 4 <;> by_cases c3 : sp_rg n 0 40
  · rw [if_pos ⟨c1, c2, c3⟩]
    obtain ⟨k, hk, rfl⟩ := rg_le 7 (by omega) (by decide) c1
    obtain ⟨m, hm, rfl⟩ := rg_le 40 (by omega) (by decide) c3
    obtain ⟨J1, a1, a2, a3⟩ := x_holdRow (L := L) (d := d + 2) (nc := nc) (ns := ns) (I := I) (J := J) (C := C) (mt := mt) (mk := mk) (s := k) (a := sort) (b := nI m)
    simp (decide := true) (disch := omega) only [e68_0, e68_1, e68_4, e68_7, e68_8, e68_9, e68_10, e68_13, e68_16, e68_17, e68_18, e68_20, e68_23, e68_26, e68_27, e68_29, e68_32, e68_33, e68_34, e68_37, e68_38, e68_39, e68_40, e68_41, e68_44, e68_45, bi_s, tyX, rl1, rl2, rl4, ↓reduceIte, Option.bind_some, true_and, and_true, false_and, and_false, true_or, or_true, false_or, or_false, if_same0, ite_eq0, ite_eq0', ite_eq1, ite_eq1', or_em, or_em', ite_not, lcmp0, lcmpL, lcmpG, nI_cl_b, eb_in_b, nI_1, nI_pred, Int32.reduceToNatClampNeg, eb_u_ap, Prod.mk.injEq, not_true_eq_false, not_false_eq_true, sp_rg, sp_iI, sp_iG, sp_iS, x_isShelf, x_within, c1, c2, c3, a1]
    obtain ⟨h1, ⟨h2, h3⟩, h4, ⟨h5, h6⟩, h7⟩ := h
    have e : ∀ a l, ¬ a = (3, 0, k) → eb_u (eb_u I (3, 0, k) 0 sort) (3, 0, k) 1 (nI m) a l = I a l := fun a l ha => by simp only [eb_u, ha, false_and, if_false]
    refine ⟨_, J1, C, rfl, ⟨eb_RX_of h1 (fun l => e _ _ (by simp)) (fun i l _ => e _ _ (by simp)) (fun i l _ => e _ _ (by simp)), ⟨(e _ _ (by simp)).trans h2, fun p hp => eb_RX_of (h3 p hp) (fun l => e _ _ (by simp)) (fun i l _ => e _ _ (by simp)) (fun i l _ => e _ _ (by simp))⟩, fun s hs => ?_, ⟨(e _ _ (by simp)).trans h5, fun j hj => (e _ _ (by simp)).trans (h6 j hj)⟩, fun r hr => (e _ _ (by simp)).trans (h7 r hr)⟩, fun a l hal => e a l (fun q => hal (by rw [q]; exact ⟨Nat.le_of_ble_eq_true rfl, Nat.le_of_ble_eq_true rfl⟩)), fun a l hal => a3 a l (fun q => hal (by rw [q]; exact ⟨Nat.le_of_ble_eq_true rfl, Nat.le_of_ble_eq_true rfl⟩))⟩
    show _ = sp_up (ss_h S) k sort s ∧ (sp_rg (sp_up (ss_h S) k sort s) 0 4 → _ = nI (sp_up (ss_n S) k m s) ∧ ∀ j, j < 40 → _ = sp_up (ss_e S) k (fun _ => 0) s j)
    by_cases q : s = k
    · subst q
      refine ⟨by simp [eb_u, sp_up], fun _ => ⟨by simp [eb_u, sp_up], fun j hj => ?_⟩⟩
      rw [a2 j hj]; simp [sp_up]
    · simp only [sp_up, q, if_false]
      refine ⟨(e _ _ (by simp [q])).trans (h4 s hs).1, fun hr => ⟨(e _ _ (by simp [q])).trans ((h4 s hs).2 hr).1, fun j hj => ?_⟩⟩
      rw [a3 _ _ (by simp [q])]; exact ((h4 s hs).2 hr).2 j hj
  all_goals
    rw [if_neg (fun q => by first | exact c1 q.1 | exact c2 q.2.1 | exact c3 q.2.2)]
    simp (decide := true) (disch := omega) only [e68_0, e68_1, e68_4, e68_7, e68_8, e68_9, e68_10, e68_13, e68_16, e68_17, e68_18, e68_20, e68_23, e68_26, e68_27, e68_29, e68_32, e68_33, e68_34, e68_37, e68_38, e68_39, e68_40, e68_41, e68_44, e68_45, bi_s, tyX, rl1, rl2, rl4, ↓reduceIte, Option.bind_some, true_and, and_true, false_and, and_false, true_or, or_true, false_or, or_false, if_same0, ite_eq0, ite_eq0', ite_eq1, ite_eq1', or_em, or_em', ite_not, lcmp0, lcmpL, lcmpG, nI_cl_b, eb_in_b, nI_1, nI_pred, Int32.reduceToNatClampNeg, eb_u_ap, Prod.mk.injEq, not_true_eq_false, not_false_eq_true, sp_rg, sp_iI, sp_iG, sp_iS, x_isShelf, x_within, c1, c2, c3, x_refuse0]
    exact ⟨_, J, C, rfl, fx_rf h (by omega)⟩
theorem xf_set (ok : sp_St S) {s i : Int32} {v : Int64} : eb_FX L (d + 5) 69 [zi s, zi i, zl v] S (sf_set S s i v).2 (zi (sf_set S s i v).1) := by
  intro nc ns I J C mt mk h
  rw [h69 rfl]
  unfold sf_set
  have hf := x_rowFault (L := L) (d := d + 1) (nc := nc) (ns := ns) (C := C) (mt := mt) (mk := mk) h ok (s := s)
  cases hs : sp_fault S s with
  | some kk =>
    have hk := sp_fault_lt hs
    simp only [hs] at hf
    simp (decide := true) (disch := omega) only [e69_0, e69_1, e69_2, e69_5, e69_7, e69_9, e69_12, e69_13, e69_15, e69_18, e69_19, e69_20, e69_21, e69_22, e69_25, e69_26, e69_27, e69_30, e69_31, e69_32, e69_35, e69_38, e69_39, e69_41, e69_44, e69_45, e69_46, e69_49, e69_50, e69_51, e69_52, e69_53, e69_56, e69_57, bi_s, tyX, rl1, rl2, rl4, ↓reduceIte, Option.bind_some, true_and, and_true, false_and, and_false, true_or, or_true, false_or, or_false, if_same0, ite_eq0, ite_eq0', ite_eq1, ite_eq1', or_em, or_em', ite_not, lcmp0, lcmpL, lcmpG, nI_cl_b, eb_in_b, nI_1, nI_pred, Int32.reduceToNatClampNeg, eb_u_ap, Prod.mk.injEq, not_true_eq_false, not_false_eq_true, sp_rg, sp_iI, sp_iG, sp_iS, hf, ref_ne, x_refk]
    exact ⟨_, J, C, rfl, fx_rf h (by omega)⟩
  | none =>
    obtain ⟨k, hk, rfl, hr⟩ := sp_fault_none hs
    simp only [hs] at hf
    have hn : ss_n S k ≤ 40 := by
      rcases ok.2.2.1 k hk with q | q | ⟨g, hg, q⟩
      · rw [q] at hr; exact absurd hr.1 (by decide)
      · exact q.2
      · rw [q, show (4 : Int32) = nI 4 from rfl] at hr
        have := ok.1.2.1
        have := hr.2
        rw [nI_le_b (by omega) (by omega)] at this
        omega
    obtain ⟨g0, g1⟩ := h.2.2.1 k hk
    obtain ⟨g1, g2⟩ := g1 hr
    have htn : tn (nI k) = k := nI_cl_b (by omega)
    simp only [htn]
    by_cases c : 0 ≤ i ∧ i < nI (ss_n S k)
    · rw [if_pos c]
      obtain ⟨j, hj, rfl⟩ := rg_nat (by omega) c
      have hp := x_put (L := L) (d := d + 2) (nc := nc) (ns := ns) (I := I) (J := J) (C := C) (mt := mt) (mk := mk) (s := k) (j := j) (by omega) (v := v)
      simp (decide := true) (disch := omega) only [e69_0, e69_1, e69_2, e69_5, e69_7, e69_9, e69_12, e69_13, e69_15, e69_18, e69_19, e69_20, e69_21, e69_22, e69_25, e69_26, e69_27, e69_30, e69_31, e69_32, e69_35, e69_38, e69_39, e69_41, e69_44, e69_45, e69_46, e69_49, e69_50, e69_51, e69_52, e69_53, e69_56, e69_57, bi_s, tyX, rl1, rl2, rl4, ↓reduceIte, Option.bind_some, true_and, and_true, false_and, and_false, true_or, or_true, false_or, or_false, if_same0, ite_eq0, ite_eq0', ite_eq1, ite_eq1', or_em, or_em', ite_not, lcmp0, lcmpL, lcmpG, nI_cl_b, eb_in_b, nI_1, nI_pred, Int32.reduceToNatClampNeg, eb_u_ap, Prod.mk.injEq, not_true_eq_false, not_false_eq_true, sp_rg, sp_iI, sp_iG, sp_iS, hf, g1, x_within, rg_pos c (show ss_n S k ≤ 100000 by omega), c, hp]
      refine ⟨I, _, C, rfl, ⟨h.1, h.2.1, fun s hs => ⟨(h.2.2.1 s hs).1, fun hr2 => ⟨((h.2.2.1 s hs).2 hr2).1, fun l hl => ?_⟩⟩, h.2.2.2⟩, eb_fX_rf, fun a l hal => if_neg (fun q => hal (by rw [q.1]; exact ⟨Nat.le_of_ble_eq_true rfl, Nat.le_of_ble_eq_true rfl⟩))⟩
      show (if ((12, 0, s) : eb_A) = (12, 0, k) ∧ l = j then xs_low (I (3, 0, k) 0) v else J (12, 0, s) l) = sp_up (ss_e S) k (sp_up (ss_e S k) j (xs_low (ss_h S k) v)) s l
      rw [g0]
      by_cases q : s = k
      · subst q
        by_cases q2 : l = j
        · simp [sp_up, q2]
        · simp only [sp_up, q2, and_false, if_false, if_true]; exact g2 l hl
      · simp only [sp_up, Prod.mk.injEq, q, and_false, false_and, if_false]
        exact ((h.2.2.1 s hs).2 hr2).2 l hl
    · rw [if_neg c]
      simp (decide := true) (disch := omega) only [e69_0, e69_1, e69_2, e69_5, e69_7, e69_9, e69_12, e69_13, e69_15, e69_18, e69_19, e69_20, e69_21, e69_22, e69_25, e69_26, e69_27, e69_30, e69_31, e69_32, e69_35, e69_38, e69_39, e69_41, e69_44, e69_45, e69_46, e69_49, e69_50, e69_51, e69_52, e69_53, e69_56, e69_57, bi_s, tyX, rl1, rl2, rl4, ↓reduceIte, Option.bind_some, true_and, and_true, false_and, and_false, true_or, or_true, false_or, or_false, if_same0, ite_eq0, ite_eq0', ite_eq1, ite_eq1', or_em, or_em', ite_not, lcmp0, lcmpL, lcmpG, nI_cl_b, eb_in_b, nI_1, nI_pred, Int32.reduceToNatClampNeg, eb_u_ap, Prod.mk.injEq, not_true_eq_false, not_false_eq_true, sp_rg, sp_iI, sp_iG, sp_iS, hf, g1, x_within, rg_pred, c, x_refuse0]
      exact ⟨_, J, C, rfl, fx_rf h (by omega)⟩
end

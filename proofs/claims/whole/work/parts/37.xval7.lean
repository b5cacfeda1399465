/-! the class's valleys: a night begins -/
/-- how many below n -/
def sp_n (p : Nat → Bool) : Nat → Nat
  | 0 => 0
  | i + 1 => sp_n p i + if p i = true then 1 else 0
theorem sp_n_le {p : Nat → Bool} : ∀ {n : Nat}, sp_n p n ≤ n := by
  intro n
  induction n with
  | zero => exact Nat.le_refl _
  | succ n ih => unfold sp_n; split <;> omega
theorem sp_n_mono {p : Nat → Bool} {i : Nat} : ∀ {n : Nat}, i ≤ n → sp_n p i ≤ sp_n p n := by
  intro n
  induction n with
  | zero => intro h; rw [Nat.le_zero.mp h]; exact Nat.le_refl _
  | succ n ih =>
    intro h
    by_cases e : i = n + 1
    · subst e; exact Nat.le_refl _
    · exact Nat.le_trans (ih (by omega)) (Nat.le_add_right _ _)
theorem sp_n_not {p : Nat → Bool} : ∀ {n : Nat}, sp_n (fun j => !p j) n + sp_n p n = n := by
  intro n
  induction n with
  | zero => rfl
  | succ n ih => unfold sp_n; cases h : p n <;> simp <;> omega
theorem sp_n_len {p : Nat → Bool} : ∀ {n : Nat}, ((List.range n).filter p).length = sp_n p n := by
  intro n
  induction n with
  | zero => rfl
  | succ n ih =>
    rw [List.range_succ, List.filter_append, List.length_append, ih, show sp_n p (n + 1) = sp_n p n + if p n = true then 1 else 0 from rfl]
    cases h : p n <;> simp [h]
theorem sp_n_sum {p : Nat → Bool} {f : Nat → Int32} : ∀ {n : Nat}, n ≤ 1000 → (∀ i, i < n → f i = if p i = true then 1 else 0) → sp_sum f n = nI (sp_n p n) := by
  intro n
  induction n with
  | zero => intro _ _; rfl
  | succ n ih =>
    intro hn h
    unfold sp_sum sp_n
    rw [ih (by omega) (fun i hi => h i (by omega)), h n (by omega)]
    have := sp_n_le (p := p) (n := n)
    split
    · exact nI_1 _
    · simp
section
variable {L d nc ns k i g : Nat} {I : eb_A → Nat → Int32} {J : eb_A → Nat → Int64} {C : Nat → Nat → Nat} {mt mk : Option Nat} {M : eb_M} {R : eb_A → Nat → Option eb_A} {w : eb_W} {N : eb_N}
theorem x_leaveBeds : ∃ I', eb_ev L (d + 1) 3 [zr (7, k, g)] (nc, ns, I, J, eb_RL C mt mk) = some (zn, (nc, ns, I', J, eb_RL C mt mk)) ∧ I' (7, k, g) 4 = 0 ∧ (∀ i, i < 6 → I' (8, k, g) i = 0) ∧ ∀ a l, ¬ (a = (7, k, g) ∧ l = 4) → ¬ a = (8, k, g) → I' a l = I a l := by
  rw [h3 rfl]
  simp (decide := true) (disch := omega) only [e3_0, e3_1, e3_2, e3_5, e3_6, e3_8, e3_10, e3_13, e3_14, e3_17, e3_18, e3_19, e3_20, e3_23, e3_26, bi_s, tyX, rl1, rl2, rl4, ↓reduceIte, Option.bind_some, true_and, and_true, false_and, and_false, true_or, or_true, false_or, or_false, if_same0, ite_eq0, ite_eq0', ite_eq1, ite_eq1', or_em, or_em', ite_not, lcmp0, lcmpL, lcmpG, nI_cl_b, eb_in_b, nI_1, nI_pred, Int32.reduceToNatClampNeg, eb_u_ap, Prod.mk.injEq, not_true_eq_false, not_false_eq_true]
  obtain ⟨I1, e, e1, e2⟩ := eb_loop (α := eb_A → Nat → Int32) (n := 6) (s0 := eb_u I (7, k, g) 4 0)
    (F := fun i s => eb_E L d 3 7 [some (zr (7, k, g)), some (zi (nI i))] [] (nc, ns, s, J, eb_RL C mt mk))
    (P := fun i s => (∀ a l, ¬ a = (8, k, g) → s a l = eb_u I (7, k, g) 4 0 a l) ∧ ∀ j, j < i → s (8, k, g) j = 0)
    ⟨fun _ _ _ => rfl, fun j hj => by omega⟩ (by
      intro i I1 hi hP
      obtain ⟨h2, h3⟩ := hP
      rw [e3_7]
      have h6 : (nI i < 6) = True := by rw [show (6 : Int32) = nI 6 from rfl, nI_lt_b (by omega) (by omega)]; simp [hi]
      simp (decide := true) (disch := omega) only [e3_0, e3_1, e3_2, e3_5, e3_6, e3_8, e3_10, e3_13, e3_14, e3_17, e3_18, e3_19, e3_20, e3_23, e3_26, bi_s, tyX, rl1, rl2, rl4, ↓reduceIte, Option.bind_some, true_and, and_true, false_and, and_false, true_or, or_true, false_or, or_false, if_same0, ite_eq0, ite_eq0', ite_eq1, ite_eq1', or_em, or_em', ite_not, lcmp0, lcmpL, lcmpG, nI_cl_b, eb_in_b, nI_1, nI_pred, Int32.reduceToNatClampNeg, eb_u_ap, Prod.mk.injEq, not_true_eq_false, not_false_eq_true, h6]
      refine ⟨_, rfl, fun a l hal => ?_, fun j hj => ?_⟩
      · simp only [eb_u, hal, false_and, if_false]; exact h2 a l hal
      · by_cases hji : j = i
        · subst hji; simp [eb_u]
        · simp only [eb_u, hji, and_false, if_false]; exact h3 j (by omega))
  simp only [nI_0] at e
  rw [e, e3_7]
  simp (decide := true) (disch := omega) only [e3_0, e3_1, e3_2, e3_5, e3_6, e3_8, e3_10, e3_13, e3_14, e3_17, e3_18, e3_19, e3_20, e3_23, e3_26, bi_s, tyX, rl1, rl2, rl4, ↓reduceIte, Option.bind_some, true_and, and_true, false_and, and_false, true_or, or_true, false_or, or_false, if_same0, ite_eq0, ite_eq0', ite_eq1, ite_eq1', or_em, or_em', ite_not, lcmp0, lcmpL, lcmpG, nI_cl_b, eb_in_b, nI_1, nI_pred, Int32.reduceToNatClampNeg, eb_u_ap, Prod.mk.injEq, not_true_eq_false, not_false_eq_true, show (nI 6 < 6) = False from by decide]
  refine ⟨_, rfl, ?_, e2, fun a l h1 h2 => ?_⟩
  · rw [e1 _ _ (by simp)]; simp [eb_u]
  · rw [e1 _ _ h2]; exact if_neg h1
/-- comes late -/
def sp_lt (w : eb_W) (j : Nat) : Bool := decide (w.2.2.2.2 j 0 = 5)
theorem x_lateOnes (h : eb_RX I k w) (hw : sp_ok w) : eb_ev L (d + 2) 54 [zr (4, k, 0)] (nc, ns, I, J, eb_RL C mt mk) = some (zi (nI (sp_n (sp_lt w) w.2.1)), (nc, ns, I, J, eb_RL C mt mk)) := by
  have hn := hw.2.1
  rw [← sp_n_sum (f := fun j => if sp_lt w j = true then 1 else 0) (by omega) (fun i _ => rfl)]
  rw [h54 rfl]
  simp (decide := true) (disch := omega) only [e54_0, e54_1, e54_2, e54_3, e54_5, e54_6, e54_9, e54_12, e54_13, e54_14, e54_17, e54_18, e54_19, e54_22, e54_25, e54_26, e54_29, e54_30, e54_31, e54_32, e54_35, e54_38, e54_39, bi_s, tyX, rl1, rl2, rl4, ↓reduceIte, Option.bind_some, true_and, and_true, false_and, and_false, true_or, or_true, false_or, or_false, if_same0, ite_eq0, ite_eq0', ite_eq1, ite_eq1', or_em, or_em', ite_not, lcmp0, lcmpL, lcmpG, nI_cl_b, eb_in_b, nI_1, nI_pred, Int32.reduceToNatClampNeg, eb_u_ap, Prod.mk.injEq, not_true_eq_false, not_false_eq_true]
  have e := eb_loopA (n := w.2.1) (f := sp_sum (fun j => if sp_lt w j = true then 1 else 0))
    (F := fun i s => eb_E L (d + 1) 54 4 [some (zr (4, k, 0)), some (zi s), some (zi (nI i))] [] (nc, ns, I, J, eb_RL C mt mk)) (by
      intro i hi
      rw [e54_4]
      have hk0 := h.2.2 i hi 0 (by omega)
      simp (decide := true) (disch := omega) only [e54_0, e54_1, e54_2, e54_3, e54_5, e54_6, e54_9, e54_12, e54_13, e54_14, e54_17, e54_18, e54_19, e54_22, e54_25, e54_26, e54_29, e54_30, e54_31, e54_32, e54_35, e54_38, e54_39, bi_s, tyX, rl1, rl2, rl4, ↓reduceIte, Option.bind_some, true_and, and_true, false_and, and_false, true_or, or_true, false_or, or_false, if_same0, ite_eq0, ite_eq0', ite_eq1, ite_eq1', or_em, or_em', ite_not, lcmp0, lcmpL, lcmpG, nI_cl_b, eb_in_b, nI_1, nI_pred, Int32.reduceToNatClampNeg, eb_u_ap, Prod.mk.injEq, not_true_eq_false, not_false_eq_true, h.1.2.1, nI_lt_b, hi, sp_sum, x_comesLate, hk0, sp_lt, decide_eq_true_eq]
      by_cases c : w.2.2.2.2 i 0 = 5 <;> simp only [c, bi_s, tyX, rl1, rl2, rl4, ↓reduceIte, Option.bind_some, true_and, and_true, false_and, and_false, true_or, or_true, false_or, or_false, if_same0, ite_eq0, ite_eq0', ite_eq1, ite_eq1', or_em, or_em', ite_not, lcmp0, lcmpL, lcmpG, nI_cl_b, eb_in_b, nI_1, nI_pred, Int32.reduceToNatClampNeg, eb_u_ap, Prod.mk.injEq, not_true_eq_false, not_false_eq_true])
  simp only [nI_0] at e
  rw [show sp_sum (fun j => if sp_lt w j = true then (1 : Int32) else 0) 0 = 0 from rfl] at e
  rw [e, e54_4]
  simp (decide := true) (disch := omega) only [e54_0, e54_1, e54_2, e54_3, e54_5, e54_6, e54_9, e54_12, e54_13, e54_14, e54_17, e54_18, e54_19, e54_22, e54_25, e54_26, e54_29, e54_30, e54_31, e54_32, e54_35, e54_38, e54_39, bi_s, tyX, rl1, rl2, rl4, ↓reduceIte, Option.bind_some, true_and, and_true, false_and, and_false, true_or, or_true, false_or, or_false, if_same0, ite_eq0, ite_eq0', ite_eq1, ite_eq1', or_em, or_em', ite_not, lcmp0, lcmpL, lcmpG, nI_cl_b, eb_in_b, nI_1, nI_pred, Int32.reduceToNatClampNeg, eb_u_ap, Prod.mk.injEq, not_true_eq_false, not_false_eq_true, h.1.2.1, nI_lt_b, Nat.lt_irrefl]
theorem x_lineUp (h : eb_RX I k w) (hw : sp_ok w) {p : Nat → Bool} {from0 : Nat} {b : Int32} (hb : ∀ j, j < w.2.1 → ((if w.2.2.2.2 j 0 = 5 then (1 : Int32) else 0) = b ↔ p j = true)) (hf : from0 + sp_n p w.2.1 ≤ w.2.1) : ∃ C', eb_ev L (d + 3) 53 [zr (4, k, 0), zi b, zi (nI from0)] (nc, ns, I, J, eb_RL C mt mk) = some (zn, (nc, ns, I, J, eb_RL C' mt mk)) ∧ (∀ k' j, ¬ k' = k → C' k' j = C k' j) ∧ ∀ c, C' k c = if from0 ≤ c ∧ c < from0 + sp_n p w.2.1 then ((List.range w.2.1).filter p).getD (c - from0) 0 else C k c := by
  have hn := hw.2.1
  rw [h53 rfl]
  simp (decide := true) (disch := omega) only [e53_0, e53_1, e53_2, e53_3, e53_7, e53_8, e53_11, e53_14, e53_15, e53_18, e53_20, e53_21, e53_24, e53_25, e53_28, e53_29, e53_30, e53_31, e53_34, e53_37, e53_38, e53_41, e53_42, e53_43, e53_46, e53_48, e53_49, e53_50, e53_53, e53_56, e53_59, bi_s, tyX, rl1, rl2, rl4, ↓reduceIte, Option.bind_some, true_and, and_true, false_and, and_false, true_or, or_true, false_or, or_false, if_same0, ite_eq0, ite_eq0', ite_eq1, ite_eq1', or_em, or_em', ite_not, lcmp0, lcmpL, lcmpG, nI_cl_b, eb_in_b, nI_1, nI_pred, Int32.reduceToNatClampNeg, eb_u_ap, Prod.mk.injEq, not_true_eq_false, not_false_eq_true]
  obtain ⟨s, e, e1, e2, e3⟩ := eb_loop (α := Int32 × (Nat → Nat → Nat)) (n := w.2.1) (s0 := (nI from0, C))
    (F := fun i s => eb_E L (d + 2) 53 5 [some (zr (4, k, 0)), some (zi b), some (zi (nI from0)), some (zi s.1), some (zi (nI i))] [] (nc, ns, I, J, eb_RL s.2 mt mk))
    (P := fun i s => s.1 = nI (from0 + sp_n p i) ∧ (∀ k' j, ¬ k' = k → s.2 k' j = C k' j) ∧ ∀ c, s.2 k c = if from0 ≤ c ∧ c < from0 + sp_n p i then ((List.range i).filter p).getD (c - from0) 0 else C k c)
    ⟨rfl, fun _ _ _ => rfl, fun c => (if_neg (by unfold sp_n; omega)).symm⟩ (by
      intro i s hi hP
      obtain ⟨a, C1⟩ := s
      obtain ⟨h1, h2, h3⟩ := hP
      have h1 : a = nI (from0 + sp_n p i) := h1
      have h2 : ∀ k' j, ¬ k' = k → C1 k' j = C k' j := h2
      have h3 : ∀ c, C1 k c = if from0 ≤ c ∧ c < from0 + sp_n p i then ((List.range i).filter p).getD (c - from0) 0 else C k c := h3
      have hk0 := h.2.2 i hi 0 (by omega)
      have hbi := hb i hi
      have hm := sp_n_mono (p := p) (i := i + 1) (n := w.2.1) (by omega)
      have hl := sp_n_len (p := p) (n := i)
      rw [e53_5]
      cases hp : p i with
      | true =>
        have hs : sp_n p (i + 1) = sp_n p i + 1 := by rw [show sp_n p (i + 1) = sp_n p i + if p i = true then 1 else 0 from rfl, hp]; rfl
        have h5 : (0 ≤ nI (from0 + sp_n p i) ∧ nI (from0 + sp_n p i) ≤ 5) = True := by
          rw [show (5 : Int32) = nI 5 from rfl, show (0 : Int32) = nI 0 from rfl, nI_le_b (by omega) (by omega), nI_le_b (by omega) (by omega)]
          simp; omega
        have hbe : (if w.2.2.2.2 i 0 = 5 then (1 : Int32) else 0) = b := hbi.mpr hp
        simp (decide := true) (disch := omega) only [e53_0, e53_1, e53_2, e53_3, e53_7, e53_8, e53_11, e53_14, e53_15, e53_18, e53_20, e53_21, e53_24, e53_25, e53_28, e53_29, e53_30, e53_31, e53_34, e53_37, e53_38, e53_41, e53_42, e53_43, e53_46, e53_48, e53_49, e53_50, e53_53, e53_56, e53_59, bi_s, tyX, rl1, rl2, rl4, ↓reduceIte, Option.bind_some, true_and, and_true, false_and, and_false, true_or, or_true, false_or, or_false, if_same0, ite_eq0, ite_eq0', ite_eq1, ite_eq1', or_em, or_em', ite_not, lcmp0, lcmpL, lcmpG, nI_cl_b, eb_in_b, nI_1, nI_pred, Int32.reduceToNatClampNeg, eb_u_ap, Prod.mk.injEq, not_true_eq_false, not_false_eq_true, h.1.2.1, nI_lt_b, hi, x_comesLate, hk0, hbe, h1, x_within, h5, rlC]
        refine ⟨(nI (from0 + sp_n p (i + 1)), fun k' j => if k' = k ∧ j = from0 + sp_n p i then i else C1 k' j), ?_, rfl, fun k' j hk => ?_, fun c => ?_⟩
        · rw [hs, ← Nat.add_assoc]
        · simp only [hk, false_and, if_false]; exact h2 k' j hk
        · show (if k = k ∧ c = from0 + sp_n p i then i else C1 k c) = _
          rw [hs, h3 c, List.range_succ, List.filter_append, show List.filter p [i] = [i] from by simp [hp]]
          by_cases q : c = from0 + sp_n p i
          · subst q
            rw [if_pos ⟨rfl, rfl⟩, if_pos ⟨by omega, by omega⟩, Nat.add_sub_cancel_left, ← hl]
            simp
          · rw [if_neg (fun z => q z.2)]
            by_cases z : from0 ≤ c ∧ c < from0 + sp_n p i
            · rw [if_pos z, if_pos (by omega), List.getD_eq_getElem?_getD, List.getD_eq_getElem?_getD, List.getElem?_append_left (by rw [hl]; omega)]
            · rw [if_neg z, if_neg (by omega)]
      | false =>
        have hs : sp_n p (i + 1) = sp_n p i := by rw [show sp_n p (i + 1) = sp_n p i + if p i = true then 1 else 0 from rfl, hp]; rfl
        have hbe : ((if w.2.2.2.2 i 0 = 5 then (1 : Int32) else 0) = b) = False := by
          simp only [eq_iff_iff, iff_false]; rw [hbi, hp]; simp
        simp (decide := true) (disch := omega) only [e53_0, e53_1, e53_2, e53_3, e53_7, e53_8, e53_11, e53_14, e53_15, e53_18, e53_20, e53_21, e53_24, e53_25, e53_28, e53_29, e53_30, e53_31, e53_34, e53_37, e53_38, e53_41, e53_42, e53_43, e53_46, e53_48, e53_49, e53_50, e53_53, e53_56, e53_59, bi_s, tyX, rl1, rl2, rl4, ↓reduceIte, Option.bind_some, true_and, and_true, false_and, and_false, true_or, or_true, false_or, or_false, if_same0, ite_eq0, ite_eq0', ite_eq1, ite_eq1', or_em, or_em', ite_not, lcmp0, lcmpL, lcmpG, nI_cl_b, eb_in_b, nI_1, nI_pred, Int32.reduceToNatClampNeg, eb_u_ap, Prod.mk.injEq, not_true_eq_false, not_false_eq_true, h.1.2.1, nI_lt_b, hi, x_comesLate, hk0, hbe, h1]
        refine ⟨(nI (from0 + sp_n p i), C1), rfl, by rw [hs], h2, fun c => ?_⟩
        show C1 k c = _
        rw [h3 c, hs, List.range_succ, List.filter_append]
        simp [hp])
  obtain ⟨a, C1⟩ := s
  simp only [nI_0] at e
  rw [e, e53_5]
  simp (decide := true) (disch := omega) only [e53_0, e53_1, e53_2, e53_3, e53_7, e53_8, e53_11, e53_14, e53_15, e53_18, e53_20, e53_21, e53_24, e53_25, e53_28, e53_29, e53_30, e53_31, e53_34, e53_37, e53_38, e53_41, e53_42, e53_43, e53_46, e53_48, e53_49, e53_50, e53_53, e53_56, e53_59, bi_s, tyX, rl1, rl2, rl4, ↓reduceIte, Option.bind_some, true_and, and_true, false_and, and_false, true_or, or_true, false_or, or_false, if_same0, ite_eq0, ite_eq0', ite_eq1, ite_eq1', or_em, or_em', ite_not, lcmp0, lcmpL, lcmpG, nI_cl_b, eb_in_b, nI_1, nI_pred, Int32.reduceToNatClampNeg, eb_u_ap, Prod.mk.injEq, not_true_eq_false, not_false_eq_true, h.1.2.1, nI_lt_b, Nat.lt_irrefl]
  exact ⟨_, rfl, e2, e3⟩
end

/-! the tape: what its statements leave is well; the whole of it, as the class reads it -/
/-- a token behind another -/
def sk_aft (T : eb_Tp) (K K' : eb_K) : Prop := sk_wf T K' ∧ K.2.2 ≤ K'.2.1
theorem sk_aft1 {T : eb_Tp} {K : eb_K} (h : sk_wf T K) : sk_aft T K (sk_nx T K) := ⟨sk_nx_wf h, (sk_tok_wf h.2).2.1⟩
theorem sk_aftS {T : eb_Tp} {K K' : eb_K} (h : sk_aft T K K') : sk_aft T K (sk_nx T K') := ⟨sk_nx_wf h.1, Nat.le_trans h.2 (Nat.le_trans h.1.1 (sk_tok_wf h.1.2).2.1)⟩
theorem pr_three_aft {T : eb_Tp} {K : eb_K} {l1 h1 l2 h2 l3 h3 : Int32} (h : sk_wf T K) : sk_aft T K (pr_three T K l1 h1 l2 h2 l3 h3).1 ∧ ∀ q, (pr_three T K l1 h1 l2 h2 l3 h3).2 = some q → (l1 ≤ q.1 ∧ q.1 ≤ h1) ∧ (l2 ≤ q.2.1 ∧ q.2.1 ≤ h2) ∧ (l3 ≤ q.2.2 ∧ q.2.2 ≤ h3) := by
  have a1 := sk_aft1 h
  unfold pr_three
  cases s1 : sk_take T (sk_nx T K) l1 h1 with
  | none => exact ⟨a1, fun q z => by cases z⟩
  | some x =>
    cases s2 : sk_take T (sk_nx T (sk_nx T K)) l2 h2 with
    | none => exact ⟨sk_aftS a1, fun q z => by cases z⟩
    | some y =>
      cases s3 : sk_take T (sk_nx T (sk_nx T (sk_nx T K))) l3 h3 with
      | none => exact ⟨sk_aftS (sk_aftS a1), fun q z => by cases z⟩
      | some v =>
        refine ⟨sk_aftS (sk_aftS (sk_aftS a1)), fun q z => ?_⟩
        cases z
        have b1 := sk_take_rg s1
        have b2 := sk_take_rg s2
        have b3 := sk_take_rg s3
        exact ⟨⟨b1.1, b1.2.1⟩, ⟨b2.1, b2.2.1⟩, ⟨b3.1, b3.2.1⟩⟩
theorem sp_ok_inn {w : eb_W} {a b c v : Int32} (h : sp_ok w) (hn : ¬ w.1 = 6) (ha : sp_rg a 0 100) (hb : sp_rg b 1 20) (hc : sp_rg c 0 99) (hv : sp_rg v (-1) 100) : sp_ok (sp_inn w a b c v) := by
  refine ⟨?_, h.2.1, h.2.2.1, fun i hi => ?_, h.2.2.2.2⟩
  · show w.1 + 1 ≤ 6
    have := h.1
    omega
  · show sp_okI (if i = w.1 then _ else w.2.2.2.1 i)
    by_cases q : i = w.1
    · rw [if_pos q]; exact ⟨ha, ha, hb, hc, hv, (by show (0 : Int32) ≤ 0; decide), (by show (0 : Int32) ≤ 99; decide)⟩
    · rw [if_neg q]
      have hi : i < w.1 + 1 := hi
      exact h.2.2.2.1 i (by omega)
theorem sp_ok_goer {w : eb_W} {a b c : Int32} (h : sp_ok w) (hn : ¬ w.2.1 = 6) (ha : sp_rg a 0 5) (hb : sp_rg b 1 30) (hc : sp_rg c 0 99) : sp_ok (sp_goer w a b c) := by
  refine ⟨h.1, ?_, h.2.2.1, h.2.2.2.1, fun i hi => ?_⟩
  · show w.2.1 + 1 ≤ 6
    have := h.2.1
    omega
  · show sp_okG (if i = w.2.1 then _ else w.2.2.2.2 i)
    by_cases q : i = w.2.1
    · rw [if_pos q]; exact ⟨ha, hb, hc⟩
    · rw [if_neg q]
      have hi : i < w.2.1 + 1 := hi
      exact h.2.2.2.2 i (by omega)
/-- what a reading leaves, if it comes to its end -/
def pr_ok (T : eb_Tp) (K : eb_K) (r : eb_K × Option eb_W) : Prop := ∀ w', r.2 = some w' → sp_ok w' ∧ sk_aft T K r.1
theorem pr_inn_ok {T : eb_Tp} {K : eb_K} {w : eb_W} (h : sk_wf T K) (hw : sp_ok w) : pr_ok T K (pr_inn T w K) := by
  unfold pr_inn
  by_cases c : w.1 = 6
  · rw [if_pos c]; exact fun w' z => by cases z
  · rw [if_neg c]
    have h3 := pr_three_aft (l1 := 0) (h1 := 100) (l2 := 1) (h2 := 20) (l3 := 0) (h3 := 99) h
    cases hr : pr_three T K 0 100 1 20 0 99 with
    | mk k o =>
      rw [hr] at h3
      cases o with
      | none => exact fun w' z => by cases z
      | some q =>
        obtain ⟨h4, h5⟩ := h3
        obtain ⟨q1, q2, q3⟩ := h5 q rfl
        show pr_ok T K (pr_said T w k q.1 q.2.1 q.2.2)
        unfold pr_said
        by_cases cw : sk_isw T k 5 = true
        · rw [if_pos cw]
          cases hs : sk_take T (sk_nx T k) 0 100 with
          | none => exact fun w' z => by cases z
          | some v =>
            intro w' z
            cases z
            have hv := sk_take_rg hs
            exact ⟨sp_ok_inn hw c q1 q2 q3 ⟨Int32.le_trans (by decide) hv.1, hv.2.1⟩, sk_aftS (sk_aftS h4)⟩
        · rw [if_neg cw]
          intro w' z
          cases z
          exact ⟨sp_ok_inn hw c q1 q2 q3 ⟨by decide, by decide⟩, h4⟩
theorem pr_goer_ok {T : eb_Tp} {K : eb_K} {w : eb_W} (h : sk_wf T K) (hw : sp_ok w) : pr_ok T K (pr_goer T w K) := by
  unfold pr_goer
  by_cases c : w.2.1 = 6
  · rw [if_pos c]; exact fun w' z => by cases z
  · rw [if_neg c]
    have h3 := pr_three_aft (l1 := 0) (h1 := 5) (l2 := 1) (h2 := 30) (l3 := 0) (h3 := 99) h
    cases hr : pr_three T K 0 5 1 30 0 99 with
    | mk k o =>
      rw [hr] at h3
      cases o with
      | none => exact fun w' z => by cases z
      | some q =>
        obtain ⟨h4, h5⟩ := h3
        obtain ⟨q1, q2, q3⟩ := h5 q rfl
        intro w' z
        cases z
        exact ⟨sp_ok_goer hw c q1 q2 q3, h4⟩
theorem pr_letter_ok {T : eb_Tp} {K : eb_K} {w : eb_W} (h : sk_wf T K) (hw : sp_ok w) : pr_ok T K (pr_letter T w K) := by
  unfold pr_letter
  cases hs : sk_take T (sk_nx T K) 0 (nI w.1 - 1) with
  | none => exact fun w' z => by cases z
  | some i =>
    dsimp only
    by_cases c : w.2.2.2.1 (tn i) 5 < 99
    · rw [if_pos c]
      cases hs2 : sk_take T (sk_nx T (sk_nx T K)) 0 100 with
      | none => exact fun w' z => by cases z
      | some v =>
        intro w' z
        cases z
        exact ⟨ok_letter hw c, sk_aftS (sk_aftS (sk_aft1 h))⟩
    · rw [if_neg c]; exact fun w' z => by cases z
theorem pr_age_ok {T : eb_Tp} {K : eb_K} {w : eb_W} (h : sk_wf T K) (hw : sp_ok w) : pr_ok T K (pr_age T w K) := by
  unfold pr_age
  cases hs : sk_take T (sk_nx T K) 0 99 with
  | none => exact fun w' z => by cases z
  | some v =>
    intro w' z
    cases z
    have hv := sk_take_rg hs
    exact ⟨ok_setA hw ⟨hv.1, hv.2.1⟩, sk_aftS (sk_aft1 h)⟩
theorem pr_wl_aft {T : eb_Tp} {K0 : eb_K} {n : Nat} : ∀ {f : Nat} {b : Bool} {set : Int32} {K : eb_K}, sk_aft T K0 K → sk_aft T K0 (pr_wl T n f b set K).1 := by
  intro f
  induction f with
  | zero => exact fun h => h
  | succ f ih =>
    intro b set K h
    unfold pr_wl
    by_cases c : b = true ∨ K.1 = 2
    · rw [if_pos c]
      cases hs : sk_take T K 0 (nI n - 1) with
      | none => exact h
      | some i =>
        dsimp only
        by_cases c2 : sp_bit set (tn i) = true
        · rw [if_pos c2]; exact h
        · rw [if_neg c2]; exact ih (sk_aftS h)
    · rw [if_neg c]; exact h
theorem pr_write_ok {T : eb_Tp} {K : eb_K} {w : eb_W} (h : sk_wf T K) (hw : sp_ok w) : pr_ok T K (pr_write T w K) := by
  unfold pr_write
  have h3 := pr_wl_aft (n := w.1) (f := 7) (b := true) (set := 0) (sk_aft1 h)
  cases hr : pr_wl T w.1 7 true 0 (sk_nx T K) with
  | mk k o =>
    rw [hr] at h3
    cases o with
    | none => exact fun w' z => by cases z
    | some s =>
      intro w' z
      cases z
      exact ⟨sp_ok_write hw, h3⟩
theorem pr_stmt_ok {T : eb_Tp} {K : eb_K} {w : eb_W} (h : sk_wf T K) (hw : sp_ok w) : pr_ok T K (pr_stmt T w K) := by
  unfold pr_stmt
  by_cases c0 : sk_isw T K 0 = true
  · rw [if_pos c0]; exact pr_inn_ok h hw
  rw [if_neg c0]
  by_cases c1 : sk_isw T K 1 = true
  · rw [if_pos c1]; exact pr_goer_ok h hw
  rw [if_neg c1]
  by_cases c2 : sk_isw T K 2 = true
  · rw [if_pos c2]; exact pr_letter_ok h hw
  rw [if_neg c2]
  by_cases c3 : sk_isw T K 3 = true
  · rw [if_pos c3]; exact pr_age_ok h hw
  rw [if_neg c3]
  by_cases c4 : sk_isw T K 4 = true
  · rw [if_pos c4]; exact pr_write_ok h hw
  rw [if_neg c4]
  exact fun w' z => by cases z
theorem pr_all_ok {T : eb_Tp} : ∀ {f c : Nat} {w : eb_W} {K : eb_K}, sk_wf T K → sp_ok w → ∀ q, (pr_all T f c w K).2 = some q → sp_ok q.1 ∧ q.2 < c + f := by
  intro f
  induction f with
  | zero => intro c w K h hw q z; cases z
  | succ f ih =>
    intro c w K h hw q z
    have h1 := pr_stmt_ok h hw
    unfold pr_all at z
    cases hr : pr_stmt T w K with
    | mk k o =>
      rw [hr] at z h1
      cases o with
      | none => cases z
      | some w' =>
        obtain ⟨h2, h3⟩ := h1 w' rfl
        dsimp only at z
        by_cases c1 : k.1 = 0
        · rw [if_pos c1] at z
          cases z
          exact ⟨h2, by show c < c + (f + 1); omega⟩
        · rw [if_neg c1] at z
          by_cases c2 : k.1 = 3
          · rw [if_pos c2] at z
            obtain ⟨g1, g2⟩ := ih (sk_nx_wf h3.1) h2 q z
            exact ⟨g1, by omega⟩
          · rw [if_neg c2] at z; cases z
section
variable {L d nc ns k i g : Nat} {I : eb_A → Nat → Int32} {J : eb_A → Nat → Int64} {C : Nat → Nat → Nat} {mt mk : Option Nat} {w : eb_W} {R : eb_A → Nat → Option eb_A} {S : eb_St} {M : eb_M} {T : eb_Tp} {K : eb_K}
def eb_bN {α : Type} : Option (α × Nat) → Int32
  | none => -1
  | some q => nI q.2
theorem x_readLoop (ht : sk_okT T) : ∀ (f c : Nat) (w : eb_W) (K : eb_K) (I : eb_A → Nat → Int32) (r : eb_K × Option (eb_W × Nat)), c + f = 251 → sk_wf T K → sp_ok w → eb_TX I T → eb_KX I K → eb_RX I 1 w → pr_all T f c w K = r →
    ∃ I', eb_E L (d + 8) 25 11 [some (zr (13, 0, 0)), some (zr (4, 1, 0)), some (zi (nI c))] [] (nc, ns, I, J, eb_RL C mt mk) = some (zi (eb_bN r.2), (nc, ns, I', J, eb_RL C mt mk)) ∧ eb_KX I' r.1 ∧ eb_ft I I' ∧ ∀ q, r.2 = some q → eb_RX I' 1 q.1 := by
  intro f
  induction f with
  | zero =>
    intro c w K I r hf hwf hw h hK hR hr
    subst hr
    have hb : ((250 : Int32) < nI c) = True := by rw [show (250 : Int32) = nI 250 from rfl, nI_lt_b (by omega) (by omega)]; exact eq_true (by omega)
    rw [e25_11]
    simp (decide := true) (disch := omega) only [e25_0, e25_1, e25_2, e25_5, e25_6, e25_9, e25_10, e25_12, e25_15, e25_18, e25_19, e25_20, e25_23, e25_26, e25_27, e25_28, e25_29, e25_32, e25_35, e25_36, e25_37, e25_38, e25_41, e25_42, e25_45, e25_46, e25_47, e25_48, e25_51, e25_54, e25_57, e25_58, bi_s, tyX, rl1, rl2, rl4, ↓reduceIte, Option.bind_some, true_and, and_true, false_and, and_false, true_or, or_true, false_or, or_false, if_same0, ite_eq0, ite_eq0', ite_eq1, ite_eq1', or_em, or_em', ite_not, lcmp0, lcmpL, lcmpG, nI_cl_b, eb_in_b, nI_1, nI_pred, Int32.reduceToNatClampNeg, eb_u_ap, Prod.mk.injEq, not_true_eq_false, not_false_eq_true, sp_rg, sp_iI, sp_iG, sp_iS, hb]
    exact ⟨I, rfl, hK, eb_ft_rf, fun q z => by cases z⟩
  | succ f ih =>
    intro c w K I r hf hwf hw h hK hR hr
    subst hr
    have hb : ((250 : Int32) < nI c) = False := by rw [show (250 : Int32) = nI 250 from rfl, nI_lt_b (by omega) (by omega)]; exact eq_false (by omega)
    obtain ⟨I1, a1, a2, a3, a4⟩ := x_readStatement (L := L) (d := d) ht hwf hw nc ns I J C mt mk h hK hR
    have h1 := pr_stmt_ok hwf hw
    unfold pr_all
    rw [e25_11]
    cases hr : pr_stmt T w K with
    | mk k o =>
      rw [hr] at a1 a2 a4 h1
      cases o with
      | none =>
        have a1 : eb_ev L (d + 8) 26 [zr (13, 0, 0), zr (4, 1, 0)] (nc, ns, I, J, eb_RL C mt mk) = some (zi 0, (nc, ns, I1, J, eb_RL C mt mk)) := a1
        simp (decide := true) (disch := omega) only [e25_0, e25_1, e25_2, e25_5, e25_6, e25_9, e25_10, e25_12, e25_15, e25_18, e25_19, e25_20, e25_23, e25_26, e25_27, e25_28, e25_29, e25_32, e25_35, e25_36, e25_37, e25_38, e25_41, e25_42, e25_45, e25_46, e25_47, e25_48, e25_51, e25_54, e25_57, e25_58, bi_s, tyX, rl1, rl2, rl4, ↓reduceIte, Option.bind_some, true_and, and_true, false_and, and_false, true_or, or_true, false_or, or_false, if_same0, ite_eq0, ite_eq0', ite_eq1, ite_eq1', or_em, or_em', ite_not, lcmp0, lcmpL, lcmpG, nI_cl_b, eb_in_b, nI_1, nI_pred, Int32.reduceToNatClampNeg, eb_u_ap, Prod.mk.injEq, not_true_eq_false, not_false_eq_true, sp_rg, sp_iI, sp_iG, sp_iS, hb, a1]
        exact ⟨I1, rfl, a2, a3, fun q z => by cases z⟩
      | some w' =>
        have a1 : eb_ev L (d + 8) 26 [zr (13, 0, 0), zr (4, 1, 0)] (nc, ns, I, J, eb_RL C mt mk) = some (zi 1, (nc, ns, I1, J, eb_RL C mt mk)) := a1
        have a4 := a4 w' rfl
        obtain ⟨h2, h3⟩ := h1 w' rfl
        have k4 := a2.2.2
        have k4 : I1 (13, 0, 0) 4 = k.1 := k4
        dsimp only
        by_cases c1 : k.1 = 0
        · rw [if_pos c1]
          simp (decide := true) (disch := omega) only [e25_0, e25_1, e25_2, e25_5, e25_6, e25_9, e25_10, e25_12, e25_15, e25_18, e25_19, e25_20, e25_23, e25_26, e25_27, e25_28, e25_29, e25_32, e25_35, e25_36, e25_37, e25_38, e25_41, e25_42, e25_45, e25_46, e25_47, e25_48, e25_51, e25_54, e25_57, e25_58, bi_s, tyX, rl1, rl2, rl4, ↓reduceIte, Option.bind_some, true_and, and_true, false_and, and_false, true_or, or_true, false_or, or_false, if_same0, ite_eq0, ite_eq0', ite_eq1, ite_eq1', or_em, or_em', ite_not, lcmp0, lcmpL, lcmpG, nI_cl_b, eb_in_b, nI_1, nI_pred, Int32.reduceToNatClampNeg, eb_u_ap, Prod.mk.injEq, not_true_eq_false, not_false_eq_true, sp_rg, sp_iI, sp_iG, sp_iS, hb, a1, k4, c1]
          exact ⟨I1, rfl, a2, a3, fun q z => by cases z; exact a4⟩
        · rw [if_neg c1]
          by_cases c2 : k.1 = 3
          · rw [if_pos c2]
            obtain ⟨I2, b1, b2, b3⟩ := x_next (L := L) (d := d + 5) (nc := nc) (ns := ns) (J := J) (C := C) (mt := mt) (mk := mk) (eb_ft_TX a3 h) ht a2 h3.1
            obtain ⟨I3, e1, e2, e3, e4⟩ := ih (c + 1) w' (sk_nx T k) I2 _ (by omega) (sk_nx_wf h3.1) h2 (eb_fk_TX b3 (eb_ft_TX a3 h)) b2 (eb_fk_RX b3 a4) rfl
            simp (decide := true) (disch := omega) only [e25_0, e25_1, e25_2, e25_5, e25_6, e25_9, e25_10, e25_12, e25_15, e25_18, e25_19, e25_20, e25_23, e25_26, e25_27, e25_28, e25_29, e25_32, e25_35, e25_36, e25_37, e25_38, e25_41, e25_42, e25_45, e25_46, e25_47, e25_48, e25_51, e25_54, e25_57, e25_58, bi_s, tyX, rl1, rl2, rl4, ↓reduceIte, Option.bind_some, true_and, and_true, false_and, and_false, true_or, or_true, false_or, or_false, if_same0, ite_eq0, ite_eq0', ite_eq1, ite_eq1', or_em, or_em', ite_not, lcmp0, lcmpL, lcmpG, nI_cl_b, eb_in_b, nI_1, nI_pred, Int32.reduceToNatClampNeg, eb_u_ap, Prod.mk.injEq, not_true_eq_false, not_false_eq_true, sp_rg, sp_iI, sp_iG, sp_iS, hb, a1, k4, c2, b1]
            exact ⟨I3, e1, e2, eb_ft_tr (eb_ft_tr a3 (eb_ft_k b3)) e3, e4⟩
          · rw [if_neg c2]
            simp (decide := true) (disch := omega) only [e25_0, e25_1, e25_2, e25_5, e25_6, e25_9, e25_10, e25_12, e25_15, e25_18, e25_19, e25_20, e25_23, e25_26, e25_27, e25_28, e25_29, e25_32, e25_35, e25_36, e25_37, e25_38, e25_41, e25_42, e25_45, e25_46, e25_47, e25_48, e25_51, e25_54, e25_57, e25_58, bi_s, tyX, rl1, rl2, rl4, ↓reduceIte, Option.bind_some, true_and, and_true, false_and, and_false, true_or, or_true, false_or, or_false, if_same0, ite_eq0, ite_eq0', ite_eq1, ite_eq1', or_em, or_em', ite_not, lcmp0, lcmpL, lcmpG, nI_cl_b, eb_in_b, nI_1, nI_pred, Int32.reduceToNatClampNeg, eb_u_ap, Prod.mk.injEq, not_true_eq_false, not_false_eq_true, sp_rg, sp_iI, sp_iG, sp_iS, hb, a1, k4, c1, c2]
            exact ⟨I1, rfl, a2, a3, fun q z => by cases z⟩
theorem x_readInto (ht : sk_okT T) (hw : sp_ok w) (h : eb_TX I T) (hR : eb_RX I 1 w) : ∃ I', eb_ev L (d + 9) 25 [zr (13, 0, 0), zr (4, 1, 0)] (nc, ns, I, J, eb_RL C mt mk) = some (zi (eb_bN (pr_all T 250 1 w (sk_tok T 0)).2), (nc, ns, I', J, eb_RL C mt mk)) ∧ eb_KX I' (pr_all T 250 1 w (sk_tok T 0)).1 ∧ eb_ft I I' ∧ ∀ q, (pr_all T 250 1 w (sk_tok T 0)).2 = some q → eb_RX I' 1 q.1 := by
  rw [h25 rfl]
  have f0 : eb_fk I (eb_u I (13, 0, 0) 3 0) := fun a l q => if_neg (fun z => q ⟨z.1, by omega⟩)
  obtain ⟨I1, a1, a2, a3⟩ := x_readToken (L := L) (d := d + 5) (nc := nc) (ns := ns) (J := J) (C := C) (mt := mt) (mk := mk) (eb_fk_TX f0 h) ht (e := 0) (by simp [eb_u, nI_0]) (Nat.zero_le _)
  have f1 := eb_fk_tr f0 a3
  obtain ⟨I2, b1, b2, b3, b4⟩ := x_readLoop (L := L) (d := d) (nc := nc) (ns := ns) (J := J) (C := C) (mt := mt) (mk := mk) ht 250 1 w (sk_tok T 0) I1 _ (by omega) (sk_tok_wf (Nat.zero_le _)).1 hw (eb_fk_TX f1 h) a2 (eb_fk_RX f1 hR) rfl
  rw [show nI 1 = 1 from rfl] at b1
  simp (decide := true) (disch := omega) only [e25_0, e25_1, e25_2, e25_5, e25_6, e25_9, e25_10, bi_s, tyX, rl1, rl2, rl4, ↓reduceIte, Option.bind_some, true_and, and_true, false_and, and_false, true_or, or_true, false_or, or_false, if_same0, ite_eq0, ite_eq0', ite_eq1, ite_eq1', or_em, or_em', ite_not, lcmp0, lcmpL, lcmpG, nI_cl_b, eb_in_b, nI_1, nI_pred, Int32.reduceToNatClampNeg, eb_u_ap, Prod.mk.injEq, not_true_eq_false, not_false_eq_true, sp_rg, sp_iI, sp_iG, sp_iS, a1]
  rw [b1]
  exact ⟨I2, rfl, b2, eb_ft_tr (eb_ft_k f1) b3, b4⟩
theorem xf_valley (ok : sp_St S) : eb_FX L (d + 10) 85 [] S (sf_valley S).2 (zi (sf_valley S).1) := by
  intro nc ns I J C mt mk h
  rw [h85 rfl]
  obtain ⟨I0, a1, a2, a3⟩ := x_think (L := L) (d := d + 6) (nc := nc) (ns := ns) (J := J) (C := C) (mt := mt) (mk := mk) h.1 ok.1
  have h0 := eb_XS_t h a2
  have ht : sk_okT (ss_t S) := ok.2.2.2
  have hT : eb_TX I0 (ss_t S) := h0.2.2.2.1
  obtain ⟨I1, b1, b2, b3, b4⟩ := x_readInto (L := L) (d := d) (nc := nc) (ns := ns) (J := J) (C := C) (mt := mt) (mk := mk) ht ok.1 hT a3
  have hallok := pr_all_ok (T := ss_t S) (f := 250) (c := 1) (sk_tok_wf (T := ss_t S) (Nat.zero_le _)).1 ok.1
  unfold sf_valley
  -- the object but for the token and the valley in thought
  have h1 : eb_XS S I1 J := by
    obtain ⟨g1, ⟨g2, g3⟩, g4, ⟨g5, g6⟩, g7⟩ := h0
    have e : ∀ a l, ¬ a = (13, 0, 0) → ¬ (a.2.1 = 1) → I1 a l = I0 a l := fun a l q1 q2 => b3 a l (fun z => q1 z.1) (fun z => q2 z.1)
    exact ⟨eb_RX_of g1 (fun l => e _ _ (by simp) (by simp)) (fun i l _ => e _ _ (by simp) (by simp)) (fun i l _ => e _ _ (by simp) (by simp)), ⟨(e _ _ (by simp) (by simp)).trans g2, fun p hp => eb_RX_of (g3 p hp) (fun l => e _ _ (by simp) (by simp)) (fun i l _ => e _ _ (by simp) (by simp)) (fun i l _ => e _ _ (by simp) (by simp))⟩, fun s hs => ⟨(e _ _ (by simp) (by simp)).trans (g4 s hs).1, fun hr => ⟨(e _ _ (by simp) (by simp)).trans ((g4 s hs).2 hr).1, ((g4 s hs).2 hr).2⟩⟩, ⟨(b3 _ _ (by simp) (by simp)).trans g5, fun j hj => (e _ _ (by simp) (by simp)).trans (g6 j hj)⟩, fun r hr => (e _ _ (by simp) (by simp)).trans (g7 r hr)⟩
  have fX1 : eb_fX I I1 := eb_fX_tr (eb_fX_fr a2) (fun a l hal => b3 a l (fun z => hal (by rw [z.1]; exact ⟨Nat.le_of_ble_eq_true rfl, Nat.le_of_ble_eq_true rfl⟩)) (fun z => hal ⟨by omega, by omega⟩))
  have h2 : eb_XS (sp_toT S ((ss_t S).1, 0)) (eb_u I1 (13, 0, 0) 1 0) J := eb_XS_tape h1 (fun a l hal => if_neg (fun z => hal (Or.inl (by rw [z.1])))) (by simp [eb_u, nI_0]) (fun j hj => absurd hj (Nat.not_lt_zero _))
  have fX2 : eb_fX I (eb_u I1 (13, 0, 0) 1 0) := eb_fX_tr fX1 (eb_fX_u ⟨Nat.le_of_ble_eq_true rfl, Nat.le_of_ble_eq_true rfl⟩)
  cases hr : pr_all (ss_t S) 250 1 S.1 (sk_tok (ss_t S) 0) with
  | mk k o =>
    rw [hr] at b1 b2 b4 hallok
    cases o with
    | none =>
      have b1 : eb_ev L (d + 9) 25 [zr (13, 0, 0), zr (4, 1, 0)] (nc, ns, I0, J, eb_RL C mt mk) = some (zi (-1), (nc, ns, I1, J, eb_RL C mt mk)) := b1
      have k2 : I1 (13, 0, 0) 2 = nI k.2.1 := b2.1
      simp (decide := true) (disch := omega) only [e85_0, e85_1, e85_4, e85_5, e85_8, e85_11, e85_12, e85_13, e85_16, e85_17, e85_20, e85_21, e85_22, e85_25, e85_26, e85_28, e85_31a, e85_31b, e85_32, e85_34, e85_35, e85_38, e85_41, e85_42, e85_43, e85_44, e85_47, e85_48, e85_51, e85_54, e85_55, bi_s, tyX, rl1, rl2, rl4, ↓reduceIte, Option.bind_some, true_and, and_true, false_and, and_false, true_or, or_true, false_or, or_false, if_same0, ite_eq0, ite_eq0', ite_eq1, ite_eq1', or_em, or_em', ite_not, lcmp0, lcmpL, lcmpG, nI_cl_b, eb_in_b, nI_1, nI_pred, Int32.reduceToNatClampNeg, eb_u_ap, Prod.mk.injEq, not_true_eq_false, not_false_eq_true, sp_rg, sp_iI, sp_iG, sp_iS, a1, b1, x_refuse0, k2]
      have h3 := fx_rf (k := 0) h2 (by omega)
      refine ⟨_, J, C, ?_, h3.1, eb_fX_tr fX2 h3.2.1, eb_fJ_rf⟩
      have z1 : eb_u I1 (13, 0, 0) 1 0 (15, 0, 0) 0 = I1 (15, 0, 0) 0 := by simp [eb_u]
      simp only [z1]
    | some q =>
      have b1 : eb_ev L (d + 9) 25 [zr (13, 0, 0), zr (4, 1, 0)] (nc, ns, I0, J, eb_RL C mt mk) = some (zi (nI q.2), (nc, ns, I1, J, eb_RL C mt mk)) := b1
      obtain ⟨o1, o2⟩ := hallok q rfl
      have hR1 : eb_RX (eb_u I1 (13, 0, 0) 1 0) 1 q.1 := eb_RX_of (b4 q rfl) (fun l => if_neg (by simp)) (fun i l _ => if_neg (by simp)) (fun i l _ => if_neg (by simp))
      obtain ⟨I2, c1, c2, c3⟩ := x_becomeLike (L := L) (d := d + 7) (nc := nc) (ns := ns) (J := J) (C := C) (mt := mt) (mk := mk) (k := 0) hR1 o1 (by decide)
      have hm : ¬ nI q.2 = -1 := by rw [nI_m1 (by omega)]; exact fun z => z
      simp (decide := true) (disch := omega) only [e85_0, e85_1, e85_4, e85_5, e85_8, e85_11, e85_12, e85_13, e85_16, e85_17, e85_20, e85_21, e85_22, e85_25, e85_26, e85_28, e85_31a, e85_31b, e85_32, e85_34, e85_35, e85_38, e85_41, e85_42, e85_43, e85_44, e85_47, e85_48, e85_51, e85_54, e85_55, bi_s, tyX, rl1, rl2, rl4, ↓reduceIte, Option.bind_some, true_and, and_true, false_and, and_false, true_or, or_true, false_or, or_false, if_same0, ite_eq0, ite_eq0', ite_eq1, ite_eq1', or_em, or_em', ite_not, lcmp0, lcmpL, lcmpG, nI_cl_b, eb_in_b, nI_1, nI_pred, Int32.reduceToNatClampNeg, eb_u_ap, Prod.mk.injEq, not_true_eq_false, not_false_eq_true, sp_rg, sp_iI, sp_iG, sp_iS, a1, b1, hm, c1]
      exact ⟨I2, J, C, rfl, eb_XS_w h2 c3 c2, eb_fX_tr fX2 (eb_fX_fr c3), eb_fJ_rf⟩
end

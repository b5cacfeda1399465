/-! the tape: statements, as the class reads them -/
/-- only the token and the valley in thought differ -/
def eb_ft (I I' : eb_A → Nat → Int32) : Prop := ∀ a l, ¬ (a = (13, 0, 0) ∧ 2 ≤ l) → ¬ (a.2.1 = 1 ∧ 4 ≤ a.1 ∧ a.1 ≤ 11) → I' a l = I a l
theorem eb_ft_rf {I : eb_A → Nat → Int32} : eb_ft I I := fun _ _ _ _ => rfl
theorem eb_ft_tr {I I1 I2 : eb_A → Nat → Int32} (h1 : eb_ft I I1) (h2 : eb_ft I1 I2) : eb_ft I I2 := fun a l h q => (h2 a l h q).trans (h1 a l h q)
theorem eb_ft_k {I I1 : eb_A → Nat → Int32} (h : eb_fk I I1) : eb_ft I I1 := fun a l q _ => h a l q
theorem eb_ft_f {I I1 : eb_A → Nat → Int32} (h : eb_fr 1 I I1) : eb_ft I I1 := fun a l _ q => h a l q
theorem eb_ft_TX {I I1 : eb_A → Nat → Int32} {T : eb_Tp} (h : eb_ft I I1) (q : eb_TX I T) : eb_TX I1 T := ⟨by rw [h _ _ (by simp) (by simp)]; exact q.1, fun j hj => by rw [h _ _ (by simp) (by simp)]; exact q.2 j hj⟩
theorem eb_fr_KX {I I1 : eb_A → Nat → Int32} {K : eb_K} (h : eb_fr 1 I I1) (q : eb_KX I K) : eb_KX I1 K := ⟨by rw [h _ _ (by simp)]; exact q.1, by rw [h _ _ (by simp)]; exact q.2.1, by rw [h _ _ (by simp)]; exact q.2.2⟩
def eb_b01 {α : Type} : Option α → Int32
  | none => 0
  | some _ => 1
/-- the class's reading of a piece -/
def eb_PR (L d m : Nat) (T : eb_Tp) (w : eb_W) (K : eb_K) (r : eb_K × Option eb_W) : Prop := ∀ (nc ns : Nat) (I : eb_A → Nat → Int32) (J : eb_A → Nat → Int64) (C : Nat → Nat → Nat) (mt mk : Option Nat), eb_TX I T → eb_KX I K → eb_RX I 1 w →
  ∃ I', eb_ev L d m [zr (13, 0, 0), zr (4, 1, 0)] (nc, ns, I, J, eb_RL C mt mk) = some (zi (eb_b01 r.2), (nc, ns, I', J, eb_RL C mt mk)) ∧ eb_KX I' r.1 ∧ eb_ft I I' ∧ ∀ w', r.2 = some w' → eb_RX I' 1 w'
theorem ne_m1 {v : Int32} (h : 0 ≤ v) : ¬ v = -1 := fun q => by rw [q] at h; exact absurd h (by decide)
theorem sp_inn_said {w : eb_W} {a b c v : Int32} : sp_setI (sp_inn w a b c (-1)) w.1 4 v = sp_inn w a b c v := by
  have : (sp_setI (sp_inn w a b c (-1)) w.1 4 v).2.2.2.1 = (sp_inn w a b c v).2.2.2.1 := by
    funext j f
    show sp_up (sp_up w.2.2.2.1 w.1 _) w.1 (sp_up (sp_up w.2.2.2.1 w.1 _ w.1) 4 v) j f = sp_up w.2.2.2.1 w.1 _ j f
    by_cases q : j = w.1
    · subst q
      simp only [sp_up, if_true]
      rcases f with _ | _ | _ | _ | _ | _ <;> rfl
    · simp only [sp_up, q, if_false]
  show ((sp_inn w a b c (-1)).1, (sp_inn w a b c (-1)).2.1, (sp_inn w a b c (-1)).2.2.1, (sp_setI (sp_inn w a b c (-1)) w.1 4 v).2.2.2.1, (sp_inn w a b c (-1)).2.2.2.2) = sp_inn w a b c v
  rw [this]
  rfl
section
variable {L d nc ns k i g : Nat} {I : eb_A → Nat → Int32} {J : eb_A → Nat → Int64} {C : Nat → Nat → Nat} {mt mk : Option Nat} {w : eb_W} {R : eb_A → Nat → Option eb_A} {S : eb_St} {M : eb_M} {T : eb_Tp} {K : eb_K}
theorem x_takeN (h : eb_TX I T) (ht : sk_okT T) (hK : eb_KX I K) (hwf : sk_wf T K) {lo hi : Int32} (hhi : hi < 100000) (hlo : 0 ≤ lo) (hs : sk_take T K lo hi = none) : ∃ I', eb_ev L (d + 4) 32 [zr (13, 0, 0), zi lo, zi hi] (nc, ns, I, J, eb_RL C mt mk) = some (zi (-1), (nc, ns, I', J, eb_RL C mt mk)) ∧ eb_KX I' K ∧ eb_fk I I' := by
  obtain ⟨I1, a1, a2, a3⟩ := x_take (L := L) (d := d) (nc := nc) (ns := ns) (J := J) (C := C) (mt := mt) (mk := mk) h ht hK hwf hhi hlo
  rw [hs] at a1 a2
  exact ⟨I1, a1, a2, a3⟩
theorem x_takeS (h : eb_TX I T) (ht : sk_okT T) (hK : eb_KX I K) (hwf : sk_wf T K) {lo hi v : Int32} (hhi : hi < 100000) (hlo : 0 ≤ lo) (hs : sk_take T K lo hi = some v) : ∃ I', eb_ev L (d + 4) 32 [zr (13, 0, 0), zi lo, zi hi] (nc, ns, I, J, eb_RL C mt mk) = some (zi v, (nc, ns, I', J, eb_RL C mt mk)) ∧ eb_KX I' (sk_nx T K) ∧ eb_fk I I' ∧ ¬ v = -1 := by
  obtain ⟨I1, a1, a2, a3⟩ := x_take (L := L) (d := d) (nc := nc) (ns := ns) (J := J) (C := C) (mt := mt) (mk := mk) h ht hK hwf hhi hlo
  rw [hs] at a1 a2
  exact ⟨I1, a1, a2, a3, ne_m1 (Int32.le_trans hlo (sk_take_rg hs).1)⟩
theorem x_readAge (ht : sk_okT T) (hwf : sk_wf T K) : eb_PR L (d + 7) 30 T w K (pr_age T w K) := by
  intro nc ns I J C mt mk h hK hR
  rw [h30 rfl]
  obtain ⟨I1, a1, a2, a3⟩ := x_next (L := L) (d := d + 3) (nc := nc) (ns := ns) (J := J) (C := C) (mt := mt) (mk := mk) h ht hK hwf
  have h1 := eb_fk_TX a3 h
  have hw1 := sk_nx_wf hwf
  unfold pr_age
  cases hs : sk_take T (sk_nx T K) 0 99 with
  | none =>
    obtain ⟨I2, b1, b2, b3⟩ := x_takeN (L := L) (d := d + 2) (nc := nc) (ns := ns) (J := J) (C := C) (mt := mt) (mk := mk) h1 ht a2 hw1 (by decide) (by decide) hs
    simp (decide := true) (disch := omega) only [e30_0, e30_1, e30_4, e30_5, e30_6, e30_8, e30_11, e30_12, e30_13, e30_14, e30_17, e30_18, e30_19, e30_20, e30_21, e30_24, e30_25, bi_s, tyX, rl1, rl2, rl4, ↓reduceIte, Option.bind_some, true_and, and_true, false_and, and_false, true_or, or_true, false_or, or_false, if_same0, ite_eq0, ite_eq0', ite_eq1, ite_eq1', or_em, or_em', ite_not, lcmp0, lcmpL, lcmpG, nI_cl_b, eb_in_b, nI_1, nI_pred, Int32.reduceToNatClampNeg, eb_u_ap, Prod.mk.injEq, not_true_eq_false, not_false_eq_true, sp_rg, sp_iI, sp_iG, sp_iS, a1, b1]
    exact ⟨I2, rfl, b2, eb_ft_k (eb_fk_tr a3 b3), fun w' q => by cases q⟩
  | some v =>
    obtain ⟨I2, b1, b2, b3, b4⟩ := x_takeS (L := L) (d := d + 2) (nc := nc) (ns := ns) (J := J) (C := C) (mt := mt) (mk := mk) h1 ht a2 hw1 (by decide) (by decide) hs
    have r1 := RX_setA (v := v) (eb_fk_RX (eb_fk_tr a3 b3) hR)
    simp (decide := true) (disch := omega) only [e30_0, e30_1, e30_4, e30_5, e30_6, e30_8, e30_11, e30_12, e30_13, e30_14, e30_17, e30_18, e30_19, e30_20, e30_21, e30_24, e30_25, bi_s, tyX, rl1, rl2, rl4, ↓reduceIte, Option.bind_some, true_and, and_true, false_and, and_false, true_or, or_true, false_or, or_false, if_same0, ite_eq0, ite_eq0', ite_eq1, ite_eq1', or_em, or_em', ite_not, lcmp0, lcmpL, lcmpG, nI_cl_b, eb_in_b, nI_1, nI_pred, Int32.reduceToNatClampNeg, eb_u_ap, Prod.mk.injEq, not_true_eq_false, not_false_eq_true, sp_rg, sp_iI, sp_iG, sp_iS, a1, b1, b4]
    exact ⟨_, rfl, eb_fr_KX r1.2 b2, eb_ft_tr (eb_ft_k (eb_fk_tr a3 b3)) (eb_ft_f r1.2), fun w' q => by cases q; exact r1.1⟩
theorem x_readGoer (ht : sk_okT T) (hwf : sk_wf T K) (hw : sp_ok w) : eb_PR L (d + 7) 28 T w K (pr_goer T w K) := by
  intro nc ns I J C mt mk h hK hR
  have hg := hw.2.1
  rw [h28 rfl]
  unfold pr_goer
  by_cases c6 : w.2.1 = 6
  · rw [if_pos c6]
    have g3 : I (4, 1, 0) 3 = 6 := by rw [hR.1.2.1, c6]; rfl
    simp (decide := true) (disch := omega) only [e28_0, e28_1, e28_4, e28_6, e28_9, e28_10, e28_11, e28_12, e28_15, e28_16, e28_17, e28_18, e28_21, e28_22, e28_23, e28_24, e28_27, e28_28, e28_31, e28_32, e28_33, e28_35, e28_38, e28_39, e28_40, e28_41, e28_44, e28_45, e28_48, e28_49, e28_50, e28_52, e28_55, e28_57, e28_59, e28_60, e28_63, e28_64, e28_65, e28_66, e28_68, e28_71, e28_72, e28_75, e28_76, e28_79, e28_80, bi_s, tyX, rl1, rl2, rl4, ↓reduceIte, Option.bind_some, true_and, and_true, false_and, and_false, true_or, or_true, false_or, or_false, if_same0, ite_eq0, ite_eq0', ite_eq1, ite_eq1', or_em, or_em', ite_not, lcmp0, lcmpL, lcmpG, nI_cl_b, eb_in_b, nI_1, nI_pred, Int32.reduceToNatClampNeg, eb_u_ap, Prod.mk.injEq, not_true_eq_false, not_false_eq_true, sp_rg, sp_iI, sp_iG, sp_iS, g3]
    exact ⟨I, rfl, hK, eb_ft_rf, fun w' q => by cases q⟩
  · rw [if_neg c6]
    have g3 : (nI w.2.1 < 6) = True := by rw [show (6 : Int32) = nI 6 from rfl, nI_lt_b (by omega) (by omega)]; exact eq_true (by omega)
    obtain ⟨I1, a1, a2, a3⟩ := x_next (L := L) (d := d + 3) (nc := nc) (ns := ns) (J := J) (C := C) (mt := mt) (mk := mk) h ht hK hwf
    have h1 := eb_fk_TX a3 h
    have hw1 := sk_nx_wf hwf
    unfold pr_three
    cases hs : sk_take T (sk_nx T K) 0 5 with
    | none =>
      obtain ⟨I2, b1, b2, b3⟩ := x_takeN (L := L) (d := d + 2) (nc := nc) (ns := ns) (J := J) (C := C) (mt := mt) (mk := mk) h1 ht a2 hw1 (by decide) (by decide) hs
      simp (decide := true) (disch := omega) only [e28_0, e28_1, e28_4, e28_6, e28_9, e28_10, e28_11, e28_12, e28_15, e28_16, e28_17, e28_18, e28_21, e28_22, e28_23, e28_24, e28_27, e28_28, e28_31, e28_32, e28_33, e28_35, e28_38, e28_39, e28_40, e28_41, e28_44, e28_45, e28_48, e28_49, e28_50, e28_52, e28_55, e28_57, e28_59, e28_60, e28_63, e28_64, e28_65, e28_66, e28_68, e28_71, e28_72, e28_75, e28_76, e28_79, e28_80, bi_s, tyX, rl1, rl2, rl4, ↓reduceIte, Option.bind_some, true_and, and_true, false_and, and_false, true_or, or_true, false_or, or_false, if_same0, ite_eq0, ite_eq0', ite_eq1, ite_eq1', or_em, or_em', ite_not, lcmp0, lcmpL, lcmpG, nI_cl_b, eb_in_b, nI_1, nI_pred, Int32.reduceToNatClampNeg, eb_u_ap, Prod.mk.injEq, not_true_eq_false, not_false_eq_true, sp_rg, sp_iI, sp_iG, sp_iS, hR.1.2.1, g3, a1, b1]
      exact ⟨I2, rfl, b2, eb_ft_k (eb_fk_tr a3 b3), fun w' q => by cases q⟩
    | some x =>
      obtain ⟨I2, b1, b2, b3, b4⟩ := x_takeS (L := L) (d := d + 2) (nc := nc) (ns := ns) (J := J) (C := C) (mt := mt) (mk := mk) h1 ht a2 hw1 (by decide) (by decide) hs
      have h2 := eb_fk_TX b3 h1
      have hw2 := sk_nx_wf hw1
      dsimp only
      cases hs2 : sk_take T (sk_nx T (sk_nx T K)) 1 30 with
      | none =>
        obtain ⟨I3, c1, c2, c3⟩ := x_takeN (L := L) (d := d + 2) (nc := nc) (ns := ns) (J := J) (C := C) (mt := mt) (mk := mk) h2 ht b2 hw2 (by decide) (by decide) hs2
        simp (decide := true) (disch := omega) only [e28_0, e28_1, e28_4, e28_6, e28_9, e28_10, e28_11, e28_12, e28_15, e28_16, e28_17, e28_18, e28_21, e28_22, e28_23, e28_24, e28_27, e28_28, e28_31, e28_32, e28_33, e28_35, e28_38, e28_39, e28_40, e28_41, e28_44, e28_45, e28_48, e28_49, e28_50, e28_52, e28_55, e28_57, e28_59, e28_60, e28_63, e28_64, e28_65, e28_66, e28_68, e28_71, e28_72, e28_75, e28_76, e28_79, e28_80, bi_s, tyX, rl1, rl2, rl4, ↓reduceIte, Option.bind_some, true_and, and_true, false_and, and_false, true_or, or_true, false_or, or_false, if_same0, ite_eq0, ite_eq0', ite_eq1, ite_eq1', or_em, or_em', ite_not, lcmp0, lcmpL, lcmpG, nI_cl_b, eb_in_b, nI_1, nI_pred, Int32.reduceToNatClampNeg, eb_u_ap, Prod.mk.injEq, not_true_eq_false, not_false_eq_true, sp_rg, sp_iI, sp_iG, sp_iS, hR.1.2.1, g3, a1, b1, b4, c1]
        exact ⟨I3, rfl, c2, eb_ft_k (eb_fk_tr (eb_fk_tr a3 b3) c3), fun w' q => by cases q⟩
      | some y =>
        obtain ⟨I3, c1, c2, c3, c4⟩ := x_takeS (L := L) (d := d + 2) (nc := nc) (ns := ns) (J := J) (C := C) (mt := mt) (mk := mk) h2 ht b2 hw2 (by decide) (by decide) hs2
        have h3 := eb_fk_TX c3 h2
        have hw3 := sk_nx_wf hw2
        dsimp only
        cases hs3 : sk_take T (sk_nx T (sk_nx T (sk_nx T K))) 0 99 with
        | none =>
          obtain ⟨I4, d1, d2, d3⟩ := x_takeN (L := L) (d := d + 2) (nc := nc) (ns := ns) (J := J) (C := C) (mt := mt) (mk := mk) h3 ht c2 hw3 (by decide) (by decide) hs3
          simp (decide := true) (disch := omega) only [e28_0, e28_1, e28_4, e28_6, e28_9, e28_10, e28_11, e28_12, e28_15, e28_16, e28_17, e28_18, e28_21, e28_22, e28_23, e28_24, e28_27, e28_28, e28_31, e28_32, e28_33, e28_35, e28_38, e28_39, e28_40, e28_41, e28_44, e28_45, e28_48, e28_49, e28_50, e28_52, e28_55, e28_57, e28_59, e28_60, e28_63, e28_64, e28_65, e28_66, e28_68, e28_71, e28_72, e28_75, e28_76, e28_79, e28_80, bi_s, tyX, rl1, rl2, rl4, ↓reduceIte, Option.bind_some, true_and, and_true, false_and, and_false, true_or, or_true, false_or, or_false, if_same0, ite_eq0, ite_eq0', ite_eq1, ite_eq1', or_em, or_em', ite_not, lcmp0, lcmpL, lcmpG, nI_cl_b, eb_in_b, nI_1, nI_pred, Int32.reduceToNatClampNeg, eb_u_ap, Prod.mk.injEq, not_true_eq_false, not_false_eq_true, sp_rg, sp_iI, sp_iG, sp_iS, hR.1.2.1, g3, a1, b1, b4, c1, c4, d1]
          exact ⟨I4, rfl, d2, eb_ft_k (eb_fk_tr (eb_fk_tr (eb_fk_tr a3 b3) c3) d3), fun w' q => by cases q⟩
        | some z =>
          obtain ⟨I4, d1, d2, d3, d4⟩ := x_takeS (L := L) (d := d + 2) (nc := nc) (ns := ns) (J := J) (C := C) (mt := mt) (mk := mk) h3 ht c2 hw3 (by decide) (by decide) hs3
          have hf := eb_fk_tr (eb_fk_tr (eb_fk_tr a3 b3) c3) d3
          obtain ⟨I5, e1, e2, e3⟩ := x_addGoer (L := L) (d := d + 4) (nc := nc) (ns := ns) (J := J) (C := C) (mt := mt) (mk := mk) (eb_fk_RX hf hR) (show w.2.1 < 6 by omega) (x := x) (y := y) (z := z)
          simp (decide := true) (disch := omega) only [e28_0, e28_1, e28_4, e28_6, e28_9, e28_10, e28_11, e28_12, e28_15, e28_16, e28_17, e28_18, e28_21, e28_22, e28_23, e28_24, e28_27, e28_28, e28_31, e28_32, e28_33, e28_35, e28_38, e28_39, e28_40, e28_41, e28_44, e28_45, e28_48, e28_49, e28_50, e28_52, e28_55, e28_57, e28_59, e28_60, e28_63, e28_64, e28_65, e28_66, e28_68, e28_71, e28_72, e28_75, e28_76, e28_79, e28_80, bi_s, tyX, rl1, rl2, rl4, ↓reduceIte, Option.bind_some, true_and, and_true, false_and, and_false, true_or, or_true, false_or, or_false, if_same0, ite_eq0, ite_eq0', ite_eq1, ite_eq1', or_em, or_em', ite_not, lcmp0, lcmpL, lcmpG, nI_cl_b, eb_in_b, nI_1, nI_pred, Int32.reduceToNatClampNeg, eb_u_ap, Prod.mk.injEq, not_true_eq_false, not_false_eq_true, sp_rg, sp_iI, sp_iG, sp_iS, hR.1.2.1, g3, a1, b1, b4, c1, c4, d1, d4, e1, nI_m1]
          exact ⟨I5, rfl, eb_fr_KX e3 d2, eb_ft_tr (eb_ft_k hf) (eb_ft_f e3), fun w' q => by cases q; exact e2⟩
theorem x_readInn (ht : sk_okT T) (hwf : sk_wf T K) (hw : sp_ok w) : eb_PR L (d + 7) 27 T w K (pr_inn T w K) := by
  intro nc ns I J C mt mk h hK hR
  have hg := hw.1
  rw [h27 rfl]
  unfold pr_inn
  by_cases c6 : w.1 = 6
  · rw [if_pos c6]
    have g3 : I (4, 1, 0) 2 = 6 := by rw [hR.1.1, c6]; rfl
    simp (decide := true) (disch := omega) only [e27_0, e27_1, e27_4, e27_6, e27_9, e27_10, e27_11, e27_12, e27_15, e27_16, e27_17, e27_19, e27_22, e27_23, e27_24, e27_25, e27_28, e27_29, e27_32, e27_33, e27_34, e27_36, e27_39, e27_40, e27_41, e27_42, e27_45, e27_46, e27_49, e27_50, e27_51, e27_53, e27_56, e27_58, e27_60, e27_61, e27_64, e27_65, e27_66, e27_67, e27_68, e27_69, e27_71, e27_74, e27_76, e27_78, e27_79, e27_82, e27_83, e27_85, e27_88, e27_91, e27_93, e27_94, e27_97, e27_98, e27_101, e27_102, e27_103, e27_104, e27_107, e27_108, e27_111, e27_113, e27_114, e27_115, e27_116, e27_118, e27_121, e27_124, e27_125, e27_128, e27_130, e27_131, e27_134, e27_135, e27_138, e27_139, e27_142, e27_143, bi_s, tyX, rl1, rl2, rl4, ↓reduceIte, Option.bind_some, true_and, and_true, false_and, and_false, true_or, or_true, false_or, or_false, if_same0, ite_eq0, ite_eq0', ite_eq1, ite_eq1', or_em, or_em', ite_not, lcmp0, lcmpL, lcmpG, nI_cl_b, eb_in_b, nI_1, nI_pred, Int32.reduceToNatClampNeg, eb_u_ap, Prod.mk.injEq, not_true_eq_false, not_false_eq_true, sp_rg, sp_iI, sp_iG, sp_iS, g3]
    exact ⟨I, rfl, hK, eb_ft_rf, fun w' q => by cases q⟩
  · rw [if_neg c6]
    have g3 : (nI w.1 < 6) = True := by rw [show (6 : Int32) = nI 6 from rfl, nI_lt_b (by omega) (by omega)]; exact eq_true (by omega)
    obtain ⟨I1, a1, a2, a3⟩ := x_next (L := L) (d := d + 3) (nc := nc) (ns := ns) (J := J) (C := C) (mt := mt) (mk := mk) h ht hK hwf
    have h1 := eb_fk_TX a3 h
    have hw1 := sk_nx_wf hwf
    unfold pr_three
    cases hs : sk_take T (sk_nx T K) 0 100 with
    | none =>
      obtain ⟨I2, b1, b2, b3⟩ := x_takeN (L := L) (d := d + 2) (nc := nc) (ns := ns) (J := J) (C := C) (mt := mt) (mk := mk) h1 ht a2 hw1 (by decide) (by decide) hs
      simp (decide := true) (disch := omega) only [e27_0, e27_1, e27_4, e27_6, e27_9, e27_10, e27_11, e27_12, e27_15, e27_16, e27_17, e27_19, e27_22, e27_23, e27_24, e27_25, e27_28, e27_29, e27_32, e27_33, e27_34, e27_36, e27_39, e27_40, e27_41, e27_42, e27_45, e27_46, e27_49, e27_50, e27_51, e27_53, e27_56, e27_58, e27_60, e27_61, e27_64, e27_65, e27_66, e27_67, e27_68, e27_69, e27_71, e27_74, e27_76, e27_78, e27_79, e27_82, e27_83, e27_85, e27_88, e27_91, e27_93, e27_94, e27_97, e27_98, e27_101, e27_102, e27_103, e27_104, e27_107, e27_108, e27_111, e27_113, e27_114, e27_115, e27_116, e27_118, e27_121, e27_124, e27_125, e27_128, e27_130, e27_131, e27_134, e27_135, e27_138, e27_139, e27_142, e27_143, bi_s, tyX, rl1, rl2, rl4, ↓reduceIte, Option.bind_some, true_and, and_true, false_and, and_false, true_or, or_true, false_or, or_false, if_same0, ite_eq0, ite_eq0', ite_eq1, ite_eq1', or_em, or_em', ite_not, lcmp0, lcmpL, lcmpG, nI_cl_b, eb_in_b, nI_1, nI_pred, Int32.reduceToNatClampNeg, eb_u_ap, Prod.mk.injEq, not_true_eq_false, not_false_eq_true, sp_rg, sp_iI, sp_iG, sp_iS, hR.1.1, g3, a1, b1]
      exact ⟨I2, rfl, b2, eb_ft_k (eb_fk_tr a3 b3), fun w' q => by cases q⟩
    | some x =>
      obtain ⟨I2, b1, b2, b3, b4⟩ := x_takeS (L := L) (d := d + 2) (nc := nc) (ns := ns) (J := J) (C := C) (mt := mt) (mk := mk) h1 ht a2 hw1 (by decide) (by decide) hs
      have h2 := eb_fk_TX b3 h1
      have hw2 := sk_nx_wf hw1
      dsimp only
      cases hs2 : sk_take T (sk_nx T (sk_nx T K)) 1 20 with
      | none =>
        obtain ⟨I3, c1, c2, c3⟩ := x_takeN (L := L) (d := d + 2) (nc := nc) (ns := ns) (J := J) (C := C) (mt := mt) (mk := mk) h2 ht b2 hw2 (by decide) (by decide) hs2
        simp (decide := true) (disch := omega) only [e27_0, e27_1, e27_4, e27_6, e27_9, e27_10, e27_11, e27_12, e27_15, e27_16, e27_17, e27_19, e27_22, e27_23, e27_24, e27_25, e27_28, e27_29, e27_32, e27_33, e27_34, e27_36, e27_39, e27_40, e27_41, e27_42, e27_45, e27_46, e27_49, e27_50, e27_51, e27_53, e27_56, e27_58, e27_60, e27_61, e27_64, e27_65, e27_66, e27_67, e27_68, e27_69, e27_71, e27_74, e27_76, e27_78, e27_79, e27_82, e27_83, e27_85, e27_88, e27_91, e27_93, e27_94, e27_97, e27_98, e27_101, e27_102, e27_103, e27_104, e27_107, e27_108, e27_111, e27_113, e27_114, e27_115, e27_116, e27_118, e27_121, e27_124, e27_125, e27_128, e27_130, e27_131, e27_134, e27_135, e27_138, e27_139, e27_142, e27_143, bi_s, tyX, rl1, rl2, rl4, ↓reduceIte, Option.bind_some, true_and, and_true, false_and, and_false, true_or, or_true, false_or, or_false, if_same0, ite_eq0, ite_eq0', ite_eq1, ite_eq1', or_em, or_em', ite_not, lcmp0, lcmpL, lcmpG, nI_cl_b, eb_in_b, nI_1, nI_pred, Int32.reduceToNatClampNeg, eb_u_ap, Prod.mk.injEq, not_true_eq_false, not_false_eq_true, sp_rg, sp_iI, sp_iG, sp_iS, hR.1.1, g3, a1, b1, b4, c1]
        exact ⟨I3, rfl, c2, eb_ft_k (eb_fk_tr (eb_fk_tr a3 b3) c3), fun w' q => by cases q⟩
      | some y =>
        obtain ⟨I3, c1, c2, c3, c4⟩ := x_takeS (L := L) (d := d + 2) (nc := nc) (ns := ns) (J := J) (C := C) (mt := mt) (mk := mk) h2 ht b2 hw2 (by decide) (by decide) hs2
        have h3 := eb_fk_TX c3 h2
        have hw3 := sk_nx_wf hw2
        dsimp only
        cases hs3 : sk_take T (sk_nx T (sk_nx T (sk_nx T K))) 0 99 with
        | none =>
          obtain ⟨I4, d1, d2, d3⟩ := x_takeN (L := L) (d := d + 2) (nc := nc) (ns := ns) (J := J) (C := C) (mt := mt) (mk := mk) h3 ht c2 hw3 (by decide) (by decide) hs3
          simp (decide := true) (disch := omega) only [e27_0, e27_1, e27_4, e27_6, e27_9, e27_10, e27_11, e27_12, e27_15, e27_16, e27_17, e27_19, e27_22, e27_23, e27_24, e27_25, e27_28, e27_29, e27_32, e27_33, e27_34, e27_36, e27_39, e27_40, e27_41, e27_42, e27_45, e27_46, e27_49, e27_50, e27_51, e27_53, e27_56, e27_58, e27_60, e27_61, e27_64, e27_65, e27_66, e27_67, e27_68, e27_69, e27_71, e27_74, e27_76, e27_78, e27_79, e27_82, e27_83, e27_85, e27_88, e27_91, e27_93, e27_94, e27_97, e27_98, e27_101, e27_102, e27_103, e27_104, e27_107, e27_108, e27_111, e27_113, e27_114, e27_115, e27_116, e27_118, e27_121, e27_124, e27_125, e27_128, e27_130, e27_131, e27_134, e27_135, e27_138, e27_139, e27_142, e27_143, bi_s, tyX, rl1, rl2, rl4, ↓reduceIte, Option.bind_some, true_and, and_true, false_and, and_false, true_or, or_true, false_or, or_false, if_same0, ite_eq0, ite_eq0', ite_eq1, ite_eq1', or_em, or_em', ite_not, lcmp0, lcmpL, lcmpG, nI_cl_b, eb_in_b, nI_1, nI_pred, Int32.reduceToNatClampNeg, eb_u_ap, Prod.mk.injEq, not_true_eq_false, not_false_eq_true, sp_rg, sp_iI, sp_iG, sp_iS, hR.1.1, g3, a1, b1, b4, c1, c4, d1]
          exact ⟨I4, rfl, d2, eb_ft_k (eb_fk_tr (eb_fk_tr (eb_fk_tr a3 b3) c3) d3), fun w' q => by cases q⟩
        | some z =>
          obtain ⟨I4, d1, d2, d3, d4⟩ := x_takeS (L := L) (d := d + 2) (nc := nc) (ns := ns) (J := J) (C := C) (mt := mt) (mk := mk) h3 ht c2 hw3 (by decide) (by decide) hs3
          have hf := eb_fk_tr (eb_fk_tr (eb_fk_tr a3 b3) c3) d3
          have h4 := eb_fk_TX d3 h3
          have hw4 := sk_nx_wf hw3
          obtain ⟨I5, e1, e2, e3⟩ := x_addInn (L := L) (d := d + 4) (nc := nc) (ns := ns) (J := J) (C := C) (mt := mt) (mk := mk) (eb_fk_RX hf hR) (show w.1 < 6 by omega) (x := x) (y := y) (z := z)
          have k5 := eb_fr_KX e3 d2
          have h5 := eb_ft_TX (eb_ft_f e3) h4
          dsimp only
          generalize sk_nx T (sk_nx T (sk_nx T (sk_nx T K))) = K4 at d2 hw4 k5
          have hiw := x_isWord (L := L) (d := d) (nc := nc) (ns := ns) (J := J) (C := C) (mt := mt) (mk := mk) h5 ht k5 hw4 (z := 5) (by omega)
          unfold pr_said
          by_cases cw : sk_isw T K4 5 = true
          · rw [if_pos cw] at hiw ⊢
            obtain ⟨I6, f1, f2, f3⟩ := x_next (L := L) (d := d + 3) (nc := nc) (ns := ns) (J := J) (C := C) (mt := mt) (mk := mk) h5 ht k5 hw4
            have h6 := eb_fk_TX f3 h5
            have hw6 := sk_nx_wf hw4
            cases hs4 : sk_take T (sk_nx T K4) 0 100 with
            | none =>
              obtain ⟨I7, g1, g2, g3'⟩ := x_takeN (L := L) (d := d + 2) (nc := nc) (ns := ns) (J := J) (C := C) (mt := mt) (mk := mk) h6 ht f2 hw6 (by decide) (by decide) hs4
              simp (decide := true) (disch := omega) only [e27_0, e27_1, e27_4, e27_6, e27_9, e27_10, e27_11, e27_12, e27_15, e27_16, e27_17, e27_19, e27_22, e27_23, e27_24, e27_25, e27_28, e27_29, e27_32, e27_33, e27_34, e27_36, e27_39, e27_40, e27_41, e27_42, e27_45, e27_46, e27_49, e27_50, e27_51, e27_53, e27_56, e27_58, e27_60, e27_61, e27_64, e27_65, e27_66, e27_67, e27_68, e27_69, e27_71, e27_74, e27_76, e27_78, e27_79, e27_82, e27_83, e27_85, e27_88, e27_91, e27_93, e27_94, e27_97, e27_98, e27_101, e27_102, e27_103, e27_104, e27_107, e27_108, e27_111, e27_113, e27_114, e27_115, e27_116, e27_118, e27_121, e27_124, e27_125, e27_128, e27_130, e27_131, e27_134, e27_135, e27_138, e27_139, e27_142, e27_143, bi_s, tyX, rl1, rl2, rl4, ↓reduceIte, Option.bind_some, true_and, and_true, false_and, and_false, true_or, or_true, false_or, or_false, if_same0, ite_eq0, ite_eq0', ite_eq1, ite_eq1', or_em, or_em', ite_not, lcmp0, lcmpL, lcmpG, nI_cl_b, eb_in_b, nI_1, nI_pred, Int32.reduceToNatClampNeg, eb_u_ap, Prod.mk.injEq, not_true_eq_false, not_false_eq_true, sp_rg, sp_iI, sp_iG, sp_iS, hR.1.1, g3, a1, b1, b4, c1, c4, d1, d4, e1, nI_m1, hiw, f1, g1]
              refine ⟨_, rfl, ⟨by simp [eb_u, g2.1], by simp [eb_u, g2.2.1], by simp [eb_u, g2.2.2]⟩, eb_ft_tr (eb_ft_tr (eb_ft_k hf) (eb_ft_f e3)) (eb_ft_tr (eb_ft_k (eb_fk_tr f3 g3')) (eb_ft_f (eb_fr_u ⟨rfl, Nat.le_of_ble_eq_true rfl, Nat.le_of_ble_eq_true rfl⟩))), fun w' q => by cases q⟩
            | some v =>
              obtain ⟨I7, g1, g2, g3', g4⟩ := x_takeS (L := L) (d := d + 2) (nc := nc) (ns := ns) (J := J) (C := C) (mt := mt) (mk := mk) h6 ht f2 hw6 (by decide) (by decide) hs4
              have r1 := RX_setI (i := w.1) (f := 4) (v := v) (eb_fk_RX (eb_fk_tr f3 g3') e2) (by omega)
              rw [sp_inn_said] at r1
              simp (decide := true) (disch := omega) only [e27_0, e27_1, e27_4, e27_6, e27_9, e27_10, e27_11, e27_12, e27_15, e27_16, e27_17, e27_19, e27_22, e27_23, e27_24, e27_25, e27_28, e27_29, e27_32, e27_33, e27_34, e27_36, e27_39, e27_40, e27_41, e27_42, e27_45, e27_46, e27_49, e27_50, e27_51, e27_53, e27_56, e27_58, e27_60, e27_61, e27_64, e27_65, e27_66, e27_67, e27_68, e27_69, e27_71, e27_74, e27_76, e27_78, e27_79, e27_82, e27_83, e27_85, e27_88, e27_91, e27_93, e27_94, e27_97, e27_98, e27_101, e27_102, e27_103, e27_104, e27_107, e27_108, e27_111, e27_113, e27_114, e27_115, e27_116, e27_118, e27_121, e27_124, e27_125, e27_128, e27_130, e27_131, e27_134, e27_135, e27_138, e27_139, e27_142, e27_143, bi_s, tyX, rl1, rl2, rl4, ↓reduceIte, Option.bind_some, true_and, and_true, false_and, and_false, true_or, or_true, false_or, or_false, if_same0, ite_eq0, ite_eq0', ite_eq1, ite_eq1', or_em, or_em', ite_not, lcmp0, lcmpL, lcmpG, nI_cl_b, eb_in_b, nI_1, nI_pred, Int32.reduceToNatClampNeg, eb_u_ap, Prod.mk.injEq, not_true_eq_false, not_false_eq_true, sp_rg, sp_iI, sp_iG, sp_iS, hR.1.1, g3, a1, b1, b4, c1, c4, d1, d4, e1, nI_m1, hiw, f1, g1, g4]
              refine ⟨_, rfl, ⟨by simp [eb_u, g2.1], by simp [eb_u, g2.2.1], by simp [eb_u, g2.2.2]⟩, eb_ft_tr (eb_ft_tr (eb_ft_k hf) (eb_ft_f e3)) (eb_ft_tr (eb_ft_k (eb_fk_tr f3 g3')) (eb_ft_f r1.2)), fun w' q => by cases q; exact r1.1⟩
          · rw [if_neg cw] at hiw ⊢
            simp (decide := true) (disch := omega) only [e27_0, e27_1, e27_4, e27_6, e27_9, e27_10, e27_11, e27_12, e27_15, e27_16, e27_17, e27_19, e27_22, e27_23, e27_24, e27_25, e27_28, e27_29, e27_32, e27_33, e27_34, e27_36, e27_39, e27_40, e27_41, e27_42, e27_45, e27_46, e27_49, e27_50, e27_51, e27_53, e27_56, e27_58, e27_60, e27_61, e27_64, e27_65, e27_66, e27_67, e27_68, e27_69, e27_71, e27_74, e27_76, e27_78, e27_79, e27_82, e27_83, e27_85, e27_88, e27_91, e27_93, e27_94, e27_97, e27_98, e27_101, e27_102, e27_103, e27_104, e27_107, e27_108, e27_111, e27_113, e27_114, e27_115, e27_116, e27_118, e27_121, e27_124, e27_125, e27_128, e27_130, e27_131, e27_134, e27_135, e27_138, e27_139, e27_142, e27_143, bi_s, tyX, rl1, rl2, rl4, ↓reduceIte, Option.bind_some, true_and, and_true, false_and, and_false, true_or, or_true, false_or, or_false, if_same0, ite_eq0, ite_eq0', ite_eq1, ite_eq1', or_em, or_em', ite_not, lcmp0, lcmpL, lcmpG, nI_cl_b, eb_in_b, nI_1, nI_pred, Int32.reduceToNatClampNeg, eb_u_ap, Prod.mk.injEq, not_true_eq_false, not_false_eq_true, sp_rg, sp_iI, sp_iG, sp_iS, hR.1.1, g3, a1, b1, b4, c1, c4, d1, d4, e1, nI_m1, hiw]
            exact ⟨I5, rfl, k5, eb_ft_tr (eb_ft_k hf) (eb_ft_f e3), fun w' q => by cases q; exact e2⟩
end

/-! the class's valleys: a night -/
/-- only what a night writes differs -/
def eb_fn (k : Nat) (I I' : eb_A → Nat → Int32) : Prop := ∀ a l, ¬ (a.2.1 = k ∧ (a.1 = 6 ∧ l = 7 ∨ a.1 = 7 ∧ l = 4 ∨ a.1 = 8 ∨ a.1 = 10)) → I' a l = I a l
theorem eb_fn_tr {k : Nat} {I I1 I2 : eb_A → Nat → Int32} (h1 : eb_fn k I I1) (h2 : eb_fn k I1 I2) : eb_fn k I I2 := fun a l h => (h2 a l h).trans (h1 a l h)
theorem eb_fn_fr {k : Nat} {I I1 : eb_A → Nat → Int32} (h1 : eb_fn k I I1) : eb_fr k I I1 := fun a l h => h1 a l (fun q => h ⟨q.1, by omega, by omega⟩)
theorem eb_fn_RX {k : Nat} {I I1 : eb_A → Nat → Int32} {w : eb_W} (h1 : eb_fn k I I1) (h : eb_RX I k w) : eb_RX I1 k w :=
  eb_RX_of h (fun l => h1 _ _ (by simp)) (fun i l hl => h1 _ _ (by simp; omega)) (fun j l hl => h1 _ _ (by simp; omega))
theorem tk {l : List Nat} : ∀ {i : Nat}, i < l.length → l.take (i + 1) = l.take i ++ [l.getD i 0] := by
  induction l with
  | nil => intro i h; exact absurd h (Nat.not_lt_zero _)
  | cons a l ih =>
    intro i h
    cases i with
    | zero => rfl
    | succ i => exact congrArg (List.cons a) (ih (Nat.lt_of_succ_lt_succ h))
section
variable {L d nc ns k i g : Nat} {I : eb_A → Nat → Int32} {J : eb_A → Nat → Int64} {C : Nat → Nat → Nat} {mt mk : Option Nat} {M : eb_M} {R : eb_A → Nat → Option eb_A} {w : eb_W} {N : eb_N}
theorem x_bestWithRooms {n : Nat} {room gu s : Nat → Int32} (hn : n ≤ 6) (h4 : I (4, k, 0) 2 = nI n) (hr : ∀ i, i < n → I (6, k, i) 2 = room i) (hg : ∀ i, i < n → I (6, k, i) 7 = gu i) (hs : ∀ i, i < n → I (10, k, 0) i = s i) : eb_ev L (d + 2) 56 [zr (4, k, 0)] (nc, ns, I, J, eb_RL C mt mk) = some (zi (sp_enc (sp_best (fun i => decide (gu i < room i)) s n)), (nc, ns, I, J, eb_RL C mt mk)) := by
  rw [h56 rfl]
  simp (decide := true) (disch := omega) only [e56_0, e56_1, e56_2, e56_3, e56_5, e56_6, e56_9, e56_12, e56_13, e56_16, e56_17, e56_18, e56_21, e56_24, e56_25, e56_26, e56_29, e56_30, e56_33, e56_34, e56_35, e56_36, e56_39, e56_40, e56_41, e56_44, e56_45, e56_46, e56_49, e56_52, e56_53, bi_s, tyX, rl1, rl2, rl4, ↓reduceIte, Option.bind_some, true_and, and_true, false_and, and_false, true_or, or_true, false_or, or_false, if_same0, ite_eq0, ite_eq0', ite_eq1, ite_eq1', or_em, or_em', ite_not, lcmp0, lcmpL, lcmpG, nI_cl_b, eb_in_b, nI_1, nI_pred, Int32.reduceToNatClampNeg, eb_u_ap, Prod.mk.injEq, not_true_eq_false, not_false_eq_true]
  have e := eb_loopA (n := n) (f := fun i => sp_enc (sp_best (fun i => decide (gu i < room i)) s i))
    (F := fun i s => eb_E L (d + 1) 56 4 [some (zr (4, k, 0)), some (zi s), some (zi (nI i))] [] (nc, ns, I, J, eb_RL C mt mk)) (by
      intro i hi
      rw [e56_4]
      have g1 := hr i hi
      have g2 := hg i hi
      have g3 := hs i hi
      cases hb : sp_best (fun i => decide (gu i < room i)) s i with
      | none =>
        simp (decide := true) (disch := omega) only [e56_0, e56_1, e56_2, e56_3, e56_5, e56_6, e56_9, e56_12, e56_13, e56_16, e56_17, e56_18, e56_21, e56_24, e56_25, e56_26, e56_29, e56_30, e56_33, e56_34, e56_35, e56_36, e56_39, e56_40, e56_41, e56_44, e56_45, e56_46, e56_49, e56_52, e56_53, bi_s, tyX, rl1, rl2, rl4, ↓reduceIte, Option.bind_some, true_and, and_true, false_and, and_false, true_or, or_true, false_or, or_false, if_same0, ite_eq0, ite_eq0', ite_eq1, ite_eq1', or_em, or_em', ite_not, lcmp0, lcmpL, lcmpG, nI_cl_b, eb_in_b, nI_1, nI_pred, Int32.reduceToNatClampNeg, eb_u_ap, Prod.mk.injEq, not_true_eq_false, not_false_eq_true, h4, nI_lt_b, hi, sp_enc, sp_best, hb, x_isFull, g1, g2, decide_eq_true_eq]
        by_cases c : gu i < room i <;> simp only [c, bi_s, tyX, rl1, rl2, rl4, ↓reduceIte, Option.bind_some, true_and, and_true, false_and, and_false, true_or, or_true, false_or, or_false, if_same0, ite_eq0, ite_eq0', ite_eq1, ite_eq1', or_em, or_em', ite_not, lcmp0, lcmpL, lcmpG, nI_cl_b, eb_in_b, nI_1, nI_pred, Int32.reduceToNatClampNeg, eb_u_ap, Prod.mk.injEq, not_true_eq_false, not_false_eq_true]
      | some q =>
        have hq := (sp_best_lt hb).1
        have g4 := hs q (by omega)
        simp (decide := true) (disch := omega) only [e56_0, e56_1, e56_2, e56_3, e56_5, e56_6, e56_9, e56_12, e56_13, e56_16, e56_17, e56_18, e56_21, e56_24, e56_25, e56_26, e56_29, e56_30, e56_33, e56_34, e56_35, e56_36, e56_39, e56_40, e56_41, e56_44, e56_45, e56_46, e56_49, e56_52, e56_53, bi_s, tyX, rl1, rl2, rl4, ↓reduceIte, Option.bind_some, true_and, and_true, false_and, and_false, true_or, or_true, false_or, or_false, if_same0, ite_eq0, ite_eq0', ite_eq1, ite_eq1', or_em, or_em', ite_not, lcmp0, lcmpL, lcmpG, nI_cl_b, eb_in_b, nI_1, nI_pred, Int32.reduceToNatClampNeg, eb_u_ap, Prod.mk.injEq, not_true_eq_false, not_false_eq_true, h4, nI_lt_b, hi, sp_enc, sp_best, hb, nI_m1, x_isFull, g1, g2, g3, g4, decide_eq_true_eq]
        by_cases c : gu i < room i <;> by_cases c2 : s q < s i <;> simp only [c, c2, bi_s, tyX, rl1, rl2, rl4, ↓reduceIte, Option.bind_some, true_and, and_true, false_and, and_false, true_or, or_true, false_or, or_false, if_same0, ite_eq0, ite_eq0', ite_eq1, ite_eq1', or_em, or_em', ite_not, lcmp0, lcmpL, lcmpG, nI_cl_b, eb_in_b, nI_1, nI_pred, Int32.reduceToNatClampNeg, eb_u_ap, Prod.mk.injEq, not_true_eq_false, not_false_eq_true])
  simp only [nI_0] at e
  rw [show sp_enc (sp_best (fun i => decide (gu i < room i)) s 0) = -1 from rfl] at e
  rw [e, e56_4]
  simp (decide := true) (disch := omega) only [e56_0, e56_1, e56_2, e56_3, e56_5, e56_6, e56_9, e56_12, e56_13, e56_16, e56_17, e56_18, e56_21, e56_24, e56_25, e56_26, e56_29, e56_30, e56_33, e56_34, e56_35, e56_36, e56_39, e56_40, e56_41, e56_44, e56_45, e56_46, e56_49, e56_52, e56_53, bi_s, tyX, rl1, rl2, rl4, ↓reduceIte, Option.bind_some, true_and, and_true, false_and, and_false, true_or, or_true, false_or, or_false, if_same0, ite_eq0, ite_eq0', ite_eq1, ite_eq1', or_em, or_em', ite_not, lcmp0, lcmpL, lcmpG, nI_cl_b, eb_in_b, nI_1, nI_pred, Int32.reduceToNatClampNeg, eb_u_ap, Prod.mk.injEq, not_true_eq_false, not_false_eq_true, h4, nI_lt_b, Nat.lt_irrefl]
theorem x_lodgeLoop {n : Nat} {room s : Nat → Int32} {hd : Int32} (hn : n ≤ 6) : ∀ (c ch : Nat) (G : (Nat → Int32) × (Nat → Int32) × Int32) (I : eb_A → Nat → Int32) (o1 o2 : Option eb_V), ch + c = n → I (4, k, 0) 2 = nI n → (∀ i, i < n → I (6, k, i) 2 = room i) → (∀ i, i < n → I (6, k, i) 7 = G.1 i) → (∀ i, i < n → I (10, k, 0) i = s i) → (∀ i, i < n → I (8, k, g) i = G.2.1 i) →
    ∃ I', eb_E L (d + 2) 55 38 [some (zr (4, k, 0)), some (zr (7, k, g)), some (zi hd), some (zi G.2.2), some (zi (nI ch)), o1, o2] [] (nc, ns, I, J, eb_RL C mt mk) = some (zn, (nc, ns, eb_u I' (7, k, g) 4 (I (7, k, g) 4 + (sp_lodge n room s c G).2.2), J, eb_RL C mt mk)) ∧ (∀ i, i < n → I' (6, k, i) 7 = (sp_lodge n room s c G).1 i) ∧ (∀ i, i < n → I' (8, k, g) i = (sp_lodge n room s c G).2.1 i) ∧ ∀ a l, ¬ (a.1 = 6 ∧ a.2.1 = k ∧ l = 7) → ¬ a = (8, k, g) → I' a l = I a l := by
  intro c
  induction c with
  | zero =>
    intro ch G I o1 o2 hc h4 hr hg hs h8
    have hc : ch = n := hc
    subst hc
    rw [e55_38]
    simp (decide := true) (disch := omega) only [e55_0, e55_1, e55_3, e55_4, e55_7, e55_10, e55_11, e55_14, e55_15, e55_16, e55_17, e55_18, e55_21, e55_22, e55_23, e55_26, e55_27, e55_30, e55_33, e55_34, e55_35, e55_36, e55_40, e55_41, e55_44, e55_47, e55_48, e55_51, e55_52, e55_55, e55_57, e55_59, e55_60, e55_63, e55_66, e55_67, e55_68, e55_71, e55_73, e55_74, e55_77, e55_78, e55_81, e55_83, e55_84, e55_87, e55_88, e55_91, e55_93, e55_94, e55_97, e55_99, e55_100a, e55_100b, e55_101, e55_104, e55_106, e55_107, e55_110, e55_111, e55_114, e55_116, e55_117, e55_118, e55_120, e55_121, e55_122, e55_123, e55_125, e55_126, e55_127, e55_130, e55_133, e55_134a, e55_134b, e55_135, e55_138, e55_139, e55_140, e55_143, bi_s, tyX, rl1, rl2, rl4, ↓reduceIte, Option.bind_some, true_and, and_true, false_and, and_false, true_or, or_true, false_or, or_false, if_same0, ite_eq0, ite_eq0', ite_eq1, ite_eq1', or_em, or_em', ite_not, lcmp0, lcmpL, lcmpG, nI_cl_b, eb_in_b, nI_1, nI_pred, Int32.reduceToNatClampNeg, eb_u_ap, Prod.mk.injEq, not_true_eq_false, not_false_eq_true, h4, nI_lt_b, Nat.lt_irrefl]
    exact ⟨I, rfl, hg, h8, fun _ _ _ _ => rfl⟩
  | succ c ih =>
    intro ch G I o1 o2 hc h4 hr hg hs h8
    obtain ⟨G1, G2, G3⟩ := G
    have hlt : ch < n := by omega
    rw [e55_38]
    by_cases hl : 0 < G3
    · have hbr := x_bestWithRooms (L := L) (d := d) (nc := nc) (ns := ns) (J := J) (C := C) (mt := mt) (mk := mk) hn h4 hr hg hs
      cases hb : sp_best (fun i => decide (G1 i < room i)) s n with
      | none =>
        rw [hb] at hbr
        have hsp : sp_lodge n room s (c + 1) (G1, G2, G3) = (G1, G2, G3) := by
          unfold sp_lodge; simp only [hl, if_true, hb]
        rw [hsp]
        simp (decide := true) (disch := omega) only [e55_0, e55_1, e55_3, e55_4, e55_7, e55_10, e55_11, e55_14, e55_15, e55_16, e55_17, e55_18, e55_21, e55_22, e55_23, e55_26, e55_27, e55_30, e55_33, e55_34, e55_35, e55_36, e55_40, e55_41, e55_44, e55_47, e55_48, e55_51, e55_52, e55_55, e55_57, e55_59, e55_60, e55_63, e55_66, e55_67, e55_68, e55_71, e55_73, e55_74, e55_77, e55_78, e55_81, e55_83, e55_84, e55_87, e55_88, e55_91, e55_93, e55_94, e55_97, e55_99, e55_100a, e55_100b, e55_101, e55_104, e55_106, e55_107, e55_110, e55_111, e55_114, e55_116, e55_117, e55_118, e55_120, e55_121, e55_122, e55_123, e55_125, e55_126, e55_127, e55_130, e55_133, e55_134a, e55_134b, e55_135, e55_138, e55_139, e55_140, e55_143, bi_s, tyX, rl1, rl2, rl4, ↓reduceIte, Option.bind_some, true_and, and_true, false_and, and_false, true_or, or_true, false_or, or_false, if_same0, ite_eq0, ite_eq0', ite_eq1, ite_eq1', or_em, or_em', ite_not, lcmp0, lcmpL, lcmpG, nI_cl_b, eb_in_b, nI_1, nI_pred, Int32.reduceToNatClampNeg, eb_u_ap, Prod.mk.injEq, not_true_eq_false, not_false_eq_true, h4, nI_lt_b, hlt, hl, hbr, sp_enc]
        exact ⟨I, rfl, hg, h8, fun _ _ _ _ => rfl⟩
      | some b =>
        rw [hb] at hbr
        have hbn := (sp_best_lt hb).1
        have hsp : sp_lodge n room s (c + 1) (G1, G2, G3) = sp_lodge n room s c (sp_up G1 b (G1 b + (if room b - G1 b < G3 then room b - G1 b else G3)), sp_up G2 b (G2 b + (if room b - G1 b < G3 then room b - G1 b else G3)), G3 - (if room b - G1 b < G3 then room b - G1 b else G3)) := by
          conv => lhs; unfold sp_lodge
          simp only [hl, if_true, hb]
        rw [hsp]
        have g1 := hr b hbn
        have g2 : I (6, k, b) 7 = G1 b := hg b hbn
        have g3 : I (8, k, g) b = G2 b := h8 b hbn
        simp (decide := true) (disch := omega) only [e55_0, e55_1, e55_3, e55_4, e55_7, e55_10, e55_11, e55_14, e55_15, e55_16, e55_17, e55_18, e55_21, e55_22, e55_23, e55_26, e55_27, e55_30, e55_33, e55_34, e55_35, e55_36, e55_40, e55_41, e55_44, e55_47, e55_48, e55_51, e55_52, e55_55, e55_57, e55_59, e55_60, e55_63, e55_66, e55_67, e55_68, e55_71, e55_73, e55_74, e55_77, e55_78, e55_81, e55_83, e55_84, e55_87, e55_88, e55_91, e55_93, e55_94, e55_97, e55_99, e55_100a, e55_100b, e55_101, e55_104, e55_106, e55_107, e55_110, e55_111, e55_114, e55_116, e55_117, e55_118, e55_120, e55_121, e55_122, e55_123, e55_125, e55_126, e55_127, e55_130, e55_133, e55_134a, e55_134b, e55_135, e55_138, e55_139, e55_140, e55_143, bi_s, tyX, rl1, rl2, rl4, ↓reduceIte, Option.bind_some, true_and, and_true, false_and, and_false, true_or, or_true, false_or, or_false, if_same0, ite_eq0, ite_eq0', ite_eq1, ite_eq1', or_em, or_em', ite_not, lcmp0, lcmpL, lcmpG, nI_cl_b, eb_in_b, nI_1, nI_pred, Int32.reduceToNatClampNeg, eb_u_ap, Prod.mk.injEq, not_true_eq_false, not_false_eq_true, h4, nI_lt_b, hlt, hl, hbr, sp_enc, nI_m1, g1, g2, g3]
        generalize (if room b - G1 b < G3 then room b - G1 b else G3) = v
        obtain ⟨I', e1, e2, e3, e4⟩ := ih (ch + 1) (sp_up G1 b (G1 b + v), sp_up G2 b (G2 b + v), G3 - v) (eb_u (eb_u I (6, k, b) 7 (G1 b + v)) (8, k, g) b (G2 b + v)) (some (zi (nI b))) (some (zi v)) (by omega) (by simp [eb_u, h4]) (fun i hi => by simp [eb_u, hr i hi]) (fun i hi => by
            by_cases q : i = b
            · subst q; simp [eb_u, sp_up]
            · simp [eb_u, sp_up, q, show I (6, k, i) 7 = G1 i from hg i hi]) (fun i hi => by simp [eb_u, hs i hi]) (fun i hi => by
            by_cases q : i = b
            · subst q; simp [eb_u, sp_up]
            · simp [eb_u, sp_up, q, show I (8, k, g) i = G2 i from h8 i hi])
        refine ⟨I', ?_, e2, e3, fun a l ha1 ha2 => ?_⟩
        · rw [e1]; simp [eb_u]
        · rw [e4 a l ha1 ha2]
          have : ¬ (a = (6, k, b) ∧ l = 7) := fun q => ha1 ⟨by rw [q.1], by rw [q.1], q.2⟩
          simp only [eb_u, ha2, this, false_and, if_false]
    · have hsp : sp_lodge n room s (c + 1) (G1, G2, G3) = (G1, G2, G3) := by
        unfold sp_lodge; simp only [hl, if_false]
      rw [hsp]
      simp (decide := true) (disch := omega) only [e55_0, e55_1, e55_3, e55_4, e55_7, e55_10, e55_11, e55_14, e55_15, e55_16, e55_17, e55_18, e55_21, e55_22, e55_23, e55_26, e55_27, e55_30, e55_33, e55_34, e55_35, e55_36, e55_40, e55_41, e55_44, e55_47, e55_48, e55_51, e55_52, e55_55, e55_57, e55_59, e55_60, e55_63, e55_66, e55_67, e55_68, e55_71, e55_73, e55_74, e55_77, e55_78, e55_81, e55_83, e55_84, e55_87, e55_88, e55_91, e55_93, e55_94, e55_97, e55_99, e55_100a, e55_100b, e55_101, e55_104, e55_106, e55_107, e55_110, e55_111, e55_114, e55_116, e55_117, e55_118, e55_120, e55_121, e55_122, e55_123, e55_125, e55_126, e55_127, e55_130, e55_133, e55_134a, e55_134b, e55_135, e55_138, e55_139, e55_140, e55_143, bi_s, tyX, rl1, rl2, rl4, ↓reduceIte, Option.bind_some, true_and, and_true, false_and, and_false, true_or, or_true, false_or, or_false, if_same0, ite_eq0, ite_eq0', ite_eq1, ite_eq1', or_em, or_em', ite_not, lcmp0, lcmpL, lcmpG, nI_cl_b, eb_in_b, nI_1, nI_pred, Int32.reduceToNatClampNeg, eb_u_ap, Prod.mk.injEq, not_true_eq_false, not_false_eq_true, h4, nI_lt_b, hlt, hl]
      exact ⟨I, rfl, hg, h8, fun _ _ _ _ => rfl⟩
end

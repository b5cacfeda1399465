/-! the class's faces: judging -/
section
variable {L d nc ns k i g : Nat} {I : eb_A → Nat → Int32} {J : eb_A → Nat → Int64} {C : Nat → Nat → Nat} {mt mk : Option Nat} {w : eb_W} {R : eb_A → Nat → Option eb_A} {S : eb_St} {M : eb_M}
theorem xf_judge (ok : sp_St S) {a : Int32} : eb_FX L (d + 7) 105 [zi a] S (sf_judge S a).2 (zi (sf_judge S a).1) := by
  intro nc ns I J C mt mk h
  rw [h105 rfl]
  unfold sf_judge
  have hn := ok.1.1
  have hg := ok.1.2.1
  have hf := x_rowFault (L := L) (d := d + 3) (nc := nc) (ns := ns) (C := C) (mt := mt) (mk := mk) h ok (s := a)
  cases hs : sp_fault S a with
  | some kk =>
    have hk := sp_fault_lt hs
    simp only [hs] at hf
    simp (decide := true) (disch := omega) only [e105_0, e105_1, e105_2, e105_5, e105_6, e105_7, e105_10, e105_11, e105_12, e105_15, e105_16, e105_17, e105_20, e105_21, e105_22, e105_23, e105_24, e105_27, e105_28, e105_31, e105_34, e105_35, e105_38, e105_41, e105_42, e105_45, e105_46, e105_48, e105_51, e105_52, e105_53, e105_56, e105_59, e105_60, e105_62, e105_63, e105_67, e105_68, e105_71, e105_74, e105_77, e105_78, e105_82, e105_83, e105_86, e105_89, e105_92, e105_93, e105_96, e105_98, e105_99, e105_100, e105_103, e105_106, e105_108, e105_109, e105_112, e105_114, e105_115, e105_116, e105_117, e105_120, e105_122, e105_123, e105_126, e105_129, e105_132, e105_135, e105_138, e105_139, bi_s, tyX, rl1, rl2, rl4, ↓reduceIte, Option.bind_some, true_and, and_true, false_and, and_false, true_or, or_true, false_or, or_false, if_same0, ite_eq0, ite_eq0', ite_eq1, ite_eq1', or_em, or_em', ite_not, lcmp0, lcmpL, lcmpG, nI_cl_b, eb_in_b, nI_1, nI_pred, Int32.reduceToNatClampNeg, eb_u_ap, Prod.mk.injEq, not_true_eq_false, not_false_eq_true, sp_rg, sp_iI, sp_iG, sp_iS, hf, ref_ne, x_refk]
    exact ⟨_, J, C, rfl, fx_rf h (by omega)⟩
  | none =>
    obtain ⟨s, hs8, rfl, hr⟩ := sp_fault_none hs
    simp only [hs] at hf
    obtain ⟨g0, g1⟩ := h.2.2.1 s hs8
    obtain ⟨g1, g2⟩ := g1 hr
    have hsn : ss_n S s ≤ 40 := by
      rcases St_held ok hs8 with q | q | ⟨g, _, _, q, _⟩
      · exact absurd hr q.2.1
      · exact q.2.1
      · exact absurd hr q
    have htn : tn (nI s) = s := nI_cl_b (by omega)
    simp only [htn]
    have hgi : S.1.2.1 * S.1.1 ≤ 36 := Nat.mul_le_mul hg hn
    have hmul : nI S.1.2.1 * nI S.1.1 = nI (S.1.2.1 * S.1.1) := nI_mul _ _
    by_cases c : ss_n S s < S.1.2.1 * S.1.1
    · rw [if_pos c]
      have c1 : (nI (ss_n S s) < nI (S.1.2.1 * S.1.1)) = True := by rw [nI_lt_b (by omega) (by omega)]; exact eq_true c
      simp (decide := true) (disch := omega) only [e105_0, e105_1, e105_2, e105_5, e105_6, e105_7, e105_10, e105_11, e105_12, e105_15, e105_16, e105_17, e105_20, e105_21, e105_22, e105_23, e105_24, e105_27, e105_28, e105_31, e105_34, e105_35, e105_38, e105_41, e105_42, e105_45, e105_46, e105_48, e105_51, e105_52, e105_53, e105_56, e105_59, e105_60, e105_62, e105_63, e105_67, e105_68, e105_71, e105_74, e105_77, e105_78, e105_82, e105_83, e105_86, e105_89, e105_92, e105_93, e105_96, e105_98, e105_99, e105_100, e105_103, e105_106, e105_108, e105_109, e105_112, e105_114, e105_115, e105_116, e105_117, e105_120, e105_122, e105_123, e105_126, e105_129, e105_132, e105_135, e105_138, e105_139, bi_s, tyX, rl1, rl2, rl4, ↓reduceIte, Option.bind_some, true_and, and_true, false_and, and_false, true_or, or_true, false_or, or_false, if_same0, ite_eq0, ite_eq0', ite_eq1, ite_eq1', or_em, or_em', ite_not, lcmp0, lcmpL, lcmpG, nI_cl_b, eb_in_b, nI_1, nI_pred, Int32.reduceToNatClampNeg, eb_u_ap, Prod.mk.injEq, not_true_eq_false, not_false_eq_true, sp_rg, sp_iI, sp_iG, sp_iS, hf, g1, h.1.1.1, h.1.1.2.1, hmul, c1, x_refuse0]
      exact ⟨_, J, C, rfl, fx_rf h (by omega)⟩
    · rw [if_neg c]
      have c1 : (nI (ss_n S s) < nI (S.1.2.1 * S.1.1)) = False := by rw [nI_lt_b (by omega) (by omega)]; exact eq_false c
      obtain ⟨I0, C0, a1, a2, a3, a4⟩ := x_spendNight (L := L) (d := d + 1) (nc := nc) (ns := ns) (J := J) (C := C) (mt := mt) (mk := mk) h.1 ok.1
      have hR0 := eb_fn_RX a2 h.1
      simp (decide := true) (disch := omega) only [e105_0, e105_1, e105_2, e105_5, e105_6, e105_7, e105_10, e105_11, e105_12, e105_15, e105_16, e105_17, e105_20, e105_21, e105_22, e105_23, e105_24, e105_27, e105_28, e105_31, e105_34, e105_35, e105_38, e105_41, e105_42, e105_45, e105_46, e105_48, e105_51, e105_52, e105_53, e105_56, e105_59, e105_60, e105_62, e105_63, e105_67, e105_68, e105_71, e105_74, e105_77, e105_78, e105_82, e105_83, e105_86, e105_89, e105_92, e105_93, e105_96, e105_98, e105_99, e105_100, e105_103, e105_106, e105_108, e105_109, e105_112, e105_114, e105_115, e105_116, e105_117, e105_120, e105_122, e105_123, e105_126, e105_129, e105_132, e105_135, e105_138, e105_139, bi_s, tyX, rl1, rl2, rl4, ↓reduceIte, Option.bind_some, true_and, and_true, false_and, and_false, true_or, or_true, false_or, or_false, if_same0, ite_eq0, ite_eq0', ite_eq1, ite_eq1', or_em, or_em', ite_not, lcmp0, lcmpL, lcmpG, nI_cl_b, eb_in_b, nI_1, nI_pred, Int32.reduceToNatClampNeg, eb_u_ap, Prod.mk.injEq, not_true_eq_false, not_false_eq_true, sp_rg, sp_iI, sp_iG, sp_iS, hf, g1, h.1.1.1, h.1.1.2.1, hmul, c1, a1]
      generalize hp : (fun k => decide (¬ ss_e S s k = ((sp_night S.1).2.1 (k / S.1.1) (k % S.1.1)).toInt64)) = p
      have hpk : ∀ k, p k = decide (¬ ss_e S s k = ((sp_night S.1).2.1 (k / S.1.1) (k % S.1.1)).toInt64) := fun k => by rw [← hp]
      generalize hT : S.1.2.1 * S.1.1 = T at hgi c
      have key := eb_loopE (α := Option eb_V) (n := S.1.2.1) (s0 := none)
        (F := fun g o => eb_E L (d + 6) 105 65 [some (zr (1, 0, 0)), some (zi (nI s)), some (zi 0), some (zr (3, 0, s)), some (zi (nI (g * S.1.1))), some (zi (nI g)), o] [] (nc, ns, I0, J, eb_RL C0 mt mk))
        (P := fun g _ => sp_fst p (g * S.1.1) (T - g * S.1.1) = sp_fst p 0 T)
        (Q := fun r => r = some (zi (sp_fst p 0 T), (nc, ns, I0, J, eb_RL C0 mt mk)))
        (by rw [Nat.zero_mul]; rfl) (by
          intro g o hgl hP
          have hG1 : (g + 1) * S.1.1 ≤ T := by rw [← hT]; exact Nat.mul_le_mul_right _ hgl
          have hG2 : (g + 1) * S.1.1 = g * S.1.1 + S.1.1 := Nat.succ_mul _ _
          have hgl1 : (nI g < nI S.1.2.1) = True := by rw [nI_lt_b (by omega) (by omega)]; exact eq_true hgl
          have inner := eb_loopE (α := Unit) (n := S.1.1) (s0 := ())
            (F := fun i _ => eb_E L (d + 6) 105 80 [some (zr (1, 0, 0)), some (zi (nI s)), some (zi 0), some (zr (3, 0, s)), some (zi (nI (g * S.1.1 + i))), some (zi (nI g)), some (zi (nI i))] [] (nc, ns, I0, J, eb_RL C0 mt mk))
            (P := fun i _ => sp_fst p (g * S.1.1 + i) (T - (g * S.1.1 + i)) = sp_fst p 0 T)
            (Q := fun r => (∃ o', r = eb_E L (d + 6) 105 65 [some (zr (1, 0, 0)), some (zi (nI s)), some (zi 0), some (zr (3, 0, s)), some (zi (nI ((g + 1) * S.1.1))), some (zi (nI (g + 1))), o'] [] (nc, ns, I0, J, eb_RL C0 mt mk) ∧ sp_fst p ((g + 1) * S.1.1) (T - (g + 1) * S.1.1) = sp_fst p 0 T) ∨ r = some (zi (sp_fst p 0 T), (nc, ns, I0, J, eb_RL C0 mt mk)))
            hP (by
              intro i _ hi hPi
              have hlt : g * S.1.1 + i < T := by omega
              have hdiv : (g * S.1.1 + i) / S.1.1 = g := by
                rw [Nat.add_comm, Nat.add_mul_div_right _ _ (by omega : 0 < S.1.1), Nat.div_eq_of_lt hi, Nat.zero_add]
              have hmod : (g * S.1.1 + i) % S.1.1 = i := by
                rw [Nat.add_comm, Nat.add_mul_mod_self_right, Nat.mod_eq_of_lt hi]
              have hpi := hpk (g * S.1.1 + i)
              rw [hdiv, hmod] at hpi
              have k1 := g2 (g * S.1.1 + i) (by omega)
              have k2 := (a3.2 g hgl).1 i hi
              have hTs : T - (g * S.1.1 + i) = (T - (g * S.1.1 + (i + 1))) + 1 := by omega
              rw [hTs] at hPi
              have hPi : (if p (g * S.1.1 + i) = true then nI (g * S.1.1 + i) else sp_fst p (g * S.1.1 + i + 1) (T - (g * S.1.1 + (i + 1)))) = sp_fst p 0 T := hPi
              generalize hz : g * S.1.1 + i = z at hlt hpi k1 hPi
              have hi1 : (nI i < nI S.1.1) = True := by rw [nI_lt_b (by omega) (by omega)]; exact eq_true hi
              by_cases cc : ss_e S s z = ((sp_night S.1).2.1 g i).toInt64
              · left
                rw [hpi, if_neg (by simp [cc])] at hPi
                rw [e105_80]
                simp (decide := true) (disch := omega) only [e105_0, e105_1, e105_2, e105_5, e105_6, e105_7, e105_10, e105_11, e105_12, e105_15, e105_16, e105_17, e105_20, e105_21, e105_22, e105_23, e105_24, e105_27, e105_28, e105_31, e105_34, e105_35, e105_38, e105_41, e105_42, e105_45, e105_46, e105_48, e105_51, e105_52, e105_53, e105_56, e105_59, e105_60, e105_62, e105_63, e105_67, e105_68, e105_71, e105_74, e105_77, e105_78, e105_82, e105_83, e105_86, e105_89, e105_92, e105_93, e105_96, e105_98, e105_99, e105_100, e105_103, e105_106, e105_108, e105_109, e105_112, e105_114, e105_115, e105_116, e105_117, e105_120, e105_122, e105_123, e105_126, e105_129, e105_132, e105_135, e105_138, e105_139, bi_s, tyX, rl1, rl2, rl4, ↓reduceIte, Option.bind_some, true_and, and_true, false_and, and_false, true_or, or_true, false_or, or_false, if_same0, ite_eq0, ite_eq0', ite_eq1, ite_eq1', or_em, or_em', ite_not, lcmp0, lcmpL, lcmpG, nI_cl_b, eb_in_b, nI_1, nI_pred, Int32.reduceToNatClampNeg, eb_u_ap, Prod.mk.injEq, not_true_eq_false, not_false_eq_true, sp_rg, sp_iI, sp_iG, sp_iS, hR0.1.1, hR0.1.2.1, hi1, k1, k2]
                rw [show g * S.1.1 + (i + 1) = z + 1 by omega] at hPi ⊢
                rw [if_pos cc]
                exact ⟨(), rfl, hPi⟩
              · right; right
                rw [hpi, if_pos (by simp [cc])] at hPi
                rw [e105_80]
                simp (decide := true) (disch := omega) only [e105_0, e105_1, e105_2, e105_5, e105_6, e105_7, e105_10, e105_11, e105_12, e105_15, e105_16, e105_17, e105_20, e105_21, e105_22, e105_23, e105_24, e105_27, e105_28, e105_31, e105_34, e105_35, e105_38, e105_41, e105_42, e105_45, e105_46, e105_48, e105_51, e105_52, e105_53, e105_56, e105_59, e105_60, e105_62, e105_63, e105_67, e105_68, e105_71, e105_74, e105_77, e105_78, e105_82, e105_83, e105_86, e105_89, e105_92, e105_93, e105_96, e105_98, e105_99, e105_100, e105_103, e105_106, e105_108, e105_109, e105_112, e105_114, e105_115, e105_116, e105_117, e105_120, e105_122, e105_123, e105_126, e105_129, e105_132, e105_135, e105_138, e105_139, bi_s, tyX, rl1, rl2, rl4, ↓reduceIte, Option.bind_some, true_and, and_true, false_and, and_false, true_or, or_true, false_or, or_false, if_same0, ite_eq0, ite_eq0', ite_eq1, ite_eq1', or_em, or_em', ite_not, lcmp0, lcmpL, lcmpG, nI_cl_b, eb_in_b, nI_1, nI_pred, Int32.reduceToNatClampNeg, eb_u_ap, Prod.mk.injEq, not_true_eq_false, not_false_eq_true, sp_rg, sp_iI, sp_iG, sp_iS, hR0.1.1, hR0.1.2.1, hi1, k1, k2]
                rw [if_neg cc, hPi]) (by
              intro _ hPi
              left
              refine ⟨some (zi (nI S.1.1)), ?_, ?_⟩
              · rw [e105_80, hG2]
                simp (decide := true) (disch := omega) only [e105_0, e105_1, e105_2, e105_5, e105_6, e105_7, e105_10, e105_11, e105_12, e105_15, e105_16, e105_17, e105_20, e105_21, e105_22, e105_23, e105_24, e105_27, e105_28, e105_31, e105_34, e105_35, e105_38, e105_41, e105_42, e105_45, e105_46, e105_48, e105_51, e105_52, e105_53, e105_56, e105_59, e105_60, e105_62, e105_63, e105_67, e105_68, e105_71, e105_74, e105_77, e105_78, e105_82, e105_83, e105_86, e105_89, e105_92, e105_93, e105_96, e105_98, e105_99, e105_100, e105_103, e105_106, e105_108, e105_109, e105_112, e105_114, e105_115, e105_116, e105_117, e105_120, e105_122, e105_123, e105_126, e105_129, e105_132, e105_135, e105_138, e105_139, bi_s, tyX, rl1, rl2, rl4, ↓reduceIte, Option.bind_some, true_and, and_true, false_and, and_false, true_or, or_true, false_or, or_false, if_same0, ite_eq0, ite_eq0', ite_eq1, ite_eq1', or_em, or_em', ite_not, lcmp0, lcmpL, lcmpG, nI_cl_b, eb_in_b, nI_1, nI_pred, Int32.reduceToNatClampNeg, eb_u_ap, Prod.mk.injEq, not_true_eq_false, not_false_eq_true, sp_rg, sp_iI, sp_iG, sp_iS, hR0.1.1, nI_lt_b, Nat.lt_irrefl]
              · rw [hG2]; exact hPi)
          simp only [nI_0, Nat.add_zero] at inner
          rw [e105_65]
          simp (decide := true) (disch := omega) only [e105_0, e105_1, e105_2, e105_5, e105_6, e105_7, e105_10, e105_11, e105_12, e105_15, e105_16, e105_17, e105_20, e105_21, e105_22, e105_23, e105_24, e105_27, e105_28, e105_31, e105_34, e105_35, e105_38, e105_41, e105_42, e105_45, e105_46, e105_48, e105_51, e105_52, e105_53, e105_56, e105_59, e105_60, e105_62, e105_63, e105_67, e105_68, e105_71, e105_74, e105_77, e105_78, e105_82, e105_83, e105_86, e105_89, e105_92, e105_93, e105_96, e105_98, e105_99, e105_100, e105_103, e105_106, e105_108, e105_109, e105_112, e105_114, e105_115, e105_116, e105_117, e105_120, e105_122, e105_123, e105_126, e105_129, e105_132, e105_135, e105_138, e105_139, bi_s, tyX, rl1, rl2, rl4, ↓reduceIte, Option.bind_some, true_and, and_true, false_and, and_false, true_or, or_true, false_or, or_false, if_same0, ite_eq0, ite_eq0', ite_eq1, ite_eq1', or_em, or_em', ite_not, lcmp0, lcmpL, lcmpG, nI_cl_b, eb_in_b, nI_1, nI_pred, Int32.reduceToNatClampNeg, eb_u_ap, Prod.mk.injEq, not_true_eq_false, not_false_eq_true, sp_rg, sp_iI, sp_iG, sp_iS, hR0.1.2.1, hgl1]
          rcases inner with ⟨o', q1, q2⟩ | q
          · exact Or.inl ⟨o', q1, q2⟩
          · exact Or.inr q) (by
          intro o hP
          rw [hT, Nat.sub_self] at hP
          have hP : -1 = sp_fst p 0 T := hP
          rw [e105_65]
          simp (decide := true) (disch := omega) only [e105_0, e105_1, e105_2, e105_5, e105_6, e105_7, e105_10, e105_11, e105_12, e105_15, e105_16, e105_17, e105_20, e105_21, e105_22, e105_23, e105_24, e105_27, e105_28, e105_31, e105_34, e105_35, e105_38, e105_41, e105_42, e105_45, e105_46, e105_48, e105_51, e105_52, e105_53, e105_56, e105_59, e105_60, e105_62, e105_63, e105_67, e105_68, e105_71, e105_74, e105_77, e105_78, e105_82, e105_83, e105_86, e105_89, e105_92, e105_93, e105_96, e105_98, e105_99, e105_100, e105_103, e105_106, e105_108, e105_109, e105_112, e105_114, e105_115, e105_116, e105_117, e105_120, e105_122, e105_123, e105_126, e105_129, e105_132, e105_135, e105_138, e105_139, bi_s, tyX, rl1, rl2, rl4, ↓reduceIte, Option.bind_some, true_and, and_true, false_and, and_false, true_or, or_true, false_or, or_false, if_same0, ite_eq0, ite_eq0', ite_eq1, ite_eq1', or_em, or_em', ite_not, lcmp0, lcmpL, lcmpG, nI_cl_b, eb_in_b, nI_1, nI_pred, Int32.reduceToNatClampNeg, eb_u_ap, Prod.mk.injEq, not_true_eq_false, not_false_eq_true, sp_rg, sp_iI, sp_iG, sp_iS, hR0.1.2.1, nI_lt_b, Nat.lt_irrefl]
          rw [hP])
      simp only [Nat.zero_mul, nI_0] at key
      exact ⟨I0, J, C0, key, fx_n h a2⟩
end

/-! the reference's faces: two books -/
/-- those of a line, each twice -/
def sp_tline (w : eb_W) (a b : Int32) (p : Nat → Bool) (N : eb_N) (n : Nat) : eb_N := ((List.range n).filter p).foldl (sp_tstep w a b) N
theorem sp_tline_s {w : eb_W} {a b : Int32} {p : Nat → Bool} {N : eb_N} {n : Nat} : sp_tline w a b p N (n + 1) = if p n = true then sp_tstep w a b (sp_tline w a b p N n) n else sp_tline w a b p N n := by
  unfold sp_tline
  rw [sp_rng, List.foldl_append]
  by_cases q : p n = true
  · rw [if_pos q, if_pos q]; rfl
  · rw [if_neg q, if_neg q]; rfl
theorem sp_tline_ok {w : eb_W} {a b : Int32} {p : Nat → Bool} {N : eb_N} (hw : sp_ok w) (h : sp_Nok (sp_setS w 0 0) N) : ∀ {n : Nat}, n ≤ w.2.1 → sp_Nok (sp_setS w 0 0) (sp_tline w a b p N n) := by
  intro n
  induction n with
  | zero => exact fun _ => h
  | succ n ih =>
    intro hn
    rw [sp_tline_s]
    by_cases q : p n = true
    · rw [if_pos q]; exact sp_Nok_tstep hw (by omega) (ih (by omega))
    · rw [if_neg q]; exact ih (by omega)
section
variable {L d nc ns r i g t : Nat} {I I' I1 : eb_A → Nat → Int32} {J J1 : eb_A → Nat → Int64} {C : Nat → Nat → Nat} {mt mk : Option Nat} {M : eb_M} {R : eb_A → Nat → Option eb_A} {w : eb_W} {x set a b : Int32} {S : eb_St} {N : eb_N} {said : Nat → Int32}
theorem m_tline (h0 : eb_RM I 0 w) (ht : ¬ 0 = t) (h : eb_RM I t (sp_setS w 0 0)) (hN : eb_NM I t (sp_setS w 0 0) said N) (hw : sp_ok w) (hNk : sp_Nok (sp_setS w 0 0) N) {lt : Nat} (hlt : lt < 2) {p : Nat → Bool} (hp : ∀ j, p j = decide ((w.2.2.2.2 j 0 = 5) = (lt = 1))) {o6 : Option eb_V} : ∃ I' said' o6', eb_E L (d + 4) 220 52 [some (zr (21, 0, 0)), some (zi a), some (zi b), some (zr (21, t, 0)), some (zi (nI lt)), some (zi 0), o6] [] (nc, ns, I, J, eb_RL C mt mk) = eb_E L (d + 4) 220 43 [some (zr (21, 0, 0)), some (zi a), some (zi b), some (zr (21, t, 0)), some (zi (nI (lt + 1))), some (zi (nI w.2.1)), o6'] [] (nc, ns, I', J, eb_RL C mt mk) ∧ eb_gn t I I' ∧ eb_NM I' t (sp_setS w 0 0) said' (sp_tline w a b p N w.2.1) := by
  have hg := hw.2.1
  obtain ⟨s, e, e1, sd, e2⟩ := eb_loop (α := (eb_A → Nat → Int32) × Option eb_V) (n := w.2.1) (s0 := (I, o6))
    (F := fun j s => eb_E L (d + 4) 220 52 [some (zr (21, 0, 0)), some (zi a), some (zi b), some (zr (21, t, 0)), some (zi (nI lt)), some (zi (nI j)), s.2] [] (nc, ns, s.1, J, eb_RL C mt mk))
    (P := fun j s => eb_gn t I s.1 ∧ ∃ sd, eb_NM s.1 t (sp_setS w 0 0) sd (sp_tline w a b p N j))
    ⟨eb_gn_rf, said, hN⟩ (by
      intro j s hj hP
      obtain ⟨I1, o6⟩ := s
      obtain ⟨h1, sd, h2⟩ := hP
      have h1 : eb_gn t I I1 := h1
      have h2 : eb_NM I1 t (sp_setS w 0 0) sd (sp_tline w a b p N j) := h2
      have hR := eb_gn_RM h1 h
      have hR0 : eb_RM I1 0 w := eb_RM_gv h0 (eb_gn_gv h1) ht
      have c : (nI j < nI w.2.1) = True := by rw [nI_lt_b (by omega) (by omega)]; exact eq_true hj
      have k0 := hR0.2.2 j hj 0 (by omega)
      have k1 := hR0.2.2 j hj 1 (by omega)
      have hline := sp_tline_s (w := w) (a := a) (b := b) (N := N) (p := p) (n := j)
      have hl1 : (nI lt = 1) = (lt = 1) := nI_eq_b (a := lt) (b := 1) (by omega) (by omega)
      obtain ⟨m, k, q1, q2, q3, q4, q5, q6, q7⟩ := sp_half_m hw hj
      obtain ⟨I2, I3, I4, I5, t1, t2, t3, t4, t5, t6, t7⟩ := m_twice (L := L) (d := d + 1) (nc := nc) (ns := ns) (J := J) (C := C) (mt := mt) (mk := mk) (a := a) (b := b) hR h2 hw (sp_tline_ok hw hNk (by omega)) hj
      have kb := m_isByBook (L := L) (d := d + 3) (nc := nc) (ns := ns) (J := J) (C := C) (mt := mt) (mk := mk) hR0 hw hj
      have k12 : I2 (34, 0, j) 1 = w.2.2.2.2 j 1 := (eb_RM_gv hR0 (eb_gn_gv t5) ht).2.2 j hj 1 (by omega)
      have hpj := hp j
      have go : p j = true → ((w.2.2.2.2 j 0 = 5) = (lt = 1)) → ∃ s' : (eb_A → Nat → Int32) × Option eb_V, eb_E L (d + 4) 220 52 [some (zr (21, 0, 0)), some (zi a), some (zi b), some (zr (21, t, 0)), some (zi (nI lt)), some (zi (nI j)), o6] [] (nc, ns, I1, J, eb_RL C mt mk) = eb_E L (d + 4) 220 52 [some (zr (21, 0, 0)), some (zi a), some (zi b), some (zr (21, t, 0)), some (zi (nI lt)), some (zi (nI (j + 1))), s'.2] [] (nc, ns, s'.1, J, eb_RL C mt mk) ∧ eb_gn t I s'.1 ∧ ∃ sd, eb_NM s'.1 t (sp_setS w 0 0) sd (sp_tline w a b p N (j + 1)) := by
        intro hpt heq
        rw [if_pos hpt] at hline
        have fin : ∃ s' : (eb_A → Nat → Int32) × Option eb_V, s' = (I5, some (zi (sp_half w j))) ∧ eb_gn t I s'.1 ∧ ∃ sd, eb_NM s'.1 t (sp_setS w 0 0) sd (sp_tline w a b p N (j + 1)) := by
          refine ⟨(I5, some (zi (sp_half w j))), rfl, eb_gn_tr h1 t6, sp_bsaid w b, ?_⟩
          rw [hline]; exact t7
        obtain ⟨s', f1, f2, f3⟩ := fin
        refine ⟨s', ?_, f2, f3⟩
        rw [f1, e220_52]
        rw [q5] at t2
        rw [q4] at t4
        rw [q4]
        rw [q3] at k1 k12
        have hsub : nI m - nI k = nI (m - k) := nI_sub q2
        by_cases bk : sp_bk (w.2.2.2.2 j 0) = true
        · rw [if_pos bk] at kb
          have q6 := q6 bk
          by_cases c5 : w.2.2.2.2 j 0 = 5 <;> by_cases cl : lt = 1
          · simp (decide := true) (disch := omega) only [e220_54, e220_55, e220_58, e220_61, e220_62, e220_65, e220_67, e220_68, e220_69, e220_70, e220_71, e220_74, e220_75, e220_78, e220_79, e220_81, e220_82, e220_85, e220_86, e220_89, e220_90, e220_93, e220_94, e220_96, e220_99, e220_102, e220_103, e220_106, e220_108, e220_109, e220_110, e220_111, e220_112, e220_113, e220_116, e220_117, e220_119, e220_120, e220_121, e220_124, e220_125, e220_127, e220_128, e220_131, e220_133, e220_134, e220_135, e220_136, e220_138, e220_139, e220_142, e220_143, e220_144, e220_147, e220_148, e220_150, e220_152, e220_155, e220_158, bi_s, tyX, rl1, rl2, rl4, ↓reduceIte, Option.bind_some, true_and, and_true, false_and, and_false, true_or, or_true, false_or, or_false, if_same0, ite_eq0, ite_eq0', ite_eq1, ite_eq1', or_em, or_em', ite_not, lcmp0, lcmpL, lcmpG, nI_cl_b, eb_in_b, nI_1, nI_pred, Int32.reduceToNatClampNeg, eb_u_ap, Prod.mk.injEq, not_true_eq_false, not_false_eq_true, tyM, rl21, rl25, sp_rg, sp_iI, sp_iG, sp_iS, hR0.1.2.1, c, k0, c5, hl1, cl, kb, k1, q6, t1, k12, hsub, t2, t3, t4]
          · exact absurd (heq.mp c5) cl
          · exact absurd (heq.mpr cl) c5
          · simp (decide := true) (disch := omega) only [e220_54, e220_55, e220_58, e220_61, e220_62, e220_65, e220_67, e220_68, e220_69, e220_70, e220_71, e220_74, e220_75, e220_78, e220_79, e220_81, e220_82, e220_85, e220_86, e220_89, e220_90, e220_93, e220_94, e220_96, e220_99, e220_102, e220_103, e220_106, e220_108, e220_109, e220_110, e220_111, e220_112, e220_113, e220_116, e220_117, e220_119, e220_120, e220_121, e220_124, e220_125, e220_127, e220_128, e220_131, e220_133, e220_134, e220_135, e220_136, e220_138, e220_139, e220_142, e220_143, e220_144, e220_147, e220_148, e220_150, e220_152, e220_155, e220_158, bi_s, tyX, rl1, rl2, rl4, ↓reduceIte, Option.bind_some, true_and, and_true, false_and, and_false, true_or, or_true, false_or, or_false, if_same0, ite_eq0, ite_eq0', ite_eq1, ite_eq1', or_em, or_em', ite_not, lcmp0, lcmpL, lcmpG, nI_cl_b, eb_in_b, nI_1, nI_pred, Int32.reduceToNatClampNeg, eb_u_ap, Prod.mk.injEq, not_true_eq_false, not_false_eq_true, tyM, rl21, rl25, sp_rg, sp_iI, sp_iG, sp_iS, hR0.1.2.1, c, k0, c5, hl1, cl, kb, k1, q6, t1, k12, hsub, t2, t3, t4]
        · rw [if_neg bk] at kb
          have q7 := q7 bk
          subst q7
          have hz : nI m - 0 = nI (m - 0) := hsub
          rw [show nI 0 = 0 from rfl] at t4 ⊢
          by_cases c5 : w.2.2.2.2 j 0 = 5 <;> by_cases cl : lt = 1
          · simp (decide := true) (disch := omega) only [e220_54, e220_55, e220_58, e220_61, e220_62, e220_65, e220_67, e220_68, e220_69, e220_70, e220_71, e220_74, e220_75, e220_78, e220_79, e220_81, e220_82, e220_85, e220_86, e220_89, e220_90, e220_93, e220_94, e220_96, e220_99, e220_102, e220_103, e220_106, e220_108, e220_109, e220_110, e220_111, e220_112, e220_113, e220_116, e220_117, e220_119, e220_120, e220_121, e220_124, e220_125, e220_127, e220_128, e220_131, e220_133, e220_134, e220_135, e220_136, e220_138, e220_139, e220_142, e220_143, e220_144, e220_147, e220_148, e220_150, e220_152, e220_155, e220_158, bi_s, tyX, rl1, rl2, rl4, ↓reduceIte, Option.bind_some, true_and, and_true, false_and, and_false, true_or, or_true, false_or, or_false, if_same0, ite_eq0, ite_eq0', ite_eq1, ite_eq1', or_em, or_em', ite_not, lcmp0, lcmpL, lcmpG, nI_cl_b, eb_in_b, nI_1, nI_pred, Int32.reduceToNatClampNeg, eb_u_ap, Prod.mk.injEq, not_true_eq_false, not_false_eq_true, tyM, rl21, rl25, sp_rg, sp_iI, sp_iG, sp_iS, hR0.1.2.1, c, k0, c5, hl1, cl, kb, k1, t1, k12, hz, t2, t3, t4]
          · exact absurd (heq.mp c5) cl
          · exact absurd (heq.mpr cl) c5
          · simp (decide := true) (disch := omega) only [e220_54, e220_55, e220_58, e220_61, e220_62, e220_65, e220_67, e220_68, e220_69, e220_70, e220_71, e220_74, e220_75, e220_78, e220_79, e220_81, e220_82, e220_85, e220_86, e220_89, e220_90, e220_93, e220_94, e220_96, e220_99, e220_102, e220_103, e220_106, e220_108, e220_109, e220_110, e220_111, e220_112, e220_113, e220_116, e220_117, e220_119, e220_120, e220_121, e220_124, e220_125, e220_127, e220_128, e220_131, e220_133, e220_134, e220_135, e220_136, e220_138, e220_139, e220_142, e220_143, e220_144, e220_147, e220_148, e220_150, e220_152, e220_155, e220_158, bi_s, tyX, rl1, rl2, rl4, ↓reduceIte, Option.bind_some, true_and, and_true, false_and, and_false, true_or, or_true, false_or, or_false, if_same0, ite_eq0, ite_eq0', ite_eq1, ite_eq1', or_em, or_em', ite_not, lcmp0, lcmpL, lcmpG, nI_cl_b, eb_in_b, nI_1, nI_pred, Int32.reduceToNatClampNeg, eb_u_ap, Prod.mk.injEq, not_true_eq_false, not_false_eq_true, tyM, rl21, rl25, sp_rg, sp_iI, sp_iG, sp_iS, hR0.1.2.1, c, k0, c5, hl1, cl, kb, k1, t1, k12, hz, t2, t3, t4]
      have no : ¬ p j = true → ¬ ((w.2.2.2.2 j 0 = 5) = (lt = 1)) → ∃ s' : (eb_A → Nat → Int32) × Option eb_V, eb_E L (d + 4) 220 52 [some (zr (21, 0, 0)), some (zi a), some (zi b), some (zr (21, t, 0)), some (zi (nI lt)), some (zi (nI j)), o6] [] (nc, ns, I1, J, eb_RL C mt mk) = eb_E L (d + 4) 220 52 [some (zr (21, 0, 0)), some (zi a), some (zi b), some (zr (21, t, 0)), some (zi (nI lt)), some (zi (nI (j + 1))), s'.2] [] (nc, ns, s'.1, J, eb_RL C mt mk) ∧ eb_gn t I s'.1 ∧ ∃ sd, eb_NM s'.1 t (sp_setS w 0 0) sd (sp_tline w a b p N (j + 1)) := by
        intro hpt heq
        rw [if_neg hpt] at hline
        refine ⟨(I1, o6), ?_, h1, sd, by rw [hline]; exact h2⟩
        rw [e220_52]
        by_cases c5 : w.2.2.2.2 j 0 = 5 <;> by_cases cl : lt = 1
        · exact absurd (propext ⟨fun _ => cl, fun _ => c5⟩) heq
        · simp (decide := true) (disch := omega) only [e220_54, e220_55, e220_58, e220_61, e220_62, e220_65, e220_67, e220_68, e220_69, e220_70, e220_71, e220_74, e220_75, e220_78, e220_79, e220_81, e220_82, e220_85, e220_86, e220_89, e220_90, e220_93, e220_94, e220_96, e220_99, e220_102, e220_103, e220_106, e220_108, e220_109, e220_110, e220_111, e220_112, e220_113, e220_116, e220_117, e220_119, e220_120, e220_121, e220_124, e220_125, e220_127, e220_128, e220_131, e220_133, e220_134, e220_135, e220_136, e220_138, e220_139, e220_142, e220_143, e220_144, e220_147, e220_148, e220_150, e220_152, e220_155, e220_158, bi_s, tyX, rl1, rl2, rl4, ↓reduceIte, Option.bind_some, true_and, and_true, false_and, and_false, true_or, or_true, false_or, or_false, if_same0, ite_eq0, ite_eq0', ite_eq1, ite_eq1', or_em, or_em', ite_not, lcmp0, lcmpL, lcmpG, nI_cl_b, eb_in_b, nI_1, nI_pred, Int32.reduceToNatClampNeg, eb_u_ap, Prod.mk.injEq, not_true_eq_false, not_false_eq_true, tyM, rl21, rl25, sp_rg, sp_iI, sp_iG, sp_iS, hR0.1.2.1, c, k0, c5, hl1, cl]
        · simp (decide := true) (disch := omega) only [e220_54, e220_55, e220_58, e220_61, e220_62, e220_65, e220_67, e220_68, e220_69, e220_70, e220_71, e220_74, e220_75, e220_78, e220_79, e220_81, e220_82, e220_85, e220_86, e220_89, e220_90, e220_93, e220_94, e220_96, e220_99, e220_102, e220_103, e220_106, e220_108, e220_109, e220_110, e220_111, e220_112, e220_113, e220_116, e220_117, e220_119, e220_120, e220_121, e220_124, e220_125, e220_127, e220_128, e220_131, e220_133, e220_134, e220_135, e220_136, e220_138, e220_139, e220_142, e220_143, e220_144, e220_147, e220_148, e220_150, e220_152, e220_155, e220_158, bi_s, tyX, rl1, rl2, rl4, ↓reduceIte, Option.bind_some, true_and, and_true, false_and, and_false, true_or, or_true, false_or, or_false, if_same0, ite_eq0, ite_eq0', ite_eq1, ite_eq1', or_em, or_em', ite_not, lcmp0, lcmpL, lcmpG, nI_cl_b, eb_in_b, nI_1, nI_pred, Int32.reduceToNatClampNeg, eb_u_ap, Prod.mk.injEq, not_true_eq_false, not_false_eq_true, tyM, rl21, rl25, sp_rg, sp_iI, sp_iG, sp_iS, hR0.1.2.1, c, k0, c5, hl1, cl]
        · exact absurd (propext ⟨fun q => absurd q c5, fun q => absurd q cl⟩) heq
      by_cases hq : ((w.2.2.2.2 j 0 = 5) = (lt = 1))
      · exact go (by rw [hpj]; exact decide_eq_true hq) hq
      · exact no (by rw [hpj]; simpa using hq) hq)
  obtain ⟨I1, o6⟩ := s
  have e1 : eb_gn t I I1 := e1
  have hR0 : eb_RM I1 0 w := eb_RM_gv h0 (eb_gn_gv e1) ht
  simp only [nI_0] at e
  rw [e, e220_52]
  simp (decide := true) (disch := omega) only [e220_54, e220_55, e220_58, e220_61, e220_62, e220_65, e220_67, e220_68, e220_69, e220_70, e220_71, e220_74, e220_75, e220_78, e220_79, e220_81, e220_82, e220_85, e220_86, e220_89, e220_90, e220_93, e220_94, e220_96, e220_99, e220_102, e220_103, e220_106, e220_108, e220_109, e220_110, e220_111, e220_112, e220_113, e220_116, e220_117, e220_119, e220_120, e220_121, e220_124, e220_125, e220_127, e220_128, e220_131, e220_133, e220_134, e220_135, e220_136, e220_138, e220_139, e220_142, e220_143, e220_144, e220_147, e220_148, e220_150, e220_152, e220_155, e220_158, e220_161, e220_164, bi_s, tyX, rl1, rl2, rl4, ↓reduceIte, Option.bind_some, true_and, and_true, false_and, and_false, true_or, or_true, false_or, or_false, if_same0, ite_eq0, ite_eq0', ite_eq1, ite_eq1', or_em, or_em', ite_not, lcmp0, lcmpL, lcmpG, nI_cl_b, eb_in_b, nI_1, nI_pred, Int32.reduceToNatClampNeg, eb_u_ap, Prod.mk.injEq, not_true_eq_false, not_false_eq_true, tyM, rl21, rl25, sp_rg, sp_iI, sp_iG, sp_iS, hR0.1.2.1, nI_lt_b, Nat.lt_irrefl]
  exact ⟨I1, sd, o6, rfl, e1, e2⟩
theorem mf_two (ok : sp_St S) {a b : Int32} : eb_FM L (d + 8) 220 [zi a, zi b] S (sf_two S a b).2 (zi (sf_two S a b).1) := by
  intro nc ns I J C mt mk h
  rw [h220 rfl]
  unfold sf_two
  have hA := m_isSet (L := L) (d := d + 5) (nc := nc) (ns := ns) (J := J) (C := C) (mt := mt) (mk := mk) (x := a) h.1 ok.1
  have hB := m_isSet (L := L) (d := d + 5) (nc := nc) (ns := ns) (J := J) (C := C) (mt := mt) (mk := mk) (x := b) h.1 ok.1
  by_cases c1 : sp_iS S.1 a
  · rw [if_pos c1] at hA
    by_cases c2 : sp_iS S.1 b
    · rw [if_pos c2] at hB
      rw [if_pos ⟨c1, c2⟩]
      obtain ⟨t, nc1, ns1, I1, J1, f1, f2, f3, f4, f5⟩ := m_fresh (L := L) (d := d + 3) (C := C) h ok
      have ht : ¬ 0 = t := fun z => ((cnt_t f2.2.2.1).1 t rfl).1 z.symm
      have r1 := RM_setA (v := 0) f3
      have ok1 : sp_ok (sp_setS S.1 0 0) := ok_setA ok.1 ⟨by decide, by decide⟩
      obtain ⟨I2, a1, a2, a3⟩ := m_startNight (L := L) (d := d + 6) (nc := nc1) (ns := ns1) (J := J1) (C := C) (mt := some t) (mk := mk) r1.1 ok1
      have hR2 := eb_gn_RM a2 r1.1
      have hR02 : eb_RM I2 0 S.1 := eb_RM_gv (eb_RM_gv f2.1 r1.2 ht) (eb_gn_gv a2) ht
      obtain ⟨I3, sd1, o1, b1, b2, b3⟩ := m_tline (L := L) (d := d + 3) (nc := nc1) (ns := ns1) (J := J1) (C := C) (mt := some t) (mk := mk) (a := a) (b := b) hR02 ht hR2 a3 ok.1 (sp_Nok_0 ok1) (lt := 0) (by omega) (p := fun j => !decide (S.1.2.2.2.2 j 0 = 5)) (fun j => by
        by_cases c : S.1.2.2.2.2 j 0 = 5 <;> simp [c]) (o6 := none)
      have hR3 := eb_gn_RM b2 hR2
      have hR03 : eb_RM I3 0 S.1 := eb_RM_gv hR02 (eb_gn_gv b2) ht
      obtain ⟨I4, sd2, o2, d1, d2, d3⟩ := m_tline (L := L) (d := d + 3) (nc := nc1) (ns := ns1) (J := J1) (C := C) (mt := some t) (mk := mk) (a := a) (b := b) hR03 ht hR3 b3 ok.1 (sp_tline_ok ok.1 (sp_Nok_0 ok1) (Nat.le_refl _)) (lt := 1) (by omega) (p := fun j => decide (S.1.2.2.2.2 j 0 = 5)) (fun j => by
        by_cases c : S.1.2.2.2.2 j 0 = 5 <;> simp [c]) (o6 := o1)
      have hR4 := eb_gn_RM d2 hR3
      have hNk : sp_Nok (sp_setS S.1 0 0) _ := sp_tline_ok (a := a) (b := b) (p := fun j => decide (S.1.2.2.2.2 j 0 = 5)) (n := S.1.2.1) ok.1 (sp_tline_ok (a := a) (b := b) (p := fun j => !decide (S.1.2.2.2.2 j 0 = 5)) (n := S.1.2.1) ok.1 (sp_Nok_0 ok1) (Nat.le_refl _)) (Nat.le_refl _)
      have e4 := m_joyBy0 (L := L) (d := d + 5) (nc := nc1) (ns := ns1) (J := J1) (C := C) (mt := some t) (mk := mk) (w := sp_setS S.1 0 0) hR4.1.1 hR4.1.2.1 (fun i hi => ⟨hR4.2.1 i hi 0 (by omega), hR4.2.1 i hi 3 (by omega)⟩) d3 ok1 hNk
      simp only [nI_0] at b1
      simp only [show nI (0 + 1) = 1 from rfl] at b1
      simp only [show nI 1 = 1 from rfl, show nI (1 + 1) = 2 from rfl] at d1
      simp (decide := true) (disch := omega) only [e220_0, e220_1, e220_2, e220_5, e220_8, e220_9, e220_10, e220_13, e220_16, e220_18, e220_19, e220_21, e220_24, e220_25, e220_26, e220_27, e220_30, e220_31, e220_32, e220_33, e220_36, e220_37, e220_40, e220_41, bi_s, tyX, rl1, rl2, rl4, ↓reduceIte, Option.bind_some, true_and, and_true, false_and, and_false, true_or, or_true, false_or, or_false, if_same0, ite_eq0, ite_eq0', ite_eq1, ite_eq1', or_em, or_em', ite_not, lcmp0, lcmpL, lcmpG, nI_cl_b, eb_in_b, nI_1, nI_pred, Int32.reduceToNatClampNeg, eb_u_ap, Prod.mk.injEq, not_true_eq_false, not_false_eq_true, tyM, rl21, rl25, sp_rg, sp_iI, sp_iG, sp_iS, hA, hB, f1, a1]
      rw [e220_43]
      simp (decide := true) (disch := omega) only [e220_45, e220_46, e220_49, e220_50, bi_s, tyX, rl1, rl2, rl4, ↓reduceIte, Option.bind_some, true_and, and_true, false_and, and_false, true_or, or_true, false_or, or_false, if_same0, ite_eq0, ite_eq0', ite_eq1, ite_eq1', or_em, or_em', ite_not, lcmp0, lcmpL, lcmpG, nI_cl_b, eb_in_b, nI_1, nI_pred, Int32.reduceToNatClampNeg, eb_u_ap, Prod.mk.injEq, not_true_eq_false, not_false_eq_true, tyM, rl21, rl25, sp_rg, sp_iI, sp_iG, sp_iS]
      rw [b1, e220_43]
      simp (decide := true) (disch := omega) only [e220_45, e220_46, e220_49, e220_50, bi_s, tyX, rl1, rl2, rl4, ↓reduceIte, Option.bind_some, true_and, and_true, false_and, and_false, true_or, or_true, false_or, or_false, if_same0, ite_eq0, ite_eq0', ite_eq1, ite_eq1', or_em, or_em', ite_not, lcmp0, lcmpL, lcmpG, nI_cl_b, eb_in_b, nI_1, nI_pred, Int32.reduceToNatClampNeg, eb_u_ap, Prod.mk.injEq, not_true_eq_false, not_false_eq_true, tyM, rl21, rl25, sp_rg, sp_iI, sp_iG, sp_iS]
      rw [d1, e220_43]
      simp (decide := true) (disch := omega) only [e220_45, e220_46, e220_49, e220_50, e220_54, e220_55, e220_58, e220_61, e220_62, e220_65, e220_67, e220_68, e220_69, e220_70, e220_71, e220_74, e220_75, e220_78, e220_79, e220_81, e220_82, e220_85, e220_86, e220_89, e220_90, e220_93, e220_94, e220_96, e220_99, e220_102, e220_103, e220_106, e220_108, e220_109, e220_110, e220_111, e220_112, e220_113, e220_116, e220_117, e220_119, e220_120, e220_121, e220_124, e220_125, e220_127, e220_128, e220_131, e220_133, e220_134, e220_135, e220_136, e220_138, e220_139, e220_142, e220_143, e220_144, e220_147, e220_148, e220_150, e220_152, e220_155, e220_158, e220_161, e220_164, e220_167, e220_168, e220_169, e220_172, bi_s, tyX, rl1, rl2, rl4, ↓reduceIte, Option.bind_some, true_and, and_true, false_and, and_false, true_or, or_true, false_or, or_false, if_same0, ite_eq0, ite_eq0', ite_eq1, ite_eq1', or_em, or_em', ite_not, lcmp0, lcmpL, lcmpG, nI_cl_b, eb_in_b, nI_1, nI_pred, Int32.reduceToNatClampNeg, eb_u_ap, Prod.mk.injEq, not_true_eq_false, not_false_eq_true, tyM, rl21, rl25, sp_rg, sp_iI, sp_iG, sp_iS, e4]
      have h2 := a2_two (w := S.1) (a := a) (b := b) (l := sp_ord S.1) (W := (S.1, sp_N0)) ⟨rfl, rfl, rfl, fun _ _ _ => rfl⟩
      have hj : sp_joyAll (sp_two S.1 a b).1 (sp_two S.1 a b).2 = sp_joyAll (sp_setS S.1 0 0) (sp_tline S.1 a b (fun j => decide (S.1.2.2.2.2 j 0 = 5)) (sp_tline S.1 a b (fun j => !decide (S.1.2.2.2.2 j 0 = 5)) sp_N0 S.1.2.1) S.1.2.1) := by
        rw [show sp_joyAll (sp_two S.1 a b).1 (sp_two S.1 a b).2 = sp_joyAll (sp_setS S.1 0 0) (sp_two S.1 a b).2 from a2_joy (a2_W0 h2.1)]
        congr 1
        refine h2.2.trans ?_
        unfold sp_ord sp_tline
        rw [List.foldl_append]
      rw [hj]
      exact ⟨nc1, ns1, I4, J1, some t, mk, rfl, fm_t f2 (eb_gv_tr (eb_gv_tr (eb_gv_tr r1.2 (eb_gn_gv a2)) (eb_gn_gv b2)) (eb_gn_gv d2)) f4 f5⟩
    · rw [if_neg c2] at hB
      rw [if_neg (fun q => c2 q.2)]
      simp (decide := true) (disch := omega) only [e220_0, e220_1, e220_2, e220_5, e220_8, e220_9, e220_10, e220_13, e220_16, e220_18, e220_19, e220_21, e220_24, e220_25, e220_26, e220_27, e220_30, e220_31, e220_32, e220_33, e220_36, e220_37, e220_40, e220_41, bi_s, tyX, rl1, rl2, rl4, ↓reduceIte, Option.bind_some, true_and, and_true, false_and, and_false, true_or, or_true, false_or, or_false, if_same0, ite_eq0, ite_eq0', ite_eq1, ite_eq1', or_em, or_em', ite_not, lcmp0, lcmpL, lcmpG, nI_cl_b, eb_in_b, nI_1, nI_pred, Int32.reduceToNatClampNeg, eb_u_ap, Prod.mk.injEq, not_true_eq_false, not_false_eq_true, tyM, rl21, rl25, sp_rg, sp_iI, sp_iG, sp_iS, hA, hB, m_refuse0]
      exact ⟨nc, ns, _, J, mt, mk, rfl, fm_rf h (by omega)⟩
  · rw [if_neg c1] at hA
    rw [if_neg (fun q => c1 q.1)]
    simp (decide := true) (disch := omega) only [e220_0, e220_1, e220_2, e220_5, e220_8, e220_9, e220_10, e220_13, e220_16, e220_18, e220_19, e220_21, e220_24, e220_25, e220_26, e220_27, e220_30, e220_31, e220_32, e220_33, e220_36, e220_37, e220_40, e220_41, bi_s, tyX, rl1, rl2, rl4, ↓reduceIte, Option.bind_some, true_and, and_true, false_and, and_false, true_or, or_true, false_or, or_false, if_same0, ite_eq0, ite_eq0', ite_eq1, ite_eq1', or_em, or_em', ite_not, lcmp0, lcmpL, lcmpG, nI_cl_b, eb_in_b, nI_1, nI_pred, Int32.reduceToNatClampNeg, eb_u_ap, Prod.mk.injEq, not_true_eq_false, not_false_eq_true, tyM, rl21, rl25, sp_rg, sp_iI, sp_iG, sp_iS, hA, m_refuse0]
    exact ⟨nc, ns, _, J, mt, mk, rfl, fm_rf h (by omega)⟩
end

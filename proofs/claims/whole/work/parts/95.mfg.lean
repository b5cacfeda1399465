/-! the reference's faces: rounds -/
section
variable {L d nc ns r i g t : Nat} {I I' I1 : eb_A → Nat → Int32} {J J1 : eb_A → Nat → Int64} {C : Nat → Nat → Nat} {mt mk : Option Nat} {M : eb_M} {R : eb_A → Nat → Option eb_A} {w : eb_W} {x set a b : Int32} {S : eb_St}
theorem pow_dn {b n y : Nat} (hb : 0 < b) (hy : y < n) : b ^ (n - y) / b = b ^ (n - 1 - y) := by
  rw [show n - y = (n - 1 - y) + 1 by omega, Nat.pow_succ, Nat.mul_div_cancel _ hb]
theorem m_digit {b n row y : Nat} (hb : 0 < b) (hb7 : b ≤ 7) (hn : n ≤ 3) (hy : y < n) (hr : row ≤ 100000) : nI (b ^ (n - y)) / nI b = nI (b ^ (n - 1 - y)) ∧ ¬ nI b = 0 ∧ ¬ nI (b ^ (n - 1 - y)) = 0 ∧ nI row / nI (b ^ (n - 1 - y)) = nI (row / b ^ (n - 1 - y)) ∧ nI (row / b ^ (n - 1 - y)) - nI (row / b ^ (n - 1 - y)) / nI b * nI b = nI (sp_dig b n row y) := by
  have hp := pow_small (b := b) (m := n - 1 - y) (by omega) (by omega)
  have hp2 := pow_small (b := b) (m := n - y) (by omega) (by omega)
  have hp0 : 0 < b ^ (n - 1 - y) := pow_pos7 hb
  have hdl : row / b ^ (n - 1 - y) ≤ row := Nat.div_le_self _ _
  refine ⟨?_, nI_ne0 hb (by omega), nI_ne0 hp0 (by omega), pk_div (by omega) hp0 (by omega), pk_rem (by omega) hb (by omega)⟩
  rw [pk_div (by omega) hb (by omega), pow_dn hb hy]
theorem m_roundYears (h9 : I (21, 0, 0) 9 = nI w.1) (ht : ¬ t = 0) (h : eb_RM I t w) (hw : sp_ok w) {n row : Nat} (hn : n ≤ 3) (hr : row ≤ 100000) {o2 o8 : Option eb_V} : ∃ I' o5' o8', eb_E L (d + 8) 232 46 [some (zr (21, 0, 0)), some (zi (nI n)), o2, some (zi (nI row)), some (zr (21, t, 0)), some (zi (nI ((w.1 + 1) ^ n))), some (zi 0), some (zi 0), o8] [] (nc, ns, I, J, eb_RL C mt mk) = eb_E L (d + 8) 232 122 [some (zr (21, 0, 0)), some (zi (nI n)), o2, some (zi (nI row)), some (zr (21, t, 0)), o5', some (zi (sp_rj w n row)), some (zi (nI n)), o8'] [] (nc, ns, I', J, eb_RL C mt mk) ∧ eb_gv t I I' := by
  have hw1 := hw.1
  have hN1 : nI w.1 + 1 = nI (w.1 + 1) := nI_add _ 1
  unfold sp_rj
  generalize hds : sp_dig (w.1 + 1) n row = ds
  have hdl : ∀ y, ds y ≤ w.1 := fun y => by rw [← hds]; exact Nat.le_of_lt_succ (sp_dig_lt (by omega))
  obtain ⟨T, e, e1, e2, e3⟩ := eb_loop (α := Int32 × (eb_A → Nat → Int32) × Option eb_V) (n := n) (s0 := (0, I, o8))
    (F := fun y s => eb_E L (d + 8) 232 46 [some (zr (21, 0, 0)), some (zi (nI n)), o2, some (zi (nI row)), some (zr (21, t, 0)), some (zi (nI ((w.1 + 1) ^ (n - y)))), some (zi s.1), some (zi (nI y)), s.2.2] [] (nc, ns, s.2.1, J, eb_RL C mt mk))
    (P := fun y s => s.1 = (sp_rnd w ds y).1 ∧ eb_RM s.2.1 t (sp_rnd w ds y).2 ∧ eb_gv t I s.2.1)
    ⟨rfl, h, eb_gv_rf⟩ (by
      intro y s hy hP
      obtain ⟨s1, I1, o8⟩ := s
      obtain ⟨h1, h2, h3⟩ := hP
      have h1 : s1 = (sp_rnd w ds y).1 := h1
      have h2 : eb_RM I1 t (sp_rnd w ds y).2 := h2
      have h3 : eb_gv t I I1 := h3
      obtain ⟨o1, o3, o4⟩ := sp_rnd_ok (ds := ds) hw hdl y
      have k9 : I1 (21, 0, 0) 9 = nI w.1 := (gv_0 h3 ht _ _ rfl).trans h9
      obtain ⟨d1, d2, d3, d4, d5⟩ := m_digit (b := w.1 + 1) (row := row) (by omega) (by omega) hn hy hr
      rw [hds] at d5
      have hsub : n - 1 - y = n - (y + 1) := by omega
      rw [hsub] at d1 d3 d4 d5
      have okA := sp_ok_ahead (c := ds y) o1 (by rw [o3]; exact hdl y)
      have hs1 : (sp_rnd w ds (y + 1)).1 = (sp_rnd w ds y).1 + (sp_years (sp_ahead (sp_rnd w ds y).2 (ds y)) 1).1 := rfl
      have hs2 : (sp_rnd w ds (y + 1)).2 = sp_at (sp_ahead (sp_rnd w ds y).2 (ds y)) 1 := rfl
      rw [e232_46]
      by_cases c : ds y = 0
      · have hio : nI (ds y) - 1 = -1 := by rw [c]; rfl
        have ha : sp_ahead (sp_rnd w ds y).2 (ds y) = (sp_rnd w ds y).2 := if_pos c
        rw [ha] at okA hs1 hs2
        obtain ⟨I2, t1, t2, t3⟩ := m_joyIn0 (L := L) (d := d + 1) (nc := nc) (ns := ns) (J := J) (C := C) (mt := mt) (mk := mk) h2 okA (m := 1) (by omega)
        rw [show nI 1 = 1 from rfl] at t1
        simp (decide := true) (disch := omega) only [e232_48, e232_49, e232_52, e232_54, e232_55, e232_58, e232_59, e232_60, e232_61, e232_63, e232_64, e232_66, e232_67, e232_68, e232_71, e232_72, e232_73, e232_74, e232_75, e232_76, e232_78, e232_80, e232_81, e232_84, e232_86, e232_89, e232_91, e232_92, e232_93, e232_95, e232_98, e232_100, e232_101, e232_102, e232_103, e232_104, e232_106, e232_108, e232_109, e232_110, e232_113, e232_114, e232_116, e232_119, bi_s, tyX, rl1, rl2, rl4, ↓reduceIte, Option.bind_some, true_and, and_true, false_and, and_false, true_or, or_true, false_or, or_false, if_same0, ite_eq0, ite_eq0', ite_eq1, ite_eq1', or_em, or_em', ite_not, lcmp0, lcmpL, lcmpG, nI_cl_b, eb_in_b, nI_1, nI_pred, Int32.reduceToNatClampNeg, eb_u_ap, Prod.mk.injEq, not_true_eq_false, not_false_eq_true, tyM, rl21, rl25, sp_rg, sp_iI, sp_iG, sp_iS, nI_lt_b, hy, k9, hN1, d1, d2, d3, d4, d5, hio, t1]
        exact ⟨(s1 + (sp_years (sp_rnd w ds y).2 1).1, I2, some (zi (-1))), rfl, by rw [hs1, ← h1], by rw [hs2]; exact t3, eb_gv_tr h3 t2⟩
      · have hio : nI (ds y) - 1 = nI (ds y - 1) := nI_sub (a := ds y) (b := 1) (by omega)
        have hlt : ds y - 1 < w.1 := by have := hdl y; omega
        have hm1 : (nI (ds y - 1) = -1) = False := nI_m1 (by omega)
        have ha : sp_ahead (sp_rnd w ds y).2 (ds y) = sp_setI (sp_rnd w ds y).2 (ds y - 1) 4 ((sp_rnd w ds y).2.2.2.2.1 (ds y - 1) 0) := if_neg c
        rw [ha] at okA hs1 hs2
        have k0 := h2.2.1 (ds y - 1) (by rw [o3]; exact hlt) 0 (by omega)
        have r1 := RM_setI (i := ds y - 1) (f := 4) (v := (sp_rnd w ds y).2.2.2.2.1 (ds y - 1) 0) h2
        obtain ⟨I2, t1, t2, t3⟩ := m_joyIn0 (L := L) (d := d + 1) (nc := nc) (ns := ns) (J := J) (C := C) (mt := mt) (mk := mk) r1.1 okA (m := 1) (by omega)
        rw [show nI 1 = 1 from rfl] at t1
        simp (decide := true) (disch := omega) only [e232_48, e232_49, e232_52, e232_54, e232_55, e232_58, e232_59, e232_60, e232_61, e232_63, e232_64, e232_66, e232_67, e232_68, e232_71, e232_72, e232_73, e232_74, e232_75, e232_76, e232_78, e232_80, e232_81, e232_84, e232_86, e232_89, e232_91, e232_92, e232_93, e232_95, e232_98, e232_100, e232_101, e232_102, e232_103, e232_104, e232_106, e232_108, e232_109, e232_110, e232_113, e232_114, e232_116, e232_119, bi_s, tyX, rl1, rl2, rl4, ↓reduceIte, Option.bind_some, true_and, and_true, false_and, and_false, true_or, or_true, false_or, or_false, if_same0, ite_eq0, ite_eq0', ite_eq1, ite_eq1', or_em, or_em', ite_not, lcmp0, lcmpL, lcmpG, nI_cl_b, eb_in_b, nI_1, nI_pred, Int32.reduceToNatClampNeg, eb_u_ap, Prod.mk.injEq, not_true_eq_false, not_false_eq_true, tyM, rl21, rl25, sp_rg, sp_iI, sp_iG, sp_iS, nI_lt_b, hy, k9, hN1, d1, d2, d3, d4, d5, hio, hm1, k0, t1]
        exact ⟨(s1 + (sp_years (sp_setI (sp_rnd w ds y).2 (ds y - 1) 4 ((sp_rnd w ds y).2.2.2.2.1 (ds y - 1) 0)) 1).1, I2, some (zi (nI (ds y - 1)))), rfl, by rw [hs1, ← h1], by rw [hs2]; exact t3, eb_gv_tr (eb_gv_tr h3 r1.2) t2⟩)
  obtain ⟨s1, I1, o8'⟩ := T
  have e1 : s1 = (sp_rnd w ds n).1 := e1
  simp only [nI_0] at e
  rw [Nat.sub_zero] at e
  rw [e, e232_46]
  simp (decide := true) (disch := omega) only [e232_48, e232_49, e232_52, e232_54, e232_55, e232_58, e232_59, e232_60, e232_61, e232_63, e232_64, e232_66, e232_67, e232_68, e232_71, e232_72, e232_73, e232_74, e232_75, e232_76, e232_78, e232_80, e232_81, e232_84, e232_86, e232_89, e232_91, e232_92, e232_93, e232_95, e232_98, e232_100, e232_101, e232_102, e232_103, e232_104, e232_106, e232_108, e232_109, e232_110, e232_113, e232_114, e232_116, e232_119, bi_s, tyX, rl1, rl2, rl4, ↓reduceIte, Option.bind_some, true_and, and_true, false_and, and_false, true_or, or_true, false_or, or_false, if_same0, ite_eq0, ite_eq0', ite_eq1, ite_eq1', or_em, or_em', ite_not, lcmp0, lcmpL, lcmpG, nI_cl_b, eb_in_b, nI_1, nI_pred, Int32.reduceToNatClampNeg, eb_u_ap, Prod.mk.injEq, not_true_eq_false, not_false_eq_true, tyM, rl21, rl25, sp_rg, sp_iI, sp_iG, sp_iS, nI_lt_b, Nat.lt_irrefl]
  exact ⟨I1, some (zi (nI ((w.1 + 1) ^ (n - n)))), o8', by rw [e1], e3⟩
theorem m_roundStore (h9 : I (21, 0, 0) 9 = nI w.1) (hw : sp_ok w) {n row : Nat} (hn : n ≤ 3) (hr : row ≤ 100000) {o2 o4 o6 o8 : Option eb_V} : ∃ I' o5', eb_E L (d + 8) 232 147 [some (zr (21, 0, 0)), some (zi (nI n)), o2, some (zi (nI row)), o4, some (zi (nI ((w.1 + 1) ^ n))), o6, some (zi 0), o8] [] (nc, ns, I, J, eb_RL C mt mk) = eb_E L (d + 8) 232 190 [some (zr (21, 0, 0)), some (zi (nI n)), o2, some (zi (nI row)), o4, o5', o6, some (zi (nI n)), o8] [] (nc, ns, I', J, eb_RL C mt mk) ∧ (∀ a l, ¬ a = (43, 0, 0) → I' a l = I a l) ∧ ∀ y, y < n → I' (43, 0, 0) y = nI (sp_dig (w.1 + 1) n row y) - 1 := by
  have hw1 := hw.1
  have hN1 : nI w.1 + 1 = nI (w.1 + 1) := nI_add _ 1
  obtain ⟨I1, e, e1, e2⟩ := eb_loop (α := eb_A → Nat → Int32) (n := n) (s0 := I)
    (F := fun y s => eb_E L (d + 8) 232 147 [some (zr (21, 0, 0)), some (zi (nI n)), o2, some (zi (nI row)), o4, some (zi (nI ((w.1 + 1) ^ (n - y)))), o6, some (zi (nI y)), o8] [] (nc, ns, s, J, eb_RL C mt mk))
    (P := fun y s => (∀ a l, ¬ a = (43, 0, 0) → s a l = I a l) ∧ ∀ j, j < y → s (43, 0, 0) j = nI (sp_dig (w.1 + 1) n row j) - 1)
    ⟨fun _ _ _ => rfl, fun j hj => absurd hj (Nat.not_lt_zero _)⟩ (by
      intro y I1 hy hP
      obtain ⟨h1, h2⟩ := hP
      have k9 : I1 (21, 0, 0) 9 = nI w.1 := (h1 _ _ (by simp)).trans h9
      obtain ⟨d1, d2, d3, d4, d5⟩ := m_digit (b := w.1 + 1) (row := row) (by omega) (by omega) hn hy hr
      have hsub : n - 1 - y = n - (y + 1) := by omega
      rw [hsub] at d1 d3 d4 d5
      rw [e232_147]
      simp (decide := true) (disch := omega) only [e232_149, e232_150, e232_153, e232_155, e232_156, e232_159, e232_160, e232_161, e232_162, e232_164, e232_165, e232_168, e232_170, e232_171, e232_173, e232_174, e232_175, e232_178, e232_179, e232_180, e232_181, e232_182, e232_183, e232_184, e232_187, bi_s, tyX, rl1, rl2, rl4, ↓reduceIte, Option.bind_some, true_and, and_true, false_and, and_false, true_or, or_true, false_or, or_false, if_same0, ite_eq0, ite_eq0', ite_eq1, ite_eq1', or_em, or_em', ite_not, lcmp0, lcmpL, lcmpG, nI_cl_b, eb_in_b, nI_1, nI_pred, Int32.reduceToNatClampNeg, eb_u_ap, Prod.mk.injEq, not_true_eq_false, not_false_eq_true, tyM, rl21, rl25, sp_rg, sp_iI, sp_iG, sp_iS, nI_lt_b, hy, k9, hN1, d1, d2, d3, d4, d5]
      refine ⟨eb_u I1 (43, 0, 0) y (nI (sp_dig (w.1 + 1) n row y) - 1), rfl, fun a l hal => (if_neg (fun z => hal z.1)).trans (h1 a l hal), fun j hj => ?_⟩
      by_cases q : j = y
      · subst q; exact eb_u_s
      · exact (if_neg (fun z => q z.2)).trans (h2 j (by omega)))
  simp only [nI_0] at e
  rw [Nat.sub_zero] at e
  rw [e, e232_147]
  simp (decide := true) (disch := omega) only [e232_149, e232_150, e232_153, e232_155, e232_156, e232_159, e232_160, e232_161, e232_162, e232_164, e232_165, e232_168, e232_170, e232_171, e232_173, e232_174, e232_175, e232_178, e232_179, e232_180, e232_181, e232_182, e232_183, e232_184, e232_187, bi_s, tyX, rl1, rl2, rl4, ↓reduceIte, Option.bind_some, true_and, and_true, false_and, and_false, true_or, or_true, false_or, or_false, if_same0, ite_eq0, ite_eq0', ite_eq1, ite_eq1', or_em, or_em', ite_not, lcmp0, lcmpL, lcmpG, nI_cl_b, eb_in_b, nI_1, nI_pred, Int32.reduceToNatClampNeg, eb_u_ap, Prod.mk.injEq, not_true_eq_false, not_false_eq_true, tyM, rl21, rl25, sp_rg, sp_iI, sp_iG, sp_iS, nI_lt_b, Nat.lt_irrefl]
  exact ⟨I1, some (zi (nI ((w.1 + 1) ^ (n - n)))), rfl, e1, e2⟩
end

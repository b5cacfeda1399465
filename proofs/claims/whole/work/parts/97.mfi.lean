/-! the reference's faces: round, status -/
theorem rg_m1p {b : Int32} {n : Nat} (h1 : 1 ≤ n) (hn : n ≤ 100000) : (-1 ≤ b ∧ b ≤ nI n - 1) = (b = -1 ∨ 0 ≤ b ∧ b < nI n) := by
  obtain ⟨k, rfl⟩ := Nat.exists_eq_add_of_le' h1
  rw [nI_pred]
  apply propext
  have h1 : (-1 : Int32).toInt = -1 := by decide
  have h2 : (0 : Int32).toInt = 0 := by decide
  have h3 := nI_toInt (n := k) (by omega)
  have h5 := nI_toInt (n := k + 1) (by omega)
  have h4 : b = -1 ↔ b.toInt = -1 := ⟨fun q => by rw [q]; exact h1, fun q => Int32.toInt_inj.mp (q.trans h1.symm)⟩
  rw [h4, Int32.le_iff_toInt_le, Int32.le_iff_toInt_le, Int32.le_iff_toInt_le, Int32.lt_iff_toInt_lt, h1, h2, h3, h5]
  omega
section
variable {L d nc ns r i g t : Nat} {I I' I1 : eb_A → Nat → Int32} {J J1 : eb_A → Nat → Int64} {C : Nat → Nat → Nat} {mt mk : Option Nat} {M : eb_M} {R : eb_A → Nat → Option eb_A} {w : eb_W} {x set a b : Int32} {S : eb_St}
theorem mf_round (ok : sp_St S) {n a : Int32} : eb_FM L (d + 10) 233 [zi n, zi a] S (sf_round S n a).2 (zi (sf_round S n a).1) := by
  intro nc ns I J C mt mk h
  rw [h233 rfl]
  unfold sf_round
  have hn := ok.1.1
  by_cases c1 : sp_rg n 1 3
  · obtain ⟨m, hm, rfl⟩ := rg_le 3 (by omega) (by decide) c1
    have hm1 : 1 ≤ m := by
      have := c1.1
      rw [show (1 : Int32) = nI 1 from rfl, nI_le_b (by omega) (by omega)] at this
      exact this
    have hin : (-1 ≤ a ∧ a ≤ nI m - 1) = (a = -1 ∨ 0 ≤ a ∧ a < nI m) := rg_m1p hm1 (by omega)
    by_cases c2 : a = -1 ∨ 0 ≤ a ∧ a < nI m
    · rw [if_pos ⟨c1, c2⟩]
      rw [show tn (nI m) = m from nI_cl_b (by omega)]
      have c3 : -1 ≤ a ∧ a ≤ nI m - 1 := by rw [hin]; exact c2
      obtain ⟨nc1, ns1, I1, J1, mt1, e1, e2, e3, e4, e5, e6⟩ := m_findRound (L := L) (d := d) (C := C) h ok (n := m) hm1 hm
      by_cases c4 : a = -1
      · subst c4
        simp (decide := true) (disch := omega) only [e233_0, e233_1, e233_2, e233_3, e233_6, e233_9, e233_12, e233_13, e233_14, e233_17, e233_18, e233_19, e233_20, e233_21, e233_24, e233_27, e233_29, e233_30, e233_32, e233_35, e233_36, e233_37, e233_38, e233_39, e233_42, e233_43, e233_44, e233_47, e233_48, e233_51, e233_54, e233_55, e233_58, e233_59, e233_60, bi_s, tyX, rl1, rl2, rl4, ↓reduceIte, Option.bind_some, true_and, and_true, false_and, and_false, true_or, or_true, false_or, or_false, if_same0, ite_eq0, ite_eq0', ite_eq1, ite_eq1', or_em, or_em', ite_not, lcmp0, lcmpL, lcmpG, nI_cl_b, eb_in_b, nI_1, nI_pred, Int32.reduceToNatClampNeg, eb_u_ap, Prod.mk.injEq, not_true_eq_false, not_false_eq_true, tyM, rl21, rl25, sp_rg, sp_iI, sp_iG, sp_iS, m_ins, c1, c3, e1, e5]
        exact ⟨nc1, ns1, I1, J1, mt1, mk, rfl, e2, e3, e4⟩
      · obtain ⟨j, hj, rfl⟩ := rg_nat (by omega) (c2.resolve_left c4)
        have k := e6 j hj
        simp (decide := true) (disch := omega) only [e233_0, e233_1, e233_2, e233_3, e233_6, e233_9, e233_12, e233_13, e233_14, e233_17, e233_18, e233_19, e233_20, e233_21, e233_24, e233_27, e233_29, e233_30, e233_32, e233_35, e233_36, e233_37, e233_38, e233_39, e233_42, e233_43, e233_44, e233_47, e233_48, e233_51, e233_54, e233_55, e233_58, e233_59, e233_60, bi_s, tyX, rl1, rl2, rl4, ↓reduceIte, Option.bind_some, true_and, and_true, false_and, and_false, true_or, or_true, false_or, or_false, if_same0, ite_eq0, ite_eq0', ite_eq1, ite_eq1', or_em, or_em', ite_not, lcmp0, lcmpL, lcmpG, nI_cl_b, eb_in_b, nI_1, nI_pred, Int32.reduceToNatClampNeg, eb_u_ap, Prod.mk.injEq, not_true_eq_false, not_false_eq_true, tyM, rl21, rl25, sp_rg, sp_iI, sp_iG, sp_iS, m_ins, c1, c3, c4, e1, k, tn]
        exact ⟨nc1, ns1, I1, J1, mt1, mk, rfl, e2, e3, e4⟩
    · rw [if_neg (fun q => c2 q.2)]
      have c3 : ¬ (-1 ≤ a ∧ a ≤ nI m - 1) := by rw [hin]; exact c2
      simp (decide := true) (disch := omega) only [e233_0, e233_1, e233_2, e233_3, e233_6, e233_9, e233_12, e233_13, e233_14, e233_17, e233_18, e233_19, e233_20, e233_21, e233_24, e233_27, e233_29, e233_30, e233_32, e233_35, e233_36, e233_37, e233_38, e233_39, e233_42, e233_43, e233_44, e233_47, e233_48, e233_51, e233_54, e233_55, e233_58, e233_59, e233_60, bi_s, tyX, rl1, rl2, rl4, ↓reduceIte, Option.bind_some, true_and, and_true, false_and, and_false, true_or, or_true, false_or, or_false, if_same0, ite_eq0, ite_eq0', ite_eq1, ite_eq1', or_em, or_em', ite_not, lcmp0, lcmpL, lcmpG, nI_cl_b, eb_in_b, nI_1, nI_pred, Int32.reduceToNatClampNeg, eb_u_ap, Prod.mk.injEq, not_true_eq_false, not_false_eq_true, tyM, rl21, rl25, sp_rg, sp_iI, sp_iG, sp_iS, m_ins, c1, c3, m_refuse0]
      exact ⟨nc, ns, _, J, mt, mk, rfl, fm_rf h (by omega)⟩
  · rw [if_neg (fun q => c1 q.1)]
    simp (decide := true) (disch := omega) only [e233_0, e233_1, e233_2, e233_3, e233_6, e233_9, e233_12, e233_13, e233_14, e233_17, e233_18, e233_19, e233_20, e233_21, e233_24, e233_27, e233_29, e233_30, e233_32, e233_35, e233_36, e233_37, e233_38, e233_39, e233_42, e233_43, e233_44, e233_47, e233_48, e233_51, e233_54, e233_55, e233_58, e233_59, e233_60, bi_s, tyX, rl1, rl2, rl4, ↓reduceIte, Option.bind_some, true_and, and_true, false_and, and_false, true_or, or_true, false_or, or_false, if_same0, ite_eq0, ite_eq0', ite_eq1, ite_eq1', or_em, or_em', ite_not, lcmp0, lcmpL, lcmpG, nI_cl_b, eb_in_b, nI_1, nI_pred, Int32.reduceToNatClampNeg, eb_u_ap, Prod.mk.injEq, not_true_eq_false, not_false_eq_true, tyM, rl21, rl25, sp_rg, sp_iI, sp_iG, sp_iS, m_ins, c1, m_refuse0]
    exact ⟨nc, ns, _, J, mt, mk, rfl, fm_rf h (by omega)⟩
theorem m_status3 (h : eb_RM I 0 w) (hw : sp_ok w) {D : Nat} {o1 : Option eb_V} : eb_E L D 251 73 [some (zr (21, 0, 0)), o1, some (zi 0), some (zi 0)] [] (nc, ns, I, J, eb_RL C mt mk) = some (zi (sp_inbook w w.1), (nc, ns, I, J, eb_RL C mt mk)) := by
  have hn := hw.1
  have e := eb_loopA (n := w.1) (f := sp_inbook w)
    (F := fun i s => eb_E L D 251 73 [some (zr (21, 0, 0)), o1, some (zi s), some (zi (nI i))] [] (nc, ns, I, J, eb_RL C mt mk)) (by
      intro i hi
      rw [e251_73]
      have hk2 := h.2.1 i hi 4 (by omega)
      by_cases c : w.2.2.2.1 i 4 = -1
      · simp (decide := true) (disch := omega) only [e251_74, e251_75, e251_78, e251_81, e251_82, e251_83, e251_86, e251_87, e251_88, e251_89, e251_90, e251_91, e251_94, e251_95, e251_96, e251_97, e251_100, e251_101, e251_102, e251_103, e251_106, bi_s, tyX, rl1, rl2, rl4, ↓reduceIte, Option.bind_some, true_and, and_true, false_and, and_false, true_or, or_true, false_or, or_false, if_same0, ite_eq0, ite_eq0', ite_eq1, ite_eq1', or_em, or_em', ite_not, lcmp0, lcmpL, lcmpG, nI_cl_b, eb_in_b, nI_1, nI_pred, Int32.reduceToNatClampNeg, eb_u_ap, Prod.mk.injEq, not_true_eq_false, not_false_eq_true, tyM, rl21, rl25, sp_rg, sp_iI, sp_iG, sp_iS, h.1.1, nI_lt_b, hi, sp_inbook, hk2, c]
      · simp (decide := true) (disch := omega) only [e251_74, e251_75, e251_78, e251_81, e251_82, e251_83, e251_86, e251_87, e251_88, e251_89, e251_90, e251_91, e251_94, e251_95, e251_96, e251_97, e251_100, e251_101, e251_102, e251_103, e251_106, bi_s, tyX, rl1, rl2, rl4, ↓reduceIte, Option.bind_some, true_and, and_true, false_and, and_false, true_or, or_true, false_or, or_false, if_same0, ite_eq0, ite_eq0', ite_eq1, ite_eq1', or_em, or_em', ite_not, lcmp0, lcmpL, lcmpG, nI_cl_b, eb_in_b, nI_1, nI_pred, Int32.reduceToNatClampNeg, eb_u_ap, Prod.mk.injEq, not_true_eq_false, not_false_eq_true, tyM, rl21, rl25, sp_rg, sp_iI, sp_iG, sp_iS, h.1.1, nI_lt_b, hi, sp_inbook, hk2, c])
  simp only [nI_0] at e
  rw [show sp_inbook w 0 = 0 from rfl] at e
  rw [e, e251_73]
  simp (decide := true) (disch := omega) only [e251_74, e251_75, e251_78, e251_81, e251_82, e251_83, e251_86, e251_87, e251_88, e251_89, e251_90, e251_91, e251_94, e251_95, e251_96, e251_97, e251_100, e251_101, e251_102, e251_103, e251_106, e251_109, e251_110, bi_s, tyX, rl1, rl2, rl4, ↓reduceIte, Option.bind_some, true_and, and_true, false_and, and_false, true_or, or_true, false_or, or_false, if_same0, ite_eq0, ite_eq0', ite_eq1, ite_eq1', or_em, or_em', ite_not, lcmp0, lcmpL, lcmpG, nI_cl_b, eb_in_b, nI_1, nI_pred, Int32.reduceToNatClampNeg, eb_u_ap, Prod.mk.injEq, not_true_eq_false, not_false_eq_true, tyM, rl21, rl25, sp_rg, sp_iI, sp_iG, sp_iS, h.1.1, nI_lt_b, Nat.lt_irrefl]
theorem m_status4 (h : eb_RM I 0 w) (hw : sp_ok w) {D : Nat} {o1 : Option eb_V} : eb_E L D 251 113 [some (zr (21, 0, 0)), o1, some (zi 0), some (zi 0)] [] (nc, ns, I, J, eb_RL C mt mk) = some (zi (sp_sum (fun i => w.2.2.2.1 i 2) w.1), (nc, ns, I, J, eb_RL C mt mk)) := by
  have hn := hw.1
  have e := eb_loopA (n := w.1) (f := sp_sum (fun i => w.2.2.2.1 i 2))
    (F := fun i s => eb_E L D 251 113 [some (zr (21, 0, 0)), o1, some (zi s), some (zi (nI i))] [] (nc, ns, I, J, eb_RL C mt mk)) (by
      intro i hi
      rw [e251_113]
      have hk2 := h.2.1 i hi 2 (by omega)
      simp (decide := true) (disch := omega) only [e251_114, e251_115, e251_118, e251_121, e251_122, e251_123, e251_126, e251_127, e251_128, e251_129, e251_130, e251_131, e251_132, e251_135, bi_s, tyX, rl1, rl2, rl4, ↓reduceIte, Option.bind_some, true_and, and_true, false_and, and_false, true_or, or_true, false_or, or_false, if_same0, ite_eq0, ite_eq0', ite_eq1, ite_eq1', or_em, or_em', ite_not, lcmp0, lcmpL, lcmpG, nI_cl_b, eb_in_b, nI_1, nI_pred, Int32.reduceToNatClampNeg, eb_u_ap, Prod.mk.injEq, not_true_eq_false, not_false_eq_true, tyM, rl21, rl25, sp_rg, sp_iI, sp_iG, sp_iS, h.1.1, nI_lt_b, hi, sp_sum, hk2])
  simp only [nI_0] at e
  rw [show sp_sum (fun i => w.2.2.2.1 i 2) 0 = 0 from rfl] at e
  rw [e, e251_113]
  simp (decide := true) (disch := omega) only [e251_114, e251_115, e251_118, e251_121, e251_122, e251_123, e251_126, e251_127, e251_128, e251_129, e251_130, e251_131, e251_132, e251_135, e251_138, e251_139, bi_s, tyX, rl1, rl2, rl4, ↓reduceIte, Option.bind_some, true_and, and_true, false_and, and_false, true_or, or_true, false_or, or_false, if_same0, ite_eq0, ite_eq0', ite_eq1, ite_eq1', or_em, or_em', ite_not, lcmp0, lcmpL, lcmpG, nI_cl_b, eb_in_b, nI_1, nI_pred, Int32.reduceToNatClampNeg, eb_u_ap, Prod.mk.injEq, not_true_eq_false, not_false_eq_true, tyM, rl21, rl25, sp_rg, sp_iI, sp_iG, sp_iS, h.1.1, nI_lt_b, Nat.lt_irrefl]
theorem m_status5 (h : eb_RM I 0 w) (hw : sp_ok w) {D : Nat} {o1 : Option eb_V} : eb_E L D 251 142 [some (zr (21, 0, 0)), o1, some (zi 0), some (zi 0)] [] (nc, ns, I, J, eb_RL C mt mk) = some (zi (sp_sum (fun j => w.2.2.2.2 j 1) w.2.1), (nc, ns, I, J, eb_RL C mt mk)) := by
  have hn := hw.2.1
  have e := eb_loopA (n := w.2.1) (f := sp_sum (fun j => w.2.2.2.2 j 1))
    (F := fun i s => eb_E L D 251 142 [some (zr (21, 0, 0)), o1, some (zi s), some (zi (nI i))] [] (nc, ns, I, J, eb_RL C mt mk)) (by
      intro i hi
      rw [e251_142]
      have hk2 := h.2.2 i hi 1 (by omega)
      simp (decide := true) (disch := omega) only [e251_143, e251_144, e251_147, e251_150, e251_151, e251_152, e251_155, e251_156, e251_157, e251_158, e251_159, e251_160, e251_161, e251_164, bi_s, tyX, rl1, rl2, rl4, ↓reduceIte, Option.bind_some, true_and, and_true, false_and, and_false, true_or, or_true, false_or, or_false, if_same0, ite_eq0, ite_eq0', ite_eq1, ite_eq1', or_em, or_em', ite_not, lcmp0, lcmpL, lcmpG, nI_cl_b, eb_in_b, nI_1, nI_pred, Int32.reduceToNatClampNeg, eb_u_ap, Prod.mk.injEq, not_true_eq_false, not_false_eq_true, tyM, rl21, rl25, sp_rg, sp_iI, sp_iG, sp_iS, h.1.2.1, nI_lt_b, hi, sp_sum, hk2])
  simp only [nI_0] at e
  rw [show sp_sum (fun j => w.2.2.2.2 j 1) 0 = 0 from rfl] at e
  rw [e, e251_142]
  simp (decide := true) (disch := omega) only [e251_143, e251_144, e251_147, e251_150, e251_151, e251_152, e251_155, e251_156, e251_157, e251_158, e251_159, e251_160, e251_161, e251_164, e251_167, e251_168, bi_s, tyX, rl1, rl2, rl4, ↓reduceIte, Option.bind_some, true_and, and_true, false_and, and_false, true_or, or_true, false_or, or_false, if_same0, ite_eq0, ite_eq0', ite_eq1, ite_eq1', or_em, or_em', ite_not, lcmp0, lcmpL, lcmpG, nI_cl_b, eb_in_b, nI_1, nI_pred, Int32.reduceToNatClampNeg, eb_u_ap, Prod.mk.injEq, not_true_eq_false, not_false_eq_true, tyM, rl21, rl25, sp_rg, sp_iI, sp_iG, sp_iS, h.1.2.1, nI_lt_b, Nat.lt_irrefl]
theorem m_status9 (h : eb_MS S I J nc ns mt mk) (ok : sp_St S) {D : Nat} {o1 : Option eb_V} : eb_E L D 251 186 [some (zr (21, 0, 0)), o1, some (zi 0), some (zi 0)] [] (nc, ns, I, J, eb_RL C mt mk) = some (zi (sp_sum (fun s => if ss_h S s = -1 then 0 else 1) 8), (nc, ns, I, J, eb_RL C mt mk)) := by
  have e := eb_loopA (n := 8) (f := sp_sum (fun s => if ss_h S s = -1 then 0 else 1))
    (F := fun i s => eb_E L D 251 186 [some (zr (21, 0, 0)), o1, some (zi s), some (zi (nI i))] [] (nc, ns, I, J, eb_RL C mt mk)) (by
      intro i hi
      obtain ⟨g0, g1, g2⟩ := h.2.2.2.1 i hi
      have hb : (nI i < 8) = True := by rw [show (8 : Int32) = nI 8 from rfl, nI_lt_b (by omega) (by omega)]; simp; omega
      have hs : sp_sum (fun s => if ss_h S s = -1 then (0 : Int32) else 1) (i + 1) = sp_sum (fun s => if ss_h S s = -1 then (0 : Int32) else 1) i + (if ss_h S i = -1 then 0 else 1) := rfl
      rw [e251_186]
      rcases St_held ok hi with ⟨q, -⟩ | ⟨q, -, -, q2⟩ | ⟨g, -, -, -, q, q2⟩
      · have b := g0 q
        rw [if_pos q] at hs
        simp (decide := true) (disch := omega) only [e251_187, e251_189, e251_192, e251_193, e251_194, e251_197, e251_198, e251_199, e251_202, e251_203, e251_206, e251_207, e251_208, e251_209, e251_212, bi_s, tyX, rl1, rl2, rl4, ↓reduceIte, Option.bind_some, true_and, and_true, false_and, and_false, true_or, or_true, false_or, or_false, if_same0, ite_eq0, ite_eq0', ite_eq1, ite_eq1', or_em, or_em', ite_not, lcmp0, lcmpL, lcmpG, nI_cl_b, eb_in_b, nI_1, nI_pred, Int32.reduceToNatClampNeg, eb_u_ap, Prod.mk.injEq, not_true_eq_false, not_false_eq_true, tyM, rl21, rl25, sp_rg, sp_iI, sp_iG, sp_iS, hb, b, hs]
      · have b := (g1 q).1
        rw [if_neg q2] at hs
        simp (decide := true) (disch := omega) only [e251_187, e251_189, e251_192, e251_193, e251_194, e251_197, e251_198, e251_199, e251_202, e251_203, e251_206, e251_207, e251_208, e251_209, e251_212, bi_s, tyX, rl1, rl2, rl4, ↓reduceIte, Option.bind_some, true_and, and_true, false_and, and_false, true_or, or_true, false_or, or_false, if_same0, ite_eq0, ite_eq0', ite_eq1, ite_eq1', or_em, or_em', ite_not, lcmp0, lcmpL, lcmpG, nI_cl_b, eb_in_b, nI_1, nI_pred, Int32.reduceToNatClampNeg, eb_u_ap, Prod.mk.injEq, not_true_eq_false, not_false_eq_true, tyM, rl21, rl25, sp_rg, sp_iI, sp_iG, sp_iS, hb, b, hs]
      · have b := (g2 q).1
        rw [if_neg q2] at hs
        simp (decide := true) (disch := omega) only [e251_187, e251_189, e251_192, e251_193, e251_194, e251_197, e251_198, e251_199, e251_202, e251_203, e251_206, e251_207, e251_208, e251_209, e251_212, bi_s, tyX, rl1, rl2, rl4, ↓reduceIte, Option.bind_some, true_and, and_true, false_and, and_false, true_or, or_true, false_or, or_false, if_same0, ite_eq0, ite_eq0', ite_eq1, ite_eq1', or_em, or_em', ite_not, lcmp0, lcmpL, lcmpG, nI_cl_b, eb_in_b, nI_1, nI_pred, Int32.reduceToNatClampNeg, eb_u_ap, Prod.mk.injEq, not_true_eq_false, not_false_eq_true, tyM, rl21, rl25, sp_rg, sp_iI, sp_iG, sp_iS, hb, b, hs])
  simp only [nI_0] at e
  rw [show sp_sum (fun s => if ss_h S s = -1 then (0 : Int32) else 1) 0 = 0 from rfl] at e
  have hb : nI 8 = 8 := rfl
  rw [e, e251_186]
  simp (decide := true) (disch := omega) only [e251_187, e251_189, e251_192, e251_193, e251_194, e251_197, e251_198, e251_199, e251_202, e251_203, e251_206, e251_207, e251_208, e251_209, e251_212, e251_215, e251_216, bi_s, tyX, rl1, rl2, rl4, ↓reduceIte, Option.bind_some, true_and, and_true, false_and, and_false, true_or, or_true, false_or, or_false, if_same0, ite_eq0, ite_eq0', ite_eq1, ite_eq1', or_em, or_em', ite_not, lcmp0, lcmpL, lcmpG, nI_cl_b, eb_in_b, nI_1, nI_pred, Int32.reduceToNatClampNeg, eb_u_ap, Prod.mk.injEq, not_true_eq_false, not_false_eq_true, tyM, rl21, rl25, sp_rg, sp_iI, sp_iG, sp_iS, hb]
theorem mf_status (ok : sp_St S) {a : Int32} : eb_FM L (d + 8) 251 [zi a] S (sf_status S a).2 (zi (sf_status S a).1) := by
  intro nc ns I J C mt mk h
  rw [h251 rfl]
  refine ⟨nc, ns, I, J, mt, mk, ?_, fm_0 h⟩
  have k7 := h.2.2.2.2.1.1
  have e0 : (sf_status S a).2 = S := rfl
  by_cases n0 : a = 0
  · subst n0; simp (decide := true) (disch := omega) only [e251_0, e251_1, e251_2, e251_3, e251_56, e251_57, e251_60, e251_61, e251_62, e251_65, e251_66, e251_67, e251_70, bi_s, tyX, rl1, rl2, rl4, ↓reduceIte, Option.bind_some, true_and, and_true, false_and, and_false, true_or, or_true, false_or, or_false, if_same0, ite_eq0, ite_eq0', ite_eq1, ite_eq1', or_em, or_em', ite_not, lcmp0, lcmpL, lcmpG, nI_cl_b, eb_in_b, nI_1, nI_pred, Int32.reduceToNatClampNeg, eb_u_ap, Prod.mk.injEq, not_true_eq_false, not_false_eq_true, tyM, rl21, rl25, sp_rg, sp_iI, sp_iG, sp_iS, eb_sw, h.1.1.1, sf_status]
  by_cases n1 : a = 1
  · subst n1; simp (decide := true) (disch := omega) only [e251_0, e251_1, e251_2, e251_3, e251_56, e251_57, e251_60, e251_61, e251_62, e251_65, e251_66, e251_67, e251_70, bi_s, tyX, rl1, rl2, rl4, ↓reduceIte, Option.bind_some, true_and, and_true, false_and, and_false, true_or, or_true, false_or, or_false, if_same0, ite_eq0, ite_eq0', ite_eq1, ite_eq1', or_em, or_em', ite_not, lcmp0, lcmpL, lcmpG, nI_cl_b, eb_in_b, nI_1, nI_pred, Int32.reduceToNatClampNeg, eb_u_ap, Prod.mk.injEq, not_true_eq_false, not_false_eq_true, tyM, rl21, rl25, sp_rg, sp_iI, sp_iG, sp_iS, eb_sw, h.1.1.2.1, sf_status]
  by_cases n2 : a = 2
  · subst n2; simp (decide := true) (disch := omega) only [e251_0, e251_1, e251_2, e251_3, e251_56, e251_57, e251_60, e251_61, e251_62, e251_65, e251_66, e251_67, e251_70, bi_s, tyX, rl1, rl2, rl4, ↓reduceIte, Option.bind_some, true_and, and_true, false_and, and_false, true_or, or_true, false_or, or_false, if_same0, ite_eq0, ite_eq0', ite_eq1, ite_eq1', or_em, or_em', ite_not, lcmp0, lcmpL, lcmpG, nI_cl_b, eb_in_b, nI_1, nI_pred, Int32.reduceToNatClampNeg, eb_u_ap, Prod.mk.injEq, not_true_eq_false, not_false_eq_true, tyM, rl21, rl25, sp_rg, sp_iI, sp_iG, sp_iS, eb_sw, h.1.1.2.2.1, sf_status]
  by_cases n3 : a = 3
  · subst n3; simp (decide := true) (disch := omega) only [e251_0, e251_1, e251_2, e251_3, e251_56, e251_57, e251_60, e251_61, e251_62, e251_65, e251_66, e251_67, e251_70, e251_71, e251_72, bi_s, tyX, rl1, rl2, rl4, ↓reduceIte, Option.bind_some, true_and, and_true, false_and, and_false, true_or, or_true, false_or, or_false, if_same0, ite_eq0, ite_eq0', ite_eq1, ite_eq1', or_em, or_em', ite_not, lcmp0, lcmpL, lcmpG, nI_cl_b, eb_in_b, nI_1, nI_pred, Int32.reduceToNatClampNeg, eb_u_ap, Prod.mk.injEq, not_true_eq_false, not_false_eq_true, tyM, rl21, rl25, sp_rg, sp_iI, sp_iG, sp_iS, eb_sw, sf_status]; exact m_status3 h.1 ok.1
  by_cases n4 : a = 4
  · subst n4; simp (decide := true) (disch := omega) only [e251_0, e251_1, e251_2, e251_3, e251_56, e251_57, e251_60, e251_61, e251_62, e251_65, e251_66, e251_67, e251_70, e251_111, e251_112, bi_s, tyX, rl1, rl2, rl4, ↓reduceIte, Option.bind_some, true_and, and_true, false_and, and_false, true_or, or_true, false_or, or_false, if_same0, ite_eq0, ite_eq0', ite_eq1, ite_eq1', or_em, or_em', ite_not, lcmp0, lcmpL, lcmpG, nI_cl_b, eb_in_b, nI_1, nI_pred, Int32.reduceToNatClampNeg, eb_u_ap, Prod.mk.injEq, not_true_eq_false, not_false_eq_true, tyM, rl21, rl25, sp_rg, sp_iI, sp_iG, sp_iS, eb_sw, sf_status]; exact m_status4 h.1 ok.1
  by_cases n5 : a = 5
  · subst n5; simp (decide := true) (disch := omega) only [e251_0, e251_1, e251_2, e251_3, e251_56, e251_57, e251_60, e251_61, e251_62, e251_65, e251_66, e251_67, e251_70, e251_140, e251_141, bi_s, tyX, rl1, rl2, rl4, ↓reduceIte, Option.bind_some, true_and, and_true, false_and, and_false, true_or, or_true, false_or, or_false, if_same0, ite_eq0, ite_eq0', ite_eq1, ite_eq1', or_em, or_em', ite_not, lcmp0, lcmpL, lcmpG, nI_cl_b, eb_in_b, nI_1, nI_pred, Int32.reduceToNatClampNeg, eb_u_ap, Prod.mk.injEq, not_true_eq_false, not_false_eq_true, tyM, rl21, rl25, sp_rg, sp_iI, sp_iG, sp_iS, eb_sw, sf_status]; exact m_status5 h.1 ok.1
  by_cases n6 : a = 6
  · subst n6; simp (decide := true) (disch := omega) only [e251_0, e251_1, e251_2, e251_3, e251_56, e251_57, e251_60, e251_61, e251_62, e251_65, e251_66, e251_67, e251_70, e251_169, e251_170, e251_173, e251_174, e251_175, e251_178, e251_179, e251_180, e251_183, bi_s, tyX, rl1, rl2, rl4, ↓reduceIte, Option.bind_some, true_and, and_true, false_and, and_false, true_or, or_true, false_or, or_false, if_same0, ite_eq0, ite_eq0', ite_eq1, ite_eq1', or_em, or_em', ite_not, lcmp0, lcmpL, lcmpG, nI_cl_b, eb_in_b, nI_1, nI_pred, Int32.reduceToNatClampNeg, eb_u_ap, Prod.mk.injEq, not_true_eq_false, not_false_eq_true, tyM, rl21, rl25, sp_rg, sp_iI, sp_iG, sp_iS, eb_sw, h.1.1.2.2.2.1, sf_status]
  by_cases n7 : a = 7
  · subst n7; simp (decide := true) (disch := omega) only [e251_0, e251_1, e251_2, e251_3, e251_56, e251_57, e251_60, e251_61, e251_62, e251_65, e251_66, e251_67, e251_70, e251_169, e251_170, e251_173, e251_174, e251_175, e251_178, e251_179, e251_180, e251_183, bi_s, tyX, rl1, rl2, rl4, ↓reduceIte, Option.bind_some, true_and, and_true, false_and, and_false, true_or, or_true, false_or, or_false, if_same0, ite_eq0, ite_eq0', ite_eq1, ite_eq1', or_em, or_em', ite_not, lcmp0, lcmpL, lcmpG, nI_cl_b, eb_in_b, nI_1, nI_pred, Int32.reduceToNatClampNeg, eb_u_ap, Prod.mk.injEq, not_true_eq_false, not_false_eq_true, tyM, rl21, rl25, sp_rg, sp_iI, sp_iG, sp_iS, eb_sw, k7, sf_status]
  by_cases n8 : a = 8
  · subst n8; simp (decide := true) (disch := omega) only [e251_0, e251_1, e251_2, e251_3, e251_56, e251_57, e251_60, e251_61, e251_62, e251_65, e251_66, e251_67, e251_70, e251_169, e251_170, e251_173, e251_174, e251_175, e251_178, e251_179, e251_180, e251_183, bi_s, tyX, rl1, rl2, rl4, ↓reduceIte, Option.bind_some, true_and, and_true, false_and, and_false, true_or, or_true, false_or, or_false, if_same0, ite_eq0, ite_eq0', ite_eq1, ite_eq1', or_em, or_em', ite_not, lcmp0, lcmpL, lcmpG, nI_cl_b, eb_in_b, nI_1, nI_pred, Int32.reduceToNatClampNeg, eb_u_ap, Prod.mk.injEq, not_true_eq_false, not_false_eq_true, tyM, rl21, rl25, sp_rg, sp_iI, sp_iG, sp_iS, eb_sw, h.1.1.2.2.2.2, sf_status]
  by_cases n9 : a = 9
  · subst n9; simp (decide := true) (disch := omega) only [e251_0, e251_1, e251_2, e251_3, e251_56, e251_57, e251_60, e251_61, e251_62, e251_65, e251_66, e251_67, e251_70, e251_184, e251_185, bi_s, tyX, rl1, rl2, rl4, ↓reduceIte, Option.bind_some, true_and, and_true, false_and, and_false, true_or, or_true, false_or, or_false, if_same0, ite_eq0, ite_eq0', ite_eq1, ite_eq1', or_em, or_em', ite_not, lcmp0, lcmpL, lcmpG, nI_cl_b, eb_in_b, nI_1, nI_pred, Int32.reduceToNatClampNeg, eb_u_ap, Prod.mk.injEq, not_true_eq_false, not_false_eq_true, tyM, rl21, rl25, sp_rg, sp_iI, sp_iG, sp_iS, eb_sw, sf_status]; exact m_status9 h ok
  have hs : (sf_status S a).1 = if sp_rg a 12 16 then ss_r S (tn a - 12) else -1 := by simp only [sf_status, n0, n1, n2, n3, n4, n5, n6, n7, n8, n9, if_false]
  rw [hs]
  by_cases c : sp_rg a 12 16
  · rw [if_pos c]
    obtain ⟨r, hr, er⟩ := rg_le 16 (by omega) (by decide) c
    have hr2 : 12 ≤ r := by
      have := c.1
      rw [er, show (12 : Int32) = nI 12 from rfl, nI_le_b (by omega) (by omega)] at this
      exact this
    have go : ∀ k, k < 5 → a = nI (12 + k) → eb_E L (d + 7) 251 0 [some (zr (21, 0, 0)), some (zi a), none, none] [] (nc, ns, I, J, eb_RL C mt mk) = some (zi (ss_r S (tn a - 12)), (nc, ns, I, J, eb_RL C mt mk)) := by
      intro k hk e
      have h5 := h.2.2.2.2.2 k hk
      have h6 : nI (12 + k) - 10 = nI (k + 2) := nI_sub (a := 12 + k) (b := 10) (by omega) ▸ by rw [show 12 + k - 10 = k + 2 by omega]
      rw [show tn a - 12 = k by rw [e, show tn (nI (12 + k)) = 12 + k from nI_cl_b (by omega)]; omega, ← h5]
      subst e
      have h7 : (nI (k + 2)).toNatClampNeg = k + 2 := nI_cl_b (by omega)
      have hk5 : k + 2 < 7 := by omega
      simp (decide := true) (disch := omega) only [e251_0, e251_1, e251_2, e251_3, e251_56, e251_57, e251_60, e251_61, e251_62, e251_65, e251_66, e251_67, e251_70, e251_217, e251_218, e251_219, e251_222, e251_225, e251_228, e251_231, e251_232, e251_235, e251_236, e251_238, e251_239, e251_240, e251_243, e251_244, bi_s, tyX, rl1, rl2, rl4, ↓reduceIte, Option.bind_some, true_and, and_true, false_and, and_false, true_or, or_true, false_or, or_false, if_same0, ite_eq0, ite_eq0', ite_eq1, ite_eq1', or_em, or_em', ite_not, lcmp0, lcmpL, lcmpG, nI_cl_b, eb_in_b, nI_1, nI_pred, Int32.reduceToNatClampNeg, eb_u_ap, Prod.mk.injEq, not_true_eq_false, not_false_eq_true, tyM, rl21, rl25, sp_rg, sp_iI, sp_iG, sp_iS, eb_sw, n0, n1, n2, n3, n4, n5, n6, n7, n8, n9, m_ins, c, h6]
    exact go (r - 12) (by omega) (by rw [er, show 12 + (r - 12) = r by omega])
  · rw [if_neg c]
    simp (decide := true) (disch := omega) only [e251_0, e251_1, e251_2, e251_3, e251_56, e251_57, e251_60, e251_61, e251_62, e251_65, e251_66, e251_67, e251_70, e251_217, e251_218, e251_219, e251_222, e251_225, e251_228, e251_231, e251_232, e251_235, e251_236, e251_238, e251_239, e251_240, e251_243, e251_244, bi_s, tyX, rl1, rl2, rl4, ↓reduceIte, Option.bind_some, true_and, and_true, false_and, and_false, true_or, or_true, false_or, or_false, if_same0, ite_eq0, ite_eq0', ite_eq1, ite_eq1', or_em, or_em', ite_not, lcmp0, lcmpL, lcmpG, nI_cl_b, eb_in_b, nI_1, nI_pred, Int32.reduceToNatClampNeg, eb_u_ap, Prod.mk.injEq, not_true_eq_false, not_false_eq_true, tyM, rl21, rl25, sp_rg, sp_iI, sp_iG, sp_iS, eb_sw, n0, n1, n2, n3, n4, n5, n6, n7, n8, n9, m_ins, c]
end

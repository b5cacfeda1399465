/-! the reference's faces: bearing; two books -/
section
variable {L d nc ns r i g t : Nat} {I I' I1 : eb_A → Nat → Int32} {J J1 : eb_A → Nat → Int64} {C : Nat → Nat → Nat} {mt mk : Option Nat} {M : eb_M} {R : eb_A → Nat → Option eb_A} {w : eb_W} {x : Int32} {S : eb_St} {N : eb_N} {said : Nat → Int32}
theorem mf_bears (ok : sp_St S) {a b n c : Int32} : eb_FM L (d + 9) 238 [zi a, zi b, zi n, zi c] S (sf_bears S a b n c).2 (zi (sf_bears S a b n c).1) := by
  intro nc ns I J C mt mk h
  rw [h238 rfl]
  unfold sf_bears
  have hG := m_isGoer (L := L) (d := d + 6) (nc := nc) (ns := ns) (J := J) (C := C) (mt := mt) (mk := mk) (x := a) h.1 ok.1
  have hI := m_isInn (L := L) (d := d + 6) (nc := nc) (ns := ns) (J := J) (C := C) (mt := mt) (mk := mk) (x := b) h.1 ok.1
  have hn1 := ok.1.1
  have hn2 := ok.1.2.1
  by_cases c1 : sp_iG S.1 a
  · rw [if_pos c1] at hG
    by_cases c2 : sp_iI S.1 b
    · rw [if_pos c2] at hI
      by_cases c3 : sp_rg n 1 12
      · by_cases c4 : sp_rg c 0 100
        · rw [if_pos ⟨c1, c2, c3, c4⟩]
          obtain ⟨g, hg, rfl⟩ := rg_nat (by omega) c1
          obtain ⟨i, hi, rfl⟩ := rg_nat (by omega) c2
          obtain ⟨m, hm, rfl⟩ := rg_12 c3
          rw [show tn (nI i) = i from nI_cl_b (by omega), show tn (nI g) = g from nI_cl_b (by omega), show tn (nI m) = m from nI_cl_b (by omega)]
          generalize hp : (fun h => sp_stays (sp_setG S.1 g 1 (nI h)) i c m) = p
          simp (decide := true) (disch := omega) only [e238_0, e238_1, e238_2, e238_5, e238_8, e238_9, e238_10, e238_13, e238_16, e238_17, e238_20, e238_23, e238_25, e238_26, e238_27, e238_30, e238_33, e238_36, e238_37, e238_39, e238_42, e238_43, e238_45, bi_s, tyX, rl1, rl2, rl4, ↓reduceIte, Option.bind_some, true_and, and_true, false_and, and_false, true_or, or_true, false_or, or_false, if_same0, ite_eq0, ite_eq0', ite_eq1, ite_eq1', or_em, or_em', ite_not, lcmp0, lcmpL, lcmpG, nI_cl_b, eb_in_b, nI_1, nI_pred, Int32.reduceToNatClampNeg, eb_u_ap, Prod.mk.injEq, not_true_eq_false, not_false_eq_true, tyM, rl21, rl25, sp_rg, sp_iI, sp_iG, sp_iS, hG, hI, m_isYears, c3, m_ins, c4]
          have key := eb_loopE (α := (Nat × Nat × (eb_A → Nat → Int32) × (eb_A → Nat → Int64) × Option Nat) × Option eb_V × Option eb_V × Option eb_V) (n := 30) (s0 := ((nc, ns, I, J, mt), none, none, none))
            (F := fun y s => eb_E L (d + 8) 238 47 [some (zr (21, 0, 0)), some (zi (nI g)), some (zi (nI i)), some (zi (nI m)), some (zi c), some (zi (nI (30 - y))), s.2.1, s.2.2.1, s.2.2.2] [] (s.1.1, s.1.2.1, s.1.2.2.1, s.1.2.2.2.1, eb_RL C s.1.2.2.2.2 mk))
            (P := fun y s => (eb_MS S s.1.2.2.1 s.1.2.2.2.1 s.1.1 s.1.2.1 s.1.2.2.2.2 mk ∧ eb_fM I s.1.2.2.1 ∧ eb_fN J s.1.2.2.2.1) ∧ sp_lst1 p (30 - y) = sp_lst1 p 30)
            (Q := fun r => ∃ nc' ns' I' J' mt' mk', r = some (zi (sp_lst1 p 30), (nc', ns', I', J', eb_RL C mt' mk')) ∧ eb_MS S I' J' nc' ns' mt' mk' ∧ eb_fM I I' ∧ eb_fN J J')
            ⟨⟨h, eb_fM_rf, eb_fN_rf⟩, rfl⟩ (by
              intro y s hy hP
              obtain ⟨⟨nc0, ns0, I0, J0, mt0⟩, o6, o7, o8⟩ := s
              obtain ⟨⟨h1, h4, h5⟩, h2⟩ := hP
              have h1 : eb_MS S I0 J0 nc0 ns0 mt0 mk := h1
              have h4 : eb_fM I I0 := h4
              have h5 : eb_fN J J0 := h5
              obtain ⟨t, nc1, ns1, I1, J1, f1, f2, f3, f4, f5⟩ := m_fresh (L := L) (d := d + 4) (C := C) h1 ok
              have h30 : 30 - y = (30 - (y + 1)) + 1 := by omega
              generalize hz : 30 - (y + 1) = z at h30
              rw [h30] at h2
              have r1 := RM_setG (i := g) (f := 1) (v := nI (z + 1)) f3
              have ok1 : sp_ok (sp_setG S.1 g 1 (nI (z + 1))) := ok_setG ok.1 (fun q => okG_1 q (nI_rg (lo := 1) (hi := 30) ⟨by omega, by omega⟩ (by omega)))
              have hpy : p (z + 1) = sp_stays (sp_setG S.1 g 1 (nI (z + 1))) i c m := by rw [← hp]
              have hmono : ∀ k, k ≤ m → (sp_setG S.1 g 1 (nI (z + 1))).1 = S.1.1 := fun _ _ => rfl
              have h2 : (if p (z + 1) = true then nI (z + 1) else sp_lst1 p z) = sp_lst1 p 30 := h2
              have hb : (nI (z + 1) < 1) = False := by rw [show (1 : Int32) = nI 1 from rfl, nI_lt_b (by omega) (by omega)]; simp
              show (∃ s' : (Nat × Nat × (eb_A → Nat → Int32) × (eb_A → Nat → Int64) × Option Nat) × Option eb_V × Option eb_V × Option eb_V, eb_E L (d + 8) 238 47 [some (zr (21, 0, 0)), some (zi (nI g)), some (zi (nI i)), some (zi (nI m)), some (zi c), some (zi (nI (30 - y))), o6, o7, o8] [] (nc0, ns0, I0, J0, eb_RL C mt0 mk) = _ ∧ _) ∨ _
              rw [h30, e238_47]
              simp (decide := true) (disch := omega) only [e238_49, e238_50, e238_53, e238_54, e238_57, e238_59, e238_61, e238_64, e238_65, e238_66, e238_67, e238_69, e238_70, e238_71, e238_73, e238_74, bi_s, tyX, rl1, rl2, rl4, ↓reduceIte, Option.bind_some, true_and, and_true, false_and, and_false, true_or, or_true, false_or, or_false, if_same0, ite_eq0, ite_eq0', ite_eq1, ite_eq1', or_em, or_em', ite_not, lcmp0, lcmpL, lcmpG, nI_cl_b, eb_in_b, nI_1, nI_pred, Int32.reduceToNatClampNeg, eb_u_ap, Prod.mk.injEq, not_true_eq_false, not_false_eq_true, tyM, rl21, rl25, sp_rg, sp_iI, sp_iG, sp_iS, hb, f1]
              generalize hw1 : sp_setG S.1 g 1 (nI (z + 1)) = w1 at r1 ok1 hpy
              have hw1n : w1.1 = S.1.1 := by rw [← hw1]; rfl
              obtain ⟨T, e, e1, e2, e3⟩ := eb_loop (α := Int32 × (eb_A → Nat → Int32)) (n := m) (s0 := (1, eb_u I1 (34, t, g) 1 (nI (z + 1))))
                (F := fun k s => eb_E L (d + 8) 238 76 [some (zr (21, 0, 0)), some (zi (nI g)), some (zi (nI i)), some (zi (nI m)), some (zi c), some (zi (nI (z + 1))), some (zr (21, t, 0)), some (zi s.1), some (zi (nI k))] [] (nc1, ns1, s.2, J1, eb_RL C (some t) mk))
                (P := fun k s => s.1 = (if sp_stays w1 i c k = true then 1 else 0) ∧ eb_gv t I1 s.2 ∧ eb_RM s.2 t (sp_at w1 k))
                ⟨rfl, r1.2, r1.1⟩ (by
                  intro k s hk hP
                  obtain ⟨u1, I2⟩ := s
                  obtain ⟨g1, g2, g3⟩ := hP
                  have g1 : u1 = (if sp_stays w1 i c k = true then 1 else 0) := g1
                  have g3 : eb_RM I2 t (sp_at w1 k) := g3
                  obtain ⟨I3, a1, a2, a3, -⟩ := m_oneYear (L := L) (d := d + 2) (nc := nc1) (ns := ns1) (J := J1) (C := C) (mt := some t) (mk := mk) g3 ok1
                  have k0 := a3.2.1 i (by rw [(sp_years_n (w := w1) (m := k + 1)).1, hw1n]; exact hi) 0 (by omega)
                  have hs : sp_stays w1 i c (k + 1) = (sp_stays w1 i c k && decide (c ≤ (sp_at w1 (k + 1)).2.2.2.1 i 0)) := rfl
                  rw [e238_76]
                  by_cases q1 : sp_stays w1 i c k = true
                  · rw [if_pos q1] at g1
                    by_cases q2 : (sp_at w1 (k + 1)).2.2.2.1 i 0 < c
                    · rw [q1, decide_eq_false (Int32.not_le.mpr q2)] at hs
                      simp (decide := true) (disch := omega) only [e238_78, e238_79, e238_82, e238_84, e238_87, e238_89, e238_91, e238_94, e238_95, e238_96, e238_97, e238_98, e238_100, e238_103, e238_104, e238_107, e238_108, e238_109, e238_111, e238_114, bi_s, tyX, rl1, rl2, rl4, ↓reduceIte, Option.bind_some, true_and, and_true, false_and, and_false, true_or, or_true, false_or, or_false, if_same0, ite_eq0, ite_eq0', ite_eq1, ite_eq1', or_em, or_em', ite_not, lcmp0, lcmpL, lcmpG, nI_cl_b, eb_in_b, nI_1, nI_pred, Int32.reduceToNatClampNeg, eb_u_ap, Prod.mk.injEq, not_true_eq_false, not_false_eq_true, tyM, rl21, rl25, sp_rg, sp_iI, sp_iG, sp_iS, nI_lt_b, hk, a1, k0, q2, g1, land11]
                      exact ⟨(0, I3), rfl, by rw [hs]; rfl, eb_gv_tr g2 a2, a3⟩
                    · rw [q1, decide_eq_true (Int32.not_lt.mp q2)] at hs
                      simp (decide := true) (disch := omega) only [e238_78, e238_79, e238_82, e238_84, e238_87, e238_89, e238_91, e238_94, e238_95, e238_96, e238_97, e238_98, e238_100, e238_103, e238_104, e238_107, e238_108, e238_109, e238_111, e238_114, bi_s, tyX, rl1, rl2, rl4, ↓reduceIte, Option.bind_some, true_and, and_true, false_and, and_false, true_or, or_true, false_or, or_false, if_same0, ite_eq0, ite_eq0', ite_eq1, ite_eq1', or_em, or_em', ite_not, lcmp0, lcmpL, lcmpG, nI_cl_b, eb_in_b, nI_1, nI_pred, Int32.reduceToNatClampNeg, eb_u_ap, Prod.mk.injEq, not_true_eq_false, not_false_eq_true, tyM, rl21, rl25, sp_rg, sp_iI, sp_iG, sp_iS, nI_lt_b, hk, a1, k0, q2, g1, land11]
                      exact ⟨(1, I3), rfl, by rw [hs]; rfl, eb_gv_tr g2 a2, a3⟩
                  · rw [if_neg q1] at g1
                    rw [Bool.eq_false_iff.mpr q1, Bool.false_and] at hs
                    by_cases q2 : (sp_at w1 (k + 1)).2.2.2.1 i 0 < c
                    · simp (decide := true) (disch := omega) only [e238_78, e238_79, e238_82, e238_84, e238_87, e238_89, e238_91, e238_94, e238_95, e238_96, e238_97, e238_98, e238_100, e238_103, e238_104, e238_107, e238_108, e238_109, e238_111, e238_114, bi_s, tyX, rl1, rl2, rl4, ↓reduceIte, Option.bind_some, true_and, and_true, false_and, and_false, true_or, or_true, false_or, or_false, if_same0, ite_eq0, ite_eq0', ite_eq1, ite_eq1', or_em, or_em', ite_not, lcmp0, lcmpL, lcmpG, nI_cl_b, eb_in_b, nI_1, nI_pred, Int32.reduceToNatClampNeg, eb_u_ap, Prod.mk.injEq, not_true_eq_false, not_false_eq_true, tyM, rl21, rl25, sp_rg, sp_iI, sp_iG, sp_iS, nI_lt_b, hk, a1, k0, q2, g1, land11]
                      exact ⟨(0, I3), rfl, by rw [hs]; rfl, eb_gv_tr g2 a2, a3⟩
                    · simp (decide := true) (disch := omega) only [e238_78, e238_79, e238_82, e238_84, e238_87, e238_89, e238_91, e238_94, e238_95, e238_96, e238_97, e238_98, e238_100, e238_103, e238_104, e238_107, e238_108, e238_109, e238_111, e238_114, bi_s, tyX, rl1, rl2, rl4, ↓reduceIte, Option.bind_some, true_and, and_true, false_and, and_false, true_or, or_true, false_or, or_false, if_same0, ite_eq0, ite_eq0', ite_eq1, ite_eq1', or_em, or_em', ite_not, lcmp0, lcmpL, lcmpG, nI_cl_b, eb_in_b, nI_1, nI_pred, Int32.reduceToNatClampNeg, eb_u_ap, Prod.mk.injEq, not_true_eq_false, not_false_eq_true, tyM, rl21, rl25, sp_rg, sp_iI, sp_iG, sp_iS, nI_lt_b, hk, a1, k0, q2, g1, land11]
                      exact ⟨(0, I3), rfl, by rw [hs]; rfl, eb_gv_tr g2 a2, a3⟩)
              obtain ⟨u1, I2⟩ := T
              have e1 : u1 = (if sp_stays w1 i c m = true then 1 else 0) := e1
              have e2 : eb_gv t I1 I2 := e2
              simp only [nI_0] at e
              have fin := fm_t f2 e2 (eb_fM_tr h4 f4) (eb_fN_tr h5 f5)
              rw [← hpy] at e1
              rw [e, e238_76]
              by_cases cc : p (z + 1) = true
              · right
                rw [if_pos cc] at h2 e1
                simp (decide := true) (disch := omega) only [e238_78, e238_79, e238_82, e238_84, e238_87, e238_89, e238_91, e238_94, e238_95, e238_96, e238_97, e238_98, e238_100, e238_103, e238_104, e238_107, e238_108, e238_109, e238_111, e238_114, e238_117, e238_119, e238_122, e238_124, e238_125, e238_128, e238_131, e238_132, bi_s, tyX, rl1, rl2, rl4, ↓reduceIte, Option.bind_some, true_and, and_true, false_and, and_false, true_or, or_true, false_or, or_false, if_same0, ite_eq0, ite_eq0', ite_eq1, ite_eq1', or_em, or_em', ite_not, lcmp0, lcmpL, lcmpG, nI_cl_b, eb_in_b, nI_1, nI_pred, Int32.reduceToNatClampNeg, eb_u_ap, Prod.mk.injEq, not_true_eq_false, not_false_eq_true, tyM, rl21, rl25, sp_rg, sp_iI, sp_iG, sp_iS, nI_lt_b, Nat.lt_irrefl, e1]
                exact ⟨nc1, ns1, I2, J1, some t, mk, by rw [← h2], fin⟩
              · left
                rw [if_neg cc] at h2 e1
                simp (decide := true) (disch := omega) only [e238_78, e238_79, e238_82, e238_84, e238_87, e238_89, e238_91, e238_94, e238_95, e238_96, e238_97, e238_98, e238_100, e238_103, e238_104, e238_107, e238_108, e238_109, e238_111, e238_114, e238_117, e238_119, e238_122, e238_124, e238_125, e238_128, e238_131, e238_132, bi_s, tyX, rl1, rl2, rl4, ↓reduceIte, Option.bind_some, true_and, and_true, false_and, and_false, true_or, or_true, false_or, or_false, if_same0, ite_eq0, ite_eq0', ite_eq1, ite_eq1', or_em, or_em', ite_not, lcmp0, lcmpL, lcmpG, nI_cl_b, eb_in_b, nI_1, nI_pred, Int32.reduceToNatClampNeg, eb_u_ap, Prod.mk.injEq, not_true_eq_false, not_false_eq_true, tyM, rl21, rl25, sp_rg, sp_iI, sp_iG, sp_iS, nI_lt_b, Nat.lt_irrefl, e1, nI_dec]
                exact ⟨((nc1, ns1, I2, J1, some t), some (zr (21, t, 0)), some (zi 0), some (zi (nI m))), rfl, fin, h2⟩) (by
              intro s hP
              obtain ⟨⟨nc0, ns0, I0, J0, mt0⟩, o6, o7, o8⟩ := s
              obtain ⟨h1, h2⟩ := hP
              have h2 : -1 = sp_lst1 p 30 := h2
              have hb : (nI (30 - 30) < 1) = True := by decide
              rw [e238_47]
              simp (decide := true) (disch := omega) only [e238_49, e238_50, e238_53, e238_54, e238_57, e238_59, e238_61, e238_64, e238_65, e238_66, e238_67, e238_69, e238_70, e238_71, e238_73, e238_74, e238_78, e238_79, e238_82, e238_84, e238_87, e238_89, e238_91, e238_94, e238_95, e238_96, e238_97, e238_98, e238_100, e238_103, e238_104, e238_107, e238_108, e238_109, e238_111, e238_114, e238_117, e238_119, e238_122, e238_124, e238_125, e238_128, e238_131, e238_132, bi_s, tyX, rl1, rl2, rl4, ↓reduceIte, Option.bind_some, true_and, and_true, false_and, and_false, true_or, or_true, false_or, or_false, if_same0, ite_eq0, ite_eq0', ite_eq1, ite_eq1', or_em, or_em', ite_not, lcmp0, lcmpL, lcmpG, nI_cl_b, eb_in_b, nI_1, nI_pred, Int32.reduceToNatClampNeg, eb_u_ap, Prod.mk.injEq, not_true_eq_false, not_false_eq_true, tyM, rl21, rl25, sp_rg, sp_iI, sp_iG, sp_iS, hb]
              exact ⟨nc0, ns0, I0, J0, mt0, mk, by rw [← h2], h1⟩)
          exact key
        · rw [if_neg (fun q => c4 q.2.2.2)]
          simp (decide := true) (disch := omega) only [e238_0, e238_1, e238_2, e238_5, e238_8, e238_9, e238_10, e238_13, e238_16, e238_17, e238_20, e238_23, e238_25, e238_26, e238_27, e238_30, e238_33, e238_36, e238_37, e238_39, e238_42, e238_43, e238_45, bi_s, tyX, rl1, rl2, rl4, ↓reduceIte, Option.bind_some, true_and, and_true, false_and, and_false, true_or, or_true, false_or, or_false, if_same0, ite_eq0, ite_eq0', ite_eq1, ite_eq1', or_em, or_em', ite_not, lcmp0, lcmpL, lcmpG, nI_cl_b, eb_in_b, nI_1, nI_pred, Int32.reduceToNatClampNeg, eb_u_ap, Prod.mk.injEq, not_true_eq_false, not_false_eq_true, tyM, rl21, rl25, sp_rg, sp_iI, sp_iG, sp_iS, hG, hI, m_isYears, c3, m_ins, c4, m_refuse0]
          exact ⟨nc, ns, _, J, mt, mk, rfl, fm_rf h (by omega)⟩
      · rw [if_neg (fun q => c3 q.2.2.1)]
        simp (decide := true) (disch := omega) only [e238_0, e238_1, e238_2, e238_5, e238_8, e238_9, e238_10, e238_13, e238_16, e238_17, e238_20, e238_23, e238_25, e238_26, e238_27, e238_30, e238_33, e238_36, e238_37, e238_39, e238_42, e238_43, e238_45, bi_s, tyX, rl1, rl2, rl4, ↓reduceIte, Option.bind_some, true_and, and_true, false_and, and_false, true_or, or_true, false_or, or_false, if_same0, ite_eq0, ite_eq0', ite_eq1, ite_eq1', or_em, or_em', ite_not, lcmp0, lcmpL, lcmpG, nI_cl_b, eb_in_b, nI_1, nI_pred, Int32.reduceToNatClampNeg, eb_u_ap, Prod.mk.injEq, not_true_eq_false, not_false_eq_true, tyM, rl21, rl25, sp_rg, sp_iI, sp_iG, sp_iS, hG, hI, m_isYears, c3, m_refuse0]
        exact ⟨nc, ns, _, J, mt, mk, rfl, fm_rf h (by omega)⟩
    · rw [if_neg c2] at hI
      rw [if_neg (fun q => c2 q.2.1)]
      simp (decide := true) (disch := omega) only [e238_0, e238_1, e238_2, e238_5, e238_8, e238_9, e238_10, e238_13, e238_16, e238_17, e238_20, e238_23, e238_25, e238_26, e238_27, e238_30, e238_33, e238_36, e238_37, e238_39, e238_42, e238_43, e238_45, bi_s, tyX, rl1, rl2, rl4, ↓reduceIte, Option.bind_some, true_and, and_true, false_and, and_false, true_or, or_true, false_or, or_false, if_same0, ite_eq0, ite_eq0', ite_eq1, ite_eq1', or_em, or_em', ite_not, lcmp0, lcmpL, lcmpG, nI_cl_b, eb_in_b, nI_1, nI_pred, Int32.reduceToNatClampNeg, eb_u_ap, Prod.mk.injEq, not_true_eq_false, not_false_eq_true, tyM, rl21, rl25, sp_rg, sp_iI, sp_iG, sp_iS, hG, hI, m_refuse0]
      exact ⟨nc, ns, _, J, mt, mk, rfl, fm_rf h (by omega)⟩
  · rw [if_neg c1] at hG
    rw [if_neg (fun q => c1 q.1)]
    simp (decide := true) (disch := omega) only [e238_0, e238_1, e238_2, e238_5, e238_8, e238_9, e238_10, e238_13, e238_16, e238_17, e238_20, e238_23, e238_25, e238_26, e238_27, e238_30, e238_33, e238_36, e238_37, e238_39, e238_42, e238_43, e238_45, bi_s, tyX, rl1, rl2, rl4, ↓reduceIte, Option.bind_some, true_and, and_true, false_and, and_false, true_or, or_true, false_or, or_false, if_same0, ite_eq0, ite_eq0', ite_eq1, ite_eq1', or_em, or_em', ite_not, lcmp0, lcmpL, lcmpG, nI_cl_b, eb_in_b, nI_1, nI_pred, Int32.reduceToNatClampNeg, eb_u_ap, Prod.mk.injEq, not_true_eq_false, not_false_eq_true, tyM, rl21, rl25, sp_rg, sp_iI, sp_iG, sp_iS, hG, m_refuse0]
    exact ⟨nc, ns, _, J, mt, mk, rfl, fm_rf h (by omega)⟩
end

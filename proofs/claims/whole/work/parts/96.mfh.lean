/-! the reference's faces: rounds; what is told of all -/
section
variable {L d nc ns r i g t : Nat} {I I' I1 : eb_A → Nat → Int32} {J J1 : eb_A → Nat → Int64} {C : Nat → Nat → Nat} {mt mk : Option Nat} {M : eb_M} {R : eb_A → Nat → Option eb_A} {w : eb_W} {x set a b : Int32} {S : eb_St}
theorem m_findRound (h : eb_MS S I J nc ns mt mk) (ok : sp_St S) {n : Nat} (hn1 : 1 ≤ n) (hn : n ≤ 3) : ∃ nc' ns' I' J' mt', eb_ev L (d + 9) 232 [zr (21, 0, 0), zi (nI n)] (nc, ns, I, J, eb_RL C mt mk) = some (zn, (nc', ns', I', J', eb_RL C mt' mk)) ∧ eb_MS S I' J' nc' ns' mt' mk ∧ eb_fM I I' ∧ eb_fN J J' ∧ I' (21, 0, 0) 32 = sp_rj S.1 n (sp_round S.1 n) ∧ ∀ y, y < n → I' (43, 0, 0) y = nI (sp_dig (S.1.1 + 1) n (sp_round S.1 n) y) - 1 := by
  have hw1 := ok.1.1
  have hN1 : nI S.1.1 + 1 = nI (S.1.1 + 1) := nI_add _ 1
  have h9 : I (21, 0, 0) 9 = nI S.1.1 := h.1.1.1
  have hps := pow_small (b := S.1.1 + 1) (m := n) (by omega) hn
  have hp0 : 0 < (S.1.1 + 1) ^ n := pow_pos7 (by omega)
  rw [h232 rfl]
  simp (decide := true) (disch := omega) only [e232_0, e232_1, e232_2, e232_3, bi_s, tyX, rl1, rl2, rl4, ↓reduceIte, Option.bind_some, true_and, and_true, false_and, and_false, true_or, or_true, false_or, or_false, if_same0, ite_eq0, ite_eq0', ite_eq1, ite_eq1', or_em, or_em', ite_not, lcmp0, lcmpL, lcmpG, nI_cl_b, eb_in_b, nI_1, nI_pred, Int32.reduceToNatClampNeg, eb_u_ap, Prod.mk.injEq, not_true_eq_false, not_false_eq_true, tyM, rl21, rl25, sp_rg, sp_iI, sp_iG, sp_iS]
  have e0 := eb_loopA (n := n) (f := fun k => nI ((S.1.1 + 1) ^ k))
    (F := fun k v => eb_E L (d + 8) 232 4 [some (zr (21, 0, 0)), some (zi (nI n)), some (zi v), some (zi (nI k)), none, none, none, none, none] [] (nc, ns, I, J, eb_RL C mt mk)) (by
      intro k hk
      have hmul : nI ((S.1.1 + 1) ^ k) * nI (S.1.1 + 1) = nI ((S.1.1 + 1) ^ (k + 1)) := by rw [nI_mul, Nat.pow_succ]
      rw [e232_4]
      simp (decide := true) (disch := omega) only [e232_5, e232_6, e232_9, e232_10, e232_11, e232_14, e232_15, e232_16, e232_17, e232_18, e232_21, bi_s, tyX, rl1, rl2, rl4, ↓reduceIte, Option.bind_some, true_and, and_true, false_and, and_false, true_or, or_true, false_or, or_false, if_same0, ite_eq0, ite_eq0', ite_eq1, ite_eq1', or_em, or_em', ite_not, lcmp0, lcmpL, lcmpG, nI_cl_b, eb_in_b, nI_1, nI_pred, Int32.reduceToNatClampNeg, eb_u_ap, Prod.mk.injEq, not_true_eq_false, not_false_eq_true, tyM, rl21, rl25, sp_rg, sp_iI, sp_iG, sp_iS, nI_lt_b, hk, h9, hN1, hmul])
  simp only [nI_0] at e0
  rw [show nI ((S.1.1 + 1) ^ 0) = 1 from rfl] at e0
  rw [e0, e232_4]
  simp (decide := true) (disch := omega) only [e232_5, e232_6, e232_9, e232_10, e232_11, e232_14, e232_15, e232_16, e232_17, e232_18, e232_21, e232_24, e232_25, bi_s, tyX, rl1, rl2, rl4, ↓reduceIte, Option.bind_some, true_and, and_true, false_and, and_false, true_or, or_true, false_or, or_false, if_same0, ite_eq0, ite_eq0', ite_eq1, ite_eq1', or_em, or_em', ite_not, lcmp0, lcmpL, lcmpG, nI_cl_b, eb_in_b, nI_1, nI_pred, Int32.reduceToNatClampNeg, eb_u_ap, Prod.mk.injEq, not_true_eq_false, not_false_eq_true, tyM, rl21, rl25, sp_rg, sp_iI, sp_iG, sp_iS, nI_lt_b, Nat.lt_irrefl]
  obtain ⟨T, e, ⟨e1, e2, e3⟩, e4⟩ := eb_loop (α := (Nat × Nat × (eb_A → Nat → Int32) × (eb_A → Nat → Int64) × Option Nat) × Option eb_V × Option eb_V × Option eb_V × Option eb_V × Option eb_V) (n := (S.1.1 + 1) ^ n) (s0 := ((nc, ns, I, J, mt), none, none, none, none, none))
    (F := fun row s => eb_E L (d + 8) 232 26 [some (zr (21, 0, 0)), some (zi (nI n)), some (zi (nI ((S.1.1 + 1) ^ n))), some (zi (nI row)), s.2.1, s.2.2.1, s.2.2.2.1, s.2.2.2.2.1, s.2.2.2.2.2] [] (s.1.1, s.1.2.1, s.1.2.2.1, s.1.2.2.2.1, eb_RL C s.1.2.2.2.2 mk))
    (P := fun row s => (eb_MS S s.1.2.2.1 s.1.2.2.2.1 s.1.1 s.1.2.1 s.1.2.2.2.2 mk ∧ eb_fM I s.1.2.2.1 ∧ eb_fN J s.1.2.2.2.1) ∧ (row = 0 ∨ ∃ b, sp_best (fun _ => true) (sp_rj S.1 n) row = some b ∧ s.1.2.2.1 (21, 0, 0) 32 = sp_rj S.1 n b ∧ ∀ y, y < n → s.1.2.2.1 (43, 0, 0) y = nI (sp_dig (S.1.1 + 1) n b y) - 1))
    ⟨⟨h, eb_fM_rf, eb_fN_rf⟩, Or.inl rfl⟩ (by
      intro row s hrow hP
      obtain ⟨⟨nc0, ns0, I0, J0, mt0⟩, o4, o5, o6, o7, o8⟩ := s
      obtain ⟨⟨h3, h4, h5⟩, hB⟩ := hP
      have h3 : eb_MS S I0 J0 nc0 ns0 mt0 mk := h3
      have h4 : eb_fM I I0 := h4
      have h5 : eb_fN J J0 := h5
      have hB : row = 0 ∨ ∃ b, sp_best (fun _ => true) (sp_rj S.1 n) row = some b ∧ I0 (21, 0, 0) 32 = sp_rj S.1 n b ∧ ∀ y, y < n → I0 (43, 0, 0) y = nI (sp_dig (S.1.1 + 1) n b y) - 1 := hB
      obtain ⟨t, nc1, ns1, I1, J1, f1, f2, f3, f4, f5, f6⟩ := m_fresh0 (L := L) (d := d + 4) (C := C) h3 ok
      have ht := ((cnt_t f2.2.2.1).1 t rfl).1
      have g9 : I1 (21, 0, 0) 9 = nI S.1.1 := f2.1.1.1
      obtain ⟨I2, p5, p8, a1, a2⟩ := m_roundYears (L := L) (d := d) (nc := nc1) (ns := ns1) (J := J1) (C := C) (mt := some t) (mk := mk) (o2 := some (zi (nI ((S.1.1 + 1) ^ n)))) (o8 := o8) g9 ht f3 ok.1 hn (row := row) (by omega)
      have fin2 := fm_t f2 a2 (eb_fM_tr h4 f4) (eb_fN_tr h5 f5)
      have hkeep : ∀ l, I2 (21, 0, 0) l = I0 (21, 0, 0) l := fun l => (gv_0 a2 ht _ _ rfl).trans (f6 _ _ rfl)
      have hkeep3 : ∀ l, I2 (43, 0, 0) l = I0 (43, 0, 0) l := fun l => (gv_0 a2 ht _ _ rfl).trans (f6 _ _ rfl)
      have g92 : eb_u I2 (21, 0, 0) 32 (sp_rj S.1 n row) (21, 0, 0) 9 = nI S.1.1 := by
        rw [show eb_u I2 (21, 0, 0) 32 (sp_rj S.1 n row) (21, 0, 0) 9 = I2 (21, 0, 0) 9 from if_neg (fun z => absurd (z.2 : (9 : Nat) = 32) (by decide)), hkeep]
        exact h3.1.1.1
      obtain ⟨I4, p5', c1, c2, c3⟩ := m_roundStore (L := L) (d := d) (nc := nc1) (ns := ns1) (J := J1) (C := C) (mt := some t) (mk := mk) (o2 := some (zi (nI ((S.1.1 + 1) ^ n)))) (o4 := some (zr (21, t, 0))) (o6 := some (zi (sp_rj S.1 n row))) (o8 := p8) g92 ok.1 hn (row := row) (by omega)
      have fin4 : eb_MS S I4 J1 nc1 ns1 (some t) mk ∧ eb_fM I I4 ∧ eb_fN J J1 := by
        obtain ⟨z1, z2⟩ := eb_MS_b (I' := I4) fin2.1 (fun a l q1 q2 => (c2 a l q1).trans (if_neg q2))
        exact ⟨z1, eb_fM_tr fin2.2.1 z2, fin2.2.2⟩
      have k324 : I4 (21, 0, 0) 32 = sp_rj S.1 n row := (c2 _ _ (by simp)).trans eb_u_s
      have hb : (nI row < nI ((S.1.1 + 1) ^ n)) = True := by rw [nI_lt_b (by omega) (by omega)]; exact eq_true hrow
      have hbest := sp_best_s (has := fun _ => true) (f := sp_rj S.1 n) (n := row)
      have take : sp_best (fun _ => true) (sp_rj S.1 n) (row + 1) = some row → ((row = 0) ∨ ∃ b0, I2 (21, 0, 0) 32 = sp_rj S.1 n b0 ∧ sp_rj S.1 n b0 < sp_rj S.1 n row) → ∃ s' : (Nat × Nat × (eb_A → Nat → Int32) × (eb_A → Nat → Int64) × Option Nat) × Option eb_V × Option eb_V × Option eb_V × Option eb_V × Option eb_V, eb_E L (d + 8) 232 26 [some (zr (21, 0, 0)), some (zi (nI n)), some (zi (nI ((S.1.1 + 1) ^ n))), some (zi (nI row)), o4, o5, o6, o7, o8] [] (nc0, ns0, I0, J0, eb_RL C mt0 mk) = eb_E L (d + 8) 232 26 [some (zr (21, 0, 0)), some (zi (nI n)), some (zi (nI ((S.1.1 + 1) ^ n))), some (zi (nI (row + 1))), s'.2.1, s'.2.2.1, s'.2.2.2.1, s'.2.2.2.2.1, s'.2.2.2.2.2] [] (s'.1.1, s'.1.2.1, s'.1.2.2.1, s'.1.2.2.2.1, eb_RL C s'.1.2.2.2.2 mk) ∧ (eb_MS S s'.1.2.2.1 s'.1.2.2.2.1 s'.1.1 s'.1.2.1 s'.1.2.2.2.2 mk ∧ eb_fM I s'.1.2.2.1 ∧ eb_fN J s'.1.2.2.2.1) ∧ (row + 1 = 0 ∨ ∃ b, sp_best (fun _ => true) (sp_rj S.1 n) (row + 1) = some b ∧ s'.1.2.2.1 (21, 0, 0) 32 = sp_rj S.1 n b ∧ ∀ y, y < n → s'.1.2.2.1 (43, 0, 0) y = nI (sp_dig (S.1.1 + 1) n b y) - 1) := by
        intro q1 q2
        refine ⟨((nc1, ns1, I4, J1, some t), some (zr (21, t, 0)), p5', some (zi (sp_rj S.1 n row)), some (zi (nI n)), p8), ?_, fin4, Or.inr ⟨row, q1, k324, c3⟩⟩
        rw [e232_26]
        simp (decide := true) (disch := omega) only [e232_27, e232_28, e232_31, e232_32, e232_35, e232_37, e232_38, e232_40, e232_41, e232_43, e232_44, bi_s, tyX, rl1, rl2, rl4, ↓reduceIte, Option.bind_some, true_and, and_true, false_and, and_false, true_or, or_true, false_or, or_false, if_same0, ite_eq0, ite_eq0', ite_eq1, ite_eq1', or_em, or_em', ite_not, lcmp0, lcmpL, lcmpG, nI_cl_b, eb_in_b, nI_1, nI_pred, Int32.reduceToNatClampNeg, eb_u_ap, Prod.mk.injEq, not_true_eq_false, not_false_eq_true, tyM, rl21, rl25, sp_rg, sp_iI, sp_iG, sp_iS, hb, f1]
        rw [a1]
        rcases q2 with q | ⟨b0, q, q3⟩
        · subst q
          simp (decide := true) (disch := omega) only [e232_122, e232_123, e232_126, e232_128, e232_129, e232_132, e232_135, e232_136, e232_138, e232_141, e232_142, e232_144, e232_145, bi_s, tyX, rl1, rl2, rl4, ↓reduceIte, Option.bind_some, true_and, and_true, false_and, and_false, true_or, or_true, false_or, or_false, if_same0, ite_eq0, ite_eq0', ite_eq1, ite_eq1', or_em, or_em', ite_not, lcmp0, lcmpL, lcmpG, nI_cl_b, eb_in_b, nI_1, nI_pred, Int32.reduceToNatClampNeg, eb_u_ap, Prod.mk.injEq, not_true_eq_false, not_false_eq_true, tyM, rl21, rl25, sp_rg, sp_iI, sp_iG, sp_iS]
          rw [c1]
          simp (decide := true) (disch := omega) only [e232_190, e232_193, bi_s, tyX, rl1, rl2, rl4, ↓reduceIte, Option.bind_some, true_and, and_true, false_and, and_false, true_or, or_true, false_or, or_false, if_same0, ite_eq0, ite_eq0', ite_eq1, ite_eq1', or_em, or_em', ite_not, lcmp0, lcmpL, lcmpG, nI_cl_b, eb_in_b, nI_1, nI_pred, Int32.reduceToNatClampNeg, eb_u_ap, Prod.mk.injEq, not_true_eq_false, not_false_eq_true, tyM, rl21, rl25, sp_rg, sp_iI, sp_iG, sp_iS]
        · have hz : (nI row = 0) = (row = 0) := by rw [show (0 : Int32) = nI 0 from rfl, nI_eq_b (by omega) (by omega)]
          by_cases z : row = 0
          · subst z
            simp (decide := true) (disch := omega) only [e232_122, e232_123, e232_126, e232_128, e232_129, e232_132, e232_135, e232_136, e232_138, e232_141, e232_142, e232_144, e232_145, bi_s, tyX, rl1, rl2, rl4, ↓reduceIte, Option.bind_some, true_and, and_true, false_and, and_false, true_or, or_true, false_or, or_false, if_same0, ite_eq0, ite_eq0', ite_eq1, ite_eq1', or_em, or_em', ite_not, lcmp0, lcmpL, lcmpG, nI_cl_b, eb_in_b, nI_1, nI_pred, Int32.reduceToNatClampNeg, eb_u_ap, Prod.mk.injEq, not_true_eq_false, not_false_eq_true, tyM, rl21, rl25, sp_rg, sp_iI, sp_iG, sp_iS]
            rw [c1]
            simp (decide := true) (disch := omega) only [e232_190, e232_193, bi_s, tyX, rl1, rl2, rl4, ↓reduceIte, Option.bind_some, true_and, and_true, false_and, and_false, true_or, or_true, false_or, or_false, if_same0, ite_eq0, ite_eq0', ite_eq1, ite_eq1', or_em, or_em', ite_not, lcmp0, lcmpL, lcmpG, nI_cl_b, eb_in_b, nI_1, nI_pred, Int32.reduceToNatClampNeg, eb_u_ap, Prod.mk.injEq, not_true_eq_false, not_false_eq_true, tyM, rl21, rl25, sp_rg, sp_iI, sp_iG, sp_iS]
          · simp (decide := true) (disch := omega) only [e232_122, e232_123, e232_126, e232_128, e232_129, e232_132, e232_135, e232_136, e232_138, e232_141, e232_142, e232_144, e232_145, bi_s, tyX, rl1, rl2, rl4, ↓reduceIte, Option.bind_some, true_and, and_true, false_and, and_false, true_or, or_true, false_or, or_false, if_same0, ite_eq0, ite_eq0', ite_eq1, ite_eq1', or_em, or_em', ite_not, lcmp0, lcmpL, lcmpG, nI_cl_b, eb_in_b, nI_1, nI_pred, Int32.reduceToNatClampNeg, eb_u_ap, Prod.mk.injEq, not_true_eq_false, not_false_eq_true, tyM, rl21, rl25, sp_rg, sp_iI, sp_iG, sp_iS, hz, z, q, q3]
            rw [c1]
            simp (decide := true) (disch := omega) only [e232_190, e232_193, bi_s, tyX, rl1, rl2, rl4, ↓reduceIte, Option.bind_some, true_and, and_true, false_and, and_false, true_or, or_true, false_or, or_false, if_same0, ite_eq0, ite_eq0', ite_eq1, ite_eq1', or_em, or_em', ite_not, lcmp0, lcmpL, lcmpG, nI_cl_b, eb_in_b, nI_1, nI_pred, Int32.reduceToNatClampNeg, eb_u_ap, Prod.mk.injEq, not_true_eq_false, not_false_eq_true, tyM, rl21, rl25, sp_rg, sp_iI, sp_iG, sp_iS]
      rcases hB with hB | ⟨b0, hB1, hB2, hB3⟩
      · refine take ?_ (Or.inl hB)
        subst hB
        rfl
      · rw [hB1] at hbest
        have hbl := (sp_best_lt hB1).1
        by_cases c : sp_rj S.1 n b0 < sp_rj S.1 n row
        · exact take (hbest.trans (if_pos ⟨rfl, c⟩)) (Or.inr ⟨b0, (hkeep 32).trans hB2, c⟩)
        · have hbest : sp_best (fun _ => true) (sp_rj S.1 n) (row + 1) = some b0 := hbest.trans (if_neg (fun z => c z.2))
          have hz : ¬ nI row = 0 := nI_ne0 (by omega) (by omega)
          have k32 := (hkeep 32).trans hB2
          refine ⟨((nc1, ns1, I2, J1, some t), some (zr (21, t, 0)), p5, some (zi (sp_rj S.1 n row)), some (zi (nI n)), p8), ?_, fin2, Or.inr ⟨b0, hbest, k32, fun y hy => (hkeep3 y).trans (hB3 y hy)⟩⟩
          rw [e232_26]
          simp (decide := true) (disch := omega) only [e232_27, e232_28, e232_31, e232_32, e232_35, e232_37, e232_38, e232_40, e232_41, e232_43, e232_44, bi_s, tyX, rl1, rl2, rl4, ↓reduceIte, Option.bind_some, true_and, and_true, false_and, and_false, true_or, or_true, false_or, or_false, if_same0, ite_eq0, ite_eq0', ite_eq1, ite_eq1', or_em, or_em', ite_not, lcmp0, lcmpL, lcmpG, nI_cl_b, eb_in_b, nI_1, nI_pred, Int32.reduceToNatClampNeg, eb_u_ap, Prod.mk.injEq, not_true_eq_false, not_false_eq_true, tyM, rl21, rl25, sp_rg, sp_iI, sp_iG, sp_iS, hb, f1]
          rw [a1]
          simp (decide := true) (disch := omega) only [e232_122, e232_123, e232_126, e232_128, e232_129, e232_132, e232_135, e232_136, e232_138, e232_141, e232_142, e232_144, e232_145, e232_190, e232_193, bi_s, tyX, rl1, rl2, rl4, ↓reduceIte, Option.bind_some, true_and, and_true, false_and, and_false, true_or, or_true, false_or, or_false, if_same0, ite_eq0, ite_eq0', ite_eq1, ite_eq1', or_em, or_em', ite_not, lcmp0, lcmpL, lcmpG, nI_cl_b, eb_in_b, nI_1, nI_pred, Int32.reduceToNatClampNeg, eb_u_ap, Prod.mk.injEq, not_true_eq_false, not_false_eq_true, tyM, rl21, rl25, sp_rg, sp_iI, sp_iG, sp_iS, hz, k32, c])
  obtain ⟨⟨nc0, ns0, I0, J0, mt0⟩, o4, o5, o6, o7, o8⟩ := T
  have e1 : eb_MS S I0 J0 nc0 ns0 mt0 mk := e1
  rcases e4 with e4 | ⟨b, b1, b2, b3⟩
  · exact absurd e4 (by omega)
  · have hround : sp_round S.1 n = b := by unfold sp_round; rw [b1]; rfl
    have hb : (nI ((S.1.1 + 1) ^ n) < nI ((S.1.1 + 1) ^ n)) = False := eq_false Int32.lt_irrefl
    simp only [nI_0] at e
    rw [e, e232_26, hround]
    simp (decide := true) (disch := omega) only [e232_27, e232_28, e232_31, e232_32, e232_35, e232_37, e232_38, e232_40, e232_41, e232_43, e232_44, e232_196, bi_s, tyX, rl1, rl2, rl4, ↓reduceIte, Option.bind_some, true_and, and_true, false_and, and_false, true_or, or_true, false_or, or_false, if_same0, ite_eq0, ite_eq0', ite_eq1, ite_eq1', or_em, or_em', ite_not, lcmp0, lcmpL, lcmpG, nI_cl_b, eb_in_b, nI_1, nI_pred, Int32.reduceToNatClampNeg, eb_u_ap, Prod.mk.injEq, not_true_eq_false, not_false_eq_true, tyM, rl21, rl25, sp_rg, sp_iI, sp_iG, sp_iS, hb]
    exact ⟨nc0, ns0, I0, J0, mt0, rfl, e1, e2, e3, b2, b3⟩
end

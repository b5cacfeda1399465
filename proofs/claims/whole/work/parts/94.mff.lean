/-! the reference's faces: the best book, how many -/
section
variable {L d nc ns r i g t : Nat} {I I' I1 : eb_A → Nat → Int32} {J J1 : eb_A → Nat → Int64} {C : Nat → Nat → Nat} {mt mk : Option Nat} {M : eb_M} {R : eb_A → Nat → Option eb_A} {w : eb_W} {x set a b : Int32} {S : eb_St}
theorem m_bestBook (h : eb_MS S I J nc ns mt mk) (ok : sp_St S) {m kk : Nat} (hm : m ≤ 100000) (hk : kk ≤ 6) : ∃ nc' ns' I' J' mt' b, eb_ev L (d + 9) 228 [zr (21, 0, 0), zi (nI m), zi (nI kk)] (nc, ns, I, J, eb_RL C mt mk) = some (zi (nI b), (nc', ns', I', J', eb_RL C mt' mk)) ∧ eb_MS S I' J' nc' ns' mt' mk ∧ eb_fM I I' ∧ eb_fN J J' ∧ sp_book S.1 m kk = some b ∧ I' (21, 0, 0) 32 = sp_jw S.1 m b := by
  have hn := ok.1.1
  have h6 := shl6 S.1.1 (by omega)
  have hp : 0 < 2 ^ S.1.1 := Nat.pow_pos (by omega)
  rw [h228 rfl]
  simp (decide := true) (disch := omega) only [e228_0, e228_1, e228_2, e228_3, bi_s, tyX, rl1, rl2, rl4, ↓reduceIte, Option.bind_some, true_and, and_true, false_and, and_false, true_or, or_true, false_or, or_false, if_same0, ite_eq0, ite_eq0', ite_eq1, ite_eq1', or_em, or_em', ite_not, lcmp0, lcmpL, lcmpG, nI_cl_b, eb_in_b, nI_1, nI_pred, Int32.reduceToNatClampNeg, eb_u_ap, Prod.mk.injEq, not_true_eq_false, not_false_eq_true, tyM, rl21, rl25, sp_rg, sp_iI, sp_iG, sp_iS]
  unfold sp_book
  generalize hq : (fun s => decide (sp_pop s ≤ kk)) = q
  have hq0 : ∀ s, q s = decide (sp_pop s ≤ kk) := fun s => by rw [← hq]
  obtain ⟨T, e, e1, e2, e3, e4, e5⟩ := eb_loop (α := Int32 × (Nat × Nat × (eb_A → Nat → Int32) × (eb_A → Nat → Int64) × Option Nat) × Option eb_V × Option eb_V) (n := 2 ^ S.1.1) (s0 := (-1, (nc, ns, I, J, mt), none, none))
    (F := fun y s => eb_E L (d + 8) 228 5 [some (zr (21, 0, 0)), some (zi (nI m)), some (zi (nI kk)), some (zi s.1), some (zi (nI y)), s.2.2.1, s.2.2.2] [] (s.2.1.1, s.2.1.2.1, s.2.1.2.2.1, s.2.1.2.2.2.1, eb_RL C s.2.1.2.2.2.2 mk))
    (P := fun y s => s.1 = sp_enc (sp_best q (sp_jw S.1 m) y) ∧ (∀ b, sp_best q (sp_jw S.1 m) y = some b → s.2.1.2.2.1 (21, 0, 0) 32 = sp_jw S.1 m b) ∧ eb_MS S s.2.1.2.2.1 s.2.1.2.2.2.1 s.2.1.1 s.2.1.2.1 s.2.1.2.2.2.2 mk ∧ eb_fM I s.2.1.2.2.1 ∧ eb_fN J s.2.1.2.2.2.1)
    ⟨rfl, (fun b hb => by cases hb), h, eb_fM_rf, eb_fN_rf⟩ (by
      intro y s hy hP
      obtain ⟨s1, ⟨nc0, ns0, I0, J0, mt0⟩, o5, o6⟩ := s
      obtain ⟨h1, h2, h3, h4, h5⟩ := hP
      have h1 : s1 = sp_enc (sp_best q (sp_jw S.1 m) y) := h1
      have h2 : ∀ b, sp_best q (sp_jw S.1 m) y = some b → I0 (21, 0, 0) 32 = sp_jw S.1 m b := h2
      have h3 : eb_MS S I0 J0 nc0 ns0 mt0 mk := h3
      have h4 : eb_fM I I0 := h4
      have h5 : eb_fN J J0 := h5
      have hb : (nI y < nI (2 ^ S.1.1)) = True := by rw [nI_lt_b (by omega) (by omega)]; exact eq_true hy
      have h9 : I0 (21, 0, 0) 9 = nI S.1.1 := h3.1.1.1
      have pl := m_popLoop (L := L) (nc := nc0) (ns := ns0) (I := I0) (J := J0) (R := eb_RL C mt0 mk) hn hy h9 (D := d + 8) (o1 := some (zi (nI m))) (o2 := some (zi (nI kk))) (o3 := some (zi s1))
      have hpl := sp_pop_lt y (by omega)
      have hbest := sp_best_s (has := q) (f := sp_jw S.1 m) (n := y)
      rw [e228_5]
      simp (decide := true) (disch := omega) only [e228_7, e228_8, e228_9, e228_12, e228_13, e228_16, e228_17, e228_19, e228_20, bi_s, tyX, rl1, rl2, rl4, ↓reduceIte, Option.bind_some, true_and, and_true, false_and, and_false, true_or, or_true, false_or, or_false, if_same0, ite_eq0, ite_eq0', ite_eq1, ite_eq1', or_em, or_em', ite_not, lcmp0, lcmpL, lcmpG, nI_cl_b, eb_in_b, nI_1, nI_pred, Int32.reduceToNatClampNeg, eb_u_ap, Prod.mk.injEq, not_true_eq_false, not_false_eq_true, tyM, rl21, rl25, sp_rg, sp_iI, sp_iG, sp_iS, h9, h6.1, hb]
      rw [pl]
      by_cases c : sp_pop y ≤ kk
      · have hqy : q y = true := by rw [hq0]; exact decide_eq_true c
        have c1 : (nI kk < nI (sp_pop y)) = False := by rw [nI_lt_b (by omega) (by omega)]; simp; omega
        obtain ⟨nc1, ns1, I1, J1, t, b1, b2, b3, b4, b5⟩ := m_writtenBy (L := L) (d := d) (C := C) h3 ok (m := m) (s := y) hm
        have k32 := b5 (21, 0, 0) 32 rfl
        have fin : ∀ v, eb_MS S (eb_u I1 (21, 0, 0) 32 v) J1 nc1 ns1 (some t) mk ∧ eb_fM I (eb_u I1 (21, 0, 0) 32 v) := fun v => by
          obtain ⟨z1, z2⟩ := eb_MS_b (I' := eb_u I1 (21, 0, 0) 32 v) b2 (fun a l _ q2 => if_neg q2)
          exact ⟨z1, eb_fM_tr (eb_fM_tr h4 b3) z2⟩
        cases hbb : sp_best q (sp_jw S.1 m) y with
        | none =>
          rw [hbb] at h1 hbest
          have h1 : s1 = -1 := h1
          have hbest : sp_best q (sp_jw S.1 m) (y + 1) = some y := hbest.trans (if_pos hqy)
          simp (decide := true) (disch := omega) only [e228_49, e228_51, e228_52, e228_55, e228_56, e228_57, e228_59, e228_62, e228_64, e228_65, e228_66, e228_69, e228_71, e228_72, e228_75, e228_78, e228_80, e228_81, e228_82, e228_84, e228_87, e228_90, bi_s, tyX, rl1, rl2, rl4, ↓reduceIte, Option.bind_some, true_and, and_true, false_and, and_false, true_or, or_true, false_or, or_false, if_same0, ite_eq0, ite_eq0', ite_eq1, ite_eq1', or_em, or_em', ite_not, lcmp0, lcmpL, lcmpG, nI_cl_b, eb_in_b, nI_1, nI_pred, Int32.reduceToNatClampNeg, eb_u_ap, Prod.mk.injEq, not_true_eq_false, not_false_eq_true, tyM, rl21, rl25, sp_rg, sp_iI, sp_iG, sp_iS, c1, b1, h1]
          refine ⟨(nI y, (nc1, ns1, eb_u I1 (21, 0, 0) 32 (sp_jw S.1 m y), J1, some t), some (zi (nI (sp_pop y))), some (zi (sp_jw S.1 m y))), rfl, ?_, fun b hb2 => ?_, (fin _).1, (fin _).2, eb_fN_tr h5 b4⟩
          · rw [hbest]; rfl
          · rw [hbest] at hb2; cases hb2; show eb_u I1 (21, 0, 0) 32 (sp_jw S.1 m y) (21, 0, 0) 32 = sp_jw S.1 m y; exact eb_u_s
        | some b0 =>
          have hbl := (sp_best_lt hbb).1
          have h2 := k32.trans (h2 b0 hbb)
          rw [hbb] at h1 hbest
          have h1 : s1 = nI b0 := h1
          have hm1 : ¬ nI b0 = -1 := by rw [nI_m1 (by omega)]; exact fun z => z
          by_cases c2 : sp_jw S.1 m b0 < sp_jw S.1 m y
          · have hbest : sp_best q (sp_jw S.1 m) (y + 1) = some y := hbest.trans (if_pos ⟨hqy, c2⟩)
            simp (decide := true) (disch := omega) only [e228_49, e228_51, e228_52, e228_55, e228_56, e228_57, e228_59, e228_62, e228_64, e228_65, e228_66, e228_69, e228_71, e228_72, e228_75, e228_78, e228_80, e228_81, e228_82, e228_84, e228_87, e228_90, bi_s, tyX, rl1, rl2, rl4, ↓reduceIte, Option.bind_some, true_and, and_true, false_and, and_false, true_or, or_true, false_or, or_false, if_same0, ite_eq0, ite_eq0', ite_eq1, ite_eq1', or_em, or_em', ite_not, lcmp0, lcmpL, lcmpG, nI_cl_b, eb_in_b, nI_1, nI_pred, Int32.reduceToNatClampNeg, eb_u_ap, Prod.mk.injEq, not_true_eq_false, not_false_eq_true, tyM, rl21, rl25, sp_rg, sp_iI, sp_iG, sp_iS, c1, b1, h1, hm1, h2, c2]
            refine ⟨(nI y, (nc1, ns1, eb_u I1 (21, 0, 0) 32 (sp_jw S.1 m y), J1, some t), some (zi (nI (sp_pop y))), some (zi (sp_jw S.1 m y))), rfl, ?_, fun b hb2 => ?_, (fin _).1, (fin _).2, eb_fN_tr h5 b4⟩
            · rw [hbest]; rfl
            · rw [hbest] at hb2; cases hb2; show eb_u I1 (21, 0, 0) 32 (sp_jw S.1 m y) (21, 0, 0) 32 = sp_jw S.1 m y; exact eb_u_s
          · have hbest : sp_best q (sp_jw S.1 m) (y + 1) = some b0 := hbest.trans (if_neg (fun z => c2 z.2))
            simp (decide := true) (disch := omega) only [e228_49, e228_51, e228_52, e228_55, e228_56, e228_57, e228_59, e228_62, e228_64, e228_65, e228_66, e228_69, e228_71, e228_72, e228_75, e228_78, e228_80, e228_81, e228_82, e228_84, e228_87, e228_90, bi_s, tyX, rl1, rl2, rl4, ↓reduceIte, Option.bind_some, true_and, and_true, false_and, and_false, true_or, or_true, false_or, or_false, if_same0, ite_eq0, ite_eq0', ite_eq1, ite_eq1', or_em, or_em', ite_not, lcmp0, lcmpL, lcmpG, nI_cl_b, eb_in_b, nI_1, nI_pred, Int32.reduceToNatClampNeg, eb_u_ap, Prod.mk.injEq, not_true_eq_false, not_false_eq_true, tyM, rl21, rl25, sp_rg, sp_iI, sp_iG, sp_iS, c1, b1, h1, hm1, h2, c2]
            refine ⟨(nI b0, (nc1, ns1, I1, J1, some t), some (zi (nI (sp_pop y))), some (zi (sp_jw S.1 m y))), rfl, ?_, fun b hb2 => ?_, b2, eb_fM_tr h4 b3, eb_fN_tr h5 b4⟩
            · rw [hbest]; rfl
            · rw [hbest] at hb2; cases hb2; exact h2
      · have hqy : ¬ q y = true := by rw [hq0]; simpa using c
        have c1 : (nI kk < nI (sp_pop y)) = True := by rw [nI_lt_b (by omega) (by omega)]; simp; omega
        have hbest : sp_best q (sp_jw S.1 m) (y + 1) = sp_best q (sp_jw S.1 m) y := by
          rw [hbest]
          cases hbb : sp_best q (sp_jw S.1 m) y with
          | none => simp only [hqy]; rfl
          | some b0 => simp only [hqy]; rfl
        simp (decide := true) (disch := omega) only [e228_49, e228_51, e228_52, e228_55, e228_56, e228_57, e228_59, e228_62, e228_64, e228_65, e228_66, e228_69, e228_71, e228_72, e228_75, e228_78, e228_80, e228_81, e228_82, e228_84, e228_87, e228_90, bi_s, tyX, rl1, rl2, rl4, ↓reduceIte, Option.bind_some, true_and, and_true, false_and, and_false, true_or, or_true, false_or, or_false, if_same0, ite_eq0, ite_eq0', ite_eq1, ite_eq1', or_em, or_em', ite_not, lcmp0, lcmpL, lcmpG, nI_cl_b, eb_in_b, nI_1, nI_pred, Int32.reduceToNatClampNeg, eb_u_ap, Prod.mk.injEq, not_true_eq_false, not_false_eq_true, tyM, rl21, rl25, sp_rg, sp_iI, sp_iG, sp_iS, c1]
        refine ⟨(s1, (nc0, ns0, I0, J0, mt0), some (zi (nI (sp_pop y))), some (zi (nI S.1.1))), rfl, ?_, fun b hb2 => ?_, h3, h4, h5⟩
        · rw [hbest]; exact h1
        · rw [hbest] at hb2; exact h2 b hb2)
  obtain ⟨s1, ⟨nc0, ns0, I0, J0, mt0⟩, o5, o6⟩ := T
  have e1 : s1 = sp_enc (sp_best q (sp_jw S.1 m) (2 ^ S.1.1)) := e1
  have e2 : ∀ b, sp_best q (sp_jw S.1 m) (2 ^ S.1.1) = some b → I0 (21, 0, 0) 32 = sp_jw S.1 m b := e2
  have e3 : eb_MS S I0 J0 nc0 ns0 mt0 mk := e3
  have h9 : I0 (21, 0, 0) 9 = nI S.1.1 := e3.1.1.1
  simp only [nI_0] at e
  have hb : (nI (2 ^ S.1.1) < nI (2 ^ S.1.1)) = False := eq_false Int32.lt_irrefl
  cases hbb : sp_best q (sp_jw S.1 m) (2 ^ S.1.1) with
  | none =>
    have := sp_best_none hbb 0 hp
    rw [hq0] at this
    exact absurd (of_decide_eq_false this) (by simp [sp_pop])
  | some b0 =>
    rw [hbb] at e1
    have e1 : s1 = nI b0 := e1
    rw [e, e228_5]
    simp (decide := true) (disch := omega) only [e228_7, e228_8, e228_9, e228_12, e228_13, e228_16, e228_17, e228_19, e228_20, e228_24, e228_25, e228_28, e228_31, e228_33, e228_35, e228_37, e228_38, e228_39, e228_40, e228_41, e228_43, e228_46, e228_49, e228_51, e228_52, e228_55, e228_56, e228_57, e228_59, e228_62, e228_64, e228_65, e228_66, e228_69, e228_71, e228_72, e228_75, e228_78, e228_80, e228_81, e228_82, e228_84, e228_87, e228_90, e228_93, e228_94, bi_s, tyX, rl1, rl2, rl4, ↓reduceIte, Option.bind_some, true_and, and_true, false_and, and_false, true_or, or_true, false_or, or_false, if_same0, ite_eq0, ite_eq0', ite_eq1, ite_eq1', or_em, or_em', ite_not, lcmp0, lcmpL, lcmpG, nI_cl_b, eb_in_b, nI_1, nI_pred, Int32.reduceToNatClampNeg, eb_u_ap, Prod.mk.injEq, not_true_eq_false, not_false_eq_true, tyM, rl21, rl25, sp_rg, sp_iI, sp_iG, sp_iS, h9, h6.1, hb]
    exact ⟨nc0, ns0, I0, J0, mt0, b0, by rw [e1], e3, e4, e5, rfl, e2 b0 hbb⟩
theorem mf_book (ok : sp_St S) {n a : Int32} : eb_FM L (d + 10) 229 [zi n, zi a] S (sf_book S n a).2 (zi (sf_book S n a).1) := by
  intro nc ns I J C mt mk h
  rw [h229 rfl]
  unfold sf_book
  by_cases c1 : sp_rg n 1 12
  · by_cases c2 : sp_rg a 0 6
    · rw [if_pos ⟨c1, c2⟩]
      obtain ⟨m, hm, rfl⟩ := rg_12 c1
      obtain ⟨k, hk, rfl⟩ := rg_le 6 (by omega) (by decide) c2
      obtain ⟨nc1, ns1, I1, J1, mt1, b, e1, e2, e3, e4, e5, e6⟩ := m_bestBook (L := L) (d := d) (C := C) h ok (m := m) (by omega) hk
      rw [show tn (nI m) = m from nI_cl_b (by omega), show tn (nI k) = k from nI_cl_b (by omega), e5]
      simp (decide := true) (disch := omega) only [e229_0, e229_1, e229_4, e229_7, e229_8, e229_9, e229_10, e229_13, e229_16, e229_19, e229_20, e229_21, e229_22, e229_25, e229_28, e229_29, e229_31, e229_34, bi_s, tyX, rl1, rl2, rl4, ↓reduceIte, Option.bind_some, true_and, and_true, false_and, and_false, true_or, or_true, false_or, or_false, if_same0, ite_eq0, ite_eq0', ite_eq1, ite_eq1', or_em, or_em', ite_not, lcmp0, lcmpL, lcmpG, nI_cl_b, eb_in_b, nI_1, nI_pred, Int32.reduceToNatClampNeg, eb_u_ap, Prod.mk.injEq, not_true_eq_false, not_false_eq_true, tyM, rl21, rl25, sp_rg, sp_iI, sp_iG, sp_iS, m_isYears, c1, m_ins, c2, e1, sp_enc]
      exact ⟨nc1, ns1, I1, J1, mt1, mk, rfl, e2, e3, e4⟩
    · rw [if_neg (fun q => c2 q.2)]
      simp (decide := true) (disch := omega) only [e229_0, e229_1, e229_4, e229_7, e229_8, e229_9, e229_10, e229_13, e229_16, e229_19, e229_20, e229_21, e229_22, e229_25, e229_28, e229_29, e229_31, e229_34, bi_s, tyX, rl1, rl2, rl4, ↓reduceIte, Option.bind_some, true_and, and_true, false_and, and_false, true_or, or_true, false_or, or_false, if_same0, ite_eq0, ite_eq0', ite_eq1, ite_eq1', or_em, or_em', ite_not, lcmp0, lcmpL, lcmpG, nI_cl_b, eb_in_b, nI_1, nI_pred, Int32.reduceToNatClampNeg, eb_u_ap, Prod.mk.injEq, not_true_eq_false, not_false_eq_true, tyM, rl21, rl25, sp_rg, sp_iI, sp_iG, sp_iS, m_isYears, c1, m_ins, c2, m_refuse0]
      exact ⟨nc, ns, _, J, mt, mk, rfl, fm_rf h (by omega)⟩
  · rw [if_neg (fun q => c1 q.1)]
    simp (decide := true) (disch := omega) only [e229_0, e229_1, e229_4, e229_7, e229_8, e229_9, e229_10, e229_13, e229_16, e229_19, e229_20, e229_21, e229_22, e229_25, e229_28, e229_29, e229_31, e229_34, bi_s, tyX, rl1, rl2, rl4, ↓reduceIte, Option.bind_some, true_and, and_true, false_and, and_false, true_or, or_true, false_or, or_false, if_same0, ite_eq0, ite_eq0', ite_eq1, ite_eq1', or_em, or_em', ite_not, lcmp0, lcmpL, lcmpG, nI_cl_b, eb_in_b, nI_1, nI_pred, Int32.reduceToNatClampNeg, eb_u_ap, Prod.mk.injEq, not_true_eq_false, not_false_eq_true, tyM, rl21, rl25, sp_rg, sp_iI, sp_iG, sp_iS, m_isYears, c1, m_refuse0]
    exact ⟨nc, ns, _, J, mt, mk, rfl, fm_rf h (by omega)⟩
/-- the best of k places at most is the best of all -/
theorem sp_top_b {m k b b6 : Nat} (hn : w.1 ≤ 6) (h : sp_book w m k = some b) (h6 : sp_book w m 6 = some b6) : sp_top w m k ↔ sp_jw w m b = sp_jw w m b6 := by
  have hl := sp_best_lt h
  have hl6 := sp_best_lt h6
  have hsh := (shl6 w.1 (by omega)).2
  have all : ∀ t, t < 2 ^ w.1 → sp_jw w m t ≤ sp_jw w m b6 := fun t ht => sp_best_top h6 t ht (decide_eq_true (sp_pop_lt t (by omega)))
  constructor
  · rintro ⟨s, hs, hps, hmax⟩
    exact Int32.le_antisymm (all b hl.1) (Int32.le_trans (hmax b6 hl6.1) (sp_best_top h s hs (decide_eq_true hps)))
  · intro q
    exact ⟨b, hl.1, of_decide_eq_true hl.2, fun t ht => by rw [q]; exact all t ht⟩
theorem mf_many (ok : sp_St S) {n : Int32} : eb_FM L (d + 10) 231 [zi n] S (sf_many S n).2 (zi (sf_many S n).1) := by
  intro nc ns I J C mt mk h
  rw [h231 rfl]
  unfold sf_many
  have hn := ok.1.1
  by_cases c1 : sp_rg n 1 12
  · rw [if_pos c1]
    obtain ⟨m, hm, rfl⟩ := rg_12 c1
    rw [show tn (nI m) = m from nI_cl_b (by omega)]
    obtain ⟨nc6, ns6, I6, J6, mt6, b6, a1, a2, a3, a4, a5, a6⟩ := m_bestBook (L := L) (d := d) (C := C) h ok (m := m) (kk := 6) (by omega) (by omega)
    obtain ⟨nc0, ns0, I0, J0, mt0, b0, g1, g2, g3, g4, g5, g6⟩ := m_bestBook (L := L) (d := d) (C := C) a2 ok (m := m) (kk := 0) (by omega) (by omega)
    rw [show nI 6 = 6 from rfl] at a1
    rw [nI_0] at g1
    simp (decide := true) (disch := omega) only [e231_0, e231_1, e231_4, e231_7, e231_8, e231_10, e231_13, e231_14, e231_15, e231_16, e231_18, e231_21a, e231_21b, e231_22, e231_23, e231_26, e231_27, e231_28, e231_29, e231_30, e231_31, e231_32, e231_35a, e231_35b, bi_s, tyX, rl1, rl2, rl4, ↓reduceIte, Option.bind_some, true_and, and_true, false_and, and_false, true_or, or_true, false_or, or_false, if_same0, ite_eq0, ite_eq0', ite_eq1, ite_eq1', or_em, or_em', ite_not, lcmp0, lcmpL, lcmpG, nI_cl_b, eb_in_b, nI_1, nI_pred, Int32.reduceToNatClampNeg, eb_u_ap, Prod.mk.injEq, not_true_eq_false, not_false_eq_true, tyM, rl21, rl25, sp_rg, sp_iI, sp_iG, sp_iS, m_isYears, c1, a1, a6, g1]
    generalize hpp : (fun k => @decide (sp_top S.1 m k) (Classical.propDecidable _)) = p
    have hpt : ∀ k b, sp_book S.1 m k = some b → (p k = true ↔ sp_jw S.1 m b = sp_jw S.1 m b6) := fun k b hb => by
      rw [← hpp]
      refine Iff.trans ?_ (sp_top_b hn hb a5)
      exact ⟨fun z => @of_decide_eq_true _ (Classical.propDecidable _) z, fun z => @decide_eq_true _ (Classical.propDecidable _) z⟩
    have key := eb_loopE (α := Nat × Nat × (eb_A → Nat → Int32) × (eb_A → Nat → Int64) × Option Nat) (n := 7) (s0 := (nc0, ns0, I0, J0, mt0))
      (F := fun k s => eb_E L (d + 9) 231 36 [some (zr (21, 0, 0)), some (zi (nI m)), some (zi (sp_jw S.1 m b6)), some (zi (nI k))] [] (s.1, s.2.1, s.2.2.1, s.2.2.2.1, eb_RL C s.2.2.2.2 mk))
      (P := fun k s => (k ≤ 6 ∧ ∃ b, sp_book S.1 m k = some b ∧ s.2.2.1 (21, 0, 0) 32 = sp_jw S.1 m b) ∧ (eb_MS S s.2.2.1 s.2.2.2.1 s.1 s.2.1 s.2.2.2.2 mk ∧ eb_fM I s.2.2.1 ∧ eb_fN J s.2.2.2.1) ∧ sp_fst p k (7 - k) = sp_fst p 0 7)
      (Q := fun r => ∃ nc' ns' I' J' mt' mk', r = some (zi (sp_fst p 0 7), (nc', ns', I', J', eb_RL C mt' mk')) ∧ eb_MS S I' J' nc' ns' mt' mk' ∧ eb_fM I I' ∧ eb_fN J J')
      ⟨⟨by omega, b0, g5, g6⟩, ⟨g2, eb_fM_tr a3 g3, eb_fN_tr a4 g4⟩, rfl⟩ (by
        intro k s hk hP
        obtain ⟨nc1, ns1, I1, J1, mt1⟩ := s
        obtain ⟨⟨h1, b, h2, h3⟩, ⟨h4, h5, h7⟩, h8⟩ := hP
        have h3 : I1 (21, 0, 0) 32 = sp_jw S.1 m b := h3
        have h4 : eb_MS S I1 J1 nc1 ns1 mt1 mk := h4
        have h5 : eb_fM I I1 := h5
        have h7 : eb_fN J J1 := h7
        have hpk := hpt k b h2
        have h20 : 7 - k = (7 - (k + 1)) + 1 := by omega
        rw [h20] at h8
        have h8 : (if p k = true then nI k else sp_fst p (k + 1) (7 - (k + 1))) = sp_fst p 0 7 := h8
        rw [e231_36]
        by_cases c : sp_jw S.1 m b = sp_jw S.1 m b6
        · right
          rw [if_pos (hpk.mpr c)] at h8
          simp (decide := true) (disch := omega) only [e231_37, e231_40, e231_41, e231_44, e231_47, e231_48, e231_49, e231_50, e231_53a, e231_53b, e231_54, e231_57, e231_58, bi_s, tyX, rl1, rl2, rl4, ↓reduceIte, Option.bind_some, true_and, and_true, false_and, and_false, true_or, or_true, false_or, or_false, if_same0, ite_eq0, ite_eq0', ite_eq1, ite_eq1', or_em, or_em', ite_not, lcmp0, lcmpL, lcmpG, nI_cl_b, eb_in_b, nI_1, nI_pred, Int32.reduceToNatClampNeg, eb_u_ap, Prod.mk.injEq, not_true_eq_false, not_false_eq_true, tyM, rl21, rl25, sp_rg, sp_iI, sp_iG, sp_iS, h3, c]
          exact ⟨nc1, ns1, I1, J1, mt1, mk, by rw [← h8], h4, h5, h7⟩
        · left
          rw [if_neg (fun z => c (hpk.mp z))] at h8
          have hk5 : k + 1 ≤ 6 := by
            by_cases z : k = 6
            · subst z
              rw [a5] at h2
              injection h2 with h2
              exact absurd (by rw [h2]) c
            · omega
          obtain ⟨nc2, ns2, I2, J2, mt2, b2, f1, f2, f3, f4, f5, f6⟩ := m_bestBook (L := L) (d := d) (C := C) h4 ok (m := m) (kk := k + 1) (by omega) hk5
          simp (decide := true) (disch := omega) only [e231_37, e231_40, e231_41, e231_44, e231_47, e231_48, e231_49, e231_50, e231_53a, e231_53b, e231_54, e231_57, e231_58, bi_s, tyX, rl1, rl2, rl4, ↓reduceIte, Option.bind_some, true_and, and_true, false_and, and_false, true_or, or_true, false_or, or_false, if_same0, ite_eq0, ite_eq0', ite_eq1, ite_eq1', or_em, or_em', ite_not, lcmp0, lcmpL, lcmpG, nI_cl_b, eb_in_b, nI_1, nI_pred, Int32.reduceToNatClampNeg, eb_u_ap, Prod.mk.injEq, not_true_eq_false, not_false_eq_true, tyM, rl21, rl25, sp_rg, sp_iI, sp_iG, sp_iS, h3, c, f1]
          exact ⟨(nc2, ns2, I2, J2, mt2), rfl, ⟨hk5, b2, f5, f6⟩, ⟨f2, eb_fM_tr h5 f3, eb_fN_tr h7 f4⟩, h8⟩) (by
        intro s hP
        exact absurd hP.1.1 (by omega))
    simp only [nI_0] at key
    exact key
  · rw [if_neg c1]
    simp (decide := true) (disch := omega) only [e231_0, e231_1, e231_4, e231_7, e231_8, e231_10, e231_13, e231_14, e231_15, e231_16, e231_18, e231_21a, e231_21b, e231_22, e231_23, e231_26, e231_27, e231_28, e231_29, e231_30, e231_31, e231_32, e231_35a, e231_35b, bi_s, tyX, rl1, rl2, rl4, ↓reduceIte, Option.bind_some, true_and, and_true, false_and, and_false, true_or, or_true, false_or, or_false, if_same0, ite_eq0, ite_eq0', ite_eq1, ite_eq1', or_em, or_em', ite_not, lcmp0, lcmpL, lcmpG, nI_cl_b, eb_in_b, nI_1, nI_pred, Int32.reduceToNatClampNeg, eb_u_ap, Prod.mk.injEq, not_true_eq_false, not_false_eq_true, tyM, rl21, rl25, sp_rg, sp_iI, sp_iG, sp_iS, m_isYears, c1, m_refuse0]
    exact ⟨nc, ns, _, J, mt, mk, rfl, fm_rf h (by omega)⟩
end

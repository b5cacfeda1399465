/-! the tape: tokens and numbers, as the reference reads them -/
section
variable {L d nc ns k i g : Nat} {I : eb_A → Nat → Int32} {J : eb_A → Nat → Int64} {C : Nat → Nat → Nat} {mt mk : Option Nat} {w : eb_W} {R : eb_A → Nat → Option eb_A} {S : eb_St} {M : eb_M} {T : eb_Tp} {K : eb_K} {x : Int32}
theorem m_look (h : eb_TM I T) (ht : sk_okT T) {e : Nat} (he : I (21, 0, 0) 18 = nI e) (he2 : e ≤ T.2) : ∃ I', eb_ev L (d + 2) 177 [zr (21, 0, 0)] (nc, ns, I, J, eb_RL C mt mk) = some (zn, (nc, ns, I', J, eb_RL C mt mk)) ∧ eb_KM I' T (sk_tok T e) ∧ eb_fl I I' := by
  have h2 := ht.1
  rw [h177 rfl]
  show ∃ I', eb_E L (d + 1) 177 0 [some (zr (21, 0, 0))] [] (nc, ns, I, J, eb_RL C mt mk) = _ ∧ _
  obtain ⟨I1, a1, a2, a3⟩ := m_skip (L := L) (d := d) (nc := nc) (ns := ns) (J := J) (C := C) (mt := mt) (mk := mk) ht (T.2 - e) e I (by omega) h he
  rw [a1]
  have hs := sk_start_b he2
  rw [show sk_skip T e (T.2 - e) = sk_start T e from rfl] at a2
  have htok : sk_tok T e = (sk_kind (sk_byte T (sk_start T e)), sk_start T e, sk_end T (sk_start T e)) := rfl
  rw [htok]
  generalize sk_start T e = s at hs a2
  have h1 := eb_fq_TM (eb_fl_q a3) h
  have f2 : eb_fl I1 (eb_u (eb_u I1 (21, 0, 0) 20 (nI s)) (21, 0, 0) 21 0) := eb_fl_tr (eb_fl_u ⟨by omega, by omega⟩) (eb_fl_u ⟨by omega, by omega⟩)
  have k18 : eb_u (eb_u I1 (21, 0, 0) 20 (nI s)) (21, 0, 0) 21 0 (21, 0, 0) 18 = nI s := by simp [eb_u, a2]
  have k20 : eb_u (eb_u I1 (21, 0, 0) 20 (nI s)) (21, 0, 0) 21 0 (21, 0, 0) 20 = nI s := by simp [eb_u]
  have k21 : eb_u (eb_u I1 (21, 0, 0) 20 (nI s)) (21, 0, 0) 21 0 (21, 0, 0) 21 = 0 := eb_u_s
  have start : eb_E L (d + 1) 177 38 [some (zr (21, 0, 0))] [] (nc, ns, I1, J, eb_RL C mt mk) = eb_E L (d + 1) 177 51 [some (zr (21, 0, 0))] [] (nc, ns, eb_u (eb_u I1 (21, 0, 0) 20 (nI s)) (21, 0, 0) 21 0, J, eb_RL C mt mk) := by
    simp (decide := true) (disch := omega) only [e177_38, e177_39, e177_40, e177_43, e177_46, e177_47, e177_48, bi_s, tyX, rl1, rl2, rl4, ↓reduceIte, Option.bind_some, true_and, and_true, false_and, and_false, true_or, or_true, false_or, or_false, if_same0, ite_eq0, ite_eq0', ite_eq1, ite_eq1', or_em, or_em', ite_not, lcmp0, lcmpL, lcmpG, nI_cl_b, eb_in_b, nI_1, nI_pred, Int32.reduceToNatClampNeg, eb_u_ap, Prod.mk.injEq, not_true_eq_false, not_false_eq_true, tyM, rl21, rl25, sp_rg, sp_iI, sp_iG, sp_iS, a2]
  rw [start]
  have h3 := eb_fq_TM (eb_fl_q f2) h1
  have f3 := eb_fl_tr a3 f2
  generalize eb_u (eb_u I1 (21, 0, 0) 20 (nI s)) (21, 0, 0) 21 0 = I3 at k18 k20 k21 h3 f3
  by_cases c : s < T.2
  · have c1 : (nI s = nI T.2) = False := by rw [nI_eq_b (by omega) (by omega)]; exact eq_false (by omega)
    have hb := h3.2 s c
    have hp2 : s < 250 := by omega
    have hb0 := (ht.2 s c).1
    obtain ⟨k1, k2, k3⟩ := sk_kind_l hb0
    rw [show sk_byte T s = T.1 s from if_pos c]
    have hend : sk_end T s = (if sk_kind (T.1 s) = 1 ∨ sk_kind (T.1 s) = 2 then sk_run T (sk_kind (T.1 s)) (s + 1) (T.2 - (s + 1)) else s + 1) := if_pos c
    have hfs : T.2 - s = (T.2 - (s + 1)) + 1 := by omega
    by_cases d1 : 97 ≤ T.1 s ∧ T.1 s ≤ 122
    · have kk := k1.mp d1
      rw [kk, if_pos (Or.inl rfl)] at hend
      have f4 : eb_fl I3 (eb_u I3 (21, 0, 0) 19 1) := eb_fl_u ⟨by omega, by omega⟩
      obtain ⟨I4, b1, b2, b3⟩ := m_run (L := L) (d := d) (nc := nc) (ns := ns) (J := J) (C := C) (mt := mt) (mk := mk) ht (T.2 - s) s (eb_u I3 (21, 0, 0) 19 1) (by omega) (eb_fq_TM (eb_fl_q f4) h3) (by simp [eb_u, k18])
      have hr : sk_run T 1 s (T.2 - s) = sk_end T s := by rw [hend, hfs]; exact if_pos kk
      rw [hr] at b2
      simp (decide := true) (disch := omega) only [e177_51, e177_52, e177_55, e177_56, e177_59, e177_62, e177_63, e177_64, e177_67, e177_70, e177_71, e177_74, e177_75, e177_78, e177_79, e177_82, e177_85, e177_86, e177_87, bi_s, tyX, rl1, rl2, rl4, ↓reduceIte, Option.bind_some, true_and, and_true, false_and, and_false, true_or, or_true, false_or, or_false, if_same0, ite_eq0, ite_eq0', ite_eq1, ite_eq1', or_em, or_em', ite_not, lcmp0, lcmpL, lcmpG, nI_cl_b, eb_in_b, nI_1, nI_pred, Int32.reduceToNatClampNeg, eb_u_ap, Prod.mk.injEq, not_true_eq_false, not_false_eq_true, tyM, rl21, rl25, sp_rg, sp_iI, sp_iG, sp_iS, h3.1, k18, c1, hb, m_isLetter, d1]
      rw [b1]
      simp (decide := true) (disch := omega) only [e177_263, bi_s, tyX, rl1, rl2, rl4, ↓reduceIte, Option.bind_some, true_and, and_true, false_and, and_false, true_or, or_true, false_or, or_false, if_same0, ite_eq0, ite_eq0', ite_eq1, ite_eq1', or_em, or_em', ite_not, lcmp0, lcmpL, lcmpG, nI_cl_b, eb_in_b, nI_1, nI_pred, Int32.reduceToNatClampNeg, eb_u_ap, Prod.mk.injEq, not_true_eq_false, not_false_eq_true, tyM, rl21, rl25, sp_rg, sp_iI, sp_iG, sp_iS]
      refine ⟨I4, rfl, ⟨(b3 _ _ (by simp)).trans (by simp [eb_u, k20]), b2, (b3 _ _ (by simp)).trans (by rw [eb_u_s]; exact kk.symm), fun z => absurd (kk.symm.trans z) (by decide)⟩, eb_fl_tr f3 (eb_fl_tr f4 (fun a l q => b3 a l (fun z => q ⟨z.1, by omega, by omega⟩)))⟩
    · by_cases d2 : 48 ≤ T.1 s ∧ T.1 s ≤ 57
      · have kk := k2.mp d2
        rw [kk, if_pos (Or.inr rfl)] at hend
        have f4 : eb_fl I3 (eb_u I3 (21, 0, 0) 19 2) := eb_fl_u ⟨by omega, by omega⟩
        obtain ⟨I4, b1, b2, b3, b4⟩ := m_runD (L := L) (d := d) (nc := nc) (ns := ns) (J := J) (C := C) (mt := mt) (mk := mk) ht (s := s) (T.2 - s) s (eb_u I3 (21, 0, 0) 19 2) (by omega) (Nat.le_refl _) (eb_fq_TM (eb_fl_q f4) h3) (by simp [eb_u, k18]) (by simp [eb_u, k20]) (by rw [Nat.sub_self]; simp [eb_u, k21, sk_figN, sk_dig])
        have hr : sk_run T 2 s (T.2 - s) = sk_end T s := by rw [hend, hfs]; exact if_pos kk
        rw [hr] at b2 b3
        simp (decide := true) (disch := omega) only [e177_51, e177_52, e177_55, e177_56, e177_59, e177_62, e177_63, e177_64, e177_67, e177_70, e177_71, e177_74, e177_75, e177_78, e177_79, e177_82, e177_85, e177_86, e177_87, e177_129, e177_130, e177_133, e177_134, e177_137, e177_138, e177_141, e177_144, e177_145, e177_146, bi_s, tyX, rl1, rl2, rl4, ↓reduceIte, Option.bind_some, true_and, and_true, false_and, and_false, true_or, or_true, false_or, or_false, if_same0, ite_eq0, ite_eq0', ite_eq1, ite_eq1', or_em, or_em', ite_not, lcmp0, lcmpL, lcmpG, nI_cl_b, eb_in_b, nI_1, nI_pred, Int32.reduceToNatClampNeg, eb_u_ap, Prod.mk.injEq, not_true_eq_false, not_false_eq_true, tyM, rl21, rl25, sp_rg, sp_iI, sp_iG, sp_iS, h3.1, k18, c1, hb, m_isLetter, d1, m_isDigit, d2]
        rw [b1]
        simp (decide := true) (disch := omega) only [e177_263, bi_s, tyX, rl1, rl2, rl4, ↓reduceIte, Option.bind_some, true_and, and_true, false_and, and_false, true_or, or_true, false_or, or_false, if_same0, ite_eq0, ite_eq0', ite_eq1, ite_eq1', or_em, or_em', ite_not, lcmp0, lcmpL, lcmpG, nI_cl_b, eb_in_b, nI_1, nI_pred, Int32.reduceToNatClampNeg, eb_u_ap, Prod.mk.injEq, not_true_eq_false, not_false_eq_true, tyM, rl21, rl25, sp_rg, sp_iI, sp_iG, sp_iS]
        refine ⟨I4, rfl, ⟨(b4 _ _ (by simp)).trans (by simp [eb_u, k20]), b2, (b4 _ _ (by simp)).trans (by rw [eb_u_s]; exact kk.symm), fun _ => b3⟩, eb_fl_tr f3 (eb_fl_tr f4 (fun a l q => b4 a l (fun z => q ⟨z.1, by omega, by omega⟩)))⟩
      · have kk := k3 d1 d2
        have kn : ¬ (sk_kind (T.1 s) = 1 ∨ sk_kind (T.1 s) = 2) := fun q => q.elim (fun z => d1 (k1.mpr z)) (fun z => d2 (k2.mpr z))
        rw [if_neg kn] at hend
        rw [hend]
        have fin : ∀ v, v = sk_kind (T.1 s) → eb_KM (eb_u (eb_u I3 (21, 0, 0) 19 v) (21, 0, 0) 18 (nI (s + 1))) T (sk_kind (T.1 s), s, s + 1) ∧ eb_fl I (eb_u (eb_u I3 (21, 0, 0) 19 v) (21, 0, 0) 18 (nI (s + 1))) := fun v hv =>
          ⟨⟨by simp [eb_u, k20], by simp [eb_u], by simp [eb_u, hv], fun z => absurd (Or.inr z) kn⟩, eb_fl_tr f3 (eb_fl_tr (eb_fl_u ⟨by omega, by omega⟩) (eb_fl_u ⟨by omega, by omega⟩))⟩
        by_cases d3 : T.1 s = 59
        · rw [if_pos d3] at kk
          have fin := fin 3 kk.symm
          simp (decide := true) (disch := omega) only [e177_51, e177_52, e177_55, e177_56, e177_59, e177_62, e177_63, e177_64, e177_67, e177_70, e177_71, e177_74, e177_75, e177_78, e177_79, e177_82, e177_85, e177_86, e177_87, e177_129, e177_130, e177_133, e177_134, e177_137, e177_138, e177_141, e177_230, e177_231, e177_232, e177_235, e177_236, e177_239, e177_240, e177_242, e177_245, e177_246, e177_249, e177_250, e177_253, e177_254a, e177_254b, e177_255, e177_258, e177_259, e177_260, e177_263, bi_s, tyX, rl1, rl2, rl4, ↓reduceIte, Option.bind_some, true_and, and_true, false_and, and_false, true_or, or_true, false_or, or_false, if_same0, ite_eq0, ite_eq0', ite_eq1, ite_eq1', or_em, or_em', ite_not, lcmp0, lcmpL, lcmpG, nI_cl_b, eb_in_b, nI_1, nI_pred, Int32.reduceToNatClampNeg, eb_u_ap, Prod.mk.injEq, not_true_eq_false, not_false_eq_true, tyM, rl21, rl25, sp_rg, sp_iI, sp_iG, sp_iS, h3.1, k18, c1, hb, m_isLetter, d1, m_isDigit, d2, d3]
          exact ⟨_, rfl, by rw [d3] at fin; exact fin.1, fin.2⟩
        · rw [if_neg d3] at kk
          have fin := fin 4 kk.symm
          simp (decide := true) (disch := omega) only [e177_51, e177_52, e177_55, e177_56, e177_59, e177_62, e177_63, e177_64, e177_67, e177_70, e177_71, e177_74, e177_75, e177_78, e177_79, e177_82, e177_85, e177_86, e177_87, e177_129, e177_130, e177_133, e177_134, e177_137, e177_138, e177_141, e177_230, e177_231, e177_232, e177_235, e177_236, e177_239, e177_240, e177_242, e177_245, e177_246, e177_249, e177_250, e177_253, e177_254a, e177_254b, e177_255, e177_258, e177_259, e177_260, e177_263, bi_s, tyX, rl1, rl2, rl4, ↓reduceIte, Option.bind_some, true_and, and_true, false_and, and_false, true_or, or_true, false_or, or_false, if_same0, ite_eq0, ite_eq0', ite_eq1, ite_eq1', or_em, or_em', ite_not, lcmp0, lcmpL, lcmpG, nI_cl_b, eb_in_b, nI_1, nI_pred, Int32.reduceToNatClampNeg, eb_u_ap, Prod.mk.injEq, not_true_eq_false, not_false_eq_true, tyM, rl21, rl25, sp_rg, sp_iI, sp_iG, sp_iS, h3.1, k18, c1, hb, m_isLetter, d1, m_isDigit, d2, d3]
          exact ⟨_, rfl, fin.1, fin.2⟩
  · have hsT : s = T.2 := by omega
    have c1 : (nI s = nI T.2) = True := by rw [hsT]; exact eq_true rfl
    have hend : sk_end T s = s := if_neg c
    rw [hend, show sk_byte T s = -1 from if_neg c]
    simp (decide := true) (disch := omega) only [e177_51, e177_52, e177_55, e177_56, e177_59, e177_62, e177_63, e177_64, e177_67, e177_263, bi_s, tyX, rl1, rl2, rl4, ↓reduceIte, Option.bind_some, true_and, and_true, false_and, and_false, true_or, or_true, false_or, or_false, if_same0, ite_eq0, ite_eq0', ite_eq1, ite_eq1', or_em, or_em', ite_not, lcmp0, lcmpL, lcmpG, nI_cl_b, eb_in_b, nI_1, nI_pred, Int32.reduceToNatClampNeg, eb_u_ap, Prod.mk.injEq, not_true_eq_false, not_false_eq_true, tyM, rl21, rl25, sp_rg, sp_iI, sp_iG, sp_iS, h3.1, k18, c1]
    refine ⟨eb_u I3 (21, 0, 0) 19 0, rfl, ⟨by simp [eb_u, k20], by simp [eb_u, k18], by simp [eb_u, sk_kind], fun z => absurd z (by show ¬ sk_kind (-1) = 2; decide)⟩, eb_fl_tr f3 (eb_fl_u ⟨by omega, by omega⟩)⟩
theorem m_wrong (h : eb_KM I T K) : eb_ev L (d + 1) 178 [zr (21, 0, 0)] (nc, ns, I, J, eb_RL C mt mk) = some (zi 0, (nc, ns, eb_u I (21, 0, 0) 22 (nI K.2.1), J, eb_RL C mt mk)) := by
  rw [h178 rfl]
  simp (decide := true) (disch := omega) only [e178_0, e178_1, e178_2, e178_5, e178_8, e178_9, bi_s, tyX, rl1, rl2, rl4, ↓reduceIte, Option.bind_some, true_and, and_true, false_and, and_false, true_or, or_true, false_or, or_false, if_same0, ite_eq0, ite_eq0', ite_eq1, ite_eq1', or_em, or_em', ite_not, lcmp0, lcmpL, lcmpG, nI_cl_b, eb_in_b, nI_1, nI_pred, Int32.reduceToNatClampNeg, eb_u_ap, Prod.mk.injEq, not_true_eq_false, not_false_eq_true, tyM, rl21, rl25, sp_rg, sp_iI, sp_iG, sp_iS, h.1]
theorem wrong_K (h : eb_KM I T K) {x : Int32} : eb_KM (eb_u I (21, 0, 0) 22 x) T K ∧ eb_fq I (eb_u I (21, 0, 0) 22 x) := by
  obtain ⟨h1, h2, h3, h4⟩ := h
  exact ⟨⟨by simp [eb_u, h1], by simp [eb_u, h2], by simp [eb_u, h3], fun z => by simp [eb_u, h4 z]⟩, fun a l q _ => if_neg (fun z => q ⟨z.1, by omega, by omega⟩)⟩
theorem m_numN (h : eb_TM I T) (hK : eb_KM I T K) {lo hi : Int32} (hs : sk_take T K lo hi = none) {j : Nat} : eb_ev L (d + 3) 180 [zr (21, 0, 0), zi (nI j), zi lo, zi hi] (nc, ns, I, J, eb_RL C mt mk) = some (zi 0, (nc, ns, eb_u I (21, 0, 0) 22 (nI K.2.1), J, eb_RL C mt mk)) := by
  have hwr := m_wrong (L := L) (d := d + 1) (nc := nc) (ns := ns) (J := J) (C := C) (mt := mt) (mk := mk) hK
  rw [h180 rfl]
  unfold sk_take at hs
  by_cases c1 : K.1 = 2
  · have k21 := hK.2.2.2 c1
    have c2 : ¬ (lo ≤ sk_fig T K ∧ sk_fig T K ≤ hi) := fun q => by
      rw [if_pos ⟨c1, q.1, q.2⟩] at hs
      cases hs
    simp (decide := true) (disch := omega) only [e180_0, e180_1, e180_4, e180_5, e180_8, e180_9, e180_12, e180_13, e180_14, e180_15, e180_16, e180_17, e180_20, e180_23, e180_24, e180_27, e180_28, e180_29, e180_32, e180_33, e180_34, e180_37, e180_38, e180_39, e180_42, e180_43, bi_s, tyX, rl1, rl2, rl4, ↓reduceIte, Option.bind_some, true_and, and_true, false_and, and_false, true_or, or_true, false_or, or_false, if_same0, ite_eq0, ite_eq0', ite_eq1, ite_eq1', or_em, or_em', ite_not, lcmp0, lcmpL, lcmpG, nI_cl_b, eb_in_b, nI_1, nI_pred, Int32.reduceToNatClampNeg, eb_u_ap, Prod.mk.injEq, not_true_eq_false, not_false_eq_true, tyM, rl21, rl25, sp_rg, sp_iI, sp_iG, sp_iS, hK.2.2.1, c1, k21, m_i64, c2, hwr]
  · simp (decide := true) (disch := omega) only [e180_0, e180_1, e180_4, e180_5, e180_8, e180_9, e180_12, e180_13, e180_14, e180_15, e180_16, e180_17, e180_20, e180_23, e180_24, e180_27, e180_28, e180_29, e180_32, e180_33, e180_34, e180_37, e180_38, e180_39, e180_42, e180_43, bi_s, tyX, rl1, rl2, rl4, ↓reduceIte, Option.bind_some, true_and, and_true, false_and, and_false, true_or, or_true, false_or, or_false, if_same0, ite_eq0, ite_eq0', ite_eq1, ite_eq1', or_em, or_em', ite_not, lcmp0, lcmpL, lcmpG, nI_cl_b, eb_in_b, nI_1, nI_pred, Int32.reduceToNatClampNeg, eb_u_ap, Prod.mk.injEq, not_true_eq_false, not_false_eq_true, tyM, rl21, rl25, sp_rg, sp_iI, sp_iG, sp_iS, hK.2.2.1, c1, hwr]
theorem m_numS (h : eb_TM I T) (ht : sk_okT T) (hK : eb_KM I T K) (hwf : sk_wf T K) {lo hi v : Int32} (hs : sk_take T K lo hi = some v) {j : Nat} (hj : j < 3) : ∃ I', eb_ev L (d + 3) 180 [zr (21, 0, 0), zi (nI j), zi lo, zi hi] (nc, ns, I, J, eb_RL C mt mk) = some (zi 1, (nc, ns, I', J, eb_RL C mt mk)) ∧ eb_KM I' T (sk_nx T K) ∧ eb_fq I I' ∧ I' (35, 0, 0) j = v ∧ ∀ l, ¬ l = j → I' (35, 0, 0) l = I (35, 0, 0) l := by
  rw [h180 rfl]
  unfold sk_take at hs
  by_cases c : K.1 = 2 ∧ lo ≤ sk_fig T K ∧ sk_fig T K ≤ hi
  · rw [if_pos c] at hs
    obtain ⟨c1, c2, c3⟩ := c
    have hv : sk_fig T K = v := by injection hs
    have k21 := (hK.2.2.2 c1).trans hv
    rw [hv] at c2 c3
    have hT1 : eb_TM (eb_u I (35, 0, 0) j v) T := ⟨by simp [eb_u, h.1], fun l hl => by simp [eb_u, h.2 l hl]⟩
    obtain ⟨I1, a1, a2, a3⟩ := m_look (L := L) (d := d) (nc := nc) (ns := ns) (I := eb_u I (35, 0, 0) j v) (J := J) (C := C) (mt := mt) (mk := mk) hT1 ht (e := K.2.2) (by simp [eb_u, hK.2.1]) hwf.2
    simp (decide := true) (disch := omega) only [e180_0, e180_1, e180_4, e180_5, e180_8, e180_9, e180_12, e180_13, e180_14, e180_15, e180_16, e180_17, e180_20, e180_23, e180_24, e180_27, e180_28, e180_29, e180_32, e180_33, e180_34, e180_37, e180_38, e180_39, e180_42, e180_43, bi_s, tyX, rl1, rl2, rl4, ↓reduceIte, Option.bind_some, true_and, and_true, false_and, and_false, true_or, or_true, false_or, or_false, if_same0, ite_eq0, ite_eq0', ite_eq1, ite_eq1', or_em, or_em', ite_not, lcmp0, lcmpL, lcmpG, nI_cl_b, eb_in_b, nI_1, nI_pred, Int32.reduceToNatClampNeg, eb_u_ap, Prod.mk.injEq, not_true_eq_false, not_false_eq_true, tyM, rl21, rl25, sp_rg, sp_iI, sp_iG, sp_iS, hK.2.2.1, c1, k21, m_i64, c2, c3, a1]
    refine ⟨I1, rfl, a2, fun a l q1 q2 => (a3 a l (fun z => q1 ⟨z.1, z.2.1, by omega⟩)).trans (if_neg (fun z => q2 z.1)), (a3 _ _ (by simp)).trans eb_u_s, fun l hl => (a3 _ _ (by simp)).trans (if_neg (fun z => hl z.2))⟩
  · rw [if_neg c] at hs; cases hs
/-- a token on, then a number -/
theorem m_tellsN (h : eb_TM I T) (ht : sk_okT T) (hK : eb_KM I T K) (hwf : sk_wf T K) {lo hi : Int32} (hs : sk_take T (sk_nx T K) lo hi = none) : ∃ I', eb_ev L (d + 4) 181 [zr (21, 0, 0), zi lo, zi hi] (nc, ns, I, J, eb_RL C mt mk) = some (zi 0, (nc, ns, I', J, eb_RL C mt mk)) ∧ eb_fq I I' ∧ I' (21, 0, 0) 22 = nI (sk_nx T K).2.1 := by
  rw [h181 rfl]
  obtain ⟨I1, a1, a2, a3⟩ := m_look (L := L) (d := d + 1) (nc := nc) (ns := ns) (J := J) (C := C) (mt := mt) (mk := mk) h ht hK.2.1 hwf.2
  have b1 := m_numN (L := L) (d := d) (nc := nc) (ns := ns) (J := J) (C := C) (mt := mt) (mk := mk) (eb_fq_TM (eb_fl_q a3) h) a2 hs (j := 0)
  rw [nI_0] at b1
  simp (decide := true) (disch := omega) only [e181_0, e181_1, e181_4, e181_5, e181_6, e181_7, e181_8, e181_11, bi_s, tyX, rl1, rl2, rl4, ↓reduceIte, Option.bind_some, true_and, and_true, false_and, and_false, true_or, or_true, false_or, or_false, if_same0, ite_eq0, ite_eq0', ite_eq1, ite_eq1', or_em, or_em', ite_not, lcmp0, lcmpL, lcmpG, nI_cl_b, eb_in_b, nI_1, nI_pred, Int32.reduceToNatClampNeg, eb_u_ap, Prod.mk.injEq, not_true_eq_false, not_false_eq_true, tyM, rl21, rl25, sp_rg, sp_iI, sp_iG, sp_iS, a1, b1]
  exact ⟨_, rfl, eb_fq_tr (eb_fl_q a3) (wrong_K a2).2, eb_u_s⟩
theorem m_tellsS (h : eb_TM I T) (ht : sk_okT T) (hK : eb_KM I T K) (hwf : sk_wf T K) {lo hi v : Int32} (hs : sk_take T (sk_nx T K) lo hi = some v) : ∃ I', eb_ev L (d + 4) 181 [zr (21, 0, 0), zi lo, zi hi] (nc, ns, I, J, eb_RL C mt mk) = some (zi 1, (nc, ns, I', J, eb_RL C mt mk)) ∧ eb_KM I' T (sk_nx T (sk_nx T K)) ∧ eb_fq I I' ∧ I' (35, 0, 0) 0 = v ∧ ∀ l, ¬ l = 0 → I' (35, 0, 0) l = I (35, 0, 0) l := by
  rw [h181 rfl]
  obtain ⟨I1, a1, a2, a3⟩ := m_look (L := L) (d := d + 1) (nc := nc) (ns := ns) (J := J) (C := C) (mt := mt) (mk := mk) h ht hK.2.1 hwf.2
  obtain ⟨I2, b1, b2, b3, b4, b5⟩ := m_numS (L := L) (d := d) (nc := nc) (ns := ns) (J := J) (C := C) (mt := mt) (mk := mk) (eb_fq_TM (eb_fl_q a3) h) ht a2 (sk_nx_wf hwf) hs (j := 0) (by omega)
  rw [nI_0] at b1
  simp (decide := true) (disch := omega) only [e181_0, e181_1, e181_4, e181_5, e181_6, e181_7, e181_8, e181_11, bi_s, tyX, rl1, rl2, rl4, ↓reduceIte, Option.bind_some, true_and, and_true, false_and, and_false, true_or, or_true, false_or, or_false, if_same0, ite_eq0, ite_eq0', ite_eq1, ite_eq1', or_em, or_em', ite_not, lcmp0, lcmpL, lcmpG, nI_cl_b, eb_in_b, nI_1, nI_pred, Int32.reduceToNatClampNeg, eb_u_ap, Prod.mk.injEq, not_true_eq_false, not_false_eq_true, tyM, rl21, rl25, sp_rg, sp_iI, sp_iG, sp_iS, a1, b1]
  exact ⟨I2, rfl, b2, eb_fq_tr (eb_fl_q a3) b3, b4, fun l hl => (b5 l hl).trans (a3 _ _ (by simp))⟩
theorem m_isWord (h : eb_TM I T) (ht : sk_okT T) (hK : eb_KM I T K) (hwf : sk_wf T K) {z : Nat} (hz : z < 6) : eb_ev L (d + 6) 179 [zr (21, 0, 0), zr (50, z + 6, 0)] (nc, ns, I, J, eb_RL C mt mk) = some (zi (if sk_isw T K z = true then 1 else 0), (nc, ns, I, J, eb_RL C mt mk)) := by
  have h2 := ht.1
  obtain ⟨w1, w2⟩ := hwf
  obtain ⟨kk, s, e⟩ := K
  obtain ⟨k1, k2, k3, -⟩ := hK
  have k1 : I (21, 0, 0) 20 = nI s := k1
  have k2 : I (21, 0, 0) 18 = nI e := k2
  have k3 : I (21, 0, 0) 19 = kk := k3
  have w1 : s ≤ e := w1
  have w2 : e ≤ T.2 := w2
  have hlen := eb_tx_len z hz
  have bl := fun M => bi_len (L := L) (d := d + 3) (M := M) (z := z + 6) (by omega)
  have ba := fun M i => bi_at (L := L) (d := d) (M := M) (z := z + 6) (i := i) (by omega)
  rw [show (z + 6) % 6 = z by omega] at bl ba
  generalize hlz : (eb_tx z).length = l at hlen bl ba
  rw [h179 rfl]
  have hisw : sk_isw T (kk, s, e) z = (decide (kk = 1 ∧ e - s = l) && sk_eq T s (eb_tx z) l) := by unfold sk_isw; rw [hlz]
  rw [hisw]
  by_cases c1 : kk = 1
  · have hsub : nI e - nI s = nI (e - s) := nI_sub w1
    by_cases c2 : e - s = l
    · rw [decide_eq_true ⟨c1, c2⟩, Bool.true_and]
      have c3 : (nI (e - s) = nI l) = True := by rw [c2]; exact eq_true rfl
      simp (decide := true) (disch := omega) only [e179_0, e179_1, e179_4, e179_5, e179_8, e179_9, e179_12, e179_13, e179_16, e179_17, e179_18, e179_21, e179_24, e179_25, e179_26, e179_27, bi_s, tyX, rl1, rl2, rl4, ↓reduceIte, Option.bind_some, true_and, and_true, false_and, and_false, true_or, or_true, false_or, or_false, if_same0, ite_eq0, ite_eq0', ite_eq1, ite_eq1', or_em, or_em', ite_not, lcmp0, lcmpL, lcmpG, nI_cl_b, eb_in_b, nI_1, nI_pred, Int32.reduceToNatClampNeg, eb_u_ap, Prod.mk.injEq, not_true_eq_false, not_false_eq_true, tyM, rl21, rl25, sp_rg, sp_iI, sp_iG, sp_iS, k3, c1, k1, k2, hsub, bl, c3]
      have key := eb_loopE (α := Unit) (n := l) (s0 := ())
        (F := fun i _ => eb_E L (d + 5) 179 28 [some (zr (21, 0, 0)), some (zr (50, z + 6, 0)), some (zi (nI i))] [] (nc, ns, I, J, eb_RL C mt mk))
        (P := fun i _ => sk_eq T s (eb_tx z) i = true)
        (Q := fun r => r = some (zi (if sk_eq T s (eb_tx z) l = true then 1 else 0), (nc, ns, I, J, eb_RL C mt mk)))
        rfl (by
          intro i _ hi hP
          have hb := h.2 (s + i) (by omega)
          have hs250 : s + i < 250 := by omega
          have hat := fun M => ba M i hi (by omega)
          have c4 : (nI i < nI l) = True := by rw [nI_lt_b (by omega) (by omega)]; exact eq_true hi
          by_cases c : T.1 (s + i) = (eb_tx z).getD i 0
          · left
            rw [e179_28]
            simp (decide := true) (disch := omega) only [e179_29, e179_30, e179_33, e179_36, e179_37, e179_40, e179_41, e179_44, e179_45, e179_46, e179_47, e179_48, e179_49, e179_52, e179_55, e179_56, e179_57, e179_60, e179_63, e179_64, bi_s, tyX, rl1, rl2, rl4, ↓reduceIte, Option.bind_some, true_and, and_true, false_and, and_false, true_or, or_true, false_or, or_false, if_same0, ite_eq0, ite_eq0', ite_eq1, ite_eq1', or_em, or_em', ite_not, lcmp0, lcmpL, lcmpG, nI_cl_b, eb_in_b, nI_1, nI_pred, Int32.reduceToNatClampNeg, eb_u_ap, Prod.mk.injEq, not_true_eq_false, not_false_eq_true, tyM, rl21, rl25, sp_rg, sp_iI, sp_iG, sp_iS, bl, c4, k1, nI_add, hb, hat, c]
            have hh : sk_eq T s (eb_tx z) (i + 1) = true := by show (_ && decide _) = true; rw [hP, decide_eq_true c]; rfl
            first | exact ⟨(), rfl, hh⟩ | exact ⟨(), hh⟩ | exact hh
          · right
            rw [e179_28]
            simp (decide := true) (disch := omega) only [e179_29, e179_30, e179_33, e179_36, e179_37, e179_40, e179_41, e179_44, e179_45, e179_46, e179_47, e179_48, e179_49, e179_52, e179_55, e179_56, e179_57, e179_60, e179_63, e179_64, bi_s, tyX, rl1, rl2, rl4, ↓reduceIte, Option.bind_some, true_and, and_true, false_and, and_false, true_or, or_true, false_or, or_false, if_same0, ite_eq0, ite_eq0', ite_eq1, ite_eq1', or_em, or_em', ite_not, lcmp0, lcmpL, lcmpG, nI_cl_b, eb_in_b, nI_1, nI_pred, Int32.reduceToNatClampNeg, eb_u_ap, Prod.mk.injEq, not_true_eq_false, not_false_eq_true, tyM, rl21, rl25, sp_rg, sp_iI, sp_iG, sp_iS, bl, c4, k1, nI_add, hb, hat, c]
            rw [sk_eq_no hi c]
            rfl) (by
          intro _ hP
          rw [e179_28]
          simp (decide := true) (disch := omega) only [e179_29, e179_30, e179_33, e179_36, e179_37, e179_40, e179_41, e179_44, e179_45, e179_46, e179_47, e179_48, e179_49, e179_52, e179_55, e179_56, e179_57, e179_60, e179_63, e179_64, bi_s, tyX, rl1, rl2, rl4, ↓reduceIte, Option.bind_some, true_and, and_true, false_and, and_false, true_or, or_true, false_or, or_false, if_same0, ite_eq0, ite_eq0', ite_eq1, ite_eq1', or_em, or_em', ite_not, lcmp0, lcmpL, lcmpG, nI_cl_b, eb_in_b, nI_1, nI_pred, Int32.reduceToNatClampNeg, eb_u_ap, Prod.mk.injEq, not_true_eq_false, not_false_eq_true, tyM, rl21, rl25, sp_rg, sp_iI, sp_iG, sp_iS, bl, nI_lt_b, Nat.lt_irrefl, hP])
      simp only [nI_0] at key
      exact key
    · have c3 : (nI (e - s) = nI l) = False := by rw [nI_eq_b (by omega) (by omega)]; exact eq_false c2
      rw [decide_eq_false (fun q => c2 q.2), Bool.false_and]
      simp (decide := true) (disch := omega) only [e179_0, e179_1, e179_4, e179_5, e179_8, e179_9, e179_12, e179_13, e179_16, e179_17, e179_18, e179_21, e179_24, e179_25, e179_26, e179_27, bi_s, tyX, rl1, rl2, rl4, ↓reduceIte, Option.bind_some, true_and, and_true, false_and, and_false, true_or, or_true, false_or, or_false, if_same0, ite_eq0, ite_eq0', ite_eq1, ite_eq1', or_em, or_em', ite_not, lcmp0, lcmpL, lcmpG, nI_cl_b, eb_in_b, nI_1, nI_pred, Int32.reduceToNatClampNeg, eb_u_ap, Prod.mk.injEq, not_true_eq_false, not_false_eq_true, tyM, rl21, rl25, sp_rg, sp_iI, sp_iG, sp_iS, k3, c1, k1, k2, hsub, bl, c3]
  · rw [decide_eq_false (fun q => c1 q.1), Bool.false_and]
    simp (decide := true) (disch := omega) only [e179_0, e179_1, e179_4, e179_5, e179_8, e179_9, e179_12, e179_13, e179_16, e179_17, e179_18, e179_21, e179_24, e179_25, e179_26, e179_27, bi_s, tyX, rl1, rl2, rl4, ↓reduceIte, Option.bind_some, true_and, and_true, false_and, and_false, true_or, or_true, false_or, or_false, if_same0, ite_eq0, ite_eq0', ite_eq1, ite_eq1', or_em, or_em', ite_not, lcmp0, lcmpL, lcmpG, nI_cl_b, eb_in_b, nI_1, nI_pred, Int32.reduceToNatClampNeg, eb_u_ap, Prod.mk.injEq, not_true_eq_false, not_false_eq_true, tyM, rl21, rl25, sp_rg, sp_iI, sp_iG, sp_iS, k3, c1]
end

/-! the tape: statements, the whole of it, as the reference reads it -/
theorem sk_eq_at {T : eb_Tp} {s : Nat} {tx : List Int32} {n i : Nat} (h : sk_eq T s tx n = true) (hi : i < n) : T.1 (s + i) = tx.getD i 0 := by
  refine Classical.byContradiction fun q => ?_
  rw [sk_eq_no hi q] at h
  cases h
theorem sk_isw_d {T : eb_Tp} {K : eb_K} {z : Nat} (h : sk_isw T K z = true) : K.2.2 - K.2.1 = (eb_tx z).length ∧ sk_eq T K.2.1 (eb_tx z) (eb_tx z).length = true := by
  unfold sk_isw at h
  rw [Bool.and_eq_true] at h
  exact ⟨(of_decide_eq_true h.1).2, h.2⟩
/-- a token is one word only -/
theorem sk_isw_1 {T : eb_Tp} {K : eb_K} {z y : Nat} (h : sk_isw T K z = true) (hn : ¬ ((eb_tx z).length = (eb_tx y).length ∧ (eb_tx z).getD 0 0 = (eb_tx y).getD 0 0)) (hz : 0 < (eb_tx z).length) : sk_isw T K y = false := by
  cases hy : sk_isw T K y with
  | false => rfl
  | true =>
    obtain ⟨a1, a2⟩ := sk_isw_d h
    obtain ⟨b1, b2⟩ := sk_isw_d hy
    exact absurd ⟨a1.symm.trans b1, (sk_eq_at a2 hz).symm.trans (sk_eq_at b2 (by omega))⟩ hn
theorem pr_stmt_len {T : eb_Tp} {w w' : eb_W} {K : eb_K} (h : (pr_stmt T w K).2 = some w') : K.2.1 + 3 ≤ K.2.2 := by
  have go : ∀ z, z < 6 → sk_isw T K z = true → K.2.1 + 3 ≤ K.2.2 := fun z hz q => by
    have h1 := (sk_isw_d q).1
    have h2 : ∀ z, z < 6 → 3 ≤ (eb_tx z).length := by decide
    have := h2 z hz
    omega
  unfold pr_stmt at h
  by_cases c0 : sk_isw T K 0 = true
  · exact go 0 (by omega) c0
  rw [if_neg c0] at h
  by_cases c1 : sk_isw T K 1 = true
  · exact go 1 (by omega) c1
  rw [if_neg c1] at h
  by_cases c2 : sk_isw T K 2 = true
  · exact go 2 (by omega) c2
  rw [if_neg c2] at h
  by_cases c3 : sk_isw T K 3 = true
  · exact go 3 (by omega) c3
  rw [if_neg c3] at h
  by_cases c4 : sk_isw T K 4 = true
  · exact go 4 (by omega) c4
  rw [if_neg c4] at h
  cases h
section
variable {L d nc ns k i g r : Nat} {I : eb_A → Nat → Int32} {J : eb_A → Nat → Int64} {C : Nat → Nat → Nat} {mt mk : Option Nat} {w : eb_W} {R : eb_A → Nat → Option eb_A} {S : eb_St} {M : eb_M} {T : eb_Tp} {K : eb_K} {x : Int32}
theorem m_takeFault {r1 : Nat} (h : eb_RM I r1 w) (hw : sp_ok w) (hr : ¬ r1 = r) : ∃ I', eb_ev L (d + 2) 248 [zr (21, r, 0), zr (21, r1, 0)] (nc, ns, I, J, eb_RL C mt mk) = some (zn, (nc, ns, I', J, eb_RL C mt mk)) ∧ eb_RM I' r w ∧ eb_gv r I I' ∧ I' (21, r, 0) 22 = I (21, r, 0) 22 := by
  have hn := hw.1
  have hg := hw.2.1
  rw [h248 rfl]
  simp (decide := true) (disch := omega) only [e248_0, e248_1, e248_2, e248_5, e248_8, e248_9, e248_10, e248_13, e248_16, e248_17, e248_19, e248_21, e248_24, e248_25, e248_28, e248_29, e248_30, e248_31, e248_34, e248_35, e248_36, e248_39, e248_40, e248_43, e248_44, e248_45, e248_46, e248_49, e248_50, e248_51, e248_54, e248_57, e248_60, e248_61, e248_62, e248_65, e248_68, e248_69, e248_70, e248_73, e248_76, e248_77, e248_78, e248_81, e248_84, bi_s, tyX, rl1, rl2, rl4, ↓reduceIte, Option.bind_some, true_and, and_true, false_and, and_false, true_or, or_true, false_or, or_false, if_same0, ite_eq0, ite_eq0', ite_eq1, ite_eq1', or_em, or_em', ite_not, lcmp0, lcmpL, lcmpG, nI_cl_b, eb_in_b, nI_1, nI_pred, Int32.reduceToNatClampNeg, eb_u_ap, Prod.mk.injEq, not_true_eq_false, not_false_eq_true, tyM, rl21, rl25, sp_rg, sp_iI, sp_iG, sp_iS, hr, h.1.1, h.1.2.1]
  generalize hI0 : eb_u (eb_u I (21, r, 0) 9 (nI w.1)) (21, r, 0) 11 (nI w.2.1) = I0
  have f0 : ∀ a l, ¬ (a = (21, r, 0) ∧ (l = 9 ∨ l = 11)) → I0 a l = I a l := fun a l q => by
    have q1 : ¬ (a = (21, r, 0) ∧ l = 9) := fun z => q ⟨z.1, Or.inl z.2⟩
    have q2 : ¬ (a = (21, r, 0) ∧ l = 11) := fun z => q ⟨z.1, Or.inr z.2⟩
    rw [← hI0]; simp only [eb_u, q1, q2, if_false]
  obtain ⟨I1, e, e1, e2, e3⟩ := eb_loop (α := eb_A → Nat → Int32) (n := 6) (s0 := I0)
    (F := fun i s => eb_E L (d + 1) 248 18 [some (zr (21, r, 0)), some (zr (21, r1, 0)), some (zi (nI i))] [] (nc, ns, s, J, eb_RL C mt mk))
    (P := fun i s => (∀ j, j < i → ∀ l, l < 7 → s (32, r, j) l = I (32, r1, j) l) ∧ (∀ j, j < i → ∀ l, l < 3 → s (34, r, j) l = I (34, r1, j) l) ∧ ∀ a l, ¬ (a.2.1 = r ∧ (a.1 = 32 ∨ a.1 = 34)) → s a l = I0 a l)
    ⟨fun j hj => absurd hj (Nat.not_lt_zero _), fun j hj => absurd hj (Nat.not_lt_zero _), fun _ _ _ => rfl⟩ (by
      intro i I1 hi hP
      obtain ⟨h1, h2, h3⟩ := hP
      obtain ⟨I2, a1, a2, a3⟩ := m_over (L := L) (d := d) (nc := nc) (ns := ns) (I := I1) (J := J) (R := eb_RL C mt mk) (a := (32, r1, i)) (b := (32, r, i)) (n := 7) rfl rfl (by simp [hr]) (by omega)
      obtain ⟨I3, b1, b2, b3⟩ := m_over (L := L) (d := d) (nc := nc) (ns := ns) (I := I2) (J := J) (R := eb_RL C mt mk) (a := (34, r1, i)) (b := (34, r, i)) (n := 3) rfl rfl (by simp [hr]) (by omega)
      have c6 : (nI i < 6) = True := by rw [show (6 : Int32) = nI 6 from rfl, nI_lt_b (by omega) (by omega)]; exact eq_true hi
      rw [e248_18]
      simp (decide := true) (disch := omega) only [e248_19, e248_21, e248_24, e248_25, e248_28, e248_29, e248_30, e248_31, e248_34, e248_35, e248_36, e248_39, e248_40, e248_43, e248_44, e248_45, e248_46, e248_49, e248_50, e248_51, e248_54, e248_57, bi_s, tyX, rl1, rl2, rl4, ↓reduceIte, Option.bind_some, true_and, and_true, false_and, and_false, true_or, or_true, false_or, or_false, if_same0, ite_eq0, ite_eq0', ite_eq1, ite_eq1', or_em, or_em', ite_not, lcmp0, lcmpL, lcmpG, nI_cl_b, eb_in_b, nI_1, nI_pred, Int32.reduceToNatClampNeg, eb_u_ap, Prod.mk.injEq, not_true_eq_false, not_false_eq_true, tyM, rl21, rl25, sp_rg, sp_iI, sp_iG, sp_iS, c6, a1, b1]
      refine ⟨I3, rfl, fun j hj l hl => ?_, fun j hj l hl => ?_, fun a l hal => ?_⟩
      · rw [b3 _ _ (by simp)]
        by_cases q : j = i
        · subst q
          rw [a2 l hl, h3 _ _ (by simp [hr]), f0 _ _ (by simp)]
        · rw [a3 _ _ (by simp [q])]; exact h1 j (by omega) l hl
      · by_cases q : j = i
        · subst q
          rw [b2 l hl, a3 _ _ (by simp), h3 _ _ (by simp [hr]), f0 _ _ (by simp)]
        · rw [b3 _ _ (by simp [q]), a3 _ _ (by simp)]; exact h2 j (by omega) l hl
      · rw [b3 a l (fun z => hal (by rw [z]; exact ⟨rfl, Or.inr rfl⟩)), a3 a l (fun z => hal (by rw [z]; exact ⟨rfl, Or.inl rfl⟩))]
        exact h3 a l hal)
  simp only [nI_0] at e
  have c6 : nI 6 = 6 := rfl
  have k13 : I1 (21, r1, 0) 13 = w.2.2.1 0 := by rw [e3 _ _ (by simp), f0 _ _ (by simp [hr])]; exact h.1.2.2.1
  have k14 : I1 (21, r1, 0) 14 = w.2.2.1 1 := by rw [e3 _ _ (by simp), f0 _ _ (by simp [hr])]; exact h.1.2.2.2.1
  have k15 : I1 (21, r1, 0) 15 = w.2.2.1 2 := by rw [e3 _ _ (by simp), f0 _ _ (by simp [hr])]; exact h.1.2.2.2.2
  rw [e, e248_18]
  simp (decide := true) (disch := omega) only [e248_19, e248_21, e248_24, e248_25, e248_28, e248_29, e248_30, e248_31, e248_34, e248_35, e248_36, e248_39, e248_40, e248_43, e248_44, e248_45, e248_46, e248_49, e248_50, e248_51, e248_54, e248_57, e248_60, e248_61, e248_62, e248_65, e248_68, e248_69, e248_70, e248_73, e248_76, e248_77, e248_78, e248_81, e248_84, bi_s, tyX, rl1, rl2, rl4, ↓reduceIte, Option.bind_some, true_and, and_true, false_and, and_false, true_or, or_true, false_or, or_false, if_same0, ite_eq0, ite_eq0', ite_eq1, ite_eq1', or_em, or_em', ite_not, lcmp0, lcmpL, lcmpG, nI_cl_b, eb_in_b, nI_1, nI_pred, Int32.reduceToNatClampNeg, eb_u_ap, Prod.mk.injEq, not_true_eq_false, not_false_eq_true, tyM, rl21, rl25, sp_rg, sp_iI, sp_iG, sp_iS, c6, k13, k14, k15, hr]
  generalize hI5 : eb_u (eb_u (eb_u I1 (21, r, 0) 13 (w.2.2.1 0)) (21, r, 0) 14 (w.2.2.1 1)) (21, r, 0) 15 (w.2.2.1 2) = I5
  have f5 : ∀ a l, ¬ (a = (21, r, 0) ∧ (l = 13 ∨ l = 14 ∨ l = 15)) → I5 a l = I1 a l := fun a l q => by
    have q1 : ¬ (a = (21, r, 0) ∧ l = 13) := fun z => q ⟨z.1, Or.inl z.2⟩
    have q2 : ¬ (a = (21, r, 0) ∧ l = 14) := fun z => q ⟨z.1, Or.inr (Or.inl z.2)⟩
    have q3 : ¬ (a = (21, r, 0) ∧ l = 15) := fun z => q ⟨z.1, Or.inr (Or.inr z.2)⟩
    rw [← hI5]; simp only [eb_u, q1, q2, q3, if_false]
  refine ⟨I5, rfl, ⟨⟨?_, ?_, ?_, ?_, ?_⟩, fun i hi f hf => ?_, fun j hj f hf => ?_⟩, fun a l hal => ?_, by rw [f5 _ _ (by simp), e3 _ _ (by simp), f0 _ _ (by simp)]⟩
  · rw [f5 _ _ (by simp), e3 _ _ (by simp), ← hI0]; simp [eb_u]
  · rw [f5 _ _ (by simp), e3 _ _ (by simp), ← hI0]; simp [eb_u]
  · rw [← hI5]; simp [eb_u]
  · rw [← hI5]; simp [eb_u]
  · rw [← hI5]; simp [eb_u]
  · rw [f5 _ _ (by simp), e1 i (by omega) f hf]; exact h.2.1 i hi f hf
  · rw [f5 _ _ (by simp), e2 j (by omega) f hf]; exact h.2.2 j hj f hf
  · rw [f5 a l (fun z => hal (by rw [z.1]; exact ⟨rfl, Or.inr (Or.inr (Or.inr (Or.inr ⟨rfl, by omega⟩)))⟩)), e3 a l (fun z => hal ⟨z.1, by omega⟩), f0 a l (fun z => hal (by rw [z.1]; exact ⟨rfl, Or.inr (Or.inr (Or.inr (Or.inr ⟨rfl, by omega⟩)))⟩))]
theorem m_goerF (h : eb_RM I 0 w) (hn : w.2.1 < 6) {a b c : Int32} (c1 : sp_rg a 0 5) (c2 : sp_rg b 1 30) (c3 : sp_rg c 0 99) : ∃ v, eb_ev L (d + 5) 163 [zr (21, 0, 0), zi a, zi b, zi c] (nc, ns, I, J, eb_RL C mt mk) = some (zi v, (nc, ns, eb_u (eb_u (eb_u (eb_u I (34, 0, w.2.1) 0 a) (34, 0, w.2.1) 1 b) (34, 0, w.2.1) 2 c) (21, 0, 0) 11 (nI (w.2.1 + 1)), J, eb_RL C mt mk)) := by
  rw [h163 rfl]
  have g9 : (nI w.2.1 = 6) = False := by rw [show (6 : Int32) = nI 6 from rfl, nI_eq_b (by omega) (by omega)]; exact eq_false (by omega)
  simp (decide := true) (disch := omega) only [e163_0, e163_1, e163_2, e163_3, e163_6, e163_9, e163_12, e163_13, e163_14, e163_15, e163_18, e163_21, e163_24, e163_25, e163_26, e163_27, e163_30, e163_33, e163_36, e163_37, e163_39, e163_42, e163_43, e163_44, e163_47, e163_49, e163_52, e163_53, e163_55, e163_58, e163_59, e163_60, e163_63, e163_64, e163_67, e163_68, e163_69, e163_70, e163_71, e163_72, e163_75, e163_76, e163_79, e163_80, e163_81, e163_82, e163_83, e163_84, e163_87, e163_88, e163_91, e163_92, e163_93, e163_94, e163_95, e163_96a, e163_96b, e163_97, e163_100, e163_101, e163_102, e163_103, e163_106, bi_s, tyX, rl1, rl2, rl4, ↓reduceIte, Option.bind_some, true_and, and_true, false_and, and_false, true_or, or_true, false_or, or_false, if_same0, ite_eq0, ite_eq0', ite_eq1, ite_eq1', or_em, or_em', ite_not, lcmp0, lcmpL, lcmpG, nI_cl_b, eb_in_b, nI_1, nI_pred, Int32.reduceToNatClampNeg, eb_u_ap, Prod.mk.injEq, not_true_eq_false, not_false_eq_true, tyM, rl21, rl25, sp_rg, sp_iI, sp_iG, sp_iS, m_ins, c1, c2, c3, h.1.2.1, g9]
  exact ⟨_, rfl⟩
theorem b01_01 {α : Type} (o : Option α) : (eb_b01 o = 0 ∨ eb_b01 o = 1) = True := by
  cases o with
  | none => exact eq_true (Or.inl rfl)
  | some _ => exact eq_true (Or.inr rfl)
theorem m_statement (ht : sk_okT T) (hwf : sk_wf T K) (hw : sp_ok w) : eb_PM L (d + 8) 185 T w K (pr_stmt T w K) := by
  intro nc ns I J C mt mk h hK hR
  have hn := hw.1
  have hg := hw.2.1
  rw [h185 rfl]
  have i0 := m_isWord (L := L) (d := d + 1) (nc := nc) (ns := ns) (J := J) (C := C) (mt := mt) (mk := mk) h ht hK hwf (z := 0) (by omega)
  have i1 := m_isWord (L := L) (d := d + 1) (nc := nc) (ns := ns) (J := J) (C := C) (mt := mt) (mk := mk) h ht hK hwf (z := 1) (by omega)
  have i2 := m_isWord (L := L) (d := d + 1) (nc := nc) (ns := ns) (J := J) (C := C) (mt := mt) (mk := mk) h ht hK hwf (z := 2) (by omega)
  have i3 := m_isWord (L := L) (d := d + 1) (nc := nc) (ns := ns) (J := J) (C := C) (mt := mt) (mk := mk) h ht hK hwf (z := 3) (by omega)
  have i4 := m_isWord (L := L) (d := d + 1) (nc := nc) (ns := ns) (J := J) (C := C) (mt := mt) (mk := mk) h ht hK hwf (z := 4) (by omega)
  have wr := m_wrong (L := L) (d := d + 6) (nc := nc) (ns := ns) (J := J) (C := C) (mt := mt) (mk := mk) hK
  have wfin : ∃ I', some ((zi 0 : eb_V), ((nc, ns, eb_u I (21, 0, 0) 22 (nI K.2.1), J, eb_RL C mt mk) : eb_M)) = some (zi (eb_b01 (none : Option eb_W)), (nc, ns, I', J, eb_RL C mt mk)) ∧ eb_fs I I' ∧ I' (21, 0, 0) 22 = nI K.2.1 := ⟨_, rfl, eb_fq_s (wrong_K hK).2, eb_u_s⟩
  unfold pr_stmt
  by_cases c0 : sk_isw T K 0 = true
  · rw [if_pos c0] at i0
    rw [if_pos c0]
    by_cases c6 : w.1 = 6
    · have g3 : I (21, 0, 0) 9 = 6 := by rw [hR.1.1, c6]; rfl
      have no : ∀ z, z < 5 → ¬ z = 0 → sk_isw T K z = false := fun z hz hz0 => sk_isw_1 c0 (by revert z; decide) (by decide)
      rw [if_neg (by rw [no 1 (by omega) (by omega)]; decide)] at i1
      rw [if_neg (by rw [no 2 (by omega) (by omega)]; decide)] at i2
      rw [if_neg (by rw [no 3 (by omega) (by omega)]; decide)] at i3
      rw [if_neg (by rw [no 4 (by omega) (by omega)]; decide)] at i4
      rw [show pr_inn T w K = (K, none) from if_pos c6]
      simp (decide := true) (disch := omega) only [e185_0, e185_1, e185_3, e185_6, e185_9, e185_10, e185_13, e185_15, e185_18, e185_19, e185_22, e185_23, e185_24, e185_26, e185_29, e185_32, e185_33, e185_36, e185_38, e185_41, e185_42, e185_43, e185_44, e185_47, e185_50, e185_51, e185_52, e185_53, e185_55, e185_58, e185_61, e185_62, e185_63, e185_64, e185_66, e185_69, e185_72, e185_73, e185_74, e185_75, e185_76, e185_79, e185_80, e185_81, e185_82, e185_85, e185_86, e185_87, e185_88, e185_91, e185_92, e185_93, e185_96a, e185_96b, e185_97, e185_98, e185_99, e185_100, e185_102, e185_105, e185_108, e185_109, e185_112, e185_113, e185_114, e185_116, e185_119, e185_122, e185_123, e185_126, e185_127, e185_128, e185_130, e185_133, e185_136, e185_137, e185_140, e185_141, e185_142, e185_143, e185_145, e185_148, e185_151, e185_152, e185_153, e185_154, e185_155, e185_158, e185_159, e185_160, e185_163, e185_164, bi_s, tyX, rl1, rl2, rl4, ↓reduceIte, Option.bind_some, true_and, and_true, false_and, and_false, true_or, or_true, false_or, or_false, if_same0, ite_eq0, ite_eq0', ite_eq1, ite_eq1', or_em, or_em', ite_not, lcmp0, lcmpL, lcmpG, nI_cl_b, eb_in_b, nI_1, nI_pred, Int32.reduceToNatClampNeg, eb_u_ap, Prod.mk.injEq, not_true_eq_false, not_false_eq_true, tyM, rl21, rl25, sp_rg, sp_iI, sp_iG, sp_iS, i0, i1, i2, i3, i4, g3, wr]
      obtain ⟨I', q1, q2, q3⟩ := wfin
      exact ⟨I', q1, q2, fun _ => q3, fun w' q => by cases q⟩
    · have g3 : (nI w.1 < 6) = True := by rw [show (6 : Int32) = nI 6 from rfl, nI_lt_b (by omega) (by omega)]; exact eq_true (by omega)
      obtain ⟨I1, a1, a2⟩ := m_innTold (L := L) (d := d) ht hwf (show w.1 < 6 by omega) nc ns I J C mt mk h hK hR
      simp (decide := true) (disch := omega) only [e185_0, e185_1, e185_3, e185_6, e185_9, e185_10, e185_13, e185_15, e185_18, e185_19, e185_22, e185_23, e185_24, e185_26, e185_29, e185_32, e185_33, e185_36, e185_38, e185_41, e185_42, e185_43, e185_44, e185_47, e185_50, e185_51, e185_52, e185_53, e185_55, e185_58, e185_61, e185_62, e185_63, e185_64, e185_66, e185_69, e185_72, e185_73, e185_74, e185_75, e185_76, e185_79, e185_80, e185_81, e185_82, e185_85, e185_86, e185_87, e185_88, e185_91, e185_92, e185_93, e185_96a, e185_96b, e185_97, e185_98, e185_99, e185_100, e185_102, e185_105, e185_108, e185_109, e185_112, e185_113, e185_114, e185_116, e185_119, e185_122, e185_123, e185_126, e185_127, e185_128, e185_130, e185_133, e185_136, e185_137, e185_140, e185_141, e185_142, e185_143, e185_145, e185_148, e185_151, e185_152, e185_153, e185_154, e185_155, e185_158, e185_159, e185_160, e185_163, e185_164, bi_s, tyX, rl1, rl2, rl4, ↓reduceIte, Option.bind_some, true_and, and_true, false_and, and_false, true_or, or_true, false_or, or_false, if_same0, ite_eq0, ite_eq0', ite_eq1, ite_eq1', or_em, or_em', ite_not, lcmp0, lcmpL, lcmpG, nI_cl_b, eb_in_b, nI_1, nI_pred, Int32.reduceToNatClampNeg, eb_u_ap, Prod.mk.injEq, not_true_eq_false, not_false_eq_true, tyM, rl21, rl25, sp_rg, sp_iI, sp_iG, sp_iS, i0, hR.1.1, g3, a1, b01_01]
      exact ⟨I1, rfl, a2⟩
  rw [if_neg c0] at i0
  rw [if_neg c0]
  by_cases c1 : sk_isw T K 1 = true
  · rw [if_pos c1] at i1
    rw [if_pos c1]
    unfold pr_goer
    by_cases c6 : w.2.1 = 6
    · have g3 : I (21, 0, 0) 11 = 6 := by rw [hR.1.2.1, c6]; rfl
      have no : ∀ z, z < 5 → ¬ z = 1 → sk_isw T K z = false := fun z hz hz0 => sk_isw_1 c1 (by revert z; decide) (by decide)
      rw [if_neg (by rw [no 2 (by omega) (by omega)]; decide)] at i2
      rw [if_neg (by rw [no 3 (by omega) (by omega)]; decide)] at i3
      rw [if_neg (by rw [no 4 (by omega) (by omega)]; decide)] at i4
      rw [if_pos c6]
      simp (decide := true) (disch := omega) only [e185_0, e185_1, e185_3, e185_6, e185_9, e185_10, e185_13, e185_15, e185_18, e185_19, e185_22, e185_23, e185_24, e185_26, e185_29, e185_32, e185_33, e185_36, e185_38, e185_41, e185_42, e185_43, e185_44, e185_47, e185_50, e185_51, e185_52, e185_53, e185_55, e185_58, e185_61, e185_62, e185_63, e185_64, e185_66, e185_69, e185_72, e185_73, e185_74, e185_75, e185_76, e185_79, e185_80, e185_81, e185_82, e185_85, e185_86, e185_87, e185_88, e185_91, e185_92, e185_93, e185_96a, e185_96b, e185_97, e185_98, e185_99, e185_100, e185_102, e185_105, e185_108, e185_109, e185_112, e185_113, e185_114, e185_116, e185_119, e185_122, e185_123, e185_126, e185_127, e185_128, e185_130, e185_133, e185_136, e185_137, e185_140, e185_141, e185_142, e185_143, e185_145, e185_148, e185_151, e185_152, e185_153, e185_154, e185_155, e185_158, e185_159, e185_160, e185_163, e185_164, bi_s, tyX, rl1, rl2, rl4, ↓reduceIte, Option.bind_some, true_and, and_true, false_and, and_false, true_or, or_true, false_or, or_false, if_same0, ite_eq0, ite_eq0', ite_eq1, ite_eq1', or_em, or_em', ite_not, lcmp0, lcmpL, lcmpG, nI_cl_b, eb_in_b, nI_1, nI_pred, Int32.reduceToNatClampNeg, eb_u_ap, Prod.mk.injEq, not_true_eq_false, not_false_eq_true, tyM, rl21, rl25, sp_rg, sp_iI, sp_iG, sp_iS, i0, i1, i2, i3, i4, g3, wr]
      obtain ⟨I', q1, q2, q3⟩ := wfin
      exact ⟨I', q1, q2, fun _ => q3, fun w' q => by cases q⟩
    · have g3 : (nI w.2.1 < 6) = True := by rw [show (6 : Int32) = nI 6 from rfl, nI_lt_b (by omega) (by omega)]; exact eq_true (by omega)
      rw [if_neg c6]
      unfold pr_three
      cases hs : sk_take T (sk_nx T K) 0 5 with
      | none =>
        obtain ⟨I1, a1, a2, a3⟩ := m_tellsN (L := L) (d := d + 3) (nc := nc) (ns := ns) (J := J) (C := C) (mt := mt) (mk := mk) h ht hK hwf hs
        simp (decide := true) (disch := omega) only [e185_0, e185_1, e185_3, e185_6, e185_9, e185_10, e185_13, e185_15, e185_18, e185_19, e185_22, e185_23, e185_24, e185_26, e185_29, e185_32, e185_33, e185_36, e185_38, e185_41, e185_42, e185_43, e185_44, e185_47, e185_50, e185_51, e185_52, e185_53, e185_55, e185_58, e185_61, e185_62, e185_63, e185_64, e185_66, e185_69, e185_72, e185_73, e185_74, e185_75, e185_76, e185_79, e185_80, e185_81, e185_82, e185_85, e185_86, e185_87, e185_88, e185_91, e185_92, e185_93, e185_96a, e185_96b, e185_97, e185_98, e185_99, e185_100, e185_102, e185_105, e185_108, e185_109, e185_112, e185_113, e185_114, e185_116, e185_119, e185_122, e185_123, e185_126, e185_127, e185_128, e185_130, e185_133, e185_136, e185_137, e185_140, e185_141, e185_142, e185_143, e185_145, e185_148, e185_151, e185_152, e185_153, e185_154, e185_155, e185_158, e185_159, e185_160, e185_163, e185_164, bi_s, tyX, rl1, rl2, rl4, ↓reduceIte, Option.bind_some, true_and, and_true, false_and, and_false, true_or, or_true, false_or, or_false, if_same0, ite_eq0, ite_eq0', ite_eq1, ite_eq1', or_em, or_em', ite_not, lcmp0, lcmpL, lcmpG, nI_cl_b, eb_in_b, nI_1, nI_pred, Int32.reduceToNatClampNeg, eb_u_ap, Prod.mk.injEq, not_true_eq_false, not_false_eq_true, tyM, rl21, rl25, sp_rg, sp_iI, sp_iG, sp_iS, i0, i1, hR.1.2.1, g3, a1]
        exact ⟨I1, rfl, eb_fq_s a2, fun _ => a3, fun w' q => by cases q⟩
      | some a =>
        obtain ⟨I1, a1, a2, a3, a4, a5⟩ := m_tellsS (L := L) (d := d + 3) (nc := nc) (ns := ns) (J := J) (C := C) (mt := mt) (mk := mk) h ht hK hwf hs
        have h1 := eb_fq_TM a3 h
        have w2 := sk_nx_wf (sk_nx_wf hwf)
        dsimp only
        cases hs2 : sk_take T (sk_nx T (sk_nx T K)) 1 30 with
        | none =>
          obtain ⟨I2, b1, b2, b3⟩ := m_numN' (L := L) (d := d + 4) (nc := nc) (ns := ns) (J := J) (C := C) (mt := mt) (mk := mk) h1 a2 hs2 (j := 1)
          rw [show nI 1 = 1 from rfl] at b1
          simp (decide := true) (disch := omega) only [e185_0, e185_1, e185_3, e185_6, e185_9, e185_10, e185_13, e185_15, e185_18, e185_19, e185_22, e185_23, e185_24, e185_26, e185_29, e185_32, e185_33, e185_36, e185_38, e185_41, e185_42, e185_43, e185_44, e185_47, e185_50, e185_51, e185_52, e185_53, e185_55, e185_58, e185_61, e185_62, e185_63, e185_64, e185_66, e185_69, e185_72, e185_73, e185_74, e185_75, e185_76, e185_79, e185_80, e185_81, e185_82, e185_85, e185_86, e185_87, e185_88, e185_91, e185_92, e185_93, e185_96a, e185_96b, e185_97, e185_98, e185_99, e185_100, e185_102, e185_105, e185_108, e185_109, e185_112, e185_113, e185_114, e185_116, e185_119, e185_122, e185_123, e185_126, e185_127, e185_128, e185_130, e185_133, e185_136, e185_137, e185_140, e185_141, e185_142, e185_143, e185_145, e185_148, e185_151, e185_152, e185_153, e185_154, e185_155, e185_158, e185_159, e185_160, e185_163, e185_164, bi_s, tyX, rl1, rl2, rl4, ↓reduceIte, Option.bind_some, true_and, and_true, false_and, and_false, true_or, or_true, false_or, or_false, if_same0, ite_eq0, ite_eq0', ite_eq1, ite_eq1', or_em, or_em', ite_not, lcmp0, lcmpL, lcmpG, nI_cl_b, eb_in_b, nI_1, nI_pred, Int32.reduceToNatClampNeg, eb_u_ap, Prod.mk.injEq, not_true_eq_false, not_false_eq_true, tyM, rl21, rl25, sp_rg, sp_iI, sp_iG, sp_iS, i0, i1, hR.1.2.1, g3, a1, b1]
          exact ⟨I2, rfl, eb_fq_s (eb_fq_tr a3 b2), fun _ => b3, fun w' q => by cases q⟩
        | some b =>
          obtain ⟨I2, b1, b2, b3, b4, b5⟩ := m_numS (L := L) (d := d + 4) (nc := nc) (ns := ns) (J := J) (C := C) (mt := mt) (mk := mk) h1 ht a2 w2 hs2 (j := 1) (by omega)
          rw [show nI 1 = 1 from rfl] at b1
          have h2 := eb_fq_TM b3 h1
          have w3 := sk_nx_wf w2
          dsimp only
          cases hs3 : sk_take T (sk_nx T (sk_nx T (sk_nx T K))) 0 99 with
          | none =>
            obtain ⟨I3, c1, c2, c3⟩ := m_numN' (L := L) (d := d + 4) (nc := nc) (ns := ns) (J := J) (C := C) (mt := mt) (mk := mk) h2 b2 hs3 (j := 2)
            rw [show nI 2 = 2 from rfl] at c1
            simp (decide := true) (disch := omega) only [e185_0, e185_1, e185_3, e185_6, e185_9, e185_10, e185_13, e185_15, e185_18, e185_19, e185_22, e185_23, e185_24, e185_26, e185_29, e185_32, e185_33, e185_36, e185_38, e185_41, e185_42, e185_43, e185_44, e185_47, e185_50, e185_51, e185_52, e185_53, e185_55, e185_58, e185_61, e185_62, e185_63, e185_64, e185_66, e185_69, e185_72, e185_73, e185_74, e185_75, e185_76, e185_79, e185_80, e185_81, e185_82, e185_85, e185_86, e185_87, e185_88, e185_91, e185_92, e185_93, e185_96a, e185_96b, e185_97, e185_98, e185_99, e185_100, e185_102, e185_105, e185_108, e185_109, e185_112, e185_113, e185_114, e185_116, e185_119, e185_122, e185_123, e185_126, e185_127, e185_128, e185_130, e185_133, e185_136, e185_137, e185_140, e185_141, e185_142, e185_143, e185_145, e185_148, e185_151, e185_152, e185_153, e185_154, e185_155, e185_158, e185_159, e185_160, e185_163, e185_164, bi_s, tyX, rl1, rl2, rl4, ↓reduceIte, Option.bind_some, true_and, and_true, false_and, and_false, true_or, or_true, false_or, or_false, if_same0, ite_eq0, ite_eq0', ite_eq1, ite_eq1', or_em, or_em', ite_not, lcmp0, lcmpL, lcmpG, nI_cl_b, eb_in_b, nI_1, nI_pred, Int32.reduceToNatClampNeg, eb_u_ap, Prod.mk.injEq, not_true_eq_false, not_false_eq_true, tyM, rl21, rl25, sp_rg, sp_iI, sp_iG, sp_iS, i0, i1, hR.1.2.1, g3, a1, b1, c1]
            exact ⟨I3, rfl, eb_fq_s (eb_fq_tr (eb_fq_tr a3 b3) c2), fun _ => c3, fun w' q => by cases q⟩
          | some c =>
            obtain ⟨I3, c1, c2, c3, c4, c5⟩ := m_numS (L := L) (d := d + 4) (nc := nc) (ns := ns) (J := J) (C := C) (mt := mt) (mk := mk) h2 ht b2 w3 hs3 (j := 2) (by omega)
            rw [show nI 2 = 2 from rfl] at c1
            have hf := eb_fq_tr (eb_fq_tr a3 b3) c3
            have t0 : I3 (35, 0, 0) 0 = a := (c5 0 (by omega)).trans ((b5 0 (by omega)).trans a4)
            have t1 : I3 (35, 0, 0) 1 = b := (c5 1 (by omega)).trans b4
            have t2 : I3 (35, 0, 0) 2 = c := c4
            have s1 := sk_take_rg hs
            have s2 := sk_take_rg hs2
            have s3 := sk_take_rg hs3
            have hR3 := eb_fq_RM hf hR
            obtain ⟨v, gv⟩ := m_goerF (L := L) (d := d + 2) (nc := nc) (ns := ns) (J := J) (C := C) (mt := mt) (mk := mk) hR3 (show w.2.1 < 6 by omega) (a := a) (b := b) (c := c) ⟨s1.1, s1.2.1⟩ ⟨s2.1, s2.2.1⟩ ⟨s3.1, s3.2.1⟩
            obtain ⟨e1, e2⟩ := m_goer_RM hR3 (show w.2.1 < 6 by omega) (a := a) (b := b) (c := c)
            simp (decide := true) (disch := omega) only [e185_0, e185_1, e185_3, e185_6, e185_9, e185_10, e185_13, e185_15, e185_18, e185_19, e185_22, e185_23, e185_24, e185_26, e185_29, e185_32, e185_33, e185_36, e185_38, e185_41, e185_42, e185_43, e185_44, e185_47, e185_50, e185_51, e185_52, e185_53, e185_55, e185_58, e185_61, e185_62, e185_63, e185_64, e185_66, e185_69, e185_72, e185_73, e185_74, e185_75, e185_76, e185_79, e185_80, e185_81, e185_82, e185_85, e185_86, e185_87, e185_88, e185_91, e185_92, e185_93, e185_96a, e185_96b, e185_97, e185_98, e185_99, e185_100, e185_102, e185_105, e185_108, e185_109, e185_112, e185_113, e185_114, e185_116, e185_119, e185_122, e185_123, e185_126, e185_127, e185_128, e185_130, e185_133, e185_136, e185_137, e185_140, e185_141, e185_142, e185_143, e185_145, e185_148, e185_151, e185_152, e185_153, e185_154, e185_155, e185_158, e185_159, e185_160, e185_163, e185_164, bi_s, tyX, rl1, rl2, rl4, ↓reduceIte, Option.bind_some, true_and, and_true, false_and, and_false, true_or, or_true, false_or, or_false, if_same0, ite_eq0, ite_eq0', ite_eq1, ite_eq1', or_em, or_em', ite_not, lcmp0, lcmpL, lcmpG, nI_cl_b, eb_in_b, nI_1, nI_pred, Int32.reduceToNatClampNeg, eb_u_ap, Prod.mk.injEq, not_true_eq_false, not_false_eq_true, tyM, rl21, rl25, sp_rg, sp_iI, sp_iG, sp_iS, i0, i1, hR.1.2.1, g3, a1, b1, c1, t0, t1, t2, gv]
            exact ⟨_, rfl, eb_fs_tr (eb_fq_s hf) ⟨e2, by simp [eb_u]⟩, fun q => by (cases q), fun w' q => by cases q; exact ⟨e1, eb_KM_of (fun l l1 l2 => by simp [eb_u]; intro z; omega) c2⟩⟩
  rw [if_neg c1] at i1
  rw [if_neg c1]
  by_cases c2 : sk_isw T K 2 = true
  · rw [if_pos c2] at i2
    rw [if_pos c2]
    obtain ⟨I1, a1, a2⟩ := m_letterTold (L := L) (d := d + 1) ht hwf hw nc ns I J C mt mk h hK hR
    simp (decide := true) (disch := omega) only [e185_0, e185_1, e185_3, e185_6, e185_9, e185_10, e185_13, e185_15, e185_18, e185_19, e185_22, e185_23, e185_24, e185_26, e185_29, e185_32, e185_33, e185_36, e185_38, e185_41, e185_42, e185_43, e185_44, e185_47, e185_50, e185_51, e185_52, e185_53, e185_55, e185_58, e185_61, e185_62, e185_63, e185_64, e185_66, e185_69, e185_72, e185_73, e185_74, e185_75, e185_76, e185_79, e185_80, e185_81, e185_82, e185_85, e185_86, e185_87, e185_88, e185_91, e185_92, e185_93, e185_96a, e185_96b, e185_97, e185_98, e185_99, e185_100, e185_102, e185_105, e185_108, e185_109, e185_112, e185_113, e185_114, e185_116, e185_119, e185_122, e185_123, e185_126, e185_127, e185_128, e185_130, e185_133, e185_136, e185_137, e185_140, e185_141, e185_142, e185_143, e185_145, e185_148, e185_151, e185_152, e185_153, e185_154, e185_155, e185_158, e185_159, e185_160, e185_163, e185_164, bi_s, tyX, rl1, rl2, rl4, ↓reduceIte, Option.bind_some, true_and, and_true, false_and, and_false, true_or, or_true, false_or, or_false, if_same0, ite_eq0, ite_eq0', ite_eq1, ite_eq1', or_em, or_em', ite_not, lcmp0, lcmpL, lcmpG, nI_cl_b, eb_in_b, nI_1, nI_pred, Int32.reduceToNatClampNeg, eb_u_ap, Prod.mk.injEq, not_true_eq_false, not_false_eq_true, tyM, rl21, rl25, sp_rg, sp_iI, sp_iG, sp_iS, i0, i1, i2, a1, b01_01]
    exact ⟨I1, rfl, a2⟩
  rw [if_neg c2] at i2
  rw [if_neg c2]
  by_cases c3 : sk_isw T K 3 = true
  · rw [if_pos c3] at i3
    rw [if_pos c3]
    rw [if_neg (by rw [sk_isw_1 (y := 4) c3 (by decide) (by decide)]; decide)] at i4
    unfold pr_age
    cases hs : sk_take T (sk_nx T K) 0 99 with
    | none =>
      obtain ⟨I1, a1, a2, a3⟩ := m_tellsN (L := L) (d := d + 3) (nc := nc) (ns := ns) (J := J) (C := C) (mt := mt) (mk := mk) h ht hK hwf hs
      simp (decide := true) (disch := omega) only [e185_0, e185_1, e185_3, e185_6, e185_9, e185_10, e185_13, e185_15, e185_18, e185_19, e185_22, e185_23, e185_24, e185_26, e185_29, e185_32, e185_33, e185_36, e185_38, e185_41, e185_42, e185_43, e185_44, e185_47, e185_50, e185_51, e185_52, e185_53, e185_55, e185_58, e185_61, e185_62, e185_63, e185_64, e185_66, e185_69, e185_72, e185_73, e185_74, e185_75, e185_76, e185_79, e185_80, e185_81, e185_82, e185_85, e185_86, e185_87, e185_88, e185_91, e185_92, e185_93, e185_96a, e185_96b, e185_97, e185_98, e185_99, e185_100, e185_102, e185_105, e185_108, e185_109, e185_112, e185_113, e185_114, e185_116, e185_119, e185_122, e185_123, e185_126, e185_127, e185_128, e185_130, e185_133, e185_136, e185_137, e185_140, e185_141, e185_142, e185_143, e185_145, e185_148, e185_151, e185_152, e185_153, e185_154, e185_155, e185_158, e185_159, e185_160, e185_163, e185_164, bi_s, tyX, rl1, rl2, rl4, ↓reduceIte, Option.bind_some, true_and, and_true, false_and, and_false, true_or, or_true, false_or, or_false, if_same0, ite_eq0, ite_eq0', ite_eq1, ite_eq1', or_em, or_em', ite_not, lcmp0, lcmpL, lcmpG, nI_cl_b, eb_in_b, nI_1, nI_pred, Int32.reduceToNatClampNeg, eb_u_ap, Prod.mk.injEq, not_true_eq_false, not_false_eq_true, tyM, rl21, rl25, sp_rg, sp_iI, sp_iG, sp_iS, i0, i1, i2, i3, i4, a1]
      exact ⟨I1, rfl, eb_fq_s a2, fun _ => a3, fun w' q => by cases q⟩
    | some v =>
      obtain ⟨I1, a1, a2, a3, a4, a5⟩ := m_tellsS (L := L) (d := d + 3) (nc := nc) (ns := ns) (J := J) (C := C) (mt := mt) (mk := mk) h ht hK hwf hs
      have r1 := RM_setA (v := v) (eb_fq_RM a3 hR)
      simp (decide := true) (disch := omega) only [e185_0, e185_1, e185_3, e185_6, e185_9, e185_10, e185_13, e185_15, e185_18, e185_19, e185_22, e185_23, e185_24, e185_26, e185_29, e185_32, e185_33, e185_36, e185_38, e185_41, e185_42, e185_43, e185_44, e185_47, e185_50, e185_51, e185_52, e185_53, e185_55, e185_58, e185_61, e185_62, e185_63, e185_64, e185_66, e185_69, e185_72, e185_73, e185_74, e185_75, e185_76, e185_79, e185_80, e185_81, e185_82, e185_85, e185_86, e185_87, e185_88, e185_91, e185_92, e185_93, e185_96a, e185_96b, e185_97, e185_98, e185_99, e185_100, e185_102, e185_105, e185_108, e185_109, e185_112, e185_113, e185_114, e185_116, e185_119, e185_122, e185_123, e185_126, e185_127, e185_128, e185_130, e185_133, e185_136, e185_137, e185_140, e185_141, e185_142, e185_143, e185_145, e185_148, e185_151, e185_152, e185_153, e185_154, e185_155, e185_158, e185_159, e185_160, e185_163, e185_164, bi_s, tyX, rl1, rl2, rl4, ↓reduceIte, Option.bind_some, true_and, and_true, false_and, and_false, true_or, or_true, false_or, or_false, if_same0, ite_eq0, ite_eq0', ite_eq1, ite_eq1', or_em, or_em', ite_not, lcmp0, lcmpL, lcmpG, nI_cl_b, eb_in_b, nI_1, nI_pred, Int32.reduceToNatClampNeg, eb_u_ap, Prod.mk.injEq, not_true_eq_false, not_false_eq_true, tyM, rl21, rl25, sp_rg, sp_iI, sp_iG, sp_iS, i0, i1, i2, i3, i4, a1, a4]
      exact ⟨_, rfl, eb_fs_tr (eb_fq_s a3) ⟨r1.2, by simp [eb_u]⟩, fun q => by (cases q), fun w' q => by cases q; exact ⟨r1.1, eb_KM_of (fun l l1 l2 => by simp [eb_u]; intro z; omega) a2⟩⟩
  rw [if_neg c3] at i3
  rw [if_neg c3]
  by_cases c4 : sk_isw T K 4 = true
  · rw [if_pos c4] at i4
    rw [if_pos c4]
    obtain ⟨I1, a1, a2⟩ := m_writeTold (L := L) (d := d + 1) ht hwf hw nc ns I J C mt mk h hK hR
    simp (decide := true) (disch := omega) only [e185_0, e185_1, e185_3, e185_6, e185_9, e185_10, e185_13, e185_15, e185_18, e185_19, e185_22, e185_23, e185_24, e185_26, e185_29, e185_32, e185_33, e185_36, e185_38, e185_41, e185_42, e185_43, e185_44, e185_47, e185_50, e185_51, e185_52, e185_53, e185_55, e185_58, e185_61, e185_62, e185_63, e185_64, e185_66, e185_69, e185_72, e185_73, e185_74, e185_75, e185_76, e185_79, e185_80, e185_81, e185_82, e185_85, e185_86, e185_87, e185_88, e185_91, e185_92, e185_93, e185_96a, e185_96b, e185_97, e185_98, e185_99, e185_100, e185_102, e185_105, e185_108, e185_109, e185_112, e185_113, e185_114, e185_116, e185_119, e185_122, e185_123, e185_126, e185_127, e185_128, e185_130, e185_133, e185_136, e185_137, e185_140, e185_141, e185_142, e185_143, e185_145, e185_148, e185_151, e185_152, e185_153, e185_154, e185_155, e185_158, e185_159, e185_160, e185_163, e185_164, bi_s, tyX, rl1, rl2, rl4, ↓reduceIte, Option.bind_some, true_and, and_true, false_and, and_false, true_or, or_true, false_or, or_false, if_same0, ite_eq0, ite_eq0', ite_eq1, ite_eq1', or_em, or_em', ite_not, lcmp0, lcmpL, lcmpG, nI_cl_b, eb_in_b, nI_1, nI_pred, Int32.reduceToNatClampNeg, eb_u_ap, Prod.mk.injEq, not_true_eq_false, not_false_eq_true, tyM, rl21, rl25, sp_rg, sp_iI, sp_iG, sp_iS, i0, i1, i2, i4, a1, b01_01]
    exact ⟨I1, rfl, a2⟩
  rw [if_neg c4] at i4
  rw [if_neg c4]
  simp (decide := true) (disch := omega) only [e185_0, e185_1, e185_3, e185_6, e185_9, e185_10, e185_13, e185_15, e185_18, e185_19, e185_22, e185_23, e185_24, e185_26, e185_29, e185_32, e185_33, e185_36, e185_38, e185_41, e185_42, e185_43, e185_44, e185_47, e185_50, e185_51, e185_52, e185_53, e185_55, e185_58, e185_61, e185_62, e185_63, e185_64, e185_66, e185_69, e185_72, e185_73, e185_74, e185_75, e185_76, e185_79, e185_80, e185_81, e185_82, e185_85, e185_86, e185_87, e185_88, e185_91, e185_92, e185_93, e185_96a, e185_96b, e185_97, e185_98, e185_99, e185_100, e185_102, e185_105, e185_108, e185_109, e185_112, e185_113, e185_114, e185_116, e185_119, e185_122, e185_123, e185_126, e185_127, e185_128, e185_130, e185_133, e185_136, e185_137, e185_140, e185_141, e185_142, e185_143, e185_145, e185_148, e185_151, e185_152, e185_153, e185_154, e185_155, e185_158, e185_159, e185_160, e185_163, e185_164, bi_s, tyX, rl1, rl2, rl4, ↓reduceIte, Option.bind_some, true_and, and_true, false_and, and_false, true_or, or_true, false_or, or_false, if_same0, ite_eq0, ite_eq0', ite_eq1, ite_eq1', or_em, or_em', ite_not, lcmp0, lcmpL, lcmpG, nI_cl_b, eb_in_b, nI_1, nI_pred, Int32.reduceToNatClampNeg, eb_u_ap, Prod.mk.injEq, not_true_eq_false, not_false_eq_true, tyM, rl21, rl25, sp_rg, sp_iI, sp_iG, sp_iS, i0, i1, i2, i3, i4, wr]
  obtain ⟨I', q1, q2, q3⟩ := wfin
  exact ⟨I', q1, q2, fun _ => q3, fun w' q => by cases q⟩
end

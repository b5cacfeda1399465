/-! the tape: letters, books told, as the reference reads them -/
theorem wl_bits : ∀ s, s < 64 → ∀ j, j < 6 → sp_bit (nI s) j = false → nI s ||| (1 : Int32) <<< (nI j &&& 31) = nI (s + 2 ^ j) ∧ s + 2 ^ j < 64 ∧ sp_pop (s + 2 ^ j) = sp_pop s + 1 := by decide +kernel
theorem wl_lt : ∀ n, n < 7 → ∀ s, s < 2 ^ n → ∀ j, j < n → sp_bit (nI s) j = false → s + 2 ^ j < 2 ^ n := by decide +kernel
theorem wl_pop : ∀ n, n < 7 → ∀ s, s < 2 ^ n → sp_pop s ≤ n := by decide +kernel
section
variable {L d nc ns k i g : Nat} {I : eb_A → Nat → Int32} {J : eb_A → Nat → Int64} {C : Nat → Nat → Nat} {mt mk : Option Nat} {w : eb_W} {R : eb_A → Nat → Option eb_A} {S : eb_St} {M : eb_M} {T : eb_Tp} {K : eb_K} {x : Int32}
theorem sk_take_no {lo : Int32} {n j : Nat} (hn : n ≤ 6) (hl : lo = 0) (hs : sk_take T K lo (nI n - 1) = none) (h2 : K.1 = 2) (hm : sk_fig T K = nI j) (hj : j ≤ 100000) : (nI j < nI n) = False := by
  subst hl
  rw [nI_lt_b (by omega) (by omega)]
  refine eq_false fun q => ?_
  unfold sk_take at hs
  rw [hm, if_pos ⟨h2, nI_pos' (by omega), by rw [lt_pred (by omega) (nI_pos' (by omega)), nI_lt_b (by omega) (by omega)]; exact q⟩] at hs
  cases hs
theorem m_letterTold (ht : sk_okT T) (hwf : sk_wf T K) (hw : sp_ok w) : eb_PM L (d + 6) 183 T w K (pr_letter T w K) := by
  intro nc ns I J C mt mk h hK hR
  have hn := hw.1
  rw [h183 rfl]
  obtain ⟨I1, a1, a2, a3⟩ := m_look (L := L) (d := d + 3) (nc := nc) (ns := ns) (J := J) (C := C) (mt := mt) (mk := mk) h ht hK.2.1 hwf.2
  have h1 := eb_fq_TM (eb_fl_q a3) h
  have w1 := sk_nx_wf hwf
  have hT := sk_nx_isT hwf
  have a2 : eb_KM I1 T (sk_nx T K) := a2
  have hR1 := eb_fq_RM (eb_fl_q a3) hR
  unfold pr_letter
  generalize sk_nx T K = K1 at a2 w1 hT
  cases hs : sk_take T K1 0 (nI w.1 - 1) with
  | none =>
    obtain ⟨I2, b1, b2, b3⟩ := m_numN' (L := L) (d := d + 2) (nc := nc) (ns := ns) (J := J) (C := C) (mt := mt) (mk := mk) h1 a2 hs (j := 0)
    rw [nI_0] at b1
    by_cases c1 : K1.1 = 2
    · obtain ⟨m, hm, em⟩ := sk_fig_nat ht hT c1
      have k21 := (a2.2.2.2 c1).trans em
      have c2 := sk_take_no hn rfl hs c1 em hm
      simp (decide := true) (disch := omega) only [e183_0, e183_1, e183_4, e183_5, e183_8, e183_9, e183_12, e183_13, e183_16, e183_17, e183_20, e183_23, e183_24, e183_27, e183_28, e183_31, e183_32, e183_33, e183_34, e183_36, e183_39, e183_40, e183_43, e183_44, e183_45, e183_46, e183_47, e183_48, e183_51, e183_52, e183_53, e183_56, e183_59, e183_60, e183_61, e183_62, e183_64, e183_67, e183_70, e183_71, e183_72, e183_73, e183_74, e183_77, e183_78, e183_79, e183_80, e183_83, e183_84, e183_85, e183_88, e183_89, bi_s, tyX, rl1, rl2, rl4, ↓reduceIte, Option.bind_some, true_and, and_true, false_and, and_false, true_or, or_true, false_or, or_false, if_same0, ite_eq0, ite_eq0', ite_eq1, ite_eq1', or_em, or_em', ite_not, lcmp0, lcmpL, lcmpG, nI_cl_b, eb_in_b, nI_1, nI_pred, Int32.reduceToNatClampNeg, eb_u_ap, Prod.mk.injEq, not_true_eq_false, not_false_eq_true, tyM, rl21, rl25, sp_rg, sp_iI, sp_iG, sp_iS, a1, a2.2.2.1, c1, k21, hR1.1.1, c2, b1]
      exact ⟨I2, rfl, eb_fq_s (eb_fq_tr (eb_fl_q a3) b2), fun _ => b3, fun w' q => by cases q⟩
    · simp (decide := true) (disch := omega) only [e183_0, e183_1, e183_4, e183_5, e183_8, e183_9, e183_12, e183_13, e183_16, e183_17, e183_20, e183_23, e183_24, e183_27, e183_28, e183_31, e183_32, e183_33, e183_34, e183_36, e183_39, e183_40, e183_43, e183_44, e183_45, e183_46, e183_47, e183_48, e183_51, e183_52, e183_53, e183_56, e183_59, e183_60, e183_61, e183_62, e183_64, e183_67, e183_70, e183_71, e183_72, e183_73, e183_74, e183_77, e183_78, e183_79, e183_80, e183_83, e183_84, e183_85, e183_88, e183_89, bi_s, tyX, rl1, rl2, rl4, ↓reduceIte, Option.bind_some, true_and, and_true, false_and, and_false, true_or, or_true, false_or, or_false, if_same0, ite_eq0, ite_eq0', ite_eq1, ite_eq1', or_em, or_em', ite_not, lcmp0, lcmpL, lcmpG, nI_cl_b, eb_in_b, nI_1, nI_pred, Int32.reduceToNatClampNeg, eb_u_ap, Prod.mk.injEq, not_true_eq_false, not_false_eq_true, tyM, rl21, rl25, sp_rg, sp_iI, sp_iG, sp_iS, a1, a2.2.2.1, c1, hR1.1.1, b1]
      exact ⟨I2, rfl, eb_fq_s (eb_fq_tr (eb_fl_q a3) b2), fun _ => b3, fun w' q => by cases q⟩
  | some v =>
    obtain ⟨v0, v1, c1⟩ := sk_take_rg hs
    rw [lt_pred (by omega) v0] at v1
    obtain ⟨j, hj, rfl⟩ := rg_nat (by omega) ⟨v0, v1⟩
    have hfig : sk_fig T K1 = nI j := by
      unfold sk_take at hs
      split at hs
      · injection hs
      · cases hs
    have k21 := (a2.2.2.2 c1).trans hfig
    have c2 : (nI j < nI w.1) = True := eq_true v1
    have k5 := hR1.2.1 j hj 5 (by omega)
    obtain ⟨m5, hm5, em5⟩ := rg_le 99 (by omega) (by decide) (hw.2.2.2.1 j hj).2.2.2.2.2
    dsimp only
    rw [show tn (nI j) = j from nI_cl_b (by omega)]
    by_cases c : w.2.2.2.1 j 5 < 99
    · rw [if_pos c]
      have c99 : (w.2.2.2.1 j 5 = 99) = False := eq_false (fun q => by rw [q] at c; exact absurd c (by decide))
      obtain ⟨I2, b1, b2, b3, b4, b5⟩ := m_numS (L := L) (d := d + 2) (nc := nc) (ns := ns) (J := J) (C := C) (mt := mt) (mk := mk) h1 ht a2 w1 hs (j := 0) (by omega)
      rw [nI_0] at b1
      have h2 := eb_fq_TM b3 h1
      have w2 := sk_nx_wf w1
      cases hs2 : sk_take T (sk_nx T K1) 0 100 with
      | none =>
        obtain ⟨I3, e1, e2, e3⟩ := m_numN' (L := L) (d := d + 2) (nc := nc) (ns := ns) (J := J) (C := C) (mt := mt) (mk := mk) h2 b2 hs2 (j := 1)
        rw [show nI 1 = 1 from rfl] at e1
        simp (decide := true) (disch := omega) only [e183_0, e183_1, e183_4, e183_5, e183_8, e183_9, e183_12, e183_13, e183_16, e183_17, e183_20, e183_23, e183_24, e183_27, e183_28, e183_31, e183_32, e183_33, e183_34, e183_36, e183_39, e183_40, e183_43, e183_44, e183_45, e183_46, e183_47, e183_48, e183_51, e183_52, e183_53, e183_56, e183_59, e183_60, e183_61, e183_62, e183_64, e183_67, e183_70, e183_71, e183_72, e183_73, e183_74, e183_77, e183_78, e183_79, e183_80, e183_83, e183_84, e183_85, e183_88, e183_89, bi_s, tyX, rl1, rl2, rl4, ↓reduceIte, Option.bind_some, true_and, and_true, false_and, and_false, true_or, or_true, false_or, or_false, if_same0, ite_eq0, ite_eq0', ite_eq1, ite_eq1', or_em, or_em', ite_not, lcmp0, lcmpL, lcmpG, nI_cl_b, eb_in_b, nI_1, nI_pred, Int32.reduceToNatClampNeg, eb_u_ap, Prod.mk.injEq, not_true_eq_false, not_false_eq_true, tyM, rl21, rl25, sp_rg, sp_iI, sp_iG, sp_iS, a1, a2.2.2.1, c1, k21, hR1.1.1, c2, k5, c99, b1, e1]
        exact ⟨I3, rfl, eb_fq_s (eb_fq_tr (eb_fq_tr (eb_fl_q a3) b3) e2), fun _ => e3, fun w' q => by cases q⟩
      | some y =>
        obtain ⟨I3, e1, e2, e3, e4, e5⟩ := m_numS (L := L) (d := d + 2) (nc := nc) (ns := ns) (J := J) (C := C) (mt := mt) (mk := mk) h2 ht b2 w2 hs2 (j := 1) (by omega)
        rw [show nI 1 = 1 from rfl] at e1
        have t0 : I3 (35, 0, 0) 0 = nI j := (e5 0 (by omega)).trans b4
        have hR3 := eb_fq_RM (eb_fq_tr b3 e3) hR1
        have m5' := hR3.2.1 j hj 5 (by omega)
        have m6' := hR3.2.1 j hj 6 (by omega)
        have r1 := RM_setI (i := j) (f := 5) (v := w.2.2.2.1 j 5 + 1) hR3
        have r2 := RM_setI (i := j) (f := 6) (v := w.2.2.2.1 j 6 + y) r1.1
        have gl := m_getsLetter (L := L) (d := d + 4) (nc := nc) (ns := ns) (I := I3) (J := J) (C := C) (mt := mt) (mk := mk) (r := 0) (i := j) (x := y) (by omega)
        rw [m5', m6', if_pos c] at gl
        simp (decide := true) (disch := omega) only [e183_0, e183_1, e183_4, e183_5, e183_8, e183_9, e183_12, e183_13, e183_16, e183_17, e183_20, e183_23, e183_24, e183_27, e183_28, e183_31, e183_32, e183_33, e183_34, e183_36, e183_39, e183_40, e183_43, e183_44, e183_45, e183_46, e183_47, e183_48, e183_51, e183_52, e183_53, e183_56, e183_59, e183_60, e183_61, e183_62, e183_64, e183_67, e183_70, e183_71, e183_72, e183_73, e183_74, e183_77, e183_78, e183_79, e183_80, e183_83, e183_84, e183_85, e183_88, e183_89, bi_s, tyX, rl1, rl2, rl4, ↓reduceIte, Option.bind_some, true_and, and_true, false_and, and_false, true_or, or_true, false_or, or_false, if_same0, ite_eq0, ite_eq0', ite_eq1, ite_eq1', or_em, or_em', ite_not, lcmp0, lcmpL, lcmpG, nI_cl_b, eb_in_b, nI_1, nI_pred, Int32.reduceToNatClampNeg, eb_u_ap, Prod.mk.injEq, not_true_eq_false, not_false_eq_true, tyM, rl21, rl25, sp_rg, sp_iI, sp_iG, sp_iS, a1, a2.2.2.1, c1, k21, hR1.1.1, c2, k5, c99, b1, e1, t0, e4, gl]
        refine ⟨eb_u (eb_u I3 (32, 0, j) 5 (w.2.2.2.1 j 5 + 1)) (32, 0, j) 6 (w.2.2.2.1 j 6 + y), rfl, eb_fs_tr (eb_fq_s (eb_fq_tr (eb_fq_tr (eb_fl_q a3) b3) e3)) ⟨eb_gv_tr r1.2 r2.2, by simp [eb_u]⟩, fun q => by (cases q), fun w' q => by cases q; exact ⟨r2.1, eb_KM_of (fun l l1 l2 => by simp [eb_u]) e2⟩⟩
    · rw [if_neg c]
      have c99 : w.2.2.2.1 j 5 = 99 := by
        rw [em5, show (99 : Int32) = nI 99 from rfl, nI_lt_b (by omega) (by omega)] at c
        rw [em5, show m5 = 99 by omega]; rfl
      have wr := m_wrong (L := L) (d := d + 4) (nc := nc) (ns := ns) (J := J) (C := C) (mt := mt) (mk := mk) a2
      simp (decide := true) (disch := omega) only [e183_0, e183_1, e183_4, e183_5, e183_8, e183_9, e183_12, e183_13, e183_16, e183_17, e183_20, e183_23, e183_24, e183_27, e183_28, e183_31, e183_32, e183_33, e183_34, e183_36, e183_39, e183_40, e183_43, e183_44, e183_45, e183_46, e183_47, e183_48, e183_51, e183_52, e183_53, e183_56, e183_59, e183_60, e183_61, e183_62, e183_64, e183_67, e183_70, e183_71, e183_72, e183_73, e183_74, e183_77, e183_78, e183_79, e183_80, e183_83, e183_84, e183_85, e183_88, e183_89, bi_s, tyX, rl1, rl2, rl4, ↓reduceIte, Option.bind_some, true_and, and_true, false_and, and_false, true_or, or_true, false_or, or_false, if_same0, ite_eq0, ite_eq0', ite_eq1, ite_eq1', or_em, or_em', ite_not, lcmp0, lcmpL, lcmpG, nI_cl_b, eb_in_b, nI_1, nI_pred, Int32.reduceToNatClampNeg, eb_u_ap, Prod.mk.injEq, not_true_eq_false, not_false_eq_true, tyM, rl21, rl25, sp_rg, sp_iI, sp_iG, sp_iS, a1, a2.2.2.1, c1, k21, hR1.1.1, c2, k5, c99, wr]
      exact ⟨_, rfl, eb_fq_s (eb_fq_tr (eb_fl_q a3) (wrong_K a2).2), fun _ => eb_u_s, fun w' q => by cases q⟩
theorem m_writeLoop (ht : sk_okT T) (hw : sp_ok w) : ∀ (f told s : Nat) (K : eb_K) (I : eb_A → Nat → Int32) (r : eb_K × Option Int32), told + f = 7 → s < 2 ^ w.1 → sp_pop s = told → sk_wf T K → sk_isT T K → eb_TM I T → eb_KM I T K → eb_RM I 0 w → pr_wl T w.1 f (decide (told = 0)) (nI s) K = r →
    ∃ I', eb_E L (d + 5) 184 8 [some (zr (21, 0, 0)), some (zi (nI s)), some (zi (if told = 0 then 1 else 0))] [] (nc, ns, I, J, eb_RL C mt mk) = some (zi (eb_b01 r.2), (nc, ns, I', J, eb_RL C mt mk)) ∧ eb_fs I I' ∧ (r.2 = none → I' (21, 0, 0) 22 = nI r.1.2.1) ∧ ∀ s, r.2 = some s → eb_RM I' 0 (sp_write w s) ∧ eb_KM I' T r.1 := by
  have hn := hw.1
  have fin : ∀ (s : Nat) (K : eb_K) (I : eb_A → Nat → Int32), eb_KM I T K → eb_RM I 0 w → ∃ I', eb_E L (d + 5) 184 86 [some (zr (21, 0, 0)), some (zi (nI s)), some (zi 0)] [] (nc, ns, I, J, eb_RL C mt mk) = some (zi 1, (nc, ns, I', J, eb_RL C mt mk)) ∧ eb_fs I I' ∧ (eb_RM I' 0 (sp_write w (nI s)) ∧ eb_KM I' T K) := by
    intro s K I hK hR
    obtain ⟨I1, a1, a2, a3⟩ := m_writes (L := L) (d := d + 4) (nc := nc) (ns := ns) (J := J) (C := C) (mt := mt) (mk := mk) (set := nI s) hR hw
    simp (decide := true) (disch := omega) only [e184_86, e184_87, e184_88, e184_91a, e184_91b, e184_92, e184_93, bi_s, tyX, rl1, rl2, rl4, ↓reduceIte, Option.bind_some, true_and, and_true, false_and, and_false, true_or, or_true, false_or, or_false, if_same0, ite_eq0, ite_eq0', ite_eq1, ite_eq1', or_em, or_em', ite_not, lcmp0, lcmpL, lcmpG, nI_cl_b, eb_in_b, nI_1, nI_pred, Int32.reduceToNatClampNeg, eb_u_ap, Prod.mk.injEq, not_true_eq_false, not_false_eq_true, tyM, rl21, rl25, sp_rg, sp_iI, sp_iG, sp_iS, a1]
    exact ⟨I1, rfl, ⟨gv_wb a3, a3 _ _ (by simp)⟩, a2, eb_KM_of (fun l l1 l2 => a3 _ _ (by simp; omega)) hK⟩
  intro f
  induction f with
  | zero =>
    intro told s K I r hf hs2 hpop
    have := wl_pop w.1 (by omega) s hs2
    omega
  | succ f ih =>
    intro told s K I r hf hs2 hpop hwf hT h hK hR hr
    subst hr
    have h64 := (shl6 w.1 (by omega)).2
    have wr := fun I => m_wrong (L := L) (d := d + 4) (nc := nc) (ns := ns) (I := I) (J := J) (C := C) (mt := mt) (mk := mk) (T := T) (K := K)
    have fst0 : ∀ X Y : Option eb_R, (if (if told = 0 then (1 : Int32) else 0) = 0 then (if K.1 = 2 then X else Y) else X) = if told = 0 ∨ K.1 = 2 then X else Y := fun X Y => by
      by_cases q : told = 0
      · rw [if_pos q, if_neg (by decide), if_pos (Or.inl q)]
      · rw [if_neg q, if_pos rfl]
        by_cases q2 : K.1 = 2
        · rw [if_pos q2, if_pos (Or.inr q2)]
        · rw [if_neg q2, if_neg (fun z => z.elim q q2)]
    unfold pr_wl
    by_cases c0 : told = 0 ∨ K.1 = 2
    · have enter : eb_E L (d + 5) 184 8 [some (zr (21, 0, 0)), some (zi (nI s)), some (zi (if told = 0 then 1 else 0))] [] (nc, ns, I, J, eb_RL C mt mk) = eb_E L (d + 5) 184 20 [some (zr (21, 0, 0)), some (zi (nI s)), some (zi (if told = 0 then 1 else 0))] [] (nc, ns, I, J, eb_RL C mt mk) := by
        rw [e184_8]
        by_cases q : told = 0
        · rw [if_pos q]
          simp (decide := true) (disch := omega) only [e184_9, e184_12, e184_13, e184_16, e184_17, bi_s, tyX, rl1, rl2, rl4, ↓reduceIte, Option.bind_some, true_and, and_true, false_and, and_false, true_or, or_true, false_or, or_false, if_same0, ite_eq0, ite_eq0', ite_eq1, ite_eq1', or_em, or_em', ite_not, lcmp0, lcmpL, lcmpG, nI_cl_b, eb_in_b, nI_1, nI_pred, Int32.reduceToNatClampNeg, eb_u_ap, Prod.mk.injEq, not_true_eq_false, not_false_eq_true, tyM, rl21, rl25, sp_rg, sp_iI, sp_iG, sp_iS]
        · rw [if_neg q]
          have q2 := c0.resolve_left q
          simp (decide := true) (disch := omega) only [e184_9, e184_12, e184_13, e184_16, e184_17, bi_s, tyX, rl1, rl2, rl4, ↓reduceIte, Option.bind_some, true_and, and_true, false_and, and_false, true_or, or_true, false_or, or_false, if_same0, ite_eq0, ite_eq0', ite_eq1, ite_eq1', or_em, or_em', ite_not, lcmp0, lcmpL, lcmpG, nI_cl_b, eb_in_b, nI_1, nI_pred, Int32.reduceToNatClampNeg, eb_u_ap, Prod.mk.injEq, not_true_eq_false, not_false_eq_true, tyM, rl21, rl25, sp_rg, sp_iI, sp_iG, sp_iS, hK.2.2.1, q2]
      rw [enter, if_pos (show decide (told = 0) = true ∨ K.1 = 2 from c0.imp (fun q => decide_eq_true q) (fun q => q))]
      cases hs : sk_take T K 0 (nI w.1 - 1) with
      | none =>
        obtain ⟨I2, b1, b2, b3⟩ := m_numN' (L := L) (d := d + 2) (nc := nc) (ns := ns) (J := J) (C := C) (mt := mt) (mk := mk) h hK hs (j := 0)
        have b1' := m_numN (L := L) (d := d + 2) (nc := nc) (ns := ns) (J := J) (C := C) (mt := mt) (mk := mk) h hK hs (j := 0)
        rw [nI_0] at b1'
        obtain ⟨k2, f2⟩ := wrong_K (x := nI K.2.1) hK
        have wr2 := wr _ k2
        obtain ⟨k3, f3⟩ := wrong_K (x := nI K.2.1) k2
        by_cases c1 : K.1 = 2
        · obtain ⟨m, hm, em⟩ := sk_fig_nat ht hT c1
          have k21 := (hK.2.2.2 c1).trans em
          have c2 := sk_take_no hn rfl hs c1 em hm
          simp (decide := true) (disch := omega) only [e184_20, e184_21, e184_22, e184_23, e184_26, e184_27, e184_30, e184_31, e184_34, e184_35, e184_38, e184_41, e184_42, e184_43, e184_46, e184_47, e184_48, e184_49, e184_52, e184_53, e184_54, e184_55, e184_56, e184_59, e184_60, e184_61, e184_64, e184_67, e184_68, e184_71, e184_72, e184_73, e184_74, e184_75, e184_78, e184_79, e184_80, e184_81, e184_82, e184_83, bi_s, tyX, rl1, rl2, rl4, ↓reduceIte, Option.bind_some, true_and, and_true, false_and, and_false, true_or, or_true, false_or, or_false, if_same0, ite_eq0, ite_eq0', ite_eq1, ite_eq1', or_em, or_em', ite_not, lcmp0, lcmpL, lcmpG, nI_cl_b, eb_in_b, nI_1, nI_pred, Int32.reduceToNatClampNeg, eb_u_ap, Prod.mk.injEq, not_true_eq_false, not_false_eq_true, tyM, rl21, rl25, sp_rg, sp_iI, sp_iG, sp_iS, hK.2.2.1, c1, k21, hR.1.1, c2, b1', wr2]
          exact ⟨_, rfl, eb_fq_s (eb_fq_tr f2 f3), fun _ => eb_u_s, fun s q => by cases q⟩
        · simp (decide := true) (disch := omega) only [e184_20, e184_21, e184_22, e184_23, e184_26, e184_27, e184_30, e184_31, e184_34, e184_35, e184_38, e184_41, e184_42, e184_43, e184_46, e184_47, e184_48, e184_49, e184_52, e184_53, e184_54, e184_55, e184_56, e184_59, e184_60, e184_61, e184_64, e184_67, e184_68, e184_71, e184_72, e184_73, e184_74, e184_75, e184_78, e184_79, e184_80, e184_81, e184_82, e184_83, bi_s, tyX, rl1, rl2, rl4, ↓reduceIte, Option.bind_some, true_and, and_true, false_and, and_false, true_or, or_true, false_or, or_false, if_same0, ite_eq0, ite_eq0', ite_eq1, ite_eq1', or_em, or_em', ite_not, lcmp0, lcmpL, lcmpG, nI_cl_b, eb_in_b, nI_1, nI_pred, Int32.reduceToNatClampNeg, eb_u_ap, Prod.mk.injEq, not_true_eq_false, not_false_eq_true, tyM, rl21, rl25, sp_rg, sp_iI, sp_iG, sp_iS, hK.2.2.1, c1, hR.1.1, b1', wr2]
          exact ⟨_, rfl, eb_fq_s (eb_fq_tr f2 f3), fun _ => eb_u_s, fun s q => by cases q⟩
      | some v =>
        obtain ⟨v0, v1, c1⟩ := sk_take_rg hs
        rw [lt_pred (by omega) v0] at v1
        obtain ⟨j, hj, rfl⟩ := rg_nat (by omega) ⟨v0, v1⟩
        have hfig : sk_fig T K = nI j := by
          have hs := hs
          unfold sk_take at hs
          split at hs
          · injection hs
          · cases hs
        have k21 := (hK.2.2.2 c1).trans hfig
        have c2 : (nI j < nI w.1) = True := eq_true v1
        dsimp only
        rw [show tn (nI j) = j from nI_cl_b (by omega)]
        by_cases c : sp_bit (nI s) j = true
        · rw [if_pos c]
          have wr1 := wr _ hK
          simp (decide := true) (disch := omega) only [e184_20, e184_21, e184_22, e184_23, e184_26, e184_27, e184_30, e184_31, e184_34, e184_35, e184_38, e184_41, e184_42, e184_43, e184_46, e184_47, e184_48, e184_49, e184_52, e184_53, e184_54, e184_55, e184_56, e184_59, e184_60, e184_61, e184_64, e184_67, e184_68, e184_71, e184_72, e184_73, e184_74, e184_75, e184_78, e184_79, e184_80, e184_81, e184_82, e184_83, bi_s, tyX, rl1, rl2, rl4, ↓reduceIte, Option.bind_some, true_and, and_true, false_and, and_false, true_or, or_true, false_or, or_false, if_same0, ite_eq0, ite_eq0', ite_eq1, ite_eq1', or_em, or_em', ite_not, lcmp0, lcmpL, lcmpG, nI_cl_b, eb_in_b, nI_1, nI_pred, Int32.reduceToNatClampNeg, eb_u_ap, Prod.mk.injEq, not_true_eq_false, not_false_eq_true, tyM, rl21, rl25, sp_rg, sp_iI, sp_iG, sp_iS, hK.2.2.1, c1, k21, hR.1.1, c2, sp_bit0, c, wr1]
          exact ⟨_, rfl, eb_fq_s (wrong_K hK).2, fun _ => eb_u_s, fun s q => by cases q⟩
        · rw [if_neg c]
          have cf : sp_bit (nI s) j = false := by simpa using c
          obtain ⟨g1, g2, g3⟩ := wl_bits s (by omega) j (by omega) cf
          have g4 := wl_lt w.1 (by omega) s hs2 j hj cf
          obtain ⟨I2, b1, b2, b3, b4, b5⟩ := m_numS (L := L) (d := d + 2) (nc := nc) (ns := ns) (J := J) (C := C) (mt := mt) (mk := mk) h ht hK hwf hs (j := 0) (by omega)
          rw [nI_0] at b1
          obtain ⟨I3, e1, e2, e3, e4⟩ := ih (told + 1) (s + 2 ^ j) (sk_nx T K) I2 _ (by omega) g4 (by omega) (sk_nx_wf hwf) (sk_nx_isT hwf) (eb_fq_TM b3 h) b2 (eb_fq_RM b3 hR) rfl
          rw [show decide (told + 1 = 0) = false from decide_eq_false (by omega)] at e1 e3 e4
          rw [if_neg (by omega)] at e1
          rw [g1]
          refine ⟨I3, ?_, eb_fs_tr (eb_fq_s b3) e2, e3, e4⟩
          rw [← e1]
          simp (decide := true) (disch := omega) only [e184_20, e184_21, e184_22, e184_23, e184_26, e184_27, e184_30, e184_31, e184_34, e184_35, e184_38, e184_41, e184_42, e184_43, e184_46, e184_47, e184_48, e184_49, e184_52, e184_53, e184_54, e184_55, e184_56, e184_59, e184_60, e184_61, e184_64, e184_67, e184_68, e184_71, e184_72, e184_73, e184_74, e184_75, e184_78, e184_79, e184_80, e184_81, e184_82, e184_83, bi_s, tyX, rl1, rl2, rl4, ↓reduceIte, Option.bind_some, true_and, and_true, false_and, and_false, true_or, or_true, false_or, or_false, if_same0, ite_eq0, ite_eq0', ite_eq1, ite_eq1', or_em, or_em', ite_not, lcmp0, lcmpL, lcmpG, nI_cl_b, eb_in_b, nI_1, nI_pred, Int32.reduceToNatClampNeg, eb_u_ap, Prod.mk.injEq, not_true_eq_false, not_false_eq_true, tyM, rl21, rl25, sp_rg, sp_iI, sp_iG, sp_iS, hK.2.2.1, c1, k21, hR.1.1, c2, sp_bit0, cf, b1, b4, g1]
    · have q1 : ¬ told = 0 := fun q => c0 (Or.inl q)
      have q2 : ¬ K.1 = 2 := fun q => c0 (Or.inr q)
      obtain ⟨I1, a1, a2, a3⟩ := fin s K I hK hR
      rw [e184_8, if_neg q1, if_neg (show ¬ (decide (told = 0) = true ∨ K.1 = 2) from fun q => q.elim (fun z => q1 (of_decide_eq_true z)) q2)]
      simp (decide := true) (disch := omega) only [e184_9, e184_12, e184_13, e184_16, e184_17, bi_s, tyX, rl1, rl2, rl4, ↓reduceIte, Option.bind_some, true_and, and_true, false_and, and_false, true_or, or_true, false_or, or_false, if_same0, ite_eq0, ite_eq0', ite_eq1, ite_eq1', or_em, or_em', ite_not, lcmp0, lcmpL, lcmpG, nI_cl_b, eb_in_b, nI_1, nI_pred, Int32.reduceToNatClampNeg, eb_u_ap, Prod.mk.injEq, not_true_eq_false, not_false_eq_true, tyM, rl21, rl25, sp_rg, sp_iI, sp_iG, sp_iS, hK.2.2.1, q2]
      exact ⟨I1, a1, a2, fun q => by (cases q), fun s' q => by cases q; exact a3⟩
theorem m_writeTold (ht : sk_okT T) (hwf : sk_wf T K) (hw : sp_ok w) : eb_PM L (d + 6) 184 T w K (pr_write T w K) := by
  intro nc ns I J C mt mk h hK hR
  rw [h184 rfl]
  obtain ⟨I1, a1, a2, a3⟩ := m_look (L := L) (d := d + 3) (nc := nc) (ns := ns) (J := J) (C := C) (mt := mt) (mk := mk) h ht hK.2.1 hwf.2
  obtain ⟨I2, b1, b2, b3, b4⟩ := m_writeLoop (L := L) (d := d) (nc := nc) (ns := ns) (J := J) (C := C) (mt := mt) (mk := mk) ht hw 7 0 0 (sk_nx T K) I1 _ (by omega) (Nat.pow_pos (by omega)) rfl (sk_nx_wf hwf) (sk_nx_isT hwf) (eb_fq_TM (eb_fl_q a3) h) a2 (eb_fq_RM (eb_fl_q a3) hR) rfl
  rw [show decide ((0 : Nat) = 0) = true from rfl] at b1 b3 b4
  rw [nI_0, if_pos rfl] at b1
  rw [nI_0] at b3 b4
  simp (decide := true) (disch := omega) only [e184_0, e184_1, e184_4, e184_5, e184_6, e184_7, bi_s, tyX, rl1, rl2, rl4, ↓reduceIte, Option.bind_some, true_and, and_true, false_and, and_false, true_or, or_true, false_or, or_false, if_same0, ite_eq0, ite_eq0', ite_eq1, ite_eq1', or_em, or_em', ite_not, lcmp0, lcmpL, lcmpG, nI_cl_b, eb_in_b, nI_1, nI_pred, Int32.reduceToNatClampNeg, eb_u_ap, Prod.mk.injEq, not_true_eq_false, not_false_eq_true, tyM, rl21, rl25, sp_rg, sp_iI, sp_iG, sp_iS, a1]
  rw [b1]
  unfold pr_write
  cases hr : pr_wl T w.1 7 true 0 (sk_nx T K) with
  | mk k o =>
    rw [hr] at b1 b3 b4
    have fs := eb_fs_tr (eb_fq_s (eb_fl_q a3)) b2
    cases o with
    | none => exact ⟨I2, rfl, fs, fun _ => b3 rfl, fun w' q => by cases q⟩
    | some s => exact ⟨I2, rfl, fs, fun q => by (cases q), fun w' q => by cases q; exact b4 s rfl⟩
end

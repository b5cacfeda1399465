/-! the tape: the whole of it, as the reference reads it; the face valley -/
section
variable {L d nc ns k i g r : Nat} {I : eb_A → Nat → Int32} {J : eb_A → Nat → Int64} {C : Nat → Nat → Nat} {mt mk : Option Nat} {w : eb_W} {R : eb_A → Nat → Option eb_A} {S : eb_St} {M : eb_M} {T : eb_Tp} {K : eb_K} {x : Int32}
/-- what comes behind a statement -/
def pr_then (T : eb_Tp) (f c : Nat) (w : eb_W) (k : eb_K) : eb_K × Option (eb_W × Nat) := if k.1 = 0 then (k, some (w, c)) else if k.1 = 3 then pr_all T f (c + 1) w (sk_nx T k) else (k, none)
theorem pr_all_s {T : eb_Tp} {f c : Nat} {w : eb_W} {K : eb_K} : pr_all T (f + 1) c w K = match pr_stmt T w K with
    | (k, none) => (k, none)
    | (k, some w') => pr_then T f c w' k := rfl
theorem m_readLoop (ht : sk_okT T) : ∀ (f c : Nat) (w : eb_W) (K : eb_K) (I : eb_A → Nat → Int32) (r : eb_K × Option (eb_W × Nat)), c + f = 250 → 3 * c ≤ K.2.1 → sk_wf T K → sp_ok w → eb_TM I T → eb_KM I T K → eb_RM I 0 w → I (21, 0, 0) 24 = nI c → pr_then T f c w K = r →
    ∃ I', eb_E L (d + 8) 186 23 [some (zr (21, 0, 0))] [] (nc, ns, I, J, eb_RL C mt mk) = some (zi (eb_b01 r.2), (nc, ns, I', J, eb_RL C mt mk)) ∧ eb_gv 0 I I' ∧ (r.2 = none → I' (21, 0, 0) 22 = nI r.1.2.1) ∧ ∀ q, r.2 = some q → eb_RM I' 0 q.1 ∧ I' (21, 0, 0) 24 = nI q.2 := by
  intro f
  induction f with
  | zero =>
    intro c w K I r hf hp hwf
    have := hwf.1
    have := hwf.2
    have := ht.1
    omega
  | succ f ih =>
    intro c w K I r hf hp hwf hw h hK hR hc hr
    subst hr
    unfold pr_then
    have k19 := hK.2.2.1
    rw [e186_23]
    by_cases c1 : K.1 = 0
    · rw [if_pos c1]
      simp (decide := true) (disch := omega) only [e186_24, e186_27, e186_30, e186_31, e186_34, e186_35, e186_38, e186_39, e186_42, e186_43, e186_44, e186_47, e186_48, e186_51, e186_54, e186_55, e186_56, e186_57a, e186_57b, e186_58, e186_61, e186_62, e186_63, e186_66, e186_69, e186_70, bi_s, tyX, rl1, rl2, rl4, ↓reduceIte, Option.bind_some, true_and, and_true, false_and, and_false, true_or, or_true, false_or, or_false, if_same0, ite_eq0, ite_eq0', ite_eq1, ite_eq1', or_em, or_em', ite_not, lcmp0, lcmpL, lcmpG, nI_cl_b, eb_in_b, nI_1, nI_pred, Int32.reduceToNatClampNeg, eb_u_ap, Prod.mk.injEq, not_true_eq_false, not_false_eq_true, tyM, rl21, rl25, sp_rg, sp_iI, sp_iG, sp_iS, k19, c1]
      exact ⟨I, rfl, eb_gv_rf, fun q => by (cases q), fun q z => by cases z; exact ⟨hR, hc⟩⟩
    · rw [if_neg c1]
      by_cases c2 : K.1 = 3
      · rw [if_pos c2]
        obtain ⟨I1, a1, a2, a3⟩ := m_look (L := L) (d := d + 6) (nc := nc) (ns := ns) (J := J) (C := C) (mt := mt) (mk := mk) h ht hK.2.1 hwf.2
        have f1 := eb_fq_s (eb_fl_q a3)
        have h1 := eb_fq_TM (eb_fl_q a3) h
        have w1 := sk_nx_wf hwf
        have hp1 := (sk_tok_wf hwf.2).2.1
        have hp1 : K.2.2 ≤ (sk_nx T K).2.1 := hp1
        have a2 : eb_KM I1 T (sk_nx T K) := a2
        have hwf1 := hwf.1
        obtain ⟨I2, b1, b2, b3, b4⟩ := m_statement (L := L) (d := d) ht w1 hw nc ns I1 J C mt mk h1 a2 (eb_fq_RM (eb_fl_q a3) hR)
        have s1 := pr_stmt_ok w1 hw
        have s2 := fun w' => pr_stmt_len (T := T) (w := w) (w' := w') (K := sk_nx T K)
        rw [pr_all_s]
        cases hr : pr_stmt T w (sk_nx T K) with
        | mk k o =>
          rw [hr] at b1 b3 b4 s1 s2
          cases o with
          | none =>
            have b1 : eb_ev L (d + 8) 185 [zr (21, 0, 0)] (nc, ns, I1, J, eb_RL C mt mk) = some (zi 0, (nc, ns, I2, J, eb_RL C mt mk)) := b1
            simp (decide := true) (disch := omega) only [e186_24, e186_27, e186_30, e186_31, e186_34, e186_35, e186_38, e186_39, e186_42, e186_43, e186_44, e186_47, e186_48, e186_51, e186_54, e186_55, e186_56, e186_57a, e186_57b, e186_58, e186_61, e186_62, e186_63, e186_66, e186_69, e186_70, bi_s, tyX, rl1, rl2, rl4, ↓reduceIte, Option.bind_some, true_and, and_true, false_and, and_false, true_or, or_true, false_or, or_false, if_same0, ite_eq0, ite_eq0', ite_eq1, ite_eq1', or_em, or_em', ite_not, lcmp0, lcmpL, lcmpG, nI_cl_b, eb_in_b, nI_1, nI_pred, Int32.reduceToNatClampNeg, eb_u_ap, Prod.mk.injEq, not_true_eq_false, not_false_eq_true, tyM, rl21, rl25, sp_rg, sp_iI, sp_iG, sp_iS, k19, c2, a1, b1]
            exact ⟨I2, rfl, (eb_fs_tr f1 b2).1, fun _ => b3 rfl, fun q z => by cases z⟩
          | some w' =>
            have b1 : eb_ev L (d + 8) 185 [zr (21, 0, 0)] (nc, ns, I1, J, eb_RL C mt mk) = some (zi 1, (nc, ns, I2, J, eb_RL C mt mk)) := b1
            obtain ⟨g1, g2⟩ := b4 w' rfl
            obtain ⟨o1, o2⟩ := s1 w' rfl
            have o3 := s2 w' rfl
            have fs := eb_fs_tr f1 b2
            have h24 : I2 (21, 0, 0) 24 = nI c := fs.2.trans hc
            have o2 : sk_wf T k ∧ (sk_nx T K).2.2 ≤ k.2.1 := o2
            obtain ⟨I3, e1, e2, e3, e4⟩ := ih (c + 1) w' k (eb_u I2 (21, 0, 0) 24 (nI (c + 1))) _ (by omega) (by omega) o2.1 o1 (eb_gv_TM (eb_gv_tr fs.1 (fun a l q => if_neg (fun z => q (by rw [z.1]; exact ⟨rfl, Or.inr (Or.inr (Or.inr (Or.inr ⟨rfl, by omega⟩)))⟩)))) h) (eb_KM_of (fun l l1 l2 => if_neg (fun z => by omega)) g2) (eb_RM_of g1 (fun l l1 l2 => if_neg (fun z => by omega)) (fun i l => if_neg (by simp)) (fun j l => if_neg (by simp))) eb_u_s rfl
            refine ⟨I3, ?_, eb_gv_tr (eb_gv_tr fs.1 (fun a l q => if_neg (fun z => q (by rw [z.1]; exact ⟨rfl, Or.inr (Or.inr (Or.inr (Or.inr ⟨rfl, by omega⟩)))⟩)))) e2, e3, e4⟩
            refine Eq.trans ?_ e1
            simp (decide := true) (disch := omega) only [e186_24, e186_27, e186_30, e186_31, e186_34, e186_35, e186_38, e186_39, e186_42, e186_43, e186_44, e186_47, e186_48, e186_51, e186_54, e186_55, e186_56, e186_57a, e186_57b, e186_58, e186_61, e186_62, e186_63, e186_66, e186_69, e186_70, bi_s, tyX, rl1, rl2, rl4, ↓reduceIte, Option.bind_some, true_and, and_true, false_and, and_false, true_or, or_true, false_or, or_false, if_same0, ite_eq0, ite_eq0', ite_eq1, ite_eq1', or_em, or_em', ite_not, lcmp0, lcmpL, lcmpG, nI_cl_b, eb_in_b, nI_1, nI_pred, Int32.reduceToNatClampNeg, eb_u_ap, Prod.mk.injEq, not_true_eq_false, not_false_eq_true, tyM, rl21, rl25, sp_rg, sp_iI, sp_iG, sp_iS, k19, c2, a1, b1, h24]
      · rw [if_neg c2]
        have wr := m_wrong (L := L) (d := d + 7) (nc := nc) (ns := ns) (J := J) (C := C) (mt := mt) (mk := mk) hK
        simp (decide := true) (disch := omega) only [e186_24, e186_27, e186_30, e186_31, e186_34, e186_35, e186_38, e186_39, e186_42, e186_43, e186_44, e186_47, e186_48, e186_51, e186_54, e186_55, e186_56, e186_57a, e186_57b, e186_58, e186_61, e186_62, e186_63, e186_66, e186_69, e186_70, bi_s, tyX, rl1, rl2, rl4, ↓reduceIte, Option.bind_some, true_and, and_true, false_and, and_false, true_or, or_true, false_or, or_false, if_same0, ite_eq0, ite_eq0', ite_eq1, ite_eq1', or_em, or_em', ite_not, lcmp0, lcmpL, lcmpG, nI_cl_b, eb_in_b, nI_1, nI_pred, Int32.reduceToNatClampNeg, eb_u_ap, Prod.mk.injEq, not_true_eq_false, not_false_eq_true, tyM, rl21, rl25, sp_rg, sp_iI, sp_iG, sp_iS, k19, c1, c2, wr]
        exact ⟨_, rfl, eb_fq_gv (wrong_K hK).2, fun _ => eb_u_s, fun q z => by cases z⟩
theorem m_readAll (ht : sk_okT T) (hw : sp_ok w) (h : eb_TM I T) (hR : eb_RM I 0 w) : ∃ I', eb_ev L (d + 9) 186 [zr (21, 0, 0)] (nc, ns, I, J, eb_RL C mt mk) = some (zi (eb_b01 (pr_all T 250 1 w (sk_tok T 0)).2), (nc, ns, I', J, eb_RL C mt mk)) ∧ eb_gv 0 I I' ∧ ((pr_all T 250 1 w (sk_tok T 0)).2 = none → I' (21, 0, 0) 22 = nI (pr_all T 250 1 w (sk_tok T 0)).1.2.1) ∧ ∀ q, (pr_all T 250 1 w (sk_tok T 0)).2 = some q → eb_RM I' 0 q.1 ∧ I' (21, 0, 0) 24 = nI q.2 := by
  rw [h186 rfl]
  generalize hI0 : eb_u (eb_u I (21, 0, 0) 24 1) (21, 0, 0) 18 0 = I0
  have f0 : ∀ a l, ¬ (a = (21, 0, 0) ∧ (l = 18 ∨ l = 24)) → I0 a l = I a l := fun a l q => by
    have q1 : ¬ (a = (21, 0, 0) ∧ l = 18) := fun z => q ⟨z.1, Or.inl z.2⟩
    have q2 : ¬ (a = (21, 0, 0) ∧ l = 24) := fun z => q ⟨z.1, Or.inr z.2⟩
    rw [← hI0]; simp only [eb_u, q1, q2, if_false]
  have h0 : eb_TM I0 T := ⟨(f0 _ _ (by simp)).trans h.1, fun j hj => (f0 _ _ (by simp)).trans (h.2 j hj)⟩
  have hR0 : eb_RM I0 0 w := eb_RM_of hR (fun l l1 l2 => f0 _ _ (fun z => by omega)) (fun i l => f0 _ _ (by simp)) (fun j l => f0 _ _ (by simp))
  have g0 : eb_gv 0 I I0 := fun a l q => f0 a l (fun z => q (by rw [z.1]; exact ⟨rfl, Or.inr (Or.inr (Or.inr (Or.inr ⟨rfl, by omega⟩)))⟩))
  have k18 : I0 (21, 0, 0) 18 = nI 0 := by rw [← hI0]; simp [eb_u, nI_0]
  have k24 : I0 (21, 0, 0) 24 = nI 1 := by rw [← hI0]; simp [eb_u]; rfl
  obtain ⟨I1, a1, a2, a3⟩ := m_look (L := L) (d := d + 6) (nc := nc) (ns := ns) (J := J) (C := C) (mt := mt) (mk := mk) h0 ht k18 (Nat.zero_le _)
  have w1 := (sk_tok_wf (T := T) (Nat.zero_le T.2)).1
  have f1 := eb_fq_s (eb_fl_q a3)
  obtain ⟨I2, b1, b2, b3, b4⟩ := m_statement (L := L) (d := d) ht w1 hw nc ns I1 J C mt mk (eb_fq_TM (eb_fl_q a3) h0) a2 (eb_fq_RM (eb_fl_q a3) hR0)
  have s1 := pr_stmt_ok w1 hw
  have s2 := fun w' => pr_stmt_len (T := T) (w := w) (w' := w') (K := sk_tok T 0)
  have fs := eb_fs_tr f1 b2
  have gt := eb_gv_tr g0 fs.1
  rw [show pr_all T 250 1 w (sk_tok T 0) = match pr_stmt T w (sk_tok T 0) with | (k, none) => (k, none) | (k, some w') => pr_then T 249 1 w' k from rfl]
  cases hr : pr_stmt T w (sk_tok T 0) with
  | mk k o =>
    rw [hr] at b1 b3 b4 s1 s2
    cases o with
    | none =>
      have b1 : eb_ev L (d + 8) 185 [zr (21, 0, 0)] (nc, ns, I1, J, eb_RL C mt mk) = some (zi 0, (nc, ns, I2, J, eb_RL C mt mk)) := b1
      simp (decide := true) (disch := omega) only [e186_0, e186_1, e186_2, e186_5, e186_6, e186_7, e186_10, e186_11, e186_14, e186_15, e186_18, e186_21, e186_22, bi_s, tyX, rl1, rl2, rl4, ↓reduceIte, Option.bind_some, true_and, and_true, false_and, and_false, true_or, or_true, false_or, or_false, if_same0, ite_eq0, ite_eq0', ite_eq1, ite_eq1', or_em, or_em', ite_not, lcmp0, lcmpL, lcmpG, nI_cl_b, eb_in_b, nI_1, nI_pred, Int32.reduceToNatClampNeg, eb_u_ap, Prod.mk.injEq, not_true_eq_false, not_false_eq_true, tyM, rl21, rl25, sp_rg, sp_iI, sp_iG, sp_iS, hI0, a1, b1]
      exact ⟨I2, rfl, gt, fun _ => b3 rfl, fun q z => by cases z⟩
    | some w' =>
      have b1 : eb_ev L (d + 8) 185 [zr (21, 0, 0)] (nc, ns, I1, J, eb_RL C mt mk) = some (zi 1, (nc, ns, I2, J, eb_RL C mt mk)) := b1
      obtain ⟨g1, g2⟩ := b4 w' rfl
      obtain ⟨o1, o2⟩ := s1 w' rfl
      have o3 := s2 w' rfl
      have o2 : sk_wf T k ∧ (sk_tok T 0).2.2 ≤ k.2.1 := o2
      obtain ⟨I3, e1, e2, e3, e4⟩ := m_readLoop (L := L) (d := d) (nc := nc) (ns := ns) (J := J) (C := C) (mt := mt) (mk := mk) ht 249 1 w' k I2 _ (by omega) (by omega) o2.1 o1 (eb_gv_TM gt h) g2 g1 (fs.2.trans k24) rfl
      refine ⟨I3, ?_, eb_gv_tr gt e2, e3, e4⟩
      refine Eq.trans ?_ e1
      simp (decide := true) (disch := omega) only [e186_0, e186_1, e186_2, e186_5, e186_6, e186_7, e186_10, e186_11, e186_14, e186_15, e186_18, e186_21, e186_22, bi_s, tyX, rl1, rl2, rl4, ↓reduceIte, Option.bind_some, true_and, and_true, false_and, and_false, true_or, or_true, false_or, or_false, if_same0, ite_eq0, ite_eq0', ite_eq1, ite_eq1', or_em, or_em', ite_not, lcmp0, lcmpL, lcmpG, nI_cl_b, eb_in_b, nI_1, nI_pred, Int32.reduceToNatClampNeg, eb_u_ap, Prod.mk.injEq, not_true_eq_false, not_false_eq_true, tyM, rl21, rl25, sp_rg, sp_iI, sp_iG, sp_iS, hI0, a1, b1]
theorem mf_valley (ok : sp_St S) : eb_FM L (d + 10) 187 [] S (sf_valley S).2 (zi (sf_valley S).1) := by
  intro nc ns I J C mt mk h
  rw [h187 rfl]
  obtain ⟨t, nc1, ns1, I1, J1, f1, f2, f3, f4, f5⟩ := m_fresh (L := L) (d := d + 5) (C := C) h ok
  have ht0 := ((cnt_t f2.2.2.1).1 t rfl).1
  have ht : sk_okT (ss_t S) := ok.2.2.2
  obtain ⟨I2, b1, b2, b3, b4⟩ := m_readAll (L := L) (d := d) (nc := nc1) (ns := ns1) (J := J1) (C := C) (mt := some t) (mk := mk) ht ok.1 f2.2.2.2.2.1 f2.1
  unfold sf_valley
  have z7 : ∀ a l, ¬ (a = (21, 0, 0) ∧ l = 7) → eb_u I2 (21, 0, 0) 7 0 a l = I2 a l := fun a l q => if_neg q
  cases hr : pr_all (ss_t S) 250 1 S.1 (sk_tok (ss_t S) 0) with
  | mk k o =>
    rw [hr] at b1 b3 b4
    cases o with
    | none =>
      have b1 : eb_ev L (d + 9) 186 [zr (21, 0, 0)] (nc1, ns1, I1, J1, eb_RL C (some t) mk) = some (zi 0, (nc1, ns1, I2, J1, eb_RL C (some t) mk)) := b1
      have hRt : eb_RM (eb_u I2 (21, 0, 0) 7 0) t S.1 := eb_RM_of (eb_RM_gv f3 b2 ht0) (fun l l1 l2 => z7 _ _ (fun z => by omega)) (fun i l => z7 _ _ (by simp)) (fun j l => z7 _ _ (by simp))
      obtain ⟨I3, c1, c2, c3, c4⟩ := m_takeFault (L := L) (d := d + 7) (nc := nc1) (ns := ns1) (J := J1) (C := C) (mt := some t) (mk := mk) (r := 0) hRt ok.1 ht0
      -- the object, the valley as it was: what the reading left, the tape wiped, the valley taken back
      have m0 : eb_MS (sp_toT S ((ss_t S).1, 0)) (eb_u I1 (21, 0, 0) 7 0) J1 nc1 ns1 (some t) mk := eb_MS_tape f2 (fun a l q => if_neg (fun z => q (Or.inr ⟨z.1, by omega⟩))) (by simp [eb_u, nI_0]) (fun j hj => absurd hj (Nat.not_lt_zero _))
      have gv : eb_gv 0 (eb_u I1 (21, 0, 0) 7 0) I3 := fun a l q => by
        rw [c3 a l q]
        by_cases z : a = (21, 0, 0) ∧ l = 7
        · obtain ⟨z1, z2⟩ := z
          subst z1
          subst z2
          rw [eb_u_s, eb_u_s]
        · rw [z7 a l z, b2 a l q]
          exact (if_neg z).symm
      have m1 := eb_MS_w (w := S.1) m0 gv c2
      have k22 : I3 (21, 0, 0) 22 = nI k.2.1 := by rw [c4, z7 _ _ (by simp)]; exact b3 rfl
      have m2 := fm_rf (k := 0) m1 (by omega)
      simp (decide := true) (disch := omega) only [e187_0, e187_1, e187_4, e187_5, e187_6, e187_9, e187_10, e187_11, e187_12, e187_15, e187_16, e187_19, e187_20, e187_21, e187_24, e187_25, e187_27, e187_30a, e187_30b, e187_31, e187_33, e187_34, e187_37, e187_38, e187_39, e187_40, e187_43, bi_s, tyX, rl1, rl2, rl4, ↓reduceIte, Option.bind_some, true_and, and_true, false_and, and_false, true_or, or_true, false_or, or_false, if_same0, ite_eq0, ite_eq0', ite_eq1, ite_eq1', or_em, or_em', ite_not, lcmp0, lcmpL, lcmpG, nI_cl_b, eb_in_b, nI_1, nI_pred, Int32.reduceToNatClampNeg, eb_u_ap, Prod.mk.injEq, not_true_eq_false, not_false_eq_true, tyM, rl21, rl25, sp_rg, sp_iI, sp_iG, sp_iS, f1, b1, c1, m_refuse0]
      refine ⟨nc1, ns1, _, J1, some t, mk, ?_, m2.1, eb_fM_tr (eb_fM_tr (eb_fM_tr f4 (eb_fM_u (Nat.le_of_ble_eq_true rfl))) (eb_fM_gv gv)) m2.2.1, f5⟩
      rw [k22]
    | some q =>
      have b1 : eb_ev L (d + 9) 186 [zr (21, 0, 0)] (nc1, ns1, I1, J1, eb_RL C (some t) mk) = some (zi 1, (nc1, ns1, I2, J1, eb_RL C (some t) mk)) := b1
      obtain ⟨o1, o2⟩ := b4 q rfl
      have o2 : I2 (21, 0, 0) 24 = nI q.2 := o2
      have m1 := eb_MS_w (w := q.1) f2 b2 o1
      have m2 : eb_MS (sp_toT (sp_toW S q.1) ((ss_t S).1, 0)) (eb_u I2 (21, 0, 0) 7 0) J1 nc1 ns1 (some t) mk := eb_MS_tape m1 (fun a l q => if_neg (fun z => q (Or.inr ⟨z.1, by omega⟩))) (by simp [eb_u, nI_0]) (fun j hj => absurd hj (Nat.not_lt_zero _))
      simp (decide := true) (disch := omega) only [e187_0, e187_1, e187_4, e187_5, e187_6, e187_9, e187_10, e187_11, e187_12, e187_15, e187_16, e187_19, e187_20, e187_21, e187_24, e187_25, e187_27, e187_30a, e187_30b, e187_31, e187_33, e187_34, e187_37, e187_38, e187_39, e187_40, e187_43, bi_s, tyX, rl1, rl2, rl4, ↓reduceIte, Option.bind_some, true_and, and_true, false_and, and_false, true_or, or_true, false_or, or_false, if_same0, ite_eq0, ite_eq0', ite_eq1, ite_eq1', or_em, or_em', ite_not, lcmp0, lcmpL, lcmpG, nI_cl_b, eb_in_b, nI_1, nI_pred, Int32.reduceToNatClampNeg, eb_u_ap, Prod.mk.injEq, not_true_eq_false, not_false_eq_true, tyM, rl21, rl25, sp_rg, sp_iI, sp_iG, sp_iS, f1, b1, o2]
      exact ⟨nc1, ns1, _, J1, some t, mk, rfl, m2, eb_fM_tr (eb_fM_tr f4 (eb_fM_gv b2)) (eb_fM_u (Nat.le_of_ble_eq_true rfl)), f5⟩
end

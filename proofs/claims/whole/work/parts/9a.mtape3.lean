/-! the tape: figures; statements, as the reference reads them -/
theorem sk_run_all {T : eb_Tp} {k : Int32} : ∀ {f p j : Nat}, p ≤ j → j < sk_run T k p f → sk_kind (T.1 j) = k := by
  intro f
  induction f with
  | zero => intro p j h1 h2; have h2 : j < p := h2; omega
  | succ f ih =>
    intro p j h1 h2
    unfold sk_run at h2
    split at h2
    · next c =>
      by_cases q : j = p
      · subst q; exact c
      · exact ih (by omega) h2
    · omega
/-- a token -/
def sk_isT (T : eb_Tp) (K : eb_K) : Prop := ∃ e, e ≤ T.2 ∧ K = sk_tok T e
theorem sk_nx_isT {T : eb_Tp} {K : eb_K} (h : sk_wf T K) : sk_isT T (sk_nx T K) := ⟨K.2.2, h.2, rfl⟩
theorem sk_dig_nat {T : eb_Tp} {s : Nat} : ∀ {n : Nat}, n ≤ 3 → (∀ j, s ≤ j → j < s + n → 48 ≤ T.1 j ∧ T.1 j ≤ 57) → ∃ m, m < 10 ^ n ∧ sk_dig T s n = nI m := by
  intro n
  induction n with
  | zero => exact fun _ _ => ⟨0, by omega, rfl⟩
  | succ n ih =>
    intro hn h
    obtain ⟨m, h1, h2⟩ := ih (by omega) (fun j h1 h2 => h j h1 (by omega))
    have hb := h (s + n) (by omega) (by omega)
    obtain ⟨k, hk, ek⟩ := rg_le 57 (by omega) (by decide) hb
    have hk2 : 48 ≤ k := by
      have := hb.1
      rw [ek, show (48 : Int32) = nI 48 from rfl, nI_le_b (by omega) (by omega)] at this
      exact this
    have hp : 10 ^ (n + 1) = 10 ^ n * 10 := Nat.pow_succ ..
    refine ⟨10 * m + k - 48, by omega, ?_⟩
    show 10 * sk_dig T s n + T.1 (s + n) - 48 = _
    rw [h2, ek, show (10 : Int32) = nI 10 from rfl, show (48 : Int32) = nI 48 from rfl, nI_mul, nI_add, nI_sub (by omega)]
theorem sk_fig_nat {T : eb_Tp} {K : eb_K} (ht : sk_okT T) (hT : sk_isT T K) (h2 : K.1 = 2) : ∃ m, m ≤ 100000 ∧ sk_fig T K = nI m := by
  obtain ⟨e, he, rfl⟩ := hT
  have hs := sk_start_b he
  have hk : sk_kind (sk_byte T (sk_start T e)) = 2 := h2
  unfold sk_fig
  show ∃ m, m ≤ 100000 ∧ (if sk_end T (sk_start T e) - sk_start T e ≤ 3 then sk_dig T (sk_start T e) (sk_end T (sk_start T e) - sk_start T e) else 100000) = nI m
  generalize sk_start T e = s at hs hk
  by_cases c : sk_end T s - s ≤ 3
  · rw [if_pos c]
    have hlt : s < T.2 := by
      refine Classical.byContradiction fun q => ?_
      rw [show sk_byte T s = -1 from if_neg q] at hk
      exact absurd hk (by decide)
    rw [show sk_byte T s = T.1 s from if_pos hlt] at hk
    have hend : sk_end T s = sk_run T 2 (s + 1) (T.2 - (s + 1)) := by
      unfold sk_end
      rw [if_pos hlt, hk, if_pos (Or.inr rfl)]
    have hr := sk_run_b (T := T) (k := 2) (f := T.2 - (s + 1)) (p := s + 1)
    rw [← hend] at hr
    have all : ∀ j, s ≤ j → j < s + (sk_end T s - s) → 48 ≤ T.1 j ∧ T.1 j ≤ 57 := fun j h1 h2 => by
      have hj : j < T.2 := by omega
      refine (sk_kind_l (ht.2 j hj).1).2.1.mpr ?_
      by_cases q : j = s
      · subst q; exact hk
      · exact sk_run_all (T := T) (k := 2) (f := T.2 - (s + 1)) (p := s + 1) (by omega) (by rw [← hend]; omega)
    obtain ⟨m, h1, h2⟩ := sk_dig_nat c all
    have : 10 ^ (sk_end T s - s) ≤ 10 ^ 3 := Nat.pow_le_pow_right (by omega) c
    exact ⟨m, by omega, h2⟩
  · rw [if_neg c]; exact ⟨100000, Nat.le_refl _, rfl⟩
def eb_fs (I I' : eb_A → Nat → Int32) : Prop := eb_gv 0 I I' ∧ I' (21, 0, 0) 24 = I (21, 0, 0) 24
theorem eb_fs_tr {I I1 I2 : eb_A → Nat → Int32} (h1 : eb_fs I I1) (h2 : eb_fs I1 I2) : eb_fs I I2 := ⟨eb_gv_tr h1.1 h2.1, h2.2.trans h1.2⟩
theorem eb_fq_s {I I1 : eb_A → Nat → Int32} (h : eb_fq I I1) : eb_fs I I1 := ⟨eb_fq_gv h, h _ _ (fun z => by omega) (by simp)⟩
theorem eb_gv_TM {I I1 : eb_A → Nat → Int32} {T : eb_Tp} (h : eb_gv 0 I I1) (q : eb_TM I T) : eb_TM I1 T := ⟨(h _ _ (by simp)).trans q.1, fun j hj => (h _ _ (by simp)).trans (q.2 j hj)⟩
theorem eb_KM_of {I I1 : eb_A → Nat → Int32} {T : eb_Tp} {K : eb_K} (h : ∀ l, 18 ≤ l → l ≤ 21 → I1 (21, 0, 0) l = I (21, 0, 0) l) (q : eb_KM I T K) : eb_KM I1 T K := ⟨(h _ (by omega) (by omega)).trans q.1, (h _ (by omega) (by omega)).trans q.2.1, (h _ (by omega) (by omega)).trans q.2.2.1, fun z => (h _ (by omega) (by omega)).trans (q.2.2.2 z)⟩
/-- the reference's reading of a piece -/
def eb_PM (L d m : Nat) (T : eb_Tp) (w : eb_W) (K : eb_K) (r : eb_K × Option eb_W) : Prop := ∀ (nc ns : Nat) (I : eb_A → Nat → Int32) (J : eb_A → Nat → Int64) (C : Nat → Nat → Nat) (mt mk : Option Nat), eb_TM I T → eb_KM I T K → eb_RM I 0 w →
  ∃ I', eb_ev L d m [zr (21, 0, 0)] (nc, ns, I, J, eb_RL C mt mk) = some (zi (eb_b01 r.2), (nc, ns, I', J, eb_RL C mt mk)) ∧ eb_fs I I' ∧ (r.2 = none → I' (21, 0, 0) 22 = nI r.1.2.1) ∧ ∀ w', r.2 = some w' → eb_RM I' 0 w' ∧ eb_KM I' T r.1
section
variable {L d nc ns k i g : Nat} {I : eb_A → Nat → Int32} {J : eb_A → Nat → Int64} {C : Nat → Nat → Nat} {mt mk : Option Nat} {w : eb_W} {R : eb_A → Nat → Option eb_A} {S : eb_St} {M : eb_M} {T : eb_Tp} {K : eb_K} {x : Int32}
/-- three numbers, one behind the other: where they are told -/
theorem m_numN' (h : eb_TM I T) (hK : eb_KM I T K) {lo hi : Int32} (hs : sk_take T K lo hi = none) {j : Nat} : ∃ I', eb_ev L (d + 3) 180 [zr (21, 0, 0), zi (nI j), zi lo, zi hi] (nc, ns, I, J, eb_RL C mt mk) = some (zi 0, (nc, ns, I', J, eb_RL C mt mk)) ∧ eb_fq I I' ∧ I' (21, 0, 0) 22 = nI K.2.1 := ⟨_, m_numN h hK hs, (wrong_K hK).2, eb_u_s⟩
theorem m_innTold (ht : sk_okT T) (hwf : sk_wf T K) (hn : w.1 < 6) : eb_PM L (d + 7) 182 T w K (pr_inn T w K) := by
  intro nc ns I J C mt mk h hK hR
  rw [h182 rfl]
  unfold pr_inn
  rw [if_neg (by omega)]
  unfold pr_three
  cases hs : sk_take T (sk_nx T K) 0 100 with
  | none =>
    obtain ⟨I1, a1, a2, a3⟩ := m_tellsN (L := L) (d := d + 2) (nc := nc) (ns := ns) (J := J) (C := C) (mt := mt) (mk := mk) h ht hK hwf hs
    simp (decide := true) (disch := omega) only [e182_0, e182_1, e182_2, e182_4, e182_7, e182_10, e182_11, e182_12, e182_13, e182_15, e182_18, e182_21, e182_22, e182_23, e182_24, e182_26, e182_29, e182_32, e182_33, e182_34, e182_35, e182_38, e182_39, e182_40, e182_41, e182_42, e182_43, e182_44, e182_46, e182_49, e182_52, e182_53, e182_54, e182_56, e182_59, e182_62, e182_63, e182_64, e182_65, e182_68, e182_69, e182_70, e182_71, e182_72, e182_73, e182_74, e182_77, e182_78, e182_79, e182_80, e182_83, e182_84, e182_85, e182_86, e182_89, e182_90, bi_s, tyX, rl1, rl2, rl4, ↓reduceIte, Option.bind_some, true_and, and_true, false_and, and_false, true_or, or_true, false_or, or_false, if_same0, ite_eq0, ite_eq0', ite_eq1, ite_eq1', or_em, or_em', ite_not, lcmp0, lcmpL, lcmpG, nI_cl_b, eb_in_b, nI_1, nI_pred, Int32.reduceToNatClampNeg, eb_u_ap, Prod.mk.injEq, not_true_eq_false, not_false_eq_true, tyM, rl21, rl25, sp_rg, sp_iI, sp_iG, sp_iS, a1]
    exact ⟨I1, rfl, eb_fq_s a2, fun _ => a3, fun w' q => by cases q⟩
  | some a =>
    obtain ⟨I1, a1, a2, a3, a4, a5⟩ := m_tellsS (L := L) (d := d + 2) (nc := nc) (ns := ns) (J := J) (C := C) (mt := mt) (mk := mk) h ht hK hwf hs
    have h1 := eb_fq_TM a3 h
    have w2 := sk_nx_wf (sk_nx_wf hwf)
    dsimp only
    cases hs2 : sk_take T (sk_nx T (sk_nx T K)) 1 20 with
    | none =>
      obtain ⟨I2, b1, b2, b3⟩ := m_numN' (L := L) (d := d + 3) (nc := nc) (ns := ns) (J := J) (C := C) (mt := mt) (mk := mk) h1 a2 hs2 (j := 1)
      rw [show nI 1 = 1 from rfl] at b1
      simp (decide := true) (disch := omega) only [e182_0, e182_1, e182_2, e182_4, e182_7, e182_10, e182_11, e182_12, e182_13, e182_15, e182_18, e182_21, e182_22, e182_23, e182_24, e182_26, e182_29, e182_32, e182_33, e182_34, e182_35, e182_38, e182_39, e182_40, e182_41, e182_42, e182_43, e182_44, e182_46, e182_49, e182_52, e182_53, e182_54, e182_56, e182_59, e182_62, e182_63, e182_64, e182_65, e182_68, e182_69, e182_70, e182_71, e182_72, e182_73, e182_74, e182_77, e182_78, e182_79, e182_80, e182_83, e182_84, e182_85, e182_86, e182_89, e182_90, bi_s, tyX, rl1, rl2, rl4, ↓reduceIte, Option.bind_some, true_and, and_true, false_and, and_false, true_or, or_true, false_or, or_false, if_same0, ite_eq0, ite_eq0', ite_eq1, ite_eq1', or_em, or_em', ite_not, lcmp0, lcmpL, lcmpG, nI_cl_b, eb_in_b, nI_1, nI_pred, Int32.reduceToNatClampNeg, eb_u_ap, Prod.mk.injEq, not_true_eq_false, not_false_eq_true, tyM, rl21, rl25, sp_rg, sp_iI, sp_iG, sp_iS, a1, b1]
      exact ⟨I2, rfl, eb_fq_s (eb_fq_tr a3 b2), fun _ => b3, fun w' q => by cases q⟩
    | some b =>
      obtain ⟨I2, b1, b2, b3, b4, b5⟩ := m_numS (L := L) (d := d + 3) (nc := nc) (ns := ns) (J := J) (C := C) (mt := mt) (mk := mk) h1 ht a2 w2 hs2 (j := 1) (by omega)
      rw [show nI 1 = 1 from rfl] at b1
      have h2 := eb_fq_TM b3 h1
      have w3 := sk_nx_wf w2
      dsimp only
      cases hs3 : sk_take T (sk_nx T (sk_nx T (sk_nx T K))) 0 99 with
      | none =>
        obtain ⟨I3, c1, c2, c3⟩ := m_numN' (L := L) (d := d + 3) (nc := nc) (ns := ns) (J := J) (C := C) (mt := mt) (mk := mk) h2 b2 hs3 (j := 2)
        rw [show nI 2 = 2 from rfl] at c1
        simp (decide := true) (disch := omega) only [e182_0, e182_1, e182_2, e182_4, e182_7, e182_10, e182_11, e182_12, e182_13, e182_15, e182_18, e182_21, e182_22, e182_23, e182_24, e182_26, e182_29, e182_32, e182_33, e182_34, e182_35, e182_38, e182_39, e182_40, e182_41, e182_42, e182_43, e182_44, e182_46, e182_49, e182_52, e182_53, e182_54, e182_56, e182_59, e182_62, e182_63, e182_64, e182_65, e182_68, e182_69, e182_70, e182_71, e182_72, e182_73, e182_74, e182_77, e182_78, e182_79, e182_80, e182_83, e182_84, e182_85, e182_86, e182_89, e182_90, bi_s, tyX, rl1, rl2, rl4, ↓reduceIte, Option.bind_some, true_and, and_true, false_and, and_false, true_or, or_true, false_or, or_false, if_same0, ite_eq0, ite_eq0', ite_eq1, ite_eq1', or_em, or_em', ite_not, lcmp0, lcmpL, lcmpG, nI_cl_b, eb_in_b, nI_1, nI_pred, Int32.reduceToNatClampNeg, eb_u_ap, Prod.mk.injEq, not_true_eq_false, not_false_eq_true, tyM, rl21, rl25, sp_rg, sp_iI, sp_iG, sp_iS, a1, b1, c1]
        exact ⟨I3, rfl, eb_fq_s (eb_fq_tr (eb_fq_tr a3 b3) c2), fun _ => c3, fun w' q => by cases q⟩
      | some c =>
        obtain ⟨I3, c1, c2, c3, c4, c5⟩ := m_numS (L := L) (d := d + 3) (nc := nc) (ns := ns) (J := J) (C := C) (mt := mt) (mk := mk) h2 ht b2 w3 hs3 (j := 2) (by omega)
        rw [show nI 2 = 2 from rfl] at c1
        have h3 := eb_fq_TM c3 h2
        have w4 := sk_nx_wf w3
        have hf := eb_fq_tr (eb_fq_tr a3 b3) c3
        have t0 : I3 (35, 0, 0) 0 = a := (c5 0 (by omega)).trans ((b5 0 (by omega)).trans a4)
        have t1 : I3 (35, 0, 0) 1 = b := (c5 1 (by omega)).trans b4
        have t2 : I3 (35, 0, 0) 2 = c := c4
        dsimp only
        generalize sk_nx T (sk_nx T (sk_nx T (sk_nx T K))) = K4 at c2 w4
        have hiw := m_isWord (L := L) (d := d) (nc := nc) (ns := ns) (J := J) (C := C) (mt := mt) (mk := mk) h3 ht c2 w4 (z := 5) (by omega)
        unfold pr_said
        by_cases cw : sk_isw T K4 5 = true
        · rw [if_pos cw] at hiw ⊢
          cases hs4 : sk_take T (sk_nx T K4) 0 100 with
          | none =>
            obtain ⟨I4, e1, e2, e3⟩ := m_tellsN (L := L) (d := d + 2) (nc := nc) (ns := ns) (J := J) (C := C) (mt := mt) (mk := mk) h3 ht c2 w4 hs4
            simp (decide := true) (disch := omega) only [e182_0, e182_1, e182_2, e182_4, e182_7, e182_10, e182_11, e182_12, e182_13, e182_15, e182_18, e182_21, e182_22, e182_23, e182_24, e182_26, e182_29, e182_32, e182_33, e182_34, e182_35, e182_38, e182_39, e182_40, e182_41, e182_42, e182_43, e182_44, e182_46, e182_49, e182_52, e182_53, e182_54, e182_56, e182_59, e182_62, e182_63, e182_64, e182_65, e182_68, e182_69, e182_70, e182_71, e182_72, e182_73, e182_74, e182_77, e182_78, e182_79, e182_80, e182_83, e182_84, e182_85, e182_86, e182_89, e182_90, bi_s, tyX, rl1, rl2, rl4, ↓reduceIte, Option.bind_some, true_and, and_true, false_and, and_false, true_or, or_true, false_or, or_false, if_same0, ite_eq0, ite_eq0', ite_eq1, ite_eq1', or_em, or_em', ite_not, lcmp0, lcmpL, lcmpG, nI_cl_b, eb_in_b, nI_1, nI_pred, Int32.reduceToNatClampNeg, eb_u_ap, Prod.mk.injEq, not_true_eq_false, not_false_eq_true, tyM, rl21, rl25, sp_rg, sp_iI, sp_iG, sp_iS, a1, b1, c1, t0, hiw, e1]
            exact ⟨I4, rfl, eb_fq_s (eb_fq_tr hf e2), fun _ => e3, fun w' q => by cases q⟩
          | some v =>
            obtain ⟨I4, e1, e2, e3, e4, e5⟩ := m_tellsS (L := L) (d := d + 2) (nc := nc) (ns := ns) (J := J) (C := C) (mt := mt) (mk := mk) h3 ht c2 w4 hs4
            have u1 : I4 (35, 0, 0) 1 = b := (e5 1 (by omega)).trans t1
            have u2 : I4 (35, 0, 0) 2 = c := (e5 2 (by omega)).trans t2
            obtain ⟨I5, g1, g2, g3⟩ := m_addInn (L := L) (d := d + 5) (nc := nc) (ns := ns) (J := J) (C := C) (mt := mt) (mk := mk) (eb_fq_RM (eb_fq_tr hf e3) hR) hn (a := a) (b := b) (c := c) (s := v)
            simp (decide := true) (disch := omega) only [e182_0, e182_1, e182_2, e182_4, e182_7, e182_10, e182_11, e182_12, e182_13, e182_15, e182_18, e182_21, e182_22, e182_23, e182_24, e182_26, e182_29, e182_32, e182_33, e182_34, e182_35, e182_38, e182_39, e182_40, e182_41, e182_42, e182_43, e182_44, e182_46, e182_49, e182_52, e182_53, e182_54, e182_56, e182_59, e182_62, e182_63, e182_64, e182_65, e182_68, e182_69, e182_70, e182_71, e182_72, e182_73, e182_74, e182_77, e182_78, e182_79, e182_80, e182_83, e182_84, e182_85, e182_86, e182_89, e182_90, bi_s, tyX, rl1, rl2, rl4, ↓reduceIte, Option.bind_some, true_and, and_true, false_and, and_false, true_or, or_true, false_or, or_false, if_same0, ite_eq0, ite_eq0', ite_eq1, ite_eq1', or_em, or_em', ite_not, lcmp0, lcmpL, lcmpG, nI_cl_b, eb_in_b, nI_1, nI_pred, Int32.reduceToNatClampNeg, eb_u_ap, Prod.mk.injEq, not_true_eq_false, not_false_eq_true, tyM, rl21, rl25, sp_rg, sp_iI, sp_iG, sp_iS, a1, b1, c1, t0, hiw, e1, e4, u1, u2, g1]
            exact ⟨I5, rfl, eb_fs_tr (eb_fq_s (eb_fq_tr hf e3)) ⟨gv_ai g3, g3 _ _ (by simp) (by simp)⟩, fun q => by (cases q), fun w' q => by cases q; exact ⟨g2, eb_KM_of (fun l l1 l2 => g3 _ _ (by simp) (fun z => by omega)) e2⟩⟩
        · rw [if_neg cw] at hiw ⊢
          obtain ⟨I5, g1, g2, g3⟩ := m_addInn (L := L) (d := d + 5) (nc := nc) (ns := ns) (J := J) (C := C) (mt := mt) (mk := mk) (eb_fq_RM hf hR) hn (a := a) (b := b) (c := c) (s := -1)
          simp (decide := true) (disch := omega) only [e182_0, e182_1, e182_2, e182_4, e182_7, e182_10, e182_11, e182_12, e182_13, e182_15, e182_18, e182_21, e182_22, e182_23, e182_24, e182_26, e182_29, e182_32, e182_33, e182_34, e182_35, e182_38, e182_39, e182_40, e182_41, e182_42, e182_43, e182_44, e182_46, e182_49, e182_52, e182_53, e182_54, e182_56, e182_59, e182_62, e182_63, e182_64, e182_65, e182_68, e182_69, e182_70, e182_71, e182_72, e182_73, e182_74, e182_77, e182_78, e182_79, e182_80, e182_83, e182_84, e182_85, e182_86, e182_89, e182_90, bi_s, tyX, rl1, rl2, rl4, ↓reduceIte, Option.bind_some, true_and, and_true, false_and, and_false, true_or, or_true, false_or, or_false, if_same0, ite_eq0, ite_eq0', ite_eq1, ite_eq1', or_em, or_em', ite_not, lcmp0, lcmpL, lcmpG, nI_cl_b, eb_in_b, nI_1, nI_pred, Int32.reduceToNatClampNeg, eb_u_ap, Prod.mk.injEq, not_true_eq_false, not_false_eq_true, tyM, rl21, rl25, sp_rg, sp_iI, sp_iG, sp_iS, a1, b1, c1, t0, hiw, t1, t2, g1]
          exact ⟨I5, rfl, eb_fs_tr (eb_fq_s hf) ⟨gv_ai g3, g3 _ _ (by simp) (by simp)⟩, fun q => by (cases q), fun w' q => by cases q; exact ⟨g2, eb_KM_of (fun l l1 l2 => g3 _ _ (by simp) (fun z => by omega)) c2⟩⟩
end

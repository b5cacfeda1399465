/-! the class's faces: book, written, many, round, judge -/
section
variable {L d nc ns k i g : Nat} {I : eb_A → Nat → Int32} {J : eb_A → Nat → Int64} {C : Nat → Nat → Nat} {mt mk : Option Nat} {w : eb_W} {R : eb_A → Nat → Option eb_A} {S : eb_St} {M : eb_M}
theorem xf_book (ok : sp_St S) {n a : Int32} : eb_FX L (d + 9) 108 [zi n, zi a] S (sf_book S n a).2 (zi (sf_book S n a).1) := by
  intro nc ns I J C mt mk h
  rw [h108 rfl]
  unfold sf_book
  by_cases c1 : sp_rg n 1 12
  · by_cases c2 : sp_rg a 0 6
    · rw [if_pos ⟨c1, c2⟩]
      obtain ⟨m, hm, rfl⟩ := rg_12 c1
      obtain ⟨k, hk, rfl⟩ := rg_le 6 (by omega) (by decide) c2
      obtain ⟨I1, C1, e1, e2⟩ := x_bestBook0 (L := L) (d := d) (nc := nc) (ns := ns) (J := J) (C := C) (mt := mt) (mk := mk) h.1 ok.1 (m := m) (by omega) hk
      simp (decide := true) (disch := omega) only [e108_0, e108_1, e108_4, e108_7, e108_8, e108_9, e108_11, e108_14, e108_17, e108_18, e108_20, e108_23, e108_24, e108_25, e108_26, e108_27, e108_28, e108_31, bi_s, tyX, rl1, rl2, rl4, ↓reduceIte, Option.bind_some, true_and, and_true, false_and, and_false, true_or, or_true, false_or, or_false, if_same0, ite_eq0, ite_eq0', ite_eq1, ite_eq1', or_em, or_em', ite_not, lcmp0, lcmpL, lcmpG, nI_cl_b, eb_in_b, nI_1, nI_pred, Int32.reduceToNatClampNeg, eb_u_ap, Prod.mk.injEq, not_true_eq_false, not_false_eq_true, sp_rg, sp_iI, sp_iG, sp_iS, x_isSpan, c1, x_within, c2, e1, tn]
      exact ⟨I1, J, C1, rfl, fx_t h e2⟩
    · rw [if_neg (fun q => c2 q.2)]
      simp (decide := true) (disch := omega) only [e108_0, e108_1, e108_4, e108_7, e108_8, e108_9, e108_11, e108_14, e108_17, e108_18, e108_20, e108_23, e108_24, e108_25, e108_26, e108_27, e108_28, e108_31, bi_s, tyX, rl1, rl2, rl4, ↓reduceIte, Option.bind_some, true_and, and_true, false_and, and_false, true_or, or_true, false_or, or_false, if_same0, ite_eq0, ite_eq0', ite_eq1, ite_eq1', or_em, or_em', ite_not, lcmp0, lcmpL, lcmpG, nI_cl_b, eb_in_b, nI_1, nI_pred, Int32.reduceToNatClampNeg, eb_u_ap, Prod.mk.injEq, not_true_eq_false, not_false_eq_true, sp_rg, sp_iI, sp_iG, sp_iS, x_isSpan, c1, x_within, c2, x_refuse0]
      exact ⟨_, J, C, rfl, fx_rf h (by omega)⟩
  · rw [if_neg (fun q => c1 q.1)]
    simp (decide := true) (disch := omega) only [e108_0, e108_1, e108_4, e108_7, e108_8, e108_9, e108_11, e108_14, e108_17, e108_18, e108_20, e108_23, e108_24, e108_25, e108_26, e108_27, e108_28, e108_31, bi_s, tyX, rl1, rl2, rl4, ↓reduceIte, Option.bind_some, true_and, and_true, false_and, and_false, true_or, or_true, false_or, or_false, if_same0, ite_eq0, ite_eq0', ite_eq1, ite_eq1', or_em, or_em', ite_not, lcmp0, lcmpL, lcmpG, nI_cl_b, eb_in_b, nI_1, nI_pred, Int32.reduceToNatClampNeg, eb_u_ap, Prod.mk.injEq, not_true_eq_false, not_false_eq_true, sp_rg, sp_iI, sp_iG, sp_iS, x_isSpan, c1, x_refuse0]
    exact ⟨_, J, C, rfl, fx_rf h (by omega)⟩
theorem xf_written (ok : sp_St S) {n a : Int32} : eb_FX L (d + 9) 109 [zi n, zi a] S (sf_written S n a).2 (zi (sf_written S n a).1) := by
  intro nc ns I J C mt mk h
  rw [h109 rfl]
  unfold sf_written
  have hn := ok.1.1
  have h6 := shl6 S.1.1 (by omega)
  have hA := x_isSet (L := L) (d := d + 6) (nc := nc) (ns := ns) (J := J) (C := C) (mt := mt) (mk := mk) (x := a) h.1 ok.1
  by_cases c1 : sp_rg n 1 12
  · by_cases c2 : sp_iS S.1 a
    · rw [if_pos c2] at hA
      rw [if_pos ⟨c1, c2⟩]
      obtain ⟨m, hm, rfl⟩ := rg_12 c1
      obtain ⟨s, hs, rfl⟩ := rg_nat (by omega) c2
      obtain ⟨I1, C1, e1, e2⟩ := x_joyIfWritten (L := L) (d := d + 1) (nc := nc) (ns := ns) (J := J) (C := C) (mt := mt) (mk := mk) h.1 ok.1 (m := m) (s := s) (by omega)
      simp (decide := true) (disch := omega) only [e109_0, e109_1, e109_4, e109_7, e109_8, e109_9, e109_12, e109_15, e109_16, e109_18, e109_21, e109_22, e109_23, e109_24, e109_25, e109_28, bi_s, tyX, rl1, rl2, rl4, ↓reduceIte, Option.bind_some, true_and, and_true, false_and, and_false, true_or, or_true, false_or, or_false, if_same0, ite_eq0, ite_eq0', ite_eq1, ite_eq1', or_em, or_em', ite_not, lcmp0, lcmpL, lcmpG, nI_cl_b, eb_in_b, nI_1, nI_pred, Int32.reduceToNatClampNeg, eb_u_ap, Prod.mk.injEq, not_true_eq_false, not_false_eq_true, sp_rg, sp_iI, sp_iG, sp_iS, x_isSpan, c1, hA, e1, tn]
      exact ⟨I1, J, C1, rfl, fx_t h e2⟩
    · rw [if_neg c2] at hA
      rw [if_neg (fun q => c2 q.2)]
      simp (decide := true) (disch := omega) only [e109_0, e109_1, e109_4, e109_7, e109_8, e109_9, e109_12, e109_15, e109_16, e109_18, e109_21, e109_22, e109_23, e109_24, e109_25, e109_28, bi_s, tyX, rl1, rl2, rl4, ↓reduceIte, Option.bind_some, true_and, and_true, false_and, and_false, true_or, or_true, false_or, or_false, if_same0, ite_eq0, ite_eq0', ite_eq1, ite_eq1', or_em, or_em', ite_not, lcmp0, lcmpL, lcmpG, nI_cl_b, eb_in_b, nI_1, nI_pred, Int32.reduceToNatClampNeg, eb_u_ap, Prod.mk.injEq, not_true_eq_false, not_false_eq_true, sp_rg, sp_iI, sp_iG, sp_iS, x_isSpan, c1, hA, x_far0]
      exact ⟨_, J, C, rfl, fx_rf h (by omega)⟩
  · rw [if_neg (fun q => c1 q.1)]
    simp (decide := true) (disch := omega) only [e109_0, e109_1, e109_4, e109_7, e109_8, e109_9, e109_12, e109_15, e109_16, e109_18, e109_21, e109_22, e109_23, e109_24, e109_25, e109_28, bi_s, tyX, rl1, rl2, rl4, ↓reduceIte, Option.bind_some, true_and, and_true, false_and, and_false, true_or, or_true, false_or, or_false, if_same0, ite_eq0, ite_eq0', ite_eq1, ite_eq1', or_em, or_em', ite_not, lcmp0, lcmpL, lcmpG, nI_cl_b, eb_in_b, nI_1, nI_pred, Int32.reduceToNatClampNeg, eb_u_ap, Prod.mk.injEq, not_true_eq_false, not_false_eq_true, sp_rg, sp_iI, sp_iG, sp_iS, x_isSpan, c1, x_far0]
    exact ⟨_, J, C, rfl, fx_rf h (by omega)⟩
theorem sp_fst_at {p : Nat → Bool} : ∀ {c k z : Nat}, k ≤ z → z < k + c → (∀ t, k ≤ t → t < z → p t = false) → p z = true → sp_fst p k c = nI z := by
  intro c
  induction c with
  | zero => intro k z h1 h2; omega
  | succ c ih =>
    intro k z h1 h2 h3 h4
    show (if p k = true then nI k else sp_fst p (k + 1) c) = nI z
    by_cases q : k = z
    · subst q; rw [if_pos h4]
    · rw [if_neg (by rw [h3 k (Nat.le_refl _) (by omega)]; simp)]
      exact ih (by omega) (by omega) (fun t ht1 ht2 => h3 t (by omega) ht2) h4
/-- the fewest places with which the joy is the greatest -/
theorem sp_many_eq {w : eb_W} {n b : Nat} (hw : w.1 ≤ 6) (h0 : b < 2 ^ w.1) (h1 : ∀ t, t < 2 ^ w.1 → sp_jw w n t ≤ sp_jw w n b) (h2 : ∀ t, t < 2 ^ w.1 → sp_jw w n t = sp_jw w n b → sp_pop b ≤ sp_pop t) : sp_fst (fun k => @decide (sp_top w n k) (Classical.propDecidable _)) 0 7 = nI (sp_pop b) := by
  have h6 := (shl6 w.1 (by omega)).2
  have hpb := sp_pop_lt b (by omega)
  refine sp_fst_at (Nat.zero_le _) (by omega) (fun t _ ht => ?_) ?_
  · refine @decide_eq_false _ (Classical.propDecidable _) ?_
    rintro ⟨s, hs, hps, hmax⟩
    have e := Int32.le_antisymm (h1 s hs) (hmax b h0)
    have := h2 s hs e
    omega
  · exact @decide_eq_true _ (Classical.propDecidable _) ⟨b, h0, Nat.le_refl _, h1⟩
theorem xf_many (ok : sp_St S) {n : Int32} : eb_FX L (d + 9) 110 [zi n] S (sf_many S n).2 (zi (sf_many S n).1) := by
  intro nc ns I J C mt mk h
  rw [h110 rfl]
  unfold sf_many
  have hn := ok.1.1
  have h6 := shl6 S.1.1 (by omega)
  by_cases c1 : sp_rg n 1 12
  · rw [if_pos c1]
    obtain ⟨m, hm, rfl⟩ := rg_12 c1
    rw [show tn (nI m) = m from nI_cl_b (by omega)]
    obtain ⟨b, I1, C1, e1, e2, e3, e4, e5⟩ := x_bestBook1 (L := L) (d := d) (nc := nc) (ns := ns) (J := J) (C := C) (mt := mt) (mk := mk) h.1 ok.1 (m := m) (by omega)
    have hb := fun M => x_bitCount (L := L) (d := d + 7) (M := M) (s := b) (by omega)
    simp (decide := true) (disch := omega) only [e110_0, e110_1, e110_4, e110_7, e110_8, e110_10, e110_13, e110_14, e110_15, e110_16, e110_18, e110_19, e110_22, e110_25, bi_s, tyX, rl1, rl2, rl4, ↓reduceIte, Option.bind_some, true_and, and_true, false_and, and_false, true_or, or_true, false_or, or_false, if_same0, ite_eq0, ite_eq0', ite_eq1, ite_eq1', or_em, or_em', ite_not, lcmp0, lcmpL, lcmpG, nI_cl_b, eb_in_b, nI_1, nI_pred, Int32.reduceToNatClampNeg, eb_u_ap, Prod.mk.injEq, not_true_eq_false, not_false_eq_true, sp_rg, sp_iI, sp_iG, sp_iS, x_isSpan, c1, e1, hb, tn]
    exact ⟨I1, J, C1, by rw [sp_many_eq hn e3 e4 e5], fx_t h e2⟩
  · rw [if_neg c1]
    simp (decide := true) (disch := omega) only [e110_0, e110_1, e110_4, e110_7, e110_8, e110_10, e110_13, e110_14, e110_15, e110_16, e110_18, e110_19, e110_22, e110_25, bi_s, tyX, rl1, rl2, rl4, ↓reduceIte, Option.bind_some, true_and, and_true, false_and, and_false, true_or, or_true, false_or, or_false, if_same0, ite_eq0, ite_eq0', ite_eq1, ite_eq1', or_em, or_em', ite_not, lcmp0, lcmpL, lcmpG, nI_cl_b, eb_in_b, nI_1, nI_pred, Int32.reduceToNatClampNeg, eb_u_ap, Prod.mk.injEq, not_true_eq_false, not_false_eq_true, sp_rg, sp_iI, sp_iG, sp_iS, x_isSpan, c1, x_refuse0]
    exact ⟨_, J, C, rfl, fx_rf h (by omega)⟩
theorem x_power {b m : Nat} (hm : m ≤ 1000) : eb_ev L (d + 1) 143 [zi (nI b), zi (nI m)] M = some (zi (nI (b ^ m)), M) := by
  rw [h143]
  simp (decide := true) (disch := omega) only [e143_0, e143_1, e143_2, e143_3, e143_5, e143_6, e143_9, e143_10, e143_11, e143_12, e143_13, e143_16, e143_19, e143_20, bi_s, tyX, rl1, rl2, rl4, ↓reduceIte, Option.bind_some, true_and, and_true, false_and, and_false, true_or, or_true, false_or, or_false, if_same0, ite_eq0, ite_eq0', ite_eq1, ite_eq1', or_em, or_em', ite_not, lcmp0, lcmpL, lcmpG, nI_cl_b, eb_in_b, nI_1, nI_pred, Int32.reduceToNatClampNeg, eb_u_ap, Prod.mk.injEq, not_true_eq_false, not_false_eq_true]
  have e := eb_loopA (n := m) (f := fun i => nI (b ^ i))
    (F := fun i s => eb_E L d 143 4 [some (zi (nI b)), some (zi (nI m)), some (zi s), some (zi (nI i))] [] M) (by
      intro i hi
      rw [e143_4]
      simp (decide := true) (disch := omega) only [e143_0, e143_1, e143_2, e143_3, e143_5, e143_6, e143_9, e143_10, e143_11, e143_12, e143_13, e143_16, e143_19, e143_20, bi_s, tyX, rl1, rl2, rl4, ↓reduceIte, Option.bind_some, true_and, and_true, false_and, and_false, true_or, or_true, false_or, or_false, if_same0, ite_eq0, ite_eq0', ite_eq1, ite_eq1', or_em, or_em', ite_not, lcmp0, lcmpL, lcmpG, nI_cl_b, eb_in_b, nI_1, nI_pred, Int32.reduceToNatClampNeg, eb_u_ap, Prod.mk.injEq, not_true_eq_false, not_false_eq_true, nI_lt_b, hi, nI_mul]
      rfl)
  simp only [nI_0] at e
  rw [show nI (b ^ 0) = 1 from rfl] at e
  rw [e, e143_4]
  simp (decide := true) (disch := omega) only [e143_0, e143_1, e143_2, e143_3, e143_5, e143_6, e143_9, e143_10, e143_11, e143_12, e143_13, e143_16, e143_19, e143_20, bi_s, tyX, rl1, rl2, rl4, ↓reduceIte, Option.bind_some, true_and, and_true, false_and, and_false, true_or, or_true, false_or, or_false, if_same0, ite_eq0, ite_eq0', ite_eq1, ite_eq1', or_em, or_em', ite_not, lcmp0, lcmpL, lcmpG, nI_cl_b, eb_in_b, nI_1, nI_pred, Int32.reduceToNatClampNeg, eb_u_ap, Prod.mk.injEq, not_true_eq_false, not_false_eq_true, nI_lt_b, Nat.lt_irrefl]
theorem x_innOfRound (h : eb_RX I 0 w) (hw : sp_ok w) {n row y : Nat} (hn : n ≤ 3) (hy : y < n) (hr : row ≤ 100000) : eb_ev L (d + 2) 142 [zr (1, 0, 0), zi (nI n), zi (nI row), zi (nI y)] (nc, ns, I, J, eb_RL C mt mk) = some (zi (nI (sp_dig (w.1 + 1) n row y) - 1), (nc, ns, I, J, eb_RL C mt mk)) := by
  have hw1 := hw.1
  rw [h142 rfl]
  have hp := pow_small (b := w.1 + 1) (m := n - 1 - y) (by omega) (by omega)
  have hp0 : 0 < (w.1 + 1) ^ (n - 1 - y) := pow_pos7 (by omega)
  have e1 : nI n - 1 - nI y = nI (n - 1 - y) := by
    rw [show (1 : Int32) = nI 1 from rfl, nI_sub (by omega), nI_sub (by omega)]
  have hpw := fun M => x_power (L := L) (d := d) (M := M) (b := w.1 + 1) (m := n - 1 - y) (by omega)
  have b1 : (nI (w.1 + 1) < 1) = False := by rw [show (1 : Int32) = nI 1 from rfl, nI_lt_b (by omega) (by omega)]; simp
  have b2 : (nI ((w.1 + 1) ^ (n - 1 - y)) < 1) = False := by rw [show (1 : Int32) = nI 1 from rfl, nI_lt_b (by omega) (by omega)]; exact eq_false (by omega)
  have b3 : ¬ nI ((w.1 + 1) ^ (n - 1 - y)) = 0 := nI_ne0 hp0 (by omega)
  have b4 : ¬ nI (w.1 + 1) = 0 := nI_ne0 (by omega) (by omega)
  have hdl : row / (w.1 + 1) ^ (n - 1 - y) ≤ row := Nat.div_le_self _ _
  have d1 : nI row / nI ((w.1 + 1) ^ (n - 1 - y)) = nI (row / (w.1 + 1) ^ (n - 1 - y)) := pk_div (by omega) hp0 (by omega)
  have d2 : nI (row / (w.1 + 1) ^ (n - 1 - y)) - nI (row / (w.1 + 1) ^ (n - 1 - y)) / nI (w.1 + 1) * nI (w.1 + 1) = nI (row / (w.1 + 1) ^ (n - 1 - y) % (w.1 + 1)) := pk_rem (by omega) (by omega) (by omega)
  simp (decide := true) (disch := omega) only [e142_0, e142_1, e142_4, e142_7, e142_8, e142_9, e142_11, e142_13, e142_14, e142_15, e142_16, e142_17, e142_18, e142_21, e142_23, e142_25, e142_26, e142_29, e142_31, e142_32, e142_35, e142_36, e142_39, e142_40, e142_42, e142_43, e142_45, e142_46, e142_47, e142_48, bi_s, tyX, rl1, rl2, rl4, ↓reduceIte, Option.bind_some, true_and, and_true, false_and, and_false, true_or, or_true, false_or, or_false, if_same0, ite_eq0, ite_eq0', ite_eq1, ite_eq1', or_em, or_em', ite_not, lcmp0, lcmpL, lcmpG, nI_cl_b, eb_in_b, nI_1, nI_pred, Int32.reduceToNatClampNeg, eb_u_ap, Prod.mk.injEq, not_true_eq_false, not_false_eq_true, sp_rg, sp_iI, sp_iG, sp_iS, h.1.1, e1, hpw, b1, b2, b3, b4, d1, d2]
  rfl
theorem x_joyRound (h : eb_RX I 0 w) (hw : sp_ok w) {n row : Nat} (hn : n ≤ 3) (hr : row ≤ 100000) : ∃ I' C', eb_ev L (d + 7) 141 [zr (1, 0, 0), zi (nI n), zi (nI row)] (nc, ns, I, J, eb_RL C mt mk) = some (zi (sp_rj w n row), (nc, ns, I', J, eb_RL C' mt mk)) ∧ eb_fr 1 I I' := by
  have hw1 := hw.1
  obtain ⟨I0, a1, a2, a3⟩ := x_think (L := L) (d := d + 3) (nc := nc) (ns := ns) (J := J) (C := C) (mt := mt) (mk := mk) h hw
  rw [h141 rfl]
  simp (decide := true) (disch := omega) only [e141_0, e141_1, e141_4a, e141_4b, e141_5, e141_6, e141_7, e141_8, e141_12, e141_13, e141_16, e141_17, e141_18, e141_19, e141_21, e141_24, e141_26, e141_27, e141_29, e141_32, e141_35, e141_36, e141_39, e141_42, e141_44, e141_45, e141_46, e141_49, e141_52, e141_54, e141_55, e141_58, e141_61, e141_62, e141_63, e141_66, e141_67, e141_70, e141_71, e141_72, e141_75, e141_78, e141_79, bi_s, tyX, rl1, rl2, rl4, ↓reduceIte, Option.bind_some, true_and, and_true, false_and, and_false, true_or, or_true, false_or, or_false, if_same0, ite_eq0, ite_eq0', ite_eq1, ite_eq1', or_em, or_em', ite_not, lcmp0, lcmpL, lcmpG, nI_cl_b, eb_in_b, nI_1, nI_pred, Int32.reduceToNatClampNeg, eb_u_ap, Prod.mk.injEq, not_true_eq_false, not_false_eq_true, sp_rg, sp_iI, sp_iG, sp_iS, a1]
  unfold sp_rj
  generalize hds : sp_dig (w.1 + 1) n row = ds
  have hdl : ∀ y, ds y ≤ w.1 := fun y => by rw [← hds]; exact Nat.le_of_lt_succ (sp_dig_lt (by omega))
  obtain ⟨t, e, e1, e2, e3⟩ := eb_loop (α := Int32 × Option eb_V × (eb_A → Nat → Int32) × (Nat → Nat → Nat)) (n := n) (s0 := (0, none, I0, C))
    (F := fun y s => eb_E L (d + 6) 141 10 [some (zr (1, 0, 0)), some (zi (nI n)), some (zi (nI row)), some (zi s.1), some (zi (nI y)), s.2.1] [] (nc, ns, s.2.2.1, J, eb_RL s.2.2.2 mt mk))
    (P := fun y s => s.1 = (sp_rnd w ds y).1 ∧ eb_RX s.2.2.1 1 (sp_rnd w ds y).2 ∧ eb_fr 1 I s.2.2.1)
    ⟨rfl, a3, a2⟩ (by
      intro y s hy hP
      obtain ⟨s1, s2, I1, C1⟩ := s
      obtain ⟨h1, h2, h3⟩ := hP
      have h1 : s1 = (sp_rnd w ds y).1 := h1
      have h2 : eb_RX I1 1 (sp_rnd w ds y).2 := h2
      have h3 : eb_fr 1 I I1 := h3
      obtain ⟨o1, o2, o3⟩ := sp_rnd_ok (ds := ds) hw hdl y
      have hR1 : eb_RX I1 0 w := eb_RX_fr h h3 (by decide)
      have hio := x_innOfRound (L := L) (d := d + 4) (nc := nc) (ns := ns) (J := J) (C := C1) (mt := mt) (mk := mk) hR1 hw hn hy hr
      rw [hds] at hio
      have okA := sp_ok_ahead (c := ds y) o1 (by rw [o2]; exact hdl y)
      have hs1 : (sp_rnd w ds (y + 1)).1 = (sp_rnd w ds y).1 + (sp_years (sp_ahead (sp_rnd w ds y).2 (ds y)) 1).1 := rfl
      have hs2 : (sp_rnd w ds (y + 1)).2 = sp_at (sp_ahead (sp_rnd w ds y).2 (ds y)) 1 := rfl
      rw [e141_10]
      by_cases c : ds y = 0
      · rw [c] at hio
        have hio : eb_ev L (d + 6) 142 [zr (1, 0, 0), zi (nI n), zi (nI row), zi (nI y)] (nc, ns, I1, J, eb_RL C1 mt mk) = some (zi (-1), (nc, ns, I1, J, eb_RL C1 mt mk)) := hio
        have hI := x_isInn (L := L) (d := d + 4) (nc := nc) (ns := ns) (J := J) (C := C1) (mt := mt) (mk := mk) (x := -1) hR1 hw
        rw [if_neg (fun q => absurd q.1 (by decide))] at hI
        have ha : sp_ahead (sp_rnd w ds y).2 (ds y) = (sp_rnd w ds y).2 := if_pos c
        rw [ha] at okA hs1 hs2
        obtain ⟨I2, C2, t1, t2, t3, t4, t5, t6, t7⟩ := x_passYears (L := L) (d := d) (nc := nc) (ns := ns) (J := J) (C := C1) (mt := mt) (mk := mk) h2 okA (sp_ok_at okA) (m := 1) (by omega)
        rw [show nI 1 = 1 from rfl] at t1
        simp (decide := true) (disch := omega) only [e141_0, e141_1, e141_4a, e141_4b, e141_5, e141_6, e141_7, e141_8, e141_12, e141_13, e141_16, e141_17, e141_18, e141_19, e141_21, e141_24, e141_26, e141_27, e141_29, e141_32, e141_35, e141_36, e141_39, e141_42, e141_44, e141_45, e141_46, e141_49, e141_52, e141_54, e141_55, e141_58, e141_61, e141_62, e141_63, e141_66, e141_67, e141_70, e141_71, e141_72, e141_75, e141_78, e141_79, bi_s, tyX, rl1, rl2, rl4, ↓reduceIte, Option.bind_some, true_and, and_true, false_and, and_false, true_or, or_true, false_or, or_false, if_same0, ite_eq0, ite_eq0', ite_eq1, ite_eq1', or_em, or_em', ite_not, lcmp0, lcmpL, lcmpG, nI_cl_b, eb_in_b, nI_1, nI_pred, Int32.reduceToNatClampNeg, eb_u_ap, Prod.mk.injEq, not_true_eq_false, not_false_eq_true, sp_rg, sp_iI, sp_iG, sp_iS, nI_lt_b, hy, hio, hI, t1]
        exact ⟨(_, _, I2, C2), rfl, by rw [hs1, ← h1], by rw [hs2]; exact t3, eb_fr_tr h3 t2⟩
      · have hc : nI (ds y) - 1 = nI (ds y - 1) := nI_sub (a := ds y) (b := 1) (by omega)
        have hlt : ds y - 1 < w.1 := by have := hdl y; omega
        rw [hc] at hio
        have hI := x_isInn (L := L) (d := d + 4) (nc := nc) (ns := ns) (J := J) (C := C1) (mt := mt) (mk := mk) (x := nI (ds y - 1)) hR1 hw
        rw [if_pos ⟨nI_pos' (by omega), by rw [nI_lt_b (by omega) (by omega)]; exact hlt⟩] at hI
        have ha : sp_ahead (sp_rnd w ds y).2 (ds y) = sp_setI (sp_rnd w ds y).2 (ds y - 1) 4 ((sp_rnd w ds y).2.2.2.2.1 (ds y - 1) 0) := if_neg c
        rw [ha] at okA hs1 hs2
        have k0 := h2.2.1 (ds y - 1) (by rw [o2]; exact hlt) 0 (by omega)
        have r1 := RX_setI (i := ds y - 1) (f := 4) (v := (sp_rnd w ds y).2.2.2.2.1 (ds y - 1) 0) h2 (by omega)
        obtain ⟨I2, C2, t1, t2, t3, t4, t5, t6, t7⟩ := x_passYears (L := L) (d := d) (nc := nc) (ns := ns) (J := J) (C := C1) (mt := mt) (mk := mk) r1.1 okA (sp_ok_at okA) (m := 1) (by omega)
        rw [show nI 1 = 1 from rfl] at t1
        simp (decide := true) (disch := omega) only [e141_0, e141_1, e141_4a, e141_4b, e141_5, e141_6, e141_7, e141_8, e141_12, e141_13, e141_16, e141_17, e141_18, e141_19, e141_21, e141_24, e141_26, e141_27, e141_29, e141_32, e141_35, e141_36, e141_39, e141_42, e141_44, e141_45, e141_46, e141_49, e141_52, e141_54, e141_55, e141_58, e141_61, e141_62, e141_63, e141_66, e141_67, e141_70, e141_71, e141_72, e141_75, e141_78, e141_79, bi_s, tyX, rl1, rl2, rl4, ↓reduceIte, Option.bind_some, true_and, and_true, false_and, and_false, true_or, or_true, false_or, or_false, if_same0, ite_eq0, ite_eq0', ite_eq1, ite_eq1', or_em, or_em', ite_not, lcmp0, lcmpL, lcmpG, nI_cl_b, eb_in_b, nI_1, nI_pred, Int32.reduceToNatClampNeg, eb_u_ap, Prod.mk.injEq, not_true_eq_false, not_false_eq_true, sp_rg, sp_iI, sp_iG, sp_iS, nI_lt_b, hy, hio, hI, k0, t1]
        exact ⟨(_, _, I2, C2), rfl, by rw [hs1, ← h1], by rw [hs2]; exact t3, eb_fr_tr (eb_fr_tr h3 r1.2) t2⟩)
  obtain ⟨s1, s2, I1, C1⟩ := t
  have e1 : s1 = (sp_rnd w ds n).1 := e1
  simp only [nI_0] at e
  rw [e, e141_10]
  simp (decide := true) (disch := omega) only [e141_0, e141_1, e141_4a, e141_4b, e141_5, e141_6, e141_7, e141_8, e141_12, e141_13, e141_16, e141_17, e141_18, e141_19, e141_21, e141_24, e141_26, e141_27, e141_29, e141_32, e141_35, e141_36, e141_39, e141_42, e141_44, e141_45, e141_46, e141_49, e141_52, e141_54, e141_55, e141_58, e141_61, e141_62, e141_63, e141_66, e141_67, e141_70, e141_71, e141_72, e141_75, e141_78, e141_79, bi_s, tyX, rl1, rl2, rl4, ↓reduceIte, Option.bind_some, true_and, and_true, false_and, and_false, true_or, or_true, false_or, or_false, if_same0, ite_eq0, ite_eq0', ite_eq1, ite_eq1', or_em, or_em', ite_not, lcmp0, lcmpL, lcmpG, nI_cl_b, eb_in_b, nI_1, nI_pred, Int32.reduceToNatClampNeg, eb_u_ap, Prod.mk.injEq, not_true_eq_false, not_false_eq_true, sp_rg, sp_iI, sp_iG, sp_iS, nI_lt_b, Nat.lt_irrefl]
  exact ⟨I1, C1, by rw [e1], e3⟩
theorem xf_round (ok : sp_St S) {n a : Int32} : eb_FX L (d + 9) 111 [zi n, zi a] S (sf_round S n a).2 (zi (sf_round S n a).1) := by
  intro nc ns I J C mt mk h
  rw [h111 rfl]
  unfold sf_round
  have hn := ok.1.1
  by_cases c1 : sp_rg n 1 3
  · obtain ⟨m, hm, rfl⟩ := rg_le 3 (by omega) (by decide) c1
    have hm1 : 1 ≤ m := by
      have := c1.1
      rw [show (1 : Int32) = nI 1 from rfl, nI_le_b (by omega) (by omega)] at this
      exact this
    by_cases c2 : a = -1 ∨ 0 ≤ a ∧ a < nI m
    · rw [if_pos ⟨c1, c2⟩]
      rw [show tn (nI m) = m from nI_cl_b (by omega)]
      have hin : ∀ X : Option eb_R, eb_E L (d + 8) 111 32 [some (zr (1, 0, 0)), some (zi (nI m)), some (zi a), none, none, none, none, none] [] (nc, ns, I, J, eb_RL C mt mk) = X → eb_E L (d + 8) 111 0 [some (zr (1, 0, 0)), some (zi (nI m)), some (zi a), none, none, none, none, none] [] (nc, ns, I, J, eb_RL C mt mk) = X := by
        intro X hX
        by_cases c3 : a = -1
        · subst c3
          simp (decide := true) (disch := omega) only [e111_0, e111_1, e111_2, e111_3, e111_6, e111_9, e111_10, e111_11, e111_14, e111_15, e111_16, e111_17, e111_18, e111_19, e111_22, e111_25, bi_s, tyX, rl1, rl2, rl4, ↓reduceIte, Option.bind_some, true_and, and_true, false_and, and_false, true_or, or_true, false_or, or_false, if_same0, ite_eq0, ite_eq0', ite_eq1, ite_eq1', or_em, or_em', ite_not, lcmp0, lcmpL, lcmpG, nI_cl_b, eb_in_b, nI_1, nI_pred, Int32.reduceToNatClampNeg, eb_u_ap, Prod.mk.injEq, not_true_eq_false, not_false_eq_true, sp_rg, sp_iI, sp_iG, sp_iS, x_within, c1]
          exact hX
        · have c4 := c2.resolve_left c3
          simp (decide := true) (disch := omega) only [e111_0, e111_1, e111_2, e111_3, e111_6, e111_9, e111_10, e111_11, e111_14, e111_15, e111_16, e111_17, e111_18, e111_19, e111_22, e111_25, bi_s, tyX, rl1, rl2, rl4, ↓reduceIte, Option.bind_some, true_and, and_true, false_and, and_false, true_or, or_true, false_or, or_false, if_same0, ite_eq0, ite_eq0', ite_eq1, ite_eq1', or_em, or_em', ite_not, lcmp0, lcmpL, lcmpG, nI_cl_b, eb_in_b, nI_1, nI_pred, Int32.reduceToNatClampNeg, eb_u_ap, Prod.mk.injEq, not_true_eq_false, not_false_eq_true, sp_rg, sp_iI, sp_iG, sp_iS, x_within, c1, c3, rg_pos c4 (show m ≤ 100000 by omega), c4.1]
          exact hX
      have hp0 : 0 < (S.1.1 + 1) ^ m := pow_pos7 (by omega)
      have hps := pow_small (b := S.1.1 + 1) (m := m) (by omega) hm
      have hpw := fun M => x_power (L := L) (d := d + 7) (M := M) (b := S.1.1 + 1) (m := m) (by omega)
      obtain ⟨I0, C0, a1, a2⟩ := x_joyRound (L := L) (d := d + 1) (nc := nc) (ns := ns) (J := J) (C := C) (mt := mt) (mk := mk) h.1 ok.1 (n := m) (row := 0) hm (by omega)
      rw [nI_0] at a1
      have g2 : I0 (4, 0, 0) 2 = nI S.1.1 := by rw [a2 _ _ (by simp)]; exact h.1.1.1
      obtain ⟨t, e, e1, e2⟩ := eb_loop (α := Int32 × Int32 × Option eb_V × (eb_A → Nat → Int32) × (Nat → Nat → Nat)) (n := (S.1.1 + 1) ^ m - 1) (s0 := (0, sp_rj S.1 m 0, none, I0, C0))
        (F := fun y s => eb_E L (d + 8) 111 60 [some (zr (1, 0, 0)), some (zi (nI m)), some (zi a), some (zi s.1), some (zi s.2.1), some (zi (nI ((S.1.1 + 1) ^ m))), some (zi (nI (y + 1))), s.2.2.1] [] (nc, ns, s.2.2.2.1, J, eb_RL s.2.2.2.2 mt mk))
        (P := fun y s => (∃ b, sp_best (fun _ => true) (sp_rj S.1 m) (y + 1) = some b ∧ s.1 = nI b ∧ s.2.1 = sp_rj S.1 m b) ∧ eb_fr 1 I s.2.2.2.1)
        ⟨⟨0, rfl, rfl, rfl⟩, a2⟩ (by
          intro y s hy hP
          obtain ⟨s1, s2, s3, I1, C1⟩ := s
          obtain ⟨⟨b, h1, h2, h3⟩, h4⟩ := hP
          have h2 : s1 = nI b := h2
          have h3 : s2 = sp_rj S.1 m b := h3
          have h4 : eb_fr 1 I I1 := h4
          have hb : (nI (y + 1) < nI ((S.1.1 + 1) ^ m)) = True := by rw [nI_lt_b (by omega) (by omega)]; simp; omega
          obtain ⟨I2, C2, b1, b2⟩ := x_joyRound (L := L) (d := d + 1) (nc := nc) (ns := ns) (J := J) (C := C1) (mt := mt) (mk := mk) (eb_RX_fr h.1 h4 (by decide)) ok.1 (n := m) (row := y + 1) hm (by omega)
          have hbest := sp_best_s (has := fun _ => true) (f := sp_rj S.1 m) (n := y + 1)
          rw [h1] at hbest
          rw [e111_60]
          by_cases c5 : sp_rj S.1 m b < sp_rj S.1 m (y + 1)
          · have hbest : sp_best (fun _ => true) (sp_rj S.1 m) (y + 1 + 1) = some (y + 1) := hbest.trans (if_pos ⟨rfl, c5⟩)
            simp (decide := true) (disch := omega) only [e111_0, e111_1, e111_2, e111_3, e111_6, e111_9, e111_10, e111_11, e111_14, e111_15, e111_16, e111_17, e111_18, e111_19, e111_22, e111_25, e111_26, e111_28, e111_31, e111_32, e111_33, e111_34, e111_35, e111_36, e111_37, e111_40, e111_42, e111_43, e111_46, e111_49, e111_50, e111_51, e111_52, e111_55, e111_57, e111_58, e111_62, e111_64, e111_67, e111_68, e111_69, e111_71, e111_74, e111_76, e111_78, e111_80, e111_83, e111_85, e111_86, e111_88, e111_90, e111_93, e111_96, e111_97, e111_98, e111_101, e111_103, e111_106, e111_107, e111_108, e111_109, e111_110, e111_113, bi_s, tyX, rl1, rl2, rl4, ↓reduceIte, Option.bind_some, true_and, and_true, false_and, and_false, true_or, or_true, false_or, or_false, if_same0, ite_eq0, ite_eq0', ite_eq1, ite_eq1', or_em, or_em', ite_not, lcmp0, lcmpL, lcmpG, nI_cl_b, eb_in_b, nI_1, nI_pred, Int32.reduceToNatClampNeg, eb_u_ap, Prod.mk.injEq, not_true_eq_false, not_false_eq_true, sp_rg, sp_iI, sp_iG, sp_iS, hb, b1, h3, c5]
            exact ⟨(nI (y + 1), sp_rj S.1 m (y + 1), _, I2, C2), rfl, ⟨y + 1, hbest, rfl, rfl⟩, eb_fr_tr h4 b2⟩
          · have hbest : sp_best (fun _ => true) (sp_rj S.1 m) (y + 1 + 1) = some b := hbest.trans (if_neg (fun z => c5 z.2))
            simp (decide := true) (disch := omega) only [e111_0, e111_1, e111_2, e111_3, e111_6, e111_9, e111_10, e111_11, e111_14, e111_15, e111_16, e111_17, e111_18, e111_19, e111_22, e111_25, e111_26, e111_28, e111_31, e111_32, e111_33, e111_34, e111_35, e111_36, e111_37, e111_40, e111_42, e111_43, e111_46, e111_49, e111_50, e111_51, e111_52, e111_55, e111_57, e111_58, e111_62, e111_64, e111_67, e111_68, e111_69, e111_71, e111_74, e111_76, e111_78, e111_80, e111_83, e111_85, e111_86, e111_88, e111_90, e111_93, e111_96, e111_97, e111_98, e111_101, e111_103, e111_106, e111_107, e111_108, e111_109, e111_110, e111_113, bi_s, tyX, rl1, rl2, rl4, ↓reduceIte, Option.bind_some, true_and, and_true, false_and, and_false, true_or, or_true, false_or, or_false, if_same0, ite_eq0, ite_eq0', ite_eq1, ite_eq1', or_em, or_em', ite_not, lcmp0, lcmpL, lcmpG, nI_cl_b, eb_in_b, nI_1, nI_pred, Int32.reduceToNatClampNeg, eb_u_ap, Prod.mk.injEq, not_true_eq_false, not_false_eq_true, sp_rg, sp_iI, sp_iG, sp_iS, hb, b1, h3, c5]
            exact ⟨(s1, sp_rj S.1 m b, _, I2, C2), rfl, ⟨b, hbest, h2, rfl⟩, eb_fr_tr h4 b2⟩)
      obtain ⟨s1, s2, s3, I1, C1⟩ := t
      obtain ⟨b, h1, h2, h3⟩ := e1
      have h2 : s1 = nI b := h2
      have h3 : s2 = sp_rj S.1 m b := h3
      have e2 : eb_fr 1 I I1 := e2
      rw [show (S.1.1 + 1) ^ m - 1 + 1 = (S.1.1 + 1) ^ m by omega] at h1
      have hbl := (sp_best_lt h1).1
      have hround : sp_round S.1 m = b := by unfold sp_round; rw [h1]; rfl
      rw [hround]
      have hb : (nI ((S.1.1 + 1) ^ m - 1 + 1) < nI ((S.1.1 + 1) ^ m)) = False := by rw [nI_lt_b (by omega) (by omega)]; simp; omega
      simp only [show nI (0 + 1) = 1 from rfl] at e
      refine ⟨I1, J, C1, hin _ ?_, fx_t h e2⟩
      simp (decide := true) (disch := omega) only [e111_32, e111_33, e111_34, e111_35, e111_36, e111_37, e111_40, e111_42, e111_43, e111_46, e111_49, e111_50, e111_51, e111_52, e111_55, e111_57, e111_58, bi_s, tyX, rl1, rl2, rl4, ↓reduceIte, Option.bind_some, true_and, and_true, false_and, and_false, true_or, or_true, false_or, or_false, if_same0, ite_eq0, ite_eq0', ite_eq1, ite_eq1', or_em, or_em', ite_not, lcmp0, lcmpL, lcmpG, nI_cl_b, eb_in_b, nI_1, nI_pred, Int32.reduceToNatClampNeg, eb_u_ap, Prod.mk.injEq, not_true_eq_false, not_false_eq_true, sp_rg, sp_iI, sp_iG, sp_iS, a1, g2, hpw]
      rw [e, e111_60]
      by_cases c3 : a = -1
      · subst c3
        simp (decide := true) (disch := omega) only [e111_0, e111_1, e111_2, e111_3, e111_6, e111_9, e111_10, e111_11, e111_14, e111_15, e111_16, e111_17, e111_18, e111_19, e111_22, e111_25, e111_26, e111_28, e111_31, e111_32, e111_33, e111_34, e111_35, e111_36, e111_37, e111_40, e111_42, e111_43, e111_46, e111_49, e111_50, e111_51, e111_52, e111_55, e111_57, e111_58, e111_62, e111_64, e111_67, e111_68, e111_69, e111_71, e111_74, e111_76, e111_78, e111_80, e111_83, e111_85, e111_86, e111_88, e111_90, e111_93, e111_96, e111_97, e111_98, e111_101, e111_103, e111_106, e111_107, e111_108, e111_109, e111_110, e111_113, bi_s, tyX, rl1, rl2, rl4, ↓reduceIte, Option.bind_some, true_and, and_true, false_and, and_false, true_or, or_true, false_or, or_false, if_same0, ite_eq0, ite_eq0', ite_eq1, ite_eq1', or_em, or_em', ite_not, lcmp0, lcmpL, lcmpG, nI_cl_b, eb_in_b, nI_1, nI_pred, Int32.reduceToNatClampNeg, eb_u_ap, Prod.mk.injEq, not_true_eq_false, not_false_eq_true, sp_rg, sp_iI, sp_iG, sp_iS, hb, h3]
      · obtain ⟨j, hj, rfl⟩ := rg_nat (by omega) (c2.resolve_left c3)
        have hio := x_innOfRound (L := L) (d := d + 6) (nc := nc) (ns := ns) (J := J) (C := C1) (mt := mt) (mk := mk) (eb_RX_fr h.1 e2 (by decide)) ok.1 hm hj (row := b) (by omega)
        simp (decide := true) (disch := omega) only [e111_0, e111_1, e111_2, e111_3, e111_6, e111_9, e111_10, e111_11, e111_14, e111_15, e111_16, e111_17, e111_18, e111_19, e111_22, e111_25, e111_26, e111_28, e111_31, e111_32, e111_33, e111_34, e111_35, e111_36, e111_37, e111_40, e111_42, e111_43, e111_46, e111_49, e111_50, e111_51, e111_52, e111_55, e111_57, e111_58, e111_62, e111_64, e111_67, e111_68, e111_69, e111_71, e111_74, e111_76, e111_78, e111_80, e111_83, e111_85, e111_86, e111_88, e111_90, e111_93, e111_96, e111_97, e111_98, e111_101, e111_103, e111_106, e111_107, e111_108, e111_109, e111_110, e111_113, bi_s, tyX, rl1, rl2, rl4, ↓reduceIte, Option.bind_some, true_and, and_true, false_and, and_false, true_or, or_true, false_or, or_false, if_same0, ite_eq0, ite_eq0', ite_eq1, ite_eq1', or_em, or_em', ite_not, lcmp0, lcmpL, lcmpG, nI_cl_b, eb_in_b, nI_1, nI_pred, Int32.reduceToNatClampNeg, eb_u_ap, Prod.mk.injEq, not_true_eq_false, not_false_eq_true, sp_rg, sp_iI, sp_iG, sp_iS, hb, h2, c3, hio, tn]
    · rw [if_neg (fun q => c2 q.2)]
      have c3 : ¬ a = -1 := fun q => c2 (Or.inl q)
      have c4 : ¬ (0 ≤ a ∧ a < nI m) := fun q => c2 (Or.inr q)
      simp (decide := true) (disch := omega) only [e111_0, e111_1, e111_2, e111_3, e111_6, e111_9, e111_10, e111_11, e111_14, e111_15, e111_16, e111_17, e111_18, e111_19, e111_22, e111_25, e111_26, e111_28, e111_31, e111_32, e111_33, e111_34, e111_35, e111_36, e111_37, e111_40, e111_42, e111_43, e111_46, e111_49, e111_50, e111_51, e111_52, e111_55, e111_57, e111_58, e111_62, e111_64, e111_67, e111_68, e111_69, e111_71, e111_74, e111_76, e111_78, e111_80, e111_83, e111_85, e111_86, e111_88, e111_90, e111_93, e111_96, e111_97, e111_98, e111_101, e111_103, e111_106, e111_107, e111_108, e111_109, e111_110, e111_113, bi_s, tyX, rl1, rl2, rl4, ↓reduceIte, Option.bind_some, true_and, and_true, false_and, and_false, true_or, or_true, false_or, or_false, if_same0, ite_eq0, ite_eq0', ite_eq1, ite_eq1', or_em, or_em', ite_not, lcmp0, lcmpL, lcmpG, nI_cl_b, eb_in_b, nI_1, nI_pred, Int32.reduceToNatClampNeg, eb_u_ap, Prod.mk.injEq, not_true_eq_false, not_false_eq_true, sp_rg, sp_iI, sp_iG, sp_iS, x_within, c1, c3, rg_pred, c4, x_far0]
      exact ⟨_, J, C, rfl, fx_rf h (by omega)⟩
  · rw [if_neg (fun q => c1 q.1)]
    simp (decide := true) (disch := omega) only [e111_0, e111_1, e111_2, e111_3, e111_6, e111_9, e111_10, e111_11, e111_14, e111_15, e111_16, e111_17, e111_18, e111_19, e111_22, e111_25, e111_26, e111_28, e111_31, e111_32, e111_33, e111_34, e111_35, e111_36, e111_37, e111_40, e111_42, e111_43, e111_46, e111_49, e111_50, e111_51, e111_52, e111_55, e111_57, e111_58, e111_62, e111_64, e111_67, e111_68, e111_69, e111_71, e111_74, e111_76, e111_78, e111_80, e111_83, e111_85, e111_86, e111_88, e111_90, e111_93, e111_96, e111_97, e111_98, e111_101, e111_103, e111_106, e111_107, e111_108, e111_109, e111_110, e111_113, bi_s, tyX, rl1, rl2, rl4, ↓reduceIte, Option.bind_some, true_and, and_true, false_and, and_false, true_or, or_true, false_or, or_false, if_same0, ite_eq0, ite_eq0', ite_eq1, ite_eq1', or_em, or_em', ite_not, lcmp0, lcmpL, lcmpG, nI_cl_b, eb_in_b, nI_1, nI_pred, Int32.reduceToNatClampNeg, eb_u_ap, Prod.mk.injEq, not_true_eq_false, not_false_eq_true, sp_rg, sp_iI, sp_iG, sp_iS, x_within, c1, x_far0]
    exact ⟨_, J, C, rfl, fx_rf h (by omega)⟩
end

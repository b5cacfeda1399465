/-! the reference's faces: years that spoil, recover, bear; letters drawn -/
theorem bit_0 {i : Nat} : sp_bit 0 i = false := by
  unfold sp_bit
  have : ∀ x : Int32, (0 : Int32) >>> x = 0 := fun x => by
    apply Int32.toBitVec.inj
    simp [Int32.toBitVec_shiftRight]
  rw [this]
  decide
/-- two valleys alike but in their age, with nothing said -/
def sp_aw (w w' : eb_W) : Prop := w'.1 = w.1 ∧ w'.2.1 = w.2.1 ∧ w'.2.2.2 = w.2.2.2 ∧ ∀ i, w.2.2.2.1 i 4 = -1
theorem aw_score {a b : Int32} {q h : Nat → Int32} : sp_score a q h (-1) = sp_score b q h (-1) := by
  simp only [sp_score, sp_booked, if_true]
theorem aw_night {w w' : eb_W} (h : sp_aw w w') : sp_night w' = sp_night w := by
  obtain ⟨n, g, s, q⟩ := w
  obtain ⟨n', g', s', q'⟩ := w'
  obtain ⟨h1, h2, h3, h4⟩ := h
  have h1 : n' = n := h1
  have h2 : g' = g := h2
  have h3 : q' = q := h3
  subst h1
  subst h2
  subst h3
  have h4 : ∀ i, q'.1 i 4 = -1 := h4
  have e : ∀ (N : eb_N) (j : Nat), sp_put (n', g', s', q') (fun i => q'.1 i 4) j (q'.2 j 1) N = sp_put (n', g', s, q') (fun i => q'.1 i 4) j (q'.2 j 1) N := by
    intro N j
    have : (fun i => sp_score (s' 0) (q'.1 i) (q'.2 j) (q'.1 i 4)) = fun i => sp_score (s 0) (q'.1 i) (q'.2 j) (q'.1 i 4) := funext fun i => by rw [h4 i]; exact aw_score
    simp only [sp_put, this]
  show (sp_ord (n', g', s', q')).foldl (fun N j => sp_put (n', g', s', q') (fun i => q'.1 i 4) j (q'.2 j 1) N) sp_N0 = (sp_ord (n', g', s, q')).foldl (fun N j => sp_put (n', g', s, q') (fun i => q'.1 i 4) j (q'.2 j 1) N) sp_N0
  have : (fun N j => sp_put (n', g', s', q') (fun i => q'.1 i 4) j (q'.2 j 1) N) = fun N j => sp_put (n', g', s, q') (fun i => q'.1 i 4) j (q'.2 j 1) N := funext fun N => funext fun j => e N j
  rw [this]
  rfl
theorem aw_year {w w' : eb_W} (h : sp_aw w w') : sp_aw (sp_year w) (sp_year w') := by
  have hN := aw_night h
  obtain ⟨h1, h2, h3, h4⟩ := h
  refine ⟨h1, h2, ?_, fun i => h4 i⟩
  show ((fun i => sp_grow (w'.2.2.2.1 i) ((sp_night w').1 i)), w'.2.2.2.2) = ((fun i => sp_grow (w.2.2.2.1 i) ((sp_night w).1 i)), w.2.2.2.2)
  rw [hN, h3]
theorem aw_at {w w' : eb_W} (h : sp_aw w w') : ∀ m, sp_aw (sp_at w m) (sp_at w' m) := by
  intro m
  induction m with
  | zero => exact h
  | succ m ih => exact aw_year ih
/-- a valley with nothing said, its age kept -/
def sp_mute (w : eb_W) : eb_W := sp_setS (sp_write w 0) 0 (w.2.2.1 0)
theorem mute_i (w : eb_W) (i f : Nat) : (sp_mute w).2.2.2.1 i f = if f = 4 then -1 else w.2.2.2.1 i f := by
  show sp_up (w.2.2.2.1 i) 4 (if sp_bit 0 i = true then w.2.2.2.1 i 0 else -1) f = _
  rw [bit_0]
  rfl
theorem mute_aw (w : eb_W) : sp_aw (sp_write w 0) (sp_mute w) := ⟨rfl, rfl, rfl, fun i => mute_i w i 4⟩
theorem mute_ok {w : eb_W} (h : sp_ok w) : sp_ok (sp_mute w) := by
  have h1 := sp_ok_write (set := 0) h
  exact ⟨h1.1, h1.2.1, h.2.2.1, h1.2.2.2⟩
section
variable {L d nc ns r i g t : Nat} {I I' I1 : eb_A → Nat → Int32} {J J1 : eb_A → Nat → Int64} {C : Nat → Nat → Nat} {mt mk : Option Nat} {M : eb_M} {R : eb_A → Nat → Option eb_A} {w : eb_W} {x : Int32} {S : eb_St}
theorem mf_spoilt (ok : sp_St S) {a b : Int32} : eb_FM L (d + 8) 237 [zi a, zi b] S (sf_spoilt S a b).2 (zi (sf_spoilt S a b).1) := by
  intro nc ns I J C mt mk h
  rw [h237 rfl]
  unfold sf_spoilt
  have hI := m_isInn (L := L) (d := d + 5) (nc := nc) (ns := ns) (J := J) (C := C) (mt := mt) (mk := mk) (x := a) h.1 ok.1
  have hn1 := ok.1.1
  by_cases c1 : sp_iI S.1 a
  · rw [if_pos c1] at hI
    by_cases c2 : sp_rg b 0 100
    · rw [if_pos ⟨c1, c2⟩]
      obtain ⟨i, hi, rfl⟩ := rg_nat (by omega) c1
      rw [show tn (nI i) = i from nI_cl_b (by omega)]
      generalize hp : (fun y => decide ((sp_at S.1 y).2.2.2.1 i 0 < b)) = p
      obtain ⟨t, nc1, ns1, I0, J1, f1, f2, f3, f4, f5⟩ := m_fresh (L := L) (d := d + 3) (C := C) h ok
      simp (decide := true) (disch := omega) only [e237_0, e237_1, e237_2, e237_5, e237_8, e237_9, e237_10, e237_11, e237_14, e237_17, e237_20, e237_21, e237_23, e237_26, e237_27, e237_28, e237_31, e237_32, e237_33, bi_s, tyX, rl1, rl2, rl4, ↓reduceIte, Option.bind_some, true_and, and_true, false_and, and_false, true_or, or_true, false_or, or_false, if_same0, ite_eq0, ite_eq0', ite_eq1, ite_eq1', or_em, or_em', ite_not, lcmp0, lcmpL, lcmpG, nI_cl_b, eb_in_b, nI_1, nI_pred, Int32.reduceToNatClampNeg, eb_u_ap, Prod.mk.injEq, not_true_eq_false, not_false_eq_true, tyM, rl21, rl25, sp_rg, sp_iI, sp_iG, sp_iS, hI, m_ins, c2, f1]
      have key := eb_loopE (α := eb_A → Nat → Int32) (n := 30) (s0 := I0)
        (F := fun y s => eb_E L (d + 7) 237 35 [some (zr (21, 0, 0)), some (zi (nI i)), some (zi b), some (zr (21, t, 0)), some (zi (nI (y + 1)))] [] (nc1, ns1, s, J1, eb_RL C (some t) mk))
        (P := fun y s => eb_gv t I0 s ∧ eb_RM s t (sp_at S.1 y) ∧ sp_fst p (y + 1) (30 - y) = sp_fst p 1 30)
        (Q := fun r => ∃ nc' ns' I' J' mt' mk', r = some (zi (sp_fst p 1 30), (nc', ns', I', J', eb_RL C mt' mk')) ∧ eb_MS S I' J' nc' ns' mt' mk' ∧ eb_fM I I' ∧ eb_fN J J')
        ⟨eb_gv_rf, f3, rfl⟩ (by
          intro y I1 hy hP
          obtain ⟨h1, h3, h2⟩ := hP
          obtain ⟨I2, b1, b2, b3, -⟩ := m_oneYear (L := L) (d := d + 1) (nc := nc1) (ns := ns1) (J := J1) (C := C) (mt := some t) (mk := mk) h3 ok.1
          have k0 := b3.2.1 i (by rw [(sp_years_n (w := S.1) (m := y + 1)).1]; exact hi) 0 (by omega)
          have hb : (30 < nI (y + 1)) = False := by rw [show (30 : Int32) = nI 30 from rfl, nI_lt_b (by omega) (by omega)]; simp; omega
          have hpy : p (y + 1) = decide ((sp_at S.1 (y + 1)).2.2.2.1 i 0 < b) := by rw [← hp]
          have h20 : 30 - y = (30 - (y + 1)) + 1 := by omega
          rw [h20] at h2
          have h2 : (if p (y + 1) = true then nI (y + 1) else sp_fst p (y + 1 + 1) (30 - (y + 1))) = sp_fst p 1 30 := h2
          by_cases c : (sp_at S.1 (y + 1)).2.2.2.1 i 0 < b
          · right
            rw [hpy, if_pos (decide_eq_true c)] at h2
            rw [e237_35]
            simp (decide := true) (disch := omega) only [e237_37, e237_39, e237_42, e237_43, e237_46, e237_47, e237_50, e237_51, e237_52, e237_53, e237_54, e237_55, e237_58, e237_60, e237_61, e237_64, e237_67, e237_68, bi_s, tyX, rl1, rl2, rl4, ↓reduceIte, Option.bind_some, true_and, and_true, false_and, and_false, true_or, or_true, false_or, or_false, if_same0, ite_eq0, ite_eq0', ite_eq1, ite_eq1', or_em, or_em', ite_not, lcmp0, lcmpL, lcmpG, nI_cl_b, eb_in_b, nI_1, nI_pred, Int32.reduceToNatClampNeg, eb_u_ap, Prod.mk.injEq, not_true_eq_false, not_false_eq_true, tyM, rl21, rl25, sp_rg, sp_iI, sp_iG, sp_iS, hb, b1, k0, c]
            exact ⟨nc1, ns1, I2, J1, some t, mk, by rw [← h2], fm_t f2 (eb_gv_tr h1 b2) f4 f5⟩
          · left
            rw [hpy, if_neg (fun q => c (of_decide_eq_true q))] at h2
            rw [e237_35]
            simp (decide := true) (disch := omega) only [e237_37, e237_39, e237_42, e237_43, e237_46, e237_47, e237_50, e237_51, e237_52, e237_53, e237_54, e237_55, e237_58, e237_60, e237_61, e237_64, e237_67, e237_68, bi_s, tyX, rl1, rl2, rl4, ↓reduceIte, Option.bind_some, true_and, and_true, false_and, and_false, true_or, or_true, false_or, or_false, if_same0, ite_eq0, ite_eq0', ite_eq1, ite_eq1', or_em, or_em', ite_not, lcmp0, lcmpL, lcmpG, nI_cl_b, eb_in_b, nI_1, nI_pred, Int32.reduceToNatClampNeg, eb_u_ap, Prod.mk.injEq, not_true_eq_false, not_false_eq_true, tyM, rl21, rl25, sp_rg, sp_iI, sp_iG, sp_iS, hb, b1, k0, c]
            exact ⟨I2, rfl, eb_gv_tr h1 b2, b3, h2⟩) (by
          intro I1 hP
          obtain ⟨h1, h3, h2⟩ := hP
          have h2 : -1 = sp_fst p 1 30 := h2
          have hb : (30 < nI (30 + 1)) = True := by decide
          rw [e237_35]
          simp (decide := true) (disch := omega) only [e237_37, e237_39, e237_42, e237_43, e237_46, e237_47, e237_50, e237_51, e237_52, e237_53, e237_54, e237_55, e237_58, e237_60, e237_61, e237_64, e237_67, e237_68, bi_s, tyX, rl1, rl2, rl4, ↓reduceIte, Option.bind_some, true_and, and_true, false_and, and_false, true_or, or_true, false_or, or_false, if_same0, ite_eq0, ite_eq0', ite_eq1, ite_eq1', or_em, or_em', ite_not, lcmp0, lcmpL, lcmpG, nI_cl_b, eb_in_b, nI_1, nI_pred, Int32.reduceToNatClampNeg, eb_u_ap, Prod.mk.injEq, not_true_eq_false, not_false_eq_true, tyM, rl21, rl25, sp_rg, sp_iI, sp_iG, sp_iS, hb]
          exact ⟨nc1, ns1, I1, J1, some t, mk, by rw [← h2], fm_t f2 h1 f4 f5⟩)
      exact key
    · rw [if_neg (fun q => c2 q.2)]
      simp (decide := true) (disch := omega) only [e237_0, e237_1, e237_2, e237_5, e237_8, e237_9, e237_10, e237_11, e237_14, e237_17, e237_20, e237_21, e237_23, e237_26, e237_27, e237_28, e237_31, e237_32, e237_33, bi_s, tyX, rl1, rl2, rl4, ↓reduceIte, Option.bind_some, true_and, and_true, false_and, and_false, true_or, or_true, false_or, or_false, if_same0, ite_eq0, ite_eq0', ite_eq1, ite_eq1', or_em, or_em', ite_not, lcmp0, lcmpL, lcmpG, nI_cl_b, eb_in_b, nI_1, nI_pred, Int32.reduceToNatClampNeg, eb_u_ap, Prod.mk.injEq, not_true_eq_false, not_false_eq_true, tyM, rl21, rl25, sp_rg, sp_iI, sp_iG, sp_iS, hI, m_ins, c2, m_refuse0]
      exact ⟨nc, ns, _, J, mt, mk, rfl, fm_rf h (by omega)⟩
  · rw [if_neg c1] at hI
    rw [if_neg (fun q => c1 q.1)]
    simp (decide := true) (disch := omega) only [e237_0, e237_1, e237_2, e237_5, e237_8, e237_9, e237_10, e237_11, e237_14, e237_17, e237_20, e237_21, e237_23, e237_26, e237_27, e237_28, e237_31, e237_32, e237_33, bi_s, tyX, rl1, rl2, rl4, ↓reduceIte, Option.bind_some, true_and, and_true, false_and, and_false, true_or, or_true, false_or, or_false, if_same0, ite_eq0, ite_eq0', ite_eq1, ite_eq1', or_em, or_em', ite_not, lcmp0, lcmpL, lcmpG, nI_cl_b, eb_in_b, nI_1, nI_pred, Int32.reduceToNatClampNeg, eb_u_ap, Prod.mk.injEq, not_true_eq_false, not_false_eq_true, tyM, rl21, rl25, sp_rg, sp_iI, sp_iG, sp_iS, hI, m_refuse0]
    exact ⟨nc, ns, _, J, mt, mk, rfl, fm_rf h (by omega)⟩
theorem mf_recovers (ok : sp_St S) {a : Int32} : eb_FM L (d + 8) 239 [zi a] S (sf_recovers S a).2 (zi (sf_recovers S a).1) := by
  intro nc ns I J C mt mk h
  rw [h239 rfl]
  unfold sf_recovers
  have hI := m_isInn (L := L) (d := d + 5) (nc := nc) (ns := ns) (J := J) (C := C) (mt := mt) (mk := mk) (x := a) h.1 ok.1
  have hn1 := ok.1.1
  by_cases c1 : sp_iI S.1 a
  · rw [if_pos c1] at hI
    rw [if_pos c1]
    obtain ⟨i, hi, rfl⟩ := rg_nat (by omega) c1
    rw [show tn (nI i) = i from nI_cl_b (by omega)]
    generalize hp : (fun y => decide ((sp_at (sp_write S.1 0) y).2.2.2.1 i 1 ≤ (sp_at (sp_write S.1 0) y).2.2.2.1 i 0)) = p
    obtain ⟨t, nc1, ns1, I0, J1, f1, f2, f3, f4, f5⟩ := m_fresh (L := L) (d := d + 3) (C := C) h ok
    simp (decide := true) (disch := omega) only [e239_0, e239_1, e239_2, e239_5, e239_8, e239_9, e239_11, e239_14, e239_15, e239_16, e239_19, e239_20, e239_21, bi_s, tyX, rl1, rl2, rl4, ↓reduceIte, Option.bind_some, true_and, and_true, false_and, and_false, true_or, or_true, false_or, or_false, if_same0, ite_eq0, ite_eq0', ite_eq1, ite_eq1', or_em, or_em', ite_not, lcmp0, lcmpL, lcmpG, nI_cl_b, eb_in_b, nI_1, nI_pred, Int32.reduceToNatClampNeg, eb_u_ap, Prod.mk.injEq, not_true_eq_false, not_false_eq_true, tyM, rl21, rl25, sp_rg, sp_iI, sp_iG, sp_iS, hI, f1]
    have ht0 := (cnt_t f2.2.2.1).1 t rfl
    obtain ⟨I4, e, e1, e2⟩ := eb_loop (α := eb_A → Nat → Int32) (n := S.1.1) (s0 := I0)
      (F := fun y s => eb_E L (d + 7) 239 22 [some (zr (21, 0, 0)), some (zi (nI i)), some (zr (21, t, 0)), some (zi (nI y))] [] (nc1, ns1, s, J1, eb_RL C (some t) mk))
      (P := fun y s => (∀ a l, ¬ (a.1 = 32 ∧ a.2.1 = t ∧ l = 4) → s a l = I0 a l) ∧ ∀ j, j < y → s (32, t, j) 4 = -1)
      ⟨fun _ _ _ => rfl, fun j hj => absurd hj (Nat.not_lt_zero _)⟩ (by
        intro y I1 hy hP
        obtain ⟨h1, h2⟩ := hP
        have k9 : I1 (21, 0, 0) 9 = nI S.1.1 := (h1 _ _ (fun z => absurd z.1 (by decide))).trans f2.1.1.1
        rw [e239_22]
        simp (decide := true) (disch := omega) only [e239_23, e239_24, e239_27, e239_30, e239_31, e239_34, e239_35, e239_36, e239_37, e239_38, e239_39, e239_42, bi_s, tyX, rl1, rl2, rl4, ↓reduceIte, Option.bind_some, true_and, and_true, false_and, and_false, true_or, or_true, false_or, or_false, if_same0, ite_eq0, ite_eq0', ite_eq1, ite_eq1', or_em, or_em', ite_not, lcmp0, lcmpL, lcmpG, nI_cl_b, eb_in_b, nI_1, nI_pred, Int32.reduceToNatClampNeg, eb_u_ap, Prod.mk.injEq, not_true_eq_false, not_false_eq_true, tyM, rl21, rl25, sp_rg, sp_iI, sp_iG, sp_iS, k9, nI_lt_b, hy]
        refine ⟨eb_u I1 (32, t, y) 4 (-1), rfl, fun a l q => (if_neg (fun z => q (by rw [z.1, z.2]; exact ⟨rfl, rfl, rfl⟩))).trans (h1 a l q), fun j hj => ?_⟩
        by_cases q : j = y
        · subst q; exact eb_u_s
        · exact (if_neg (fun z => q (by injection z.1 with _ z1; injection z1 with _ z2))).trans (h2 j (by omega)))
    simp only [nI_0] at e
    have hgv4 : eb_gv t I0 I4 := fun a l q => e1 a l (fun z => q ⟨z.2.1, Or.inl z.1⟩)
    have hR4 : eb_RM I4 t (sp_mute S.1) := by
      obtain ⟨q1, q2, q3⟩ := f3
      refine ⟨⟨(e1 _ _ (fun z => absurd (z.1 : (21 : Nat) = 32) (by decide))).trans q1.1, (e1 _ _ (fun z => absurd (z.1 : (21 : Nat) = 32) (by decide))).trans q1.2.1, (e1 _ _ (fun z => absurd (z.1 : (21 : Nat) = 32) (by decide))).trans q1.2.2.1, (e1 _ _ (fun z => absurd (z.1 : (21 : Nat) = 32) (by decide))).trans q1.2.2.2.1, (e1 _ _ (fun z => absurd (z.1 : (21 : Nat) = 32) (by decide))).trans q1.2.2.2.2⟩, fun j hj f hf => ?_, fun j hj f hf => (e1 _ _ (fun z => absurd (z.1 : (34 : Nat) = 32) (by decide))).trans (q3 j hj f hf)⟩
      rw [mute_i]
      by_cases q : f = 4
      · subst q; rw [if_pos rfl]; exact e2 j hj
      · rw [if_neg q]; exact (e1 _ _ (fun z => q z.2.2)).trans (q2 j hj f hf)
    have ok1 := mute_ok ok.1
    have k9 : I4 (21, 0, 0) 9 = nI S.1.1 := (e1 _ _ (fun z => absurd z.1 (by decide))).trans f2.1.1.1
    rw [e, e239_22]
    simp (decide := true) (disch := omega) only [e239_23, e239_24, e239_27, e239_30, e239_31, e239_34, e239_35, e239_36, e239_37, e239_38, e239_39, e239_42, e239_45, e239_46, bi_s, tyX, rl1, rl2, rl4, ↓reduceIte, Option.bind_some, true_and, and_true, false_and, and_false, true_or, or_true, false_or, or_false, if_same0, ite_eq0, ite_eq0', ite_eq1, ite_eq1', or_em, or_em', ite_not, lcmp0, lcmpL, lcmpG, nI_cl_b, eb_in_b, nI_1, nI_pred, Int32.reduceToNatClampNeg, eb_u_ap, Prod.mk.injEq, not_true_eq_false, not_false_eq_true, tyM, rl21, rl25, sp_rg, sp_iI, sp_iG, sp_iS, k9, nI_lt_b, Nat.lt_irrefl]
    have haw : ∀ y, ∀ f, (sp_at (sp_mute S.1) y).2.2.2.1 i f = (sp_at (sp_write S.1 0) y).2.2.2.1 i f := fun y f => by rw [(aw_at (mute_aw S.1) y).2.2.1]
    have key := eb_loopE (α := eb_A → Nat → Int32) (n := 30) (s0 := I4)
        (F := fun y s => eb_E L (d + 7) 239 47 [some (zr (21, 0, 0)), some (zi (nI i)), some (zr (21, t, 0)), some (zi (nI (y + 1)))] [] (nc1, ns1, s, J1, eb_RL C (some t) mk))
        (P := fun y s => eb_gv t I0 s ∧ eb_RM s t (sp_at (sp_mute S.1) y) ∧ sp_fst p (y + 1) (30 - y) = sp_fst p 1 30)
        (Q := fun r => ∃ nc' ns' I' J' mt' mk', r = some (zi (sp_fst p 1 30), (nc', ns', I', J', eb_RL C mt' mk')) ∧ eb_MS S I' J' nc' ns' mt' mk' ∧ eb_fM I I' ∧ eb_fN J J')
        ⟨hgv4, hR4, rfl⟩ (by
          intro y I1 hy hP
          obtain ⟨h1, h3, h2⟩ := hP
          obtain ⟨I2, b1, b2, b3, -⟩ := m_oneYear (L := L) (d := d + 1) (nc := nc1) (ns := ns1) (J := J1) (C := C) (mt := some t) (mk := mk) h3 ok1
          have hi2 : i < (sp_at (sp_mute S.1) (y + 1)).1 := by rw [(sp_years_n (w := sp_mute S.1) (m := y + 1)).1]; exact hi
          have k0 := (b3.2.1 i hi2 0 (by omega)).trans (haw (y + 1) 0)
          have k1 := (b3.2.1 i hi2 1 (by omega)).trans (haw (y + 1) 1)
          have hb : (30 < nI (y + 1)) = False := by rw [show (30 : Int32) = nI 30 from rfl, nI_lt_b (by omega) (by omega)]; simp; omega
          have hpy : p (y + 1) = decide ((sp_at (sp_write S.1 0) (y + 1)).2.2.2.1 i 1 ≤ (sp_at (sp_write S.1 0) (y + 1)).2.2.2.1 i 0) := by rw [← hp]
          have h20 : 30 - y = (30 - (y + 1)) + 1 := by omega
          rw [h20] at h2
          have h2 : (if p (y + 1) = true then nI (y + 1) else sp_fst p (y + 1 + 1) (30 - (y + 1))) = sp_fst p 1 30 := h2
          by_cases c : (sp_at (sp_write S.1 0) (y + 1)).2.2.2.1 i 0 < (sp_at (sp_write S.1 0) (y + 1)).2.2.2.1 i 1
          · left
            rw [hpy, if_neg (fun q => absurd c (Int32.not_lt.mpr (of_decide_eq_true q)))] at h2
            rw [e239_47]
            simp (decide := true) (disch := omega) only [e239_48, e239_50, e239_53, e239_54, e239_57, e239_58, e239_61, e239_62, e239_63, e239_64, e239_65, e239_66, e239_69, e239_70, e239_71, e239_72, e239_73, e239_76, e239_77, e239_78, e239_81, e239_84, e239_85, bi_s, tyX, rl1, rl2, rl4, ↓reduceIte, Option.bind_some, true_and, and_true, false_and, and_false, true_or, or_true, false_or, or_false, if_same0, ite_eq0, ite_eq0', ite_eq1, ite_eq1', or_em, or_em', ite_not, lcmp0, lcmpL, lcmpG, nI_cl_b, eb_in_b, nI_1, nI_pred, Int32.reduceToNatClampNeg, eb_u_ap, Prod.mk.injEq, not_true_eq_false, not_false_eq_true, tyM, rl21, rl25, sp_rg, sp_iI, sp_iG, sp_iS, hb, b1, k0, k1, c]
            exact ⟨I2, rfl, eb_gv_tr h1 b2, b3, h2⟩
          · right
            rw [hpy, if_pos (decide_eq_true (Int32.not_lt.mp c))] at h2
            rw [e239_47]
            simp (decide := true) (disch := omega) only [e239_48, e239_50, e239_53, e239_54, e239_57, e239_58, e239_61, e239_62, e239_63, e239_64, e239_65, e239_66, e239_69, e239_70, e239_71, e239_72, e239_73, e239_76, e239_77, e239_78, e239_81, e239_84, e239_85, bi_s, tyX, rl1, rl2, rl4, ↓reduceIte, Option.bind_some, true_and, and_true, false_and, and_false, true_or, or_true, false_or, or_false, if_same0, ite_eq0, ite_eq0', ite_eq1, ite_eq1', or_em, or_em', ite_not, lcmp0, lcmpL, lcmpG, nI_cl_b, eb_in_b, nI_1, nI_pred, Int32.reduceToNatClampNeg, eb_u_ap, Prod.mk.injEq, not_true_eq_false, not_false_eq_true, tyM, rl21, rl25, sp_rg, sp_iI, sp_iG, sp_iS, hb, b1, k0, k1, c]
            exact ⟨nc1, ns1, I2, J1, some t, mk, by rw [← h2], fm_t f2 (eb_gv_tr h1 b2) f4 f5⟩) (by
          intro I1 hP
          obtain ⟨h1, h3, h2⟩ := hP
          have h2 : -1 = sp_fst p 1 30 := h2
          have hb : (30 < nI (30 + 1)) = True := by decide
          rw [e239_47]
          simp (decide := true) (disch := omega) only [e239_48, e239_50, e239_53, e239_54, e239_57, e239_58, e239_61, e239_62, e239_63, e239_64, e239_65, e239_66, e239_69, e239_70, e239_71, e239_72, e239_73, e239_76, e239_77, e239_78, e239_81, e239_84, e239_85, bi_s, tyX, rl1, rl2, rl4, ↓reduceIte, Option.bind_some, true_and, and_true, false_and, and_false, true_or, or_true, false_or, or_false, if_same0, ite_eq0, ite_eq0', ite_eq1, ite_eq1', or_em, or_em', ite_not, lcmp0, lcmpL, lcmpG, nI_cl_b, eb_in_b, nI_1, nI_pred, Int32.reduceToNatClampNeg, eb_u_ap, Prod.mk.injEq, not_true_eq_false, not_false_eq_true, tyM, rl21, rl25, sp_rg, sp_iI, sp_iG, sp_iS, hb]
          exact ⟨nc1, ns1, I1, J1, some t, mk, by rw [← h2], fm_t f2 h1 f4 f5⟩)
    exact key
  · rw [if_neg c1] at hI
    rw [if_neg c1]
    simp (decide := true) (disch := omega) only [e239_0, e239_1, e239_2, e239_5, e239_8, e239_9, e239_11, e239_14, e239_15, e239_16, e239_19, e239_20, e239_21, bi_s, tyX, rl1, rl2, rl4, ↓reduceIte, Option.bind_some, true_and, and_true, false_and, and_false, true_or, or_true, false_or, or_false, if_same0, ite_eq0, ite_eq0', ite_eq1, ite_eq1', or_em, or_em', ite_not, lcmp0, lcmpL, lcmpG, nI_cl_b, eb_in_b, nI_1, nI_pred, Int32.reduceToNatClampNeg, eb_u_ap, Prod.mk.injEq, not_true_eq_false, not_false_eq_true, tyM, rl21, rl25, sp_rg, sp_iI, sp_iG, sp_iS, hI, m_refuse0]
    exact ⟨nc, ns, _, J, mt, mk, rfl, fm_rf h (by omega)⟩
end

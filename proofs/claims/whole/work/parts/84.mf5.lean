/-! the reference's faces: what is thought of tonight -/
theorem left_pos {n : Nat} {room G1 : Nat → Int32} (h : sp_Gok n room G1) {i : Nat} (hi : i < n) : (0 < room i - G1 i) = (G1 i < room i) := by
  obtain ⟨u, v, u1, u2, u3, u4⟩ := h i hi
  rw [u1, u2, nI_sub u3, show (0 : Int32) = nI 0 from rfl, nI_lt_b (by omega) (by omega), nI_lt_b (by omega) (by omega)]
  exact propext ⟨fun q => by omega, fun q => by omega⟩
theorem sp_up_back {f : Nat → Int32} {k : Nat} {x : Int32} : sp_up (sp_up f k x) k (f k) = f := by
  funext j
  unfold sp_up
  by_cases q : j = k
  · rw [if_pos q, q]
  · rw [if_neg q, if_neg q]
theorem setI_back {w : eb_W} {i f : Nat} {x : Int32} : sp_setI (sp_setI w i f x) i f (w.2.2.2.1 i f) = w := by
  have : (sp_setI (sp_setI w i f x) i f (w.2.2.2.1 i f)).2.2.2.1 = w.2.2.2.1 := by
    funext j
    show sp_up (sp_up w.2.2.2.1 i (sp_up (w.2.2.2.1 i) f x)) i (sp_up (sp_up w.2.2.2.1 i (sp_up (w.2.2.2.1 i) f x) i) f (w.2.2.2.1 i f)) j = w.2.2.2.1 j
    by_cases q : j = i
    · subst q
      have e : sp_up w.2.2.2.1 j (sp_up (w.2.2.2.1 j) f x) j = sp_up (w.2.2.2.1 j) f x := if_pos rfl
      rw [e]
      exact (if_pos rfl).trans sp_up_back
    · exact (if_neg q).trans (if_neg q)
  show (w.1, w.2.1, w.2.2.1, (sp_setI (sp_setI w i f x) i f (w.2.2.2.1 i f)).2.2.2.1, w.2.2.2.2) = w
  rw [this]
theorem setG_back {w : eb_W} {i f : Nat} {x : Int32} : sp_setG (sp_setG w i f x) i f (w.2.2.2.2 i f) = w := by
  have : (sp_setG (sp_setG w i f x) i f (w.2.2.2.2 i f)).2.2.2.2 = w.2.2.2.2 := by
    funext j
    show sp_up (sp_up w.2.2.2.2 i (sp_up (w.2.2.2.2 i) f x)) i (sp_up (sp_up w.2.2.2.2 i (sp_up (w.2.2.2.2 i) f x) i) f (w.2.2.2.2 i f)) j = w.2.2.2.2 j
    by_cases q : j = i
    · subst q
      have e : sp_up w.2.2.2.2 j (sp_up (w.2.2.2.2 j) f x) j = sp_up (w.2.2.2.2 j) f x := if_pos rfl
      rw [e]
      exact (if_pos rfl).trans sp_up_back
    · exact (if_neg q).trans (if_neg q)
  show (w.1, w.2.1, w.2.2.1, w.2.2.2.1, (sp_setG (sp_setG w i f x) i f (w.2.2.2.2 i f)).2.2.2.2) = w
  rw [this]
theorem sp_setI2 {w : eb_W} {i f : Nat} {x y : Int32} : sp_setI (sp_setI w i f x) i f y = sp_setI w i f y := by
  have : (sp_setI (sp_setI w i f x) i f y).2.2.2.1 = (sp_setI w i f y).2.2.2.1 := by
    funext j
    show sp_up (sp_up w.2.2.2.1 i (sp_up (w.2.2.2.1 i) f x)) i (sp_up (sp_up w.2.2.2.1 i (sp_up (w.2.2.2.1 i) f x) i) f y) j = sp_up w.2.2.2.1 i (sp_up (w.2.2.2.1 i) f y) j
    by_cases q : j = i
    · subst q
      simp only [sp_up, if_true]
      funext l
      show (if l = f then y else (if l = f then x else w.2.2.2.1 j l)) = (if l = f then y else w.2.2.2.1 j l)
      by_cases q2 : l = f
      · rw [if_pos q2, if_pos q2]
      · rw [if_neg q2, if_neg q2, if_neg q2]
    · simp only [sp_up, q, if_false]
  show (w.1, w.2.1, w.2.2.1, (sp_setI (sp_setI w i f x) i f y).2.2.2.1, w.2.2.2.2) = sp_setI w i f y
  rw [this]
  rfl
theorem sp_setG2 {w : eb_W} {i f : Nat} {x y : Int32} : sp_setG (sp_setG w i f x) i f y = sp_setG w i f y := by
  have : (sp_setG (sp_setG w i f x) i f y).2.2.2.2 = (sp_setG w i f y).2.2.2.2 := by
    funext j
    show sp_up (sp_up w.2.2.2.2 i (sp_up (w.2.2.2.2 i) f x)) i (sp_up (sp_up w.2.2.2.2 i (sp_up (w.2.2.2.2 i) f x) i) f y) j = sp_up w.2.2.2.2 i (sp_up (w.2.2.2.2 i) f y) j
    by_cases q : j = i
    · subst q
      simp only [sp_up, if_true]
      funext l
      show (if l = f then y else (if l = f then x else w.2.2.2.2 j l)) = (if l = f then y else w.2.2.2.2 j l)
      by_cases q2 : l = f
      · rw [if_pos q2, if_pos q2]
      · rw [if_neg q2, if_neg q2, if_neg q2]
    · simp only [sp_up, q, if_false]
  show (w.1, w.2.1, w.2.2.1, w.2.2.2.1, (sp_setG (sp_setG w i f x) i f y).2.2.2.2) = sp_setG w i f y
  rw [this]
  rfl
theorem sp_setA2 {w : eb_W} {x y : Int32} : sp_setS (sp_setS w 0 x) 0 y = sp_setS w 0 y := by
  have : (sp_setS (sp_setS w 0 x) 0 y).2.2.1 = (sp_setS w 0 y).2.2.1 := by
    funext l
    show sp_up (sp_up w.2.2.1 0 x) 0 y l = sp_up w.2.2.1 0 y l
    by_cases q : l = 0 <;> simp [sp_up, q]
  show (w.1, w.2.1, (sp_setS (sp_setS w 0 x) 0 y).2.2.1, w.2.2.2.1, w.2.2.2.2) = sp_setS w 0 y
  rw [this]
  rfl
theorem setA_back {w : eb_W} : sp_setS w 0 (w.2.2.1 0) = w := by
  have : (sp_setS w 0 (w.2.2.1 0)).2.2.1 = w.2.2.1 := by
    funext l
    show sp_up w.2.2.1 0 (w.2.2.1 0) l = w.2.2.1 l
    by_cases q : l = 0 <;> simp [sp_up, q]
  show (w.1, w.2.1, (sp_setS w 0 (w.2.2.1 0)).2.2.1, w.2.2.2.1, w.2.2.2.2) = w
  rw [this]
section
variable {L d nc ns r i g : Nat} {I I' : eb_A → Nat → Int32} {J J' : eb_A → Nat → Int64} {C : Nat → Nat → Nat} {mt mk : Option Nat} {M : eb_M} {R : eb_A → Nat → Option eb_A} {w : eb_W} {x : Int32} {S : eb_St}
theorem mf_enough (ok : sp_St S) {a : Int32} : eb_FM L (d + 7) 214 [zi a] S (sf_enough S a).2 (zi (sf_enough S a).1) := by
  intro nc ns I J C mt mk h
  rw [h214 rfl]
  unfold sf_enough
  have hI := m_isInn (L := L) (d := d + 4) (nc := nc) (ns := ns) (J := J) (C := C) (mt := mt) (mk := mk) (x := a) h.1 ok.1
  have hn1 := ok.1.1
  by_cases c1 : sp_iI S.1 a
  · rw [if_pos c1] at hI
    rw [if_pos c1]
    obtain ⟨i, hi, rfl⟩ := rg_nat (by omega) c1
    rw [show tn (nI i) = i from nI_cl_b (by omega)]
    have k2 := h.1.2.1 i hi 2 (by omega)
    generalize hp : (fun r => decide ((sp_night (sp_setI S.1 i 2 (nI r))).1 i < nI r)) = p
    simp (decide := true) (disch := omega) only [e214_0, e214_1, e214_2, e214_5, e214_8, e214_9, e214_11, e214_14, e214_15, e214_16, e214_19, e214_20, e214_21, e214_22, e214_23, e214_24, e214_25, e214_26, e214_27, bi_s, tyX, rl1, rl2, rl4, ↓reduceIte, Option.bind_some, true_and, and_true, false_and, and_false, true_or, or_true, false_or, or_false, if_same0, ite_eq0, ite_eq0', ite_eq1, ite_eq1', or_em, or_em', ite_not, lcmp0, lcmpL, lcmpG, nI_cl_b, eb_in_b, nI_1, nI_pred, Int32.reduceToNatClampNeg, eb_u_ap, Prod.mk.injEq, not_true_eq_false, not_false_eq_true, tyM, rl21, rl25, sp_rg, sp_iI, sp_iG, sp_iS, hI, k2]
    have fin : ∀ (I1 : eb_A → Nat → Int32) (v f : Int32) (y : Nat), eb_gv 0 I I1 → (∃ x, eb_RM I1 0 (sp_setI S.1 i 2 x)) → f = sp_fst p 1 20 → (∀ X : eb_M, eb_E L (d + 6) 214 29 [some (zr (21, 0, 0)), some (zi (nI i)), some (zi (S.1.2.2.2.1 i 2)), some (zi f), some (zi v)] [] X = eb_E L (d + 6) 214 77 [some (zr (21, 0, 0)), some (zi (nI i)), some (zi (S.1.2.2.2.1 i 2)), some (zi f), some (zi v)] [] X) →
        ∃ nc' ns' I' J' mt' mk', eb_E L (d + 6) 214 29 [some (zr (21, 0, 0)), some (zi (nI i)), some (zi (S.1.2.2.2.1 i 2)), some (zi f), some (zi v)] [] (nc, ns, I1, J, eb_RL C mt mk) = some (zi (sp_fst p 1 20), (nc', ns', I', J', eb_RL C mt' mk')) ∧ eb_MS S I' J' nc' ns' mt' mk' ∧ eb_fM I I' ∧ eb_fN J J' := by
      intro I1 v f y h1 h2 h3 h4
      obtain ⟨x, h2⟩ := h2
      rw [h4]
      simp (decide := true) (disch := omega) only [e214_77, e214_78, e214_81, e214_82, e214_83, e214_84, e214_85, e214_86, e214_87, bi_s, tyX, rl1, rl2, rl4, ↓reduceIte, Option.bind_some, true_and, and_true, false_and, and_false, true_or, or_true, false_or, or_false, if_same0, ite_eq0, ite_eq0', ite_eq1, ite_eq1', or_em, or_em', ite_not, lcmp0, lcmpL, lcmpG, nI_cl_b, eb_in_b, nI_1, nI_pred, Int32.reduceToNatClampNeg, eb_u_ap, Prod.mk.injEq, not_true_eq_false, not_false_eq_true, tyM, rl21, rl25, sp_rg, sp_iI, sp_iG, sp_iS]
      have r1 := RM_setI (i := i) (f := 2) (v := S.1.2.2.2.1 i 2) h2
      rw [setI_back] at r1
      exact ⟨nc, ns, eb_u I1 (32, 0, i) 2 (S.1.2.2.2.1 i 2), J, mt, mk, by rw [h3], fm_w (w := S.1) h ⟨r1.1, eb_gv_tr h1 r1.2⟩⟩
    have key := eb_loopE (α := eb_A → Nat → Int32) (n := 20) (s0 := I)
      (F := fun y s => eb_E L (d + 6) 214 29 [some (zr (21, 0, 0)), some (zi (nI i)), some (zi (S.1.2.2.2.1 i 2)), some (zi (-1)), some (zi (nI (y + 1)))] [] (nc, ns, s, J, eb_RL C mt mk))
      (P := fun y s => eb_gv 0 I s ∧ (∃ x, eb_RM s 0 (sp_setI S.1 i 2 x)) ∧ sp_fst p (y + 1) (20 - y) = sp_fst p 1 20)
      (Q := fun r => ∃ nc' ns' I' J' mt' mk', r = some (zi (sp_fst p 1 20), (nc', ns', I', J', eb_RL C mt' mk')) ∧ eb_MS S I' J' nc' ns' mt' mk' ∧ eb_fM I I' ∧ eb_fN J J')
      ⟨eb_gv_rf, ⟨S.1.2.2.2.1 i 2, by
        have := RM_setI (i := i) (f := 2) (v := S.1.2.2.2.1 i 2) h.1
        have e : eb_u I (32, 0, i) 2 (S.1.2.2.2.1 i 2) = I := by
          funext a l
          by_cases q : a = (32, 0, i) ∧ l = 2
          · rw [q.1, q.2]; exact eb_u_s.trans k2.symm
          · exact if_neg q
        rw [e] at this
        exact this.1⟩, rfl⟩ (by
        intro y I1 hy hP
        obtain ⟨h1, ⟨x, h3⟩, h2⟩ := hP
        have hb : (20 < nI (y + 1)) = False := by rw [show (20 : Int32) = nI 20 from rfl, nI_lt_b (by omega) (by omega)]; exact eq_false (by omega)
        have r1 := RM_setI (i := i) (f := 2) (v := nI (y + 1)) h3
        rw [sp_setI2] at r1
        have ok1 : sp_ok (sp_setI S.1 i 2 (nI (y + 1))) := ok_setI ok.1 (fun q => okI_2 q (nI_rg (lo := 1) (hi := 20) ⟨by omega, by omega⟩ (by omega)))
        obtain ⟨I2, b1, b2, b3⟩ := m_goThrough (L := L) (d := d + 1) (nc := nc) (ns := ns) (J := J) (C := C) (mt := mt) (mk := mk) r1.1 ok1
        have hroom : (sp_setI S.1 i 2 (nI (y + 1))).2.2.2.1 i 2 = nI (y + 1) := by simp [sp_setI, sp_up]
        have kl := (b3.1 i hi).1
        have hlp := left_pos (sp_Nok_night ok1).1 (i := i) hi
        simp only [hroom] at kl hlp
        have hpy : p (y + 1) = decide ((sp_night (sp_setI S.1 i 2 (nI (y + 1)))).1 i < nI (y + 1)) := by rw [← hp]
        have h20 : 20 - y = (20 - (y + 1)) + 1 := by omega
        rw [h20] at h2
        have h2 : (if p (y + 1) = true then nI (y + 1) else sp_fst p (y + 1 + 1) (20 - (y + 1))) = sp_fst p 1 20 := h2
        have hgv : eb_gv 0 I I2 := eb_gv_tr (eb_gv_tr h1 r1.2) (eb_gn_gv b2)
        by_cases c : (sp_night (sp_setI S.1 i 2 (nI (y + 1)))).1 i < nI (y + 1)
        · right
          rw [hpy, if_pos (decide_eq_true c)] at h2
          have hf := fin I2 (nI (y + 1 + 1)) (nI (y + 1)) y hgv ⟨_, eb_gn_RM b2 r1.1⟩ h2 (fun X => by
            have hm1 : (nI (y + 1) = -1) = False := nI_m1 (by omega)
            rw [e214_29]
            by_cases q : (20 : Int32) < nI (y + 1 + 1) <;> simp (decide := true) (disch := omega) only [e214_31, e214_33, e214_36, e214_37, e214_38, bi_s, tyX, rl1, rl2, rl4, ↓reduceIte, Option.bind_some, true_and, and_true, false_and, and_false, true_or, or_true, false_or, or_false, if_same0, ite_eq0, ite_eq0', ite_eq1, ite_eq1', or_em, or_em', ite_not, lcmp0, lcmpL, lcmpG, nI_cl_b, eb_in_b, nI_1, nI_pred, Int32.reduceToNatClampNeg, eb_u_ap, Prod.mk.injEq, not_true_eq_false, not_false_eq_true, tyM, rl21, rl25, sp_rg, sp_iI, sp_iG, sp_iS, q, hm1])
          rw [e214_29]
          simp (decide := true) (disch := omega) only [e214_31, e214_33, e214_36, e214_37, e214_38, e214_41, e214_42, e214_45, e214_46, e214_47, e214_48, e214_50, e214_51, e214_52, e214_55, e214_56, e214_59, e214_60, e214_61, e214_64, e214_66, e214_69, e214_70, e214_71, e214_74, bi_s, tyX, rl1, rl2, rl4, ↓reduceIte, Option.bind_some, true_and, and_true, false_and, and_false, true_or, or_true, false_or, or_false, if_same0, ite_eq0, ite_eq0', ite_eq1, ite_eq1', or_em, or_em', ite_not, lcmp0, lcmpL, lcmpG, nI_cl_b, eb_in_b, nI_1, nI_pred, Int32.reduceToNatClampNeg, eb_u_ap, Prod.mk.injEq, not_true_eq_false, not_false_eq_true, tyM, rl21, rl25, sp_rg, sp_iI, sp_iG, sp_iS, hb, b1, kl, hlp, c]
          exact hf
        · left
          rw [hpy, if_neg (fun q => c (of_decide_eq_true q))] at h2
          rw [e214_29]
          simp (decide := true) (disch := omega) only [e214_31, e214_33, e214_36, e214_37, e214_38, e214_41, e214_42, e214_45, e214_46, e214_47, e214_48, e214_50, e214_51, e214_52, e214_55, e214_56, e214_59, e214_60, e214_61, e214_64, e214_66, e214_69, e214_70, e214_71, e214_74, bi_s, tyX, rl1, rl2, rl4, ↓reduceIte, Option.bind_some, true_and, and_true, false_and, and_false, true_or, or_true, false_or, or_false, if_same0, ite_eq0, ite_eq0', ite_eq1, ite_eq1', or_em, or_em', ite_not, lcmp0, lcmpL, lcmpG, nI_cl_b, eb_in_b, nI_1, nI_pred, Int32.reduceToNatClampNeg, eb_u_ap, Prod.mk.injEq, not_true_eq_false, not_false_eq_true, tyM, rl21, rl25, sp_rg, sp_iI, sp_iG, sp_iS, hb, b1, kl, hlp, c]
          exact ⟨I2, rfl, hgv, ⟨_, eb_gn_RM b2 r1.1⟩, h2⟩) (by
        intro I1 hP
        obtain ⟨h1, h3, h2⟩ := hP
        have h2 : -1 = sp_fst p 1 20 := h2
        exact fin I1 (nI (20 + 1)) (-1) 0 h1 h3 h2 (fun X => by
          have hb : ((20 : Int32) < nI (20 + 1)) = True := by decide
          rw [e214_29]
          simp (decide := true) (disch := omega) only [e214_31, e214_33, e214_36, e214_37, e214_38, bi_s, tyX, rl1, rl2, rl4, ↓reduceIte, Option.bind_some, true_and, and_true, false_and, and_false, true_or, or_true, false_or, or_false, if_same0, ite_eq0, ite_eq0', ite_eq1, ite_eq1', or_em, or_em', ite_not, lcmp0, lcmpL, lcmpG, nI_cl_b, eb_in_b, nI_1, nI_pred, Int32.reduceToNatClampNeg, eb_u_ap, Prod.mk.injEq, not_true_eq_false, not_false_eq_true, tyM, rl21, rl25, sp_rg, sp_iI, sp_iG, sp_iS, hb]))
    exact key
  · rw [if_neg c1] at hI
    rw [if_neg c1]
    simp (decide := true) (disch := omega) only [e214_0, e214_1, e214_2, e214_5, e214_8, e214_9, e214_11, e214_14, e214_15, e214_16, e214_19, e214_20, e214_21, e214_22, e214_23, e214_24, e214_25, e214_26, e214_27, bi_s, tyX, rl1, rl2, rl4, ↓reduceIte, Option.bind_some, true_and, and_true, false_and, and_false, true_or, or_true, false_or, or_false, if_same0, ite_eq0, ite_eq0', ite_eq1, ite_eq1', or_em, or_em', ite_not, lcmp0, lcmpL, lcmpG, nI_cl_b, eb_in_b, nI_1, nI_pred, Int32.reduceToNatClampNeg, eb_u_ap, Prod.mk.injEq, not_true_eq_false, not_false_eq_true, tyM, rl21, rl25, sp_rg, sp_iI, sp_iG, sp_iS, hI, m_refuse0]
    exact ⟨nc, ns, _, J, mt, mk, rfl, fm_rf h (by omega)⟩
theorem mf_better (ok : sp_St S) {a : Int32} : eb_FM L (d + 7) 215 [zi a] S (sf_better S a).2 (zi (sf_better S a).1) := by
  intro nc ns I J C mt mk h
  rw [h215 rfl]
  unfold sf_better
  have hI := m_isGoer (L := L) (d := d + 4) (nc := nc) (ns := ns) (J := J) (C := C) (mt := mt) (mk := mk) (x := a) h.1 ok.1
  have hn1 := ok.1.2.1
  by_cases c1 : sp_iG S.1 a
  · rw [if_pos c1] at hI
    rw [if_pos c1]
    obtain ⟨g, hg, rfl⟩ := rg_nat (by omega) c1
    rw [show tn (nI g) = g from nI_cl_b (by omega)]
    have k0 := h.1.2.2 g hg 0 (by omega)
    generalize hp : (fun k => sp_joy (sp_setG S.1 g 0 (nI k)) (sp_night (sp_setG S.1 g 0 (nI k))) g) = p
    simp (decide := true) (disch := omega) only [e215_0, e215_1, e215_2, e215_5, e215_8, e215_9, e215_11, e215_14, e215_15, e215_16, e215_19, e215_20, e215_21, e215_22, e215_23, e215_24, e215_25, e215_26, e215_27, e215_29, e215_30, bi_s, tyX, rl1, rl2, rl4, ↓reduceIte, Option.bind_some, true_and, and_true, false_and, and_false, true_or, or_true, false_or, or_false, if_same0, ite_eq0, ite_eq0', ite_eq1, ite_eq1', or_em, or_em', ite_not, lcmp0, lcmpL, lcmpG, nI_cl_b, eb_in_b, nI_1, nI_pred, Int32.reduceToNatClampNeg, eb_u_ap, Prod.mk.injEq, not_true_eq_false, not_false_eq_true, tyM, rl21, rl25, sp_rg, sp_iI, sp_iG, sp_iS, hI, k0]
    obtain ⟨t, e, e1, e2, e3, x0, e4⟩ := eb_loop (α := Int32 × Int32 × Option eb_V × (eb_A → Nat → Int32)) (n := 6) (s0 := (0, 0, none, I))
      (F := fun y s => eb_E L (d + 6) 215 32 [some (zr (21, 0, 0)), some (zi (nI g)), some (zi (S.1.2.2.2.2 g 0)), some (zi s.1), some (zi s.2.1), some (zi (nI y)), s.2.2.1] [] (nc, ns, s.2.2.2, J, eb_RL C mt mk))
      (P := fun y s => (y = 0 ∨ ∃ b, sp_best (fun _ => true) p y = some b ∧ s.1 = nI b ∧ s.2.1 = p b) ∧ True ∧ eb_gv 0 I s.2.2.2 ∧ ∃ x, eb_RM s.2.2.2 0 (sp_setG S.1 g 0 x))
      ⟨Or.inl rfl, trivial, eb_gv_rf, S.1.2.2.2.2 g 0, by
        have := RM_setG (i := g) (f := 0) (v := S.1.2.2.2.2 g 0) h.1
        have e : eb_u I (34, 0, g) 0 (S.1.2.2.2.2 g 0) = I := by
          funext a l
          by_cases q : a = (34, 0, g) ∧ l = 0
          · rw [q.1, q.2]; exact eb_u_s.trans k0.symm
          · exact if_neg q
        rw [e] at this
        exact this.1⟩ (by
        intro y s hy hP
        obtain ⟨s1, s2, s3, I1⟩ := s
        obtain ⟨h1, -, h3, x0, h4⟩ := hP
        have h1 : y = 0 ∨ ∃ b, sp_best (fun _ => true) p y = some b ∧ s1 = nI b ∧ s2 = p b := h1
        have h3 : eb_gv 0 I I1 := h3
        have r1 := RM_setG (i := g) (f := 0) (v := nI y) h4
        rw [sp_setG2] at r1
        have ok1 : sp_ok (sp_setG S.1 g 0 (nI y)) := ok_setG ok.1 (fun q => okG_0 q (nI_rg (lo := 0) (hi := 5) ⟨by omega, by omega⟩ (by omega)))
        obtain ⟨I2, b1, b2, b3⟩ := m_goThrough (L := L) (d := d + 1) (nc := nc) (ns := ns) (J := J) (C := C) (mt := mt) (mk := mk) r1.1 ok1
        have hR := eb_gn_RM b2 r1.1
        have hj := m_joyOf (L := L) (d := d + 5) (nc := nc) (ns := ns) (J := J) (C := C) (mt := mt) (mk := mk) hR.1.1 (fun i hi => ⟨hR.2.1 i hi 0 (by omega), hR.2.1 i hi 3 (by omega)⟩) b3 ok1 (sp_Nok_night ok1) (g := g) hg
        have hpy : p y = sp_joy (sp_setG S.1 g 0 (nI y)) (sp_night (sp_setG S.1 g 0 (nI y))) g := by rw [← hp]
        rw [← hpy] at hj
        have hb : ((5 : Int32) < nI y) = False := by rw [show (5 : Int32) = nI 5 from rfl, nI_lt_b (by omega) (by omega)]; exact eq_false (by omega)
        have hgv : eb_gv 0 I I2 := eb_gv_tr (eb_gv_tr h3 r1.2) (eb_gn_gv b2)
        have hbs := sp_best_s (has := fun _ => true) (f := p) (n := y)
        rw [e215_32]
        by_cases cy : y = 0
        · subst cy
          have hbs : sp_best (fun _ => true) p (0 + 1) = some 0 := rfl
          have hz : (nI 0 = 0) = True := eq_true rfl
          simp (decide := true) (disch := omega) only [e215_34, e215_35, e215_38, e215_39, e215_42, e215_43, e215_44, e215_45, e215_47, e215_48, e215_49, e215_52, e215_53, e215_54, e215_57, e215_59, e215_61, e215_64, e215_66, e215_68, e215_71, e215_73, e215_74, e215_76, e215_78, e215_81, bi_s, tyX, rl1, rl2, rl4, ↓reduceIte, Option.bind_some, true_and, and_true, false_and, and_false, true_or, or_true, false_or, or_false, if_same0, ite_eq0, ite_eq0', ite_eq1, ite_eq1', or_em, or_em', ite_not, lcmp0, lcmpL, lcmpG, nI_cl_b, eb_in_b, nI_1, nI_pred, Int32.reduceToNatClampNeg, eb_u_ap, Prod.mk.injEq, not_true_eq_false, not_false_eq_true, tyM, rl21, rl25, sp_rg, sp_iI, sp_iG, sp_iS, hb, b1, hj, hz]
          exact ⟨(nI 0, p 0, some (zi (p 0)), I2), rfl, ⟨0, hbs, rfl, rfl⟩, hgv, _, hR⟩
        · obtain ⟨b, z1, z2, z3⟩ := h1.resolve_left cy
          have hlt := (sp_best_lt z1).1
          have hny : (nI y = 0) = False := by rw [show (0 : Int32) = nI 0 from rfl, nI_eq_b (by omega) (by omega)]; exact eq_false cy
          rw [z1] at hbs
          by_cases c : p b < p y
          · have hbs : sp_best (fun _ => true) p (y + 1) = some y := hbs.trans (if_pos ⟨rfl, c⟩)
            simp (decide := true) (disch := omega) only [e215_34, e215_35, e215_38, e215_39, e215_42, e215_43, e215_44, e215_45, e215_47, e215_48, e215_49, e215_52, e215_53, e215_54, e215_57, e215_59, e215_61, e215_64, e215_66, e215_68, e215_71, e215_73, e215_74, e215_76, e215_78, e215_81, bi_s, tyX, rl1, rl2, rl4, ↓reduceIte, Option.bind_some, true_and, and_true, false_and, and_false, true_or, or_true, false_or, or_false, if_same0, ite_eq0, ite_eq0', ite_eq1, ite_eq1', or_em, or_em', ite_not, lcmp0, lcmpL, lcmpG, nI_cl_b, eb_in_b, nI_1, nI_pred, Int32.reduceToNatClampNeg, eb_u_ap, Prod.mk.injEq, not_true_eq_false, not_false_eq_true, tyM, rl21, rl25, sp_rg, sp_iI, sp_iG, sp_iS, hb, b1, hj, hny, z3, c]
            exact ⟨(nI y, p y, some (zi (p y)), I2), rfl, Or.inr ⟨y, hbs, rfl, rfl⟩, hgv, _, hR⟩
          · have hbs : sp_best (fun _ => true) p (y + 1) = some b := hbs.trans (if_neg (fun z => c z.2))
            simp (decide := true) (disch := omega) only [e215_34, e215_35, e215_38, e215_39, e215_42, e215_43, e215_44, e215_45, e215_47, e215_48, e215_49, e215_52, e215_53, e215_54, e215_57, e215_59, e215_61, e215_64, e215_66, e215_68, e215_71, e215_73, e215_74, e215_76, e215_78, e215_81, bi_s, tyX, rl1, rl2, rl4, ↓reduceIte, Option.bind_some, true_and, and_true, false_and, and_false, true_or, or_true, false_or, or_false, if_same0, ite_eq0, ite_eq0', ite_eq1, ite_eq1', or_em, or_em', ite_not, lcmp0, lcmpL, lcmpG, nI_cl_b, eb_in_b, nI_1, nI_pred, Int32.reduceToNatClampNeg, eb_u_ap, Prod.mk.injEq, not_true_eq_false, not_false_eq_true, tyM, rl21, rl25, sp_rg, sp_iI, sp_iG, sp_iS, hb, b1, hj, hny, z2, z3, c]
            exact ⟨(nI b, p b, some (zi (p y)), I2), rfl, Or.inr ⟨b, hbs, rfl, rfl⟩, hgv, _, hR⟩)
    obtain ⟨s1, s2, s3, I1⟩ := t
    have e1 : 6 = 0 ∨ ∃ b, sp_best (fun _ => true) p 6 = some b ∧ s1 = nI b ∧ s2 = p b := e1
    obtain ⟨b, z1, z2, z3⟩ := e1.resolve_left (by decide)
    simp only [nI_0] at e
    have h6 : ((5 : Int32) < nI 6) = True := by decide
    rw [e, e215_32]
    simp (decide := true) (disch := omega) only [e215_34, e215_35, e215_38, e215_39, e215_42, e215_43, e215_44, e215_45, e215_47, e215_48, e215_49, e215_52, e215_53, e215_54, e215_57, e215_59, e215_61, e215_64, e215_66, e215_68, e215_71, e215_73, e215_74, e215_76, e215_78, e215_81, e215_84, e215_85, e215_88, e215_89, e215_90, e215_91, e215_92, e215_93, e215_94, bi_s, tyX, rl1, rl2, rl4, ↓reduceIte, Option.bind_some, true_and, and_true, false_and, and_false, true_or, or_true, false_or, or_false, if_same0, ite_eq0, ite_eq0', ite_eq1, ite_eq1', or_em, or_em', ite_not, lcmp0, lcmpL, lcmpG, nI_cl_b, eb_in_b, nI_1, nI_pred, Int32.reduceToNatClampNeg, eb_u_ap, Prod.mk.injEq, not_true_eq_false, not_false_eq_true, tyM, rl21, rl25, sp_rg, sp_iI, sp_iG, sp_iS, h6]
    have r1 := RM_setG (i := g) (f := 0) (v := S.1.2.2.2.2 g 0) e4
    rw [setG_back] at r1
    exact ⟨nc, ns, eb_u I1 (34, 0, g) 0 (S.1.2.2.2.2 g 0), J, mt, mk, by rw [z1, z2]; rfl, fm_w (w := S.1) h ⟨r1.1, eb_gv_tr e3 r1.2⟩⟩
  · rw [if_neg c1] at hI
    rw [if_neg c1]
    simp (decide := true) (disch := omega) only [e215_0, e215_1, e215_2, e215_5, e215_8, e215_9, e215_11, e215_14, e215_15, e215_16, e215_19, e215_20, e215_21, e215_22, e215_23, e215_24, e215_25, e215_26, e215_27, e215_29, e215_30, bi_s, tyX, rl1, rl2, rl4, ↓reduceIte, Option.bind_some, true_and, and_true, false_and, and_false, true_or, or_true, false_or, or_false, if_same0, ite_eq0, ite_eq0', ite_eq1, ite_eq1', or_em, or_em', ite_not, lcmp0, lcmpL, lcmpG, nI_cl_b, eb_in_b, nI_1, nI_pred, Int32.reduceToNatClampNeg, eb_u_ap, Prod.mk.injEq, not_true_eq_false, not_false_eq_true, tyM, rl21, rl25, sp_rg, sp_iI, sp_iG, sp_iS, hI, m_refuse0]
    exact ⟨nc, ns, _, J, mt, mk, rfl, fm_rf h (by omega)⟩
end

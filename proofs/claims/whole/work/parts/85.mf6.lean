/-! the reference's faces: trust, share, judging -/
/-- an inn is somebody's choice -/
def sp_isch (w : eb_W) (i : Int32) : Nat → Bool
  | 0 => false
  | j + 1 => sp_isch w i j || decide (sp_bk (w.2.2.2.2 j 0) = true ∧ sp_enc (sp_choice w j) = i)
theorem sp_crowd_pos {w : eb_W} (hw : sp_ok w) {i : Int32} : ∀ {n : Nat}, n ≤ w.2.1 → ∃ m, m ≤ 30 * n ∧ sp_sum (fun j => if sp_bk (w.2.2.2.2 j 0) = true ∧ sp_enc (sp_choice w j) = i then w.2.2.2.2 j 1 else 0) n = nI m ∧ (sp_isch w i n = true ↔ 0 < m) := by
  intro n
  induction n with
  | zero => exact fun _ => ⟨0, Nat.zero_le _, rfl, by show (false = true) ↔ _; simp⟩
  | succ n ih =>
    intro hn
    obtain ⟨m, h1, h2, h3⟩ := ih (by omega)
    obtain ⟨-, q, -⟩ := hw.2.2.2.2 n (by omega)
    obtain ⟨k, hk, ek⟩ := rg_le 30 (by omega) (by decide) q
    have hk1 : 1 ≤ k := by
      have := q.1
      rw [ek, show (1 : Int32) = nI 1 from rfl, nI_le_b (by omega) (by omega)] at this
      exact this
    by_cases c : sp_bk (w.2.2.2.2 n 0) = true ∧ sp_enc (sp_choice w n) = i
    · refine ⟨m + k, by omega, ?_, ?_⟩
      · show sp_sum _ n + (if sp_bk (w.2.2.2.2 n 0) = true ∧ sp_enc (sp_choice w n) = i then w.2.2.2.2 n 1 else 0) = nI (m + k)
        rw [if_pos c, h2, ek, nI_add]
      · show (sp_isch w i n || decide _) = true ↔ _
        rw [decide_eq_true c, Bool.or_true]
        exact ⟨fun _ => by omega, fun _ => rfl⟩
    · refine ⟨m, by omega, ?_, ?_⟩
      · show sp_sum _ n + (if sp_bk (w.2.2.2.2 n 0) = true ∧ sp_enc (sp_choice w n) = i then w.2.2.2.2 n 1 else 0) = nI m
        rw [if_neg c, h2]; exact Int32.add_zero _
      · show (sp_isch w i n || decide _) = true ↔ _
        rw [decide_eq_false c, Bool.or_false]
        exact h3
theorem sp_isch_eq {w : eb_W} (hw : sp_ok w) {i : Int32} : (sp_isch w i w.2.1 = true) = (0 < sp_crowd w i) := by
  have hg := hw.2.1
  obtain ⟨m, h1, h2, h3⟩ := sp_crowd_pos hw (i := i) (Nat.le_refl _)
  unfold sp_crowd
  rw [h2, show (0 : Int32) = nI 0 from rfl, nI_lt_b (by omega) (by omega)]
  exact propext h3
theorem sp_isch_no {w : eb_W} {i : Int32} {j : Nat} : ∀ {n : Nat}, j < n → sp_bk (w.2.2.2.2 j 0) = true ∧ sp_enc (sp_choice w j) = i → sp_isch w i n = true := by
  intro n
  induction n with
  | zero => intro h; omega
  | succ n ih =>
    intro h c
    show (sp_isch w i n || decide _) = true
    by_cases q : j = n
    · subst q; rw [decide_eq_true c, Bool.or_true]
    · rw [ih (by omega) c, Bool.true_or]
section
variable {L d nc ns r i g : Nat} {I I' : eb_A → Nat → Int32} {J J' : eb_A → Nat → Int64} {C : Nat → Nat → Nat} {mt mk : Option Nat} {M : eb_M} {R : eb_A → Nat → Option eb_A} {w : eb_W} {x : Int32} {S : eb_St}
theorem m_isChoice (h : eb_RM I r w) (hw : sp_ok w) : eb_ev L (d + 5) 216 [zr (21, r, 0), zi x] (nc, ns, I, J, eb_RL C mt mk) = some (zi (if 0 < sp_crowd w x then 1 else 0), (nc, ns, I, J, eb_RL C mt mk)) := by
  have hg := hw.2.1
  rw [h216 rfl]
  simp (decide := true) (disch := omega) only [e216_0, e216_1, bi_s, tyX, rl1, rl2, rl4, ↓reduceIte, Option.bind_some, true_and, and_true, false_and, and_false, true_or, or_true, false_or, or_false, if_same0, ite_eq0, ite_eq0', ite_eq1, ite_eq1', or_em, or_em', ite_not, lcmp0, lcmpL, lcmpG, nI_cl_b, eb_in_b, nI_1, nI_pred, Int32.reduceToNatClampNeg, eb_u_ap, Prod.mk.injEq, not_true_eq_false, not_false_eq_true, tyM, rl21, rl25, sp_rg, sp_iI, sp_iG, sp_iS]
  have e0 := sp_isch_eq hw (i := x)
  have key := eb_loopE (α := Unit) (n := w.2.1) (s0 := ())
    (F := fun j _ => eb_E L (d + 4) 216 2 [some (zr (21, r, 0)), some (zi x), some (zi (nI j))] [] (nc, ns, I, J, eb_RL C mt mk))
    (P := fun j _ => sp_isch w x j = false)
    (Q := fun r => r = some (zi (if 0 < sp_crowd w x then 1 else 0), (nc, ns, I, J, eb_RL C mt mk)))
    rfl (by
      intro j _ hj hP
      have kb := m_isByBook (L := L) (d := d + 3) (nc := nc) (ns := ns) (J := J) (C := C) (mt := mt) (mk := mk) h hw hj
      have kc := m_choiceOf (L := L) (d := d) (nc := nc) (ns := ns) (J := J) (C := C) (mt := mt) (mk := mk) h hw hj
      have hs : sp_isch w x (j + 1) = (sp_isch w x j || decide (sp_bk (w.2.2.2.2 j 0) = true ∧ sp_enc (sp_choice w j) = x)) := rfl
      rw [e216_2]
      by_cases c : sp_bk (w.2.2.2.2 j 0) = true
      · rw [if_pos c] at kb
        by_cases c2 : sp_enc (sp_choice w j) = x
        · right
          have ht := sp_isch_no (w := w) hj ⟨c, c2⟩
          rw [e0] at ht
          simp (decide := true) (disch := omega) only [e216_3, e216_4, e216_7, e216_10, e216_11, e216_12, e216_15, e216_18, e216_19, e216_20, e216_23, e216_24, e216_27, e216_28, e216_29, e216_32, e216_35, e216_36, bi_s, tyX, rl1, rl2, rl4, ↓reduceIte, Option.bind_some, true_and, and_true, false_and, and_false, true_or, or_true, false_or, or_false, if_same0, ite_eq0, ite_eq0', ite_eq1, ite_eq1', or_em, or_em', ite_not, lcmp0, lcmpL, lcmpG, nI_cl_b, eb_in_b, nI_1, nI_pred, Int32.reduceToNatClampNeg, eb_u_ap, Prod.mk.injEq, not_true_eq_false, not_false_eq_true, tyM, rl21, rl25, sp_rg, sp_iI, sp_iG, sp_iS, h.1.2.1, nI_lt_b, hj, kb, kc, c2]
          rw [if_pos ht]
        · left
          simp (decide := true) (disch := omega) only [e216_3, e216_4, e216_7, e216_10, e216_11, e216_12, e216_15, e216_18, e216_19, e216_20, e216_23, e216_24, e216_27, e216_28, e216_29, e216_32, e216_35, e216_36, bi_s, tyX, rl1, rl2, rl4, ↓reduceIte, Option.bind_some, true_and, and_true, false_and, and_false, true_or, or_true, false_or, or_false, if_same0, ite_eq0, ite_eq0', ite_eq1, ite_eq1', or_em, or_em', ite_not, lcmp0, lcmpL, lcmpG, nI_cl_b, eb_in_b, nI_1, nI_pred, Int32.reduceToNatClampNeg, eb_u_ap, Prod.mk.injEq, not_true_eq_false, not_false_eq_true, tyM, rl21, rl25, sp_rg, sp_iI, sp_iG, sp_iS, h.1.2.1, nI_lt_b, hj, kb, kc, c2]
          have hh : sp_isch w x (j + 1) = false := by rw [hs, hP, decide_eq_false (fun z => c2 z.2)]; rfl
          first | exact ⟨(), rfl, hh⟩ | exact ⟨(), hh⟩ | exact hh
      · left
        rw [if_neg c] at kb
        simp (decide := true) (disch := omega) only [e216_3, e216_4, e216_7, e216_10, e216_11, e216_12, e216_15, e216_18, e216_19, e216_20, e216_23, e216_24, e216_27, e216_28, e216_29, e216_32, e216_35, e216_36, bi_s, tyX, rl1, rl2, rl4, ↓reduceIte, Option.bind_some, true_and, and_true, false_and, and_false, true_or, or_true, false_or, or_false, if_same0, ite_eq0, ite_eq0', ite_eq1, ite_eq1', or_em, or_em', ite_not, lcmp0, lcmpL, lcmpG, nI_cl_b, eb_in_b, nI_1, nI_pred, Int32.reduceToNatClampNeg, eb_u_ap, Prod.mk.injEq, not_true_eq_false, not_false_eq_true, tyM, rl21, rl25, sp_rg, sp_iI, sp_iG, sp_iS, h.1.2.1, nI_lt_b, hj, kb]
        have hh : sp_isch w x (j + 1) = false := by rw [hs, hP, decide_eq_false (fun z => c z.1)]; rfl
        first | exact ⟨(), rfl, hh⟩ | exact ⟨(), hh⟩ | exact hh) (by
      intro _ hP
      have hn : ¬ 0 < sp_crowd w x := by rw [← e0, hP]; simp
      rw [e216_2]
      simp (decide := true) (disch := omega) only [e216_3, e216_4, e216_7, e216_10, e216_11, e216_12, e216_15, e216_18, e216_19, e216_20, e216_23, e216_24, e216_27, e216_28, e216_29, e216_32, e216_35, e216_36, bi_s, tyX, rl1, rl2, rl4, ↓reduceIte, Option.bind_some, true_and, and_true, false_and, and_false, true_or, or_true, false_or, or_false, if_same0, ite_eq0, ite_eq0', ite_eq1, ite_eq1', or_em, or_em', ite_not, lcmp0, lcmpL, lcmpG, nI_cl_b, eb_in_b, nI_1, nI_pred, Int32.reduceToNatClampNeg, eb_u_ap, Prod.mk.injEq, not_true_eq_false, not_false_eq_true, tyM, rl21, rl25, sp_rg, sp_iI, sp_iG, sp_iS, h.1.2.1, nI_lt_b, Nat.lt_irrefl]
      rw [if_neg hn])
  simp only [nI_0] at key
  exact key
theorem mf_trust (ok : sp_St S) {a : Int32} : eb_FM L (d + 7) 217 [zi a] S (sf_trust S a).2 (zi (sf_trust S a).1) := by
  intro nc ns I J C mt mk h
  rw [h217 rfl]
  unfold sf_trust
  have hI := m_isInn (L := L) (d := d + 4) (nc := nc) (ns := ns) (J := J) (C := C) (mt := mt) (mk := mk) (x := a) h.1 ok.1
  have hn1 := ok.1.1
  by_cases c1 : sp_iI S.1 a
  · rw [if_pos c1] at hI
    rw [if_pos c1]
    have k13 := h.1.1.2.2.1
    generalize hp : (fun r => decide (0 < sp_crowd (sp_setS S.1 0 (nI r)) a)) = p
    simp (decide := true) (disch := omega) only [e217_0, e217_1, e217_2, e217_5, e217_8, e217_9, e217_11, e217_14, e217_15, e217_16, e217_19, e217_20, e217_21, e217_22, e217_24, bi_s, tyX, rl1, rl2, rl4, ↓reduceIte, Option.bind_some, true_and, and_true, false_and, and_false, true_or, or_true, false_or, or_false, if_same0, ite_eq0, ite_eq0', ite_eq1, ite_eq1', or_em, or_em', ite_not, lcmp0, lcmpL, lcmpG, nI_cl_b, eb_in_b, nI_1, nI_pred, Int32.reduceToNatClampNeg, eb_u_ap, Prod.mk.injEq, not_true_eq_false, not_false_eq_true, tyM, rl21, rl25, sp_rg, sp_iI, sp_iG, sp_iS, hI, k13]
    have fin : ∀ (I1 : eb_A → Nat → Int32) (v f : Int32), eb_gv 0 I I1 → (∃ x, eb_RM I1 0 (sp_setS S.1 0 x)) → f = sp_lst p 100 → (∀ X : eb_M, eb_E L (d + 6) 217 26 [some (zr (21, 0, 0)), some (zi a), some (zi (S.1.2.2.1 0)), some (zi f), some (zi v)] [] X = eb_E L (d + 6) 217 63 [some (zr (21, 0, 0)), some (zi a), some (zi (S.1.2.2.1 0)), some (zi f), some (zi v)] [] X) →
        ∃ nc' ns' I' J' mt' mk', eb_E L (d + 6) 217 26 [some (zr (21, 0, 0)), some (zi a), some (zi (S.1.2.2.1 0)), some (zi f), some (zi v)] [] (nc, ns, I1, J, eb_RL C mt mk) = some (zi (sp_lst p 100), (nc', ns', I', J', eb_RL C mt' mk')) ∧ eb_MS S I' J' nc' ns' mt' mk' ∧ eb_fM I I' ∧ eb_fN J J' := by
      intro I1 v f h1 h2 h3 h4
      obtain ⟨x, h2⟩ := h2
      rw [h4]
      simp (decide := true) (disch := omega) only [e217_63, e217_64, e217_65, e217_68, e217_69, bi_s, tyX, rl1, rl2, rl4, ↓reduceIte, Option.bind_some, true_and, and_true, false_and, and_false, true_or, or_true, false_or, or_false, if_same0, ite_eq0, ite_eq0', ite_eq1, ite_eq1', or_em, or_em', ite_not, lcmp0, lcmpL, lcmpG, nI_cl_b, eb_in_b, nI_1, nI_pred, Int32.reduceToNatClampNeg, eb_u_ap, Prod.mk.injEq, not_true_eq_false, not_false_eq_true, tyM, rl21, rl25, sp_rg, sp_iI, sp_iG, sp_iS]
      have r1 := RM_setA (v := S.1.2.2.1 0) h2
      rw [sp_setA2, setA_back] at r1
      exact ⟨nc, ns, eb_u I1 (21, 0, 0) 13 (S.1.2.2.1 0), J, mt, mk, by rw [h3], fm_w (w := S.1) h ⟨r1.1, eb_gv_tr h1 r1.2⟩⟩
    have key := eb_loopE (α := eb_A → Nat → Int32) (n := 100) (s0 := I)
      (F := fun y s => eb_E L (d + 6) 217 26 [some (zr (21, 0, 0)), some (zi a), some (zi (S.1.2.2.1 0)), some (zi (-1)), some (zi (if y < 100 then nI (99 - y) else -1))] [] (nc, ns, s, J, eb_RL C mt mk))
      (P := fun y s => eb_gv 0 I s ∧ (∃ x, eb_RM s 0 (sp_setS S.1 0 x)) ∧ sp_lst p (100 - y) = sp_lst p 100)
      (Q := fun r => ∃ nc' ns' I' J' mt' mk', r = some (zi (sp_lst p 100), (nc', ns', I', J', eb_RL C mt' mk')) ∧ eb_MS S I' J' nc' ns' mt' mk' ∧ eb_fM I I' ∧ eb_fN J J')
      ⟨eb_gv_rf, ⟨S.1.2.2.1 0, by rw [setA_back]; exact h.1⟩, rfl⟩ (by
        intro y I1 hy hP
        obtain ⟨h1, ⟨x, h3⟩, h2⟩ := hP
        have r1 := RM_setA (v := nI (99 - y)) h3
        rw [sp_setA2] at r1
        have ok1 : sp_ok (sp_setS S.1 0 (nI (99 - y))) := ok_setA ok.1 (nI_rg (lo := 0) (hi := 99) ⟨by omega, by omega⟩ (by omega))
        have hc := m_isChoice (L := L) (d := d + 1) (nc := nc) (ns := ns) (J := J) (C := C) (mt := mt) (mk := mk) (x := a) r1.1 ok1
        have hpy : p (99 - y) = decide (0 < sp_crowd (sp_setS S.1 0 (nI (99 - y))) a) := by rw [← hp]
        have hl : (if y < 100 then nI (99 - y) else -1) = nI (99 - y) := if_pos hy
        have h100 : 100 - y = (99 - y) + 1 := by omega
        rw [h100] at h2
        have h2 : (if p (99 - y) = true then nI (99 - y) else sp_lst p (99 - y)) = sp_lst p 100 := h2
        have hneg : (nI (99 - y) < 0) = False := nI_neg (by omega)
        have hgv := eb_gv_tr h1 r1.2
        rw [hl, e217_26]
        by_cases c : 0 < sp_crowd (sp_setS S.1 0 (nI (99 - y))) a
        · right
          rw [hpy, if_pos (decide_eq_true c)] at h2
          rw [if_pos c] at hc
          have hf := fin (eb_u I1 (21, 0, 0) 13 (nI (99 - y))) (nI (99 - y) + -1) (nI (99 - y)) hgv ⟨_, r1.1⟩ h2 (fun X => by
            have hm1 : (nI (99 - y) = -1) = False := nI_m1 (by omega)
            rw [e217_26]
            by_cases q : nI (99 - y) + -1 < 0 <;> simp (decide := true) (disch := omega) only [e217_28, e217_31, e217_32, e217_33, bi_s, tyX, rl1, rl2, rl4, ↓reduceIte, Option.bind_some, true_and, and_true, false_and, and_false, true_or, or_true, false_or, or_false, if_same0, ite_eq0, ite_eq0', ite_eq1, ite_eq1', or_em, or_em', ite_not, lcmp0, lcmpL, lcmpG, nI_cl_b, eb_in_b, nI_1, nI_pred, Int32.reduceToNatClampNeg, eb_u_ap, Prod.mk.injEq, not_true_eq_false, not_false_eq_true, tyM, rl21, rl25, sp_rg, sp_iI, sp_iG, sp_iS, q, hm1])
          simp (decide := true) (disch := omega) only [e217_28, e217_31, e217_32, e217_33, e217_36, e217_37, e217_39, e217_42, e217_43, e217_44, e217_47, e217_50, e217_52, e217_55, e217_56, e217_57, e217_60, bi_s, tyX, rl1, rl2, rl4, ↓reduceIte, Option.bind_some, true_and, and_true, false_and, and_false, true_or, or_true, false_or, or_false, if_same0, ite_eq0, ite_eq0', ite_eq1, ite_eq1', or_em, or_em', ite_not, lcmp0, lcmpL, lcmpG, nI_cl_b, eb_in_b, nI_1, nI_pred, Int32.reduceToNatClampNeg, eb_u_ap, Prod.mk.injEq, not_true_eq_false, not_false_eq_true, tyM, rl21, rl25, sp_rg, sp_iI, sp_iG, sp_iS, hneg, hc]
          exact hf
        · left
          rw [hpy, if_neg (fun q => c (of_decide_eq_true q))] at h2
          rw [if_neg c] at hc
          simp (decide := true) (disch := omega) only [e217_28, e217_31, e217_32, e217_33, e217_36, e217_37, e217_39, e217_42, e217_43, e217_44, e217_47, e217_50, e217_52, e217_55, e217_56, e217_57, e217_60, bi_s, tyX, rl1, rl2, rl4, ↓reduceIte, Option.bind_some, true_and, and_true, false_and, and_false, true_or, or_true, false_or, or_false, if_same0, ite_eq0, ite_eq0', ite_eq1, ite_eq1', or_em, or_em', ite_not, lcmp0, lcmpL, lcmpG, nI_cl_b, eb_in_b, nI_1, nI_pred, Int32.reduceToNatClampNeg, eb_u_ap, Prod.mk.injEq, not_true_eq_false, not_false_eq_true, tyM, rl21, rl25, sp_rg, sp_iI, sp_iG, sp_iS, hneg, hc]
          refine ⟨eb_u I1 (21, 0, 0) 13 (nI (99 - y)), ?_, hgv, ⟨_, r1.1⟩, ?_⟩
          · have : nI (99 - y) + -1 = (if y + 1 < 100 then nI (99 - (y + 1)) else -1) := by
              by_cases q : y + 1 < 100
              · rw [if_pos q, show 99 - y = 99 - (y + 1) + 1 by omega, nI_dec]
              · rw [if_neg q, show 99 - y = 0 by omega]; rfl
            rw [this]
          · rw [show 100 - (y + 1) = 99 - y by omega]; exact h2) (by
        intro I1 hP
        obtain ⟨h1, h3, h2⟩ := hP
        have h2 : -1 = sp_lst p 100 := h2
        exact fin I1 (-1) (-1) h1 h3 h2 (fun X => by
          rw [e217_26]
          simp (decide := true) (disch := omega) only [e217_28, e217_31, e217_32, e217_33, bi_s, tyX, rl1, rl2, rl4, ↓reduceIte, Option.bind_some, true_and, and_true, false_and, and_false, true_or, or_true, false_or, or_false, if_same0, ite_eq0, ite_eq0', ite_eq1, ite_eq1', or_em, or_em', ite_not, lcmp0, lcmpL, lcmpG, nI_cl_b, eb_in_b, nI_1, nI_pred, Int32.reduceToNatClampNeg, eb_u_ap, Prod.mk.injEq, not_true_eq_false, not_false_eq_true, tyM, rl21, rl25, sp_rg, sp_iI, sp_iG, sp_iS]))
    exact key
  · rw [if_neg c1] at hI
    rw [if_neg c1]
    simp (decide := true) (disch := omega) only [e217_0, e217_1, e217_2, e217_5, e217_8, e217_9, e217_11, e217_14, e217_15, e217_16, e217_19, e217_20, e217_21, e217_22, e217_24, bi_s, tyX, rl1, rl2, rl4, ↓reduceIte, Option.bind_some, true_and, and_true, false_and, and_false, true_or, or_true, false_or, or_false, if_same0, ite_eq0, ite_eq0', ite_eq1, ite_eq1', or_em, or_em', ite_not, lcmp0, lcmpL, lcmpG, nI_cl_b, eb_in_b, nI_1, nI_pred, Int32.reduceToNatClampNeg, eb_u_ap, Prod.mk.injEq, not_true_eq_false, not_false_eq_true, tyM, rl21, rl25, sp_rg, sp_iI, sp_iG, sp_iS, hI, m_refuse0]
    exact ⟨nc, ns, _, J, mt, mk, rfl, fm_rf h (by omega)⟩
theorem mf_share (ok : sp_St S) {a : Int32} : eb_FM L (d + 7) 218 [zi a] S (sf_share S a).2 (zi (sf_share S a).1) := by
  intro nc ns I J C mt mk h
  rw [h218 rfl]
  unfold sf_share
  have hG := m_isGoer (L := L) (d := d + 4) (nc := nc) (ns := ns) (J := J) (C := C) (mt := mt) (mk := mk) (x := a) h.1 ok.1
  have hn1 := ok.1.2.1
  have hn := ok.1.1
  by_cases c1 : sp_iG S.1 a
  · rw [if_pos c1] at hG
    rw [if_neg (fun q => q c1)]
    obtain ⟨g, hg, rfl⟩ := rg_nat (by omega) c1
    have e := m_truestOf (L := L) (d := d + 5) (nc := nc) (ns := ns) (J := J) (C := C) (mt := mt) (mk := mk) h.1 ok.1
    cases hb : sp_truest S.1 with
    | none =>
      rw [hb] at e
      simp (decide := true) (disch := omega) only [e218_0, e218_1, e218_2, e218_5, e218_8, e218_9, e218_11, e218_14, e218_15, e218_16, e218_19, e218_20, e218_21, e218_22, e218_25, e218_26, e218_28, e218_31, e218_32, e218_33, e218_36, e218_38, e218_39, e218_42, e218_43, e218_44, e218_45, e218_46, e218_47, e218_48, e218_51, e218_52, e218_53, e218_54, e218_55, e218_56, bi_s, tyX, rl1, rl2, rl4, ↓reduceIte, Option.bind_some, true_and, and_true, false_and, and_false, true_or, or_true, false_or, or_false, if_same0, ite_eq0, ite_eq0', ite_eq1, ite_eq1', or_em, or_em', ite_not, lcmp0, lcmpL, lcmpG, nI_cl_b, eb_in_b, nI_1, nI_pred, Int32.reduceToNatClampNeg, eb_u_ap, Prod.mk.injEq, not_true_eq_false, not_false_eq_true, tyM, rl21, rl25, sp_rg, sp_iI, sp_iG, sp_iS, hG, e, sp_enc, m_refuse3]
      exact ⟨nc, ns, _, J, mt, mk, rfl, fm_rf h (by omega)⟩
    | some b =>
      rw [hb] at e
      have hbl := (sp_best_lt hb).1
      obtain ⟨I1, e1, e2, e3⟩ := m_goThrough (L := L) (d := d + 1) (nc := nc) (ns := ns) (J := J) (C := C) (mt := mt) (mk := mk) h.1 ok.1
      have k0 := (e3.2 g hg).1 b hbl
      have k1 := (eb_gn_RM e2 h.1).2.2 g hg 1 (by omega)
      obtain ⟨-, hh, -⟩ := ok.1.2.2.2.2 g hg
      have z2 : ¬ S.1.2.2.2.2 g 1 = 0 := fun q => by rw [q] at hh; exact absurd hh.1 (by decide)
      simp (decide := true) (disch := omega) only [e218_0, e218_1, e218_2, e218_5, e218_8, e218_9, e218_11, e218_14, e218_15, e218_16, e218_19, e218_20, e218_21, e218_22, e218_25, e218_26, e218_28, e218_31, e218_32, e218_33, e218_36, e218_38, e218_39, e218_42, e218_43, e218_44, e218_45, e218_46, e218_47, e218_48, e218_51, e218_52, e218_53, e218_54, e218_55, e218_56, bi_s, tyX, rl1, rl2, rl4, ↓reduceIte, Option.bind_some, true_and, and_true, false_and, and_false, true_or, or_true, false_or, or_false, if_same0, ite_eq0, ite_eq0', ite_eq1, ite_eq1', or_em, or_em', ite_not, lcmp0, lcmpL, lcmpG, nI_cl_b, eb_in_b, nI_1, nI_pred, Int32.reduceToNatClampNeg, eb_u_ap, Prod.mk.injEq, not_true_eq_false, not_false_eq_true, tyM, rl21, rl25, sp_rg, sp_iI, sp_iG, sp_iS, hG, e, sp_enc, nI_m1, e1, k0, k1, z2, tn]
      exact ⟨nc, ns, I1, J, mt, mk, rfl, fm_n h e2⟩
  · rw [if_neg c1] at hG
    rw [if_pos c1]
    simp (decide := true) (disch := omega) only [e218_0, e218_1, e218_2, e218_5, e218_8, e218_9, e218_11, e218_14, e218_15, e218_16, e218_19, e218_20, e218_21, e218_22, e218_25, e218_26, e218_28, e218_31, e218_32, e218_33, e218_36, e218_38, e218_39, e218_42, e218_43, e218_44, e218_45, e218_46, e218_47, e218_48, e218_51, e218_52, e218_53, e218_54, e218_55, e218_56, bi_s, tyX, rl1, rl2, rl4, ↓reduceIte, Option.bind_some, true_and, and_true, false_and, and_false, true_or, or_true, false_or, or_false, if_same0, ite_eq0, ite_eq0', ite_eq1, ite_eq1', or_em, or_em', ite_not, lcmp0, lcmpL, lcmpG, nI_cl_b, eb_in_b, nI_1, nI_pred, Int32.reduceToNatClampNeg, eb_u_ap, Prod.mk.injEq, not_true_eq_false, not_false_eq_true, tyM, rl21, rl25, sp_rg, sp_iI, sp_iG, sp_iS, hG, m_refuse0]
    exact ⟨nc, ns, _, J, mt, mk, rfl, fm_rf h (by omega)⟩
theorem mf_judge (ok : sp_St S) {a : Int32} : eb_FM L (d + 7) 222 [zi a] S (sf_judge S a).2 (zi (sf_judge S a).1) := by
  intro nc ns I J C mt mk h
  rw [h222 rfl]
  unfold sf_judge
  have hn := ok.1.1
  have hg := ok.1.2.1
  have hf := m_noRow (L := L) (d := d + 4) (C := C) h ok (s := a)
  cases hs : sp_fault S a with
  | some kk =>
    have hk := sp_fault_lt hs
    simp only [hs] at hf
    simp (decide := true) (disch := omega) only [e222_0, e222_1, e222_2, e222_5, e222_6, e222_7, e222_10, e222_11, e222_12, e222_13, e222_16, e222_17, e222_18, e222_19, e222_22, e222_23, e222_26, e222_27, e222_30, e222_31, e222_33, e222_36, e222_37, e222_38, e222_41, e222_42, bi_s, tyX, rl1, rl2, rl4, ↓reduceIte, Option.bind_some, true_and, and_true, false_and, and_false, true_or, or_true, false_or, or_false, if_same0, ite_eq0, ite_eq0', ite_eq1, ite_eq1', or_em, or_em', ite_not, lcmp0, lcmpL, lcmpG, nI_cl_b, eb_in_b, nI_1, nI_pred, Int32.reduceToNatClampNeg, eb_u_ap, Prod.mk.injEq, not_true_eq_false, not_false_eq_true, tyM, rl21, rl25, sp_rg, sp_iI, sp_iG, sp_iS, hf, ref_ne]
    exact ⟨nc, ns, _, J, mt, mk, rfl, fm_rf h (by omega)⟩
  | none =>
    obtain ⟨s, hs8, rfl, hr⟩ := sp_fault_none hs
    simp only [hs] at hf
    obtain ⟨-, g1, -⟩ := h.2.2.2.1 s hs8
    obtain ⟨g1, g2, g3, g4⟩ := g1 hr
    have hsn : ss_n S s ≤ 40 := by
      rcases St_held ok hs8 with q | q | ⟨g, _, _, q, _⟩
      · exact absurd hr q.2.1
      · exact q.2.1
      · exact absurd hr q
    have htn : tn (nI s) = s := nI_cl_b (by omega)
    simp only [htn]
    have hgi : S.1.2.1 * S.1.1 ≤ 36 := Nat.mul_le_mul hg hn
    have hmul : nI S.1.2.1 * nI S.1.1 = nI (S.1.2.1 * S.1.1) := nI_mul _ _
    by_cases c : ss_n S s < S.1.2.1 * S.1.1
    · rw [if_pos c]
      have c1 : (nI (ss_n S s) < nI (S.1.2.1 * S.1.1)) = True := by rw [nI_lt_b (by omega) (by omega)]; exact eq_true c
      simp (decide := true) (disch := omega) only [e222_0, e222_1, e222_2, e222_5, e222_6, e222_7, e222_10, e222_11, e222_12, e222_13, e222_16, e222_17, e222_18, e222_19, e222_22, e222_23, e222_26, e222_27, e222_30, e222_31, e222_33, e222_36, e222_37, e222_38, e222_41, e222_42, bi_s, tyX, rl1, rl2, rl4, ↓reduceIte, Option.bind_some, true_and, and_true, false_and, and_false, true_or, or_true, false_or, or_false, if_same0, ite_eq0, ite_eq0', ite_eq1, ite_eq1', or_em, or_em', ite_not, lcmp0, lcmpL, lcmpG, nI_cl_b, eb_in_b, nI_1, nI_pred, Int32.reduceToNatClampNeg, eb_u_ap, Prod.mk.injEq, not_true_eq_false, not_false_eq_true, tyM, rl21, rl25, sp_rg, sp_iI, sp_iG, sp_iS, hf, g3, h.1.1.1, h.1.1.2.1, hmul, c1, m_refuse0]
      exact ⟨nc, ns, _, J, mt, mk, rfl, fm_rf h (by omega)⟩
    · rw [if_neg c]
      have c1 : (nI (ss_n S s) < nI (S.1.2.1 * S.1.1)) = False := by rw [nI_lt_b (by omega) (by omega)]; exact eq_false c
      obtain ⟨I0, a1, a2, a3⟩ := m_goThrough (L := L) (d := d + 1) (nc := nc) (ns := ns) (J := J) (C := C) (mt := mt) (mk := mk) h.1 ok.1
      have hR0 := eb_gn_RM a2 h.1
      simp (decide := true) (disch := omega) only [e222_0, e222_1, e222_2, e222_5, e222_6, e222_7, e222_10, e222_11, e222_12, e222_13, e222_16, e222_17, e222_18, e222_19, e222_22, e222_23, e222_26, e222_27, e222_30, e222_31, e222_33, e222_36, e222_37, e222_38, e222_41, e222_42, bi_s, tyX, rl1, rl2, rl4, ↓reduceIte, Option.bind_some, true_and, and_true, false_and, and_false, true_or, or_true, false_or, or_false, if_same0, ite_eq0, ite_eq0', ite_eq1, ite_eq1', or_em, or_em', ite_not, lcmp0, lcmpL, lcmpG, nI_cl_b, eb_in_b, nI_1, nI_pred, Int32.reduceToNatClampNeg, eb_u_ap, Prod.mk.injEq, not_true_eq_false, not_false_eq_true, tyM, rl21, rl25, sp_rg, sp_iI, sp_iG, sp_iS, hf, g3, h.1.1.1, h.1.1.2.1, hmul, c1, a1]
      generalize hp : (fun k => decide (¬ ss_e S s k = ((sp_night S.1).2.1 (k / S.1.1) (k % S.1.1)).toInt64)) = p
      have hpk : ∀ k, p k = decide (¬ ss_e S s k = ((sp_night S.1).2.1 (k / S.1.1) (k % S.1.1)).toInt64) := fun k => by rw [← hp]
      have key := eb_loopE (α := Unit) (n := S.1.2.1 * S.1.1) (s0 := ())
        (F := fun k _ => eb_E L (d + 6) 222 43 [some (zr (21, 0, 0)), some (zi (nI s)), some (zi 0), some (zi (nI k))] [] (nc, ns, I0, J, eb_RL C mt mk))
        (P := fun k _ => sp_fst p k (S.1.2.1 * S.1.1 - k) = sp_fst p 0 (S.1.2.1 * S.1.1))
        (Q := fun r => r = some (zi (sp_fst p 0 (S.1.2.1 * S.1.1)), (nc, ns, I0, J, eb_RL C mt mk)))
        rfl (by
          intro k _ hk hP
          have hn0 : 0 < S.1.1 := by
            rcases Nat.eq_zero_or_pos S.1.1 with q | q
            · rw [q, Nat.mul_zero] at hk; omega
            · exact q
          have hdl : k / S.1.1 < S.1.2.1 := Nat.div_lt_of_lt_mul (by rw [Nat.mul_comm]; exact hk)
          have hml : k % S.1.1 < S.1.1 := Nat.mod_lt _ hn0
          have hk1 : (nI k < nI (S.1.2.1 * S.1.1)) = True := by rw [nI_lt_b (by omega) (by omega)]; exact eq_true hk
          have hz : ¬ nI S.1.1 = 0 := nI_ne0 hn0 (by omega)
          have d1 : nI k / nI S.1.1 = nI (k / S.1.1) := pk_div (by omega) hn0 (by omega)
          have d2 : nI k - nI (k / S.1.1) * nI S.1.1 = nI (k % S.1.1) := by rw [← d1]; exact pk_rem (by omega) hn0 (by omega)
          have hpi := hpk k
          have k1 := g4 k (by omega)
          have k2 := (a3.2 _ hdl).1 _ hml
          have hTs : S.1.2.1 * S.1.1 - k = (S.1.2.1 * S.1.1 - (k + 1)) + 1 := by omega
          rw [hTs] at hP
          have hP : (if p k = true then nI k else sp_fst p (k + 1) (S.1.2.1 * S.1.1 - (k + 1))) = sp_fst p 0 (S.1.2.1 * S.1.1) := hP
          rw [e222_43]
          by_cases cc : ss_e S s k = ((sp_night S.1).2.1 (k / S.1.1) (k % S.1.1)).toInt64
          · left
            rw [hpi, if_neg (by simp [cc])] at hP
            simp (decide := true) (disch := omega) only [e222_44, e222_45, e222_48, e222_49, e222_52, e222_53, e222_56, e222_57, e222_60, e222_61, e222_62, e222_63, e222_64, e222_65, e222_68, e222_69, e222_70, e222_73, e222_74, e222_75, e222_76, e222_77, e222_80, e222_81, e222_82, e222_83, e222_84, e222_87, e222_88, e222_89, e222_92, e222_95, e222_96, bi_s, tyX, rl1, rl2, rl4, ↓reduceIte, Option.bind_some, true_and, and_true, false_and, and_false, true_or, or_true, false_or, or_false, if_same0, ite_eq0, ite_eq0', ite_eq1, ite_eq1', or_em, or_em', ite_not, lcmp0, lcmpL, lcmpG, nI_cl_b, eb_in_b, nI_1, nI_pred, Int32.reduceToNatClampNeg, eb_u_ap, Prod.mk.injEq, not_true_eq_false, not_false_eq_true, tyM, rl21, rl25, sp_rg, sp_iI, sp_iG, sp_iS, hR0.1.1, hR0.1.2.1, hmul, hk1, hz, d1, d2, k1, k2]
            rw [if_pos cc]
            exact ⟨(), rfl, hP⟩
          · right
            rw [hpi, if_pos (by simp [cc])] at hP
            simp (decide := true) (disch := omega) only [e222_44, e222_45, e222_48, e222_49, e222_52, e222_53, e222_56, e222_57, e222_60, e222_61, e222_62, e222_63, e222_64, e222_65, e222_68, e222_69, e222_70, e222_73, e222_74, e222_75, e222_76, e222_77, e222_80, e222_81, e222_82, e222_83, e222_84, e222_87, e222_88, e222_89, e222_92, e222_95, e222_96, bi_s, tyX, rl1, rl2, rl4, ↓reduceIte, Option.bind_some, true_and, and_true, false_and, and_false, true_or, or_true, false_or, or_false, if_same0, ite_eq0, ite_eq0', ite_eq1, ite_eq1', or_em, or_em', ite_not, lcmp0, lcmpL, lcmpG, nI_cl_b, eb_in_b, nI_1, nI_pred, Int32.reduceToNatClampNeg, eb_u_ap, Prod.mk.injEq, not_true_eq_false, not_false_eq_true, tyM, rl21, rl25, sp_rg, sp_iI, sp_iG, sp_iS, hR0.1.1, hR0.1.2.1, hmul, hk1, hz, d1, d2, k1, k2]
            rw [if_neg cc, hP]) (by
          intro _ hP
          rw [Nat.sub_self] at hP
          have hP : -1 = sp_fst p 0 (S.1.2.1 * S.1.1) := hP
          rw [e222_43]
          simp (decide := true) (disch := omega) only [e222_44, e222_45, e222_48, e222_49, e222_52, e222_53, e222_56, e222_57, e222_60, e222_61, e222_62, e222_63, e222_64, e222_65, e222_68, e222_69, e222_70, e222_73, e222_74, e222_75, e222_76, e222_77, e222_80, e222_81, e222_82, e222_83, e222_84, e222_87, e222_88, e222_89, e222_92, e222_95, e222_96, bi_s, tyX, rl1, rl2, rl4, ↓reduceIte, Option.bind_some, true_and, and_true, false_and, and_false, true_or, or_true, false_or, or_false, if_same0, ite_eq0, ite_eq0', ite_eq1, ite_eq1', or_em, or_em', ite_not, lcmp0, lcmpL, lcmpG, nI_cl_b, eb_in_b, nI_1, nI_pred, Int32.reduceToNatClampNeg, eb_u_ap, Prod.mk.injEq, not_true_eq_false, not_false_eq_true, tyM, rl21, rl25, sp_rg, sp_iI, sp_iG, sp_iS, hR0.1.1, hR0.1.2.1, hmul, nI_lt_b, Nat.lt_irrefl]
          rw [hP])
      simp only [nI_0] at key
      exact ⟨nc, ns, I0, J, mt, mk, key, fm_n h a2⟩
end

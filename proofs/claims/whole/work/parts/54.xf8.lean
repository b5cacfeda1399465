/-! the class's faces: letters drawn, the image, judging, what is told of all -/
theorem okI_56 {q : Nat → Int32} {v : Int32} (h : sp_okI q) (hl : q 5 < 99) : sp_okI (sp_up (sp_up q 5 (q 5 + 1)) 6 v) := by
  obtain ⟨l, hl2, el⟩ := eb_rg 99 h.2.2.2.2.2.1 h.2.2.2.2.2.2 (by omega)
  have kl := ok_b l (by omega)
  rw [← el] at kl
  exact ⟨h.1, h.2.1, h.2.2.1, h.2.2.2.1, h.2.2.2.2.1, kl.2.2.1.1, kl.2.2.1.2 hl⟩
theorem ok_letter {w : eb_W} {i : Nat} {v : Int32} (h : sp_ok w) (hl : w.2.2.2.1 i 5 < 99) : sp_ok (sp_setI (sp_setI w i 5 (w.2.2.2.1 i 5 + 1)) i 6 v) := by
  refine ⟨h.1, h.2.1, h.2.2.1, fun j hj => ?_, h.2.2.2.2⟩
  have q := h.2.2.2.1 j hj
  by_cases e : j = i
  · subst e
    have : (sp_setI (sp_setI w j 5 (w.2.2.2.1 j 5 + 1)) j 6 v).2.2.2.1 j = sp_up (sp_up (w.2.2.2.1 j) 5 (w.2.2.2.1 j 5 + 1)) 6 v := by simp [sp_setI, sp_up]
    rw [this]
    exact okI_56 q hl
  · have : (sp_setI (sp_setI w i 5 (w.2.2.2.1 i 5 + 1)) i 6 v).2.2.2.1 j = w.2.2.2.1 j := by simp [sp_setI, sp_up, e]
    rw [this]
    exact q
theorem sp_ok_post2 {w : eb_W} {s2 : Int32} {i : Nat} {v : Int32} (h : sp_ok w) : sp_ok (sp_post2 w s2 i v).1 ∧ (sp_post2 w s2 i v).1.1 = w.1 := by
  by_cases c : w.2.2.2.1 i 5 < 99
  · have e : sp_post2 w s2 i v = (sp_setS (sp_setI (sp_setI w i 5 (w.2.2.2.1 i 5 + 1)) i 6 (w.2.2.2.1 i 6 + v)) 2 s2, 1) := if_pos c
    rw [e]
    have := ok_letter (v := w.2.2.2.1 i 6 + v) h c
    exact ⟨⟨this.1, this.2.1, this.2.2.1, this.2.2.2.1, this.2.2.2.2⟩, rfl⟩
  · have e : sp_post2 w s2 i v = (sp_setS w 2 s2, 0) := if_neg c
    rw [e]
    exact ⟨⟨h.1, h.2.1, h.2.2.1, h.2.2.2.1, h.2.2.2.2⟩, rfl⟩
theorem sp_ok_post1 {w : eb_W} (h : sp_ok w) : sp_ok (sp_post1 w).1 ∧ (sp_post1 w).1.1 = w.1 := sp_ok_post2 h
theorem sp_ok_post {w : eb_W} (h : sp_ok w) : ∀ n, sp_ok (sp_post w n).1 ∧ (sp_post w n).1.1 = w.1 := by
  intro n
  induction n with
  | zero => exact ⟨h, rfl⟩
  | succ n ih => exact ⟨(sp_ok_post1 ih.1).1, (sp_ok_post1 ih.1).2.trans ih.2⟩
theorem sp_post2_01 {w : eb_W} {s2 : Int32} {i : Nat} {v : Int32} : (sp_post2 w s2 i v).2 = 0 ∨ (sp_post2 w s2 i v).2 = 1 := by
  unfold sp_post2
  split
  · right; rfl
  · left; rfl
theorem sp_post1_01 {w : eb_W} : (sp_post1 w).2 = 0 ∨ (sp_post1 w).2 = 1 := sp_post2_01
section
variable {L d nc ns k i g : Nat} {I : eb_A → Nat → Int32} {J : eb_A → Nat → Int64} {C : Nat → Nat → Nat} {mt mk : Option Nat} {w : eb_W} {R : eb_A → Nat → Option eb_A} {S : eb_St} {M : eb_M}
theorem xf_post (ok : sp_St S) {n : Int32} : eb_FX L (d + 8) 120 [zi n] S (sf_post S n).2 (zi (sf_post S n).1) := by
  intro nc ns I J C mt mk h
  rw [h120 rfl]
  unfold sf_post
  have hn1 := ok.1.1
  by_cases c1 : sp_rg n 1 40
  · rw [if_neg (fun q => q c1)]
    obtain ⟨m, hm, rfl⟩ := rg_le 40 (by omega) (by decide) c1
    rw [show tn (nI m) = m from nI_cl_b (by omega)]
    by_cases c2 : S.1.1 = 0
    · rw [if_pos c2]
      have k0 : I (4, 0, 0) 2 = 0 := by rw [h.1.1.1, c2]; rfl
      simp (decide := true) (disch := omega) only [e120_0, e120_1, e120_2, e120_4, e120_7, e120_10, e120_11, e120_13, e120_16, e120_17, e120_18, e120_21, e120_24, e120_25, e120_28, e120_29, e120_31, e120_34, e120_35, e120_36, e120_37, e120_38, e120_40, e120_41, e120_44, e120_45, e120_48, e120_51, e120_54, e120_57, e120_60, e120_63, e120_64, bi_s, tyX, rl1, rl2, rl4, ↓reduceIte, Option.bind_some, true_and, and_true, false_and, and_false, true_or, or_true, false_or, or_false, if_same0, ite_eq0, ite_eq0', ite_eq1, ite_eq1', or_em, or_em', ite_not, lcmp0, lcmpL, lcmpG, nI_cl_b, eb_in_b, nI_1, nI_pred, Int32.reduceToNatClampNeg, eb_u_ap, Prod.mk.injEq, not_true_eq_false, not_false_eq_true, sp_rg, sp_iI, sp_iG, sp_iS, x_within, c1, k0, x_refuse3]
      exact ⟨_, J, C, rfl, fx_rf h (by omega)⟩
    · rw [if_neg c2]
      have k0 : (nI S.1.1 < 1) = False := by rw [show (1 : Int32) = nI 1 from rfl, nI_lt_b (by omega) (by omega)]; simp; omega
      simp (decide := true) (disch := omega) only [e120_0, e120_1, e120_2, e120_4, e120_7, e120_10, e120_11, e120_13, e120_16, e120_17, e120_18, e120_21, e120_24, e120_25, e120_28, e120_29, e120_31, e120_34, e120_35, e120_36, e120_37, e120_38, e120_40, e120_41, e120_44, e120_45, e120_48, e120_51, e120_54, e120_57, e120_60, e120_63, e120_64, bi_s, tyX, rl1, rl2, rl4, ↓reduceIte, Option.bind_some, true_and, and_true, false_and, and_false, true_or, or_true, false_or, or_false, if_same0, ite_eq0, ite_eq0', ite_eq1, ite_eq1', or_em, or_em', ite_not, lcmp0, lcmpL, lcmpG, nI_cl_b, eb_in_b, nI_1, nI_pred, Int32.reduceToNatClampNeg, eb_u_ap, Prod.mk.injEq, not_true_eq_false, not_false_eq_true, sp_rg, sp_iI, sp_iG, sp_iS, x_within, c1, h.1.1.1, k0]
      obtain ⟨t, e, e1, e2, e3⟩ := eb_loop (α := Int32 × (eb_A → Nat → Int32)) (n := m) (s0 := (0, I))
        (F := fun y s => eb_E L (d + 7) 120 39 [some (zr (1, 0, 0)), some (zi (nI m)), some (zi s.1), some (zi (nI y))] [] (nc, ns, s.2, J, eb_RL C mt mk))
        (P := fun y s => s.1 = (sp_post S.1 y).2 ∧ eb_fr 0 I s.2 ∧ eb_RX s.2 0 (sp_post S.1 y).1)
        ⟨rfl, eb_fr_rf, h.1⟩ (by
          intro y s hy hP
          obtain ⟨s1, I1⟩ := s
          obtain ⟨h1, h2, h3⟩ := hP
          have h1 : s1 = (sp_post S.1 y).2 := h1
          have h2 : eb_fr 0 I I1 := h2
          have h3 : eb_RX I1 0 (sp_post S.1 y).1 := h3
          obtain ⟨oky, hny⟩ := sp_ok_post ok.1 y
          obtain ⟨I2, a1, a2, a3⟩ := x_drawLetter (L := L) (d := d + 4) (nc := nc) (ns := ns) (J := J) (C := C) (mt := mt) (mk := mk) h3 oky (by omega)
          have hz : (sp_post S.1 (y + 1)).2 = (sp_post S.1 y).2 + (sp_post1 (sp_post S.1 y).1).2 := rfl
          rw [e120_39]
          rcases sp_post1_01 (w := (sp_post S.1 y).1) with q | q
          · rw [q] at a1 hz
            simp (decide := true) (disch := omega) only [e120_0, e120_1, e120_2, e120_4, e120_7, e120_10, e120_11, e120_13, e120_16, e120_17, e120_18, e120_21, e120_24, e120_25, e120_28, e120_29, e120_31, e120_34, e120_35, e120_36, e120_37, e120_38, e120_40, e120_41, e120_44, e120_45, e120_48, e120_51, e120_54, e120_57, e120_60, e120_63, e120_64, bi_s, tyX, rl1, rl2, rl4, ↓reduceIte, Option.bind_some, true_and, and_true, false_and, and_false, true_or, or_true, false_or, or_false, if_same0, ite_eq0, ite_eq0', ite_eq1, ite_eq1', or_em, or_em', ite_not, lcmp0, lcmpL, lcmpG, nI_cl_b, eb_in_b, nI_1, nI_pred, Int32.reduceToNatClampNeg, eb_u_ap, Prod.mk.injEq, not_true_eq_false, not_false_eq_true, sp_rg, sp_iI, sp_iG, sp_iS, nI_lt_b, hy, a1]
            exact ⟨(s1, I2), rfl, by rw [hz, h1]; exact (Int32.add_zero _).symm, eb_fr_tr h2 a3, a2⟩
          · rw [q] at a1 hz
            simp (decide := true) (disch := omega) only [e120_0, e120_1, e120_2, e120_4, e120_7, e120_10, e120_11, e120_13, e120_16, e120_17, e120_18, e120_21, e120_24, e120_25, e120_28, e120_29, e120_31, e120_34, e120_35, e120_36, e120_37, e120_38, e120_40, e120_41, e120_44, e120_45, e120_48, e120_51, e120_54, e120_57, e120_60, e120_63, e120_64, bi_s, tyX, rl1, rl2, rl4, ↓reduceIte, Option.bind_some, true_and, and_true, false_and, and_false, true_or, or_true, false_or, or_false, if_same0, ite_eq0, ite_eq0', ite_eq1, ite_eq1', or_em, or_em', ite_not, lcmp0, lcmpL, lcmpG, nI_cl_b, eb_in_b, nI_1, nI_pred, Int32.reduceToNatClampNeg, eb_u_ap, Prod.mk.injEq, not_true_eq_false, not_false_eq_true, sp_rg, sp_iI, sp_iG, sp_iS, nI_lt_b, hy, a1]
            exact ⟨(s1 + 1, I2), rfl, by rw [hz, h1], eb_fr_tr h2 a3, a2⟩)
      obtain ⟨s1, I1⟩ := t
      have e1 : s1 = (sp_post S.1 m).2 := e1
      simp only [nI_0] at e
      rw [e, e120_39]
      simp (decide := true) (disch := omega) only [e120_0, e120_1, e120_2, e120_4, e120_7, e120_10, e120_11, e120_13, e120_16, e120_17, e120_18, e120_21, e120_24, e120_25, e120_28, e120_29, e120_31, e120_34, e120_35, e120_36, e120_37, e120_38, e120_40, e120_41, e120_44, e120_45, e120_48, e120_51, e120_54, e120_57, e120_60, e120_63, e120_64, bi_s, tyX, rl1, rl2, rl4, ↓reduceIte, Option.bind_some, true_and, and_true, false_and, and_false, true_or, or_true, false_or, or_false, if_same0, ite_eq0, ite_eq0', ite_eq1, ite_eq1', or_em, or_em', ite_not, lcmp0, lcmpL, lcmpG, nI_cl_b, eb_in_b, nI_1, nI_pred, Int32.reduceToNatClampNeg, eb_u_ap, Prod.mk.injEq, not_true_eq_false, not_false_eq_true, sp_rg, sp_iI, sp_iG, sp_iS, nI_lt_b, Nat.lt_irrefl]
      exact ⟨I1, J, C, by rw [e1], fx_w h ⟨e3, e2⟩⟩
  · rw [if_pos c1]
    simp (decide := true) (disch := omega) only [e120_0, e120_1, e120_2, e120_4, e120_7, e120_10, e120_11, e120_13, e120_16, e120_17, e120_18, e120_21, e120_24, e120_25, e120_28, e120_29, e120_31, e120_34, e120_35, e120_36, e120_37, e120_38, e120_40, e120_41, e120_44, e120_45, e120_48, e120_51, e120_54, e120_57, e120_60, e120_63, e120_64, bi_s, tyX, rl1, rl2, rl4, ↓reduceIte, Option.bind_some, true_and, and_true, false_and, and_false, true_or, or_true, false_or, or_false, if_same0, ite_eq0, ite_eq0', ite_eq1, ite_eq1', or_em, or_em', ite_not, lcmp0, lcmpL, lcmpG, nI_cl_b, eb_in_b, nI_1, nI_pred, Int32.reduceToNatClampNeg, eb_u_ap, Prod.mk.injEq, not_true_eq_false, not_false_eq_true, sp_rg, sp_iI, sp_iG, sp_iS, x_within, c1, x_refuse0]
    exact ⟨_, J, C, rfl, fx_rf h (by omega)⟩
theorem xf_image (ok : sp_St S) : eb_FX L (d + 8) 122 [] S (sf_image S).2 (zi (sf_image S).1) := by
  intro nc ns I J C mt mk h
  rw [h122 rfl]
  unfold sf_image
  obtain ⟨I1, a1, a2, a3⟩ := x_becomeLike (L := L) (d := d + 5) (nc := nc) (ns := ns) (J := J) (C := C) (mt := mt) (mk := mk) (k := 2) h.1 ok.1 (by decide)
  simp (decide := true) (disch := omega) only [e122_0, e122_1, e122_4, e122_5, e122_8, e122_11, e122_12, e122_13, e122_16, e122_17, bi_s, tyX, rl1, rl2, rl4, ↓reduceIte, Option.bind_some, true_and, and_true, false_and, and_false, true_or, or_true, false_or, or_false, if_same0, ite_eq0, ite_eq0', ite_eq1, ite_eq1', or_em, or_em', ite_not, lcmp0, lcmpL, lcmpG, nI_cl_b, eb_in_b, nI_1, nI_pred, Int32.reduceToNatClampNeg, eb_u_ap, Prod.mk.injEq, not_true_eq_false, not_false_eq_true, sp_rg, sp_iI, sp_iG, sp_iS, a1]
  obtain ⟨h1, ⟨h2, h3⟩, h4, ⟨h5, h6⟩, h7⟩ := h
  have e : ∀ a l, ¬ (4 ≤ a.1 ∧ a.1 ≤ 11) → ¬ a = (1, 0, 0) → eb_u I1 (1, 0, 0) 3 1 a l = I a l := fun a l ha hb => by
    simp only [eb_u, hb, false_and, if_false]
    exact a3 a l fun q => ha q.2
  have e2 : ∀ a l, ¬ a = (1, 0, 0) → eb_u I1 (1, 0, 0) 3 1 a l = I1 a l := fun a l hb => by simp only [eb_u, hb, false_and, if_false]
  have hr : ∀ k w, eb_RX I1 k w → eb_RX (eb_u I1 (1, 0, 0) 3 1) k w := fun k w q => eb_RX_of q (fun l => e2 _ _ (by simp)) (fun i l _ => e2 _ _ (by simp)) (fun i l _ => e2 _ _ (by simp))
  refine ⟨_, J, C, rfl, ⟨hr 0 _ (eb_RX_fr h1 a3 (by decide)), ⟨by simp [eb_u], fun p hp => ?_⟩, fun s hs => ⟨(e _ _ (by simp) (by simp)).trans (h4 s hs).1, fun hr => ⟨(e _ _ (by simp) (by simp)).trans ((h4 s hs).2 hr).1, ((h4 s hs).2 hr).2⟩⟩, ⟨(e _ _ (by simp) (by simp)).trans h5, fun j hj => (e _ _ (by simp) (by simp)).trans (h6 j hj)⟩, fun r hr => (e _ _ (by simp) (by simp)).trans (h7 r hr)⟩, eb_fX_tr (eb_fX_fr a3) (eb_fX_u ⟨Nat.le_of_ble_eq_true rfl, Nat.le_of_ble_eq_true rfl⟩), eb_fJ_rf⟩
  have hp : some S.1 = some p := hp
  cases hp
  exact hr 2 _ a2
/-- what a shelf holds, gone back to a valley of n goers -/
def sp_bh (n : Nat) (v : Int32) : Int32 := if ¬ v < 10 ∧ ¬ v - 10 < nI n then -1 else v
theorem xf_back (ok : sp_St S) : eb_FX L (d + 8) 123 [] S (sf_back S).2 (zi (sf_back S).1) := by
  intro nc ns I J C mt mk h
  rw [h123 rfl]
  unfold sf_back
  have h30 := h.2.1.1
  cases hp : S.2.1 with
  | none =>
    rw [hp, if_pos rfl] at h30
    simp (decide := true) (disch := omega) only [e123_0, e123_1, e123_4, e123_7, e123_8, e123_10, e123_13, e123_14, e123_15, e123_18, e123_19, e123_22, e123_25, e123_26, e123_28, e123_30, e123_33, e123_34, e123_37, e123_38, e123_39, e123_42, e123_45, e123_46, e123_47, e123_50, e123_51, e123_52, e123_55, e123_57, e123_58, e123_61, e123_64, e123_65, e123_68, e123_69, e123_70, e123_71, e123_74, e123_77, e123_80, e123_81, bi_s, tyX, rl1, rl2, rl4, ↓reduceIte, Option.bind_some, true_and, and_true, false_and, and_false, true_or, or_true, false_or, or_false, if_same0, ite_eq0, ite_eq0', ite_eq1, ite_eq1', or_em, or_em', ite_not, lcmp0, lcmpL, lcmpG, nI_cl_b, eb_in_b, nI_1, nI_pred, Int32.reduceToNatClampNeg, eb_u_ap, Prod.mk.injEq, not_true_eq_false, not_false_eq_true, sp_rg, sp_iI, sp_iG, sp_iS, h30, x_refuse3]
    exact ⟨_, J, C, rfl, fx_rf h (by omega)⟩
  | some p =>
    rw [hp, if_neg (by simp)] at h30
    have okp := ok.2.1 p hp
    have hpn := okp.2.1
    have hsn := ok.1.2.1
    obtain ⟨I0, a1, a2, a3⟩ := x_becomeLike (L := L) (d := d + 5) (nc := nc) (ns := ns) (J := J) (C := C) (mt := mt) (mk := mk) (k := 0) (h.2.1.2 p hp) okp (by decide)
    simp (decide := true) (disch := omega) only [e123_0, e123_1, e123_4, e123_7, e123_8, e123_10, e123_13, e123_14, e123_15, e123_18, e123_19, e123_22, e123_25, e123_26, e123_28, e123_30, e123_33, e123_34, e123_37, e123_38, e123_39, e123_42, e123_45, e123_46, e123_47, e123_50, e123_51, e123_52, e123_55, e123_57, e123_58, e123_61, e123_64, e123_65, e123_68, e123_69, e123_70, e123_71, e123_74, e123_77, e123_80, e123_81, bi_s, tyX, rl1, rl2, rl4, ↓reduceIte, Option.bind_some, true_and, and_true, false_and, and_false, true_or, or_true, false_or, or_false, if_same0, ite_eq0, ite_eq0', ite_eq1, ite_eq1', or_em, or_em', ite_not, lcmp0, lcmpL, lcmpG, nI_cl_b, eb_in_b, nI_1, nI_pred, Int32.reduceToNatClampNeg, eb_u_ap, Prod.mk.injEq, not_true_eq_false, not_false_eq_true, sp_rg, sp_iI, sp_iG, sp_iS, h30, a1]
    have h0 := eb_XS_w h a3 a2
    have hbh : ∀ s, (if ¬ ss_h S s < 10 ∧ ¬ ss_h S s - 10 < nI p.2.1 then -1 else ss_h S s) = sp_bh p.2.1 (ss_h S s) := fun _ => rfl
    simp only [hbh]
    obtain ⟨I1, e, e1, e2⟩ := eb_loop (α := eb_A → Nat → Int32) (n := 8) (s0 := I0)
      (F := fun y s => eb_E L (d + 7) 123 27 [some (zr (1, 0, 0)), some (zi (nI y))] [] (nc, ns, s, J, eb_RL C mt mk))
      (P := fun y s => eb_XS (p, S.2.1, (fun s => if s < y then sp_bh p.2.1 (ss_h S s) else ss_h S s), ss_n S, ss_e S, ss_t S, ss_r S) s J ∧ eb_fX I s)
      ⟨by
        have z : (fun s => if s < 0 then sp_bh p.2.1 (ss_h S s) else ss_h S s) = ss_h S := funext fun s => if_neg (Nat.not_lt_zero s)
        show eb_XS (p, S.2.1, (fun s => if s < 0 then sp_bh p.2.1 (ss_h S s) else ss_h S s), ss_n S, ss_e S, ss_t S, ss_r S) I0 J
        rw [z]
        exact h0, eb_fX_fr a3⟩ (by
        intro y I1 hy hP
        obtain ⟨h1, h2⟩ := hP
        have g0 := (h1.2.2.1 y hy).1
        have g0 : I1 (3, 0, y) 0 = ss_h S y := by rw [g0]; exact if_neg (Nat.lt_irrefl _)
        have hb : (nI y < 8) = True := by rw [show (8 : Int32) = nI 8 from rfl, nI_lt_b (by omega) (by omega)]; simp; omega
        have keep : sp_bh p.2.1 (ss_h S y) = ss_h S y → eb_XS (p, S.2.1, (fun s => if s < y + 1 then sp_bh p.2.1 (ss_h S s) else ss_h S s), ss_n S, ss_e S, ss_t S, ss_r S) I1 J := fun q => by
          have : (fun s => if s < y + 1 then sp_bh p.2.1 (ss_h S s) else ss_h S s) = fun s => if s < y then sp_bh p.2.1 (ss_h S s) else ss_h S s := by
            funext s
            by_cases z : s = y
            · subst z; simp [q]
            · simp [show (s < y + 1) = (s < y) from propext ⟨fun q => by omega, fun q => by omega⟩]
          rw [this]; exact h1
        rw [e123_27]
        by_cases c1 : ss_h S y < 10
        · simp (decide := true) (disch := omega) only [e123_0, e123_1, e123_4, e123_7, e123_8, e123_10, e123_13, e123_14, e123_15, e123_18, e123_19, e123_22, e123_25, e123_26, e123_28, e123_30, e123_33, e123_34, e123_37, e123_38, e123_39, e123_42, e123_45, e123_46, e123_47, e123_50, e123_51, e123_52, e123_55, e123_57, e123_58, e123_61, e123_64, e123_65, e123_68, e123_69, e123_70, e123_71, e123_74, e123_77, e123_80, e123_81, bi_s, tyX, rl1, rl2, rl4, ↓reduceIte, Option.bind_some, true_and, and_true, false_and, and_false, true_or, or_true, false_or, or_false, if_same0, ite_eq0, ite_eq0', ite_eq1, ite_eq1', or_em, or_em', ite_not, lcmp0, lcmpL, lcmpG, nI_cl_b, eb_in_b, nI_1, nI_pred, Int32.reduceToNatClampNeg, eb_u_ap, Prod.mk.injEq, not_true_eq_false, not_false_eq_true, sp_rg, sp_iI, sp_iG, sp_iS, hb, x_holdsGoer, g0, c1]
          exact ⟨I1, rfl, keep (if_neg (fun q => q.1 c1)), h2⟩
        · obtain ⟨g, hg, eg⟩ : ∃ g, g < S.1.2.1 ∧ ss_h S y = nI (10 + g) := by
            rcases St_held ok hy with q | q | ⟨g, hg, q, _⟩
            · exact absurd q.2.2 c1
            · exact absurd q.2.2.1 c1
            · exact ⟨g, hg, q⟩
          have hsub : nI (10 + g) - 10 = nI g := by rw [Nat.add_comm, ← nI_add]; exact Int32.add_sub_cancel _ _
          have hG := x_isGoer (L := L) (d := d + 5) (nc := nc) (ns := ns) (J := J) (C := C) (mt := mt) (mk := mk) (x := nI g) (w := p) h1.1 okp
          rw [eg] at g0 c1
          by_cases c2 : g < p.2.1
          · rw [if_pos ⟨nI_pos' (by omega), by rw [nI_lt_b (by omega) (by omega)]; exact c2⟩] at hG
            simp (decide := true) (disch := omega) only [e123_0, e123_1, e123_4, e123_7, e123_8, e123_10, e123_13, e123_14, e123_15, e123_18, e123_19, e123_22, e123_25, e123_26, e123_28, e123_30, e123_33, e123_34, e123_37, e123_38, e123_39, e123_42, e123_45, e123_46, e123_47, e123_50, e123_51, e123_52, e123_55, e123_57, e123_58, e123_61, e123_64, e123_65, e123_68, e123_69, e123_70, e123_71, e123_74, e123_77, e123_80, e123_81, bi_s, tyX, rl1, rl2, rl4, ↓reduceIte, Option.bind_some, true_and, and_true, false_and, and_false, true_or, or_true, false_or, or_false, if_same0, ite_eq0, ite_eq0', ite_eq1, ite_eq1', or_em, or_em', ite_not, lcmp0, lcmpL, lcmpG, nI_cl_b, eb_in_b, nI_1, nI_pred, Int32.reduceToNatClampNeg, eb_u_ap, Prod.mk.injEq, not_true_eq_false, not_false_eq_true, sp_rg, sp_iI, sp_iG, sp_iS, hb, x_holdsGoer, g0, c1, hsub, hG]
            refine ⟨I1, rfl, keep ?_, h2⟩
            rw [eg]
            exact if_neg (fun q => q.2 (by rw [hsub, nI_lt_b (by omega) (by omega)]; exact c2))
          · have c3 : ¬ nI g < nI p.2.1 := by rw [nI_lt_b (by omega) (by omega)]; exact c2
            rw [if_neg (fun q => c3 q.2)] at hG
            simp (decide := true) (disch := omega) only [e123_0, e123_1, e123_4, e123_7, e123_8, e123_10, e123_13, e123_14, e123_15, e123_18, e123_19, e123_22, e123_25, e123_26, e123_28, e123_30, e123_33, e123_34, e123_37, e123_38, e123_39, e123_42, e123_45, e123_46, e123_47, e123_50, e123_51, e123_52, e123_55, e123_57, e123_58, e123_61, e123_64, e123_65, e123_68, e123_69, e123_70, e123_71, e123_74, e123_77, e123_80, e123_81, bi_s, tyX, rl1, rl2, rl4, ↓reduceIte, Option.bind_some, true_and, and_true, false_and, and_false, true_or, or_true, false_or, or_false, if_same0, ite_eq0, ite_eq0', ite_eq1, ite_eq1', or_em, or_em', ite_not, lcmp0, lcmpL, lcmpG, nI_cl_b, eb_in_b, nI_1, nI_pred, Int32.reduceToNatClampNeg, eb_u_ap, Prod.mk.injEq, not_true_eq_false, not_false_eq_true, sp_rg, sp_iI, sp_iG, sp_iS, hb, x_holdsGoer, g0, c1, hsub, hG]
            refine ⟨_, rfl, ?_, eb_fX_tr h2 (eb_fX_u ⟨Nat.le_of_ble_eq_true rfl, Nat.le_of_ble_eq_true rfl⟩)⟩
            have q1 := eb_XS_h (k := y) (v := -1) h1 (by decide)
            have : (fun s => if s < y + 1 then sp_bh p.2.1 (ss_h S s) else ss_h S s) = sp_up (fun s => if s < y then sp_bh p.2.1 (ss_h S s) else ss_h S s) y (-1) := by
              funext s
              by_cases z : s = y
              · subst z
                have : sp_bh p.2.1 (ss_h S s) = -1 := by rw [eg]; exact if_pos ⟨c1, by rw [hsub]; exact c3⟩
                simp [sp_up, this]
              · simp [sp_up, z, show (s < y + 1) = (s < y) from propext ⟨fun q => by omega, fun q => by omega⟩]
            rw [this]
            exact q1)
    simp only [nI_0] at e
    have hb : nI 8 = 8 := rfl
    rw [e, e123_27]
    simp (decide := true) (disch := omega) only [e123_0, e123_1, e123_4, e123_7, e123_8, e123_10, e123_13, e123_14, e123_15, e123_18, e123_19, e123_22, e123_25, e123_26, e123_28, e123_30, e123_33, e123_34, e123_37, e123_38, e123_39, e123_42, e123_45, e123_46, e123_47, e123_50, e123_51, e123_52, e123_55, e123_57, e123_58, e123_61, e123_64, e123_65, e123_68, e123_69, e123_70, e123_71, e123_74, e123_77, e123_80, e123_81, bi_s, tyX, rl1, rl2, rl4, ↓reduceIte, Option.bind_some, true_and, and_true, false_and, and_false, true_or, or_true, false_or, or_false, if_same0, ite_eq0, ite_eq0', ite_eq1, ite_eq1', or_em, or_em', ite_not, lcmp0, lcmpL, lcmpG, nI_cl_b, eb_in_b, nI_1, nI_pred, Int32.reduceToNatClampNeg, eb_u_ap, Prod.mk.injEq, not_true_eq_false, not_false_eq_true, sp_rg, sp_iI, sp_iG, sp_iS, hb]
    refine ⟨I1, J, C, rfl, ?_, e2, eb_fJ_rf⟩
    obtain ⟨q1, q2, q3, q4⟩ := e1
    rw [← hp]
    refine ⟨q1, q2, fun s hs => ?_, q4⟩
    have q5 := q3 s hs
    have : (if s < 8 then sp_bh p.2.1 (ss_h S s) else ss_h S s) = sp_bh p.2.1 (ss_h S s) := if_pos hs
    show _ = sp_bh p.2.1 (ss_h S s) ∧ (sp_rg (sp_bh p.2.1 (ss_h S s)) 0 4 → _)
    rw [← this]
    exact q5
theorem x_shelvesInUse (h : eb_XS S I J) : eb_ev L (d + 1) 136 [zr (1, 0, 0)] (nc, ns, I, J, eb_RL C mt mk) = some (zi (sp_sum (fun s => if ss_h S s = -1 then 0 else 1) 8), (nc, ns, I, J, eb_RL C mt mk)) := by
  rw [h136 rfl]
  simp (decide := true) (disch := omega) only [e136_0, e136_1, e136_2, e136_3, e136_5, e136_7, e136_10, e136_11, e136_14, e136_15, e136_16, e136_19, e136_20, e136_23, e136_26, e136_29, e136_32, e136_33, bi_s, tyX, rl1, rl2, rl4, ↓reduceIte, Option.bind_some, true_and, and_true, false_and, and_false, true_or, or_true, false_or, or_false, if_same0, ite_eq0, ite_eq0', ite_eq1, ite_eq1', or_em, or_em', ite_not, lcmp0, lcmpL, lcmpG, nI_cl_b, eb_in_b, nI_1, nI_pred, Int32.reduceToNatClampNeg, eb_u_ap, Prod.mk.injEq, not_true_eq_false, not_false_eq_true, sp_rg, sp_iI, sp_iG, sp_iS]
  have e := eb_loopA (n := 8) (f := sp_sum (fun s => if ss_h S s = -1 then 0 else 1))
    (F := fun i s => eb_E L d 136 4 [some (zr (1, 0, 0)), some (zi s), some (zi (nI i))] [] (nc, ns, I, J, eb_RL C mt mk)) (by
      intro i hi
      have g0 := (h.2.2.1 i hi).1
      have hb : (nI i < 8) = True := by rw [show (8 : Int32) = nI 8 from rfl, nI_lt_b (by omega) (by omega)]; simp; omega
      rw [e136_4]
      simp (decide := true) (disch := omega) only [e136_0, e136_1, e136_2, e136_3, e136_5, e136_7, e136_10, e136_11, e136_14, e136_15, e136_16, e136_19, e136_20, e136_23, e136_26, e136_29, e136_32, e136_33, bi_s, tyX, rl1, rl2, rl4, ↓reduceIte, Option.bind_some, true_and, and_true, false_and, and_false, true_or, or_true, false_or, or_false, if_same0, ite_eq0, ite_eq0', ite_eq1, ite_eq1', or_em, or_em', ite_not, lcmp0, lcmpL, lcmpG, nI_cl_b, eb_in_b, nI_1, nI_pred, Int32.reduceToNatClampNeg, eb_u_ap, Prod.mk.injEq, not_true_eq_false, not_false_eq_true, sp_rg, sp_iI, sp_iG, sp_iS, hb, g0, sp_sum]
      by_cases c : ss_h S i = -1 <;> simp (decide := true) only [c, bi_s, tyX, rl1, rl2, rl4, ↓reduceIte, Option.bind_some, true_and, and_true, false_and, and_false, true_or, or_true, false_or, or_false, if_same0, ite_eq0, ite_eq0', ite_eq1, ite_eq1', or_em, or_em', ite_not, lcmp0, lcmpL, lcmpG, nI_cl_b, eb_in_b, nI_1, nI_pred, Int32.reduceToNatClampNeg, eb_u_ap, Prod.mk.injEq, not_true_eq_false, not_false_eq_true, Int32.add_zero])
  simp only [nI_0] at e
  rw [show sp_sum (fun s => if ss_h S s = -1 then (0 : Int32) else 1) 0 = 0 from rfl] at e
  have hb : nI 8 = 8 := rfl
  rw [e, e136_4]
  simp (decide := true) (disch := omega) only [e136_0, e136_1, e136_2, e136_3, e136_5, e136_7, e136_10, e136_11, e136_14, e136_15, e136_16, e136_19, e136_20, e136_23, e136_26, e136_29, e136_32, e136_33, bi_s, tyX, rl1, rl2, rl4, ↓reduceIte, Option.bind_some, true_and, and_true, false_and, and_false, true_or, or_true, false_or, or_false, if_same0, ite_eq0, ite_eq0', ite_eq1, ite_eq1', or_em, or_em', ite_not, lcmp0, lcmpL, lcmpG, nI_cl_b, eb_in_b, nI_1, nI_pred, Int32.reduceToNatClampNeg, eb_u_ap, Prod.mk.injEq, not_true_eq_false, not_false_eq_true, sp_rg, sp_iI, sp_iG, sp_iS, hb]
theorem xf_status (ok : sp_St S) {a : Int32} : eb_FX L (d + 8) 124 [zi a] S (sf_status S a).2 (zi (sf_status S a).1) := by
  intro nc ns I J C mt mk h
  rw [h124 rfl]
  refine ⟨I, J, C, ?_, fx_0 h⟩
  have k3 := x_innsInBook (L := L) (d := d + 6) (nc := nc) (ns := ns) (J := J) (C := C) (mt := mt) (mk := mk) h.1 ok.1
  have k4 := x_roomsOfAll (L := L) (d := d + 6) (nc := nc) (ns := ns) (J := J) (C := C) (mt := mt) (mk := mk) h.1 ok.1
  have k5 := x_headsOfAll (L := L) (d := d + 6) (nc := nc) (ns := ns) (J := J) (C := C) (mt := mt) (mk := mk) h.1 ok.1
  have k9 := x_shelvesInUse (L := L) (d := d + 6) (nc := nc) (ns := ns) (C := C) (mt := mt) (mk := mk) h
  have k7 := h.2.2.2.1.1
  by_cases n0 : a = 0
  · subst n0; simp (decide := true) (disch := omega) only [e124_0, e124_1, e124_84, e124_85, e124_88, e124_91, e124_92, e124_93, e124_96, e124_99, e124_100, e124_101, e124_104, e124_107, e124_108, e124_109, e124_112, e124_115, e124_116, e124_117, e124_120, e124_123, e124_124, e124_125, e124_128, e124_131, e124_132, e124_133, e124_136, e124_139, e124_140, e124_141, e124_144, e124_147, e124_148, e124_149, e124_152, e124_155, e124_156, e124_157, e124_160, e124_161, e124_162, e124_165, e124_166, e124_168, e124_169, e124_170, e124_171, e124_172, bi_s, tyX, rl1, rl2, rl4, ↓reduceIte, Option.bind_some, true_and, and_true, false_and, and_false, true_or, or_true, false_or, or_false, if_same0, ite_eq0, ite_eq0', ite_eq1, ite_eq1', or_em, or_em', ite_not, lcmp0, lcmpL, lcmpG, nI_cl_b, eb_in_b, nI_1, nI_pred, Int32.reduceToNatClampNeg, eb_u_ap, Prod.mk.injEq, not_true_eq_false, not_false_eq_true, sp_rg, sp_iI, sp_iG, sp_iS, eb_sw, h.1.1.1, sf_status]
  by_cases n1 : a = 1
  · subst n1; simp (decide := true) (disch := omega) only [e124_0, e124_1, e124_84, e124_85, e124_88, e124_91, e124_92, e124_93, e124_96, e124_99, e124_100, e124_101, e124_104, e124_107, e124_108, e124_109, e124_112, e124_115, e124_116, e124_117, e124_120, e124_123, e124_124, e124_125, e124_128, e124_131, e124_132, e124_133, e124_136, e124_139, e124_140, e124_141, e124_144, e124_147, e124_148, e124_149, e124_152, e124_155, e124_156, e124_157, e124_160, e124_161, e124_162, e124_165, e124_166, e124_168, e124_169, e124_170, e124_171, e124_172, bi_s, tyX, rl1, rl2, rl4, ↓reduceIte, Option.bind_some, true_and, and_true, false_and, and_false, true_or, or_true, false_or, or_false, if_same0, ite_eq0, ite_eq0', ite_eq1, ite_eq1', or_em, or_em', ite_not, lcmp0, lcmpL, lcmpG, nI_cl_b, eb_in_b, nI_1, nI_pred, Int32.reduceToNatClampNeg, eb_u_ap, Prod.mk.injEq, not_true_eq_false, not_false_eq_true, sp_rg, sp_iI, sp_iG, sp_iS, eb_sw, h.1.1.2.1, sf_status]
  by_cases n2 : a = 2
  · subst n2; simp (decide := true) (disch := omega) only [e124_0, e124_1, e124_84, e124_85, e124_88, e124_91, e124_92, e124_93, e124_96, e124_99, e124_100, e124_101, e124_104, e124_107, e124_108, e124_109, e124_112, e124_115, e124_116, e124_117, e124_120, e124_123, e124_124, e124_125, e124_128, e124_131, e124_132, e124_133, e124_136, e124_139, e124_140, e124_141, e124_144, e124_147, e124_148, e124_149, e124_152, e124_155, e124_156, e124_157, e124_160, e124_161, e124_162, e124_165, e124_166, e124_168, e124_169, e124_170, e124_171, e124_172, bi_s, tyX, rl1, rl2, rl4, ↓reduceIte, Option.bind_some, true_and, and_true, false_and, and_false, true_or, or_true, false_or, or_false, if_same0, ite_eq0, ite_eq0', ite_eq1, ite_eq1', or_em, or_em', ite_not, lcmp0, lcmpL, lcmpG, nI_cl_b, eb_in_b, nI_1, nI_pred, Int32.reduceToNatClampNeg, eb_u_ap, Prod.mk.injEq, not_true_eq_false, not_false_eq_true, sp_rg, sp_iI, sp_iG, sp_iS, eb_sw, h.1.1.2.2.1, sf_status]
  by_cases n3 : a = 3
  · subst n3; simp (decide := true) (disch := omega) only [e124_0, e124_1, e124_84, e124_85, e124_88, e124_91, e124_92, e124_93, e124_96, e124_99, e124_100, e124_101, e124_104, e124_107, e124_108, e124_109, e124_112, e124_115, e124_116, e124_117, e124_120, e124_123, e124_124, e124_125, e124_128, e124_131, e124_132, e124_133, e124_136, e124_139, e124_140, e124_141, e124_144, e124_147, e124_148, e124_149, e124_152, e124_155, e124_156, e124_157, e124_160, e124_161, e124_162, e124_165, e124_166, e124_168, e124_169, e124_170, e124_171, e124_172, bi_s, tyX, rl1, rl2, rl4, ↓reduceIte, Option.bind_some, true_and, and_true, false_and, and_false, true_or, or_true, false_or, or_false, if_same0, ite_eq0, ite_eq0', ite_eq1, ite_eq1', or_em, or_em', ite_not, lcmp0, lcmpL, lcmpG, nI_cl_b, eb_in_b, nI_1, nI_pred, Int32.reduceToNatClampNeg, eb_u_ap, Prod.mk.injEq, not_true_eq_false, not_false_eq_true, sp_rg, sp_iI, sp_iG, sp_iS, eb_sw, k3, sf_status]
  by_cases n4 : a = 4
  · subst n4; simp (decide := true) (disch := omega) only [e124_0, e124_1, e124_84, e124_85, e124_88, e124_91, e124_92, e124_93, e124_96, e124_99, e124_100, e124_101, e124_104, e124_107, e124_108, e124_109, e124_112, e124_115, e124_116, e124_117, e124_120, e124_123, e124_124, e124_125, e124_128, e124_131, e124_132, e124_133, e124_136, e124_139, e124_140, e124_141, e124_144, e124_147, e124_148, e124_149, e124_152, e124_155, e124_156, e124_157, e124_160, e124_161, e124_162, e124_165, e124_166, e124_168, e124_169, e124_170, e124_171, e124_172, bi_s, tyX, rl1, rl2, rl4, ↓reduceIte, Option.bind_some, true_and, and_true, false_and, and_false, true_or, or_true, false_or, or_false, if_same0, ite_eq0, ite_eq0', ite_eq1, ite_eq1', or_em, or_em', ite_not, lcmp0, lcmpL, lcmpG, nI_cl_b, eb_in_b, nI_1, nI_pred, Int32.reduceToNatClampNeg, eb_u_ap, Prod.mk.injEq, not_true_eq_false, not_false_eq_true, sp_rg, sp_iI, sp_iG, sp_iS, eb_sw, k4, sf_status]
  by_cases n5 : a = 5
  · subst n5; simp (decide := true) (disch := omega) only [e124_0, e124_1, e124_84, e124_85, e124_88, e124_91, e124_92, e124_93, e124_96, e124_99, e124_100, e124_101, e124_104, e124_107, e124_108, e124_109, e124_112, e124_115, e124_116, e124_117, e124_120, e124_123, e124_124, e124_125, e124_128, e124_131, e124_132, e124_133, e124_136, e124_139, e124_140, e124_141, e124_144, e124_147, e124_148, e124_149, e124_152, e124_155, e124_156, e124_157, e124_160, e124_161, e124_162, e124_165, e124_166, e124_168, e124_169, e124_170, e124_171, e124_172, bi_s, tyX, rl1, rl2, rl4, ↓reduceIte, Option.bind_some, true_and, and_true, false_and, and_false, true_or, or_true, false_or, or_false, if_same0, ite_eq0, ite_eq0', ite_eq1, ite_eq1', or_em, or_em', ite_not, lcmp0, lcmpL, lcmpG, nI_cl_b, eb_in_b, nI_1, nI_pred, Int32.reduceToNatClampNeg, eb_u_ap, Prod.mk.injEq, not_true_eq_false, not_false_eq_true, sp_rg, sp_iI, sp_iG, sp_iS, eb_sw, k5, sf_status]
  by_cases n6 : a = 6
  · subst n6; simp (decide := true) (disch := omega) only [e124_0, e124_1, e124_84, e124_85, e124_88, e124_91, e124_92, e124_93, e124_96, e124_99, e124_100, e124_101, e124_104, e124_107, e124_108, e124_109, e124_112, e124_115, e124_116, e124_117, e124_120, e124_123, e124_124, e124_125, e124_128, e124_131, e124_132, e124_133, e124_136, e124_139, e124_140, e124_141, e124_144, e124_147, e124_148, e124_149, e124_152, e124_155, e124_156, e124_157, e124_160, e124_161, e124_162, e124_165, e124_166, e124_168, e124_169, e124_170, e124_171, e124_172, bi_s, tyX, rl1, rl2, rl4, ↓reduceIte, Option.bind_some, true_and, and_true, false_and, and_false, true_or, or_true, false_or, or_false, if_same0, ite_eq0, ite_eq0', ite_eq1, ite_eq1', or_em, or_em', ite_not, lcmp0, lcmpL, lcmpG, nI_cl_b, eb_in_b, nI_1, nI_pred, Int32.reduceToNatClampNeg, eb_u_ap, Prod.mk.injEq, not_true_eq_false, not_false_eq_true, sp_rg, sp_iI, sp_iG, sp_iS, eb_sw, h.1.1.2.2.2.1, sf_status]
  by_cases n7 : a = 7
  · subst n7; simp (decide := true) (disch := omega) only [e124_0, e124_1, e124_84, e124_85, e124_88, e124_91, e124_92, e124_93, e124_96, e124_99, e124_100, e124_101, e124_104, e124_107, e124_108, e124_109, e124_112, e124_115, e124_116, e124_117, e124_120, e124_123, e124_124, e124_125, e124_128, e124_131, e124_132, e124_133, e124_136, e124_139, e124_140, e124_141, e124_144, e124_147, e124_148, e124_149, e124_152, e124_155, e124_156, e124_157, e124_160, e124_161, e124_162, e124_165, e124_166, e124_168, e124_169, e124_170, e124_171, e124_172, bi_s, tyX, rl1, rl2, rl4, ↓reduceIte, Option.bind_some, true_and, and_true, false_and, and_false, true_or, or_true, false_or, or_false, if_same0, ite_eq0, ite_eq0', ite_eq1, ite_eq1', or_em, or_em', ite_not, lcmp0, lcmpL, lcmpG, nI_cl_b, eb_in_b, nI_1, nI_pred, Int32.reduceToNatClampNeg, eb_u_ap, Prod.mk.injEq, not_true_eq_false, not_false_eq_true, sp_rg, sp_iI, sp_iG, sp_iS, eb_sw, k7, sf_status]
  by_cases n8 : a = 8
  · subst n8; simp (decide := true) (disch := omega) only [e124_0, e124_1, e124_84, e124_85, e124_88, e124_91, e124_92, e124_93, e124_96, e124_99, e124_100, e124_101, e124_104, e124_107, e124_108, e124_109, e124_112, e124_115, e124_116, e124_117, e124_120, e124_123, e124_124, e124_125, e124_128, e124_131, e124_132, e124_133, e124_136, e124_139, e124_140, e124_141, e124_144, e124_147, e124_148, e124_149, e124_152, e124_155, e124_156, e124_157, e124_160, e124_161, e124_162, e124_165, e124_166, e124_168, e124_169, e124_170, e124_171, e124_172, bi_s, tyX, rl1, rl2, rl4, ↓reduceIte, Option.bind_some, true_and, and_true, false_and, and_false, true_or, or_true, false_or, or_false, if_same0, ite_eq0, ite_eq0', ite_eq1, ite_eq1', or_em, or_em', ite_not, lcmp0, lcmpL, lcmpG, nI_cl_b, eb_in_b, nI_1, nI_pred, Int32.reduceToNatClampNeg, eb_u_ap, Prod.mk.injEq, not_true_eq_false, not_false_eq_true, sp_rg, sp_iI, sp_iG, sp_iS, eb_sw, h.1.1.2.2.2.2, sf_status]
  by_cases n9 : a = 9
  · subst n9; simp (decide := true) (disch := omega) only [e124_0, e124_1, e124_84, e124_85, e124_88, e124_91, e124_92, e124_93, e124_96, e124_99, e124_100, e124_101, e124_104, e124_107, e124_108, e124_109, e124_112, e124_115, e124_116, e124_117, e124_120, e124_123, e124_124, e124_125, e124_128, e124_131, e124_132, e124_133, e124_136, e124_139, e124_140, e124_141, e124_144, e124_147, e124_148, e124_149, e124_152, e124_155, e124_156, e124_157, e124_160, e124_161, e124_162, e124_165, e124_166, e124_168, e124_169, e124_170, e124_171, e124_172, bi_s, tyX, rl1, rl2, rl4, ↓reduceIte, Option.bind_some, true_and, and_true, false_and, and_false, true_or, or_true, false_or, or_false, if_same0, ite_eq0, ite_eq0', ite_eq1, ite_eq1', or_em, or_em', ite_not, lcmp0, lcmpL, lcmpG, nI_cl_b, eb_in_b, nI_1, nI_pred, Int32.reduceToNatClampNeg, eb_u_ap, Prod.mk.injEq, not_true_eq_false, not_false_eq_true, sp_rg, sp_iI, sp_iG, sp_iS, eb_sw, k9, sf_status]
  have hs : (sf_status S a).1 = if sp_rg a 12 16 then ss_r S (tn a - 12) else -1 := by simp only [sf_status, n0, n1, n2, n3, n4, n5, n6, n7, n8, n9, if_false]
  rw [hs]
  by_cases c : sp_rg a 12 16
  · rw [if_pos c]
    obtain ⟨r, hr, er⟩ := rg_le 16 (by omega) (by decide) c
    have hr2 : 12 ≤ r := by
      have := c.1
      rw [er, show (12 : Int32) = nI 12 from rfl, nI_le_b (by omega) (by omega)] at this
      exact this
    rcases (show r = 12 ∨ r = 13 ∨ r = 14 ∨ r = 15 ∨ r = 16 by omega) with rfl | rfl | rfl | rfl | rfl
    · have er : a = 12 := er
      subst er; have := h.2.2.2.2 0 (by omega); simp (decide := true) (disch := omega) only [e124_0, e124_1, e124_84, e124_85, e124_88, e124_91, e124_92, e124_93, e124_96, e124_99, e124_100, e124_101, e124_104, e124_107, e124_108, e124_109, e124_112, e124_115, e124_116, e124_117, e124_120, e124_123, e124_124, e124_125, e124_128, e124_131, e124_132, e124_133, e124_136, e124_139, e124_140, e124_141, e124_144, e124_147, e124_148, e124_149, e124_152, e124_155, e124_156, e124_157, e124_160, e124_161, e124_162, e124_165, e124_166, e124_168, e124_169, e124_170, e124_171, e124_172, bi_s, tyX, rl1, rl2, rl4, ↓reduceIte, Option.bind_some, true_and, and_true, false_and, and_false, true_or, or_true, false_or, or_false, if_same0, ite_eq0, ite_eq0', ite_eq1, ite_eq1', or_em, or_em', ite_not, lcmp0, lcmpL, lcmpG, nI_cl_b, eb_in_b, nI_1, nI_pred, Int32.reduceToNatClampNeg, eb_u_ap, Prod.mk.injEq, not_true_eq_false, not_false_eq_true, sp_rg, sp_iI, sp_iG, sp_iS, eb_sw]; rw [show ((12 : Int32) - 12).toNatClampNeg = 0 by decide, show tn 12 - 12 = 0 by decide, this]
    · have er : a = 13 := er
      subst er; have := h.2.2.2.2 1 (by omega); simp (decide := true) (disch := omega) only [e124_0, e124_1, e124_84, e124_85, e124_88, e124_91, e124_92, e124_93, e124_96, e124_99, e124_100, e124_101, e124_104, e124_107, e124_108, e124_109, e124_112, e124_115, e124_116, e124_117, e124_120, e124_123, e124_124, e124_125, e124_128, e124_131, e124_132, e124_133, e124_136, e124_139, e124_140, e124_141, e124_144, e124_147, e124_148, e124_149, e124_152, e124_155, e124_156, e124_157, e124_160, e124_161, e124_162, e124_165, e124_166, e124_168, e124_169, e124_170, e124_171, e124_172, bi_s, tyX, rl1, rl2, rl4, ↓reduceIte, Option.bind_some, true_and, and_true, false_and, and_false, true_or, or_true, false_or, or_false, if_same0, ite_eq0, ite_eq0', ite_eq1, ite_eq1', or_em, or_em', ite_not, lcmp0, lcmpL, lcmpG, nI_cl_b, eb_in_b, nI_1, nI_pred, Int32.reduceToNatClampNeg, eb_u_ap, Prod.mk.injEq, not_true_eq_false, not_false_eq_true, sp_rg, sp_iI, sp_iG, sp_iS, eb_sw]; rw [show ((13 : Int32) - 12).toNatClampNeg = 1 by decide, show tn 13 - 12 = 1 by decide, this]
    · have er : a = 14 := er
      subst er; have := h.2.2.2.2 2 (by omega); simp (decide := true) (disch := omega) only [e124_0, e124_1, e124_84, e124_85, e124_88, e124_91, e124_92, e124_93, e124_96, e124_99, e124_100, e124_101, e124_104, e124_107, e124_108, e124_109, e124_112, e124_115, e124_116, e124_117, e124_120, e124_123, e124_124, e124_125, e124_128, e124_131, e124_132, e124_133, e124_136, e124_139, e124_140, e124_141, e124_144, e124_147, e124_148, e124_149, e124_152, e124_155, e124_156, e124_157, e124_160, e124_161, e124_162, e124_165, e124_166, e124_168, e124_169, e124_170, e124_171, e124_172, bi_s, tyX, rl1, rl2, rl4, ↓reduceIte, Option.bind_some, true_and, and_true, false_and, and_false, true_or, or_true, false_or, or_false, if_same0, ite_eq0, ite_eq0', ite_eq1, ite_eq1', or_em, or_em', ite_not, lcmp0, lcmpL, lcmpG, nI_cl_b, eb_in_b, nI_1, nI_pred, Int32.reduceToNatClampNeg, eb_u_ap, Prod.mk.injEq, not_true_eq_false, not_false_eq_true, sp_rg, sp_iI, sp_iG, sp_iS, eb_sw]; rw [show ((14 : Int32) - 12).toNatClampNeg = 2 by decide, show tn 14 - 12 = 2 by decide, this]
    · have er : a = 15 := er
      subst er; have := h.2.2.2.2 3 (by omega); simp (decide := true) (disch := omega) only [e124_0, e124_1, e124_84, e124_85, e124_88, e124_91, e124_92, e124_93, e124_96, e124_99, e124_100, e124_101, e124_104, e124_107, e124_108, e124_109, e124_112, e124_115, e124_116, e124_117, e124_120, e124_123, e124_124, e124_125, e124_128, e124_131, e124_132, e124_133, e124_136, e124_139, e124_140, e124_141, e124_144, e124_147, e124_148, e124_149, e124_152, e124_155, e124_156, e124_157, e124_160, e124_161, e124_162, e124_165, e124_166, e124_168, e124_169, e124_170, e124_171, e124_172, bi_s, tyX, rl1, rl2, rl4, ↓reduceIte, Option.bind_some, true_and, and_true, false_and, and_false, true_or, or_true, false_or, or_false, if_same0, ite_eq0, ite_eq0', ite_eq1, ite_eq1', or_em, or_em', ite_not, lcmp0, lcmpL, lcmpG, nI_cl_b, eb_in_b, nI_1, nI_pred, Int32.reduceToNatClampNeg, eb_u_ap, Prod.mk.injEq, not_true_eq_false, not_false_eq_true, sp_rg, sp_iI, sp_iG, sp_iS, eb_sw]; rw [show ((15 : Int32) - 12).toNatClampNeg = 3 by decide, show tn 15 - 12 = 3 by decide, this]
    · have er : a = 16 := er
      subst er; have := h.2.2.2.2 4 (by omega); simp (decide := true) (disch := omega) only [e124_0, e124_1, e124_84, e124_85, e124_88, e124_91, e124_92, e124_93, e124_96, e124_99, e124_100, e124_101, e124_104, e124_107, e124_108, e124_109, e124_112, e124_115, e124_116, e124_117, e124_120, e124_123, e124_124, e124_125, e124_128, e124_131, e124_132, e124_133, e124_136, e124_139, e124_140, e124_141, e124_144, e124_147, e124_148, e124_149, e124_152, e124_155, e124_156, e124_157, e124_160, e124_161, e124_162, e124_165, e124_166, e124_168, e124_169, e124_170, e124_171, e124_172, bi_s, tyX, rl1, rl2, rl4, ↓reduceIte, Option.bind_some, true_and, and_true, false_and, and_false, true_or, or_true, false_or, or_false, if_same0, ite_eq0, ite_eq0', ite_eq1, ite_eq1', or_em, or_em', ite_not, lcmp0, lcmpL, lcmpG, nI_cl_b, eb_in_b, nI_1, nI_pred, Int32.reduceToNatClampNeg, eb_u_ap, Prod.mk.injEq, not_true_eq_false, not_false_eq_true, sp_rg, sp_iI, sp_iG, sp_iS, eb_sw]; rw [show ((16 : Int32) - 12).toNatClampNeg = 4 by decide, show tn 16 - 12 = 4 by decide, this]
  · rw [if_neg c]
    have m2 : ¬ a = 12 := fun q => c (by rw [q]; decide)
    have m3 : ¬ a = 13 := fun q => c (by rw [q]; decide)
    have m4 : ¬ a = 14 := fun q => c (by rw [q]; decide)
    have m5 : ¬ a = 15 := fun q => c (by rw [q]; decide)
    have m6 : ¬ a = 16 := fun q => c (by rw [q]; decide)
    by_cases n10 : a = 10
    · subst n10; simp (decide := true) (disch := omega) only [e124_0, e124_1, e124_84, e124_85, e124_88, e124_91, e124_92, e124_93, e124_96, e124_99, e124_100, e124_101, e124_104, e124_107, e124_108, e124_109, e124_112, e124_115, e124_116, e124_117, e124_120, e124_123, e124_124, e124_125, e124_128, e124_131, e124_132, e124_133, e124_136, e124_139, e124_140, e124_141, e124_144, e124_147, e124_148, e124_149, e124_152, e124_155, e124_156, e124_157, e124_160, e124_161, e124_162, e124_165, e124_166, e124_168, e124_169, e124_170, e124_171, e124_172, bi_s, tyX, rl1, rl2, rl4, ↓reduceIte, Option.bind_some, true_and, and_true, false_and, and_false, true_or, or_true, false_or, or_false, if_same0, ite_eq0, ite_eq0', ite_eq1, ite_eq1', or_em, or_em', ite_not, lcmp0, lcmpL, lcmpG, nI_cl_b, eb_in_b, nI_1, nI_pred, Int32.reduceToNatClampNeg, eb_u_ap, Prod.mk.injEq, not_true_eq_false, not_false_eq_true, sp_rg, sp_iI, sp_iG, sp_iS, eb_sw]
    by_cases n11 : a = 11
    · subst n11; simp (decide := true) (disch := omega) only [e124_0, e124_1, e124_84, e124_85, e124_88, e124_91, e124_92, e124_93, e124_96, e124_99, e124_100, e124_101, e124_104, e124_107, e124_108, e124_109, e124_112, e124_115, e124_116, e124_117, e124_120, e124_123, e124_124, e124_125, e124_128, e124_131, e124_132, e124_133, e124_136, e124_139, e124_140, e124_141, e124_144, e124_147, e124_148, e124_149, e124_152, e124_155, e124_156, e124_157, e124_160, e124_161, e124_162, e124_165, e124_166, e124_168, e124_169, e124_170, e124_171, e124_172, bi_s, tyX, rl1, rl2, rl4, ↓reduceIte, Option.bind_some, true_and, and_true, false_and, and_false, true_or, or_true, false_or, or_false, if_same0, ite_eq0, ite_eq0', ite_eq1, ite_eq1', or_em, or_em', ite_not, lcmp0, lcmpL, lcmpG, nI_cl_b, eb_in_b, nI_1, nI_pred, Int32.reduceToNatClampNeg, eb_u_ap, Prod.mk.injEq, not_true_eq_false, not_false_eq_true, sp_rg, sp_iI, sp_iG, sp_iS, eb_sw]
    simp (decide := true) (disch := omega) only [e124_0, e124_1, e124_84, e124_85, e124_88, e124_91, e124_92, e124_93, e124_96, e124_99, e124_100, e124_101, e124_104, e124_107, e124_108, e124_109, e124_112, e124_115, e124_116, e124_117, e124_120, e124_123, e124_124, e124_125, e124_128, e124_131, e124_132, e124_133, e124_136, e124_139, e124_140, e124_141, e124_144, e124_147, e124_148, e124_149, e124_152, e124_155, e124_156, e124_157, e124_160, e124_161, e124_162, e124_165, e124_166, e124_168, e124_169, e124_170, e124_171, e124_172, bi_s, tyX, rl1, rl2, rl4, ↓reduceIte, Option.bind_some, true_and, and_true, false_and, and_false, true_or, or_true, false_or, or_false, if_same0, ite_eq0, ite_eq0', ite_eq1, ite_eq1', or_em, or_em', ite_not, lcmp0, lcmpL, lcmpG, nI_cl_b, eb_in_b, nI_1, nI_pred, Int32.reduceToNatClampNeg, eb_u_ap, Prod.mk.injEq, not_true_eq_false, not_false_eq_true, sp_rg, sp_iI, sp_iG, sp_iS, eb_sw, n0, n1, n2, n3, n4, n5, n6, n7, n8, n9, n10, n11, m2, m3, m4, m5, m6]
end

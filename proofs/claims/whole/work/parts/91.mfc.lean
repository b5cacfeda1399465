/-! the reference's faces: two books on one night -/
/-- valleys alike but in what is said and their age -/
def sp_a2 (w W : eb_W) : Prop := W.1 = w.1 ∧ W.2.1 = w.2.1 ∧ W.2.2.2.2 = w.2.2.2.2 ∧ ∀ i f, ¬ f = 4 → W.2.2.2.1 i f = w.2.2.2.1 i f
theorem a2_score {a : Int32} {q q' h : Nat → Int32} {x : Int32} (e : ∀ f, ¬ f = 4 → q' f = q f) : sp_score a q' h x = sp_score a q h x := by
  simp only [sp_score, e 0 (by decide), e 3 (by decide), e 5 (by decide), e 6 (by decide)]
theorem a2_put {w W : eb_W} (h : sp_a2 w W) (ha : W.2.2.1 0 = w.2.2.1 0) {said : Nat → Int32} {j : Nat} {hd : Int32} {N : eb_N} : sp_put W said j hd N = sp_put w said j hd N := by
  obtain ⟨h1, h2, h3, h4⟩ := h
  have e1 : (fun i => W.2.2.2.1 i 2) = fun i => w.2.2.2.1 i 2 := funext fun i => h4 i 2 (by decide)
  have e2 : (fun i => sp_score (W.2.2.1 0) (W.2.2.2.1 i) (W.2.2.2.2 j) (said i)) = fun i => sp_score (w.2.2.1 0) (w.2.2.2.1 i) (w.2.2.2.2 j) (said i) := funext fun i => by rw [ha, h3]; exact a2_score (h4 i)
  simp only [sp_put, e1, e2, h1]
theorem a2_joy {w W : eb_W} (h : sp_a2 w W) {N : eb_N} : sp_joyAll W N = sp_joyAll w N := by
  obtain ⟨h1, h2, h3, h4⟩ := h
  have e : ∀ j, sp_joy W N j = sp_joy w N j := fun j => by
    have : (fun i => N.2.1 j i * (W.2.2.2.1 i 0 - W.2.2.2.1 i 3 - (if sp_full W N i = true then 20 else 0))) = fun i => N.2.1 j i * (w.2.2.2.1 i 0 - w.2.2.2.1 i 3 - (if sp_full w N i = true then 20 else 0)) := funext fun i => by
      have e0 : sp_full W N i = sp_full w N i := by unfold sp_full; rw [h4 i 2 (by decide)]
      rw [e0, h4 i 0 (by decide), h4 i 3 (by decide)]
    simp only [sp_joy, this, h1]
  unfold sp_joyAll
  rw [h2, show (fun j => sp_joy W N j) = fun j => sp_joy w N j from funext e]
theorem a2_write {w W : eb_W} (h : sp_a2 w W) {set : Int32} : sp_a2 w (sp_write W set) := by
  obtain ⟨h1, h2, h3, h4⟩ := h
  refine ⟨h1, h2, h3, fun i f hf => ?_⟩
  show sp_up (W.2.2.2.1 i) 4 _ f = _
  rw [show sp_up (W.2.2.2.1 i) 4 (if sp_bit set i = true then W.2.2.2.1 i 0 else -1) f = W.2.2.2.1 i f from if_neg hf]
  exact h4 i f hf
def sp_bsaid (w : eb_W) (set : Int32) (i : Nat) : Int32 := if sp_bit set i = true then w.2.2.2.1 i 0 else -1
theorem a2_said {w W : eb_W} (h : sp_a2 w W) {set : Int32} : (fun i => (sp_write W set).2.2.2.1 i 4) = sp_bsaid w set := funext fun i => by
  show sp_up (W.2.2.2.1 i) 4 (if sp_bit set i = true then W.2.2.2.1 i 0 else -1) 4 = _
  rw [show sp_up (W.2.2.2.1 i) 4 (if sp_bit set i = true then W.2.2.2.1 i 0 else -1) 4 = (if sp_bit set i = true then W.2.2.2.1 i 0 else -1) from if_pos rfl, h.2.2.2 i 0 (by decide)]
  rfl
def sp_tstep (w : eb_W) (a b : Int32) (N : eb_N) (j : Nat) : eb_N := sp_put (sp_setS w 0 0) (sp_bsaid w b) j (sp_half w j) (sp_put (sp_setS w 0 0) (sp_bsaid w a) j (w.2.2.2.2 j 1 - sp_half w j) N)
theorem a2_W0 {w W : eb_W} (h : sp_a2 w W) : sp_a2 (sp_setS w 0 0) W := h
theorem a2_two1 {w W : eb_W} (h : sp_a2 w W) {set hd : Int32} {j : Nat} {N : eb_N} : sp_put (sp_write W set) (fun i => (sp_write W set).2.2.2.1 i 4) j hd N = sp_put (sp_setS w 0 0) (sp_bsaid w set) j hd N := by
  rw [a2_said h]
  refine a2_put (a2_W0 (a2_write h)) ?_
  show sp_up W.2.2.1 0 0 0 = sp_up w.2.2.1 0 0 0
  simp [sp_up]
theorem a2_two {w : eb_W} {a b : Int32} : ∀ {l : List Nat} {W : eb_W × eb_N}, sp_a2 w W.1 → sp_a2 w (l.foldl (sp_twoStep a b) W).1 ∧ (l.foldl (sp_twoStep a b) W).2 = l.foldl (sp_tstep w a b) W.2 := by
  intro l
  induction l with
  | nil => exact fun h => ⟨h, rfl⟩
  | cons j l ih =>
    intro W h
    have hs : (sp_twoStep a b W j).2 = sp_tstep w a b W.2 j := by
      show sp_put (sp_write (sp_write W.1 a) b) (fun i => (sp_write (sp_write W.1 a) b).2.2.2.1 i 4) j (sp_half W.1 j) (sp_put (sp_write W.1 a) (fun i => (sp_write W.1 a).2.2.2.1 i 4) j (W.1.2.2.2.2 j 1 - sp_half W.1 j) W.2) = _
      have hh : sp_half W.1 j = sp_half w j := by unfold sp_half; rw [h.2.2.1]
      rw [a2_two1 (a2_write h), a2_two1 h, hh, h.2.2.1]
      rfl
    have h2 : sp_a2 w (sp_twoStep a b W j).1 := a2_write (a2_write h)
    have := ih h2
    rw [hs] at this
    exact this
theorem sp_half_m {w : eb_W} (hw : sp_ok w) {j : Nat} (hj : j < w.2.1) : ∃ m k, m ≤ 30 ∧ k ≤ m ∧ w.2.2.2.2 j 1 = nI m ∧ sp_half w j = nI k ∧ w.2.2.2.2 j 1 - sp_half w j = nI (m - k) ∧ (sp_bk (w.2.2.2.2 j 0) = true → nI m / 2 = nI k) ∧ (¬ sp_bk (w.2.2.2.2 j 0) = true → k = 0) := by
  obtain ⟨-, q1, -⟩ := hw.2.2.2.2 j hj
  obtain ⟨m, hm, em⟩ := rg_le 30 (by omega) (by decide) q1
  have hd : nI m / 2 = nI (m / 2) := pk_div (a := m) (d := 2) (by omega) (by omega) (by omega)
  by_cases c : sp_bk (w.2.2.2.2 j 0) = true
  · have e : sp_half w j = nI (m / 2) := by unfold sp_half; rw [if_pos c, em, hd]
    exact ⟨m, m / 2, hm, Nat.div_le_self _ _, em, e, by rw [em, e, nI_sub (Nat.div_le_self _ _)], fun _ => hd, fun z => absurd c z⟩
  · have e : sp_half w j = nI 0 := by unfold sp_half; rw [if_neg c]; rfl
    exact ⟨m, 0, hm, Nat.zero_le _, em, e, by rw [em, e, nI_sub (Nat.zero_le _)], fun z => absurd z c, fun _ => rfl⟩
theorem sp_Nok_tstep {w : eb_W} (hw : sp_ok w) {a b : Int32} {N : eb_N} {j : Nat} (hj : j < w.2.1) (h : sp_Nok (sp_setS w 0 0) N) : sp_Nok (sp_setS w 0 0) (sp_tstep w a b N j) := by
  obtain ⟨m, k, h1, h2, h3, h4, h5, -⟩ := sp_half_m hw hj
  unfold sp_tstep
  rw [h4, ← h4, h5, h4]
  exact sp_Nok_put (sp_Nok_put h hj (by omega)) hj (by omega)
section
variable {L d nc ns r i g t : Nat} {I I' I1 : eb_A → Nat → Int32} {J J1 : eb_A → Nat → Int64} {C : Nat → Nat → Nat} {mt mk : Option Nat} {M : eb_M} {R : eb_A → Nat → Option eb_A} {w : eb_W} {x set a b : Int32} {S : eb_St} {N : eb_N} {said : Nat → Int32}
theorem m_readBook (h : eb_RM I r w) (hw : sp_ok w) : ∃ I', eb_ev L (d + 1) 221 [zr (21, r, 0), zi set] (nc, ns, I, J, eb_RL C mt mk) = some (zn, (nc, ns, I', J, eb_RL C mt mk)) ∧ (∀ a l, ¬ a = (40, r, 0) → I' a l = I a l) ∧ ∀ i, i < w.1 → I' (40, r, 0) i = sp_bsaid w set i := by
  have hn := hw.1
  rw [h221 rfl]
  simp (decide := true) (disch := omega) only [e221_0, e221_1, bi_s, tyX, rl1, rl2, rl4, ↓reduceIte, Option.bind_some, true_and, and_true, false_and, and_false, true_or, or_true, false_or, or_false, if_same0, ite_eq0, ite_eq0', ite_eq1, ite_eq1', or_em, or_em', ite_not, lcmp0, lcmpL, lcmpG, nI_cl_b, eb_in_b, nI_1, nI_pred, Int32.reduceToNatClampNeg, eb_u_ap, Prod.mk.injEq, not_true_eq_false, not_false_eq_true, tyM, rl21, rl25, sp_rg, sp_iI, sp_iG, sp_iS]
  obtain ⟨I1, e, e1, e2⟩ := eb_loop (α := eb_A → Nat → Int32) (n := w.1) (s0 := I)
    (F := fun y s => eb_E L d 221 2 [some (zr (21, r, 0)), some (zi set), some (zi (nI y))] [] (nc, ns, s, J, eb_RL C mt mk))
    (P := fun y s => (∀ a l, ¬ a = (40, r, 0) → s a l = I a l) ∧ ∀ i, i < y → s (40, r, 0) i = sp_bsaid w set i)
    ⟨fun _ _ _ => rfl, fun j hj => absurd hj (Nat.not_lt_zero _)⟩ (by
      intro y I1 hy hP
      obtain ⟨h1, h2⟩ := hP
      have k9 : I1 (21, r, 0) 9 = nI w.1 := (h1 _ _ (by simp)).trans h.1.1
      have k0 : I1 (32, r, y) 0 = w.2.2.2.1 y 0 := (h1 _ _ (by simp)).trans (h.2.1 y hy 0 (by omega))
      have fin : ∀ v, v = sp_bsaid w set y → (∀ a l, ¬ a = (40, r, 0) → eb_u I1 (40, r, 0) y v a l = I a l) ∧ ∀ i, i < y + 1 → eb_u I1 (40, r, 0) y v (40, r, 0) i = sp_bsaid w set i := fun v hv =>
        ⟨fun a l hal => (if_neg (fun z => hal z.1)).trans (h1 a l hal), fun i hi => by
          by_cases q : i = y
          · subst q; rw [eb_u_s]; exact hv
          · exact (if_neg (fun z => q z.2)).trans (h2 i (by omega))⟩
      rw [e221_2]
      by_cases c : sp_bit set y = true
      · simp (decide := true) (disch := omega) only [e221_3, e221_4, e221_7, e221_10, e221_11, e221_14, e221_15, e221_16, e221_17, e221_18, e221_19, e221_20, e221_23, e221_24, e221_27, e221_28, e221_29, e221_30, e221_31, e221_34, e221_35, e221_36, e221_39, e221_42, bi_s, tyX, rl1, rl2, rl4, ↓reduceIte, Option.bind_some, true_and, and_true, false_and, and_false, true_or, or_true, false_or, or_false, if_same0, ite_eq0, ite_eq0', ite_eq1, ite_eq1', or_em, or_em', ite_not, lcmp0, lcmpL, lcmpG, nI_cl_b, eb_in_b, nI_1, nI_pred, Int32.reduceToNatClampNeg, eb_u_ap, Prod.mk.injEq, not_true_eq_false, not_false_eq_true, tyM, rl21, rl25, sp_rg, sp_iI, sp_iG, sp_iS, k9, nI_lt_b, hy, sp_bit0, c, k0]
        exact ⟨eb_u I1 (40, r, 0) y (w.2.2.2.1 y 0), rfl, fin _ (if_pos c).symm⟩
      · have c2 : sp_bit set y = false := by simpa using c
        simp (decide := true) (disch := omega) only [e221_3, e221_4, e221_7, e221_10, e221_11, e221_14, e221_15, e221_16, e221_17, e221_18, e221_19, e221_20, e221_23, e221_24, e221_27, e221_28, e221_29, e221_30, e221_31, e221_34, e221_35, e221_36, e221_39, e221_42, bi_s, tyX, rl1, rl2, rl4, ↓reduceIte, Option.bind_some, true_and, and_true, false_and, and_false, true_or, or_true, false_or, or_false, if_same0, ite_eq0, ite_eq0', ite_eq1, ite_eq1', or_em, or_em', ite_not, lcmp0, lcmpL, lcmpG, nI_cl_b, eb_in_b, nI_1, nI_pred, Int32.reduceToNatClampNeg, eb_u_ap, Prod.mk.injEq, not_true_eq_false, not_false_eq_true, tyM, rl21, rl25, sp_rg, sp_iI, sp_iG, sp_iS, k9, nI_lt_b, hy, sp_bit0, c2, k0]
        exact ⟨eb_u I1 (40, r, 0) y (-1), rfl, fin _ (if_neg c).symm⟩)
  have k9 : I1 (21, r, 0) 9 = nI w.1 := (e1 _ _ (by simp)).trans h.1.1
  simp only [nI_0] at e
  rw [e, e221_2]
  simp (decide := true) (disch := omega) only [e221_3, e221_4, e221_7, e221_10, e221_11, e221_14, e221_15, e221_16, e221_17, e221_18, e221_19, e221_20, e221_23, e221_24, e221_27, e221_28, e221_29, e221_30, e221_31, e221_34, e221_35, e221_36, e221_39, e221_42, bi_s, tyX, rl1, rl2, rl4, ↓reduceIte, Option.bind_some, true_and, and_true, false_and, and_false, true_or, or_true, false_or, or_false, if_same0, ite_eq0, ite_eq0', ite_eq1, ite_eq1', or_em, or_em', ite_not, lcmp0, lcmpL, lcmpG, nI_cl_b, eb_in_b, nI_1, nI_pred, Int32.reduceToNatClampNeg, eb_u_ap, Prod.mk.injEq, not_true_eq_false, not_false_eq_true, tyM, rl21, rl25, sp_rg, sp_iI, sp_iG, sp_iS, k9, nI_lt_b, Nat.lt_irrefl]
  exact ⟨I1, rfl, e1, e2⟩
theorem rb_gn {r : Nat} {I I1 : eb_A → Nat → Int32} (h : ∀ a l, ¬ a = (40, r, 0) → I1 a l = I a l) : eb_gn r I I1 := fun a l hal => h a l (fun z => hal (by rw [z]; exact ⟨rfl, by omega, by omega⟩))
theorem rb_NM {r : Nat} {I I1 : eb_A → Nat → Int32} {said' : Nat → Int32} (hN : eb_NM I r w said N) (h : ∀ a l, ¬ a = (40, r, 0) → I1 a l = I a l) (h2 : ∀ i, i < w.1 → I1 (40, r, 0) i = said' i) : eb_NM I1 r w said' N :=
  ⟨fun i hi => ⟨(h _ _ (by simp)).trans (hN.1 i hi).1, h2 i hi⟩, fun j hj => ⟨fun i hi => (h _ _ (by simp)).trans ((hN.2 j hj).1 i hi), (h _ _ (by simp)).trans (hN.2 j hj).2⟩⟩
/-- a goer comes twice, by one book and by the other -/
theorem m_twice (h : eb_RM I t (sp_setS w 0 0)) (hN : eb_NM I t (sp_setS w 0 0) said N) (hw : sp_ok w) (hNk : sp_Nok (sp_setS w 0 0) N) (hj : g < w.2.1) : ∃ I1 I2 I3 I4, eb_ev L (d + 3) 221 [zr (21, t, 0), zi a] (nc, ns, I, J, eb_RL C mt mk) = some (zn, (nc, ns, I1, J, eb_RL C mt mk)) ∧ eb_ev L (d + 3) 196 [zr (21, t, 0), zi (nI g), zi (w.2.2.2.2 g 1 - sp_half w g)] (nc, ns, I1, J, eb_RL C mt mk) = some (zn, (nc, ns, I2, J, eb_RL C mt mk)) ∧ eb_ev L (d + 3) 221 [zr (21, t, 0), zi b] (nc, ns, I2, J, eb_RL C mt mk) = some (zn, (nc, ns, I3, J, eb_RL C mt mk)) ∧ eb_ev L (d + 3) 196 [zr (21, t, 0), zi (nI g), zi (sp_half w g)] (nc, ns, I3, J, eb_RL C mt mk) = some (zn, (nc, ns, I4, J, eb_RL C mt mk)) ∧ eb_gn t I I1 ∧ eb_gn t I I4 ∧ eb_NM I4 t (sp_setS w 0 0) (sp_bsaid w b) (sp_tstep w a b N g) := by
  have ok1 : sp_ok (sp_setS w 0 0) := ok_setA hw ⟨by decide, by decide⟩
  obtain ⟨m, k, h1, h2, h3, h4, h5, -⟩ := sp_half_m hw hj
  obtain ⟨I1, a1, a2, a3⟩ := m_readBook (L := L) (d := d + 2) (nc := nc) (ns := ns) (J := J) (C := C) (mt := mt) (mk := mk) (set := a) h ok1
  have n1 := rb_NM (said' := sp_bsaid w a) hN a2 a3
  have r1 := eb_gn_RM (rb_gn a2) h
  obtain ⟨I2, b1, b2, b3⟩ := m_comes (L := L) (d := d) (nc := nc) (ns := ns) (J := J) (C := C) (mt := mt) (mk := mk) r1 n1 ok1 hNk hj (m := m - k) (by omega)
  have r2 := eb_gn_RM b2 r1
  obtain ⟨I3, c1, c2, c3⟩ := m_readBook (L := L) (d := d + 2) (nc := nc) (ns := ns) (J := J) (C := C) (mt := mt) (mk := mk) (set := b) r2 ok1
  have n3 := rb_NM (said' := sp_bsaid w b) b3 c2 c3
  have r3 := eb_gn_RM (rb_gn c2) r2
  obtain ⟨I4, d1, d2, d3⟩ := m_comes (L := L) (d := d) (nc := nc) (ns := ns) (J := J) (C := C) (mt := mt) (mk := mk) r3 n3 ok1 (sp_Nok_put hNk hj (by omega)) hj (m := k) (by omega)
  rw [← h5] at b1 d3
  rw [← h4] at d1 d3
  exact ⟨I1, I2, I3, I4, a1, b1, c1, d1, rb_gn a2, eb_gn_tr (eb_gn_tr (eb_gn_tr (rb_gn a2) b2) (rb_gn c2)) d2, d3⟩
end

/-! years keep a valley in its bounds; staying good; letters drawn -/
theorem ok_a : ∀ n, n < 101 → (0 ≤ (if nI n - 6 < 0 then 0 else nI n - 6) ∧ (if nI n - 6 < 0 then 0 else nI n - 6) ≤ 100) ∧ 0 ≤ nI n + 3 := by decide +kernel
theorem ok_b : ∀ n, n < 100 → (0 ≤ (if 99 < nI n + nI n / 4 + 1 then 99 else nI n + nI n / 4 + 1) ∧ (if 99 < nI n + nI n / 4 + 1 then 99 else nI n + nI n / 4 + 1) ≤ 99) ∧ (0 ≤ (if nI n - 1 < 0 then 0 else nI n - 1) ∧ (if nI n - 1 < 0 then 0 else nI n - 1) ≤ 99) ∧ (0 ≤ nI n + 1 ∧ (nI n < 99 → nI n + 1 ≤ 99)) ∧ (0 ≤ (if 99 < nI n + 1 then 99 else nI n + 1) ∧ (if 99 < nI n + 1 then 99 else nI n + 1) ≤ 99) := by decide +kernel
theorem eb_rg {x : Int32} (b : Nat) (h : 0 ≤ x) (h2 : x ≤ nI b) (hb : b ≤ 100000) : ∃ n, n ≤ b ∧ x = nI n := nI_of2 (nI_toInt (by omega)) (Int32.not_lt.mpr h) h2
theorem sp_okI_grow {q : Nat → Int32} {gu : Int32} (h : sp_okI q) : sp_okI (sp_grow q gu) := by
  obtain ⟨h0, h1, h2, h3, h4, h5⟩ := h
  obtain ⟨a, ha, ea⟩ := eb_rg 100 h0.1 h0.2 (by omega)
  obtain ⟨p, hp, ep⟩ := eb_rg 99 h3.1 h3.2 (by omega)
  obtain ⟨l, hl, el⟩ := eb_rg 99 h5.1 h5.2 (by omega)
  have ka := ok_a a (by omega)
  have kp := ok_b p (by omega)
  have kl := ok_b l (by omega)
  rw [← ea] at ka
  rw [← ep] at kp
  rw [← el] at kl
  refine ⟨?_, h1, h2, ?_, h4, ?_⟩
  · show 0 ≤ (if ¬ gu < q 2 then (if q 0 - 6 < 0 then 0 else q 0 - 6) else if 2 * gu < q 2 then (if q 0 < q 1 then (if q 1 < q 0 + 3 then q 1 else q 0 + 3) else q 0) else q 0) ∧ (if ¬ gu < q 2 then (if q 0 - 6 < 0 then 0 else q 0 - 6) else if 2 * gu < q 2 then (if q 0 < q 1 then (if q 1 < q 0 + 3 then q 1 else q 0 + 3) else q 0) else q 0) ≤ 100
    by_cases c1 : ¬ gu < q 2
    · rw [if_pos c1]; exact ka.1
    · rw [if_neg c1]
      by_cases c2 : 2 * gu < q 2
      · rw [if_pos c2]
        by_cases c3 : q 0 < q 1
        · rw [if_pos c3]
          by_cases c4 : q 1 < q 0 + 3
          · rw [if_pos c4]; exact h1
          · rw [if_neg c4]; exact ⟨ka.2, Int32.le_trans (Int32.not_lt.mp c4) h1.2⟩
        · rw [if_neg c3]; exact h0
      · rw [if_neg c2]; exact h0
  · show 0 ≤ (if ¬ gu < q 2 then (if 99 < q 3 + q 3 / 4 + 1 then 99 else q 3 + q 3 / 4 + 1) else if 2 * gu < q 2 then (if q 3 - 1 < 0 then 0 else q 3 - 1) else q 3) ∧ (if ¬ gu < q 2 then (if 99 < q 3 + q 3 / 4 + 1 then 99 else q 3 + q 3 / 4 + 1) else if 2 * gu < q 2 then (if q 3 - 1 < 0 then 0 else q 3 - 1) else q 3) ≤ 99
    by_cases c1 : ¬ gu < q 2
    · rw [if_pos c1]; exact kp.1
    · rw [if_neg c1]
      by_cases c2 : 2 * gu < q 2
      · rw [if_pos c2]; exact kp.2.1
      · rw [if_neg c2]; exact h3
  · show 0 ≤ (if decide (0 < gu ∧ q 5 < 99) = true then q 5 + 1 else q 5) ∧ (if decide (0 < gu ∧ q 5 < 99) = true then q 5 + 1 else q 5) ≤ 99
    by_cases c : decide (0 < gu ∧ q 5 < 99) = true
    · rw [if_pos c]
      exact ⟨kl.2.2.1.1, kl.2.2.1.2 (of_decide_eq_true c).2⟩
    · rw [if_neg c]; exact h5
theorem sp_ok_year {w : eb_W} (h : sp_ok w) : sp_ok (sp_year w) := by
  obtain ⟨h1, h2, h3, h4, h5⟩ := h
  obtain ⟨a, ha, ea⟩ := eb_rg 99 h3.1 h3.2 (by omega)
  have ka := ok_b a (by omega)
  rw [← ea] at ka
  exact ⟨h1, h2, ka.2.2.2, fun i hi => sp_okI_grow (h4 i hi), h5⟩
abbrev sp_at (w : eb_W) (m : Nat) : eb_W := (sp_years w m).2.2.2
theorem sp_ok_at {w : eb_W} (h : sp_ok w) : ∀ m, sp_ok (sp_at w m) := by
  intro m
  induction m with
  | zero => exact h
  | succ m ih => exact sp_ok_year ih
/-- a loop that may end early -/
theorem eb_loopE {α : Type} {F : Nat → α → Option eb_R} {P : Nat → α → Prop} {Q : Option eb_R → Prop} {n : Nat} {s0 : α} (h0 : P 0 s0) (hs : ∀ i s, i < n → P i s → (∃ s', F i s = F (i + 1) s' ∧ P (i + 1) s') ∨ Q (F i s)) (he : ∀ s, P n s → Q (F n s)) : Q (F 0 s0) := by
  have key : ∀ c i, i + c = n → ∀ s, P i s → Q (F i s) := by
    intro c
    induction c with
    | zero =>
      intro i hi s hP
      have hi : i = n := hi
      subst hi
      exact he s hP
    | succ c ih =>
      intro i hi s hP
      rcases hs i s (by omega) hP with ⟨s', e, p⟩ | q
      · rw [e]; exact ih (i + 1) (by omega) s' p
      · exact q
  exact key n 0 (by omega) s0 h0
def sp_stays (w : eb_W) (i : Nat) (g : Int32) : Nat → Bool
  | 0 => true
  | n + 1 => sp_stays w i g n && decide (g ≤ (sp_at w (n + 1)).2.2.2.1 i 0)
theorem sp_stays_mono {w : eb_W} {i : Nat} {g : Int32} : ∀ {c n : Nat}, sp_stays w i g n = false → sp_stays w i g (n + c) = false := by
  intro c
  induction c with
  | zero => exact fun h => h
  | succ c ih => exact fun h => by show (sp_stays w i g (_ + c) && _) = false; rw [ih h, Bool.false_and]
def sp_u16 (s : Int32) : Nat := s.toBitVec.toNat / 65536
theorem sp_u16_lt (s : Int32) : sp_u16 s < 65536 := by
  have := s.toBitVec.isLt
  unfold sp_u16
  omega
theorem eb_u16 (x : Int32) : (x.toUInt32 >>> (Int32.toUInt32 16 &&& Int32.toUInt32 31)).toInt32 = nI (sp_u16 x) := by
  have h := pk_ushr x 16 16 rfl
  have h2 := sp_u16_lt x
  apply Int32.toBitVec_inj.mp
  apply BitVec.eq_of_toNat_eq
  rw [h]
  show sp_u16 x = (BitVec.ofNat 32 (sp_u16 x)).toNat
  rw [BitVec.toNat_ofNat]
  omega
def sp_nx (s : Int32) : Int32 := s * 1103515245 + 12345
def sp_clamp (v : Int32) : Int32 := if v < 0 then 0 else if 100 < v then 100 else v
/-- a letter drawn: the valley, whether one came -/
def sp_post2 (w : eb_W) (s2 : Int32) (i : Nat) (v : Int32) : eb_W × Int32 :=
  if w.2.2.2.1 i 5 < 99 then (sp_setS (sp_setI (sp_setI w i 5 (w.2.2.2.1 i 5 + 1)) i 6 (w.2.2.2.1 i 6 + v)) 2 s2, 1) else (sp_setS w 2 s2, 0)
def sp_post1 (w : eb_W) : eb_W × Int32 := sp_post2 w (sp_nx (sp_nx (w.2.2.1 2))) (sp_u16 (sp_nx (w.2.2.1 2)) % w.1) (sp_clamp (w.2.2.2.1 (sp_u16 (sp_nx (w.2.2.1 2)) % w.1) 0 + nI (sp_u16 (sp_nx (sp_nx (w.2.2.1 2))) % 21) - 10))
section
variable {L d nc ns k i g : Nat} {I : eb_A → Nat → Int32} {J : eb_A → Nat → Int64} {C : Nat → Nat → Nat} {mt mk : Option Nat} {w : eb_W} {R : eb_A → Nat → Option eb_A}
theorem x_draw {m : Nat} (hm : 0 < m) (hm2 : m ≤ 100000) : eb_ev L (d + 1) 66 [zr (4, k, 0), zi (nI m)] (nc, ns, I, J, R) = some (zi (nI (sp_u16 (sp_nx (I (4, k, 0) 6)) % m)), (nc, ns, eb_u I (4, k, 0) 6 (sp_nx (I (4, k, 0) 6)), J, R)) := by
  rw [h66 rfl]
  have h1 : ¬ nI m < 1 := by rw [show (1 : Int32) = nI 1 from rfl, nI_lt_b (by omega) (by omega)]; omega
  have h2 : ¬ nI m = 0 := nI_ne0 hm (by omega)
  have h3 := sp_u16_lt (sp_nx (I (4, k, 0) 6))
  simp (decide := true) (disch := omega) only [e66_0, e66_1, e66_2, e66_5, e66_7, e66_8, e66_11, e66_12, e66_15, e66_16, e66_17, e66_20, e66_21, e66_24, e66_25, e66_28, e66_30, e66_31, e66_32, e66_33, bi_s, tyX, rl1, rl2, rl4, ↓reduceIte, Option.bind_some, true_and, and_true, false_and, and_false, true_or, or_true, false_or, or_false, if_same0, ite_eq0, ite_eq0', ite_eq1, ite_eq1', or_em, or_em', ite_not, lcmp0, lcmpL, lcmpG, nI_cl_b, eb_in_b, nI_1, nI_pred, Int32.reduceToNatClampNeg, eb_u_ap, Prod.mk.injEq, not_true_eq_false, not_false_eq_true, h1, h2]
  rw [show I (4, k, 0) 6 * 1103515245 + 12345 = sp_nx (I (4, k, 0) 6) from rfl, eb_u16, pk_rem (by omega) hm (by omega)]
theorem x_staysGood (h : eb_RX I k w) (hw : sp_ok w) (hi : i < w.1) {m : Nat} (hm : m ≤ 100000) {gg : Int32} : ∃ I' C', eb_ev L (d + 7) 64 [zr (4, k, 0), zi (nI i), zi (nI m), zi gg] (nc, ns, I, J, eb_RL C mt mk) = some (zi (if sp_stays w i gg m = true then 1 else 0), (nc, ns, I', J, eb_RL C' mt mk)) ∧ eb_fr k I I' := by
  have hn := hw.1
  rw [h64 rfl]
  simp (decide := true) (disch := omega) only [e64_0, e64_1, e64_5, e64_6, e64_9, e64_10, e64_11, e64_14a, e64_14b, e64_15, e64_16, e64_19, e64_20, e64_21, e64_24, e64_25, e64_28, e64_29, e64_30, e64_33, e64_36, e64_37, bi_s, tyX, rl1, rl2, rl4, ↓reduceIte, Option.bind_some, true_and, and_true, false_and, and_false, true_or, or_true, false_or, or_false, if_same0, ite_eq0, ite_eq0', ite_eq1, ite_eq1', or_em, or_em', ite_not, lcmp0, lcmpL, lcmpG, nI_cl_b, eb_in_b, nI_1, nI_pred, Int32.reduceToNatClampNeg, eb_u_ap, Prod.mk.injEq, not_true_eq_false, not_false_eq_true]
  have key := eb_loopE (α := (eb_A → Nat → Int32) × (Nat → Nat → Nat)) (n := m) (s0 := (I, C))
    (F := fun y s => eb_E L (d + 6) 64 3 [some (zr (4, k, 0)), some (zi (nI i)), some (zi (nI m)), some (zi gg), some (zi (nI y))] [] (nc, ns, s.1, J, eb_RL s.2 mt mk))
    (P := fun y s => eb_RX s.1 k (sp_at w y) ∧ eb_fr k I s.1 ∧ sp_stays w i gg y = true)
    (Q := fun r => ∃ I' C', r = some (zi (if sp_stays w i gg m = true then 1 else 0), (nc, ns, I', J, eb_RL C' mt mk)) ∧ eb_fr k I I')
    ⟨h, eb_fr_rf, rfl⟩ (by
      intro y s hy hP
      obtain ⟨I1, C1⟩ := s
      obtain ⟨h1, h2, h3⟩ := hP
      have h1 : eb_RX I1 k (sp_at w y) := h1
      have h2 : eb_fr k I I1 := h2
      have hnn := sp_years_n (w := w) (m := y)
      obtain ⟨I2, C2, t1, t2, t3, t4, t5, t6, t7⟩ := x_passYears (L := L) (d := d) (nc := nc) (ns := ns) (J := J) (C := C1) (mt := mt) (mk := mk) h1 (sp_ok_at hw y) (sp_ok_at (sp_ok_at hw y)) (m := 1) (by omega)
      have t3 : eb_RX I2 k (sp_at w (y + 1)) := t3
      have g0 : I2 (6, k, i) 0 = (sp_at w (y + 1)).2.2.2.1 i 0 := t3.2.1 i (by rw [show (sp_at w (y + 1)).1 = w.1 from (sp_years_n (w := w) (m := y + 1)).1]; exact hi) 0 (by omega)
      have t1 : eb_ev L (d + 6) 61 [zr (4, k, 0), zi 1] (nc, ns, I1, J, eb_RL C1 mt mk) = _ := t1
      by_cases c : (sp_at w (y + 1)).2.2.2.1 i 0 < gg
      · right
        have hf : sp_stays w i gg (y + 1) = false := by
          show (_ && decide _) = false
          rw [h3, Bool.true_and]
          exact decide_eq_false (Int32.not_le.mpr c)
        have hf2 : sp_stays w i gg m = false := by
          have := sp_stays_mono (c := m - (y + 1)) hf
          rw [show y + 1 + (m - (y + 1)) = m by omega] at this
          exact this
        rw [e64_3]
        simp (decide := true) (disch := omega) only [e64_0, e64_1, e64_5, e64_6, e64_9, e64_10, e64_11, e64_14a, e64_14b, e64_15, e64_16, e64_19, e64_20, e64_21, e64_24, e64_25, e64_28, e64_29, e64_30, e64_33, e64_36, e64_37, bi_s, tyX, rl1, rl2, rl4, ↓reduceIte, Option.bind_some, true_and, and_true, false_and, and_false, true_or, or_true, false_or, or_false, if_same0, ite_eq0, ite_eq0', ite_eq1, ite_eq1', or_em, or_em', ite_not, lcmp0, lcmpL, lcmpG, nI_cl_b, eb_in_b, nI_1, nI_pred, Int32.reduceToNatClampNeg, eb_u_ap, Prod.mk.injEq, not_true_eq_false, not_false_eq_true, nI_lt_b, hy, t1, g0, c, hf2]
        exact ⟨I2, C2, rfl, eb_fr_tr h2 t2⟩
      · left
        refine ⟨(I2, C2), ?_, t3, eb_fr_tr h2 t2, ?_⟩
        · show eb_E L (d + 6) _ _ _ _ _ = eb_E L (d + 6) _ _ _ _ _
          rw [e64_3]
          simp (decide := true) (disch := omega) only [e64_0, e64_1, e64_5, e64_6, e64_9, e64_10, e64_11, e64_14a, e64_14b, e64_15, e64_16, e64_19, e64_20, e64_21, e64_24, e64_25, e64_28, e64_29, e64_30, e64_33, e64_36, e64_37, bi_s, tyX, rl1, rl2, rl4, ↓reduceIte, Option.bind_some, true_and, and_true, false_and, and_false, true_or, or_true, false_or, or_false, if_same0, ite_eq0, ite_eq0', ite_eq1, ite_eq1', or_em, or_em', ite_not, lcmp0, lcmpL, lcmpG, nI_cl_b, eb_in_b, nI_1, nI_pred, Int32.reduceToNatClampNeg, eb_u_ap, Prod.mk.injEq, not_true_eq_false, not_false_eq_true, nI_lt_b, hy, t1, g0, c]
        · show (_ && decide _) = true
          rw [h3, Bool.true_and]
          exact decide_eq_true (Int32.not_lt.mp c)) (by
      intro s hP
      obtain ⟨I1, C1⟩ := s
      obtain ⟨h1, h2, h3⟩ := hP
      refine ⟨I1, C1, ?_, h2⟩
      show eb_E L (d + 6) _ _ _ _ _ = _
      rw [e64_3]
      simp (decide := true) (disch := omega) only [e64_0, e64_1, e64_5, e64_6, e64_9, e64_10, e64_11, e64_14a, e64_14b, e64_15, e64_16, e64_19, e64_20, e64_21, e64_24, e64_25, e64_28, e64_29, e64_30, e64_33, e64_36, e64_37, bi_s, tyX, rl1, rl2, rl4, ↓reduceIte, Option.bind_some, true_and, and_true, false_and, and_false, true_or, or_true, false_or, or_false, if_same0, ite_eq0, ite_eq0', ite_eq1, ite_eq1', or_em, or_em', ite_not, lcmp0, lcmpL, lcmpG, nI_cl_b, eb_in_b, nI_1, nI_pred, Int32.reduceToNatClampNeg, eb_u_ap, Prod.mk.injEq, not_true_eq_false, not_false_eq_true, nI_lt_b, Nat.lt_irrefl, h3])
  simp only [nI_0] at key
  exact key
theorem sp_clamp_b {v : Int32} : (if 0 < (if v < 100 then v else 100) then (if v < 100 then v else 100) else 0) = sp_clamp v := by
  rw [max0]
  unfold sp_clamp
  by_cases c : v < 0
  · have c2 : v < 100 := Int32.lt_trans c (by decide)
    simp only [c, c2, if_true]
  · by_cases c2 : 100 < v
    · have c3 : ¬ v < 100 := Int32.lt_asymm c2
      simp (decide := true) only [c, c2, c3, if_true, if_false]
    · by_cases c3 : v < 100
      · simp only [c, c2, c3, if_true, if_false]
      · have : v = 100 := Int32.le_antisymm (Int32.not_lt.mp c2) (Int32.not_lt.mp c3)
        subst this
        decide
theorem x_drawLetter (h : eb_RX I k w) (hw : sp_ok w) (hw0 : 0 < w.1) : ∃ I', eb_ev L (d + 3) 65 [zr (4, k, 0)] (nc, ns, I, J, eb_RL C mt mk) = some (zi (sp_post1 w).2, (nc, ns, I', J, eb_RL C mt mk)) ∧ eb_RX I' k (sp_post1 w).1 ∧ eb_fr k I I' := by
  have hn := hw.1
  rw [h65 rfl]
  have hi : sp_u16 (sp_nx (w.2.2.1 2)) % w.1 < w.1 := Nat.mod_lt _ hw0
  have hd1 := x_draw (L := L) (d := d + 1) (nc := nc) (ns := ns) (I := I) (J := J) (R := eb_RL C mt mk) (k := k) hw0 (by omega)
  rw [h.1.2.2.2.2] at hd1
  have hd2 := x_draw (L := L) (d := d + 1) (nc := nc) (ns := ns) (I := eb_u I (4, k, 0) 6 (sp_nx (w.2.2.1 2))) (J := J) (R := eb_RL C mt mk) (k := k) (m := 21) (by omega) (by omega)
  rw [eb_u_s] at hd2
  have hd2 : eb_ev L (d + 2) 66 [zr (4, k, 0), zi 21] (nc, ns, eb_u I (4, k, 0) 6 (sp_nx (w.2.2.1 2)), J, eb_RL C mt mk) = _ := hd2
  have g0 := h.2.1 _ hi 0 (by omega)
  have g5 := h.2.1 _ hi 5 (by omega)
  have g6 := h.2.1 _ hi 6 (by omega)
  unfold sp_post1
  generalize sp_u16 (sp_nx (w.2.2.1 2)) % w.1 = i at hi hd1 g0 g5 g6
  generalize sp_nx (w.2.2.1 2) = s1 at hd1 hd2
  generalize sp_nx s1 = s2 at hd2
  unfold sp_post2
  by_cases c : w.2.2.2.1 i 5 < 99
  · simp (decide := true) (disch := omega) only [e65_0, e65_1, e65_2, e65_5, e65_8, e65_9, e65_10, e65_13, e65_14, e65_15, e65_18, e65_19, e65_21, e65_24, e65_25, e65_27, e65_28, e65_29, e65_30, e65_33, e65_34, e65_35, e65_36, e65_38, e65_39, e65_42, e65_45, e65_48, bi_s, tyX, rl1, rl2, rl4, ↓reduceIte, Option.bind_some, true_and, and_true, false_and, and_false, true_or, or_true, false_or, or_false, if_same0, ite_eq0, ite_eq0', ite_eq1, ite_eq1', or_em, or_em', ite_not, lcmp0, lcmpL, lcmpG, nI_cl_b, eb_in_b, nI_1, nI_pred, Int32.reduceToNatClampNeg, eb_u_ap, Prod.mk.injEq, not_true_eq_false, not_false_eq_true, h.1.1, hd1, hd2, g0, sp_clamp_b, x_receive, g5, c, g6, if_true, if_false]
    refine ⟨_, rfl, ⟨⟨?_, ?_, ?_, ?_, ?_⟩, fun j hj f hf => ?_, fun j hj f hf => ?_⟩, ?_⟩
    · simp [eb_u, sp_setS, sp_setI, h.1.1]
    · simp [eb_u, sp_setS, sp_setI, h.1.2.1]
    · simp [eb_u, sp_setS, sp_setI, sp_up, h.1.2.2.1]
    · simp [eb_u, sp_setS, sp_setI, sp_up, h.1.2.2.2.1]
    · simp [eb_u, sp_setS, sp_setI, sp_up]
    · have hj : j < w.1 := hj
      by_cases e : j = i
      · subst e
        rcases (show f = 0 ∨ f = 1 ∨ f = 2 ∨ f = 3 ∨ f = 4 ∨ f = 5 ∨ f = 6 by omega) with rfl | rfl | rfl | rfl | rfl | rfl | rfl <;> simp [eb_u, sp_setS, sp_setI, sp_up, h.2.1 j hj, g5, g6]
      · simp [eb_u, sp_setS, sp_setI, sp_up, e, h.2.1 j hj f hf]
    · simp [eb_u, sp_setS, sp_setI, h.2.2 j hj f hf]
    · (repeat (first | exact eb_fr_rf | exact eb_fr_u ⟨rfl, Nat.le_of_ble_eq_true rfl, Nat.le_of_ble_eq_true rfl⟩ | refine eb_fr_tr ?_ (eb_fr_u ⟨rfl, Nat.le_of_ble_eq_true rfl, Nat.le_of_ble_eq_true rfl⟩)))
  · simp (decide := true) (disch := omega) only [e65_0, e65_1, e65_2, e65_5, e65_8, e65_9, e65_10, e65_13, e65_14, e65_15, e65_18, e65_19, e65_21, e65_24, e65_25, e65_27, e65_28, e65_29, e65_30, e65_33, e65_34, e65_35, e65_36, e65_38, e65_39, e65_42, e65_45, e65_48, bi_s, tyX, rl1, rl2, rl4, ↓reduceIte, Option.bind_some, true_and, and_true, false_and, and_false, true_or, or_true, false_or, or_false, if_same0, ite_eq0, ite_eq0', ite_eq1, ite_eq1', or_em, or_em', ite_not, lcmp0, lcmpL, lcmpG, nI_cl_b, eb_in_b, nI_1, nI_pred, Int32.reduceToNatClampNeg, eb_u_ap, Prod.mk.injEq, not_true_eq_false, not_false_eq_true, h.1.1, hd1, hd2, g0, sp_clamp_b, x_receive, g5, c, g6, if_true, if_false]
    refine ⟨_, rfl, ⟨⟨?_, ?_, ?_, ?_, ?_⟩, fun j hj f hf => ?_, fun j hj f hf => ?_⟩, ?_⟩
    · simp [eb_u, sp_setS, h.1.1]
    · simp [eb_u, sp_setS, h.1.2.1]
    · simp [eb_u, sp_setS, sp_up, h.1.2.2.1]
    · simp [eb_u, sp_setS, sp_up, h.1.2.2.2.1]
    · simp [eb_u, sp_setS, sp_up]
    · have hj : j < w.1 := hj
      simp [eb_u, sp_setS, h.2.1 j hj f hf]
    · simp [eb_u, sp_setS, h.2.2 j hj f hf]
    · (repeat (first | exact eb_fr_rf | exact eb_fr_u ⟨rfl, Nat.le_of_ble_eq_true rfl, Nat.le_of_ble_eq_true rfl⟩ | refine eb_fr_tr ?_ (eb_fr_u ⟨rfl, Nat.le_of_ble_eq_true rfl, Nat.le_of_ble_eq_true rfl⟩)))
end

/-! the class's faces: books, rounds, judging -/
theorem nI_mul (a b : Nat) : nI a * nI b = nI (a * b) := (Int32.ofNat_mul a b).symm
theorem nI_sub {a b : Nat} (h : b ≤ a) : nI a - nI b = nI (a - b) := by
  have : nI a = nI (a - b) + nI b := by rw [nI_add, Nat.sub_add_cancel h]
  rw [this, Int32.add_sub_cancel]
theorem sp_pop_lt : ∀ s, s < 64 → sp_pop s ≤ 6 := by decide +kernel
theorem pow_pos7 {b m : Nat} (hb : 0 < b) : 0 < b ^ m := Nat.pow_pos hb
theorem pow_small {b m : Nat} (hb : b ≤ 7) (hm : m ≤ 3) : b ^ m ≤ 343 := by
  rcases (show m = 0 ∨ m = 1 ∨ m = 2 ∨ m = 3 by omega) with rfl | rfl | rfl | rfl
  · simp
  · simp; omega
  · rcases (show b = 0 ∨ b = 1 ∨ b = 2 ∨ b = 3 ∨ b = 4 ∨ b = 5 ∨ b = 6 ∨ b = 7 by omega) with rfl | rfl | rfl | rfl | rfl | rfl | rfl | rfl <;> decide
  · rcases (show b = 0 ∨ b = 1 ∨ b = 2 ∨ b = 3 ∨ b = 4 ∨ b = 5 ∨ b = 6 ∨ b = 7 by omega) with rfl | rfl | rfl | rfl | rfl | rfl | rfl | rfl <;> decide
theorem sp_ok_ahead {w : eb_W} {c : Nat} (h : sp_ok w) (hc : c ≤ w.1) : sp_ok (sp_ahead w c) := by
  unfold sp_ahead
  by_cases q : c = 0
  · rw [if_pos q]; exact h
  · rw [if_neg q]
    obtain ⟨q0, -⟩ := h.2.2.2.1 (c - 1) (by omega)
    exact ok_setI h (fun z => okI_4 z ⟨Int32.le_trans (by decide) q0.1, q0.2⟩)
theorem sp_ahead_n {w : eb_W} {c : Nat} : (sp_ahead w c).1 = w.1 ∧ (sp_ahead w c).2.1 = w.2.1 := by
  unfold sp_ahead
  split <;> exact ⟨rfl, rfl⟩
theorem sp_dig_lt {b n row y : Nat} (hb : 0 < b) : sp_dig b n row y < b := Nat.mod_lt _ hb
theorem sp_rnd_ok {w : eb_W} {ds : Nat → Nat} (h : sp_ok w) (hd : ∀ y, ds y ≤ w.1) : ∀ y, sp_ok (sp_rnd w ds y).2 ∧ (sp_rnd w ds y).2.1 = w.1 ∧ (sp_rnd w ds y).2.2.1 = w.2.1 := by
  intro y
  induction y with
  | zero => exact ⟨h, rfl, rfl⟩
  | succ y ih =>
    obtain ⟨i1, i2, i3⟩ := ih
    have ha := sp_ahead_n (w := (sp_rnd w ds y).2) (c := ds y)
    exact ⟨sp_ok_at (sp_ok_ahead i1 (by rw [i2]; exact hd y)) 1, ha.1.trans i2, ha.2.trans i3⟩
section
variable {L d nc ns k i g : Nat} {I : eb_A → Nat → Int32} {J : eb_A → Nat → Int64} {C : Nat → Nat → Nat} {mt mk : Option Nat} {w : eb_W} {R : eb_A → Nat → Option eb_A} {S : eb_St} {M : eb_M}
set_option maxRecDepth 4000 in
theorem x_bitCount {s : Nat} (hs : s < 64) : eb_ev L (d + 1) 252 [zi (nI s)] M = some (zi (nI (sp_pop s)), M) := by
  rw [h252]
  simp only [e252_0, e252_1, e252_2, e252_3, e252_4, e252_7, e252_8, e252_9, e252_10, e252_11, e252_14, e252_15, e252_16, e252_17, e252_18, e252_21, e252_22, e252_23, e252_24, e252_25, e252_26, e252_27, e252_28, e252_29, e252_32, e252_33, e252_34, e252_35, e252_36, e252_38, e252_39, e252_40, e252_41, e252_42, e252_43, e252_45, e252_46, e252_47, e252_48, e252_49, e252_51, e252_52, bi_s, tyX, rl1, rl2, rl4, ↓reduceIte, Option.bind_some, true_and, and_true, false_and, and_false, true_or, or_true, false_or, or_false, if_same0, ite_eq0, ite_eq0', ite_eq1, ite_eq1', or_em, or_em', ite_not, lcmp0, lcmpL, lcmpG, nI_cl_b, eb_in_b, nI_1, nI_pred, Int32.reduceToNatClampNeg, eb_u_ap, Prod.mk.injEq, not_true_eq_false, not_false_eq_true]
  have key : ∀ s, s < 64 → (fun x0 : Int32 => (fun x1 : Int32 => (fun x2 : Int32 => (fun x3 : Int32 => (fun x4 : Int32 => x4 &&& 63) (x3 + (x3.toUInt32 >>> (Int32.toUInt32 16 &&& Int32.toUInt32 31)).toInt32)) (x2 + (x2.toUInt32 >>> (Int32.toUInt32 8 &&& Int32.toUInt32 31)).toInt32)) ((x1 + (x1.toUInt32 >>> (Int32.toUInt32 4 &&& Int32.toUInt32 31)).toInt32) &&& 252645135)) ((x0 &&& 858993459) + ((x0.toUInt32 >>> (Int32.toUInt32 2 &&& Int32.toUInt32 31)).toInt32 &&& 858993459))) (nI s - (((nI s).toUInt32 >>> (Int32.toUInt32 1 &&& Int32.toUInt32 31)).toInt32 &&& 1431655765)) = nI (sp_pop s) := by decide +kernel
  exact congrArg (fun z => some (zi z, M)) (key s hs)
theorem x_joyIfWritten (h : eb_RX I 0 w) (hw : sp_ok w) {m s : Nat} (hm : m ≤ 100000) : ∃ I' C', eb_ev L (d + 7) 139 [zr (1, 0, 0), zi (nI m), zi (nI s)] (nc, ns, I, J, eb_RL C mt mk) = some (zi (sp_jw w m s), (nc, ns, I', J, eb_RL C' mt mk)) ∧ eb_fr 1 I I' := by
  obtain ⟨I1, a1, a2, a3⟩ := x_think (L := L) (d := d + 3) (nc := nc) (ns := ns) (J := J) (C := C) (mt := mt) (mk := mk) h hw
  obtain ⟨I4, a4, a5, a6⟩ := x_writeBook (L := L) (d := d + 5) (nc := nc) (ns := ns) (J := J) (C := C) (mt := mt) (mk := mk) a3 hw (set := nI s)
  have ok1 := sp_ok_write (set := nI s) hw
  obtain ⟨I2, C2, t1, t2, t3, t4, t5, t6, t7⟩ := x_passYears (L := L) (d := d) (nc := nc) (ns := ns) (J := J) (C := C) (mt := mt) (mk := mk) a5 ok1 (sp_ok_at ok1) hm
  rw [h139 rfl]
  simp (decide := true) (disch := omega) only [e139_0, e139_1, e139_4, e139_5, e139_8a, e139_8b, e139_9, e139_10, e139_13, e139_14, e139_17, bi_s, tyX, rl1, rl2, rl4, ↓reduceIte, Option.bind_some, true_and, and_true, false_and, and_false, true_or, or_true, false_or, or_false, if_same0, ite_eq0, ite_eq0', ite_eq1, ite_eq1', or_em, or_em', ite_not, lcmp0, lcmpL, lcmpG, nI_cl_b, eb_in_b, nI_1, nI_pred, Int32.reduceToNatClampNeg, eb_u_ap, Prod.mk.injEq, not_true_eq_false, not_false_eq_true, sp_rg, sp_iI, sp_iG, sp_iS, a1, a4, t1]
  exact ⟨I2, C2, rfl, eb_fr_tr (eb_fr_tr a2 (eb_wb_fr a6)) t2⟩
theorem sp_best_s {has : Nat → Bool} {f : Nat → Int32} {n : Nat} : sp_best has f (n + 1) = match sp_best has f n with | none => if has n = true then some n else none | some b => if has n = true ∧ f b < f n then some n else some b := rfl
theorem x_bestBook0 (h : eb_RX I 0 w) (hw : sp_ok w) {m kk : Nat} (hm : m ≤ 100000) (hk : kk ≤ 6) : ∃ I' C', eb_ev L (d + 8) 140 [zr (1, 0, 0), zi (nI m), zi (nI kk), zi 0] (nc, ns, I, J, eb_RL C mt mk) = some (zi (sp_enc (sp_book w m kk)), (nc, ns, I', J, eb_RL C' mt mk)) ∧ eb_fr 1 I I' := by
  have hn := hw.1
  have h6 := shl6 w.1 (by omega)
  have hp : 0 < 2 ^ w.1 := Nat.pow_pos (by omega)
  rw [h140 rfl]
  obtain ⟨I0, C0, a1, a2⟩ := x_joyIfWritten (L := L) (d := d) (nc := nc) (ns := ns) (J := J) (C := C) (mt := mt) (mk := mk) h hw (m := m) (s := 0) hm
  rw [nI_0] at a1
  have g2 : I0 (4, 0, 0) 2 = nI w.1 := by rw [a2 _ _ (by simp)]; exact h.1.1
  simp (decide := true) (disch := omega) only [e140_0, e140_1, e140_3, e140_4, e140_5, e140_6, e140_9, e140_11, e140_12, e140_13, e140_16, e140_19, e140_20, e140_22, e140_23, e140_27, e140_29, e140_32, e140_34, e140_37, e140_39, e140_41, e140_42, e140_45, e140_48, e140_49, e140_50, e140_52, e140_55, e140_57, e140_58, e140_61, e140_63, e140_65, e140_68, e140_71, e140_72, e140_75, e140_76, e140_78, e140_80, e140_82, e140_85, e140_87, e140_89, e140_92, e140_94, e140_97, e140_99, e140_101, e140_103, e140_105, e140_108, e140_111, e140_113, bi_s, tyX, rl1, rl2, rl4, ↓reduceIte, Option.bind_some, true_and, and_true, false_and, and_false, true_or, or_true, false_or, or_false, if_same0, ite_eq0, ite_eq0', ite_eq1, ite_eq1', or_em, or_em', ite_not, lcmp0, lcmpL, lcmpG, nI_cl_b, eb_in_b, nI_1, nI_pred, Int32.reduceToNatClampNeg, eb_u_ap, Prod.mk.injEq, not_true_eq_false, not_false_eq_true, sp_rg, sp_iI, sp_iG, sp_iS, a1, g2, h6.1]
  unfold sp_book
  generalize hq : (fun s => decide (sp_pop s ≤ kk)) = q
  have hq0 : ∀ s, q s = decide (sp_pop s ≤ kk) := fun s => by rw [← hq]
  obtain ⟨t, e, e1, e2⟩ := eb_loop (α := Int32 × Int32 × Option eb_V × Option eb_V × Option eb_V × (eb_A → Nat → Int32) × (Nat → Nat → Nat)) (n := 2 ^ w.1 - 1) (s0 := (0, sp_jw w m 0, none, none, none, I0, C0))
    (F := fun y s => eb_E L (d + 7) 140 25 [some (zr (1, 0, 0)), some (zi (nI m)), some (zi (nI kk)), some (zi 0), some (zi s.1), some (zi s.2.1), some (zi (nI (2 ^ w.1))), some (zi (nI (y + 1))), s.2.2.1, s.2.2.2.1, s.2.2.2.2.1] [] (nc, ns, s.2.2.2.2.2.1, J, eb_RL s.2.2.2.2.2.2 mt mk))
    (P := fun y s => (∃ b, sp_best q (sp_jw w m) (y + 1) = some b ∧ s.1 = nI b ∧ s.2.1 = sp_jw w m b) ∧ eb_fr 1 I s.2.2.2.2.2.1)
    ⟨⟨0, by rw [sp_best_s]; show (if q 0 = true then some 0 else none) = _; rw [hq0]; simp [sp_pop], rfl, rfl⟩, a2⟩ (by
      intro y s hy hP
      obtain ⟨s1, s2, s3, s4, s5, I1, C1⟩ := s
      obtain ⟨⟨b, h1, h2, h3⟩, h4⟩ := hP
      have h2 : s1 = nI b := h2
      have h3 : s2 = sp_jw w m b := h3
      have h4 : eb_fr 1 I I1 := h4
      have hb : (nI (y + 1) < nI (2 ^ w.1)) = True := by rw [nI_lt_b (by omega) (by omega)]; simp; omega
      have hbc := x_bitCount (L := L) (d := d + 6) (M := (nc, ns, I1, J, eb_RL C1 mt mk)) (s := y + 1) (by omega)
      have hpl := sp_pop_lt (y + 1) (by omega)
      have hbest := sp_best_s (has := q) (f := sp_jw w m) (n := y + 1)
      rw [h1, hq0] at hbest
      simp only [decide_eq_true_eq] at hbest
      rw [e140_25]
      by_cases c : sp_pop (y + 1) ≤ kk
      · have c1 : (nI kk < nI (sp_pop (y + 1))) = False := by rw [nI_lt_b (by omega) (by omega)]; simp; omega
        obtain ⟨I2, C2, b1, b2⟩ := x_joyIfWritten (L := L) (d := d) (nc := nc) (ns := ns) (J := J) (C := C1) (mt := mt) (mk := mk) (eb_RX_fr h h4 (by decide)) hw (m := m) (s := y + 1) hm
        by_cases c2 : sp_jw w m b < sp_jw w m (y + 1)
        · rw [if_pos ⟨c, c2⟩] at hbest
          simp (decide := true) (disch := omega) only [e140_0, e140_1, e140_3, e140_4, e140_5, e140_6, e140_9, e140_11, e140_12, e140_13, e140_16, e140_19, e140_20, e140_22, e140_23, e140_27, e140_29, e140_32, e140_34, e140_37, e140_39, e140_41, e140_42, e140_45, e140_48, e140_49, e140_50, e140_52, e140_55, e140_57, e140_58, e140_61, e140_63, e140_65, e140_68, e140_71, e140_72, e140_75, e140_76, e140_78, e140_80, e140_82, e140_85, e140_87, e140_89, e140_92, e140_94, e140_97, e140_99, e140_101, e140_103, e140_105, e140_108, e140_111, e140_113, bi_s, tyX, rl1, rl2, rl4, ↓reduceIte, Option.bind_some, true_and, and_true, false_and, and_false, true_or, or_true, false_or, or_false, if_same0, ite_eq0, ite_eq0', ite_eq1, ite_eq1', or_em, or_em', ite_not, lcmp0, lcmpL, lcmpG, nI_cl_b, eb_in_b, nI_1, nI_pred, Int32.reduceToNatClampNeg, eb_u_ap, Prod.mk.injEq, not_true_eq_false, not_false_eq_true, sp_rg, sp_iI, sp_iG, sp_iS, hb, hbc, c1, b1, h3, c2]
          exact ⟨(nI (y + 1), sp_jw w m (y + 1), _, _, _, I2, C2), rfl, ⟨y + 1, hbest, rfl, rfl⟩, eb_fr_tr h4 b2⟩
        · rw [if_neg (fun z => c2 z.2)] at hbest
          by_cases c3 : sp_jw w m (y + 1) = sp_jw w m b
          · simp (decide := true) (disch := omega) only [e140_0, e140_1, e140_3, e140_4, e140_5, e140_6, e140_9, e140_11, e140_12, e140_13, e140_16, e140_19, e140_20, e140_22, e140_23, e140_27, e140_29, e140_32, e140_34, e140_37, e140_39, e140_41, e140_42, e140_45, e140_48, e140_49, e140_50, e140_52, e140_55, e140_57, e140_58, e140_61, e140_63, e140_65, e140_68, e140_71, e140_72, e140_75, e140_76, e140_78, e140_80, e140_82, e140_85, e140_87, e140_89, e140_92, e140_94, e140_97, e140_99, e140_101, e140_103, e140_105, e140_108, e140_111, e140_113, bi_s, tyX, rl1, rl2, rl4, ↓reduceIte, Option.bind_some, true_and, and_true, false_and, and_false, true_or, or_true, false_or, or_false, if_same0, ite_eq0, ite_eq0', ite_eq1, ite_eq1', or_em, or_em', ite_not, lcmp0, lcmpL, lcmpG, nI_cl_b, eb_in_b, nI_1, nI_pred, Int32.reduceToNatClampNeg, eb_u_ap, Prod.mk.injEq, not_true_eq_false, not_false_eq_true, sp_rg, sp_iI, sp_iG, sp_iS, hb, hbc, c1, b1, h3, c3]
            have c4 : ¬ sp_jw w m b < sp_jw w m b := Int32.lt_irrefl
            simp only [c4, bi_s, tyX, rl1, rl2, rl4, ↓reduceIte, Option.bind_some, true_and, and_true, false_and, and_false, true_or, or_true, false_or, or_false, if_same0, ite_eq0, ite_eq0', ite_eq1, ite_eq1', or_em, or_em', ite_not, lcmp0, lcmpL, lcmpG, nI_cl_b, eb_in_b, nI_1, nI_pred, Int32.reduceToNatClampNeg, eb_u_ap, Prod.mk.injEq, not_true_eq_false, not_false_eq_true]
            exact ⟨(s1, sp_jw w m b, _, _, _, I2, C2), rfl, ⟨b, hbest, h2, rfl⟩, eb_fr_tr h4 b2⟩
          · simp (decide := true) (disch := omega) only [e140_0, e140_1, e140_3, e140_4, e140_5, e140_6, e140_9, e140_11, e140_12, e140_13, e140_16, e140_19, e140_20, e140_22, e140_23, e140_27, e140_29, e140_32, e140_34, e140_37, e140_39, e140_41, e140_42, e140_45, e140_48, e140_49, e140_50, e140_52, e140_55, e140_57, e140_58, e140_61, e140_63, e140_65, e140_68, e140_71, e140_72, e140_75, e140_76, e140_78, e140_80, e140_82, e140_85, e140_87, e140_89, e140_92, e140_94, e140_97, e140_99, e140_101, e140_103, e140_105, e140_108, e140_111, e140_113, bi_s, tyX, rl1, rl2, rl4, ↓reduceIte, Option.bind_some, true_and, and_true, false_and, and_false, true_or, or_true, false_or, or_false, if_same0, ite_eq0, ite_eq0', ite_eq1, ite_eq1', or_em, or_em', ite_not, lcmp0, lcmpL, lcmpG, nI_cl_b, eb_in_b, nI_1, nI_pred, Int32.reduceToNatClampNeg, eb_u_ap, Prod.mk.injEq, not_true_eq_false, not_false_eq_true, sp_rg, sp_iI, sp_iG, sp_iS, hb, hbc, c1, b1, h3, c2, c3]
            exact ⟨(s1, sp_jw w m b, _, _, _, I2, C2), rfl, ⟨b, hbest, h2, rfl⟩, eb_fr_tr h4 b2⟩
      · have c1 : (nI kk < nI (sp_pop (y + 1))) = True := by rw [nI_lt_b (by omega) (by omega)]; simp; omega
        rw [if_neg (fun z => c z.1)] at hbest
        simp (decide := true) (disch := omega) only [e140_0, e140_1, e140_3, e140_4, e140_5, e140_6, e140_9, e140_11, e140_12, e140_13, e140_16, e140_19, e140_20, e140_22, e140_23, e140_27, e140_29, e140_32, e140_34, e140_37, e140_39, e140_41, e140_42, e140_45, e140_48, e140_49, e140_50, e140_52, e140_55, e140_57, e140_58, e140_61, e140_63, e140_65, e140_68, e140_71, e140_72, e140_75, e140_76, e140_78, e140_80, e140_82, e140_85, e140_87, e140_89, e140_92, e140_94, e140_97, e140_99, e140_101, e140_103, e140_105, e140_108, e140_111, e140_113, bi_s, tyX, rl1, rl2, rl4, ↓reduceIte, Option.bind_some, true_and, and_true, false_and, and_false, true_or, or_true, false_or, or_false, if_same0, ite_eq0, ite_eq0', ite_eq1, ite_eq1', or_em, or_em', ite_not, lcmp0, lcmpL, lcmpG, nI_cl_b, eb_in_b, nI_1, nI_pred, Int32.reduceToNatClampNeg, eb_u_ap, Prod.mk.injEq, not_true_eq_false, not_false_eq_true, sp_rg, sp_iI, sp_iG, sp_iS, hb, hbc, c1]
        exact ⟨(s1, s2, _, s4, s5, I1, C1), rfl, ⟨b, hbest, h2, h3⟩, h4⟩)
  obtain ⟨s1, s2, s3, s4, s5, I1, C1⟩ := t
  obtain ⟨b, h1, h2, h3⟩ := e1
  have h2 : s1 = nI b := h2
  rw [show 2 ^ w.1 - 1 + 1 = 2 ^ w.1 by omega] at h1
  have hb : (nI (2 ^ w.1 - 1 + 1) < nI (2 ^ w.1)) = False := by rw [nI_lt_b (by omega) (by omega)]; simp; omega
  rw [show ((1 : Int32)) = nI (0 + 1) from rfl, e, e140_25]
  simp (decide := true) (disch := omega) only [e140_0, e140_1, e140_3, e140_4, e140_5, e140_6, e140_9, e140_11, e140_12, e140_13, e140_16, e140_19, e140_20, e140_22, e140_23, e140_27, e140_29, e140_32, e140_34, e140_37, e140_39, e140_41, e140_42, e140_45, e140_48, e140_49, e140_50, e140_52, e140_55, e140_57, e140_58, e140_61, e140_63, e140_65, e140_68, e140_71, e140_72, e140_75, e140_76, e140_78, e140_80, e140_82, e140_85, e140_87, e140_89, e140_92, e140_94, e140_97, e140_99, e140_101, e140_103, e140_105, e140_108, e140_111, e140_113, bi_s, tyX, rl1, rl2, rl4, ↓reduceIte, Option.bind_some, true_and, and_true, false_and, and_false, true_or, or_true, false_or, or_false, if_same0, ite_eq0, ite_eq0', ite_eq1, ite_eq1', or_em, or_em', ite_not, lcmp0, lcmpL, lcmpG, nI_cl_b, eb_in_b, nI_1, nI_pred, Int32.reduceToNatClampNeg, eb_u_ap, Prod.mk.injEq, not_true_eq_false, not_false_eq_true, sp_rg, sp_iI, sp_iG, sp_iS, hb]
  exact ⟨I1, C1, by rw [h1, h2]; rfl, e2⟩
/-- the greatest joy, with the fewest inns -/
theorem x_bestBook1 (h : eb_RX I 0 w) (hw : sp_ok w) {m : Nat} (hm : m ≤ 100000) : ∃ b I' C', eb_ev L (d + 8) 140 [zr (1, 0, 0), zi (nI m), zi 6, zi 1] (nc, ns, I, J, eb_RL C mt mk) = some (zi (nI b), (nc, ns, I', J, eb_RL C' mt mk)) ∧ eb_fr 1 I I' ∧ b < 2 ^ w.1 ∧ (∀ t, t < 2 ^ w.1 → sp_jw w m t ≤ sp_jw w m b) ∧ ∀ t, t < 2 ^ w.1 → sp_jw w m t = sp_jw w m b → sp_pop b ≤ sp_pop t := by
  have hn := hw.1
  have h6 := shl6 w.1 (by omega)
  have hp : 0 < 2 ^ w.1 := Nat.pow_pos (by omega)
  rw [h140 rfl]
  obtain ⟨I0, C0, a1, a2⟩ := x_joyIfWritten (L := L) (d := d) (nc := nc) (ns := ns) (J := J) (C := C) (mt := mt) (mk := mk) h hw (m := m) (s := 0) hm
  rw [nI_0] at a1
  have g2 : I0 (4, 0, 0) 2 = nI w.1 := by rw [a2 _ _ (by simp)]; exact h.1.1
  simp (decide := true) (disch := omega) only [e140_0, e140_1, e140_3, e140_4, e140_5, e140_6, e140_9, e140_11, e140_12, e140_13, e140_16, e140_19, e140_20, e140_22, e140_23, e140_27, e140_29, e140_32, e140_34, e140_37, e140_39, e140_41, e140_42, e140_45, e140_48, e140_49, e140_50, e140_52, e140_55, e140_57, e140_58, e140_61, e140_63, e140_65, e140_68, e140_71, e140_72, e140_75, e140_76, e140_78, e140_80, e140_82, e140_85, e140_87, e140_89, e140_92, e140_94, e140_97, e140_99, e140_101, e140_103, e140_105, e140_108, e140_111, e140_113, bi_s, tyX, rl1, rl2, rl4, ↓reduceIte, Option.bind_some, true_and, and_true, false_and, and_false, true_or, or_true, false_or, or_false, if_same0, ite_eq0, ite_eq0', ite_eq1, ite_eq1', or_em, or_em', ite_not, lcmp0, lcmpL, lcmpG, nI_cl_b, eb_in_b, nI_1, nI_pred, Int32.reduceToNatClampNeg, eb_u_ap, Prod.mk.injEq, not_true_eq_false, not_false_eq_true, sp_rg, sp_iI, sp_iG, sp_iS, a1, g2, h6.1]
  obtain ⟨t, e, e1, e2⟩ := eb_loop (α := Int32 × Int32 × Option eb_V × Option eb_V × Option eb_V × (eb_A → Nat → Int32) × (Nat → Nat → Nat)) (n := 2 ^ w.1 - 1) (s0 := (0, sp_jw w m 0, none, none, none, I0, C0))
    (F := fun y s => eb_E L (d + 7) 140 25 [some (zr (1, 0, 0)), some (zi (nI m)), some (zi 6), some (zi 1), some (zi s.1), some (zi s.2.1), some (zi (nI (2 ^ w.1))), some (zi (nI (y + 1))), s.2.2.1, s.2.2.2.1, s.2.2.2.2.1] [] (nc, ns, s.2.2.2.2.2.1, J, eb_RL s.2.2.2.2.2.2 mt mk))
    (P := fun y s => (∃ b, b < y + 1 ∧ (∀ t, t < y + 1 → sp_jw w m t ≤ sp_jw w m b) ∧ (∀ t, t < y + 1 → sp_jw w m t = sp_jw w m b → sp_pop b ≤ sp_pop t) ∧ s.1 = nI b ∧ s.2.1 = sp_jw w m b) ∧ eb_fr 1 I s.2.2.2.2.2.1)
    ⟨⟨0, by omega, (fun t ht => by rw [show t = 0 by omega]; exact Int32.le_refl _), (fun t ht _ => by rw [show t = 0 by omega]; exact Nat.le_refl _), rfl, rfl⟩, a2⟩ (by
      intro y s hy hP
      obtain ⟨s1, s2, s3, s4, s5, I1, C1⟩ := s
      obtain ⟨⟨b, h0, h1, h1', h2, h3⟩, h4⟩ := hP
      have h2 : s1 = nI b := h2
      have h3 : s2 = sp_jw w m b := h3
      have h4 : eb_fr 1 I I1 := h4
      have hb : (nI (y + 1) < nI (2 ^ w.1)) = True := by rw [nI_lt_b (by omega) (by omega)]; simp; omega
      have hbc := fun M => x_bitCount (L := L) (d := d + 6) (M := M) (s := y + 1) (by omega)
      have hbb := fun M => x_bitCount (L := L) (d := d + 6) (M := M) (s := b) (by omega)
      have hpl := sp_pop_lt (y + 1) (by omega)
      have hpb := sp_pop_lt b (by omega)
      have c1 : ((6 : Int32) < nI (sp_pop (y + 1))) = False := by rw [show (6 : Int32) = nI 6 from rfl, nI_lt_b (by omega) (by omega)]; simp; omega
      obtain ⟨I2, C2, b1, b2⟩ := x_joyIfWritten (L := L) (d := d) (nc := nc) (ns := ns) (J := J) (C := C1) (mt := mt) (mk := mk) (eb_RX_fr h h4 (by decide)) hw (m := m) (s := y + 1) hm
      have hle : ∀ t, t < y + 1 + 1 → t < y + 1 ∨ t = y + 1 := fun t ht => by omega
      rw [e140_25]
      by_cases c2 : sp_jw w m b < sp_jw w m (y + 1)
      · have hnew : ∃ b', b' < y + 1 + 1 ∧ (∀ t, t < y + 1 + 1 → sp_jw w m t ≤ sp_jw w m b') ∧ (∀ t, t < y + 1 + 1 → sp_jw w m t = sp_jw w m b' → sp_pop b' ≤ sp_pop t) ∧ nI (y + 1) = nI b' ∧ sp_jw w m (y + 1) = sp_jw w m b' := by
          refine ⟨y + 1, by omega, fun t ht => ?_, fun t ht q => ?_, rfl, rfl⟩
          · rcases hle t ht with z | rfl
            · exact Int32.le_of_lt (Int32.lt_of_le_of_lt (h1 t z) c2)
            · exact Int32.le_refl _
          · rcases hle t ht with z | rfl
            · have := h1 t z
              rw [q] at this
              exact absurd c2 (Int32.not_lt.mpr this)
            · exact Nat.le_refl _
        by_cases c5 : sp_pop (y + 1) < sp_pop b
        · have c6 : (nI (sp_pop (y + 1)) < nI (sp_pop b)) = True := by rw [nI_lt_b (by omega) (by omega)]; simp [c5]
          simp (decide := true) (disch := omega) only [e140_0, e140_1, e140_3, e140_4, e140_5, e140_6, e140_9, e140_11, e140_12, e140_13, e140_16, e140_19, e140_20, e140_22, e140_23, e140_27, e140_29, e140_32, e140_34, e140_37, e140_39, e140_41, e140_42, e140_45, e140_48, e140_49, e140_50, e140_52, e140_55, e140_57, e140_58, e140_61, e140_63, e140_65, e140_68, e140_71, e140_72, e140_75, e140_76, e140_78, e140_80, e140_82, e140_85, e140_87, e140_89, e140_92, e140_94, e140_97, e140_99, e140_101, e140_103, e140_105, e140_108, e140_111, e140_113, bi_s, tyX, rl1, rl2, rl4, ↓reduceIte, Option.bind_some, true_and, and_true, false_and, and_false, true_or, or_true, false_or, or_false, if_same0, ite_eq0, ite_eq0', ite_eq1, ite_eq1', or_em, or_em', ite_not, lcmp0, lcmpL, lcmpG, nI_cl_b, eb_in_b, nI_1, nI_pred, Int32.reduceToNatClampNeg, eb_u_ap, Prod.mk.injEq, not_true_eq_false, not_false_eq_true, sp_rg, sp_iI, sp_iG, sp_iS, hb, hbc, c1, b1, h2, h3, c2, hbb, c6]
          exact ⟨(nI (y + 1), sp_jw w m (y + 1), _, _, _, I2, C2), rfl, hnew, eb_fr_tr h4 b2⟩
        · have c6 : (nI (sp_pop (y + 1)) < nI (sp_pop b)) = False := by rw [nI_lt_b (by omega) (by omega)]; simp; omega
          simp (decide := true) (disch := omega) only [e140_0, e140_1, e140_3, e140_4, e140_5, e140_6, e140_9, e140_11, e140_12, e140_13, e140_16, e140_19, e140_20, e140_22, e140_23, e140_27, e140_29, e140_32, e140_34, e140_37, e140_39, e140_41, e140_42, e140_45, e140_48, e140_49, e140_50, e140_52, e140_55, e140_57, e140_58, e140_61, e140_63, e140_65, e140_68, e140_71, e140_72, e140_75, e140_76, e140_78, e140_80, e140_82, e140_85, e140_87, e140_89, e140_92, e140_94, e140_97, e140_99, e140_101, e140_103, e140_105, e140_108, e140_111, e140_113, bi_s, tyX, rl1, rl2, rl4, ↓reduceIte, Option.bind_some, true_and, and_true, false_and, and_false, true_or, or_true, false_or, or_false, if_same0, ite_eq0, ite_eq0', ite_eq1, ite_eq1', or_em, or_em', ite_not, lcmp0, lcmpL, lcmpG, nI_cl_b, eb_in_b, nI_1, nI_pred, Int32.reduceToNatClampNeg, eb_u_ap, Prod.mk.injEq, not_true_eq_false, not_false_eq_true, sp_rg, sp_iI, sp_iG, sp_iS, hb, hbc, c1, b1, h2, h3, c2, hbb, c6]
          exact ⟨(nI (y + 1), sp_jw w m (y + 1), _, _, _, I2, C2), rfl, hnew, eb_fr_tr h4 b2⟩
      · by_cases c3 : sp_jw w m (y + 1) = sp_jw w m b
        · have c4 : (sp_jw w m b < sp_jw w m b) = False := eq_false Int32.lt_irrefl
          by_cases c5 : sp_pop (y + 1) < sp_pop b
          · have c6 : (nI (sp_pop (y + 1)) < nI (sp_pop b)) = True := by rw [nI_lt_b (by omega) (by omega)]; simp [c5]
            have hnew : ∃ b', b' < y + 1 + 1 ∧ (∀ t, t < y + 1 + 1 → sp_jw w m t ≤ sp_jw w m b') ∧ (∀ t, t < y + 1 + 1 → sp_jw w m t = sp_jw w m b' → sp_pop b' ≤ sp_pop t) ∧ nI (y + 1) = nI b' ∧ sp_jw w m b = sp_jw w m b' := by
              refine ⟨y + 1, by omega, fun t ht => ?_, fun t ht q => ?_, rfl, c3.symm⟩
              · rcases hle t ht with z | rfl
                · rw [c3]; exact h1 t z
                · exact Int32.le_refl _
              · rcases hle t ht with z | rfl
                · rw [c3] at q
                  have := h1' t z q
                  omega
                · exact Nat.le_refl _
            simp (decide := true) (disch := omega) only [e140_0, e140_1, e140_3, e140_4, e140_5, e140_6, e140_9, e140_11, e140_12, e140_13, e140_16, e140_19, e140_20, e140_22, e140_23, e140_27, e140_29, e140_32, e140_34, e140_37, e140_39, e140_41, e140_42, e140_45, e140_48, e140_49, e140_50, e140_52, e140_55, e140_57, e140_58, e140_61, e140_63, e140_65, e140_68, e140_71, e140_72, e140_75, e140_76, e140_78, e140_80, e140_82, e140_85, e140_87, e140_89, e140_92, e140_94, e140_97, e140_99, e140_101, e140_103, e140_105, e140_108, e140_111, e140_113, bi_s, tyX, rl1, rl2, rl4, ↓reduceIte, Option.bind_some, true_and, and_true, false_and, and_false, true_or, or_true, false_or, or_false, if_same0, ite_eq0, ite_eq0', ite_eq1, ite_eq1', or_em, or_em', ite_not, lcmp0, lcmpL, lcmpG, nI_cl_b, eb_in_b, nI_1, nI_pred, Int32.reduceToNatClampNeg, eb_u_ap, Prod.mk.injEq, not_true_eq_false, not_false_eq_true, sp_rg, sp_iI, sp_iG, sp_iS, hb, hbc, c1, b1, h2, h3, c3, c4, hbb, c6]
            exact ⟨(nI (y + 1), sp_jw w m b, _, _, _, I2, C2), rfl, hnew, eb_fr_tr h4 b2⟩
          · have c6 : (nI (sp_pop (y + 1)) < nI (sp_pop b)) = False := by rw [nI_lt_b (by omega) (by omega)]; simp; omega
            simp (decide := true) (disch := omega) only [e140_0, e140_1, e140_3, e140_4, e140_5, e140_6, e140_9, e140_11, e140_12, e140_13, e140_16, e140_19, e140_20, e140_22, e140_23, e140_27, e140_29, e140_32, e140_34, e140_37, e140_39, e140_41, e140_42, e140_45, e140_48, e140_49, e140_50, e140_52, e140_55, e140_57, e140_58, e140_61, e140_63, e140_65, e140_68, e140_71, e140_72, e140_75, e140_76, e140_78, e140_80, e140_82, e140_85, e140_87, e140_89, e140_92, e140_94, e140_97, e140_99, e140_101, e140_103, e140_105, e140_108, e140_111, e140_113, bi_s, tyX, rl1, rl2, rl4, ↓reduceIte, Option.bind_some, true_and, and_true, false_and, and_false, true_or, or_true, false_or, or_false, if_same0, ite_eq0, ite_eq0', ite_eq1, ite_eq1', or_em, or_em', ite_not, lcmp0, lcmpL, lcmpG, nI_cl_b, eb_in_b, nI_1, nI_pred, Int32.reduceToNatClampNeg, eb_u_ap, Prod.mk.injEq, not_true_eq_false, not_false_eq_true, sp_rg, sp_iI, sp_iG, sp_iS, hb, hbc, c1, b1, h2, h3, c3, c4, hbb, c6]
            refine ⟨(nI b, sp_jw w m b, _, _, _, I2, C2), rfl, ⟨b, by omega, fun t ht => ?_, fun t ht q => ?_, rfl, rfl⟩, eb_fr_tr h4 b2⟩
            · rcases hle t ht with z | rfl
              · exact h1 t z
              · rw [c3]; exact Int32.le_refl _
            · rcases hle t ht with z | rfl
              · exact h1' t z q
              · omega
        · have hnew : (∀ t, t < y + 1 + 1 → sp_jw w m t ≤ sp_jw w m b) ∧ (∀ t, t < y + 1 + 1 → sp_jw w m t = sp_jw w m b → sp_pop b ≤ sp_pop t) := by
            refine ⟨fun t ht => ?_, fun t ht q => ?_⟩
            · rcases hle t ht with z | rfl
              · exact h1 t z
              · exact Int32.not_lt.mp c2
            · rcases hle t ht with z | rfl
              · exact h1' t z q
              · exact absurd q c3
          by_cases c5 : sp_pop (y + 1) < sp_pop b
          · have c6 : (nI (sp_pop (y + 1)) < nI (sp_pop b)) = True := by rw [nI_lt_b (by omega) (by omega)]; simp [c5]
            simp (decide := true) (disch := omega) only [e140_0, e140_1, e140_3, e140_4, e140_5, e140_6, e140_9, e140_11, e140_12, e140_13, e140_16, e140_19, e140_20, e140_22, e140_23, e140_27, e140_29, e140_32, e140_34, e140_37, e140_39, e140_41, e140_42, e140_45, e140_48, e140_49, e140_50, e140_52, e140_55, e140_57, e140_58, e140_61, e140_63, e140_65, e140_68, e140_71, e140_72, e140_75, e140_76, e140_78, e140_80, e140_82, e140_85, e140_87, e140_89, e140_92, e140_94, e140_97, e140_99, e140_101, e140_103, e140_105, e140_108, e140_111, e140_113, bi_s, tyX, rl1, rl2, rl4, ↓reduceIte, Option.bind_some, true_and, and_true, false_and, and_false, true_or, or_true, false_or, or_false, if_same0, ite_eq0, ite_eq0', ite_eq1, ite_eq1', or_em, or_em', ite_not, lcmp0, lcmpL, lcmpG, nI_cl_b, eb_in_b, nI_1, nI_pred, Int32.reduceToNatClampNeg, eb_u_ap, Prod.mk.injEq, not_true_eq_false, not_false_eq_true, sp_rg, sp_iI, sp_iG, sp_iS, hb, hbc, c1, b1, h2, h3, c2, c3, hbb, c6]
            exact ⟨(nI b, sp_jw w m b, _, _, _, I2, C2), rfl, ⟨b, by omega, hnew.1, hnew.2, rfl, rfl⟩, eb_fr_tr h4 b2⟩
          · have c6 : (nI (sp_pop (y + 1)) < nI (sp_pop b)) = False := by rw [nI_lt_b (by omega) (by omega)]; simp; omega
            simp (decide := true) (disch := omega) only [e140_0, e140_1, e140_3, e140_4, e140_5, e140_6, e140_9, e140_11, e140_12, e140_13, e140_16, e140_19, e140_20, e140_22, e140_23, e140_27, e140_29, e140_32, e140_34, e140_37, e140_39, e140_41, e140_42, e140_45, e140_48, e140_49, e140_50, e140_52, e140_55, e140_57, e140_58, e140_61, e140_63, e140_65, e140_68, e140_71, e140_72, e140_75, e140_76, e140_78, e140_80, e140_82, e140_85, e140_87, e140_89, e140_92, e140_94, e140_97, e140_99, e140_101, e140_103, e140_105, e140_108, e140_111, e140_113, bi_s, tyX, rl1, rl2, rl4, ↓reduceIte, Option.bind_some, true_and, and_true, false_and, and_false, true_or, or_true, false_or, or_false, if_same0, ite_eq0, ite_eq0', ite_eq1, ite_eq1', or_em, or_em', ite_not, lcmp0, lcmpL, lcmpG, nI_cl_b, eb_in_b, nI_1, nI_pred, Int32.reduceToNatClampNeg, eb_u_ap, Prod.mk.injEq, not_true_eq_false, not_false_eq_true, sp_rg, sp_iI, sp_iG, sp_iS, hb, hbc, c1, b1, h2, h3, c2, c3, hbb, c6]
            exact ⟨(nI b, sp_jw w m b, _, _, _, I2, C2), rfl, ⟨b, by omega, hnew.1, hnew.2, rfl, rfl⟩, eb_fr_tr h4 b2⟩)
  obtain ⟨s1, s2, s3, s4, s5, I1, C1⟩ := t
  obtain ⟨b, h0, h1, h1', h2, h3⟩ := e1
  have h2 : s1 = nI b := h2
  have h2w : 2 ^ w.1 - 1 + 1 = 2 ^ w.1 := by omega
  rw [h2w] at h0 h1 h1'
  have hb : (nI (2 ^ w.1 - 1 + 1) < nI (2 ^ w.1)) = False := by rw [nI_lt_b (by omega) (by omega)]; simp; omega
  simp only [show nI (0 + 1) = 1 from rfl] at e
  rw [e, e140_25]
  simp (decide := true) (disch := omega) only [e140_0, e140_1, e140_3, e140_4, e140_5, e140_6, e140_9, e140_11, e140_12, e140_13, e140_16, e140_19, e140_20, e140_22, e140_23, e140_27, e140_29, e140_32, e140_34, e140_37, e140_39, e140_41, e140_42, e140_45, e140_48, e140_49, e140_50, e140_52, e140_55, e140_57, e140_58, e140_61, e140_63, e140_65, e140_68, e140_71, e140_72, e140_75, e140_76, e140_78, e140_80, e140_82, e140_85, e140_87, e140_89, e140_92, e140_94, e140_97, e140_99, e140_101, e140_103, e140_105, e140_108, e140_111, e140_113, bi_s, tyX, rl1, rl2, rl4, ↓reduceIte, Option.bind_some, true_and, and_true, false_and, and_false, true_or, or_true, false_or, or_false, if_same0, ite_eq0, ite_eq0', ite_eq1, ite_eq1', or_em, or_em', ite_not, lcmp0, lcmpL, lcmpG, nI_cl_b, eb_in_b, nI_1, nI_pred, Int32.reduceToNatClampNeg, eb_u_ap, Prod.mk.injEq, not_true_eq_false, not_false_eq_true, sp_rg, sp_iI, sp_iG, sp_iS, hb]
  exact ⟨b, I1, C1, by rw [h2], e2, h0, h1, h1'⟩
end

/-! the reference's valleys: who comes, a night -/
section
variable {L d nc ns r i g : Nat} {I : eb_A → Nat → Int32} {J : eb_A → Nat → Int64} {C : Nat → Nat → Nat} {mt mk : Option Nat} {M : eb_M} {R : eb_A → Nat → Option eb_A} {w : eb_W} {x : Int32} {N : eb_N} {said : Nat → Int32}
theorem sub_sub' (a b c : Int32) : a - b - c = a - (b + c) := Int32.sub_sub a b c
theorem m_comesLoop {n : Nat} {room s : Nat → Int32} {hd : Int32} (hn : n ≤ 6) (hg : g < 6) : ∀ (c : Nat) (G1 G2 : Nat → Int32) (m : Nat) (I : eb_A → Nat → Int32) (o4 o5 o6 : Option eb_V), m ≤ 30 → (sp_n (fun i => decide (G1 i < room i)) n ≤ c ∨ m = 0) → sp_Gok n room G1 → I (21, r, 0) 9 = nI n → (∀ i, i < n → I (39, r, 0) i = room i - G1 i) → (∀ i, i < n → I (37, r, g) i = G2 i) → (∀ i, i < n → I (40, r, 0) i = said i) → (∀ i, i < n → sp_score (I (21, r, 0) 13) (I (32, r, i)) (I (34, r, g)) (said i) = s i) →
    ∃ I', eb_E L (d + 2) 196 2 [some (zr (21, r, 0)), some (zi (nI g)), some (zi hd), some (zi (nI m)), o4, o5, o6] [] (nc, ns, I, J, eb_RL C mt mk) = some (zn, (nc, ns, I', J, eb_RL C mt mk)) ∧ (∀ i, i < n → I' (39, r, 0) i = room i - (sp_lodge n room s c (G1, G2, nI m)).1 i) ∧ (∀ i, i < n → I' (37, r, g) i = (sp_lodge n room s c (G1, G2, nI m)).2.1 i) ∧ I' (38, r, 0) g = I (38, r, 0) g + (sp_lodge n room s c (G1, G2, nI m)).2.2 ∧ ∀ a l, ¬ a = (39, r, 0) → ¬ a = (37, r, g) → ¬ (a = (38, r, 0) ∧ l = g) → I' a l = I a l := by
  intro c
  have fin : ∀ (c : Nat) (G1 G2 : Nat → Int32) (I : eb_A → Nat → Int32) (o4 o5 o6 : Option eb_V), (∀ i, i < n → I (39, r, 0) i = room i - G1 i) → (∀ i, i < n → I (37, r, g) i = G2 i) →
      ∃ I', eb_E L (d + 2) 196 2 [some (zr (21, r, 0)), some (zi (nI g)), some (zi hd), some (zi (nI 0)), o4, o5, o6] [] (nc, ns, I, J, eb_RL C mt mk) = some (zn, (nc, ns, I', J, eb_RL C mt mk)) ∧ (∀ i, i < n → I' (39, r, 0) i = room i - (sp_lodge n room s c (G1, G2, nI 0)).1 i) ∧ (∀ i, i < n → I' (37, r, g) i = (sp_lodge n room s c (G1, G2, nI 0)).2.1 i) ∧ I' (38, r, 0) g = I (38, r, 0) g + (sp_lodge n room s c (G1, G2, nI 0)).2.2 ∧ ∀ a l, ¬ a = (39, r, 0) → ¬ a = (37, r, g) → ¬ (a = (38, r, 0) ∧ l = g) → I' a l = I a l := by
    intro c G1 G2 I o4 o5 o6 h1 h2
    rw [sp_lodge_z (show ¬ 0 < nI 0 by decide)]
    have z : nI 0 = 0 := rfl
    rw [e196_2]
    simp (decide := true) (disch := omega) only [e196_3, e196_170, bi_s, tyX, rl1, rl2, rl4, ↓reduceIte, Option.bind_some, true_and, and_true, false_and, and_false, true_or, or_true, false_or, or_false, if_same0, ite_eq0, ite_eq0', ite_eq1, ite_eq1', or_em, or_em', ite_not, lcmp0, lcmpL, lcmpG, nI_cl_b, eb_in_b, nI_1, nI_pred, Int32.reduceToNatClampNeg, eb_u_ap, Prod.mk.injEq, not_true_eq_false, not_false_eq_true, tyM, rl21, rl25, sp_rg, sp_iI, sp_iG, sp_iS, z]
    exact ⟨I, rfl, h1, h2, (Int32.add_zero _).symm, fun _ _ _ _ _ => rfl⟩
  have full : ∀ (c : Nat) (G1 G2 : Nat → Int32) (m : Nat) (I : eb_A → Nat → Int32) (o4 o5 o6 : Option eb_V), 0 < m → m ≤ 30 → sp_Gok n room G1 → sp_best (fun i => decide (G1 i < room i)) s n = none → I (21, r, 0) 9 = nI n → (∀ i, i < n → I (39, r, 0) i = room i - G1 i) → (∀ i, i < n → I (37, r, g) i = G2 i) → (∀ i, i < n → I (40, r, 0) i = said i) → (∀ i, i < n → sp_score (I (21, r, 0) 13) (I (32, r, i)) (I (34, r, g)) (said i) = s i) →
      ∃ I', eb_E L (d + 2) 196 2 [some (zr (21, r, 0)), some (zi (nI g)), some (zi hd), some (zi (nI m)), o4, o5, o6] [] (nc, ns, I, J, eb_RL C mt mk) = some (zn, (nc, ns, I', J, eb_RL C mt mk)) ∧ (∀ i, i < n → I' (39, r, 0) i = room i - (sp_lodge n room s c (G1, G2, nI m)).1 i) ∧ (∀ i, i < n → I' (37, r, g) i = (sp_lodge n room s c (G1, G2, nI m)).2.1 i) ∧ I' (38, r, 0) g = I (38, r, 0) g + (sp_lodge n room s c (G1, G2, nI m)).2.2 ∧ ∀ a l, ¬ a = (39, r, 0) → ¬ a = (37, r, g) → ¬ (a = (38, r, 0) ∧ l = g) → I' a l = I a l := by
    intro c G1 G2 m I o4 o5 o6 hm0 hm hG hb h9 hl h8 hs hsc
    have hpos : (0 < nI m) = True := by rw [show (0 : Int32) = nI 0 from rfl, nI_lt_b (by omega) (by omega)]; exact eq_true hm0
    obtain ⟨o, eb⟩ := m_bestIn (L := L) (d := d) (nc := nc) (ns := ns) (J := J) (C := C) (mt := mt) (mk := mk) (hd := hd) (mo := nI m) (o6 := o6) hn hg h9 hG hl hs hsc
    rw [hb] at eb
    have eb : eb_E L (d + 2) 196 12 [some (zr (21, r, 0)), some (zi (nI g)), some (zi hd), some (zi (nI m)), some (zi (-1)), some (zi 0), o6] [] (nc, ns, I, J, eb_RL C mt mk) = eb_E L (d + 2) 196 95 [some (zr (21, r, 0)), some (zi (nI g)), some (zi hd), some (zi (nI m)), some (zi (-1)), some (zi (nI n)), o] [] (nc, ns, I, J, eb_RL C mt mk) := eb
    rw [sp_lodge_n hb, e196_2]
    simp (decide := true) (disch := omega) only [e196_3, e196_6, e196_7, e196_9, e196_10, bi_s, tyX, rl1, rl2, rl4, ↓reduceIte, Option.bind_some, true_and, and_true, false_and, and_false, true_or, or_true, false_or, or_false, if_same0, ite_eq0, ite_eq0', ite_eq1, ite_eq1', or_em, or_em', ite_not, lcmp0, lcmpL, lcmpG, nI_cl_b, eb_in_b, nI_1, nI_pred, Int32.reduceToNatClampNeg, eb_u_ap, Prod.mk.injEq, not_true_eq_false, not_false_eq_true, tyM, rl21, rl25, sp_rg, sp_iI, sp_iG, sp_iS, hpos]
    rw [eb]
    simp (decide := true) (disch := omega) only [e196_95, e196_97, e196_98, e196_101, e196_102, e196_105, e196_106, e196_107, e196_108, e196_109, e196_110, e196_111, bi_s, tyX, rl1, rl2, rl4, ↓reduceIte, Option.bind_some, true_and, and_true, false_and, and_false, true_or, or_true, false_or, or_false, if_same0, ite_eq0, ite_eq0', ite_eq1, ite_eq1', or_em, or_em', ite_not, lcmp0, lcmpL, lcmpG, nI_cl_b, eb_in_b, nI_1, nI_pred, Int32.reduceToNatClampNeg, eb_u_ap, Prod.mk.injEq, not_true_eq_false, not_false_eq_true, tyM, rl21, rl25, sp_rg, sp_iI, sp_iG, sp_iS]
    refine ⟨_, rfl, fun i hi => ?_, fun i hi => ?_, by simp [eb_u], fun a l h1 h2 h3 => if_neg (fun q => h3 q)⟩
    · simp only [eb_u, Prod.mk.injEq, Nat.reduceEqDiff, false_and, if_false]; exact hl i hi
    · simp only [eb_u, Prod.mk.injEq, Nat.reduceEqDiff, false_and, if_false]; exact h8 i hi
  induction c with
  | zero =>
    intro G1 G2 m I o4 o5 o6 hm hc hG h9 hl h8 hs hsc
    by_cases hm0 : m = 0
    · subst hm0; exact fin 0 G1 G2 I o4 o5 o6 hl h8
    · have hz : sp_n (fun i => decide (G1 i < room i)) n = 0 := by
        rcases hc with q | q
        · omega
        · exact absurd q hm0
      exact full 0 G1 G2 m I o4 o5 o6 (by omega) hm hG (sp_best_none_of (sp_n_zero hz)) h9 hl h8 hs hsc
  | succ c ih =>
    intro G1 G2 m I o4 o5 o6 hm hc hG h9 hl h8 hs hsc
    by_cases hm0 : m = 0
    · subst hm0; exact fin (c + 1) G1 G2 I o4 o5 o6 hl h8
    · cases hb : sp_best (fun i => decide (G1 i < room i)) s n with
      | none => exact full (c + 1) G1 G2 m I o4 o5 o6 (by omega) hm hG hb h9 hl h8 hs hsc
      | some b =>
        have hbn := (sp_best_lt hb).1
        have hbt := of_decide_eq_true (sp_best_lt hb).2
        have hpos : (0 < nI m) = True := by rw [show (0 : Int32) = nI 0 from rfl, nI_lt_b (by omega) (by omega)]; exact eq_true (by omega)
        obtain ⟨o, eb⟩ := m_bestIn (L := L) (d := d) (nc := nc) (ns := ns) (J := J) (C := C) (mt := mt) (mk := mk) (hd := hd) (mo := nI m) (o6 := o6) hn hg h9 hG hl hs hsc
        rw [hb] at eb
        have eb : eb_E L (d + 2) 196 12 [some (zr (21, r, 0)), some (zi (nI g)), some (zi hd), some (zi (nI m)), some (zi (-1)), some (zi 0), o6] [] (nc, ns, I, J, eb_RL C mt mk) = eb_E L (d + 2) 196 95 [some (zr (21, r, 0)), some (zi (nI g)), some (zi hd), some (zi (nI m)), some (zi (nI b)), some (zi (nI n)), o] [] (nc, ns, I, J, eb_RL C mt mk) := eb
        obtain ⟨u, v, u1, u2, u3, u4⟩ := hG b hbn
        obtain ⟨st1, st2, st3⟩ := sp_stay u3 u4 hm
        have kl := hl b hbn
        have k8 := h8 b hbn
        rw [sp_lodge_s (of_eq_true hpos) hb, u1, u2, st1, st2, st3]
        rw [u1, u2] at kl
        have stm : (if nI m < nI v - nI u then nI m else nI v - nI u) = nI (min (v - u) m) := by rw [← imn]; exact st1
        have hdec : sp_n (fun i => decide (sp_up G1 b (nI (u + min (v - u) m)) i < room i)) n ≤ c ∨ m - min (v - u) m = 0 := by
          rcases hc with q | q
          · by_cases q2 : v - u < m
            · left
              have := (sp_n_dec (p := fun i => decide (G1 i < room i)) (p' := fun i => decide (sp_up G1 b (nI (u + min (v - u) m)) i < room i)) (b := b) (decide_eq_true hbt) (decide_eq_false (by
                show ¬ (if b = b then nI (u + min (v - u) m) else G1 b) < room b
                rw [if_pos rfl, u2, Nat.min_eq_left (by omega), nI_lt_b (by omega) (by omega)]
                omega)) (fun i hi => by simp only [sp_up, hi, if_false]) (n := n)).1 hbn
              omega
            · right
              rw [Nat.min_eq_right (by omega)]
              omega
          · exact absurd q hm0
        have hsub : nI v - nI u - nI (min (v - u) m) = nI v - nI (u + min (v - u) m) := by rw [sub_sub', nI_add]
        obtain ⟨I', e1, e2, e3, e4, e5⟩ := ih (sp_up G1 b (nI (u + min (v - u) m))) (sp_up G2 b (G2 b + nI (min (v - u) m))) (m - min (v - u) m) (eb_u (eb_u I (37, r, g) b (G2 b + nI (min (v - u) m))) (39, r, 0) b (nI v - nI (u + min (v - u) m))) (some (zi (nI b))) (some (zi (nI (min (v - u) m)))) o (by omega) hdec (sp_Gok_up hG u2 (by omega) u4) (by simp [eb_u, h9])
          (fun i hi => by
            by_cases q : i = b
            · subst q; simp [eb_u, sp_up, u2]
            · simp [eb_u, sp_up, q, hl i hi])
          (fun i hi => by
            by_cases q : i = b
            · subst q; simp [eb_u, sp_up]
            · simp [eb_u, sp_up, q, h8 i hi])
          (fun i hi => by simp [eb_u, hs i hi])
          (fun i hi => by
            rw [show eb_u (eb_u I (37, r, g) b (G2 b + nI (min (v - u) m))) (39, r, 0) b (nI v - nI (u + min (v - u) m)) (32, r, i) = I (32, r, i) from funext fun l => by simp [eb_u], show eb_u (eb_u I (37, r, g) b (G2 b + nI (min (v - u) m))) (39, r, 0) b (nI v - nI (u + min (v - u) m)) (34, r, g) = I (34, r, g) from funext fun l => by simp [eb_u], show eb_u (eb_u I (37, r, g) b (G2 b + nI (min (v - u) m))) (39, r, 0) b (nI v - nI (u + min (v - u) m)) (21, r, 0) 13 = I (21, r, 0) 13 by simp [eb_u]]
            exact hsc i hi)
        have hkl2 : eb_u I (37, r, g) b (G2 b + nI (min (v - u) m)) (39, r, 0) b = nI v - nI u := by simp [eb_u, kl]
        refine ⟨I', ?_, e2, e3, ?_, fun a l h1 h2 h3 => ?_⟩
        · rw [← e1, e196_2]
          simp (decide := true) (disch := omega) only [e196_3, e196_6, e196_7, e196_9, e196_10, bi_s, tyX, rl1, rl2, rl4, ↓reduceIte, Option.bind_some, true_and, and_true, false_and, and_false, true_or, or_true, false_or, or_false, if_same0, ite_eq0, ite_eq0', ite_eq1, ite_eq1', or_em, or_em', ite_not, lcmp0, lcmpL, lcmpG, nI_cl_b, eb_in_b, nI_1, nI_pred, Int32.reduceToNatClampNeg, eb_u_ap, Prod.mk.injEq, not_true_eq_false, not_false_eq_true, tyM, rl21, rl25, sp_rg, sp_iI, sp_iG, sp_iS, hpos]
          rw [eb]
          have hm1 : ¬ nI b = -1 := by rw [nI_m1 (by omega)]; exact fun z => z
          have hvu : nI v - nI u = nI (v - u) := nI_sub u3
          rw [hvu] at kl hsub
          by_cases q : m < v - u
          · have hmin : min (v - u) m = m := Nat.min_eq_right (by omega)
            have q' : (nI m < nI (v - u)) = True := by rw [nI_lt_b (by omega) (by omega)]; exact eq_true q
            rw [hmin] at st2 hsub ⊢
            simp (decide := true) (disch := omega) only [e196_95, e196_97, e196_98, e196_101, e196_102, e196_105, e196_106, e196_107, e196_108, e196_109, e196_110, e196_111, e196_112, e196_113, e196_114, e196_117, e196_119, e196_120, e196_123, e196_124, e196_127, e196_128, e196_131, e196_133, e196_134, e196_136, e196_137, e196_140, e196_141, e196_142, e196_144, e196_145, e196_146, e196_148, e196_149, e196_150, e196_151, e196_154, e196_156, e196_157, e196_158, e196_160, e196_161, e196_162, e196_163, e196_165, e196_166, e196_167, bi_s, tyX, rl1, rl2, rl4, ↓reduceIte, Option.bind_some, true_and, and_true, false_and, and_false, true_or, or_true, false_or, or_false, if_same0, ite_eq0, ite_eq0', ite_eq1, ite_eq1', or_em, or_em', ite_not, lcmp0, lcmpL, lcmpG, nI_cl_b, eb_in_b, nI_1, nI_pred, Int32.reduceToNatClampNeg, eb_u_ap, Prod.mk.injEq, not_true_eq_false, not_false_eq_true, tyM, rl21, rl25, sp_rg, sp_iI, sp_iG, sp_iS, hm1, kl, q', k8, hsub, st2]
          · have hmin : min (v - u) m = v - u := Nat.min_eq_left (by omega)
            have q' : (nI m < nI (v - u)) = False := by rw [nI_lt_b (by omega) (by omega)]; exact eq_false q
            rw [hmin] at st2 hsub ⊢
            simp (decide := true) (disch := omega) only [e196_95, e196_97, e196_98, e196_101, e196_102, e196_105, e196_106, e196_107, e196_108, e196_109, e196_110, e196_111, e196_112, e196_113, e196_114, e196_117, e196_119, e196_120, e196_123, e196_124, e196_127, e196_128, e196_131, e196_133, e196_134, e196_136, e196_137, e196_140, e196_141, e196_142, e196_144, e196_145, e196_146, e196_148, e196_149, e196_150, e196_151, e196_154, e196_156, e196_157, e196_158, e196_160, e196_161, e196_162, e196_163, e196_165, e196_166, e196_167, bi_s, tyX, rl1, rl2, rl4, ↓reduceIte, Option.bind_some, true_and, and_true, false_and, and_false, true_or, or_true, false_or, or_false, if_same0, ite_eq0, ite_eq0', ite_eq1, ite_eq1', or_em, or_em', ite_not, lcmp0, lcmpL, lcmpG, nI_cl_b, eb_in_b, nI_1, nI_pred, Int32.reduceToNatClampNeg, eb_u_ap, Prod.mk.injEq, not_true_eq_false, not_false_eq_true, tyM, rl21, rl25, sp_rg, sp_iI, sp_iG, sp_iS, hm1, kl, q', k8, hsub, st2]
        · rw [e4]; simp [eb_u]
        · rw [e5 a l h1 h2 h3]
          simp only [eb_u, h1, h2, false_and, if_false]
theorem m_comes (h : eb_RM I r w) (hN : eb_NM I r w said N) (hw : sp_ok w) (hNk : sp_Nok w N) (hj : g < w.2.1) {m : Nat} (hm : m ≤ 30) : ∃ I', eb_ev L (d + 3) 196 [zr (21, r, 0), zi (nI g), zi (nI m)] (nc, ns, I, J, eb_RL C mt mk) = some (zn, (nc, ns, I', J, eb_RL C mt mk)) ∧ eb_gn r I I' ∧ eb_NM I' r w said (sp_put w said g (nI m) N) := by
  have hn := hw.1
  have hg := hw.2.1
  rw [h196 rfl]
  obtain ⟨I', e1, e2, e3, e4, e5⟩ := m_comesLoop (L := L) (d := d) (nc := nc) (ns := ns) (J := J) (C := C) (mt := mt) (mk := mk) (r := r) (g := g) (said := said) (room := fun i => w.2.2.2.1 i 2) (s := fun i => sp_score (w.2.2.1 0) (w.2.2.2.1 i) (w.2.2.2.2 g) (said i)) (hd := nI m) hn (by omega) w.1 N.1 (N.2.1 g) m I none none none hm (Or.inl sp_n_le) hNk.1 h.1.1 (fun i hi => (hN.1 i hi).1) (fun i hi => (hN.2 g hj).1 i hi) (fun i hi => (hN.1 i hi).2) (fun i hi => score_RM h hj hi)
  simp (decide := true) (disch := omega) only [e196_0, e196_1, bi_s, tyX, rl1, rl2, rl4, ↓reduceIte, Option.bind_some, true_and, and_true, false_and, and_false, true_or, or_true, false_or, or_false, if_same0, ite_eq0, ite_eq0', ite_eq1, ite_eq1', or_em, or_em', ite_not, lcmp0, lcmpL, lcmpG, nI_cl_b, eb_in_b, nI_1, nI_pred, Int32.reduceToNatClampNeg, eb_u_ap, Prod.mk.injEq, not_true_eq_false, not_false_eq_true, tyM, rl21, rl25, sp_rg, sp_iI, sp_iG, sp_iS]
  rw [e1]
  refine ⟨I', rfl, fun a l hal => e5 a l (fun q => hal (by rw [q]; exact ⟨rfl, by omega, by omega⟩)) (fun q => hal (by rw [q]; exact ⟨rfl, by omega, by omega⟩)) (fun q => hal (by rw [q.1]; exact ⟨rfl, by omega, by omega⟩)), fun i hi => ⟨e2 i hi, ?_⟩, fun j hj2 => ⟨fun i hi => ?_, ?_⟩⟩
  · rw [e5 _ _ (by simp) (by simp) (by simp)]; exact (hN.1 i hi).2
  · show I' (37, r, j) i = sp_up N.2.1 g _ j i
    by_cases q : j = g
    · subst q
      rw [e3 i hi]; simp only [sp_up, if_true]
    · simp only [sp_up, q, if_false]
      rw [e5 _ _ (by simp) (by simp [q]) (by simp)]; exact (hN.2 j hj2).1 i hi
  · show I' (38, r, 0) j = sp_up N.2.2 g _ j
    by_cases q : j = g
    · subst q
      rw [e4, (hN.2 j hj2).2]; simp only [sp_up, if_true]
    · simp only [sp_up, q, if_false]
      rw [e5 _ _ (by simp) (by simp) (by simp [q])]; exact (hN.2 j hj2).2
theorem sp_rng {p : Nat → Bool} {n : Nat} : (List.range (n + 1)).filter p = (List.range n).filter p ++ (if p n = true then [n] else []) := by
  rw [List.range_succ, List.filter_append]
  congr 1
  by_cases q : p n = true
  · rw [if_pos q]; simp [q]
  · rw [if_neg q]; simp [q]
/-- the nights of those below n that come in a line, behind N -/
def sp_line (w : eb_W) (said : Nat → Int32) (p : Nat → Bool) (N : eb_N) (n : Nat) : eb_N := ((List.range n).filter p).foldl (fun N j => sp_put w said j (w.2.2.2.2 j 1) N) N
theorem sp_line_s {p : Nat → Bool} {n : Nat} : sp_line w said p N (n + 1) = if p n = true then sp_put w said n (w.2.2.2.2 n 1) (sp_line w said p N n) else sp_line w said p N n := by
  unfold sp_line
  rw [sp_rng, List.foldl_append]
  by_cases q : p n = true
  · rw [if_pos q, if_pos q]; rfl
  · rw [if_neg q, if_neg q]; rfl
theorem sp_line_ok {p : Nat → Bool} (hw : sp_ok w) (h : sp_Nok w N) {n : Nat} (hn : n ≤ w.2.1) : sp_Nok w (sp_line w said p N n) :=
  sp_Nok_fold hw (fun j hj => by
    have := (List.mem_filter.mp hj).1
    have := List.mem_range.mp this
    omega) h
theorem m_line (h : eb_RM I r w) (hN : eb_NM I r w said N) (hw : sp_ok w) (hNk : sp_Nok w N) {lt : Nat} (hlt : lt < 2) {p : Nat → Bool} (hp : ∀ j, p j = decide ((w.2.2.2.2 j 0 = 5) = (lt = 1))) : ∃ I', eb_E L (d + 4) 197 13 [some (zr (21, r, 0)), some (zi (nI lt)), some (zi 0)] [] (nc, ns, I, J, eb_RL C mt mk) = eb_E L (d + 4) 197 6 [some (zr (21, r, 0)), some (zi (nI (lt + 1))), some (zi (nI w.2.1))] [] (nc, ns, I', J, eb_RL C mt mk) ∧ eb_gn r I I' ∧ eb_NM I' r w said (sp_line w said p N w.2.1) := by
  have hg := hw.2.1
  obtain ⟨I1, e, e1, e2⟩ := eb_loop (α := eb_A → Nat → Int32) (n := w.2.1) (s0 := I)
    (F := fun j s => eb_E L (d + 4) 197 13 [some (zr (21, r, 0)), some (zi (nI lt)), some (zi (nI j))] [] (nc, ns, s, J, eb_RL C mt mk))
    (P := fun j s => eb_gn r I s ∧ eb_NM s r w said (sp_line w said p N j))
    ⟨eb_gn_rf, hN⟩ (by
      intro j I1 hj hP
      obtain ⟨h1, h2⟩ := hP
      have hR := eb_gn_RM h1 h
      have c : (nI j < nI w.2.1) = True := by rw [nI_lt_b (by omega) (by omega)]; exact eq_true hj
      have k0 := hR.2.2 j hj 0 (by omega)
      have k1 := hR.2.2 j hj 1 (by omega)
      have hline := sp_line_s (w := w) (said := said) (N := N) (p := p) (n := j)
      have hl1 : (nI lt = 1) = (lt = 1) := nI_eq_b (a := lt) (b := 1) (by omega) (by omega)
      rw [e197_13]
      obtain ⟨-, q1, -⟩ := hw.2.2.2.2 j hj
      obtain ⟨m, hm, em⟩ := rg_le 30 (by omega) (by decide) q1
      obtain ⟨I2, a1, a2, a3⟩ := m_comes (L := L) (d := d + 1) (nc := nc) (ns := ns) (J := J) (C := C) (mt := mt) (mk := mk) hR h2 hw (sp_line_ok hw hNk (by omega)) hj hm
      rw [← em] at a1 a3
      have hpj := hp j
      by_cases c5 : w.2.2.2.2 j 0 = 5 <;> by_cases cl : lt = 1
      · have hpt : p j = true := by rw [hpj]; simp [c5, cl]
        rw [if_pos hpt] at hline
        simp (decide := true) (disch := omega) only [e197_14, e197_15, e197_18, e197_21, e197_22, e197_25, e197_26, e197_27, e197_28, e197_29, e197_30, e197_33, e197_34, e197_37, e197_38, e197_39, e197_40, e197_43, e197_44, e197_47, e197_48, e197_51, e197_52, e197_53, e197_54, e197_57, e197_58, e197_59, e197_60, e197_61, e197_64, e197_67, bi_s, tyX, rl1, rl2, rl4, ↓reduceIte, Option.bind_some, true_and, and_true, false_and, and_false, true_or, or_true, false_or, or_false, if_same0, ite_eq0, ite_eq0', ite_eq1, ite_eq1', or_em, or_em', ite_not, lcmp0, lcmpL, lcmpG, nI_cl_b, eb_in_b, nI_1, nI_pred, Int32.reduceToNatClampNeg, eb_u_ap, Prod.mk.injEq, not_true_eq_false, not_false_eq_true, tyM, rl21, rl25, sp_rg, sp_iI, sp_iG, sp_iS, hR.1.2.1, c, k0, c5, hl1, cl, k1, a1]
        rw [hline]
        exact ⟨I2, rfl, eb_gn_tr h1 a2, a3⟩
      · have hpt : ¬ p j = true := by rw [hpj]; simp [c5, cl]
        rw [if_neg hpt] at hline
        simp (decide := true) (disch := omega) only [e197_14, e197_15, e197_18, e197_21, e197_22, e197_25, e197_26, e197_27, e197_28, e197_29, e197_30, e197_33, e197_34, e197_37, e197_38, e197_39, e197_40, e197_43, e197_44, e197_47, e197_48, e197_51, e197_52, e197_53, e197_54, e197_57, e197_58, e197_59, e197_60, e197_61, e197_64, e197_67, bi_s, tyX, rl1, rl2, rl4, ↓reduceIte, Option.bind_some, true_and, and_true, false_and, and_false, true_or, or_true, false_or, or_false, if_same0, ite_eq0, ite_eq0', ite_eq1, ite_eq1', or_em, or_em', ite_not, lcmp0, lcmpL, lcmpG, nI_cl_b, eb_in_b, nI_1, nI_pred, Int32.reduceToNatClampNeg, eb_u_ap, Prod.mk.injEq, not_true_eq_false, not_false_eq_true, tyM, rl21, rl25, sp_rg, sp_iI, sp_iG, sp_iS, hR.1.2.1, c, k0, c5, hl1, cl]
        rw [hline]
        exact ⟨I1, rfl, h1, h2⟩
      · have hpt : ¬ p j = true := by rw [hpj]; simp [c5, cl]
        rw [if_neg hpt] at hline
        simp (decide := true) (disch := omega) only [e197_14, e197_15, e197_18, e197_21, e197_22, e197_25, e197_26, e197_27, e197_28, e197_29, e197_30, e197_33, e197_34, e197_37, e197_38, e197_39, e197_40, e197_43, e197_44, e197_47, e197_48, e197_51, e197_52, e197_53, e197_54, e197_57, e197_58, e197_59, e197_60, e197_61, e197_64, e197_67, bi_s, tyX, rl1, rl2, rl4, ↓reduceIte, Option.bind_some, true_and, and_true, false_and, and_false, true_or, or_true, false_or, or_false, if_same0, ite_eq0, ite_eq0', ite_eq1, ite_eq1', or_em, or_em', ite_not, lcmp0, lcmpL, lcmpG, nI_cl_b, eb_in_b, nI_1, nI_pred, Int32.reduceToNatClampNeg, eb_u_ap, Prod.mk.injEq, not_true_eq_false, not_false_eq_true, tyM, rl21, rl25, sp_rg, sp_iI, sp_iG, sp_iS, hR.1.2.1, c, k0, c5, hl1, cl]
        rw [hline]
        exact ⟨I1, rfl, h1, h2⟩
      · have hpt : p j = true := by rw [hpj]; simp [c5, cl]
        rw [if_pos hpt] at hline
        simp (decide := true) (disch := omega) only [e197_14, e197_15, e197_18, e197_21, e197_22, e197_25, e197_26, e197_27, e197_28, e197_29, e197_30, e197_33, e197_34, e197_37, e197_38, e197_39, e197_40, e197_43, e197_44, e197_47, e197_48, e197_51, e197_52, e197_53, e197_54, e197_57, e197_58, e197_59, e197_60, e197_61, e197_64, e197_67, bi_s, tyX, rl1, rl2, rl4, ↓reduceIte, Option.bind_some, true_and, and_true, false_and, and_false, true_or, or_true, false_or, or_false, if_same0, ite_eq0, ite_eq0', ite_eq1, ite_eq1', or_em, or_em', ite_not, lcmp0, lcmpL, lcmpG, nI_cl_b, eb_in_b, nI_1, nI_pred, Int32.reduceToNatClampNeg, eb_u_ap, Prod.mk.injEq, not_true_eq_false, not_false_eq_true, tyM, rl21, rl25, sp_rg, sp_iI, sp_iG, sp_iS, hR.1.2.1, c, k0, c5, hl1, cl, k1, a1]
        rw [hline]
        exact ⟨I2, rfl, eb_gn_tr h1 a2, a3⟩)
  have hR := eb_gn_RM e1 h
  simp only [nI_0] at e
  rw [e, e197_13]
  simp (decide := true) (disch := omega) only [e197_14, e197_15, e197_18, e197_21, e197_22, e197_25, e197_26, e197_27, e197_28, e197_29, e197_30, e197_33, e197_34, e197_37, e197_38, e197_39, e197_40, e197_43, e197_44, e197_47, e197_48, e197_51, e197_52, e197_53, e197_54, e197_57, e197_58, e197_59, e197_60, e197_61, e197_64, e197_67, e197_70, e197_73, bi_s, tyX, rl1, rl2, rl4, ↓reduceIte, Option.bind_some, true_and, and_true, false_and, and_false, true_or, or_true, false_or, or_false, if_same0, ite_eq0, ite_eq0', ite_eq1, ite_eq1', or_em, or_em', ite_not, lcmp0, lcmpL, lcmpG, nI_cl_b, eb_in_b, nI_1, nI_pred, Int32.reduceToNatClampNeg, eb_u_ap, Prod.mk.injEq, not_true_eq_false, not_false_eq_true, tyM, rl21, rl25, sp_rg, sp_iI, sp_iG, sp_iS, hR.1.2.1, nI_lt_b, Nat.lt_irrefl]
  exact ⟨I1, rfl, e1, e2⟩
theorem m_goThrough (h : eb_RM I r w) (hw : sp_ok w) : ∃ I', eb_ev L (d + 5) 197 [zr (21, r, 0)] (nc, ns, I, J, eb_RL C mt mk) = some (zn, (nc, ns, I', J, eb_RL C mt mk)) ∧ eb_gn r I I' ∧ eb_NM I' r w (fun i => w.2.2.2.1 i 4) (sp_night w) := by
  rw [h197 rfl]
  obtain ⟨I0, a1, a2, a3⟩ := m_startNight (L := L) (d := d + 3) (nc := nc) (ns := ns) (J := J) (C := C) (mt := mt) (mk := mk) h hw
  obtain ⟨I1, b1, b2, b3⟩ := m_line (L := L) (d := d) (nc := nc) (ns := ns) (J := J) (C := C) (mt := mt) (mk := mk) (eb_gn_RM a2 h) a3 hw (sp_Nok_0 hw) (lt := 0) (by omega) (p := fun j => !decide (w.2.2.2.2 j 0 = 5)) (fun j => by
    by_cases c : w.2.2.2.2 j 0 = 5 <;> simp [c])
  have a12 := eb_gn_tr a2 b2
  obtain ⟨I2, c1, c2, c3⟩ := m_line (L := L) (d := d) (nc := nc) (ns := ns) (J := J) (C := C) (mt := mt) (mk := mk) (eb_gn_RM a12 h) b3 hw (sp_line_ok hw (sp_Nok_0 hw) (Nat.le_refl _)) (lt := 1) (by omega) (p := fun j => decide (w.2.2.2.2 j 0 = 5)) (fun j => by
    by_cases c : w.2.2.2.2 j 0 = 5 <;> simp [c])
  simp only [nI_0] at b1
  simp only [show nI (0 + 1) = 1 from rfl] at b1
  simp only [show nI 1 = 1 from rfl, show nI (1 + 1) = 2 from rfl] at c1
  simp (decide := true) (disch := omega) only [e197_0, e197_1, e197_4, e197_5, bi_s, tyX, rl1, rl2, rl4, ↓reduceIte, Option.bind_some, true_and, and_true, false_and, and_false, true_or, or_true, false_or, or_false, if_same0, ite_eq0, ite_eq0', ite_eq1, ite_eq1', or_em, or_em', ite_not, lcmp0, lcmpL, lcmpG, nI_cl_b, eb_in_b, nI_1, nI_pred, Int32.reduceToNatClampNeg, eb_u_ap, Prod.mk.injEq, not_true_eq_false, not_false_eq_true, tyM, rl21, rl25, sp_rg, sp_iI, sp_iG, sp_iS, a1]
  rw [e197_6]
  simp (decide := true) (disch := omega) only [e197_7, e197_8, e197_11, e197_12, bi_s, tyX, rl1, rl2, rl4, ↓reduceIte, Option.bind_some, true_and, and_true, false_and, and_false, true_or, or_true, false_or, or_false, if_same0, ite_eq0, ite_eq0', ite_eq1, ite_eq1', or_em, or_em', ite_not, lcmp0, lcmpL, lcmpG, nI_cl_b, eb_in_b, nI_1, nI_pred, Int32.reduceToNatClampNeg, eb_u_ap, Prod.mk.injEq, not_true_eq_false, not_false_eq_true, tyM, rl21, rl25, sp_rg, sp_iI, sp_iG, sp_iS]
  rw [b1, e197_6]
  simp (decide := true) (disch := omega) only [e197_7, e197_8, e197_11, e197_12, bi_s, tyX, rl1, rl2, rl4, ↓reduceIte, Option.bind_some, true_and, and_true, false_and, and_false, true_or, or_true, false_or, or_false, if_same0, ite_eq0, ite_eq0', ite_eq1, ite_eq1', or_em, or_em', ite_not, lcmp0, lcmpL, lcmpG, nI_cl_b, eb_in_b, nI_1, nI_pred, Int32.reduceToNatClampNeg, eb_u_ap, Prod.mk.injEq, not_true_eq_false, not_false_eq_true, tyM, rl21, rl25, sp_rg, sp_iI, sp_iG, sp_iS]
  rw [c1, e197_6]
  simp (decide := true) (disch := omega) only [e197_7, e197_8, e197_11, e197_12, e197_14, e197_15, e197_18, e197_21, e197_22, e197_25, e197_26, e197_27, e197_28, e197_29, e197_30, e197_33, e197_34, e197_37, e197_38, e197_39, e197_40, e197_43, e197_44, e197_47, e197_48, e197_51, e197_52, e197_53, e197_54, e197_57, e197_58, e197_59, e197_60, e197_61, e197_64, e197_67, e197_70, e197_73, e197_76, bi_s, tyX, rl1, rl2, rl4, ↓reduceIte, Option.bind_some, true_and, and_true, false_and, and_false, true_or, or_true, false_or, or_false, if_same0, ite_eq0, ite_eq0', ite_eq1, ite_eq1', or_em, or_em', ite_not, lcmp0, lcmpL, lcmpG, nI_cl_b, eb_in_b, nI_1, nI_pred, Int32.reduceToNatClampNeg, eb_u_ap, Prod.mk.injEq, not_true_eq_false, not_false_eq_true, tyM, rl21, rl25, sp_rg, sp_iI, sp_iG, sp_iS]
  refine ⟨I2, rfl, eb_gn_tr a12 c2, ?_⟩
  have : sp_night w = sp_line w (fun i => w.2.2.2.1 i 4) (fun j => decide (w.2.2.2.2 j 0 = 5)) (sp_line w (fun i => w.2.2.2.1 i 4) (fun j => !decide (w.2.2.2.2 j 0 = 5)) sp_N0 w.2.1) w.2.1 := by
    unfold sp_night sp_ord sp_line
    rw [List.foldl_append]
  rw [this]
  exact c3
end

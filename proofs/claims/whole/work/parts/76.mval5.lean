/-! the reference's valleys: years -/
section
variable {L d nc ns r i g : Nat} {I : eb_A → Nat → Int32} {J : eb_A → Nat → Int64} {C : Nat → Nat → Nat} {mt mk : Option Nat} {M : eb_M} {R : eb_A → Nat → Option eb_A} {w : eb_W} {x : Int32} {N : eb_N} {said : Nat → Int32}
theorem m_year (h : eb_RM I r w) (hw : sp_ok w) : ∃ I', eb_ev L (d + 6) 223 [zr (21, r, 0)] (nc, ns, I, J, eb_RL C mt mk) = some (zn, (nc, ns, I', J, eb_RL C mt mk)) ∧ eb_gv r I I' ∧ eb_RM I' r (sp_year w) ∧ I' (21, r, 0) 29 = sp_joyAll w (sp_night w) ∧ (∀ j, j < w.2.1 → I' (41, r, 0) j = sp_joy w (sp_night w) j) ∧ (∀ i, i < w.1 → I' (42, r, 0) i = w.2.2.2.1 i 3 * (sp_night w).1 i) := by
  have hn := hw.1
  have hg := hw.2.1
  rw [h223 rfl]
  obtain ⟨I0, a1, a2, a3⟩ := m_goThrough (L := L) (d := d) (nc := nc) (ns := ns) (J := J) (C := C) (mt := mt) (mk := mk) h hw
  have hNk := sp_Nok_night hw
  generalize hNN : sp_night w = N at a3 hNk ⊢
  have hR0 := eb_gn_RM a2 h
  obtain ⟨I1, o2, o3, o4, b1, b2, b3⟩ := m_year1 (L := L) (d := d) (nc := nc) (ns := ns) (J := J) (C := C) (mt := mt) (mk := mk) hR0 a3 hw hNk
  have g9 : I1 (21, r, 0) 9 = nI w.1 := by rw [b2 _ _ (by simp) (by simp)]; exact hR0.1.1
  have g11 : I1 (21, r, 0) 11 = nI w.2.1 := by rw [b2 _ _ (by simp) (by simp)]; exact hR0.1.2.1
  have h03 : ∀ i, i < w.1 → I1 (32, r, i) 0 = w.2.2.2.1 i 0 ∧ I1 (32, r, i) 3 = w.2.2.2.1 i 3 := fun i hi => ⟨by rw [b2 _ _ (by simp) (by simp)]; exact hR0.2.1 i hi 0 (by omega), by rw [b2 _ _ (by simp) (by simp)]; exact hR0.2.1 i hi 3 (by omega)⟩
  have hN1 : eb_NM I1 r w (fun i => w.2.2.2.1 i 4) N := eb_NM_of a3 (fun i => b2 _ _ (by simp) (by simp)) (fun i => b2 _ _ (by simp) (by simp)) (fun j i => b2 _ _ (by simp) (by simp)) (fun i => b2 _ _ (by simp) (by simp))
  have hjb := m_joyBy0 (L := L) (d := d + 3) (nc := nc) (ns := ns) (J := J) (C := C) (mt := mt) (mk := mk) g9 g11 h03 hN1 hw hNk
  simp (decide := true) (disch := omega) only [e223_0, e223_1, e223_4, e223_5, bi_s, tyX, rl1, rl2, rl4, ↓reduceIte, Option.bind_some, true_and, and_true, false_and, and_false, true_or, or_true, false_or, or_false, if_same0, ite_eq0, ite_eq0', ite_eq1, ite_eq1', or_em, or_em', ite_not, lcmp0, lcmpL, lcmpG, nI_cl_b, eb_in_b, nI_1, nI_pred, Int32.reduceToNatClampNeg, eb_u_ap, Prod.mk.injEq, not_true_eq_false, not_false_eq_true, tyM, rl21, rl25, sp_rg, sp_iI, sp_iG, sp_iS, a1]
  rw [b1]
  simp (decide := true) (disch := omega) only [e223_94, e223_95, e223_96, e223_97, e223_100, e223_103, e223_104, bi_s, tyX, rl1, rl2, rl4, ↓reduceIte, Option.bind_some, true_and, and_true, false_and, and_false, true_or, or_true, false_or, or_false, if_same0, ite_eq0, ite_eq0', ite_eq1, ite_eq1', or_em, or_em', ite_not, lcmp0, lcmpL, lcmpG, nI_cl_b, eb_in_b, nI_1, nI_pred, Int32.reduceToNatClampNeg, eb_u_ap, Prod.mk.injEq, not_true_eq_false, not_false_eq_true, tyM, rl21, rl25, sp_rg, sp_iI, sp_iG, sp_iS, hjb]
  generalize hI2 : eb_u I1 (21, r, 0) 29 (sp_joyAll w N) = I2
  have f2 : ∀ a l, ¬ (a = (21, r, 0) ∧ l = 29) → I2 a l = I1 a l := fun a l q => by rw [← hI2]; exact if_neg q
  have v2 : I2 (21, r, 0) 29 = sp_joyAll w N := by rw [← hI2]; exact eb_u_s
  obtain ⟨I3, e, e1, e2⟩ := eb_loop (α := eb_A → Nat → Int32) (n := w.2.1) (s0 := I2)
    (F := fun j s => eb_E L (d + 5) 223 105 [some (zr (21, r, 0)), some (zi (nI j)), o2, o3, o4] [] (nc, ns, s, J, eb_RL C mt mk))
    (P := fun j s => (∀ a l, ¬ a = (41, r, 0) → s a l = I2 a l) ∧ ∀ j', j' < j → s (41, r, 0) j' = sp_joy w N j')
    ⟨fun _ _ _ => rfl, fun j hj => by omega⟩ (by
      intro j I3 hj hP
      obtain ⟨h1, h2⟩ := hP
      have fr : ∀ a l, ¬ a = (41, r, 0) → ¬ (a = (21, r, 0) ∧ l = 29) → I3 a l = I1 a l := fun a l q1 q2 => (h1 a l q1).trans (f2 a l q2)
      have k9 : I3 (21, r, 0) 9 = nI w.1 := by rw [fr _ _ (by simp) (by simp)]; exact g9
      have k11 : I3 (21, r, 0) 11 = nI w.2.1 := by rw [fr _ _ (by simp) (by simp)]; exact g11
      have k03 : ∀ i, i < w.1 → I3 (32, r, i) 0 = w.2.2.2.1 i 0 ∧ I3 (32, r, i) 3 = w.2.2.2.1 i 3 := fun i hi => ⟨by rw [fr _ _ (by simp) (by simp)]; exact (h03 i hi).1, by rw [fr _ _ (by simp) (by simp)]; exact (h03 i hi).2⟩
      have kN : eb_NM I3 r w (fun i => w.2.2.2.1 i 4) N := eb_NM_of hN1 (fun i => fr _ _ (by simp) (by simp)) (fun i => fr _ _ (by simp) (by simp)) (fun j i => fr _ _ (by simp) (by simp)) (fun i => fr _ _ (by simp) (by simp))
      have hj1 := m_joyOf (L := L) (d := d + 4) (nc := nc) (ns := ns) (J := J) (C := C) (mt := mt) (mk := mk) k9 k03 kN hw hNk hj
      rw [e223_105]
      simp (decide := true) (disch := omega) only [e223_106, e223_107, e223_110, e223_113, e223_114, e223_117, e223_118, e223_119, e223_120, e223_123, e223_124, e223_127, bi_s, tyX, rl1, rl2, rl4, ↓reduceIte, Option.bind_some, true_and, and_true, false_and, and_false, true_or, or_true, false_or, or_false, if_same0, ite_eq0, ite_eq0', ite_eq1, ite_eq1', or_em, or_em', ite_not, lcmp0, lcmpL, lcmpG, nI_cl_b, eb_in_b, nI_1, nI_pred, Int32.reduceToNatClampNeg, eb_u_ap, Prod.mk.injEq, not_true_eq_false, not_false_eq_true, tyM, rl21, rl25, sp_rg, sp_iI, sp_iG, sp_iS, k11, nI_lt_b, hj, hj1]
      refine ⟨eb_u I3 (41, r, 0) j (sp_joy w N j), rfl, fun a l q => (if_neg (fun z => q z.1)).trans (h1 a l q), fun j' hj' => ?_⟩
      by_cases q : j' = j
      · subst q; simp [eb_u]
      · exact (if_neg (fun z => q z.2)).trans (h2 j' (by omega)))
  have fr3 : ∀ a l, ¬ a = (41, r, 0) → ¬ (a = (21, r, 0) ∧ l = 29) → I3 a l = I1 a l := fun a l q1 q2 => (e1 a l q1).trans (f2 a l q2)
  have k9 : I3 (21, r, 0) 9 = nI w.1 := by rw [fr3 _ _ (by simp) (by simp)]; exact g9
  have k11 : I3 (21, r, 0) 11 = nI w.2.1 := by rw [fr3 _ _ (by simp) (by simp)]; exact g11
  have kN : eb_NM I3 r w (fun i => w.2.2.2.1 i 4) N := eb_NM_of hN1 (fun i => fr3 _ _ (by simp) (by simp)) (fun i => fr3 _ _ (by simp) (by simp)) (fun j i => fr3 _ _ (by simp) (by simp)) (fun i => fr3 _ _ (by simp) (by simp))
  have kq : ∀ i, i < w.1 → ∀ f, f < 5 → I3 (32, r, i) f = w.2.2.2.1 i f := fun i hi f hf => by rw [fr3 _ _ (by simp) (by simp), b2 _ _ (by simp; omega) (by simp)]; exact hR0.2.1 i hi f (by omega)
  obtain ⟨I4, p2, p3, p4, c1, c2, c3⟩ := m_year3 (L := L) (d := d) (nc := nc) (ns := ns) (J := J) (C := C) (mt := mt) (mk := mk) (o2 := o2) (o3 := o3) (o4 := o4) k9 k11 kq kN hw hNk
  simp only [nI_0] at e
  rw [e, e223_105]
  simp (decide := true) (disch := omega) only [e223_106, e223_107, e223_110, e223_113, e223_114, e223_117, e223_118, e223_119, e223_120, e223_123, e223_124, e223_127, e223_130, e223_131, bi_s, tyX, rl1, rl2, rl4, ↓reduceIte, Option.bind_some, true_and, and_true, false_and, and_false, true_or, or_true, false_or, or_false, if_same0, ite_eq0, ite_eq0', ite_eq1, ite_eq1', or_em, or_em', ite_not, lcmp0, lcmpL, lcmpG, nI_cl_b, eb_in_b, nI_1, nI_pred, Int32.reduceToNatClampNeg, eb_u_ap, Prod.mk.injEq, not_true_eq_false, not_false_eq_true, tyM, rl21, rl25, sp_rg, sp_iI, sp_iG, sp_iS, k11, nI_lt_b, Nat.lt_irrefl]
  rw [c1]
  have m13 : I4 (21, r, 0) 13 = w.2.2.1 0 := by rw [c2 _ _ (by simp), fr3 _ _ (by simp) (by simp), b2 _ _ (by simp) (by simp)]; exact hR0.1.2.2.1
  have m14 : I4 (21, r, 0) 14 = w.2.2.1 1 := by rw [c2 _ _ (by simp), fr3 _ _ (by simp) (by simp), b2 _ _ (by simp) (by simp)]; exact hR0.1.2.2.2.1
  have m15 : I4 (21, r, 0) 15 = w.2.2.1 2 := by rw [c2 _ _ (by simp), fr3 _ _ (by simp) (by simp), b2 _ _ (by simp) (by simp)]; exact hR0.1.2.2.2.2
  have m9 : I4 (21, r, 0) 9 = nI w.1 := by rw [c2 _ _ (by simp)]; exact k9
  have m11 : I4 (21, r, 0) 11 = nI w.2.1 := by rw [c2 _ _ (by simp)]; exact k11
  have m29 : I4 (21, r, 0) 29 = sp_joyAll w N := by rw [c2 _ _ (by simp), e1 _ _ (by simp)]; exact v2
  obtain ⟨a, ha, ea⟩ := eb_rg 99 hw.2.2.1.1 hw.2.2.1.2 (by omega)
  have oa := (ok_d a (by omega)).2.2
  rw [← ea] at oa
  have hag : (if w.2.2.1 0 + 1 < 0 then 0 else if 99 < w.2.2.1 0 + 1 then 99 else w.2.2.1 0 + 1) = if 99 < w.2.2.1 0 + 1 then 99 else w.2.2.1 0 + 1 := if_neg oa
  simp (decide := true) (disch := omega) only [e223_266, e223_267, e223_268, e223_271, e223_272, e223_273, e223_275, e223_278, e223_281, e223_282a, e223_282b, e223_283, e223_286, e223_287, e223_288, e223_291, bi_s, tyX, rl1, rl2, rl4, ↓reduceIte, Option.bind_some, true_and, and_true, false_and, and_false, true_or, or_true, false_or, or_false, if_same0, ite_eq0, ite_eq0', ite_eq1, ite_eq1', or_em, or_em', ite_not, lcmp0, lcmpL, lcmpG, nI_cl_b, eb_in_b, nI_1, nI_pred, Int32.reduceToNatClampNeg, eb_u_ap, Prod.mk.injEq, not_true_eq_false, not_false_eq_true, tyM, rl21, rl25, sp_rg, sp_iI, sp_iG, sp_iS, m13, m14, m_within, hag]
  generalize hI5 : eb_u (eb_u I4 (21, r, 0) 13 (if 99 < w.2.2.1 0 + 1 then 99 else w.2.2.1 0 + 1)) (21, r, 0) 14 (w.2.2.1 1 + 1) = I5
  have f5 : ∀ a l, ¬ (a = (21, r, 0) ∧ (l = 13 ∨ l = 14)) → I5 a l = I4 a l := fun a l q => by
    have q1 : ¬ (a = (21, r, 0) ∧ l = 13) := fun z => q ⟨z.1, Or.inl z.2⟩
    have q2 : ¬ (a = (21, r, 0) ∧ l = 14) := fun z => q ⟨z.1, Or.inr z.2⟩
    rw [← hI5]; simp only [eb_u, q1, q2, if_false]
  refine ⟨I5, rfl, fun a l hal => ?_, ⟨⟨?_, ?_, ?_, ?_, ?_⟩, fun i hi f hf => ?_, fun j hj f hf => ?_⟩, ?_, fun j hj => ?_, fun i hi => ?_⟩
  · rw [f5 a l (fun z => hal (by rw [z.1]; exact ⟨rfl, Or.inr (Or.inr (Or.inr (Or.inr ⟨rfl, by omega⟩)))⟩)), c2 a l (fun z => hal ⟨z.2.1, Or.inl z.1⟩), fr3 a l (fun z => hal (by rw [z]; exact ⟨rfl, Or.inr (Or.inr (Or.inr (Or.inl ⟨by omega, by omega⟩)))⟩)) (fun z => hal (by rw [z.1]; exact ⟨rfl, Or.inr (Or.inr (Or.inr (Or.inr ⟨rfl, by omega⟩)))⟩)), b2 a l (fun z => hal ⟨z.2.1, Or.inl z.1⟩) (fun z => hal (by rw [z]; exact ⟨rfl, Or.inr (Or.inr (Or.inr (Or.inl ⟨by omega, by omega⟩)))⟩)), eb_gn_gv a2 a l hal]
  · rw [f5 _ _ (by simp)]; exact m9
  · rw [f5 _ _ (by simp)]; exact m11
  · rw [← hI5]; simp [eb_u, sp_year, sp_up]
  · rw [← hI5]; simp [eb_u, sp_year, sp_up]
  · rw [f5 _ _ (by simp)]; simp [sp_year, sp_up, m15]
  · rw [f5 _ _ (by simp)]
    have hi : i < w.1 := hi
    show I4 (32, r, i) f = sp_grow (w.2.2.2.1 i) ((sp_night w).1 i) f
    rw [hNN]
    have hk : ∀ f, f < 5 → ¬ (f = 0 ∨ f = 3) → I4 (32, r, i) f = w.2.2.2.1 i f := fun f hf hq => by rw [c2 _ _ (by simp [hq])]; exact kq i hi f hf
    have h56 : ∀ f, (f = 5 ∨ f = 6) → I4 (32, r, i) f = I1 (32, r, i) f := fun f hf => by rw [c2 _ _ (by simp; omega), fr3 _ _ (by simp) (by simp)]
    rcases (show f = 0 ∨ f = 1 ∨ f = 2 ∨ f = 3 ∨ f = 4 ∨ f = 5 ∨ f = 6 by omega) with rfl | rfl | rfl | rfl | rfl | rfl | rfl
    · exact (c3 i hi).1
    · exact hk 1 (by omega) (by omega)
    · exact hk 2 (by omega) (by omega)
    · exact (c3 i hi).2
    · exact hk 4 (by omega) (by omega)
    · rw [h56 5 (Or.inl rfl)]; exact (b3 i hi).1
    · rw [h56 6 (Or.inr rfl)]; exact (b3 i hi).2.1
  · rw [f5 _ _ (by simp), c2 _ _ (by simp), fr3 _ _ (by simp) (by simp), b2 _ _ (by simp) (by simp)]
    exact hR0.2.2 j hj f hf
  · rw [f5 _ _ (by simp)]; exact m29
  · rw [f5 _ _ (by simp), c2 _ _ (by simp)]; exact e2 j hj
  · rw [f5 _ _ (by simp), c2 _ _ (by simp), fr3 _ _ (by simp) (by simp)]; exact (b3 i hi).2.2
end

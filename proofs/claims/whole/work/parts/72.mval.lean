/-! the reference's valleys: a night -/
/-- only what belongs to a valley and its nights differs, in model r -/
def eb_gv (r : Nat) (I I' : eb_A → Nat → Int32) : Prop := ∀ a l, ¬ (a.2.1 = r ∧ (a.1 = 32 ∨ a.1 = 34 ∨ a.1 = 35 ∨ (37 ≤ a.1 ∧ a.1 ≤ 43) ∨ (a.1 = 21 ∧ ¬ l = 7))) → I' a l = I a l
/-- only a night differs -/
def eb_gn (r : Nat) (I I' : eb_A → Nat → Int32) : Prop := ∀ a l, ¬ (a.2.1 = r ∧ 37 ≤ a.1 ∧ a.1 ≤ 40) → I' a l = I a l
theorem eb_gv_rf {r : Nat} {I : eb_A → Nat → Int32} : eb_gv r I I := fun _ _ _ => rfl
theorem eb_gv_tr {r : Nat} {I I1 I2 : eb_A → Nat → Int32} (h1 : eb_gv r I I1) (h2 : eb_gv r I1 I2) : eb_gv r I I2 := fun a l h => (h2 a l h).trans (h1 a l h)
theorem eb_gn_rf {r : Nat} {I : eb_A → Nat → Int32} : eb_gn r I I := fun _ _ _ => rfl
theorem eb_gn_tr {r : Nat} {I I1 I2 : eb_A → Nat → Int32} (h1 : eb_gn r I I1) (h2 : eb_gn r I1 I2) : eb_gn r I I2 := fun a l h => (h2 a l h).trans (h1 a l h)
theorem eb_gn_gv {r : Nat} {I I1 : eb_A → Nat → Int32} (h : eb_gn r I I1) : eb_gv r I I1 := fun a l q => h a l fun z => q ⟨z.1, by omega⟩
theorem eb_RM_of {r : Nat} {I I' : eb_A → Nat → Int32} {w : eb_W} (h : eb_RM I r w) (h4 : ∀ l, 9 ≤ l → l ≤ 15 → I' (21, r, 0) l = I (21, r, 0) l) (h6 : ∀ i l, I' (32, r, i) l = I (32, r, i) l) (h7 : ∀ j l, I' (34, r, j) l = I (34, r, j) l) : eb_RM I' r w := by
  obtain ⟨⟨a1, a2, a3, a4, a5⟩, a6, a7⟩ := h
  exact ⟨⟨by rw [h4 _ (by omega) (by omega)]; exact a1, by rw [h4 _ (by omega) (by omega)]; exact a2, by rw [h4 _ (by omega) (by omega)]; exact a3, by rw [h4 _ (by omega) (by omega)]; exact a4, by rw [h4 _ (by omega) (by omega)]; exact a5⟩, fun i hi f hf => by rw [h6]; exact a6 i hi f hf, fun j hj f hf => by rw [h7]; exact a7 j hj f hf⟩
theorem eb_gn_RM {r : Nat} {I I1 : eb_A → Nat → Int32} {w : eb_W} (h1 : eb_gn r I I1) (h : eb_RM I r w) : eb_RM I1 r w := eb_RM_of h (fun l _ _ => h1 _ _ (by simp)) (fun i l => h1 _ _ (by simp)) (fun j l => h1 _ _ (by simp))
/-- the reference's model r has the night N behind it, with so much said -/
def eb_NM (I : eb_A → Nat → Int32) (r : Nat) (w : eb_W) (said : Nat → Int32) (N : eb_N) : Prop :=
  (∀ i, i < w.1 → I (39, r, 0) i = w.2.2.2.1 i 2 - N.1 i ∧ I (40, r, 0) i = said i) ∧ ∀ j, j < w.2.1 → (∀ i, i < w.1 → I (37, r, j) i = N.2.1 j i) ∧ I (38, r, 0) j = N.2.2 j
theorem sp_n_dec {p p' : Nat → Bool} {b : Nat} (hb : p b = true) (hb' : p' b = false) (ho : ∀ i, ¬ i = b → p' i = p i) : ∀ {n : Nat}, (b < n → sp_n p' n + 1 = sp_n p n) ∧ (n ≤ b → sp_n p' n = sp_n p n) := by
  intro n
  induction n with
  | zero => exact ⟨fun h => absurd h (Nat.not_lt_zero _), fun _ => rfl⟩
  | succ n ih =>
    refine ⟨fun h => ?_, fun h => ?_⟩
    · unfold sp_n
      by_cases q : b = n
      · subst q
        rw [hb, hb', ih.2 (Nat.le_refl _)]
        simp
      · rw [ho n (fun z => q z.symm)]
        have := ih.1 (by omega)
        omega
    · unfold sp_n
      rw [ho n (by omega), ih.2 (by omega)]
theorem sp_n_zero {p : Nat → Bool} : ∀ {n : Nat}, sp_n p n = 0 → ∀ i, i < n → p i = false := by
  intro n
  induction n with
  | zero => intro _ i hi; omega
  | succ n ih =>
    intro h i hi
    unfold sp_n at h
    by_cases q : i = n
    · subst q
      cases hp : p i with
      | false => rfl
      | true => rw [hp] at h; simp at h
    · exact ih (by omega) i (by omega)
theorem sp_best_none_of {has : Nat → Bool} {s : Nat → Int32} : ∀ {n : Nat}, (∀ i, i < n → has i = false) → sp_best has s n = none := by
  intro n
  induction n with
  | zero => exact fun _ => rfl
  | succ n ih =>
    intro h
    rw [sp_best_s, ih (fun i hi => h i (by omega))]
    simp [h n (by omega)]
section
variable {L d nc ns r i g : Nat} {I : eb_A → Nat → Int32} {J : eb_A → Nat → Int64} {C : Nat → Nat → Nat} {mt mk : Option Nat} {M : eb_M} {R : eb_A → Nat → Option eb_A} {w : eb_W} {x : Int32}
theorem m_startNight (h : eb_RM I r w) (hw : sp_ok w) : ∃ I', eb_ev L (d + 1) 195 [zr (21, r, 0)] (nc, ns, I, J, eb_RL C mt mk) = some (zn, (nc, ns, I', J, eb_RL C mt mk)) ∧ eb_gn r I I' ∧ eb_NM I' r w (fun i => w.2.2.2.1 i 4) sp_N0 := by
  have hn := hw.1
  have hg := hw.2.1
  rw [h195 rfl]
  simp (decide := true) (disch := omega) only [e195_0, e195_1, bi_s, tyX, rl1, rl2, rl4, ↓reduceIte, Option.bind_some, true_and, and_true, false_and, and_false, true_or, or_true, false_or, or_false, if_same0, ite_eq0, ite_eq0', ite_eq1, ite_eq1', or_em, or_em', ite_not, lcmp0, lcmpL, lcmpG, nI_cl_b, eb_in_b, nI_1, nI_pred, Int32.reduceToNatClampNeg, eb_u_ap, Prod.mk.injEq, not_true_eq_false, not_false_eq_true, tyM, rl21, rl25, sp_rg, sp_iI, sp_iG, sp_iS]
  obtain ⟨I1, e, e1, e2⟩ := eb_loop (α := eb_A → Nat → Int32) (n := w.1) (s0 := I)
    (F := fun i s => eb_E L d 195 2 [some (zr (21, r, 0)), some (zi (nI i)), none] [] (nc, ns, s, J, eb_RL C mt mk))
    (P := fun i s => (∀ a l, ¬ (a = (39, r, 0) ∨ a = (40, r, 0)) → s a l = I a l) ∧ ∀ j, j < i → s (39, r, 0) j = w.2.2.2.1 j 2 ∧ s (40, r, 0) j = w.2.2.2.1 j 4)
    ⟨fun _ _ _ => rfl, fun j hj => by omega⟩ (by
      intro i I1 hi hP
      obtain ⟨h2, h3⟩ := hP
      have g9 : I1 (21, r, 0) 9 = nI w.1 := by rw [h2 _ _ (by simp)]; exact h.1.1
      have k2 : I1 (32, r, i) 2 = w.2.2.2.1 i 2 := by rw [h2 _ _ (by simp)]; exact h.2.1 i hi 2 (by omega)
      have k4 : I1 (32, r, i) 4 = w.2.2.2.1 i 4 := by rw [h2 _ _ (by simp)]; exact h.2.1 i hi 4 (by omega)
      have c : (nI i < nI w.1) = True := by rw [nI_lt_b (by omega) (by omega)]; exact eq_true hi
      rw [e195_2]
      simp (decide := true) (disch := omega) only [e195_3, e195_4, e195_7, e195_10, e195_11, e195_14, e195_15, e195_16, e195_19, e195_20, e195_21, e195_22, e195_23, e195_24, e195_25, e195_28, e195_29, e195_30, e195_33, e195_34, e195_35, e195_36, e195_37, e195_38, e195_41, bi_s, tyX, rl1, rl2, rl4, ↓reduceIte, Option.bind_some, true_and, and_true, false_and, and_false, true_or, or_true, false_or, or_false, if_same0, ite_eq0, ite_eq0', ite_eq1, ite_eq1', or_em, or_em', ite_not, lcmp0, lcmpL, lcmpG, nI_cl_b, eb_in_b, nI_1, nI_pred, Int32.reduceToNatClampNeg, eb_u_ap, Prod.mk.injEq, not_true_eq_false, not_false_eq_true, tyM, rl21, rl25, sp_rg, sp_iI, sp_iG, sp_iS, g9, c, k2, k4]
      refine ⟨_, rfl, fun a l hal => ?_, fun j hj => ?_⟩
      · have q1 : ¬ a = (39, r, 0) := fun q => hal (Or.inl q)
        have q2 : ¬ a = (40, r, 0) := fun q => hal (Or.inr q)
        simp only [eb_u, q1, q2, false_and, if_false]; exact h2 a l hal
      · by_cases hji : j = i
        · subst hji; simp [eb_u]
        · simp only [eb_u, Prod.mk.injEq, hji, and_false, Nat.reduceEqDiff, false_and, if_false]; exact h3 j (by omega))
  simp only [nI_0] at e
  have g9 : I1 (21, r, 0) 9 = nI w.1 := by rw [e1 _ _ (by simp)]; exact h.1.1
  rw [e, e195_2]
  simp (decide := true) (disch := omega) only [e195_3, e195_4, e195_7, e195_10, e195_11, e195_14, e195_15, e195_16, e195_19, e195_20, e195_21, e195_22, e195_23, e195_24, e195_25, e195_28, e195_29, e195_30, e195_33, e195_34, e195_35, e195_36, e195_37, e195_38, e195_41, e195_44, e195_45, bi_s, tyX, rl1, rl2, rl4, ↓reduceIte, Option.bind_some, true_and, and_true, false_and, and_false, true_or, or_true, false_or, or_false, if_same0, ite_eq0, ite_eq0', ite_eq1, ite_eq1', or_em, or_em', ite_not, lcmp0, lcmpL, lcmpG, nI_cl_b, eb_in_b, nI_1, nI_pred, Int32.reduceToNatClampNeg, eb_u_ap, Prod.mk.injEq, not_true_eq_false, not_false_eq_true, tyM, rl21, rl25, sp_rg, sp_iI, sp_iG, sp_iS, g9, nI_lt_b, Nat.lt_irrefl]
  obtain ⟨t, e', p1, p2⟩ := eb_loop (α := Option eb_V × (eb_A → Nat → Int32)) (n := w.2.1) (s0 := (none, I1))
    (F := fun j s => eb_E L d 195 46 [some (zr (21, r, 0)), some (zi (nI j)), s.1] [] (nc, ns, s.2, J, eb_RL C mt mk))
    (P := fun i s => (∀ a l, ¬ (a = (38, r, 0) ∨ a.1 = 37 ∧ a.2.1 = r) → s.2 a l = I1 a l) ∧ ∀ j, j < i → s.2 (38, r, 0) j = 0 ∧ ∀ i, i < 6 → s.2 (37, r, j) i = 0)
    ⟨fun _ _ _ => rfl, fun j hj => by omega⟩ (by
      intro j s hj hP
      obtain ⟨o, I2⟩ := s
      obtain ⟨h2, h3⟩ := hP
      have h2 : ∀ a l, ¬ (a = (38, r, 0) ∨ a.1 = 37 ∧ a.2.1 = r) → I2 a l = I1 a l := h2
      have h3 : ∀ j', j' < j → I2 (38, r, 0) j' = 0 ∧ ∀ i, i < 6 → I2 (37, r, j') i = 0 := h3
      have g11 : I2 (21, r, 0) 11 = nI w.2.1 := by rw [h2 _ _ (by simp), e1 _ _ (by simp)]; exact h.1.2.1
      have c : (nI j < nI w.2.1) = True := by rw [nI_lt_b (by omega) (by omega)]; exact eq_true hj
      rw [e195_46]
      simp (decide := true) (disch := omega) only [e195_47, e195_48, e195_51, e195_54, e195_55, e195_58, e195_59, e195_60, e195_61, e195_62, bi_s, tyX, rl1, rl2, rl4, ↓reduceIte, Option.bind_some, true_and, and_true, false_and, and_false, true_or, or_true, false_or, or_false, if_same0, ite_eq0, ite_eq0', ite_eq1, ite_eq1', or_em, or_em', ite_not, lcmp0, lcmpL, lcmpG, nI_cl_b, eb_in_b, nI_1, nI_pred, Int32.reduceToNatClampNeg, eb_u_ap, Prod.mk.injEq, not_true_eq_false, not_false_eq_true, tyM, rl21, rl25, sp_rg, sp_iI, sp_iG, sp_iS, g11, c]
      obtain ⟨I3, e3, q1, q2⟩ := eb_loop (α := eb_A → Nat → Int32) (n := 6) (s0 := eb_u I2 (38, r, 0) j 0)
        (F := fun i s => eb_E L d 195 63 [some (zr (21, r, 0)), some (zi (nI j)), some (zi (nI i))] [] (nc, ns, s, J, eb_RL C mt mk))
        (P := fun i s => (∀ a l, ¬ a = (37, r, j) → s a l = eb_u I2 (38, r, 0) j 0 a l) ∧ ∀ i', i' < i → s (37, r, j) i' = 0)
        ⟨fun _ _ _ => rfl, fun j hj => by omega⟩ (by
          intro i I3 hi hP
          obtain ⟨h4, h5⟩ := hP
          have c : (nI i < 6) = True := by rw [show (6 : Int32) = nI 6 from rfl, nI_lt_b (by omega) (by omega)]; exact eq_true hi
          rw [e195_63]
          simp (decide := true) (disch := omega) only [e195_64, e195_66, e195_69, e195_70, e195_73, e195_74, e195_75, e195_76, e195_77, e195_78, e195_81, bi_s, tyX, rl1, rl2, rl4, ↓reduceIte, Option.bind_some, true_and, and_true, false_and, and_false, true_or, or_true, false_or, or_false, if_same0, ite_eq0, ite_eq0', ite_eq1, ite_eq1', or_em, or_em', ite_not, lcmp0, lcmpL, lcmpG, nI_cl_b, eb_in_b, nI_1, nI_pred, Int32.reduceToNatClampNeg, eb_u_ap, Prod.mk.injEq, not_true_eq_false, not_false_eq_true, tyM, rl21, rl25, sp_rg, sp_iI, sp_iG, sp_iS, c]
          refine ⟨_, rfl, fun a l hal => ?_, fun i' hi' => ?_⟩
          · simp only [eb_u, hal, false_and, if_false]; exact h4 a l hal
          · by_cases q : i' = i
            · subst q; simp [eb_u]
            · simp only [eb_u, q, and_false, if_false]; exact h5 i' (by omega))
      simp only [nI_0] at e3
      have c6 : nI 6 = 6 := rfl
      rw [e3, e195_63]
      simp (decide := true) (disch := omega) only [e195_64, e195_66, e195_69, e195_70, e195_73, e195_74, e195_75, e195_76, e195_77, e195_78, e195_81, e195_84, e195_87, bi_s, tyX, rl1, rl2, rl4, ↓reduceIte, Option.bind_some, true_and, and_true, false_and, and_false, true_or, or_true, false_or, or_false, if_same0, ite_eq0, ite_eq0', ite_eq1, ite_eq1', or_em, or_em', ite_not, lcmp0, lcmpL, lcmpG, nI_cl_b, eb_in_b, nI_1, nI_pred, Int32.reduceToNatClampNeg, eb_u_ap, Prod.mk.injEq, not_true_eq_false, not_false_eq_true, tyM, rl21, rl25, sp_rg, sp_iI, sp_iG, sp_iS, c6]
      refine ⟨(some (zi 6), I3), rfl, fun a l hal => ?_, fun j' hj' => ?_⟩
      · show I3 a l = I1 a l
        rw [q1 a l (fun q => hal (Or.inr (by rw [q]; exact ⟨rfl, rfl⟩)))]
        have q3 : ¬ a = (38, r, 0) := fun q => hal (Or.inl q)
        simp only [eb_u, q3, false_and, if_false]; exact h2 a l hal
      · show I3 (38, r, 0) j' = 0 ∧ ∀ i, i < 6 → I3 (37, r, j') i = 0
        by_cases q : j' = j
        · subst q
          exact ⟨by rw [q1 _ _ (by simp)]; simp [eb_u], q2⟩
        · have h6 := h3 j' (by omega)
          refine ⟨by rw [q1 _ _ (by simp)]; simp only [eb_u, q, and_false, if_false]; exact h6.1, fun i hi => ?_⟩
          rw [q1 _ _ (by simp [q])]
          simp only [eb_u, Prod.mk.injEq, Nat.reduceEqDiff, false_and, if_false]
          exact h6.2 i hi)
  obtain ⟨o, I2⟩ := t
  have p1 : ∀ a l, ¬ (a = (38, r, 0) ∨ a.1 = 37 ∧ a.2.1 = r) → I2 a l = I1 a l := p1
  have p2 : ∀ j, j < w.2.1 → I2 (38, r, 0) j = 0 ∧ ∀ i, i < 6 → I2 (37, r, j) i = 0 := p2
  have g11 : I2 (21, r, 0) 11 = nI w.2.1 := by rw [p1 _ _ (by simp), e1 _ _ (by simp)]; exact h.1.2.1
  simp only [nI_0] at e'
  rw [e', e195_46]
  simp (decide := true) (disch := omega) only [e195_47, e195_48, e195_51, e195_54, e195_55, e195_58, e195_59, e195_60, e195_61, e195_62, e195_64, e195_66, e195_69, e195_70, e195_73, e195_74, e195_75, e195_76, e195_77, e195_78, e195_81, e195_84, e195_87, e195_90, bi_s, tyX, rl1, rl2, rl4, ↓reduceIte, Option.bind_some, true_and, and_true, false_and, and_false, true_or, or_true, false_or, or_false, if_same0, ite_eq0, ite_eq0', ite_eq1, ite_eq1', or_em, or_em', ite_not, lcmp0, lcmpL, lcmpG, nI_cl_b, eb_in_b, nI_1, nI_pred, Int32.reduceToNatClampNeg, eb_u_ap, Prod.mk.injEq, not_true_eq_false, not_false_eq_true, tyM, rl21, rl25, sp_rg, sp_iI, sp_iG, sp_iS, g11, nI_lt_b, Nat.lt_irrefl]
  refine ⟨I2, rfl, fun a l hal => ?_, fun i hi => ?_, fun j hj => ⟨fun i hi => (p2 j hj).2 i (by omega), (p2 j hj).1⟩⟩
  · rw [p1 a l (fun q => hal (by rcases q with q | q; rw [q]; exact ⟨rfl, by omega, by omega⟩; exact ⟨q.2, by omega, by omega⟩)), e1 a l (fun q => hal (by rcases q with q | q <;> rw [q] <;> exact ⟨rfl, by omega, by omega⟩))]
  · rw [p1 _ _ (by simp), p1 _ _ (by simp), (e2 i hi).1, (e2 i hi).2]
    exact ⟨(Int32.sub_zero _).symm, rfl⟩
theorem m_bestIn {n : Nat} {room G1 said s : Nat → Int32} {hd mo : Int32} {o6 : Option eb_V} (hn : n ≤ 6) (hg : g < 6) (h9 : I (21, r, 0) 9 = nI n) (hG : sp_Gok n room G1) (hl : ∀ i, i < n → I (39, r, 0) i = room i - G1 i) (hs : ∀ i, i < n → I (40, r, 0) i = said i) (hsc : ∀ i, i < n → sp_score (I (21, r, 0) 13) (I (32, r, i)) (I (34, r, g)) (said i) = s i) :
    ∃ o, eb_E L (d + 2) 196 12 [some (zr (21, r, 0)), some (zi (nI g)), some (zi hd), some (zi mo), some (zi (-1)), some (zi 0), o6] [] (nc, ns, I, J, eb_RL C mt mk) = eb_E L (d + 2) 196 95 [some (zr (21, r, 0)), some (zi (nI g)), some (zi hd), some (zi mo), some (zi (sp_enc (sp_best (fun i => decide (G1 i < room i)) s n))), some (zi (nI n)), o] [] (nc, ns, I, J, eb_RL C mt mk) := by
  have hsc2 : ∀ i, i < n → ∀ M', M' = (nc, ns, I, J, eb_RL C mt mk) → eb_ev L (d + 2) 191 [zr (21, r, 0), zi (nI g), zi (nI i), zi (said i)] M' = some (zi (s i), M') := fun i hi M' hM => by rw [hM, m_scoreBy hg (by omega), hsc i hi]
  obtain ⟨o, e, e1⟩ := eb_loop (α := Option eb_V × Int32) (n := n) (s0 := (o6, -1))
    (F := fun i t => eb_E L (d + 2) 196 12 [some (zr (21, r, 0)), some (zi (nI g)), some (zi hd), some (zi mo), some (zi t.2), some (zi (nI i)), t.1] [] (nc, ns, I, J, eb_RL C mt mk))
    (P := fun i t => t.2 = sp_enc (sp_best (fun i => decide (G1 i < room i)) s i))
    rfl (by
      intro i t hi hP
      obtain ⟨o, b0⟩ := t
      have hP : b0 = sp_enc (sp_best (fun i => decide (G1 i < room i)) s i) := hP
      have c : (nI i < nI n) = True := by rw [nI_lt_b (by omega) (by omega)]; exact eq_true hi
      have kl := hl i hi
      have ks := hs i hi
      have s1 := hsc2 i hi _ rfl
      obtain ⟨u, v, u1, u2, u3, u4⟩ := hG i hi
      have hpos : (0 < room i - G1 i) = (G1 i < room i) := by
        rw [u1, u2, nI_sub u3, show (0 : Int32) = nI 0 from rfl, nI_lt_b (by omega) (by omega), nI_lt_b (by omega) (by omega)]
        exact propext ⟨fun q => by omega, fun q => by omega⟩
      have hbs := sp_best_s (has := fun i => decide (G1 i < room i)) (f := s) (n := i)
      rw [e196_12]
      by_cases c1 : G1 i < room i
      · cases hq : sp_best (fun i => decide (G1 i < room i)) s i with
        | none =>
          rw [hq] at hbs hP
          have hbs : sp_best (fun i => decide (G1 i < room i)) s (i + 1) = some i := hbs.trans (if_pos (decide_eq_true c1))
          have hP : b0 = -1 := hP
          simp (decide := true) (disch := omega) only [e196_14, e196_15, e196_18, e196_21, e196_22, e196_25, e196_27, e196_28, e196_31, e196_32, e196_35, e196_36, e196_38, e196_40, e196_43, e196_45, e196_46, e196_49, e196_50, e196_51, e196_53, e196_54, e196_57, e196_59, e196_60, e196_63, e196_64, e196_65, e196_67, e196_68, e196_71, e196_73, e196_74, e196_77, e196_80, e196_82, e196_85, e196_87, e196_89, e196_92, bi_s, tyX, rl1, rl2, rl4, ↓reduceIte, Option.bind_some, true_and, and_true, false_and, and_false, true_or, or_true, false_or, or_false, if_same0, ite_eq0, ite_eq0', ite_eq1, ite_eq1', or_em, or_em', ite_not, lcmp0, lcmpL, lcmpG, nI_cl_b, eb_in_b, nI_1, nI_pred, Int32.reduceToNatClampNeg, eb_u_ap, Prod.mk.injEq, not_true_eq_false, not_false_eq_true, tyM, rl21, rl25, sp_rg, sp_iI, sp_iG, sp_iS, h9, c, kl, hpos, c1, hP]
          exact ⟨(_, nI i), rfl, by rw [hbs]; rfl⟩
        | some b =>
          have hb := (sp_best_lt hq).1
          have s2 := hsc2 b (by omega) _ rfl
          have ks2 := hs b (by omega)
          rw [hq] at hbs hP
          have hP : b0 = nI b := hP
          by_cases c2 : s b < s i
          · have hbs : sp_best (fun i => decide (G1 i < room i)) s (i + 1) = some i := hbs.trans (if_pos ⟨decide_eq_true c1, c2⟩)
            simp (decide := true) (disch := omega) only [e196_14, e196_15, e196_18, e196_21, e196_22, e196_25, e196_27, e196_28, e196_31, e196_32, e196_35, e196_36, e196_38, e196_40, e196_43, e196_45, e196_46, e196_49, e196_50, e196_51, e196_53, e196_54, e196_57, e196_59, e196_60, e196_63, e196_64, e196_65, e196_67, e196_68, e196_71, e196_73, e196_74, e196_77, e196_80, e196_82, e196_85, e196_87, e196_89, e196_92, bi_s, tyX, rl1, rl2, rl4, ↓reduceIte, Option.bind_some, true_and, and_true, false_and, and_false, true_or, or_true, false_or, or_false, if_same0, ite_eq0, ite_eq0', ite_eq1, ite_eq1', or_em, or_em', ite_not, lcmp0, lcmpL, lcmpG, nI_cl_b, eb_in_b, nI_1, nI_pred, Int32.reduceToNatClampNeg, eb_u_ap, Prod.mk.injEq, not_true_eq_false, not_false_eq_true, tyM, rl21, rl25, sp_rg, sp_iI, sp_iG, sp_iS, h9, c, kl, hpos, c1, hP, nI_m1, ks, ks2, s1, s2, c2]
            exact ⟨(_, nI i), rfl, by rw [hbs]; rfl⟩
          · have hbs : sp_best (fun i => decide (G1 i < room i)) s (i + 1) = some b := hbs.trans (if_neg (fun z => c2 z.2))
            simp (decide := true) (disch := omega) only [e196_14, e196_15, e196_18, e196_21, e196_22, e196_25, e196_27, e196_28, e196_31, e196_32, e196_35, e196_36, e196_38, e196_40, e196_43, e196_45, e196_46, e196_49, e196_50, e196_51, e196_53, e196_54, e196_57, e196_59, e196_60, e196_63, e196_64, e196_65, e196_67, e196_68, e196_71, e196_73, e196_74, e196_77, e196_80, e196_82, e196_85, e196_87, e196_89, e196_92, bi_s, tyX, rl1, rl2, rl4, ↓reduceIte, Option.bind_some, true_and, and_true, false_and, and_false, true_or, or_true, false_or, or_false, if_same0, ite_eq0, ite_eq0', ite_eq1, ite_eq1', or_em, or_em', ite_not, lcmp0, lcmpL, lcmpG, nI_cl_b, eb_in_b, nI_1, nI_pred, Int32.reduceToNatClampNeg, eb_u_ap, Prod.mk.injEq, not_true_eq_false, not_false_eq_true, tyM, rl21, rl25, sp_rg, sp_iI, sp_iG, sp_iS, h9, c, kl, hpos, c1, hP, nI_m1, ks, ks2, s1, s2, c2]
            exact ⟨(_, nI b), rfl, by rw [hbs]; rfl⟩
      · have hbs : sp_best (fun i => decide (G1 i < room i)) s (i + 1) = sp_best (fun i => decide (G1 i < room i)) s i := by
          rw [hbs]
          cases sp_best (fun i => decide (G1 i < room i)) s i with
          | none => simp [c1]
          | some b => simp [c1]
        simp (decide := true) (disch := omega) only [e196_14, e196_15, e196_18, e196_21, e196_22, e196_25, e196_27, e196_28, e196_31, e196_32, e196_35, e196_36, e196_38, e196_40, e196_43, e196_45, e196_46, e196_49, e196_50, e196_51, e196_53, e196_54, e196_57, e196_59, e196_60, e196_63, e196_64, e196_65, e196_67, e196_68, e196_71, e196_73, e196_74, e196_77, e196_80, e196_82, e196_85, e196_87, e196_89, e196_92, bi_s, tyX, rl1, rl2, rl4, ↓reduceIte, Option.bind_some, true_and, and_true, false_and, and_false, true_or, or_true, false_or, or_false, if_same0, ite_eq0, ite_eq0', ite_eq1, ite_eq1', or_em, or_em', ite_not, lcmp0, lcmpL, lcmpG, nI_cl_b, eb_in_b, nI_1, nI_pred, Int32.reduceToNatClampNeg, eb_u_ap, Prod.mk.injEq, not_true_eq_false, not_false_eq_true, tyM, rl21, rl25, sp_rg, sp_iI, sp_iG, sp_iS, h9, c, kl, hpos, c1]
        exact ⟨(_, b0), rfl, by rw [hbs]; exact hP⟩)
  obtain ⟨o, b0⟩ := o
  have e1 : b0 = sp_enc (sp_best (fun i => decide (G1 i < room i)) s n) := e1
  simp only [nI_0] at e
  rw [e, e1, e196_12]
  simp (decide := true) (disch := omega) only [e196_14, e196_15, e196_18, bi_s, tyX, rl1, rl2, rl4, ↓reduceIte, Option.bind_some, true_and, and_true, false_and, and_false, true_or, or_true, false_or, or_false, if_same0, ite_eq0, ite_eq0', ite_eq1, ite_eq1', or_em, or_em', ite_not, lcmp0, lcmpL, lcmpG, nI_cl_b, eb_in_b, nI_1, nI_pred, Int32.reduceToNatClampNeg, eb_u_ap, Prod.mk.injEq, not_true_eq_false, not_false_eq_true, tyM, rl21, rl25, sp_rg, sp_iI, sp_iG, sp_iS, h9, nI_lt_b, Nat.lt_irrefl]
  exact ⟨o, rfl⟩
end

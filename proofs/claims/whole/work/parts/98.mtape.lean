/-! the tape: its tokens, as the reference reads them -/
def eb_TM (I : eb_A → Nat → Int32) (T : eb_Tp) : Prop := I (21, 0, 0) 7 = nI T.2 ∧ ∀ j, j < T.2 → I (29, 0, 0) j = T.1 j
def eb_KM (I : eb_A → Nat → Int32) (T : eb_Tp) (k : eb_K) : Prop := I (21, 0, 0) 20 = nI k.2.1 ∧ I (21, 0, 0) 18 = nI k.2.2 ∧ I (21, 0, 0) 19 = k.1 ∧ (k.1 = 2 → I (21, 0, 0) 21 = sk_fig T k)
/-- only the token differs -/
def eb_fl (I I' : eb_A → Nat → Int32) : Prop := ∀ a l, ¬ (a = (21, 0, 0) ∧ 18 ≤ l ∧ l ≤ 21) → I' a l = I a l
/-- only the token, what was told, the fault differ -/
def eb_fq (I I' : eb_A → Nat → Int32) : Prop := ∀ a l, ¬ (a = (21, 0, 0) ∧ 18 ≤ l ∧ l ≤ 22) → ¬ a = (35, 0, 0) → I' a l = I a l
theorem eb_fl_rf {I : eb_A → Nat → Int32} : eb_fl I I := fun _ _ _ => rfl
theorem eb_fl_tr {I I1 I2 : eb_A → Nat → Int32} (h1 : eb_fl I I1) (h2 : eb_fl I1 I2) : eb_fl I I2 := fun a l h => (h2 a l h).trans (h1 a l h)
theorem eb_fl_u {I : eb_A → Nat → Int32} {l : Nat} {x : Int32} (h : 18 ≤ l ∧ l ≤ 21) : eb_fl I (eb_u I (21, 0, 0) l x) := fun a l' q => if_neg (fun z => q ⟨z.1, by rw [z.2]; exact h⟩)
theorem eb_fq_rf {I : eb_A → Nat → Int32} : eb_fq I I := fun _ _ _ _ => rfl
theorem eb_fq_tr {I I1 I2 : eb_A → Nat → Int32} (h1 : eb_fq I I1) (h2 : eb_fq I1 I2) : eb_fq I I2 := fun a l h q => (h2 a l h q).trans (h1 a l h q)
theorem eb_fl_q {I I1 : eb_A → Nat → Int32} (h : eb_fl I I1) : eb_fq I I1 := fun a l q _ => h a l (fun z => q ⟨z.1, z.2.1, by omega⟩)
theorem eb_fq_TM {I I1 : eb_A → Nat → Int32} {T : eb_Tp} (h : eb_fq I I1) (q : eb_TM I T) : eb_TM I1 T := ⟨(h _ _ (fun z => by omega) (by simp)).trans q.1, fun j hj => (h _ _ (by simp) (by simp)).trans (q.2 j hj)⟩
theorem eb_fq_RM {I I1 : eb_A → Nat → Int32} {w : eb_W} (h : eb_fq I I1) (q : eb_RM I 0 w) : eb_RM I1 0 w := eb_RM_of q (fun l _ _ => h _ _ (fun z => by omega) (by simp)) (fun i l => h _ _ (by simp) (by simp)) (fun j l => h _ _ (by simp) (by simp))
theorem eb_fq_gv {I I1 : eb_A → Nat → Int32} (h : eb_fq I I1) : eb_gv 0 I I1 := fun a l q => h a l (fun z => q (by rw [z.1]; exact ⟨rfl, Or.inr (Or.inr (Or.inr (Or.inr ⟨rfl, by omega⟩)))⟩)) (fun z => q (by rw [z]; exact ⟨rfl, Or.inr (Or.inr (Or.inl rfl))⟩))
theorem sk_kind_l {b : Int32} (hb : 0 ≤ b) : (97 ≤ b ∧ b ≤ 122 ↔ sk_kind b = 1) ∧ (48 ≤ b ∧ b ≤ 57 ↔ sk_kind b = 2) ∧ (¬ (97 ≤ b ∧ b ≤ 122) → ¬ (48 ≤ b ∧ b ≤ 57) → sk_kind b = if b = 59 then 3 else 4) := by
  have h0 : ¬ b = -1 := fun q => by rw [q] at hb; exact absurd hb (by decide)
  unfold sk_kind
  rw [if_neg h0]
  by_cases c1 : 97 ≤ b ∧ b ≤ 122
  · rw [if_pos c1]
    refine ⟨⟨fun _ => rfl, fun _ => c1⟩, ⟨fun q => absurd (Int32.le_trans c1.1 q.2) (by decide), fun q => absurd q (by decide)⟩, fun z => absurd c1 z⟩
  · rw [if_neg c1]
    by_cases c2 : 48 ≤ b ∧ b ≤ 57
    · rw [if_pos c2]
      exact ⟨⟨fun q => absurd q c1, fun q => absurd q (by decide)⟩, ⟨fun _ => rfl, fun _ => c2⟩, fun _ z => absurd c2 z⟩
    · rw [if_neg c2]
      refine ⟨⟨fun q => absurd q c1, fun q => ?_⟩, ⟨fun q => absurd q c2, fun q => ?_⟩, fun _ _ => rfl⟩
      · split at q <;> exact absurd q (by decide)
      · split at q <;> exact absurd q (by decide)
section
variable {L d nc ns k i g : Nat} {I : eb_A → Nat → Int32} {J : eb_A → Nat → Int64} {C : Nat → Nat → Nat} {mt mk : Option Nat} {w : eb_W} {R : eb_A → Nat → Option eb_A} {S : eb_St} {M : eb_M} {T : eb_Tp} {K : eb_K} {x : Int32}
theorem m_isLetter : eb_ev L (d + 1) 175 [zi x] M = some (zi (if 97 ≤ x ∧ x ≤ 122 then 1 else 0), M) := by
  rw [h175]
  by_cases c1 : x < 97
  · have c2 : ¬ (97 ≤ x ∧ x ≤ 122) := fun q => absurd c1 (Int32.not_lt.mpr q.1)
    rw [if_neg c2]
    simp (decide := true) (disch := omega) only [e175_0, e175_1, e175_3, e175_6, e175_7, e175_9, e175_12, e175_13, e175_16, e175_17, bi_s, tyX, rl1, rl2, rl4, ↓reduceIte, Option.bind_some, true_and, and_true, false_and, and_false, true_or, or_true, false_or, or_false, if_same0, ite_eq0, ite_eq0', ite_eq1, ite_eq1', or_em, or_em', ite_not, lcmp0, lcmpL, lcmpG, nI_cl_b, eb_in_b, nI_1, nI_pred, Int32.reduceToNatClampNeg, eb_u_ap, Prod.mk.injEq, not_true_eq_false, not_false_eq_true, tyM, rl21, rl25, sp_rg, sp_iI, sp_iG, sp_iS, c1]
  · by_cases c3 : 122 < x
    · have c2 : ¬ (97 ≤ x ∧ x ≤ 122) := fun q => absurd c3 (Int32.not_lt.mpr q.2)
      rw [if_neg c2]
      simp (decide := true) (disch := omega) only [e175_0, e175_1, e175_3, e175_6, e175_7, e175_9, e175_12, e175_13, e175_16, e175_17, bi_s, tyX, rl1, rl2, rl4, ↓reduceIte, Option.bind_some, true_and, and_true, false_and, and_false, true_or, or_true, false_or, or_false, if_same0, ite_eq0, ite_eq0', ite_eq1, ite_eq1', or_em, or_em', ite_not, lcmp0, lcmpL, lcmpG, nI_cl_b, eb_in_b, nI_1, nI_pred, Int32.reduceToNatClampNeg, eb_u_ap, Prod.mk.injEq, not_true_eq_false, not_false_eq_true, tyM, rl21, rl25, sp_rg, sp_iI, sp_iG, sp_iS, c1, c3]
    · rw [if_pos ⟨Int32.not_lt.mp c1, Int32.not_lt.mp c3⟩]
      simp (decide := true) (disch := omega) only [e175_0, e175_1, e175_3, e175_6, e175_7, e175_9, e175_12, e175_13, e175_16, e175_17, bi_s, tyX, rl1, rl2, rl4, ↓reduceIte, Option.bind_some, true_and, and_true, false_and, and_false, true_or, or_true, false_or, or_false, if_same0, ite_eq0, ite_eq0', ite_eq1, ite_eq1', or_em, or_em', ite_not, lcmp0, lcmpL, lcmpG, nI_cl_b, eb_in_b, nI_1, nI_pred, Int32.reduceToNatClampNeg, eb_u_ap, Prod.mk.injEq, not_true_eq_false, not_false_eq_true, tyM, rl21, rl25, sp_rg, sp_iI, sp_iG, sp_iS, c1, c3]
theorem m_isDigit : eb_ev L (d + 1) 176 [zi x] M = some (zi (if 48 ≤ x ∧ x ≤ 57 then 1 else 0), M) := by
  rw [h176]
  by_cases c1 : x < 48
  · have c2 : ¬ (48 ≤ x ∧ x ≤ 57) := fun q => absurd c1 (Int32.not_lt.mpr q.1)
    rw [if_neg c2]
    simp (decide := true) (disch := omega) only [e176_0, e176_1, e176_3, e176_6, e176_7, e176_9, e176_12, e176_13, e176_16, e176_17, bi_s, tyX, rl1, rl2, rl4, ↓reduceIte, Option.bind_some, true_and, and_true, false_and, and_false, true_or, or_true, false_or, or_false, if_same0, ite_eq0, ite_eq0', ite_eq1, ite_eq1', or_em, or_em', ite_not, lcmp0, lcmpL, lcmpG, nI_cl_b, eb_in_b, nI_1, nI_pred, Int32.reduceToNatClampNeg, eb_u_ap, Prod.mk.injEq, not_true_eq_false, not_false_eq_true, tyM, rl21, rl25, sp_rg, sp_iI, sp_iG, sp_iS, c1]
  · by_cases c3 : 57 < x
    · have c2 : ¬ (48 ≤ x ∧ x ≤ 57) := fun q => absurd c3 (Int32.not_lt.mpr q.2)
      rw [if_neg c2]
      simp (decide := true) (disch := omega) only [e176_0, e176_1, e176_3, e176_6, e176_7, e176_9, e176_12, e176_13, e176_16, e176_17, bi_s, tyX, rl1, rl2, rl4, ↓reduceIte, Option.bind_some, true_and, and_true, false_and, and_false, true_or, or_true, false_or, or_false, if_same0, ite_eq0, ite_eq0', ite_eq1, ite_eq1', or_em, or_em', ite_not, lcmp0, lcmpL, lcmpG, nI_cl_b, eb_in_b, nI_1, nI_pred, Int32.reduceToNatClampNeg, eb_u_ap, Prod.mk.injEq, not_true_eq_false, not_false_eq_true, tyM, rl21, rl25, sp_rg, sp_iI, sp_iG, sp_iS, c1, c3]
    · rw [if_pos ⟨Int32.not_lt.mp c1, Int32.not_lt.mp c3⟩]
      simp (decide := true) (disch := omega) only [e176_0, e176_1, e176_3, e176_6, e176_7, e176_9, e176_12, e176_13, e176_16, e176_17, bi_s, tyX, rl1, rl2, rl4, ↓reduceIte, Option.bind_some, true_and, and_true, false_and, and_false, true_or, or_true, false_or, or_false, if_same0, ite_eq0, ite_eq0', ite_eq1, ite_eq1', or_em, or_em', ite_not, lcmp0, lcmpL, lcmpG, nI_cl_b, eb_in_b, nI_1, nI_pred, Int32.reduceToNatClampNeg, eb_u_ap, Prod.mk.injEq, not_true_eq_false, not_false_eq_true, tyM, rl21, rl25, sp_rg, sp_iI, sp_iG, sp_iS, c1, c3]
theorem m_skip (ht : sk_okT T) : ∀ f p (I : eb_A → Nat → Int32), p + f = T.2 → eb_TM I T → I (21, 0, 0) 18 = nI p → ∃ I', eb_E L (d + 1) 177 0 [some (zr (21, 0, 0))] [] (nc, ns, I, J, eb_RL C mt mk) = eb_E L (d + 1) 177 38 [some (zr (21, 0, 0))] [] (nc, ns, I', J, eb_RL C mt mk) ∧ I' (21, 0, 0) 18 = nI (sk_skip T p f) ∧ eb_fl I I' := by
  have h2 := ht.1
  intro f
  induction f with
  | zero =>
    intro p I hp h h18
    have hp : p = T.2 := hp
    rw [e177_0]
    simp (decide := true) (disch := omega) only [e177_1, e177_4, e177_5, e177_8, e177_11, e177_12, e177_15, e177_16, e177_19, e177_20, e177_22, e177_25, e177_26a, e177_26b, e177_27, e177_30, e177_31, e177_32, e177_35, bi_s, tyX, rl1, rl2, rl4, ↓reduceIte, Option.bind_some, true_and, and_true, false_and, and_false, true_or, or_true, false_or, or_false, if_same0, ite_eq0, ite_eq0', ite_eq1, ite_eq1', or_em, or_em', ite_not, lcmp0, lcmpL, lcmpG, nI_cl_b, eb_in_b, nI_1, nI_pred, Int32.reduceToNatClampNeg, eb_u_ap, Prod.mk.injEq, not_true_eq_false, not_false_eq_true, tyM, rl21, rl25, sp_rg, sp_iI, sp_iG, sp_iS, h.1, h18, hp, nI_lt_b, Nat.lt_irrefl]
    exact ⟨I, rfl, by rw [h18, hp]; rfl, eb_fl_rf⟩
  | succ f ih =>
    intro p I hp h h18
    have c : (nI p < nI T.2) = True := by rw [nI_lt_b (by omega) (by omega)]; exact eq_true (by omega)
    have hb := h.2 p (by omega)
    have hp2 : p < 250 := by omega
    rw [e177_0]
    by_cases c1 : T.1 p = 32
    · have hs : sk_skip T p (f + 1) = sk_skip T (p + 1) f := if_pos c1
      have f1 : eb_fl I (eb_u I (21, 0, 0) 18 (nI (p + 1))) := eb_fl_u ⟨by omega, by omega⟩
      obtain ⟨I', a1, a2, a3⟩ := ih (p + 1) (eb_u I (21, 0, 0) 18 (nI (p + 1))) (by omega) (eb_fq_TM (eb_fl_q f1) h) eb_u_s
      refine ⟨I', ?_, by rw [hs]; exact a2, eb_fl_tr f1 a3⟩
      rw [← a1]
      simp (decide := true) (disch := omega) only [e177_1, e177_4, e177_5, e177_8, e177_11, e177_12, e177_15, e177_16, e177_19, e177_20, e177_22, e177_25, e177_26a, e177_26b, e177_27, e177_30, e177_31, e177_32, e177_35, bi_s, tyX, rl1, rl2, rl4, ↓reduceIte, Option.bind_some, true_and, and_true, false_and, and_false, true_or, or_true, false_or, or_false, if_same0, ite_eq0, ite_eq0', ite_eq1, ite_eq1', or_em, or_em', ite_not, lcmp0, lcmpL, lcmpG, nI_cl_b, eb_in_b, nI_1, nI_pred, Int32.reduceToNatClampNeg, eb_u_ap, Prod.mk.injEq, not_true_eq_false, not_false_eq_true, tyM, rl21, rl25, sp_rg, sp_iI, sp_iG, sp_iS, h.1, h18, c, hb, c1]
    · have hs : sk_skip T p (f + 1) = p := if_neg c1
      simp (decide := true) (disch := omega) only [e177_1, e177_4, e177_5, e177_8, e177_11, e177_12, e177_15, e177_16, e177_19, e177_20, e177_22, e177_25, e177_26a, e177_26b, e177_27, e177_30, e177_31, e177_32, e177_35, bi_s, tyX, rl1, rl2, rl4, ↓reduceIte, Option.bind_some, true_and, and_true, false_and, and_false, true_or, or_true, false_or, or_false, if_same0, ite_eq0, ite_eq0', ite_eq1, ite_eq1', or_em, or_em', ite_not, lcmp0, lcmpL, lcmpG, nI_cl_b, eb_in_b, nI_1, nI_pred, Int32.reduceToNatClampNeg, eb_u_ap, Prod.mk.injEq, not_true_eq_false, not_false_eq_true, tyM, rl21, rl25, sp_rg, sp_iI, sp_iG, sp_iS, h.1, h18, c, hb, c1]
      exact ⟨I, rfl, by rw [hs]; exact h18, eb_fl_rf⟩
theorem m_run (ht : sk_okT T) : ∀ f p (I : eb_A → Nat → Int32), p + f = T.2 → eb_TM I T → I (21, 0, 0) 18 = nI p → ∃ I', eb_E L (d + 1) 177 90 [some (zr (21, 0, 0))] [] (nc, ns, I, J, eb_RL C mt mk) = eb_E L (d + 1) 177 263 [some (zr (21, 0, 0))] [] (nc, ns, I', J, eb_RL C mt mk) ∧ I' (21, 0, 0) 18 = nI (sk_run T 1 p f) ∧ ∀ a l, ¬ (a = (21, 0, 0) ∧ l = 18) → I' a l = I a l := by
  have h2 := ht.1
  intro f
  induction f with
  | zero =>
    intro p I hp h h18
    have hp : p = T.2 := hp
    rw [e177_90]
    simp (decide := true) (disch := omega) only [e177_91, e177_94, e177_95, e177_98, e177_101, e177_102, e177_105, e177_106, e177_109, e177_110, e177_113, e177_116, e177_117a, e177_117b, e177_118, e177_121, e177_122, e177_123, e177_126, bi_s, tyX, rl1, rl2, rl4, ↓reduceIte, Option.bind_some, true_and, and_true, false_and, and_false, true_or, or_true, false_or, or_false, if_same0, ite_eq0, ite_eq0', ite_eq1, ite_eq1', or_em, or_em', ite_not, lcmp0, lcmpL, lcmpG, nI_cl_b, eb_in_b, nI_1, nI_pred, Int32.reduceToNatClampNeg, eb_u_ap, Prod.mk.injEq, not_true_eq_false, not_false_eq_true, tyM, rl21, rl25, sp_rg, sp_iI, sp_iG, sp_iS, h.1, h18, hp, nI_lt_b, Nat.lt_irrefl]
    exact ⟨I, rfl, by rw [h18, hp]; rfl, fun _ _ _ => rfl⟩
  | succ f ih =>
    intro p I hp h h18
    have c : (nI p < nI T.2) = True := by rw [nI_lt_b (by omega) (by omega)]; exact eq_true (by omega)
    have hb := h.2 p (by omega)
    have hp2 : p < 250 := by omega
    have hk := (sk_kind_l (ht.2 p (by omega)).1).1
    rw [e177_90]
    by_cases c1 : 97 ≤ T.1 p ∧ T.1 p ≤ 122
    · have hs : sk_run T 1 p (f + 1) = sk_run T 1 (p + 1) f := if_pos (hk.mp c1)
      have f1 : eb_fl I (eb_u I (21, 0, 0) 18 (nI (p + 1))) := eb_fl_u ⟨by omega, by omega⟩
      obtain ⟨I', a1, a2, a3⟩ := ih (p + 1) (eb_u I (21, 0, 0) 18 (nI (p + 1))) (by omega) (eb_fq_TM (eb_fl_q f1) h) eb_u_s
      refine ⟨I', ?_, by rw [hs]; exact a2, fun a l q => (a3 a l q).trans (if_neg q)⟩
      rw [← a1]
      simp (decide := true) (disch := omega) only [e177_91, e177_94, e177_95, e177_98, e177_101, e177_102, e177_105, e177_106, e177_109, e177_110, e177_113, e177_116, e177_117a, e177_117b, e177_118, e177_121, e177_122, e177_123, e177_126, bi_s, tyX, rl1, rl2, rl4, ↓reduceIte, Option.bind_some, true_and, and_true, false_and, and_false, true_or, or_true, false_or, or_false, if_same0, ite_eq0, ite_eq0', ite_eq1, ite_eq1', or_em, or_em', ite_not, lcmp0, lcmpL, lcmpG, nI_cl_b, eb_in_b, nI_1, nI_pred, Int32.reduceToNatClampNeg, eb_u_ap, Prod.mk.injEq, not_true_eq_false, not_false_eq_true, tyM, rl21, rl25, sp_rg, sp_iI, sp_iG, sp_iS, h.1, h18, c, hb, m_isLetter, c1]
    · have hs : sk_run T 1 p (f + 1) = p := if_neg (fun q => c1 (hk.mpr q))
      simp (decide := true) (disch := omega) only [e177_91, e177_94, e177_95, e177_98, e177_101, e177_102, e177_105, e177_106, e177_109, e177_110, e177_113, e177_116, e177_117a, e177_117b, e177_118, e177_121, e177_122, e177_123, e177_126, bi_s, tyX, rl1, rl2, rl4, ↓reduceIte, Option.bind_some, true_and, and_true, false_and, and_false, true_or, or_true, false_or, or_false, if_same0, ite_eq0, ite_eq0', ite_eq1, ite_eq1', or_em, or_em', ite_not, lcmp0, lcmpL, lcmpG, nI_cl_b, eb_in_b, nI_1, nI_pred, Int32.reduceToNatClampNeg, eb_u_ap, Prod.mk.injEq, not_true_eq_false, not_false_eq_true, tyM, rl21, rl25, sp_rg, sp_iI, sp_iG, sp_iS, h.1, h18, c, hb, m_isLetter, c1]
      exact ⟨I, rfl, by rw [hs]; exact h18, fun _ _ _ => rfl⟩
def sk_figN (T : eb_Tp) (s n : Nat) : Int32 := if n ≤ 3 then sk_dig T s n else 100000
theorem m_runD (ht : sk_okT T) {s : Nat} : ∀ f p (I : eb_A → Nat → Int32), p + f = T.2 → s ≤ p → eb_TM I T → I (21, 0, 0) 18 = nI p → I (21, 0, 0) 20 = nI s → I (21, 0, 0) 21 = sk_figN T s (p - s) → ∃ I', eb_E L (d + 1) 177 149 [some (zr (21, 0, 0))] [] (nc, ns, I, J, eb_RL C mt mk) = eb_E L (d + 1) 177 263 [some (zr (21, 0, 0))] [] (nc, ns, I', J, eb_RL C mt mk) ∧ I' (21, 0, 0) 18 = nI (sk_run T 2 p f) ∧ I' (21, 0, 0) 21 = sk_figN T s (sk_run T 2 p f - s) ∧ ∀ a l, ¬ (a = (21, 0, 0) ∧ (l = 18 ∨ l = 21)) → I' a l = I a l := by
  have h2 := ht.1
  intro f
  induction f with
  | zero =>
    intro p I hp hsp h h18 h20 h21
    have hp : p = T.2 := hp
    rw [e177_149]
    simp (decide := true) (disch := omega) only [e177_150, e177_153, e177_154, e177_157, e177_160, e177_161, e177_164, e177_165, e177_168, e177_169, e177_172, e177_175, e177_176, e177_177, e177_180, e177_181, e177_184, e177_185, e177_186, e177_189, e177_190, e177_193, e177_195, e177_196, e177_197, e177_200, e177_201, e177_204, e177_205, e177_206, e177_208, e177_209, e177_212, e177_214, e177_217, e177_218a, e177_218b, e177_219, e177_222, e177_223, e177_224, e177_227, bi_s, tyX, rl1, rl2, rl4, ↓reduceIte, Option.bind_some, true_and, and_true, false_and, and_false, true_or, or_true, false_or, or_false, if_same0, ite_eq0, ite_eq0', ite_eq1, ite_eq1', or_em, or_em', ite_not, lcmp0, lcmpL, lcmpG, nI_cl_b, eb_in_b, nI_1, nI_pred, Int32.reduceToNatClampNeg, eb_u_ap, Prod.mk.injEq, not_true_eq_false, not_false_eq_true, tyM, rl21, rl25, sp_rg, sp_iI, sp_iG, sp_iS, h.1, h18, hp, nI_lt_b, Nat.lt_irrefl]
    exact ⟨I, rfl, by rw [h18, hp]; rfl, by rw [h21, hp]; rfl, fun _ _ _ => rfl⟩
  | succ f ih =>
    intro p I hp hsp h h18 h20 h21
    have c : (nI p < nI T.2) = True := by rw [nI_lt_b (by omega) (by omega)]; exact eq_true (by omega)
    have hb := h.2 p (by omega)
    have hp2 : p < 250 := by omega
    have hk := (sk_kind_l (ht.2 p (by omega)).1).2.1
    rw [e177_149]
    by_cases c1 : 48 ≤ T.1 p ∧ T.1 p ≤ 57
    · have hs : sk_run T 2 p (f + 1) = sk_run T 2 (p + 1) f := if_pos (hk.mp c1)
      have hsub : nI p - nI s = nI (p - s) := nI_sub hsp
      have go : ∀ v, v = sk_figN T s (p + 1 - s) → ∃ I', eb_E L (d + 1) 177 149 [some (zr (21, 0, 0))] [] (nc, ns, eb_u (eb_u I (21, 0, 0) 21 v) (21, 0, 0) 18 (nI (p + 1)), J, eb_RL C mt mk) = eb_E L (d + 1) 177 263 [some (zr (21, 0, 0))] [] (nc, ns, I', J, eb_RL C mt mk) ∧ I' (21, 0, 0) 18 = nI (sk_run T 2 p (f + 1)) ∧ I' (21, 0, 0) 21 = sk_figN T s (sk_run T 2 p (f + 1) - s) ∧ ∀ a l, ¬ (a = (21, 0, 0) ∧ (l = 18 ∨ l = 21)) → I' a l = I a l := by
        intro v hv
        have f1 : eb_fl I (eb_u (eb_u I (21, 0, 0) 21 v) (21, 0, 0) 18 (nI (p + 1))) := eb_fl_tr (eb_fl_u ⟨by omega, by omega⟩) (eb_fl_u ⟨by omega, by omega⟩)
        obtain ⟨I', a1, a2, a3, a4⟩ := ih (p + 1) (eb_u (eb_u I (21, 0, 0) 21 v) (21, 0, 0) 18 (nI (p + 1))) (by omega) (by omega) (eb_fq_TM (eb_fl_q f1) h) eb_u_s (by simp [eb_u, h20]) (by simp [eb_u, hv])
        refine ⟨I', a1, by rw [hs]; exact a2, by rw [hs]; exact a3, fun a l q => ?_⟩
        rw [a4 a l q]
        have q1 : ¬ (a = (21, 0, 0) ∧ l = 18) := fun z => q ⟨z.1, Or.inl z.2⟩
        have q2 : ¬ (a = (21, 0, 0) ∧ l = 21) := fun z => q ⟨z.1, Or.inr z.2⟩
        simp only [eb_u, q1, q2, if_false]
      by_cases c3 : p - s < 3
      · have c4 : (nI (p - s) < 3) = True := by rw [show (3 : Int32) = nI 3 from rfl, nI_lt_b (by omega) (by omega)]; exact eq_true c3
        have hv : sk_dig T s (p - s) * 10 + T.1 p - 48 = sk_figN T s (p + 1 - s) := by
          unfold sk_figN
          rw [if_pos (by omega), show p + 1 - s = (p - s) + 1 by omega]
          show _ = 10 * sk_dig T s (p - s) + T.1 (s + (p - s)) - 48
          rw [show s + (p - s) = p by omega, Int32.mul_comm]
        have h21 : I (21, 0, 0) 21 = sk_dig T s (p - s) := h21.trans (if_pos (by omega))
        obtain ⟨I', a1, a2⟩ := go _ hv
        refine ⟨I', ?_, a2⟩
        rw [← a1]
        simp (decide := true) (disch := omega) only [e177_150, e177_153, e177_154, e177_157, e177_160, e177_161, e177_164, e177_165, e177_168, e177_169, e177_172, e177_175, e177_176, e177_177, e177_180, e177_181, e177_184, e177_185, e177_186, e177_189, e177_190, e177_193, e177_195, e177_196, e177_197, e177_200, e177_201, e177_204, e177_205, e177_206, e177_208, e177_209, e177_212, e177_214, e177_217, e177_218a, e177_218b, e177_219, e177_222, e177_223, e177_224, e177_227, bi_s, tyX, rl1, rl2, rl4, ↓reduceIte, Option.bind_some, true_and, and_true, false_and, and_false, true_or, or_true, false_or, or_false, if_same0, ite_eq0, ite_eq0', ite_eq1, ite_eq1', or_em, or_em', ite_not, lcmp0, lcmpL, lcmpG, nI_cl_b, eb_in_b, nI_1, nI_pred, Int32.reduceToNatClampNeg, eb_u_ap, Prod.mk.injEq, not_true_eq_false, not_false_eq_true, tyM, rl21, rl25, sp_rg, sp_iI, sp_iG, sp_iS, h.1, h18, h20, h21, c, hb, m_isDigit, c1, hsub, c4]
      · have c4 : (nI (p - s) < 3) = False := by rw [show (3 : Int32) = nI 3 from rfl, nI_lt_b (by omega) (by omega)]; exact eq_false c3
        have hv : (100000 : Int32) = sk_figN T s (p + 1 - s) := (if_neg (by omega)).symm
        obtain ⟨I', a1, a2⟩ := go _ hv
        refine ⟨I', ?_, a2⟩
        rw [← a1]
        simp (decide := true) (disch := omega) only [e177_150, e177_153, e177_154, e177_157, e177_160, e177_161, e177_164, e177_165, e177_168, e177_169, e177_172, e177_175, e177_176, e177_177, e177_180, e177_181, e177_184, e177_185, e177_186, e177_189, e177_190, e177_193, e177_195, e177_196, e177_197, e177_200, e177_201, e177_204, e177_205, e177_206, e177_208, e177_209, e177_212, e177_214, e177_217, e177_218a, e177_218b, e177_219, e177_222, e177_223, e177_224, e177_227, bi_s, tyX, rl1, rl2, rl4, ↓reduceIte, Option.bind_some, true_and, and_true, false_and, and_false, true_or, or_true, false_or, or_false, if_same0, ite_eq0, ite_eq0', ite_eq1, ite_eq1', or_em, or_em', ite_not, lcmp0, lcmpL, lcmpG, nI_cl_b, eb_in_b, nI_1, nI_pred, Int32.reduceToNatClampNeg, eb_u_ap, Prod.mk.injEq, not_true_eq_false, not_false_eq_true, tyM, rl21, rl25, sp_rg, sp_iI, sp_iG, sp_iS, h.1, h18, h20, c, hb, m_isDigit, c1, hsub, c4]
    · have hs : sk_run T 2 p (f + 1) = p := if_neg (fun q => c1 (hk.mpr q))
      simp (decide := true) (disch := omega) only [e177_150, e177_153, e177_154, e177_157, e177_160, e177_161, e177_164, e177_165, e177_168, e177_169, e177_172, e177_175, e177_176, e177_177, e177_180, e177_181, e177_184, e177_185, e177_186, e177_189, e177_190, e177_193, e177_195, e177_196, e177_197, e177_200, e177_201, e177_204, e177_205, e177_206, e177_208, e177_209, e177_212, e177_214, e177_217, e177_218a, e177_218b, e177_219, e177_222, e177_223, e177_224, e177_227, bi_s, tyX, rl1, rl2, rl4, ↓reduceIte, Option.bind_some, true_and, and_true, false_and, and_false, true_or, or_true, false_or, or_false, if_same0, ite_eq0, ite_eq0', ite_eq1, ite_eq1', or_em, or_em', ite_not, lcmp0, lcmpL, lcmpG, nI_cl_b, eb_in_b, nI_1, nI_pred, Int32.reduceToNatClampNeg, eb_u_ap, Prod.mk.injEq, not_true_eq_false, not_false_eq_true, tyM, rl21, rl25, sp_rg, sp_iI, sp_iG, sp_iS, h.1, h18, c, hb, m_isDigit, c1]
      exact ⟨I, rfl, by rw [hs]; exact h18, by rw [hs]; exact h21, fun _ _ _ => rfl⟩
end

/-! the class's object: what holds a state; its private methods -/
def eb_XS (S : eb_St) (I : eb_A → Nat → Int32) (J : eb_A → Nat → Int64) : Prop :=
  eb_RX I 0 S.1 ∧ (I (1, 0, 0) 3 = (if S.2.1 = none then 0 else 1) ∧ ∀ p, S.2.1 = some p → eb_RX I 2 p) ∧
  (∀ s, s < 8 → I (3, 0, s) 0 = ss_h S s ∧ (sp_rg (ss_h S s) 0 4 → I (3, 0, s) 1 = nI (ss_n S s) ∧ ∀ j, j < 40 → J (12, 0, s) j = ss_e S s j)) ∧
  (I (13, 0, 0) 1 = nI (ss_t S).2 ∧ ∀ j, j < (ss_t S).2 → I (14, 0, 0) j = (ss_t S).1 j) ∧ ∀ r, r < 5 → I (15, 0, 0) r = ss_r S r
def sp_St (S : eb_St) : Prop :=
  sp_ok S.1 ∧ (∀ p, S.2.1 = some p → sp_ok p) ∧ (∀ s, s < 8 → ss_h S s = -1 ∨ (sp_rg (ss_h S s) 0 4 ∧ ss_n S s ≤ 40) ∨ ∃ g, g < S.1.2.1 ∧ ss_h S s = nI (10 + g)) ∧
  ((ss_t S).2 ≤ 250 ∧ ∀ j, j < (ss_t S).2 → sp_rg ((ss_t S).1 j) 0 255)
/-- only the class's cells differ -/
def eb_fX (I I' : eb_A → Nat → Int32) : Prop := ∀ a l, ¬ (1 ≤ a.1 ∧ a.1 ≤ 15) → I' a l = I a l
def eb_fJ (J J' : eb_A → Nat → Int64) : Prop := ∀ a l, ¬ (1 ≤ a.1 ∧ a.1 ≤ 15) → J' a l = J a l
theorem eb_fX_rf {I : eb_A → Nat → Int32} : eb_fX I I := fun _ _ _ => rfl
theorem eb_fJ_rf {I : eb_A → Nat → Int64} : eb_fJ I I := fun _ _ _ => rfl
theorem eb_fX_tr {I I1 I2 : eb_A → Nat → Int32} (h1 : eb_fX I I1) (h2 : eb_fX I1 I2) : eb_fX I I2 := fun a l h => (h2 a l h).trans (h1 a l h)
theorem eb_fX_fr {k : Nat} {I I1 : eb_A → Nat → Int32} (h : eb_fr k I I1) : eb_fX I I1 := fun a l hal => h a l fun q => hal ⟨by omega, by omega⟩
theorem eb_fX_u {I : eb_A → Nat → Int32} {a : eb_A} {j : Nat} {x : Int32} (h : 1 ≤ a.1 ∧ a.1 ≤ 15) : eb_fX I (eb_u I a j x) := fun b l hb => if_neg fun q => hb (by rw [q.1]; exact h)
/-- a face of the class: from a state S to S', answering v -/
def eb_FX (L d m : Nat) (as : List eb_V) (S S' : eb_St) (v : eb_V) : Prop := ∀ (nc ns : Nat) (I : eb_A → Nat → Int32) (J : eb_A → Nat → Int64) (C : Nat → Nat → Nat) (mt mk : Option Nat), eb_XS S I J →
  ∃ I' J' C', eb_ev L d m (zr (1, 0, 0) :: as) (nc, ns, I, J, eb_RL C mt mk) = some (v, (nc, ns, I', J', eb_RL C' mt mk)) ∧ eb_XS S' I' J' ∧ eb_fX I I' ∧ eb_fJ J J'
/-- the valley in thought (1) may change -/
theorem eb_XS_t {S : eb_St} {I I' : eb_A → Nat → Int32} {J : eb_A → Nat → Int64} (h : eb_XS S I J) (hf : eb_fr 1 I I') : eb_XS S I' J := by
  obtain ⟨h1, ⟨h2, h3⟩, h4, ⟨h5, h6⟩, h7⟩ := h
  have e : ∀ a l, ¬ (4 ≤ a.1 ∧ a.1 ≤ 11) → I' a l = I a l := fun a l ha => hf a l fun q => ha q.2
  refine ⟨eb_RX_fr h1 hf (by decide), ⟨by rw [e _ _ (by simp)]; exact h2, fun p hp => eb_RX_fr (h3 p hp) hf (by decide)⟩, fun s hs => ⟨by rw [e _ _ (by simp)]; exact (h4 s hs).1, fun hr => ⟨by rw [e _ _ (by simp)]; exact ((h4 s hs).2 hr).1, ((h4 s hs).2 hr).2⟩⟩, ⟨by rw [e _ _ (by simp)]; exact h5, fun j hj => by rw [e _ _ (by simp)]; exact h6 j hj⟩, fun r hr => by rw [e _ _ (by simp)]; exact h7 r hr⟩
/-- the valley in truth becomes another -/
theorem eb_XS_w {S : eb_St} {w : eb_W} {I I' : eb_A → Nat → Int32} {J : eb_A → Nat → Int64} (h : eb_XS S I J) (hf : eb_fr 0 I I') (hw : eb_RX I' 0 w) : eb_XS (sp_toW S w) I' J := by
  obtain ⟨h1, ⟨h2, h3⟩, h4, ⟨h5, h6⟩, h7⟩ := h
  have e : ∀ a l, ¬ (4 ≤ a.1 ∧ a.1 ≤ 11) → I' a l = I a l := fun a l ha => hf a l fun q => ha q.2
  refine ⟨hw, ⟨by rw [e _ _ (by simp)]; exact h2, fun p hp => eb_RX_fr (h3 p hp) hf (by decide)⟩, fun s hs => ⟨by rw [e _ _ (by simp)]; exact (h4 s hs).1, fun hr => ⟨by rw [e _ _ (by simp)]; exact ((h4 s hs).2 hr).1, ((h4 s hs).2 hr).2⟩⟩, ⟨by rw [e _ _ (by simp)]; exact h5, fun j hj => by rw [e _ _ (by simp)]; exact h6 j hj⟩, fun r hr => by rw [e _ _ (by simp)]; exact h7 r hr⟩
theorem eb_XS_n {S : eb_St} {I I' : eb_A → Nat → Int32} {J : eb_A → Nat → Int64} (h : eb_XS S I J) (hf : eb_fn 0 I I') : eb_XS S I' J := eb_XS_w (w := S.1) h (eb_fn_fr hf) (eb_fn_RX hf h.1)
theorem eb_XS_rf {S : eb_St} {I : eb_A → Nat → Int32} {J : eb_A → Nat → Int64} {k : Nat} {x : Int32} (h : eb_XS S I J) (hx : x = ss_r S k + 1) : eb_XS (sp_rf S k) (eb_u I (15, 0, 0) k x) J := by
  obtain ⟨h1, ⟨h2, h3⟩, h4, ⟨h5, h6⟩, h7⟩ := h
  have e : ∀ a l, ¬ a = (15, 0, 0) → eb_u I (15, 0, 0) k x a l = I a l := fun a l ha => if_neg fun q => ha q.1
  refine ⟨eb_RX_of h1 (fun l => e _ _ (by simp)) (fun i l _ => e _ _ (by simp)) (fun i l _ => e _ _ (by simp)), ⟨by rw [e _ _ (by simp)]; exact h2, fun p hp => eb_RX_of (h3 p hp) (fun l => e _ _ (by simp)) (fun i l _ => e _ _ (by simp)) (fun i l _ => e _ _ (by simp))⟩, fun s hs => ⟨by rw [e _ _ (by simp)]; exact (h4 s hs).1, fun hr => ⟨by rw [e _ _ (by simp)]; exact ((h4 s hs).2 hr).1, ((h4 s hs).2 hr).2⟩⟩, ⟨by rw [e _ _ (by simp)]; exact h5, fun j hj => by rw [e _ _ (by simp)]; exact h6 j hj⟩, fun r hr => ?_⟩
  show (if (15, 0, 0) = ((15, 0, 0) : eb_A) ∧ r = k then x else I (15, 0, 0) r) = if r = k then ss_r S k + 1 else ss_r S r
  by_cases q : r = k
  · simp only [q, and_self, if_true, hx]
  · simp only [q, and_false, if_false]; exact h7 r hr
theorem lt_pred {i : Int32} {n : Nat} (hn : n ≤ 100000) (h0 : 0 ≤ i) : (i ≤ nI n - 1) = (i < nI n) := by
  apply propext
  have h1 := nI_toInt (n := n) (by omega)
  cases n with
  | zero =>
    simp only [nI_0, Int32.le_iff_toInt_le, Int32.lt_iff_toInt_lt] at h0 ⊢
    have : ((0 : Int32) - 1).toInt = -1 := by decide
    have : (0 : Int32).toInt = 0 := by decide
    omega
  | succ n =>
    rw [nI_pred]
    have h2 := nI_toInt (n := n) (by omega)
    simp only [Int32.le_iff_toInt_le, Int32.lt_iff_toInt_lt]
    omega
theorem rg_pred {i : Int32} {n : Nat} (hn : n ≤ 100000) : (0 ≤ i ∧ i ≤ nI n - 1) = (0 ≤ i ∧ i < nI n) := by
  apply propext
  constructor
  · intro h; exact ⟨h.1, by rw [← lt_pred hn h.1]; exact h.2⟩
  · intro h; exact ⟨h.1, by rw [lt_pred hn h.1]; exact h.2⟩
theorem shl6 : ∀ n, n < 7 → (1 : Int32) <<< (nI n &&& 31) = nI (2 ^ n) ∧ 2 ^ n ≤ 64 := by decide +kernel
/-- a number in its range, as a place -/
theorem rg_nat {i : Int32} {n : Nat} (hn : n ≤ 100000) (h : 0 ≤ i ∧ i < nI n) : ∃ k, k < n ∧ i = nI k := by
  obtain ⟨k, hk, rfl⟩ := eb_rg n h.1 (Int32.le_of_lt h.2) hn
  have := h.2
  rw [nI_lt_b (by omega) (by omega)] at this
  exact ⟨k, this, rfl⟩
theorem rg_le {i : Int32} (b : Nat) (hb : b ≤ 100000) {a : Int32} (ha : 0 ≤ a) (h : a ≤ i ∧ i ≤ nI b) : ∃ k, k ≤ b ∧ i = nI k := eb_rg b (Int32.le_trans ha h.1) h.2 hb
section
variable {L d nc ns k i g : Nat} {I : eb_A → Nat → Int32} {J : eb_A → Nat → Int64} {C : Nat → Nat → Nat} {mt mk : Option Nat} {w : eb_W} {R : eb_A → Nat → Option eb_A} {S : eb_St} {x : Int32} {M : eb_M}
theorem x_isShelf : eb_ev L (d + 2) 128 [zi x] M = some (zi (if sp_rg x 0 7 then 1 else 0), M) := by
  rw [h128]
  simp (decide := true) only [e128_0, e128_1, e128_2, e128_4, e128_7, bi_s, tyX, rl1, rl2, rl4, ↓reduceIte, Option.bind_some, true_and, and_true, false_and, and_false, true_or, or_true, false_or, or_false, if_same0, ite_eq0, ite_eq0', ite_eq1, ite_eq1', or_em, or_em', ite_not, lcmp0, lcmpL, lcmpG, nI_cl_b, eb_in_b, nI_1, nI_pred, Int32.reduceToNatClampNeg, eb_u_ap, Prod.mk.injEq, not_true_eq_false, not_false_eq_true, x_within, ite_01]
theorem x_isGood : eb_ev L (d + 2) 129 [zi x] M = some (zi (if sp_rg x 0 100 then 1 else 0), M) := by
  rw [h129]
  simp (decide := true) only [e129_0, e129_1, e129_2, e129_4, e129_7, bi_s, tyX, rl1, rl2, rl4, ↓reduceIte, Option.bind_some, true_and, and_true, false_and, and_false, true_or, or_true, false_or, or_false, if_same0, ite_eq0, ite_eq0', ite_eq1, ite_eq1', or_em, or_em', ite_not, lcmp0, lcmpL, lcmpG, nI_cl_b, eb_in_b, nI_1, nI_pred, Int32.reduceToNatClampNeg, eb_u_ap, Prod.mk.injEq, not_true_eq_false, not_false_eq_true, x_within, ite_01]
theorem x_isSpan : eb_ev L (d + 2) 130 [zi x] M = some (zi (if sp_rg x 1 12 then 1 else 0), M) := by
  rw [h130]
  simp (decide := true) only [e130_0, e130_1, e130_2, e130_4, e130_7, bi_s, tyX, rl1, rl2, rl4, ↓reduceIte, Option.bind_some, true_and, and_true, false_and, and_false, true_or, or_true, false_or, or_false, if_same0, ite_eq0, ite_eq0', ite_eq1, ite_eq1', or_em, or_em', ite_not, lcmp0, lcmpL, lcmpG, nI_cl_b, eb_in_b, nI_1, nI_pred, Int32.reduceToNatClampNeg, eb_u_ap, Prod.mk.injEq, not_true_eq_false, not_false_eq_true, x_within, ite_01]
theorem x_isInn (h : eb_RX I 0 w) (hw : sp_ok w) : eb_ev L (d + 2) 131 [zr (1, 0, 0), zi x] (nc, ns, I, J, eb_RL C mt mk) = some (zi (if sp_iI w x then 1 else 0), (nc, ns, I, J, eb_RL C mt mk)) := by
  have hn := hw.1
  rw [h131 rfl]
  simp (decide := true) (disch := omega) only [e131_0, e131_1, e131_2, e131_3, e131_6, e131_9, e131_10, e131_11, e131_14, bi_s, tyX, rl1, rl2, rl4, ↓reduceIte, Option.bind_some, true_and, and_true, false_and, and_false, true_or, or_true, false_or, or_false, if_same0, ite_eq0, ite_eq0', ite_eq1, ite_eq1', or_em, or_em', ite_not, lcmp0, lcmpL, lcmpG, nI_cl_b, eb_in_b, nI_1, nI_pred, Int32.reduceToNatClampNeg, eb_u_ap, Prod.mk.injEq, not_true_eq_false, not_false_eq_true, x_within, h.1.1, rg_pred, ite_01]
theorem x_isGoer (h : eb_RX I 0 w) (hw : sp_ok w) : eb_ev L (d + 2) 132 [zr (1, 0, 0), zi x] (nc, ns, I, J, eb_RL C mt mk) = some (zi (if sp_iG w x then 1 else 0), (nc, ns, I, J, eb_RL C mt mk)) := by
  have hn := hw.2.1
  rw [h132 rfl]
  simp (decide := true) (disch := omega) only [e132_0, e132_1, e132_2, e132_3, e132_6, e132_9, e132_10, e132_11, e132_14, bi_s, tyX, rl1, rl2, rl4, ↓reduceIte, Option.bind_some, true_and, and_true, false_and, and_false, true_or, or_true, false_or, or_false, if_same0, ite_eq0, ite_eq0', ite_eq1, ite_eq1', or_em, or_em', ite_not, lcmp0, lcmpL, lcmpG, nI_cl_b, eb_in_b, nI_1, nI_pred, Int32.reduceToNatClampNeg, eb_u_ap, Prod.mk.injEq, not_true_eq_false, not_false_eq_true, x_within, h.1.2.1, rg_pred, ite_01]
theorem x_isGoerOrNone (h : eb_RX I 0 w) (hw : sp_ok w) : eb_ev L (d + 3) 133 [zr (1, 0, 0), zi x] (nc, ns, I, J, eb_RL C mt mk) = some (zi (if x = -1 ∨ sp_iG w x then 1 else 0), (nc, ns, I, J, eb_RL C mt mk)) := by
  rw [h133 rfl]
  simp (decide := true) (disch := omega) only [e133_0, e133_1, e133_2, e133_5, e133_6, e133_7, e133_10, e133_13, e133_14, e133_17, e133_18, bi_s, tyX, rl1, rl2, rl4, ↓reduceIte, Option.bind_some, true_and, and_true, false_and, and_false, true_or, or_true, false_or, or_false, if_same0, ite_eq0, ite_eq0', ite_eq1, ite_eq1', or_em, or_em', ite_not, lcmp0, lcmpL, lcmpG, nI_cl_b, eb_in_b, nI_1, nI_pred, Int32.reduceToNatClampNeg, eb_u_ap, Prod.mk.injEq, not_true_eq_false, not_false_eq_true, x_isGoer h hw]
  by_cases c1 : x = -1
  · simp (decide := true) only [c1, bi_s, tyX, rl1, rl2, rl4, ↓reduceIte, Option.bind_some, true_and, and_true, false_and, and_false, true_or, or_true, false_or, or_false, if_same0, ite_eq0, ite_eq0', ite_eq1, ite_eq1', or_em, or_em', ite_not, lcmp0, lcmpL, lcmpG, nI_cl_b, eb_in_b, nI_1, nI_pred, Int32.reduceToNatClampNeg, eb_u_ap, Prod.mk.injEq, not_true_eq_false, not_false_eq_true]
  · have c3 : (x = -1 ∨ sp_iG w x) = sp_iG w x := by simp only [c1, false_or]
    simp only [c1, c3, bi_s, tyX, rl1, rl2, rl4, ↓reduceIte, Option.bind_some, true_and, and_true, false_and, and_false, true_or, or_true, false_or, or_false, if_same0, ite_eq0, ite_eq0', ite_eq1, ite_eq1', or_em, or_em', ite_not, lcmp0, lcmpL, lcmpG, nI_cl_b, eb_in_b, nI_1, nI_pred, Int32.reduceToNatClampNeg, eb_u_ap, Prod.mk.injEq, not_true_eq_false, not_false_eq_true]
    split <;> rfl
theorem x_isSet (h : eb_RX I 0 w) (hw : sp_ok w) : eb_ev L (d + 2) 134 [zr (1, 0, 0), zi x] (nc, ns, I, J, eb_RL C mt mk) = some (zi (if sp_iS w x then 1 else 0), (nc, ns, I, J, eb_RL C mt mk)) := by
  have hn := hw.1
  have h6 := shl6 w.1 (by omega)
  rw [h134 rfl]
  simp (decide := true) (disch := omega) only [e134_0, e134_1, e134_2, e134_3, e134_4, e134_7, e134_10, e134_11, e134_12, e134_13, e134_16, bi_s, tyX, rl1, rl2, rl4, ↓reduceIte, Option.bind_some, true_and, and_true, false_and, and_false, true_or, or_true, false_or, or_false, if_same0, ite_eq0, ite_eq0', ite_eq1, ite_eq1', or_em, or_em', ite_not, lcmp0, lcmpL, lcmpG, nI_cl_b, eb_in_b, nI_1, nI_pred, Int32.reduceToNatClampNeg, eb_u_ap, Prod.mk.injEq, not_true_eq_false, not_false_eq_true, x_within, h.1.1, h6.1, rg_pred, ite_01]
theorem x_refuse (hk : k < 5) : eb_ev L (d + 2) 125 [zr (1, 0, 0), zi (-2 - nI k)] (nc, ns, I, J, eb_RL C mt mk) = some (zi (-2 - nI k), (nc, ns, eb_u I (15, 0, 0) k (I (15, 0, 0) k + 1), J, eb_RL C mt mk)) := by
  rw [h125 rfl]
  have e : -2 - (-2 - nI k) = nI k := by
    rcases (show k = 0 ∨ k = 1 ∨ k = 2 ∨ k = 3 ∨ k = 4 by omega) with rfl | rfl | rfl | rfl | rfl <;> decide
  have h1 : (0 ≤ nI k ∧ nI k ≤ 4) = True := by
    rw [show (4 : Int32) = nI 4 from rfl, show (0 : Int32) = nI 0 from rfl, nI_le_b (by omega) (by omega), nI_le_b (by omega) (by omega)]
    simp; omega
  simp (decide := true) (disch := omega) only [e125_0, e125_2, e125_3, e125_4, e125_5, e125_6, e125_7, e125_8, e125_11, e125_14, e125_15, e125_18, e125_19, e125_20, e125_21, e125_22, e125_23, e125_24, e125_25, bi_s, tyX, rl1, rl2, rl4, ↓reduceIte, Option.bind_some, true_and, and_true, false_and, and_false, true_or, or_true, false_or, or_false, if_same0, ite_eq0, ite_eq0', ite_eq1, ite_eq1', or_em, or_em', ite_not, lcmp0, lcmpL, lcmpG, nI_cl_b, eb_in_b, nI_1, nI_pred, Int32.reduceToNatClampNeg, eb_u_ap, Prod.mk.injEq, not_true_eq_false, not_false_eq_true, x_within, e, h1]
theorem x_refuse0 : eb_ev L (d + 2) 125 [zr (1, 0, 0), zi (-2)] (nc, ns, I, J, eb_RL C mt mk) = some (zi (-2), (nc, ns, eb_u I (15, 0, 0) 0 (I (15, 0, 0) 0 + 1), J, eb_RL C mt mk)) := x_refuse (k := 0) (by omega)
theorem x_refuse1 : eb_ev L (d + 2) 125 [zr (1, 0, 0), zi (-3)] (nc, ns, I, J, eb_RL C mt mk) = some (zi (-3), (nc, ns, eb_u I (15, 0, 0) 1 (I (15, 0, 0) 1 + 1), J, eb_RL C mt mk)) := x_refuse (k := 1) (by omega)
theorem x_refuse2 : eb_ev L (d + 2) 125 [zr (1, 0, 0), zi (-4)] (nc, ns, I, J, eb_RL C mt mk) = some (zi (-4), (nc, ns, eb_u I (15, 0, 0) 2 (I (15, 0, 0) 2 + 1), J, eb_RL C mt mk)) := x_refuse (k := 2) (by omega)
theorem x_refuse3 : eb_ev L (d + 2) 125 [zr (1, 0, 0), zi (-5)] (nc, ns, I, J, eb_RL C mt mk) = some (zi (-5), (nc, ns, eb_u I (15, 0, 0) 3 (I (15, 0, 0) 3 + 1), J, eb_RL C mt mk)) := x_refuse (k := 3) (by omega)
theorem x_refuse4 : eb_ev L (d + 2) 125 [zr (1, 0, 0), zi (-6)] (nc, ns, I, J, eb_RL C mt mk) = some (zi (-6), (nc, ns, eb_u I (15, 0, 0) 4 (I (15, 0, 0) 4 + 1), J, eb_RL C mt mk)) := x_refuse (k := 4) (by omega)
theorem x_far0 : eb_ev L (d + 3) 126 [zr (1, 0, 0), zi (-2)] (nc, ns, I, J, eb_RL C mt mk) = some (zi (-1000002), (nc, ns, eb_u I (15, 0, 0) 0 (I (15, 0, 0) 0 + 1), J, eb_RL C mt mk)) := by
  rw [h126 rfl]
  simp (decide := true) (disch := omega) only [e126_0, e126_3, e126_4, e126_5, e126_8, e126_9, bi_s, tyX, rl1, rl2, rl4, ↓reduceIte, Option.bind_some, true_and, and_true, false_and, and_false, true_or, or_true, false_or, or_false, if_same0, ite_eq0, ite_eq0', ite_eq1, ite_eq1', or_em, or_em', ite_not, lcmp0, lcmpL, lcmpG, nI_cl_b, eb_in_b, nI_1, nI_pred, Int32.reduceToNatClampNeg, eb_u_ap, Prod.mk.injEq, not_true_eq_false, not_false_eq_true, x_refuse0]
  rfl
theorem x_far3 : eb_ev L (d + 3) 126 [zr (1, 0, 0), zi (-5)] (nc, ns, I, J, eb_RL C mt mk) = some (zi (-1000005), (nc, ns, eb_u I (15, 0, 0) 3 (I (15, 0, 0) 3 + 1), J, eb_RL C mt mk)) := by
  rw [h126 rfl]
  simp (decide := true) (disch := omega) only [e126_0, e126_3, e126_4, e126_5, e126_8, e126_9, bi_s, tyX, rl1, rl2, rl4, ↓reduceIte, Option.bind_some, true_and, and_true, false_and, and_false, true_or, or_true, false_or, or_false, if_same0, ite_eq0, ite_eq0', ite_eq1, ite_eq1', or_em, or_em', ite_not, lcmp0, lcmpL, lcmpG, nI_cl_b, eb_in_b, nI_1, nI_pred, Int32.reduceToNatClampNeg, eb_u_ap, Prod.mk.injEq, not_true_eq_false, not_false_eq_true, x_refuse3]
  rfl
/-- how a refused call ends -/
theorem fx_rf (h : eb_XS S I J) (hk : k < 5) : eb_XS (sp_rf S k) (eb_u I (15, 0, 0) k (I (15, 0, 0) k + 1)) J ∧ eb_fX I (eb_u I (15, 0, 0) k (I (15, 0, 0) k + 1)) ∧ eb_fJ J J :=
  ⟨eb_XS_rf h (by rw [h.2.2.2.2 k hk]), eb_fX_u ⟨by decide, by decide⟩, eb_fJ_rf⟩
theorem x_tonight (h : eb_RX I 0 w) (hw : sp_ok w) : ∃ I' C', eb_ev L (d + 6) 137 [zr (1, 0, 0)] (nc, ns, I, J, eb_RL C mt mk) = some (zr (4, 0, 0), (nc, ns, I', J, eb_RL C' mt mk)) ∧ eb_fn 0 I I' ∧ eb_NX I' 0 w (sp_night w) := by
  obtain ⟨I1, C1, a1, a2, a3, a4⟩ := x_spendNight (L := L) (d := d) (nc := nc) (ns := ns) (J := J) (C := C) (mt := mt) (mk := mk) h hw
  rw [h137 rfl]
  simp (decide := true) (disch := omega) only [e137_0, e137_1, e137_4, e137_7, e137_8, e137_11, bi_s, tyX, rl1, rl2, rl4, ↓reduceIte, Option.bind_some, true_and, and_true, false_and, and_false, true_or, or_true, false_or, or_false, if_same0, ite_eq0, ite_eq0', ite_eq1, ite_eq1', or_em, or_em', ite_not, lcmp0, lcmpL, lcmpG, nI_cl_b, eb_in_b, nI_1, nI_pred, Int32.reduceToNatClampNeg, eb_u_ap, Prod.mk.injEq, not_true_eq_false, not_false_eq_true, a1]
  exact ⟨I1, C1, rfl, a2, a3⟩
theorem x_think (h : eb_RX I 0 w) (hw : sp_ok w) : ∃ I', eb_ev L (d + 3) 138 [zr (1, 0, 0)] (nc, ns, I, J, eb_RL C mt mk) = some (zr (4, 1, 0), (nc, ns, I', J, eb_RL C mt mk)) ∧ eb_fr 1 I I' ∧ eb_RX I' 1 w := by
  obtain ⟨I1, a1, a2, a3⟩ := x_becomeLike (L := L) (d := d) (nc := nc) (ns := ns) (J := J) (C := C) (mt := mt) (mk := mk) (k := 1) h hw (by decide)
  rw [h138 rfl]
  simp (decide := true) (disch := omega) only [e138_0, e138_1, e138_4, e138_5, e138_8, e138_11, e138_12, e138_15, bi_s, tyX, rl1, rl2, rl4, ↓reduceIte, Option.bind_some, true_and, and_true, false_and, and_false, true_or, or_true, false_or, or_false, if_same0, ite_eq0, ite_eq0', ite_eq1, ite_eq1', or_em, or_em', ite_not, lcmp0, lcmpL, lcmpG, nI_cl_b, eb_in_b, nI_1, nI_pred, Int32.reduceToNatClampNeg, eb_u_ap, Prod.mk.injEq, not_true_eq_false, not_false_eq_true, a1]
  exact ⟨I1, rfl, a3, a2⟩
end

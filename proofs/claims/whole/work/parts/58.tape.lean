/-! the tape: its tokens, and how the class reads them. A token: (kind, start, end) -/
abbrev eb_Tp : Type := (Nat → Int32) × Nat
abbrev eb_K : Type := Int32 × Nat × Nat
def sk_byte (T : eb_Tp) (p : Nat) : Int32 := if p < T.2 then T.1 p else -1
def sk_kind (b : Int32) : Int32 := if b = -1 then 0 else if 97 ≤ b ∧ b ≤ 122 then 1 else if 48 ≤ b ∧ b ≤ 57 then 2 else if b = 59 then 3 else 4
def sk_skip (T : eb_Tp) : Nat → Nat → Nat
  | p, 0 => p
  | p, f + 1 => if T.1 p = 32 then sk_skip T (p + 1) f else p
def sk_run (T : eb_Tp) (k : Int32) : Nat → Nat → Nat
  | p, 0 => p
  | p, f + 1 => if sk_kind (T.1 p) = k then sk_run T k (p + 1) f else p
def sk_start (T : eb_Tp) (e : Nat) : Nat := sk_skip T e (T.2 - e)
def sk_end (T : eb_Tp) (s : Nat) : Nat := if s < T.2 then (if sk_kind (T.1 s) = 1 ∨ sk_kind (T.1 s) = 2 then sk_run T (sk_kind (T.1 s)) (s + 1) (T.2 - (s + 1)) else s + 1) else s
/-- the token behind place e -/
def sk_tok (T : eb_Tp) (e : Nat) : eb_K := (sk_kind (sk_byte T (sk_start T e)), sk_start T e, sk_end T (sk_start T e))
abbrev sk_nx (T : eb_Tp) (k : eb_K) : eb_K := sk_tok T k.2.2
def sk_dig (T : eb_Tp) (s : Nat) : Nat → Int32
  | 0 => 0
  | n + 1 => 10 * sk_dig T s n + T.1 (s + n) - 48
def sk_fig (T : eb_Tp) (k : eb_K) : Int32 := if k.2.2 - k.2.1 ≤ 3 then sk_dig T k.2.1 (k.2.2 - k.2.1) else 100000
/-- the token as a number within bounds -/
def sk_take (T : eb_Tp) (k : eb_K) (lo hi : Int32) : Option Int32 := if k.1 = 2 ∧ lo ≤ sk_fig T k ∧ sk_fig T k ≤ hi then some (sk_fig T k) else none
def sk_eq (T : eb_Tp) (s : Nat) (tx : List Int32) : Nat → Bool
  | 0 => true
  | n + 1 => sk_eq T s tx n && decide (T.1 (s + n) = tx.getD n 0)
/-- the token is the z-th word -/
def sk_isw (T : eb_Tp) (k : eb_K) (z : Nat) : Bool := decide (k.1 = 1 ∧ k.2.2 - k.2.1 = (eb_tx z).length) && sk_eq T k.2.1 (eb_tx z) (eb_tx z).length
theorem sk_skip_b {T : eb_Tp} : ∀ {f p : Nat}, p ≤ sk_skip T p f ∧ sk_skip T p f ≤ p + f := by
  intro f
  induction f with
  | zero => exact fun {p} => ⟨Nat.le_refl _, Nat.le_refl _⟩
  | succ f ih =>
    intro p
    unfold sk_skip
    split
    · have := ih (p := p + 1); omega
    · omega
theorem sk_run_b {T : eb_Tp} {k : Int32} : ∀ {f p : Nat}, p ≤ sk_run T k p f ∧ sk_run T k p f ≤ p + f := by
  intro f
  induction f with
  | zero => exact fun {p} => ⟨Nat.le_refl _, Nat.le_refl _⟩
  | succ f ih =>
    intro p
    unfold sk_run
    split
    · have := ih (p := p + 1); omega
    · omega
theorem sk_start_b {T : eb_Tp} {e : Nat} (h : e ≤ T.2) : e ≤ sk_start T e ∧ sk_start T e ≤ T.2 := by
  have := sk_skip_b (T := T) (f := T.2 - e) (p := e)
  unfold sk_start
  omega
theorem sk_end_b {T : eb_Tp} {s : Nat} (h : s ≤ T.2) : s ≤ sk_end T s ∧ sk_end T s ≤ T.2 ∧ (s < T.2 → s < sk_end T s) := by
  unfold sk_end
  split
  · split
    · have := sk_run_b (T := T) (k := sk_kind (T.1 s)) (f := T.2 - (s + 1)) (p := s + 1)
      omega
    · omega
  · omega
/-- a token as it lies on the tape -/
def sk_wf (T : eb_Tp) (k : eb_K) : Prop := k.2.1 ≤ k.2.2 ∧ k.2.2 ≤ T.2
theorem sk_tok_wf {T : eb_Tp} {e : Nat} (h : e ≤ T.2) : sk_wf T (sk_tok T e) ∧ e ≤ (sk_tok T e).2.1 ∧ (¬ (sk_tok T e).1 = 0 → (sk_tok T e).2.1 < (sk_tok T e).2.2) := by
  have h1 := sk_start_b h
  have h2 := sk_end_b h1.2
  refine ⟨⟨h2.1, h2.2.1⟩, h1.1, fun hk => h2.2.2 ?_⟩
  refine Classical.byContradiction fun q => hk ?_
  show sk_kind (sk_byte T (sk_start T e)) = 0
  rw [show sk_byte T (sk_start T e) = -1 from if_neg q]
  rfl
theorem sk_nx_wf {T : eb_Tp} {k : eb_K} (h : sk_wf T k) : sk_wf T (sk_nx T k) := (sk_tok_wf h.2).1
def sk_okT (T : eb_Tp) : Prop := T.2 ≤ 250 ∧ ∀ j, j < T.2 → sp_rg (T.1 j) 0 255
theorem sk_byte_m1 {T : eb_Tp} (h : sk_okT T) {p : Nat} (hp : p < T.2) : ¬ T.1 p = -1 := fun q => by
  have := (h.2 p hp).1
  rw [q] at this
  exact absurd this (by decide)
/-- the class's tape holds T, its token is k -/
def eb_TX (I : eb_A → Nat → Int32) (T : eb_Tp) : Prop := I (13, 0, 0) 1 = nI T.2 ∧ ∀ j, j < T.2 → I (14, 0, 0) j = T.1 j
def eb_KX (I : eb_A → Nat → Int32) (k : eb_K) : Prop := I (13, 0, 0) 2 = nI k.2.1 ∧ I (13, 0, 0) 3 = nI k.2.2 ∧ I (13, 0, 0) 4 = k.1
/-- only the token differs -/
def eb_fk (I I' : eb_A → Nat → Int32) : Prop := ∀ a l, ¬ (a = (13, 0, 0) ∧ 2 ≤ l) → I' a l = I a l
theorem eb_fk_rf {I : eb_A → Nat → Int32} : eb_fk I I := fun _ _ _ => rfl
theorem eb_fk_tr {I I1 I2 : eb_A → Nat → Int32} (h1 : eb_fk I I1) (h2 : eb_fk I1 I2) : eb_fk I I2 := fun a l h => (h2 a l h).trans (h1 a l h)
theorem eb_fk_TX {I I1 : eb_A → Nat → Int32} {T : eb_Tp} (h : eb_fk I I1) (q : eb_TX I T) : eb_TX I1 T := ⟨by rw [h _ _ (by simp)]; exact q.1, fun j hj => by rw [h _ _ (by simp)]; exact q.2 j hj⟩
theorem eb_fk_RX {I I1 : eb_A → Nat → Int32} {k : Nat} {w : eb_W} (h : eb_fk I I1) (q : eb_RX I k w) : eb_RX I1 k w := eb_RX_of q (fun l => h _ _ (by simp)) (fun i l _ => h _ _ (by simp)) (fun i l _ => h _ _ (by simp))
section
variable {L d nc ns k i g : Nat} {I : eb_A → Nat → Int32} {J : eb_A → Nat → Int64} {C : Nat → Nat → Nat} {mt mk : Option Nat} {w : eb_W} {R : eb_A → Nat → Option eb_A} {S : eb_St} {M : eb_M} {T : eb_Tp} {K : eb_K}
theorem x_byteAt (h : eb_TX I T) (ht : sk_okT T) {p : Nat} (hp : p ≤ 1000) : eb_ev L (d + 1) 37 [zr (13, 0, 0), zi (nI p)] (nc, ns, I, J, eb_RL C mt mk) = some (zi (sk_byte T p), (nc, ns, I, J, eb_RL C mt mk)) := by
  have h2 := ht.1
  rw [h37 rfl]
  unfold sk_byte
  have c0 : (nI p < 0) = False := nI_neg (by omega)
  by_cases c : p < T.2
  · have c1 : (nI p < nI T.2) = True := by rw [nI_lt_b (by omega) (by omega)]; exact eq_true c
    have c2 : (nI p < 250) = True := by rw [show (250 : Int32) = nI 250 from rfl, nI_lt_b (by omega) (by omega)]; exact eq_true (by omega)
    have hb := h.2 p c
    simp (decide := true) (disch := omega) only [e37_0, e37_1, e37_4, e37_5, e37_6, e37_9, e37_12, e37_13, e37_16, e37_19, e37_20, e37_23, e37_24, e37_25, e37_28, e37_29, bi_s, tyX, rl1, rl2, rl4, ↓reduceIte, Option.bind_some, true_and, and_true, false_and, and_false, true_or, or_true, false_or, or_false, if_same0, ite_eq0, ite_eq0', ite_eq1, ite_eq1', or_em, or_em', ite_not, lcmp0, lcmpL, lcmpG, nI_cl_b, eb_in_b, nI_1, nI_pred, Int32.reduceToNatClampNeg, eb_u_ap, Prod.mk.injEq, not_true_eq_false, not_false_eq_true, sp_rg, sp_iI, sp_iG, sp_iS, c0, h.1, c1, c2, hb]
    rw [if_pos c]
  · have c1 : (nI p < nI T.2) = False := by rw [nI_lt_b (by omega) (by omega)]; exact eq_false c
    simp (decide := true) (disch := omega) only [e37_0, e37_1, e37_4, e37_5, e37_6, e37_9, e37_12, e37_13, e37_16, e37_19, e37_20, e37_23, e37_24, e37_25, e37_28, e37_29, bi_s, tyX, rl1, rl2, rl4, ↓reduceIte, Option.bind_some, true_and, and_true, false_and, and_false, true_or, or_true, false_or, or_false, if_same0, ite_eq0, ite_eq0', ite_eq1, ite_eq1', or_em, or_em', ite_not, lcmp0, lcmpL, lcmpG, nI_cl_b, eb_in_b, nI_1, nI_pred, Int32.reduceToNatClampNeg, eb_u_ap, Prod.mk.injEq, not_true_eq_false, not_false_eq_true, sp_rg, sp_iI, sp_iG, sp_iS, c0, h.1, c1]
    rw [if_neg c]
theorem x_tokenAt (h : eb_TX I T) (ht : sk_okT T) {p : Nat} (hp : p ≤ 1000) : eb_ev L (d + 2) 36 [zr (13, 0, 0), zi (nI p)] (nc, ns, I, J, eb_RL C mt mk) = some (zi (sk_kind (sk_byte T p)), (nc, ns, I, J, eb_RL C mt mk)) := by
  have hb := x_byteAt (L := L) (d := d) (nc := nc) (ns := ns) (J := J) (C := C) (mt := mt) (mk := mk) h ht hp
  rw [h36 rfl]
  simp (decide := true) (disch := omega) only [e36_0, e36_1, e36_2, e36_5, e36_6, e36_7, e36_8, e36_11, e36_12, e36_13, e36_14, e36_16, e36_19, e36_20, e36_22, e36_25, e36_26, e36_27, e36_28, e36_30, e36_33, e36_34, e36_36, e36_39, e36_40, e36_41, e36_42, e36_44, e36_47, e36_48, e36_51, e36_52, bi_s, tyX, rl1, rl2, rl4, ↓reduceIte, Option.bind_some, true_and, and_true, false_and, and_false, true_or, or_true, false_or, or_false, if_same0, ite_eq0, ite_eq0', ite_eq1, ite_eq1', or_em, or_em', ite_not, lcmp0, lcmpL, lcmpG, nI_cl_b, eb_in_b, nI_1, nI_pred, Int32.reduceToNatClampNeg, eb_u_ap, Prod.mk.injEq, not_true_eq_false, not_false_eq_true, sp_rg, sp_iI, sp_iG, sp_iS, hb]
  generalize sk_byte T p = b
  unfold sk_kind
  by_cases c1 : b = -1
  · simp only [c1, bi_s, tyX, rl1, rl2, rl4, ↓reduceIte, Option.bind_some, true_and, and_true, false_and, and_false, true_or, or_true, false_or, or_false, if_same0, ite_eq0, ite_eq0', ite_eq1, ite_eq1', or_em, or_em', ite_not, lcmp0, lcmpL, lcmpG, nI_cl_b, eb_in_b, nI_1, nI_pred, Int32.reduceToNatClampNeg, eb_u_ap, Prod.mk.injEq, not_true_eq_false, not_false_eq_true]
  · by_cases c2 : b < 97
    · have c3 : ¬ 97 ≤ b := Int32.not_le.mpr c2
      by_cases c4 : b < 48
      · have c5 : ¬ 48 ≤ b := Int32.not_le.mpr c4
        have c6 : ¬ b = 59 := fun q => by rw [q] at c4; exact absurd c4 (by decide)
        simp only [c1, c2, c3, c4, c5, c6, bi_s, tyX, rl1, rl2, rl4, ↓reduceIte, Option.bind_some, true_and, and_true, false_and, and_false, true_or, or_true, false_or, or_false, if_same0, ite_eq0, ite_eq0', ite_eq1, ite_eq1', or_em, or_em', ite_not, lcmp0, lcmpL, lcmpG, nI_cl_b, eb_in_b, nI_1, nI_pred, Int32.reduceToNatClampNeg, eb_u_ap, Prod.mk.injEq, not_true_eq_false, not_false_eq_true]
      · have c5 : 48 ≤ b := Int32.not_lt.mp c4
        by_cases c7 : 57 < b
        · have c8 : ¬ b ≤ 57 := Int32.not_le.mpr c7
          by_cases c6 : b = 59
          · subst c6; rfl
          · simp only [c1, c2, c3, c4, c5, c6, c7, c8, bi_s, tyX, rl1, rl2, rl4, ↓reduceIte, Option.bind_some, true_and, and_true, false_and, and_false, true_or, or_true, false_or, or_false, if_same0, ite_eq0, ite_eq0', ite_eq1, ite_eq1', or_em, or_em', ite_not, lcmp0, lcmpL, lcmpG, nI_cl_b, eb_in_b, nI_1, nI_pred, Int32.reduceToNatClampNeg, eb_u_ap, Prod.mk.injEq, not_true_eq_false, not_false_eq_true]
        · have c8 : b ≤ 57 := Int32.not_lt.mp c7
          simp only [c1, c2, c3, c4, c5, c7, c8, bi_s, tyX, rl1, rl2, rl4, ↓reduceIte, Option.bind_some, true_and, and_true, false_and, and_false, true_or, or_true, false_or, or_false, if_same0, ite_eq0, ite_eq0', ite_eq1, ite_eq1', or_em, or_em', ite_not, lcmp0, lcmpL, lcmpG, nI_cl_b, eb_in_b, nI_1, nI_pred, Int32.reduceToNatClampNeg, eb_u_ap, Prod.mk.injEq, not_true_eq_false, not_false_eq_true]
    · have c3 : 97 ≤ b := Int32.not_lt.mp c2
      have c4 : ¬ b < 48 := Int32.not_lt.mpr (Int32.le_trans (by decide) c3)
      have c7 : 57 < b := Int32.lt_of_lt_of_le (by decide) c3
      have c8 : ¬ b ≤ 57 := Int32.not_le.mpr c7
      have c6 : ¬ b = 59 := fun q => by rw [q] at c3; exact absurd c3 (by decide)
      by_cases c9 : 122 < b
      · have c10 : ¬ b ≤ 122 := Int32.not_le.mpr c9
        simp only [c1, c2, c3, c4, c6, c7, c8, c9, c10, bi_s, tyX, rl1, rl2, rl4, ↓reduceIte, Option.bind_some, true_and, and_true, false_and, and_false, true_or, or_true, false_or, or_false, if_same0, ite_eq0, ite_eq0', ite_eq1, ite_eq1', or_em, or_em', ite_not, lcmp0, lcmpL, lcmpG, nI_cl_b, eb_in_b, nI_1, nI_pred, Int32.reduceToNatClampNeg, eb_u_ap, Prod.mk.injEq, not_true_eq_false, not_false_eq_true]
      · have c10 : b ≤ 122 := Int32.not_lt.mp c9
        simp only [c1, c2, c3, c9, c10, bi_s, tyX, rl1, rl2, rl4, ↓reduceIte, Option.bind_some, true_and, and_true, false_and, and_false, true_or, or_true, false_or, or_false, if_same0, ite_eq0, ite_eq0', ite_eq1, ite_eq1', or_em, or_em', ite_not, lcmp0, lcmpL, lcmpG, nI_cl_b, eb_in_b, nI_1, nI_pred, Int32.reduceToNatClampNeg, eb_u_ap, Prod.mk.injEq, not_true_eq_false, not_false_eq_true]
theorem x_skip (h : eb_TX I T) (ht : sk_okT T) : ∀ f p, p + f = T.2 → eb_E L (d + 1) 35 5 [some (zr (13, 0, 0)), some (zi (nI p))] [] (nc, ns, I, J, eb_RL C mt mk) = eb_E L (d + 1) 35 29 [some (zr (13, 0, 0)), some (zi (nI (sk_skip T p f)))] [] (nc, ns, I, J, eb_RL C mt mk) := by
  have h2 := ht.1
  intro f
  induction f with
  | zero =>
    intro p hp
    have hp : p = T.2 := hp
    rw [e35_5]
    simp (decide := true) (disch := omega) only [e35_6, e35_7, e35_10, e35_13, e35_14, e35_15, e35_18, e35_20, e35_23, e35_26, bi_s, tyX, rl1, rl2, rl4, ↓reduceIte, Option.bind_some, true_and, and_true, false_and, and_false, true_or, or_true, false_or, or_false, if_same0, ite_eq0, ite_eq0', ite_eq1, ite_eq1', or_em, or_em', ite_not, lcmp0, lcmpL, lcmpG, nI_cl_b, eb_in_b, nI_1, nI_pred, Int32.reduceToNatClampNeg, eb_u_ap, Prod.mk.injEq, not_true_eq_false, not_false_eq_true, sp_rg, sp_iI, sp_iG, sp_iS, h.1, hp, nI_lt_b, Nat.lt_irrefl]
    rfl
  | succ f ih =>
    intro p hp
    have c : (nI p < nI T.2) = True := by rw [nI_lt_b (by omega) (by omega)]; exact eq_true (by omega)
    have hb := x_byteAt (L := L) (d := d) (nc := nc) (ns := ns) (J := J) (C := C) (mt := mt) (mk := mk) h ht (p := p) (by omega)
    rw [show sk_byte T p = T.1 p from if_pos (by omega)] at hb
    rw [e35_5]
    by_cases c1 : T.1 p = 32
    · have hs : sk_skip T p (f + 1) = sk_skip T (p + 1) f := if_pos c1
      rw [hs, ← ih (p + 1) (by omega)]
      simp (decide := true) (disch := omega) only [e35_6, e35_7, e35_10, e35_13, e35_14, e35_15, e35_18, e35_20, e35_23, e35_26, bi_s, tyX, rl1, rl2, rl4, ↓reduceIte, Option.bind_some, true_and, and_true, false_and, and_false, true_or, or_true, false_or, or_false, if_same0, ite_eq0, ite_eq0', ite_eq1, ite_eq1', or_em, or_em', ite_not, lcmp0, lcmpL, lcmpG, nI_cl_b, eb_in_b, nI_1, nI_pred, Int32.reduceToNatClampNeg, eb_u_ap, Prod.mk.injEq, not_true_eq_false, not_false_eq_true, sp_rg, sp_iI, sp_iG, sp_iS, h.1, c, hb, c1]
    · have hs : sk_skip T p (f + 1) = p := if_neg c1
      rw [hs]
      simp (decide := true) (disch := omega) only [e35_6, e35_7, e35_10, e35_13, e35_14, e35_15, e35_18, e35_20, e35_23, e35_26, bi_s, tyX, rl1, rl2, rl4, ↓reduceIte, Option.bind_some, true_and, and_true, false_and, and_false, true_or, or_true, false_or, or_false, if_same0, ite_eq0, ite_eq0', ite_eq1, ite_eq1', or_em, or_em', ite_not, lcmp0, lcmpL, lcmpG, nI_cl_b, eb_in_b, nI_1, nI_pred, Int32.reduceToNatClampNeg, eb_u_ap, Prod.mk.injEq, not_true_eq_false, not_false_eq_true, sp_rg, sp_iI, sp_iG, sp_iS, h.1, c, hb, c1]
theorem x_run (h : eb_TX I T) (ht : sk_okT T) {kk : Int32} (hk : I (13, 0, 0) 4 = kk) : ∀ f p, p + f = T.2 → eb_E L (d + 2) 35 54 [some (zr (13, 0, 0)), some (zi (nI p))] [] (nc, ns, I, J, eb_RL C mt mk) = eb_E L (d + 2) 35 96 [some (zr (13, 0, 0)), some (zi (nI (if kk = 1 ∨ kk = 2 then sk_run T kk p f else p)))] [] (nc, ns, I, J, eb_RL C mt mk) := by
  have h2 := ht.1
  intro f
  induction f with
  | zero =>
    intro p hp
    have hp : p = T.2 := hp
    have hs : (if kk = 1 ∨ kk = 2 then sk_run T kk p 0 else p) = p := by split <;> rfl
    rw [hs, e35_54]
    simp (decide := true) (disch := omega) only [e35_55, e35_56, e35_59, e35_62, e35_63, e35_66, e35_67, e35_70, e35_71, e35_74, e35_75, e35_78, e35_79, e35_80, e35_83, e35_84, e35_87, e35_90, e35_93, bi_s, tyX, rl1, rl2, rl4, ↓reduceIte, Option.bind_some, true_and, and_true, false_and, and_false, true_or, or_true, false_or, or_false, if_same0, ite_eq0, ite_eq0', ite_eq1, ite_eq1', or_em, or_em', ite_not, lcmp0, lcmpL, lcmpG, nI_cl_b, eb_in_b, nI_1, nI_pred, Int32.reduceToNatClampNeg, eb_u_ap, Prod.mk.injEq, not_true_eq_false, not_false_eq_true, sp_rg, sp_iI, sp_iG, sp_iS, h.1, hp, nI_lt_b, Nat.lt_irrefl]
  | succ f ih =>
    intro p hp
    have c : (nI p < nI T.2) = True := by rw [nI_lt_b (by omega) (by omega)]; exact eq_true (by omega)
    have hb := x_tokenAt (L := L) (d := d) (nc := nc) (ns := ns) (J := J) (C := C) (mt := mt) (mk := mk) h ht (p := p) (by omega)
    rw [show sk_byte T p = T.1 p from if_pos (by omega)] at hb
    by_cases c0 : kk = 1 ∨ kk = 2
    · rw [if_pos c0]
      have ih := ih (p + 1) (by omega)
      rw [if_pos c0] at ih
      have hc0 : ∀ X Y : Option eb_R, (if kk = 1 then X else if kk = 2 then X else Y) = X := fun X Y => by
        rcases c0 with q | q
        · rw [if_pos q]
        · by_cases q1 : kk = 1
          · rw [if_pos q1]
          · rw [if_neg q1, if_pos q]
      rw [e35_54]
      by_cases c1 : sk_kind (T.1 p) = kk
      · have hs : sk_run T kk p (f + 1) = sk_run T kk (p + 1) f := if_pos c1
        rw [hs, ← ih]
        simp (decide := true) (disch := omega) only [e35_55, e35_56, e35_59, e35_62, e35_63, e35_66, e35_67, e35_70, e35_71, e35_74, e35_75, e35_78, e35_79, e35_80, e35_83, e35_84, e35_87, e35_90, e35_93, bi_s, tyX, rl1, rl2, rl4, ↓reduceIte, Option.bind_some, true_and, and_true, false_and, and_false, true_or, or_true, false_or, or_false, if_same0, ite_eq0, ite_eq0', ite_eq1, ite_eq1', or_em, or_em', ite_not, lcmp0, lcmpL, lcmpG, nI_cl_b, eb_in_b, nI_1, nI_pred, Int32.reduceToNatClampNeg, eb_u_ap, Prod.mk.injEq, not_true_eq_false, not_false_eq_true, sp_rg, sp_iI, sp_iG, sp_iS, h.1, c, hb, hk, hc0, c1]
      · have hs : sk_run T kk p (f + 1) = p := if_neg c1
        rw [hs]
        simp (decide := true) (disch := omega) only [e35_55, e35_56, e35_59, e35_62, e35_63, e35_66, e35_67, e35_70, e35_71, e35_74, e35_75, e35_78, e35_79, e35_80, e35_83, e35_84, e35_87, e35_90, e35_93, bi_s, tyX, rl1, rl2, rl4, ↓reduceIte, Option.bind_some, true_and, and_true, false_and, and_false, true_or, or_true, false_or, or_false, if_same0, ite_eq0, ite_eq0', ite_eq1, ite_eq1', or_em, or_em', ite_not, lcmp0, lcmpL, lcmpG, nI_cl_b, eb_in_b, nI_1, nI_pred, Int32.reduceToNatClampNeg, eb_u_ap, Prod.mk.injEq, not_true_eq_false, not_false_eq_true, sp_rg, sp_iI, sp_iG, sp_iS, h.1, c, hb, hk, hc0, c1]
    · rw [if_neg c0, e35_54]
      have q1 : ¬ kk = 1 := fun q => c0 (Or.inl q)
      have q2 : ¬ kk = 2 := fun q => c0 (Or.inr q)
      simp (decide := true) (disch := omega) only [e35_55, e35_56, e35_59, e35_62, e35_63, e35_66, e35_67, e35_70, e35_71, e35_74, e35_75, e35_78, e35_79, e35_80, e35_83, e35_84, e35_87, e35_90, e35_93, bi_s, tyX, rl1, rl2, rl4, ↓reduceIte, Option.bind_some, true_and, and_true, false_and, and_false, true_or, or_true, false_or, or_false, if_same0, ite_eq0, ite_eq0', ite_eq1, ite_eq1', or_em, or_em', ite_not, lcmp0, lcmpL, lcmpG, nI_cl_b, eb_in_b, nI_1, nI_pred, Int32.reduceToNatClampNeg, eb_u_ap, Prod.mk.injEq, not_true_eq_false, not_false_eq_true, sp_rg, sp_iI, sp_iG, sp_iS, h.1, c, hk, q1, q2]
theorem x_readToken (h : eb_TX I T) (ht : sk_okT T) {e : Nat} (he : I (13, 0, 0) 3 = nI e) (he2 : e ≤ T.2) : ∃ I', eb_ev L (d + 3) 35 [zr (13, 0, 0)] (nc, ns, I, J, eb_RL C mt mk) = some (zn, (nc, ns, I', J, eb_RL C mt mk)) ∧ eb_KX I' (sk_tok T e) ∧ eb_fk I I' := by
  have h2 := ht.1
  rw [h35 rfl]
  have hsk := x_skip (L := L) (d := d + 1) (nc := nc) (ns := ns) (J := J) (C := C) (mt := mt) (mk := mk) h ht (T.2 - e) e (by omega)
  simp (decide := true) (disch := omega) only [e35_0, e35_1, e35_4, bi_s, tyX, rl1, rl2, rl4, ↓reduceIte, Option.bind_some, true_and, and_true, false_and, and_false, true_or, or_true, false_or, or_false, if_same0, ite_eq0, ite_eq0', ite_eq1, ite_eq1', or_em, or_em', ite_not, lcmp0, lcmpL, lcmpG, nI_cl_b, eb_in_b, nI_1, nI_pred, Int32.reduceToNatClampNeg, eb_u_ap, Prod.mk.injEq, not_true_eq_false, not_false_eq_true, sp_rg, sp_iI, sp_iG, sp_iS, he]
  rw [hsk]
  have hs := sk_start_b he2
  rw [show sk_skip T e (T.2 - e) = sk_start T e from rfl]
  generalize hS : sk_start T e = s at hs
  have hb : ∀ I1, eb_TX I1 T → eb_ev L (d + 2) 36 [zr (13, 0, 0), zi (nI s)] (nc, ns, I1, J, eb_RL C mt mk) = some (zi (sk_kind (sk_byte T s)), (nc, ns, I1, J, eb_RL C mt mk)) := fun I1 h1 => x_tokenAt h1 ht (by omega)
  have hT1 : eb_TX (eb_u I (13, 0, 0) 2 (nI s)) T := eb_fk_TX (fun a l q => if_neg (fun z => q ⟨z.1, by omega⟩)) h
  have hT2 : eb_TX (eb_u (eb_u I (13, 0, 0) 2 (nI s)) (13, 0, 0) 4 (sk_kind (sk_byte T s))) T := eb_fk_TX (fun a l q => if_neg (fun z => q ⟨z.1, by omega⟩)) hT1
  have hb1 := hb _ hT1
  have hfin : ∀ e', sk_tok T e = (sk_kind (sk_byte T s), s, e') → eb_KX (eb_u (eb_u (eb_u I (13, 0, 0) 2 (nI s)) (13, 0, 0) 4 (sk_kind (sk_byte T s))) (13, 0, 0) 3 (nI e')) (sk_tok T e) ∧ eb_fk I (eb_u (eb_u (eb_u I (13, 0, 0) 2 (nI s)) (13, 0, 0) 4 (sk_kind (sk_byte T s))) (13, 0, 0) 3 (nI e')) := by
    intro e' q
    rw [q]
    refine ⟨⟨by simp [eb_u], by simp [eb_u], by simp [eb_u]⟩, fun a l hal => ?_⟩
    have q1 : ¬ (a = (13, 0, 0) ∧ l = 2) := fun z => hal ⟨z.1, by omega⟩
    have q2 : ¬ (a = (13, 0, 0) ∧ l = 3) := fun z => hal ⟨z.1, by omega⟩
    have q3 : ¬ (a = (13, 0, 0) ∧ l = 4) := fun z => hal ⟨z.1, by omega⟩
    simp only [eb_u, q1, q2, q3, if_false]
  have htok : sk_tok T e = (sk_kind (sk_byte T s), s, sk_end T s) := by unfold sk_tok; rw [hS]
  by_cases c : s < T.2
  · have c1 : (nI s < nI T.2) = True := by rw [nI_lt_b (by omega) (by omega)]; exact eq_true c
    have hrun := x_run (L := L) (d := d) (nc := nc) (ns := ns) (J := J) (C := C) (mt := mt) (mk := mk) hT2 ht eb_u_s (T.2 - (s + 1)) (s + 1) (by omega)
    have hend : sk_end T s = (if sk_kind (sk_byte T s) = 1 ∨ sk_kind (sk_byte T s) = 2 then sk_run T (sk_kind (sk_byte T s)) (s + 1) (T.2 - (s + 1)) else s + 1) := by
      unfold sk_end
      rw [if_pos c, show sk_byte T s = T.1 s from if_pos c]
    rw [← hend] at hrun
    simp (decide := true) (disch := omega) only [e35_29, e35_30, e35_31, e35_34, e35_35, e35_36, e35_37, e35_40, e35_43, e35_44, e35_45, e35_48, e35_51, bi_s, tyX, rl1, rl2, rl4, ↓reduceIte, Option.bind_some, true_and, and_true, false_and, and_false, true_or, or_true, false_or, or_false, if_same0, ite_eq0, ite_eq0', ite_eq1, ite_eq1', or_em, or_em', ite_not, lcmp0, lcmpL, lcmpG, nI_cl_b, eb_in_b, nI_1, nI_pred, Int32.reduceToNatClampNeg, eb_u_ap, Prod.mk.injEq, not_true_eq_false, not_false_eq_true, sp_rg, sp_iI, sp_iG, sp_iS, hb1, h.1, c1]
    rw [hrun]
    simp (decide := true) (disch := omega) only [e35_96, e35_97, e35_98, e35_101, bi_s, tyX, rl1, rl2, rl4, ↓reduceIte, Option.bind_some, true_and, and_true, false_and, and_false, true_or, or_true, false_or, or_false, if_same0, ite_eq0, ite_eq0', ite_eq1, ite_eq1', or_em, or_em', ite_not, lcmp0, lcmpL, lcmpG, nI_cl_b, eb_in_b, nI_1, nI_pred, Int32.reduceToNatClampNeg, eb_u_ap, Prod.mk.injEq, not_true_eq_false, not_false_eq_true, sp_rg, sp_iI, sp_iG, sp_iS]
    exact ⟨_, rfl, hfin _ htok⟩
  · have c1 : (nI s < nI T.2) = False := by rw [nI_lt_b (by omega) (by omega)]; exact eq_false c
    have hend : sk_end T s = s := by unfold sk_end; rw [if_neg c]
    rw [hend] at htok
    simp (decide := true) (disch := omega) only [e35_29, e35_30, e35_31, e35_34, e35_35, e35_36, e35_37, e35_40, e35_43, e35_44, e35_45, e35_48, e35_51, bi_s, tyX, rl1, rl2, rl4, ↓reduceIte, Option.bind_some, true_and, and_true, false_and, and_false, true_or, or_true, false_or, or_false, if_same0, ite_eq0, ite_eq0', ite_eq1, ite_eq1', or_em, or_em', ite_not, lcmp0, lcmpL, lcmpG, nI_cl_b, eb_in_b, nI_1, nI_pred, Int32.reduceToNatClampNeg, eb_u_ap, Prod.mk.injEq, not_true_eq_false, not_false_eq_true, sp_rg, sp_iI, sp_iG, sp_iS, hb1, h.1, c1]
    rw [e35_54]
    simp (decide := true) (disch := omega) only [e35_55, e35_56, e35_59, e35_62, e35_63, e35_66, e35_67, e35_70, e35_71, e35_74, e35_75, e35_78, e35_79, e35_80, e35_83, e35_84, e35_87, e35_90, e35_93, e35_96, e35_97, e35_98, e35_101, bi_s, tyX, rl1, rl2, rl4, ↓reduceIte, Option.bind_some, true_and, and_true, false_and, and_false, true_or, or_true, false_or, or_false, if_same0, ite_eq0, ite_eq0', ite_eq1, ite_eq1', or_em, or_em', ite_not, lcmp0, lcmpL, lcmpG, nI_cl_b, eb_in_b, nI_1, nI_pred, Int32.reduceToNatClampNeg, eb_u_ap, Prod.mk.injEq, not_true_eq_false, not_false_eq_true, sp_rg, sp_iI, sp_iG, sp_iS, h.1, c1]
    exact ⟨_, rfl, hfin _ htok⟩
theorem x_number (h : eb_TX I T) (ht : sk_okT T) (hK : eb_KX I K) (hwf : sk_wf T K) {lo hi : Int32} (hhi : hi < 100000) : eb_ev L (d + 2) 33 [zr (13, 0, 0), zi lo, zi hi] (nc, ns, I, J, eb_RL C mt mk) = some (zi ((sk_take T K lo hi).getD (-1)), (nc, ns, I, J, eb_RL C mt mk)) := by
  have h2 := ht.1
  obtain ⟨w1, w2⟩ := hwf
  obtain ⟨kk, s, e⟩ := K
  obtain ⟨k1, k2, k3⟩ := hK
  have k1 : I (13, 0, 0) 2 = nI s := k1
  have k2 : I (13, 0, 0) 3 = nI e := k2
  have k3 : I (13, 0, 0) 4 = kk := k3
  have w1 : s ≤ e := w1
  have w2 : e ≤ T.2 := w2
  rw [h33 rfl]
  unfold sk_take sk_fig
  dsimp only
  by_cases c1 : kk = 2
  · have hsub : nI e - nI s = nI (e - s) := nI_sub w1
    by_cases c2 : e - s ≤ 3
    · have c3 : (3 < nI (e - s)) = False := by rw [show (3 : Int32) = nI 3 from rfl, nI_lt_b (by omega) (by omega)]; exact eq_false (by omega)
      simp (decide := true) (disch := omega) only [e33_0, e33_1, e33_4, e33_5, e33_8, e33_9, e33_12, e33_13, e33_16, e33_17, e33_18, e33_21, e33_22, e33_23, e33_24, e33_25, e33_26, e33_29, e33_33, e33_34, e33_37, e33_40, e33_42, e33_43, e33_44, e33_45, e33_47, e33_50, e33_51, e33_53, e33_54, e33_55, e33_58, e33_61, e33_62, e33_63, e33_64, e33_67, e33_70, e33_71, e33_74, e33_75, bi_s, tyX, rl1, rl2, rl4, ↓reduceIte, Option.bind_some, true_and, and_true, false_and, and_false, true_or, or_true, false_or, or_false, if_same0, ite_eq0, ite_eq0', ite_eq1, ite_eq1', or_em, or_em', ite_not, lcmp0, lcmpL, lcmpG, nI_cl_b, eb_in_b, nI_1, nI_pred, Int32.reduceToNatClampNeg, eb_u_ap, Prod.mk.injEq, not_true_eq_false, not_false_eq_true, sp_rg, sp_iI, sp_iG, sp_iS, k3, c1, k1, k2, hsub, c3]
      have e1 := eb_loopA (n := e - s) (f := sk_dig T s)
        (F := fun i v => eb_E L (d + 1) 33 31 [some (zr (13, 0, 0)), some (zi lo), some (zi hi), some (zi v), some (zi (nI (s + i)))] [] (nc, ns, I, J, eb_RL C mt mk)) (by
          intro i hi'
          have c4 : (nI (s + i) < nI e) = True := by rw [nI_lt_b (by omega) (by omega)]; exact eq_true (by omega)
          have hb := x_byteAt (L := L) (d := d) (nc := nc) (ns := ns) (J := J) (C := C) (mt := mt) (mk := mk) h ht (p := s + i) (by omega)
          rw [show sk_byte T (s + i) = T.1 (s + i) from if_pos (by omega)] at hb
          rw [e33_31]
          simp (decide := true) (disch := omega) only [e33_0, e33_1, e33_4, e33_5, e33_8, e33_9, e33_12, e33_13, e33_16, e33_17, e33_18, e33_21, e33_22, e33_23, e33_24, e33_25, e33_26, e33_29, e33_33, e33_34, e33_37, e33_40, e33_42, e33_43, e33_44, e33_45, e33_47, e33_50, e33_51, e33_53, e33_54, e33_55, e33_58, e33_61, e33_62, e33_63, e33_64, e33_67, e33_70, e33_71, e33_74, e33_75, bi_s, tyX, rl1, rl2, rl4, ↓reduceIte, Option.bind_some, true_and, and_true, false_and, and_false, true_or, or_true, false_or, or_false, if_same0, ite_eq0, ite_eq0', ite_eq1, ite_eq1', or_em, or_em', ite_not, lcmp0, lcmpL, lcmpG, nI_cl_b, eb_in_b, nI_1, nI_pred, Int32.reduceToNatClampNeg, eb_u_ap, Prod.mk.injEq, not_true_eq_false, not_false_eq_true, sp_rg, sp_iI, sp_iG, sp_iS, k2, c4, hb]
          rfl)
      have e1 : eb_E L (d + 1) 33 31 [some (zr (13, 0, 0)), some (zi lo), some (zi hi), some (zi 0), some (zi (nI s))] [] (nc, ns, I, J, eb_RL C mt mk) = eb_E L (d + 1) 33 31 [some (zr (13, 0, 0)), some (zi lo), some (zi hi), some (zi (sk_dig T s (e - s))), some (zi (nI (s + (e - s))))] [] (nc, ns, I, J, eb_RL C mt mk) := e1
      rw [show s + (e - s) = e by omega] at e1
      rw [e1, e33_31]
      simp (decide := true) (disch := omega) only [e33_0, e33_1, e33_4, e33_5, e33_8, e33_9, e33_12, e33_13, e33_16, e33_17, e33_18, e33_21, e33_22, e33_23, e33_24, e33_25, e33_26, e33_29, e33_33, e33_34, e33_37, e33_40, e33_42, e33_43, e33_44, e33_45, e33_47, e33_50, e33_51, e33_53, e33_54, e33_55, e33_58, e33_61, e33_62, e33_63, e33_64, e33_67, e33_70, e33_71, e33_74, e33_75, bi_s, tyX, rl1, rl2, rl4, ↓reduceIte, Option.bind_some, true_and, and_true, false_and, and_false, true_or, or_true, false_or, or_false, if_same0, ite_eq0, ite_eq0', ite_eq1, ite_eq1', or_em, or_em', ite_not, lcmp0, lcmpL, lcmpG, nI_cl_b, eb_in_b, nI_1, nI_pred, Int32.reduceToNatClampNeg, eb_u_ap, Prod.mk.injEq, not_true_eq_false, not_false_eq_true, sp_rg, sp_iI, sp_iG, sp_iS, k2, nI_lt_b, Nat.lt_irrefl, x_within, c2]
      by_cases c5 : lo ≤ sk_dig T s (e - s) ∧ sk_dig T s (e - s) ≤ hi
      · simp only [eq_true c5, bi_s, tyX, rl1, rl2, rl4, ↓reduceIte, Option.bind_some, true_and, and_true, false_and, and_false, true_or, or_true, false_or, or_false, if_same0, ite_eq0, ite_eq0', ite_eq1, ite_eq1', or_em, or_em', ite_not, lcmp0, lcmpL, lcmpG, nI_cl_b, eb_in_b, nI_1, nI_pred, Int32.reduceToNatClampNeg, eb_u_ap, Prod.mk.injEq, not_true_eq_false, not_false_eq_true]; rfl
      · simp only [eq_false c5, bi_s, tyX, rl1, rl2, rl4, ↓reduceIte, Option.bind_some, true_and, and_true, false_and, and_false, true_or, or_true, false_or, or_false, if_same0, ite_eq0, ite_eq0', ite_eq1, ite_eq1', or_em, or_em', ite_not, lcmp0, lcmpL, lcmpG, nI_cl_b, eb_in_b, nI_1, nI_pred, Int32.reduceToNatClampNeg, eb_u_ap, Prod.mk.injEq, not_true_eq_false, not_false_eq_true]; rfl
    · have c3 : (3 < nI (e - s)) = True := by rw [show (3 : Int32) = nI 3 from rfl, nI_lt_b (by omega) (by omega)]; exact eq_true (by omega)
      have c4 : ¬ (100000 : Int32) ≤ hi := Int32.not_le.mpr hhi
      simp (decide := true) (disch := omega) only [e33_0, e33_1, e33_4, e33_5, e33_8, e33_9, e33_12, e33_13, e33_16, e33_17, e33_18, e33_21, e33_22, e33_23, e33_24, e33_25, e33_26, e33_29, e33_33, e33_34, e33_37, e33_40, e33_42, e33_43, e33_44, e33_45, e33_47, e33_50, e33_51, e33_53, e33_54, e33_55, e33_58, e33_61, e33_62, e33_63, e33_64, e33_67, e33_70, e33_71, e33_74, e33_75, bi_s, tyX, rl1, rl2, rl4, ↓reduceIte, Option.bind_some, true_and, and_true, false_and, and_false, true_or, or_true, false_or, or_false, if_same0, ite_eq0, ite_eq0', ite_eq1, ite_eq1', or_em, or_em', ite_not, lcmp0, lcmpL, lcmpG, nI_cl_b, eb_in_b, nI_1, nI_pred, Int32.reduceToNatClampNeg, eb_u_ap, Prod.mk.injEq, not_true_eq_false, not_false_eq_true, sp_rg, sp_iI, sp_iG, sp_iS, k3, c1, k1, k2, hsub, c3, c2, c4]
      rfl
  · simp (decide := true) (disch := omega) only [e33_0, e33_1, e33_4, e33_5, e33_8, e33_9, e33_12, e33_13, e33_16, e33_17, e33_18, e33_21, e33_22, e33_23, e33_24, e33_25, e33_26, e33_29, e33_33, e33_34, e33_37, e33_40, e33_42, e33_43, e33_44, e33_45, e33_47, e33_50, e33_51, e33_53, e33_54, e33_55, e33_58, e33_61, e33_62, e33_63, e33_64, e33_67, e33_70, e33_71, e33_74, e33_75, bi_s, tyX, rl1, rl2, rl4, ↓reduceIte, Option.bind_some, true_and, and_true, false_and, and_false, true_or, or_true, false_or, or_false, if_same0, ite_eq0, ite_eq0', ite_eq1, ite_eq1', or_em, or_em', ite_not, lcmp0, lcmpL, lcmpG, nI_cl_b, eb_in_b, nI_1, nI_pred, Int32.reduceToNatClampNeg, eb_u_ap, Prod.mk.injEq, not_true_eq_false, not_false_eq_true, sp_rg, sp_iI, sp_iG, sp_iS, k3, c1]
    rfl
end

/-! the tape: words, statements; how the class reads them -/
theorem bi_len {L d z : Nat} {M : eb_M} (hz : z < 12) : eb_ev L (d + 2) 905 [zr (50, z, 0)] M = some (zi (nI (eb_tx (z % 6)).length), M) := if_pos ⟨rfl, ⟨hz, rfl⟩, Nat.le_add_left 1 d⟩
theorem bi_at {L d z i : Nat} {M : eb_M} (hz : z < 12) (hi : i < (eb_tx (z % 6)).length) (hl : (eb_tx (z % 6)).length ≤ 6) : eb_ev L (d + 5) 906 [zr (50, z, 0), zi (nI i)] M = some (zi ((eb_tx (z % 6)).getD i 0), M) := by
  have h : eb_ev L (d + 5) 906 [zr (50, z, 0), zi (nI i)] M = some (zi ((eb_tx (z % 6)).getD (nI i).toNatClampNeg 0), M) := if_pos ⟨rfl, ⟨hz, rfl⟩, eb_in_b (n := (eb_tx (z % 6)).length) hi (by omega), Nat.le_add_left 4 d⟩
  rw [h, nI_cl_b (by omega)]
theorem eb_tx_len : ∀ z, z < 6 → 1 ≤ (eb_tx z).length ∧ (eb_tx z).length ≤ 6 := by decide
theorem sk_eq_no {T : eb_Tp} {s : Nat} {tx : List Int32} {i : Nat} : ∀ {n : Nat}, i < n → ¬ T.1 (s + i) = tx.getD i 0 → sk_eq T s tx n = false := by
  intro n
  induction n with
  | zero => intro h; omega
  | succ n ih =>
    intro h hne
    show (sk_eq T s tx n && decide (T.1 (s + n) = tx.getD n 0)) = false
    by_cases q : i = n
    · subst q; rw [decide_eq_false hne, Bool.and_false]
    · rw [ih (by omega) hne]; rfl
/-- three numbers, one behind the other: what stands then, and they -/
def pr_three (T : eb_Tp) (K : eb_K) (l1 h1 l2 h2 l3 h3 : Int32) : eb_K × Option (Int32 × Int32 × Int32) :=
  match sk_take T (sk_nx T K) l1 h1 with
  | none => (sk_nx T K, none)
  | some a => match sk_take T (sk_nx T (sk_nx T K)) l2 h2 with
    | none => (sk_nx T (sk_nx T K), none)
    | some b => match sk_take T (sk_nx T (sk_nx T (sk_nx T K))) l3 h3 with
      | none => (sk_nx T (sk_nx T (sk_nx T K)), none)
      | some c => (sk_nx T (sk_nx T (sk_nx T (sk_nx T K))), some (a, b, c))
def pr_said (T : eb_Tp) (w : eb_W) (K : eb_K) (a b c : Int32) : eb_K × Option eb_W :=
  if sk_isw T K 5 = true then match sk_take T (sk_nx T K) 0 100 with
    | none => (sk_nx T K, none)
    | some v => (sk_nx T (sk_nx T K), some (sp_inn w a b c v))
  else (K, some (sp_inn w a b c (-1)))
def pr_inn (T : eb_Tp) (w : eb_W) (K : eb_K) : eb_K × Option eb_W := if w.1 = 6 then (K, none) else match pr_three T K 0 100 1 20 0 99 with
  | (k, none) => (k, none)
  | (k, some q) => pr_said T w k q.1 q.2.1 q.2.2
def pr_goer (T : eb_Tp) (w : eb_W) (K : eb_K) : eb_K × Option eb_W := if w.2.1 = 6 then (K, none) else match pr_three T K 0 5 1 30 0 99 with
  | (k, none) => (k, none)
  | (k, some q) => (k, some (sp_goer w q.1 q.2.1 q.2.2))
def sp_letter (w : eb_W) (i : Nat) (v : Int32) : eb_W := sp_setI (sp_setI w i 5 (w.2.2.2.1 i 5 + 1)) i 6 (w.2.2.2.1 i 6 + v)
def pr_letter (T : eb_Tp) (w : eb_W) (K : eb_K) : eb_K × Option eb_W := match sk_take T (sk_nx T K) 0 (nI w.1 - 1) with
  | none => (sk_nx T K, none)
  | some i => if w.2.2.2.1 (tn i) 5 < 99 then match sk_take T (sk_nx T (sk_nx T K)) 0 100 with
      | none => (sk_nx T (sk_nx T K), none)
      | some v => (sk_nx T (sk_nx T (sk_nx T K)), some (sp_letter w (tn i) v))
    else (sk_nx T K, none)
def pr_age (T : eb_Tp) (w : eb_W) (K : eb_K) : eb_K × Option eb_W := match sk_take T (sk_nx T K) 0 99 with
  | none => (sk_nx T K, none)
  | some v => (sk_nx T (sk_nx T K), some (sp_setS w 0 v))
/-- inns one behind the other, each once: f at most; the first must be there -/
def pr_wl (T : eb_Tp) (n : Nat) : Nat → Bool → Int32 → eb_K → eb_K × Option Int32
  | 0, _, set, K => (K, some set)
  | f + 1, first, set, K => if first = true ∨ K.1 = 2 then match sk_take T K 0 (nI n - 1) with
      | none => (K, none)
      | some i => if sp_bit set (tn i) = true then (K, none) else pr_wl T n f false (set ||| (1 : Int32) <<< (i &&& 31)) (sk_nx T K)
    else (K, some set)
def pr_write (T : eb_Tp) (w : eb_W) (K : eb_K) : eb_K × Option eb_W := match pr_wl T w.1 7 true 0 (sk_nx T K) with
  | (k, none) => (k, none)
  | (k, some s) => (k, some (sp_write w s))
def pr_stmt (T : eb_Tp) (w : eb_W) (K : eb_K) : eb_K × Option eb_W :=
  if sk_isw T K 0 = true then pr_inn T w K else if sk_isw T K 1 = true then pr_goer T w K else if sk_isw T K 2 = true then pr_letter T w K
  else if sk_isw T K 3 = true then pr_age T w K else if sk_isw T K 4 = true then pr_write T w K else (K, none)
def pr_all (T : eb_Tp) : Nat → Nat → eb_W → eb_K → eb_K × Option (eb_W × Nat)
  | 0, _, _, K => (K, none)
  | f + 1, c, w, K => match pr_stmt T w K with
    | (k, none) => (k, none)
    | (k, some w') => if k.1 = 0 then (k, some (w', c)) else if k.1 = 3 then pr_all T f (c + 1) w' (sk_nx T k) else (k, none)
def sp_w0 (w : eb_W) : eb_W := w
def sf_valley (S : eb_St) : Int32 × eb_St := match pr_all (ss_t S) 250 1 S.1 (sk_tok (ss_t S) 0) with
  | (k, none) => (-20 - nI k.2.1, sp_rf (sp_toT S ((ss_t S).1, 0)) 0)
  | (_, some q) => (nI q.2, sp_toT (sp_toW S q.1) ((ss_t S).1, 0))
section
variable {L d nc ns k i g : Nat} {I : eb_A → Nat → Int32} {J : eb_A → Nat → Int64} {C : Nat → Nat → Nat} {mt mk : Option Nat} {w : eb_W} {R : eb_A → Nat → Option eb_A} {S : eb_St} {M : eb_M} {T : eb_Tp} {K : eb_K}
theorem x_isWord (h : eb_TX I T) (ht : sk_okT T) (hK : eb_KX I K) (hwf : sk_wf T K) {z : Nat} (hz : z < 6) : eb_ev L (d + 6) 34 [zr (13, 0, 0), zr (50, z, 0)] (nc, ns, I, J, eb_RL C mt mk) = some (zi (if sk_isw T K z = true then 1 else 0), (nc, ns, I, J, eb_RL C mt mk)) := by
  have h2 := ht.1
  obtain ⟨w1, w2⟩ := hwf
  obtain ⟨kk, s, e⟩ := K
  obtain ⟨k1, k2, k3⟩ := hK
  have k1 : I (13, 0, 0) 2 = nI s := k1
  have k2 : I (13, 0, 0) 3 = nI e := k2
  have k3 : I (13, 0, 0) 4 = kk := k3
  have w1 : s ≤ e := w1
  have w2 : e ≤ T.2 := w2
  have hlen := eb_tx_len z hz
  have bl := fun M => bi_len (L := L) (d := d + 3) (M := M) (z := z) (by omega)
  have ba := fun M i => bi_at (L := L) (d := d) (M := M) (z := z) (i := i) (by omega)
  rw [Nat.mod_eq_of_lt hz] at bl ba
  generalize hlz : (eb_tx z).length = l at hlen bl ba
  rw [h34 rfl]
  have hisw : sk_isw T (kk, s, e) z = (decide (kk = 1 ∧ e - s = l) && sk_eq T s (eb_tx z) l) := by unfold sk_isw; rw [hlz]
  rw [hisw]
  by_cases c1 : kk = 1
  · have hsub : nI e - nI s = nI (e - s) := nI_sub w1
    by_cases c2 : e - s = l
    · rw [decide_eq_true ⟨c1, c2⟩, Bool.true_and]
      have c3 : (nI (e - s) = nI l) = True := by rw [c2]; exact eq_true rfl
      simp (decide := true) (disch := omega) only [e34_0, e34_1, e34_4, e34_5, e34_8, e34_9, e34_12, e34_13, e34_16, e34_17, e34_18, e34_21, e34_24, e34_25, e34_26, e34_27, e34_29, e34_30, e34_33, e34_36, e34_37, e34_38, e34_41, e34_42, e34_43, e34_46, e34_47, e34_48, e34_51, e34_54, e34_55, e34_56, e34_59, e34_62, e34_63, bi_s, tyX, rl1, rl2, rl4, ↓reduceIte, Option.bind_some, true_and, and_true, false_and, and_false, true_or, or_true, false_or, or_false, if_same0, ite_eq0, ite_eq0', ite_eq1, ite_eq1', or_em, or_em', ite_not, lcmp0, lcmpL, lcmpG, nI_cl_b, eb_in_b, nI_1, nI_pred, Int32.reduceToNatClampNeg, eb_u_ap, Prod.mk.injEq, not_true_eq_false, not_false_eq_true, sp_rg, sp_iI, sp_iG, sp_iS, k3, c1, k1, k2, hsub, bl, c3]
      have key := eb_loopE (α := Unit) (n := l) (s0 := ())
        (F := fun i _ => eb_E L (d + 5) 34 28 [some (zr (13, 0, 0)), some (zr (50, z, 0)), some (zi (nI i))] [] (nc, ns, I, J, eb_RL C mt mk))
        (P := fun i _ => sk_eq T s (eb_tx z) i = true)
        (Q := fun r => r = some (zi (if sk_eq T s (eb_tx z) l = true then 1 else 0), (nc, ns, I, J, eb_RL C mt mk)))
        rfl (by
          intro i _ hi hP
          have hb := x_byteAt (L := L) (d := d + 4) (nc := nc) (ns := ns) (J := J) (C := C) (mt := mt) (mk := mk) h ht (p := s + i) (by omega)
          rw [show sk_byte T (s + i) = T.1 (s + i) from if_pos (by omega)] at hb
          have hat := fun M => ba M i hi (by omega)
          have c4 : (nI i < nI l) = True := by rw [nI_lt_b (by omega) (by omega)]; exact eq_true hi
          by_cases c : T.1 (s + i) = (eb_tx z).getD i 0
          · left
            rw [e34_28]
            simp (decide := true) (disch := omega) only [e34_0, e34_1, e34_4, e34_5, e34_8, e34_9, e34_12, e34_13, e34_16, e34_17, e34_18, e34_21, e34_24, e34_25, e34_26, e34_27, e34_29, e34_30, e34_33, e34_36, e34_37, e34_38, e34_41, e34_42, e34_43, e34_46, e34_47, e34_48, e34_51, e34_54, e34_55, e34_56, e34_59, e34_62, e34_63, bi_s, tyX, rl1, rl2, rl4, ↓reduceIte, Option.bind_some, true_and, and_true, false_and, and_false, true_or, or_true, false_or, or_false, if_same0, ite_eq0, ite_eq0', ite_eq1, ite_eq1', or_em, or_em', ite_not, lcmp0, lcmpL, lcmpG, nI_cl_b, eb_in_b, nI_1, nI_pred, Int32.reduceToNatClampNeg, eb_u_ap, Prod.mk.injEq, not_true_eq_false, not_false_eq_true, sp_rg, sp_iI, sp_iG, sp_iS, bl, c4, k1, nI_add, hb, hat, c]
            have hh : sk_eq T s (eb_tx z) (i + 1) = true := by show (_ && decide _) = true; rw [hP, decide_eq_true c]; rfl
            first | exact ⟨(), rfl, hh⟩ | exact ⟨(), hh⟩ | exact hh
          · right
            rw [e34_28]
            simp (decide := true) (disch := omega) only [e34_0, e34_1, e34_4, e34_5, e34_8, e34_9, e34_12, e34_13, e34_16, e34_17, e34_18, e34_21, e34_24, e34_25, e34_26, e34_27, e34_29, e34_30, e34_33, e34_36, e34_37, e34_38, e34_41, e34_42, e34_43, e34_46, e34_47, e34_48, e34_51, e34_54, e34_55, e34_56, e34_59, e34_62, e34_63, bi_s, tyX, rl1, rl2, rl4, ↓reduceIte, Option.bind_some, true_and, and_true, false_and, and_false, true_or, or_true, false_or, or_false, if_same0, ite_eq0, ite_eq0', ite_eq1, ite_eq1', or_em, or_em', ite_not, lcmp0, lcmpL, lcmpG, nI_cl_b, eb_in_b, nI_1, nI_pred, Int32.reduceToNatClampNeg, eb_u_ap, Prod.mk.injEq, not_true_eq_false, not_false_eq_true, sp_rg, sp_iI, sp_iG, sp_iS, bl, c4, k1, nI_add, hb, hat, c]
            rw [sk_eq_no hi c]
            rfl) (by
          intro _ hP
          rw [e34_28]
          simp (decide := true) (disch := omega) only [e34_0, e34_1, e34_4, e34_5, e34_8, e34_9, e34_12, e34_13, e34_16, e34_17, e34_18, e34_21, e34_24, e34_25, e34_26, e34_27, e34_29, e34_30, e34_33, e34_36, e34_37, e34_38, e34_41, e34_42, e34_43, e34_46, e34_47, e34_48, e34_51, e34_54, e34_55, e34_56, e34_59, e34_62, e34_63, bi_s, tyX, rl1, rl2, rl4, ↓reduceIte, Option.bind_some, true_and, and_true, false_and, and_false, true_or, or_true, false_or, or_false, if_same0, ite_eq0, ite_eq0', ite_eq1, ite_eq1', or_em, or_em', ite_not, lcmp0, lcmpL, lcmpG, nI_cl_b, eb_in_b, nI_1, nI_pred, Int32.reduceToNatClampNeg, eb_u_ap, Prod.mk.injEq, not_true_eq_false, not_false_eq_true, sp_rg, sp_iI, sp_iG, sp_iS, bl, nI_lt_b, Nat.lt_irrefl, hP])
      simp only [nI_0] at key
      exact key
    · have c3 : (nI (e - s) = nI l) = False := by rw [nI_eq_b (by omega) (by omega)]; exact eq_false c2
      rw [decide_eq_false (fun q => c2 q.2), Bool.false_and]
      simp (decide := true) (disch := omega) only [e34_0, e34_1, e34_4, e34_5, e34_8, e34_9, e34_12, e34_13, e34_16, e34_17, e34_18, e34_21, e34_24, e34_25, e34_26, e34_27, e34_29, e34_30, e34_33, e34_36, e34_37, e34_38, e34_41, e34_42, e34_43, e34_46, e34_47, e34_48, e34_51, e34_54, e34_55, e34_56, e34_59, e34_62, e34_63, bi_s, tyX, rl1, rl2, rl4, ↓reduceIte, Option.bind_some, true_and, and_true, false_and, and_false, true_or, or_true, false_or, or_false, if_same0, ite_eq0, ite_eq0', ite_eq1, ite_eq1', or_em, or_em', ite_not, lcmp0, lcmpL, lcmpG, nI_cl_b, eb_in_b, nI_1, nI_pred, Int32.reduceToNatClampNeg, eb_u_ap, Prod.mk.injEq, not_true_eq_false, not_false_eq_true, sp_rg, sp_iI, sp_iG, sp_iS, k3, c1, k1, k2, hsub, bl, c3]
  · rw [decide_eq_false (fun q => c1 q.1), Bool.false_and]
    simp (decide := true) (disch := omega) only [e34_0, e34_1, e34_4, e34_5, e34_8, e34_9, e34_12, e34_13, e34_16, e34_17, e34_18, e34_21, e34_24, e34_25, e34_26, e34_27, e34_29, e34_30, e34_33, e34_36, e34_37, e34_38, e34_41, e34_42, e34_43, e34_46, e34_47, e34_48, e34_51, e34_54, e34_55, e34_56, e34_59, e34_62, e34_63, bi_s, tyX, rl1, rl2, rl4, ↓reduceIte, Option.bind_some, true_and, and_true, false_and, and_false, true_or, or_true, false_or, or_false, if_same0, ite_eq0, ite_eq0', ite_eq1, ite_eq1', or_em, or_em', ite_not, lcmp0, lcmpL, lcmpG, nI_cl_b, eb_in_b, nI_1, nI_pred, Int32.reduceToNatClampNeg, eb_u_ap, Prod.mk.injEq, not_true_eq_false, not_false_eq_true, sp_rg, sp_iI, sp_iG, sp_iS, k3, c1]
/-- the next token -/
theorem x_next (h : eb_TX I T) (ht : sk_okT T) (hK : eb_KX I K) (hwf : sk_wf T K) : ∃ I', eb_ev L (d + 3) 35 [zr (13, 0, 0)] (nc, ns, I, J, eb_RL C mt mk) = some (zn, (nc, ns, I', J, eb_RL C mt mk)) ∧ eb_KX I' (sk_nx T K) ∧ eb_fk I I' := x_readToken h ht hK.2.1 hwf.2
theorem x_take (h : eb_TX I T) (ht : sk_okT T) (hK : eb_KX I K) (hwf : sk_wf T K) {lo hi : Int32} (hhi : hi < 100000) (hlo : 0 ≤ lo) : ∃ I', eb_ev L (d + 4) 32 [zr (13, 0, 0), zi lo, zi hi] (nc, ns, I, J, eb_RL C mt mk) = some (zi ((sk_take T K lo hi).getD (-1)), (nc, ns, I', J, eb_RL C mt mk)) ∧ eb_KX I' (if sk_take T K lo hi = none then K else sk_nx T K) ∧ eb_fk I I' := by
  have hn := x_number (L := L) (d := d + 1) (nc := nc) (ns := ns) (J := J) (C := C) (mt := mt) (mk := mk) h ht hK hwf (lo := lo) hhi
  rw [h32 rfl]
  cases hs : sk_take T K lo hi with
  | none =>
    rw [hs] at hn
    have hn : eb_ev L (d + 3) 33 [zr (13, 0, 0), zi lo, zi hi] (nc, ns, I, J, eb_RL C mt mk) = some (zi (-1), (nc, ns, I, J, eb_RL C mt mk)) := hn
    simp (decide := true) (disch := omega) only [e32_0, e32_1, e32_2, e32_3, e32_6, e32_7, e32_8, e32_9, e32_12, e32_13, e32_16, e32_17, bi_s, tyX, rl1, rl2, rl4, ↓reduceIte, Option.bind_some, true_and, and_true, false_and, and_false, true_or, or_true, false_or, or_false, if_same0, ite_eq0, ite_eq0', ite_eq1, ite_eq1', or_em, or_em', ite_not, lcmp0, lcmpL, lcmpG, nI_cl_b, eb_in_b, nI_1, nI_pred, Int32.reduceToNatClampNeg, eb_u_ap, Prod.mk.injEq, not_true_eq_false, not_false_eq_true, sp_rg, sp_iI, sp_iG, sp_iS, hn]
    exact ⟨I, rfl, hK, eb_fk_rf⟩
  | some v =>
    rw [hs] at hn
    have hn : eb_ev L (d + 3) 33 [zr (13, 0, 0), zi lo, zi hi] (nc, ns, I, J, eb_RL C mt mk) = some (zi v, (nc, ns, I, J, eb_RL C mt mk)) := hn
    have hv : ¬ v = -1 := fun q => by
      unfold sk_take at hs
      split at hs
      · next c =>
        cases hs
        rw [q] at c
        exact absurd (Int32.le_trans hlo c.2.1) (by decide)
      · cases hs
    obtain ⟨I1, a1, a2, a3⟩ := x_next (L := L) (d := d) (nc := nc) (ns := ns) (J := J) (C := C) (mt := mt) (mk := mk) h ht hK hwf
    simp (decide := true) (disch := omega) only [e32_0, e32_1, e32_2, e32_3, e32_6, e32_7, e32_8, e32_9, e32_12, e32_13, e32_16, e32_17, bi_s, tyX, rl1, rl2, rl4, ↓reduceIte, Option.bind_some, true_and, and_true, false_and, and_false, true_or, or_true, false_or, or_false, if_same0, ite_eq0, ite_eq0', ite_eq1, ite_eq1', or_em, or_em', ite_not, lcmp0, lcmpL, lcmpG, nI_cl_b, eb_in_b, nI_1, nI_pred, Int32.reduceToNatClampNeg, eb_u_ap, Prod.mk.injEq, not_true_eq_false, not_false_eq_true, sp_rg, sp_iI, sp_iG, sp_iS, hn, hv, a1]
    exact ⟨I1, rfl, a2, a3⟩
theorem sk_take_rg {lo hi v : Int32} (h : sk_take T K lo hi = some v) : lo ≤ v ∧ v ≤ hi ∧ K.1 = 2 := by
  unfold sk_take at h
  split at h
  · next c => cases h; exact ⟨c.2.1, c.2.2, c.1⟩
  · cases h
end

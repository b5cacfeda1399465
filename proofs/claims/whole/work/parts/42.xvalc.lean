/-! the class's valleys: two books, what else years give, letters drawn -/
def sp_half (w : eb_W) (j : Nat) : Int32 := if sp_bk (w.2.2.2.2 j 0) = true then w.2.2.2.2 j 1 / 2 else 0
def sp_twoStep (set others : Int32) (s : eb_W × eb_N) (j : Nat) : eb_W × eb_N :=
  (sp_write (sp_write s.1 set) others, sp_put (sp_write (sp_write s.1 set) others) (fun i => (sp_write (sp_write s.1 set) others).2.2.2.1 i 4) j (sp_half s.1 j) (sp_put (sp_write s.1 set) (fun i => (sp_write s.1 set).2.2.2.1 i 4) j (s.1.2.2.2.2 j 1 - sp_half s.1 j) s.2))
def sp_two (w : eb_W) (set others : Int32) : eb_W × eb_N := (sp_ord w).foldl (sp_twoStep set others) (w, sp_N0)
def sp_own (w : eb_W) (m : Nat) : Int32 := sp_sum (fun j => if w.2.2.2.2 j 0 = 3 then (sp_years w m).2.1 j else 0) w.2.1
def sp_next (s : Int32) : Int32 := s * 1103515245 + 12345
def sp_draw (s below : Int32) : Int32 := if below < 1 then 0 else (s >>> 16 : Int32) % below
section
variable {L d nc ns k i g : Nat} {I : eb_A → Nat → Int32} {J : eb_A → Nat → Int64} {C : Nat → Nat → Nat} {mt mk : Option Nat} {M : eb_M} {R : eb_A → Nat → Option eb_A} {w : eb_W} {N : eb_N}
theorem x_ownJoy (h : eb_RX I k w) (hw : sp_ok w) {f : Nat → Int32} (hf : ∀ j, j < w.2.1 → I (7, k, j) 5 = f j) : eb_ev L (d + 1) 63 [zr (4, k, 0)] (nc, ns, I, J, eb_RL C mt mk) = some (zi (sp_sum (fun j => if w.2.2.2.2 j 0 = 3 then f j else 0) w.2.1), (nc, ns, I, J, eb_RL C mt mk)) := by
  have hn := hw.2.1
  rw [h63 rfl]
  simp (decide := true) (disch := omega) only [e63_0, e63_1, e63_2, e63_3, e63_5, e63_6, e63_9, e63_12, e63_13, e63_14, e63_17, e63_18, e63_19, e63_22, e63_23, e63_26, e63_27, e63_30, e63_31, e63_32, e63_35, e63_38, e63_39, e63_40, e63_41, e63_44, e63_47, e63_48, bi_s, tyX, rl1, rl2, rl4, ↓reduceIte, Option.bind_some, true_and, and_true, false_and, and_false, true_or, or_true, false_or, or_false, if_same0, ite_eq0, ite_eq0', ite_eq1, ite_eq1', or_em, or_em', ite_not, lcmp0, lcmpL, lcmpG, nI_cl_b, eb_in_b, nI_1, nI_pred, Int32.reduceToNatClampNeg, eb_u_ap, Prod.mk.injEq, not_true_eq_false, not_false_eq_true]
  have e := eb_loopA (n := w.2.1) (f := sp_sum (fun j => if w.2.2.2.2 j 0 = 3 then f j else 0))
    (F := fun i s => eb_E L d 63 4 [some (zr (4, k, 0)), some (zi s), some (zi (nI i))] [] (nc, ns, I, J, eb_RL C mt mk)) (by
      intro i hi
      rw [e63_4]
      have hk0 := h.2.2 i hi 0 (by omega)
      have hk5 := hf i hi
      simp (decide := true) (disch := omega) only [e63_0, e63_1, e63_2, e63_3, e63_5, e63_6, e63_9, e63_12, e63_13, e63_14, e63_17, e63_18, e63_19, e63_22, e63_23, e63_26, e63_27, e63_30, e63_31, e63_32, e63_35, e63_38, e63_39, e63_40, e63_41, e63_44, e63_47, e63_48, bi_s, tyX, rl1, rl2, rl4, ↓reduceIte, Option.bind_some, true_and, and_true, false_and, and_false, true_or, or_true, false_or, or_false, if_same0, ite_eq0, ite_eq0', ite_eq1, ite_eq1', or_em, or_em', ite_not, lcmp0, lcmpL, lcmpG, nI_cl_b, eb_in_b, nI_1, nI_pred, Int32.reduceToNatClampNeg, eb_u_ap, Prod.mk.injEq, not_true_eq_false, not_false_eq_true, h.1.2.1, nI_lt_b, hi, sp_sum, hk0, hk5]
      by_cases c : w.2.2.2.2 i 0 = 3 <;> simp only [c, bi_s, tyX, rl1, rl2, rl4, ↓reduceIte, Option.bind_some, true_and, and_true, false_and, and_false, true_or, or_true, false_or, or_false, if_same0, ite_eq0, ite_eq0', ite_eq1, ite_eq1', or_em, or_em', ite_not, lcmp0, lcmpL, lcmpG, nI_cl_b, eb_in_b, nI_1, nI_pred, Int32.reduceToNatClampNeg, eb_u_ap, Prod.mk.injEq, not_true_eq_false, not_false_eq_true])
  simp only [nI_0] at e
  rw [show sp_sum (fun j => if w.2.2.2.2 j 0 = 3 then f j else (0 : Int32)) 0 = 0 from rfl] at e
  rw [e, e63_4]
  simp (decide := true) (disch := omega) only [e63_0, e63_1, e63_2, e63_3, e63_5, e63_6, e63_9, e63_12, e63_13, e63_14, e63_17, e63_18, e63_19, e63_22, e63_23, e63_26, e63_27, e63_30, e63_31, e63_32, e63_35, e63_38, e63_39, e63_40, e63_41, e63_44, e63_47, e63_48, bi_s, tyX, rl1, rl2, rl4, ↓reduceIte, Option.bind_some, true_and, and_true, false_and, and_false, true_or, or_true, false_or, or_false, if_same0, ite_eq0, ite_eq0', ite_eq1, ite_eq1', or_em, or_em', ite_not, lcmp0, lcmpL, lcmpG, nI_cl_b, eb_in_b, nI_1, nI_pred, Int32.reduceToNatClampNeg, eb_u_ap, Prod.mk.injEq, not_true_eq_false, not_false_eq_true, h.1.2.1, nI_lt_b, Nat.lt_irrefl]
end

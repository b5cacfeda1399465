/-! the reference's faces: books -/
theorem sp_best_top {has : Nat → Bool} {f : Nat → Int32} : ∀ {n b : Nat}, sp_best has f n = some b → ∀ t, t < n → has t = true → f t ≤ f b := by
  intro n
  induction n with
  | zero => intro b h; cases h
  | succ n ih =>
    intro b h t ht hh
    rw [sp_best_s] at h
    cases hb : sp_best has f n with
    | none =>
      rw [hb] at h
      simp only at h
      have hnone := sp_best_none hb
      by_cases q : has n = true
      · rw [if_pos q] at h
        cases h
        by_cases e : t = n
        · subst e; exact Int32.le_refl _
        · have := hnone t (by omega); rw [this] at hh; cases hh
      · rw [if_neg q] at h; cases h
    | some c =>
      rw [hb] at h
      simp only at h
      by_cases q : has n = true ∧ f c < f n
      · rw [if_pos q] at h
        cases h
        by_cases e : t = n
        · subst e; exact Int32.le_refl _
        · exact Int32.le_of_lt (Int32.lt_of_le_of_lt (ih hb t (by omega) hh) q.2)
      · rw [if_neg q] at h
        cases h
        by_cases e : t = n
        · subst e
          exact Int32.not_lt.mp (fun z => q ⟨hh, z⟩)
        · exact ih hb t (by omega) hh
def pcN (s : Nat) : Nat → Nat
  | 0 => 0
  | j + 1 => pcN s j + s / 2 ^ j % 2
theorem pcN_pop : ∀ n, n < 7 → ∀ s, s < 2 ^ n → pcN s n = sp_pop s := by decide +kernel
theorem pcN_le (s : Nat) : ∀ j, pcN s j ≤ j := by
  intro j
  induction j with
  | zero => exact Nat.le_refl _
  | succ j ih => show pcN s j + s / 2 ^ j % 2 ≤ j + 1; omega
theorem bitN : ∀ j, j < 6 → ∀ s, s < 64 → nI s >>> (nI j &&& 31) &&& 1 = nI (s / 2 ^ j % 2) := by decide +kernel
section
variable {L d nc ns r i g t : Nat} {I I' I1 : eb_A → Nat → Int32} {J J1 : eb_A → Nat → Int64} {C : Nat → Nat → Nat} {mt mk : Option Nat} {M : eb_M} {R : eb_A → Nat → Option eb_A} {w : eb_W} {x set a b : Int32} {S : eb_St}
/-- a copy made afresh leaves what is in truth -/
theorem m_fresh0 (h : eb_MS S I J nc ns mt mk) (ok : sp_St S) : ∃ t nc' ns' I' J', eb_ev L (d + 4) 246 [zr (21, 0, 0)] (nc, ns, I, J, eb_RL C mt mk) = some (zr (21, t, 0), (nc', ns', I', J', eb_RL C (some t) mk)) ∧ eb_MS S I' J' nc' ns' (some t) mk ∧ eb_RM I' t S.1 ∧ eb_fM I I' ∧ eb_fN J J' ∧ ∀ a l, a.2.1 = 0 → I' a l = I a l := by
  rw [h246 rfl]
  have old : ∀ (t nc ns : Nat) (I1 : eb_A → Nat → Int32) (J1 : eb_A → Nat → Int64), eb_MS S I1 J1 nc ns (some t) mk → eb_fM I I1 → eb_fN J J1 → (∀ a l, a.2.1 = 0 → I1 a l = I a l) → ∃ I', eb_ev L (d + 3) 248 [zr (21, t, 0), zr (21, 0, 0)] (nc, ns, I1, J1, eb_RL C (some t) mk) = some (zn, (nc, ns, I', J1, eb_RL C (some t) mk)) ∧ eb_MS S I' J1 nc ns (some t) mk ∧ eb_RM I' t S.1 ∧ eb_fM I I' ∧ eb_fN J J1 ∧ ∀ a l, a.2.1 = 0 → I' a l = I a l := by
    intro t nc ns I1 J1 h1 h2 h3 h4
    have ht := (cnt_t h1.2.2.1).1 t rfl
    obtain ⟨I2, a1, a2, a3⟩ := m_takeFrom (L := L) (d := d + 1) (nc := nc) (ns := ns) (J := J1) (C := C) (mt := some t) (mk := mk) (r := t) h1.1 ok.1 (fun z => ht.1 z.symm)
    exact ⟨I2, a1, eb_MS_t h1 a3, a2, eb_fM_tr h2 (eb_fM_gv a3), h3, fun a l q => (a3 a l (fun z => ht.1 (z.1.symm.trans q))).trans (h4 a l q)⟩
  have reuse : ∀ t, mt = some t → ∃ t nc' ns' I' J', eb_E L (d + 3) 246 0 [some (zr (21, 0, 0))] [] (nc, ns, I, J, eb_RL C mt mk) = some (zr (21, t, 0), (nc', ns', I', J', eb_RL C (some t) mk)) ∧ eb_MS S I' J' nc' ns' (some t) mk ∧ eb_RM I' t S.1 ∧ eb_fM I I' ∧ eb_fN J J' ∧ ∀ a l, a.2.1 = 0 → I' a l = I a l := by
    intro t q
    subst q
    obtain ⟨I2, a1, a2⟩ := old t nc ns I J h eb_fM_rf eb_fN_rf (fun _ _ _ => rfl)
    simp (decide := true) only [e246_0, e246_1, e246_4, e246_7, e246_8, e246_11a, e246_11b, e246_12, e246_15, e246_18, e246_19, e246_22, e246_23, e246_26, e246_27, e246_30, bi_s, tyX, rl1, rl2, rl4, ↓reduceIte, Option.bind_some, true_and, and_true, false_and, and_false, true_or, or_true, false_or, or_false, if_same0, ite_eq0, ite_eq0', ite_eq1, ite_eq1', or_em, or_em', ite_not, lcmp0, lcmpL, lcmpG, nI_cl_b, eb_in_b, nI_1, nI_pred, Int32.reduceToNatClampNeg, eb_u_ap, Prod.mk.injEq, not_true_eq_false, not_false_eq_true, tyM, rl21, rl25, sp_rg, sp_iI, sp_iG, sp_iS, Option.map_some, Option.map_none, reduceCtorEq, a1]
    exact ⟨t, nc, ns, I2, J, rfl, a2⟩
  rcases h.2.2.1 with ⟨h1, h2, h3, h4⟩ | ⟨h1, h2, h3, h4⟩ | ⟨h1, h2, h3, h4⟩ | ⟨h1, h2, h3, h4⟩ | ⟨h1, h2, h3, h4⟩
  · subst h1
    subst h2
    subst h3
    obtain ⟨I1, J1, b1, b2, -, -⟩ := m_init1 (L := L) (d := d + 1) (ns := ns + 34) (I := eb_zI I (21, 1, 0)) (J := J) (C := C) (mt := none) (mk := none)
    have b2 := fm_more b2
    have hm := eb_MS_more (mt' := some 1) (mk' := none) h b2 (by decide) (by simp) (nc' := 181) (ns' := ns + 34 + 808) (Or.inr (Or.inl ⟨rfl, rfl, rfl, by omega⟩)) rfl
    obtain ⟨I2, a1, a2⟩ := old 1 181 (ns + 34 + 808) I1 J1 hm (fun a l q => (b2 a l (fun z => by omega)).1) (fun a l q => (b2 a l (fun z => by omega)).2) (fun a l q => (b2 a l (fun z => absurd (q.symm.trans z.1) (by decide))).1)
    simp (decide := true) only [e246_0, e246_1, e246_4, e246_7, e246_8, e246_11a, e246_11b, e246_12, e246_15, e246_18, e246_19, e246_22, e246_23, e246_26, e246_27, e246_30, bi_s, tyX, rl1, rl2, rl4, ↓reduceIte, Option.bind_some, true_and, and_true, false_and, and_false, true_or, or_true, false_or, or_false, if_same0, ite_eq0, ite_eq0', ite_eq1, ite_eq1', or_em, or_em', ite_not, lcmp0, lcmpL, lcmpG, nI_cl_b, eb_in_b, nI_1, nI_pred, Int32.reduceToNatClampNeg, eb_u_ap, Prod.mk.injEq, not_true_eq_false, not_false_eq_true, tyM, rl21, rl25, sp_rg, sp_iI, sp_iG, sp_iS, Option.map_some, Option.map_none, reduceCtorEq, nmM1, b1, rlT, a1]
    exact ⟨1, 181, ns + 34 + 808, I2, J1, rfl, a2⟩
  · exact reuse 1 h1
  · subst h1
    subst h2
    subst h3
    obtain ⟨I1, J1, b1, b2, -, -⟩ := m_init2 (L := L) (d := d + 1) (ns := ns + 34) (I := eb_zI I (21, 2, 0)) (J := J) (C := C) (mt := none) (mk := some 1)
    have b2 := fm_more b2
    have hm := eb_MS_more (mt' := some 2) (mk' := some 1) h b2 (by decide) (by simp) (nc' := 226) (ns' := ns + 34 + 808) (Or.inr (Or.inr (Or.inr (Or.inr ⟨rfl, rfl, rfl, by omega⟩)))) rfl
    obtain ⟨I2, a1, a2⟩ := old 2 226 (ns + 34 + 808) I1 J1 hm (fun a l q => (b2 a l (fun z => by omega)).1) (fun a l q => (b2 a l (fun z => by omega)).2) (fun a l q => (b2 a l (fun z => absurd (q.symm.trans z.1) (by decide))).1)
    simp (decide := true) only [e246_0, e246_1, e246_4, e246_7, e246_8, e246_11a, e246_11b, e246_12, e246_15, e246_18, e246_19, e246_22, e246_23, e246_26, e246_27, e246_30, bi_s, tyX, rl1, rl2, rl4, ↓reduceIte, Option.bind_some, true_and, and_true, false_and, and_false, true_or, or_true, false_or, or_false, if_same0, ite_eq0, ite_eq0', ite_eq1, ite_eq1', or_em, or_em', ite_not, lcmp0, lcmpL, lcmpG, nI_cl_b, eb_in_b, nI_1, nI_pred, Int32.reduceToNatClampNeg, eb_u_ap, Prod.mk.injEq, not_true_eq_false, not_false_eq_true, tyM, rl21, rl25, sp_rg, sp_iI, sp_iG, sp_iS, Option.map_some, Option.map_none, reduceCtorEq, nmM2, b1, rlT, a1]
    exact ⟨2, 226, ns + 34 + 808, I2, J1, rfl, a2⟩
  · exact reuse 1 h1
  · exact reuse 2 h1
theorem gv_0 {t : Nat} {I I1 : eb_A → Nat → Int32} (h : eb_gv t I I1) (ht : ¬ t = 0) : ∀ a l, a.2.1 = 0 → I1 a l = I a l := fun a l q => h a l (fun z => ht (z.1.symm.trans q))
/-- joy of years with a set written -/
theorem m_writtenBy (h : eb_MS S I J nc ns mt mk) (ok : sp_St S) {m : Nat} (hm : m ≤ 100000) {s : Nat} : ∃ nc' ns' I' J' t, eb_ev L (d + 8) 227 [zr (21, 0, 0), zi (nI m), zi (nI s)] (nc, ns, I, J, eb_RL C mt mk) = some (zi (sp_jw S.1 m s), (nc', ns', I', J', eb_RL C (some t) mk)) ∧ eb_MS S I' J' nc' ns' (some t) mk ∧ eb_fM I I' ∧ eb_fN J J' ∧ ∀ a l, a.2.1 = 0 → I' a l = I a l := by
  obtain ⟨t, nc1, ns1, I1, J1, f1, f2, f3, f4, f5, f6⟩ := m_fresh0 (L := L) (d := d + 3) (C := C) h ok
  have ht := ((cnt_t f2.2.2.1).1 t rfl).1
  obtain ⟨I2, a1, a2, a3⟩ := m_writes (L := L) (d := d + 6) (nc := nc1) (ns := ns1) (J := J1) (C := C) (mt := some t) (mk := mk) (set := nI s) f3 ok.1
  have ok1 := sp_ok_write (set := nI s) ok.1
  obtain ⟨I3, b1, b2, b3⟩ := m_joyIn0 (L := L) (d := d) (nc := nc1) (ns := ns1) (J := J1) (C := C) (mt := some t) (mk := mk) a2 ok1 hm
  rw [h227 rfl]
  simp (decide := true) (disch := omega) only [e227_0, e227_1, e227_4, e227_5, e227_6, e227_7, e227_10a, e227_10b, e227_11, e227_12, e227_13, e227_14, e227_17, bi_s, tyX, rl1, rl2, rl4, ↓reduceIte, Option.bind_some, true_and, and_true, false_and, and_false, true_or, or_true, false_or, or_false, if_same0, ite_eq0, ite_eq0', ite_eq1, ite_eq1', or_em, or_em', ite_not, lcmp0, lcmpL, lcmpG, nI_cl_b, eb_in_b, nI_1, nI_pred, Int32.reduceToNatClampNeg, eb_u_ap, Prod.mk.injEq, not_true_eq_false, not_false_eq_true, tyM, rl21, rl25, sp_rg, sp_iI, sp_iG, sp_iS, f1, a1, b1]
  have q := eb_gv_tr (gv_wb a3) b2
  have fin := fm_t f2 q f4 f5
  exact ⟨nc1, ns1, I3, J1, t, rfl, fin.1, fin.2.1, fin.2.2, fun a l z => (gv_0 q ht a l z).trans (f6 a l z)⟩
theorem mf_written (ok : sp_St S) {n a : Int32} : eb_FM L (d + 9) 230 [zi n, zi a] S (sf_written S n a).2 (zi (sf_written S n a).1) := by
  intro nc ns I J C mt mk h
  rw [h230 rfl]
  unfold sf_written
  have hn := ok.1.1
  have h6 := shl6 S.1.1 (by omega)
  have hA := m_isSet (L := L) (d := d + 6) (nc := nc) (ns := ns) (J := J) (C := C) (mt := mt) (mk := mk) (x := a) h.1 ok.1
  by_cases c1 : sp_rg n 1 12
  · by_cases c2 : sp_iS S.1 a
    · rw [if_pos c2] at hA
      rw [if_pos ⟨c1, c2⟩]
      obtain ⟨m, hm, rfl⟩ := rg_12 c1
      obtain ⟨s, hs, rfl⟩ := rg_nat (by omega) c2
      obtain ⟨nc1, ns1, I1, J1, t, e1, e2, e3, e4, e5⟩ := m_writtenBy (L := L) (d := d) (C := C) h ok (m := m) (s := s) (by omega)
      simp (decide := true) (disch := omega) only [e230_0, e230_1, e230_4, e230_7, e230_8, e230_9, e230_12, e230_15, e230_16, e230_17, e230_18, e230_21, e230_24, e230_26, e230_27, e230_29, e230_32, e230_33, bi_s, tyX, rl1, rl2, rl4, ↓reduceIte, Option.bind_some, true_and, and_true, false_and, and_false, true_or, or_true, false_or, or_false, if_same0, ite_eq0, ite_eq0', ite_eq1, ite_eq1', or_em, or_em', ite_not, lcmp0, lcmpL, lcmpG, nI_cl_b, eb_in_b, nI_1, nI_pred, Int32.reduceToNatClampNeg, eb_u_ap, Prod.mk.injEq, not_true_eq_false, not_false_eq_true, tyM, rl21, rl25, sp_rg, sp_iI, sp_iG, sp_iS, m_isYears, c1, hA, e1, tn]
      exact ⟨nc1, ns1, I1, J1, some t, mk, rfl, e2, e3, e4⟩
    · rw [if_neg c2] at hA
      rw [if_neg (fun q => c2 q.2)]
      simp (decide := true) (disch := omega) only [e230_0, e230_1, e230_4, e230_7, e230_8, e230_9, e230_12, e230_15, e230_16, e230_17, e230_18, e230_21, e230_24, e230_26, e230_27, e230_29, e230_32, e230_33, bi_s, tyX, rl1, rl2, rl4, ↓reduceIte, Option.bind_some, true_and, and_true, false_and, and_false, true_or, or_true, false_or, or_false, if_same0, ite_eq0, ite_eq0', ite_eq1, ite_eq1', or_em, or_em', ite_not, lcmp0, lcmpL, lcmpG, nI_cl_b, eb_in_b, nI_1, nI_pred, Int32.reduceToNatClampNeg, eb_u_ap, Prod.mk.injEq, not_true_eq_false, not_false_eq_true, tyM, rl21, rl25, sp_rg, sp_iI, sp_iG, sp_iS, m_isYears, c1, hA, m_refuse0]
      exact ⟨nc, ns, _, J, mt, mk, rfl, fm_rf h (by omega)⟩
  · rw [if_neg (fun q => c1 q.1)]
    simp (decide := true) (disch := omega) only [e230_0, e230_1, e230_4, e230_7, e230_8, e230_9, e230_12, e230_15, e230_16, e230_17, e230_18, e230_21, e230_24, e230_26, e230_27, e230_29, e230_32, e230_33, bi_s, tyX, rl1, rl2, rl4, ↓reduceIte, Option.bind_some, true_and, and_true, false_and, and_false, true_or, or_true, false_or, or_false, if_same0, ite_eq0, ite_eq0', ite_eq1, ite_eq1', or_em, or_em', ite_not, lcmp0, lcmpL, lcmpG, nI_cl_b, eb_in_b, nI_1, nI_pred, Int32.reduceToNatClampNeg, eb_u_ap, Prod.mk.injEq, not_true_eq_false, not_false_eq_true, tyM, rl21, rl25, sp_rg, sp_iI, sp_iG, sp_iS, m_isYears, c1, m_refuse0]
    exact ⟨nc, ns, _, J, mt, mk, rfl, fm_rf h (by omega)⟩
theorem eb_MS_b (h : eb_MS S I J nc ns mt mk) (e : ∀ a l, ¬ a = (43, 0, 0) → ¬ (a = (21, 0, 0) ∧ l = 32) → I' a l = I a l) : eb_MS S I' J nc ns mt mk ∧ eb_fM I I' := by
  have hg : eb_gv 0 I I' := fun a l hal => e a l (fun z => hal (by rw [z]; exact ⟨rfl, Or.inr (Or.inr (Or.inr (Or.inl ⟨by omega, by omega⟩)))⟩)) (fun z => hal (by rw [z.1, z.2]; exact ⟨rfl, Or.inr (Or.inr (Or.inr (Or.inr ⟨rfl, by omega⟩)))⟩))
  exact ⟨eb_MS_w (w := S.1) h hg (eb_RM_of h.1 (fun l _ _ => e _ _ (by simp) (fun z => by omega)) (fun i l => e _ _ (by simp) (by simp)) (fun j l => e _ _ (by simp) (by simp))), eb_fM_gv hg⟩
/-- how many a set has, bit by bit -/
theorem m_popLoop {n s : Nat} (hn : n ≤ 6) (hs : s < 2 ^ n) (h9 : I (21, 0, 0) 9 = nI n) {D : Nat} {o1 o2 o3 : Option eb_V} : eb_E L D 228 22 [some (zr (21, 0, 0)), o1, o2, o3, some (zi (nI s)), some (zi 0), some (zi 0)] [] (nc, ns, I, J, R) = eb_E L D 228 49 [some (zr (21, 0, 0)), o1, o2, o3, some (zi (nI s)), some (zi (nI (sp_pop s))), some (zi (nI n))] [] (nc, ns, I, J, R) := by
  have h6 := (shl6 n (by omega)).2
  have e := eb_loopA (n := n) (f := fun j => nI (pcN s j))
    (F := fun j v => eb_E L D 228 22 [some (zr (21, 0, 0)), o1, o2, o3, some (zi (nI s)), some (zi v), some (zi (nI j))] [] (nc, ns, I, J, R)) (by
      intro j hj
      have hb := bitN j (by omega) s (by omega)
      have hs2 : nI (pcN s j) + nI (s / 2 ^ j % 2) = nI (pcN s (j + 1)) := nI_add _ _
      rw [e228_22]
      simp (decide := true) (disch := omega) only [e228_24, e228_25, e228_28, e228_31, e228_33, e228_35, e228_37, e228_38, e228_39, e228_40, e228_41, e228_43, e228_46, bi_s, tyX, rl1, rl2, rl4, ↓reduceIte, Option.bind_some, true_and, and_true, false_and, and_false, true_or, or_true, false_or, or_false, if_same0, ite_eq0, ite_eq0', ite_eq1, ite_eq1', or_em, or_em', ite_not, lcmp0, lcmpL, lcmpG, nI_cl_b, eb_in_b, nI_1, nI_pred, Int32.reduceToNatClampNeg, eb_u_ap, Prod.mk.injEq, not_true_eq_false, not_false_eq_true, tyM, rl21, rl25, sp_rg, sp_iI, sp_iG, sp_iS, h9, nI_lt_b, hj, hb, hs2])
  simp only [nI_0] at e
  rw [show nI (pcN s 0) = 0 from rfl] at e
  rw [e, e228_22, pcN_pop n (by omega) s hs]
  simp (decide := true) (disch := omega) only [e228_24, e228_25, e228_28, e228_31, e228_33, e228_35, e228_37, e228_38, e228_39, e228_40, e228_41, e228_43, e228_46, bi_s, tyX, rl1, rl2, rl4, ↓reduceIte, Option.bind_some, true_and, and_true, false_and, and_false, true_or, or_true, false_or, or_false, if_same0, ite_eq0, ite_eq0', ite_eq1, ite_eq1', or_em, or_em', ite_not, lcmp0, lcmpL, lcmpG, nI_cl_b, eb_in_b, nI_1, nI_pred, Int32.reduceToNatClampNeg, eb_u_ap, Prod.mk.injEq, not_true_eq_false, not_false_eq_true, tyM, rl21, rl25, sp_rg, sp_iI, sp_iG, sp_iS, h9, nI_lt_b, Nat.lt_irrefl]
end

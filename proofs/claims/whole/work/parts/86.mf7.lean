/-! the reference's faces: copies made afresh, the image, going back -/
section
variable {L d nc ns r i g t : Nat} {I I' : eb_A → Nat → Int32} {J J' : eb_A → Nat → Int64} {C : Nat → Nat → Nat} {mt mk mt' mk' : Option Nat} {M : eb_M} {R : eb_A → Nat → Option eb_A} {w : eb_W} {x : Int32} {S : eb_St}
/-- a model more -/
theorem eb_MS_more (h : eb_MS S I J nc ns mt mk) {nc' ns' : Nat} (e : ∀ a l, ¬ (a.2.1 = t ∧ 21 ≤ a.1) → I' a l = I a l ∧ J' a l = J a l) (ht : ¬ t = 0) (hk : ¬ mk = some t) (hc : eb_cnt nc' ns' mt' mk') (hmk : mk' = mk) : eb_MS S I' J' nc' ns' mt' mk' := by
  subst hmk
  obtain ⟨h1, ⟨h2, h3⟩, h4, h5, ⟨h6, h7⟩, h8⟩ := h
  have e0 : ∀ a l, a.2.1 = 0 → I' a l = I a l := fun a l q => (e a l (fun z => ht (z.1.symm.trans q))).1
  have hr : ∀ r w, ¬ r = t → eb_RM I r w → eb_RM I' r w := fun r w hrt q => eb_RM_of q (fun l _ _ => (e _ _ (fun z => hrt z.1)).1) (fun i l => (e _ _ (fun z => hrt z.1)).1) (fun j l => (e _ _ (fun z => hrt z.1)).1)
  refine ⟨hr 0 _ (fun z => ht z.symm) h1, ⟨h2, fun p q => ?_⟩, hc, fun s hs => ?_, ⟨(e0 _ _ rfl).trans h6, fun j hj => (e0 _ _ rfl).trans (h7 j hj)⟩, fun k hk => (e0 _ _ rfl).trans (h8 k hk)⟩
  · obtain ⟨k, q1, q2⟩ := h3 p q
    exact ⟨k, q1, hr k _ (fun z => hk (by rw [q1, z])) q2⟩
  · obtain ⟨a1, a2, a3⟩ := h5 s hs
    refine ⟨fun q => (e0 _ _ rfl).trans (a1 q), fun q => ?_, fun q => ?_⟩
    · obtain ⟨b1, b2, b3, b4⟩ := a2 q
      exact ⟨(e0 _ _ rfl).trans b1, (e0 _ _ rfl).trans b2, (e0 _ _ rfl).trans b3, fun j hj => ((e (26, 0, s) j (fun z => ht z.1.symm)).2).trans (b4 j hj)⟩
    · obtain ⟨b1, b2⟩ := a3 q
      exact ⟨(e0 _ _ rfl).trans b1, (e0 _ _ rfl).trans b2⟩
theorem fm_more {I1 : eb_A → Nat → Int32} (e : ∀ a l, ¬ (a.2.1 = t ∧ 21 ≤ a.1) → I1 a l = eb_zI I (21, t, 0) a l ∧ J' a l = J a l) : ∀ a l, ¬ (a.2.1 = t ∧ 21 ≤ a.1) → I1 a l = I a l ∧ J' a l = J a l := fun a l q => ⟨(e a l q).1.trans (if_neg (fun z => q (by rw [z]; exact ⟨rfl, Nat.le_refl _⟩))), (e a l q).2⟩
theorem m_fresh (h : eb_MS S I J nc ns mt mk) (ok : sp_St S) : ∃ t nc' ns' I' J', eb_ev L (d + 4) 246 [zr (21, 0, 0)] (nc, ns, I, J, eb_RL C mt mk) = some (zr (21, t, 0), (nc', ns', I', J', eb_RL C (some t) mk)) ∧ eb_MS S I' J' nc' ns' (some t) mk ∧ eb_RM I' t S.1 ∧ eb_fM I I' ∧ eb_fN J J' := by
  rw [h246 rfl]
  have old : ∀ (t nc ns : Nat) (I1 : eb_A → Nat → Int32) (J1 : eb_A → Nat → Int64), eb_MS S I1 J1 nc ns (some t) mk → eb_fM I I1 → eb_fN J J1 → ∃ I', eb_ev L (d + 3) 248 [zr (21, t, 0), zr (21, 0, 0)] (nc, ns, I1, J1, eb_RL C (some t) mk) = some (zn, (nc, ns, I', J1, eb_RL C (some t) mk)) ∧ eb_MS S I' J1 nc ns (some t) mk ∧ eb_RM I' t S.1 ∧ eb_fM I I' ∧ eb_fN J J1 := by
    intro t nc ns I1 J1 h1 h2 h3
    have ht := (cnt_t h1.2.2.1).1 t rfl
    obtain ⟨I2, a1, a2, a3⟩ := m_takeFrom (L := L) (d := d + 1) (nc := nc) (ns := ns) (J := J1) (C := C) (mt := some t) (mk := mk) (r := t) h1.1 ok.1 (fun z => ht.1 z.symm)
    exact ⟨I2, a1, eb_MS_t h1 a3, a2, eb_fM_tr h2 (eb_fM_gv a3), h3⟩
  have reuse : ∀ t, mt = some t → ∃ t nc' ns' I' J', eb_E L (d + 3) 246 0 [some (zr (21, 0, 0))] [] (nc, ns, I, J, eb_RL C mt mk) = some (zr (21, t, 0), (nc', ns', I', J', eb_RL C (some t) mk)) ∧ eb_MS S I' J' nc' ns' (some t) mk ∧ eb_RM I' t S.1 ∧ eb_fM I I' ∧ eb_fN J J' := by
    intro t q
    subst q
    obtain ⟨I2, a1, a2⟩ := old t nc ns I J h eb_fM_rf eb_fN_rf
    simp (decide := true) only [e246_0, e246_1, e246_4, e246_7, e246_8, e246_11a, e246_11b, e246_12, e246_15, e246_18, e246_19, e246_22, e246_23, e246_26, e246_27, e246_30, bi_s, tyX, rl1, rl2, rl4, ↓reduceIte, Option.bind_some, true_and, and_true, false_and, and_false, true_or, or_true, false_or, or_false, if_same0, ite_eq0, ite_eq0', ite_eq1, ite_eq1', or_em, or_em', ite_not, lcmp0, lcmpL, lcmpG, nI_cl_b, eb_in_b, nI_1, nI_pred, Int32.reduceToNatClampNeg, eb_u_ap, Prod.mk.injEq, not_true_eq_false, not_false_eq_true, tyM, rl21, rl25, sp_rg, sp_iI, sp_iG, sp_iS, Option.map_some, Option.map_none, reduceCtorEq, a1]
    exact ⟨t, nc, ns, I2, J, rfl, a2⟩
  rcases h.2.2.1 with ⟨h1, h2, h3, h4⟩ | ⟨h1, h2, h3, h4⟩ | ⟨h1, h2, h3, h4⟩ | ⟨h1, h2, h3, h4⟩ | ⟨h1, h2, h3, h4⟩
  · subst h1
    subst h2
    subst h3
    obtain ⟨I1, J1, b1, b2, -, -⟩ := m_init1 (L := L) (d := d + 1) (ns := ns + 34) (I := eb_zI I (21, 1, 0)) (J := J) (C := C) (mt := none) (mk := none)
    have b2 := fm_more b2
    have hm := eb_MS_more (mt' := some 1) (mk' := none) h b2 (by decide) (by simp) (nc' := 181) (ns' := ns + 34 + 808) (Or.inr (Or.inl ⟨rfl, rfl, rfl, by omega⟩)) rfl
    obtain ⟨I2, a1, a2⟩ := old 1 181 (ns + 34 + 808) I1 J1 hm (fun a l q => (b2 a l (fun z => by omega)).1) (fun a l q => (b2 a l (fun z => by omega)).2)
    simp (decide := true) only [e246_0, e246_1, e246_4, e246_7, e246_8, e246_11a, e246_11b, e246_12, e246_15, e246_18, e246_19, e246_22, e246_23, e246_26, e246_27, e246_30, bi_s, tyX, rl1, rl2, rl4, ↓reduceIte, Option.bind_some, true_and, and_true, false_and, and_false, true_or, or_true, false_or, or_false, if_same0, ite_eq0, ite_eq0', ite_eq1, ite_eq1', or_em, or_em', ite_not, lcmp0, lcmpL, lcmpG, nI_cl_b, eb_in_b, nI_1, nI_pred, Int32.reduceToNatClampNeg, eb_u_ap, Prod.mk.injEq, not_true_eq_false, not_false_eq_true, tyM, rl21, rl25, sp_rg, sp_iI, sp_iG, sp_iS, Option.map_some, Option.map_none, reduceCtorEq, nmM1, b1, rlT, a1]
    exact ⟨1, 181, ns + 34 + 808, I2, J1, rfl, a2⟩
  · exact reuse 1 h1
  · subst h1
    subst h2
    subst h3
    obtain ⟨I1, J1, b1, b2, -, -⟩ := m_init2 (L := L) (d := d + 1) (ns := ns + 34) (I := eb_zI I (21, 2, 0)) (J := J) (C := C) (mt := none) (mk := some 1)
    have b2 := fm_more b2
    have hm := eb_MS_more (mt' := some 2) (mk' := some 1) h b2 (by decide) (by simp) (nc' := 226) (ns' := ns + 34 + 808) (Or.inr (Or.inr (Or.inr (Or.inr ⟨rfl, rfl, rfl, by omega⟩)))) rfl
    obtain ⟨I2, a1, a2⟩ := old 2 226 (ns + 34 + 808) I1 J1 hm (fun a l q => (b2 a l (fun z => by omega)).1) (fun a l q => (b2 a l (fun z => by omega)).2)
    simp (decide := true) only [e246_0, e246_1, e246_4, e246_7, e246_8, e246_11a, e246_11b, e246_12, e246_15, e246_18, e246_19, e246_22, e246_23, e246_26, e246_27, e246_30, bi_s, tyX, rl1, rl2, rl4, ↓reduceIte, Option.bind_some, true_and, and_true, false_and, and_false, true_or, or_true, false_or, or_false, if_same0, ite_eq0, ite_eq0', ite_eq1, ite_eq1', or_em, or_em', ite_not, lcmp0, lcmpL, lcmpG, nI_cl_b, eb_in_b, nI_1, nI_pred, Int32.reduceToNatClampNeg, eb_u_ap, Prod.mk.injEq, not_true_eq_false, not_false_eq_true, tyM, rl21, rl25, sp_rg, sp_iI, sp_iG, sp_iS, Option.map_some, Option.map_none, reduceCtorEq, nmM2, b1, rlT, a1]
    exact ⟨2, 226, ns + 34 + 808, I2, J1, rfl, a2⟩
  · exact reuse 1 h1
  · exact reuse 2 h1
theorem eb_MS_imgN {k nc' ns' : Nat} (h : eb_MS S I J nc ns mt mk) (e : ∀ a l, a.2.1 = 0 → I' a l = I a l) (eJ : ∀ s j, J' (26, 0, s) j = J (26, 0, s) j) (hR : eb_RM I' k S.1) (hc : eb_cnt nc' ns' mt' (some k)) : eb_MS (sf_image S).2 I' J' nc' ns' mt' (some k) := by
  obtain ⟨h1, -, -, h5, ⟨h6, h7⟩, h8⟩ := h
  refine ⟨eb_RM_of h1 (fun l _ _ => e _ _ rfl) (fun i l => e _ _ rfl) (fun j l => e _ _ rfl), ⟨fun q => (by cases q), fun p q => by cases q; exact ⟨k, rfl, hR⟩⟩, hc, fun s hs => ?_, ⟨(e _ _ rfl).trans h6, fun j hj => (e _ _ rfl).trans (h7 j hj)⟩, fun k hk => (e _ _ rfl).trans (h8 k hk)⟩
  obtain ⟨a1, a2, a3⟩ := h5 s hs
  refine ⟨fun q => (e _ _ rfl).trans (a1 q), fun q => ?_, fun q => ?_⟩
  · obtain ⟨b1, b2, b3, b4⟩ := a2 q
    exact ⟨(e _ _ rfl).trans b1, (e _ _ rfl).trans b2, (e _ _ rfl).trans b3, fun j hj => (eJ s j).trans (b4 j hj)⟩
  · obtain ⟨b1, b2⟩ := a3 q
    exact ⟨(e _ _ rfl).trans b1, (e _ _ rfl).trans b2⟩
theorem mf_image (ok : sp_St S) : eb_FM L (d + 6) 249 [] S (sf_image S).2 (zi (sf_image S).1) := by
  intro nc ns I J C mt mk h
  rw [h249 rfl]
  have old : ∀ (k nc' ns' : Nat) (I1 : eb_A → Nat → Int32) (J1 : eb_A → Nat → Int64), ¬ k = 0 → eb_cnt nc' ns' mt (some k) → (∀ a l, ¬ (a.2.1 = k ∧ 21 ≤ a.1) → I1 a l = I a l ∧ J1 a l = J a l) → ∃ I', eb_ev L (d + 5) 248 [zr (21, k, 0), zr (21, 0, 0)] (nc', ns', I1, J1, eb_RL C mt (some k)) = some (zn, (nc', ns', I', J1, eb_RL C mt (some k))) ∧ eb_MS (sf_image S).2 I' J1 nc' ns' mt (some k) ∧ eb_fM I I' ∧ eb_fN J J1 := by
    intro k nc' ns' I1 J1 hk hc e
    have hR1 : eb_RM I1 0 S.1 := eb_RM_of h.1 (fun l _ _ => (e _ _ (fun z => hk z.1.symm)).1) (fun i l => (e _ _ (fun z => hk z.1.symm)).1) (fun j l => (e _ _ (fun z => hk z.1.symm)).1)
    obtain ⟨I2, a1, a2, a3⟩ := m_takeFrom (L := L) (d := d + 3) (nc := nc') (ns := ns') (J := J1) (C := C) (mt := mt) (mk := some k) (r := k) hR1 ok.1 (fun z => hk z.symm)
    refine ⟨I2, a1, eb_MS_imgN h (fun a l q => ?_) (fun s j => (e _ _ (fun z => hk z.1.symm)).2) a2 hc, eb_fM_tr (fun a l q => (e a l (fun z => by omega)).1) (eb_fM_gv a3), fun a l q => (e a l (fun z => by omega)).2⟩
    rw [a3 a l (fun z => hk (z.1.symm.trans q))]
    exact (e a l (fun z => hk (z.1.symm.trans q))).1
  have reuse : ∀ k, mk = some k → ∃ nc' ns' I' J' mt' mk', eb_E L (d + 5) 249 0 [some (zr (21, 0, 0))] [] (nc, ns, I, J, eb_RL C mt mk) = some (zi (sf_image S).1, (nc', ns', I', J', eb_RL C mt' mk')) ∧ eb_MS (sf_image S).2 I' J' nc' ns' mt' mk' ∧ eb_fM I I' ∧ eb_fN J J' := by
    intro k q
    subst q
    obtain ⟨I2, a1, a2⟩ := old k nc ns I J ((cnt_t h.2.2.1).2 k rfl) h.2.2.1 (fun _ _ _ => ⟨rfl, rfl⟩)
    simp (decide := true) only [e249_0, e249_1, e249_4, e249_7, e249_8, e249_11a, e249_11b, e249_12, e249_15, e249_18, e249_19, e249_22, e249_23, e249_26, e249_27, bi_s, tyX, rl1, rl2, rl4, ↓reduceIte, Option.bind_some, true_and, and_true, false_and, and_false, true_or, or_true, false_or, or_false, if_same0, ite_eq0, ite_eq0', ite_eq1, ite_eq1', or_em, or_em', ite_not, lcmp0, lcmpL, lcmpG, nI_cl_b, eb_in_b, nI_1, nI_pred, Int32.reduceToNatClampNeg, eb_u_ap, Prod.mk.injEq, not_true_eq_false, not_false_eq_true, tyM, rl21, rl25, sp_rg, sp_iI, sp_iG, sp_iS, Option.map_some, Option.map_none, reduceCtorEq, a1]
    exact ⟨nc, ns, I2, J, mt, some k, rfl, a2⟩
  rcases h.2.2.1 with ⟨h1, h2, h3, h4⟩ | ⟨h1, h2, h3, h4⟩ | ⟨h1, h2, h3, h4⟩ | ⟨h1, h2, h3, h4⟩ | ⟨h1, h2, h3, h4⟩
  · subst h1
    subst h2
    subst h3
    obtain ⟨I1, J1, b1, b2, -, -⟩ := m_init1 (L := L) (d := d + 3) (ns := ns + 34) (I := eb_zI I (21, 1, 0)) (J := J) (C := C) (mt := none) (mk := none)
    have b2 := fm_more b2
    obtain ⟨I2, a1, a2⟩ := old 1 181 (ns + 34 + 808) I1 J1 (by decide) (Or.inr (Or.inr (Or.inl ⟨rfl, rfl, rfl, by omega⟩))) b2
    simp (decide := true) only [e249_0, e249_1, e249_4, e249_7, e249_8, e249_11a, e249_11b, e249_12, e249_15, e249_18, e249_19, e249_22, e249_23, e249_26, e249_27, bi_s, tyX, rl1, rl2, rl4, ↓reduceIte, Option.bind_some, true_and, and_true, false_and, and_false, true_or, or_true, false_or, or_false, if_same0, ite_eq0, ite_eq0', ite_eq1, ite_eq1', or_em, or_em', ite_not, lcmp0, lcmpL, lcmpG, nI_cl_b, eb_in_b, nI_1, nI_pred, Int32.reduceToNatClampNeg, eb_u_ap, Prod.mk.injEq, not_true_eq_false, not_false_eq_true, tyM, rl21, rl25, sp_rg, sp_iI, sp_iG, sp_iS, Option.map_some, Option.map_none, reduceCtorEq, nmM1, b1, rlK, a1]
    exact ⟨181, ns + 34 + 808, I2, J1, none, some 1, rfl, a2⟩
  · subst h1
    subst h2
    subst h3
    obtain ⟨I1, J1, b1, b2, -, -⟩ := m_init2 (L := L) (d := d + 3) (ns := ns + 34) (I := eb_zI I (21, 2, 0)) (J := J) (C := C) (mt := some 1) (mk := none)
    have b2 := fm_more b2
    obtain ⟨I2, a1, a2⟩ := old 2 226 (ns + 34 + 808) I1 J1 (by decide) (Or.inr (Or.inr (Or.inr (Or.inl ⟨rfl, rfl, rfl, by omega⟩)))) b2
    simp (decide := true) only [e249_0, e249_1, e249_4, e249_7, e249_8, e249_11a, e249_11b, e249_12, e249_15, e249_18, e249_19, e249_22, e249_23, e249_26, e249_27, bi_s, tyX, rl1, rl2, rl4, ↓reduceIte, Option.bind_some, true_and, and_true, false_and, and_false, true_or, or_true, false_or, or_false, if_same0, ite_eq0, ite_eq0', ite_eq1, ite_eq1', or_em, or_em', ite_not, lcmp0, lcmpL, lcmpG, nI_cl_b, eb_in_b, nI_1, nI_pred, Int32.reduceToNatClampNeg, eb_u_ap, Prod.mk.injEq, not_true_eq_false, not_false_eq_true, tyM, rl21, rl25, sp_rg, sp_iI, sp_iG, sp_iS, Option.map_some, Option.map_none, reduceCtorEq, nmM2, b1, rlK, a1]
    exact ⟨226, ns + 34 + 808, I2, J1, some 1, some 2, rfl, a2⟩
  · exact reuse 1 h2
  · exact reuse 2 h2
  · exact reuse 1 h2
theorem mf_back (ok : sp_St S) : eb_FM L (d + 6) 250 [] S (sf_back S).2 (zi (sf_back S).1) := by
  intro nc ns I J C mt mk h
  rw [h250 rfl]
  unfold sf_back
  cases hp : S.2.1 with
  | none =>
    have hk := h.2.1.1 hp
    subst hk
    simp (decide := true) only [e250_0, e250_1, e250_4, e250_7, e250_8, e250_10, e250_13, e250_14, e250_15, e250_16, e250_19, e250_22, e250_23, e250_25, e250_27, e250_30, e250_31, e250_34, e250_35, e250_36, e250_37, e250_40, e250_41, e250_44, e250_45, e250_46, e250_47, e250_50, e250_53, e250_54, e250_57, e250_58, e250_59, e250_60, e250_63, e250_66, e250_67, bi_s, tyX, rl1, rl2, rl4, ↓reduceIte, Option.bind_some, true_and, and_true, false_and, and_false, true_or, or_true, false_or, or_false, if_same0, ite_eq0, ite_eq0', ite_eq1, ite_eq1', or_em, or_em', ite_not, lcmp0, lcmpL, lcmpG, nI_cl_b, eb_in_b, nI_1, nI_pred, Int32.reduceToNatClampNeg, eb_u_ap, Prod.mk.injEq, not_true_eq_false, not_false_eq_true, tyM, rl21, rl25, sp_rg, sp_iI, sp_iG, sp_iS, Option.map_some, Option.map_none, reduceCtorEq, m_refuse3]
    exact ⟨nc, ns, _, J, mt, none, rfl, fm_rf h (by omega)⟩
  | some p =>
    obtain ⟨k, hk, hR⟩ := h.2.1.2 p hp
    subst hk
    have hk0 := (cnt_t h.2.2.1).2 k rfl
    have okp := ok.2.1 p hp
    have hpn := okp.2.1
    have hsn := ok.1.2.1
    obtain ⟨I0, a1, a2, a3⟩ := m_takeFrom (L := L) (d := d + 3) (nc := nc) (ns := ns) (J := J) (C := C) (mt := mt) (mk := some k) (r := 0) hR okp hk0
    simp (decide := true) only [e250_0, e250_1, e250_4, e250_7, e250_8, e250_10, e250_13, e250_14, e250_15, e250_16, e250_19, e250_22, e250_23, bi_s, tyX, rl1, rl2, rl4, ↓reduceIte, Option.bind_some, true_and, and_true, false_and, and_false, true_or, or_true, false_or, or_false, if_same0, ite_eq0, ite_eq0', ite_eq1, ite_eq1', or_em, or_em', ite_not, lcmp0, lcmpL, lcmpG, nI_cl_b, eb_in_b, nI_1, nI_pred, Int32.reduceToNatClampNeg, eb_u_ap, Prod.mk.injEq, not_true_eq_false, not_false_eq_true, tyM, rl21, rl25, sp_rg, sp_iI, sp_iG, sp_iS, Option.map_some, Option.map_none, reduceCtorEq, a1]
    have h0 := eb_MS_w h a3 a2
    have hbh : ∀ s, (if ¬ ss_h S s < 10 ∧ ¬ ss_h S s - 10 < nI p.2.1 then -1 else ss_h S s) = sp_bh p.2.1 (ss_h S s) := fun _ => rfl
    simp only [hbh]
    obtain ⟨I1, e, e1, e2⟩ := eb_loop (α := eb_A → Nat → Int32) (n := 8) (s0 := I0)
      (F := fun y s => eb_E L (d + 5) 250 24 [some (zr (21, 0, 0)), some (zi (nI y))] [] (nc, ns, s, J, eb_RL C mt (some k)))
      (P := fun y s => eb_MS (p, S.2.1, (fun s => if s < y then sp_bh p.2.1 (ss_h S s) else ss_h S s), ss_n S, ss_e S, ss_t S, ss_r S) s J nc ns mt (some k) ∧ eb_fM I s)
      ⟨by
        have z : (fun s => if s < 0 then sp_bh p.2.1 (ss_h S s) else ss_h S s) = ss_h S := funext fun s => if_neg (Nat.not_lt_zero s)
        show eb_MS (p, S.2.1, (fun s => if s < 0 then sp_bh p.2.1 (ss_h S s) else ss_h S s), ss_n S, ss_e S, ss_t S, ss_r S) I0 J nc ns mt (some k)
        rw [z]
        exact h0, eb_fM_gv a3⟩ (by
        intro y I1 hy hP
        obtain ⟨h1, h2⟩ := hP
        have hb : (nI y < 8) = True := by rw [show (8 : Int32) = nI 8 from rfl, nI_lt_b (by omega) (by omega)]; exact eq_true hy
        have hold : (fun s => if s < y then sp_bh p.2.1 (ss_h S s) else ss_h S s) y = ss_h S y := if_neg (Nat.lt_irrefl _)
        obtain ⟨b1, b2, b3⟩ := h1.2.2.2.1 y hy
        simp only [ss_h] at b1 b2 b3
        simp only [Nat.lt_irrefl, if_false] at b1 b2 b3
        have g11 : I1 (21, 0, 0) 11 = nI p.2.1 := h1.1.1.2.1
        have keep : sp_bh p.2.1 (ss_h S y) = ss_h S y → eb_MS (p, S.2.1, (fun s => if s < y + 1 then sp_bh p.2.1 (ss_h S s) else ss_h S s), ss_n S, ss_e S, ss_t S, ss_r S) I1 J nc ns mt (some k) := fun q => by
          have : (fun s => if s < y + 1 then sp_bh p.2.1 (ss_h S s) else ss_h S s) = fun s => if s < y then sp_bh p.2.1 (ss_h S s) else ss_h S s := by
            funext s
            by_cases z : s = y
            · subst z; simp [q]
            · simp [show (s < y + 1) = (s < y) from propext ⟨fun q => by omega, fun q => by omega⟩]
          rw [this]; exact h1
        rw [e250_24]
        rcases St_held ok hy with ⟨q1, q2, q3⟩ | ⟨q1, q2, q3, q4⟩ | ⟨g, hg, q1, q2, q3, q4⟩
        · have b := b1 q1
          simp (decide := true) (disch := omega) only [e250_25, e250_27, e250_30, e250_31, e250_34, e250_35, e250_36, e250_37, e250_40, e250_41, e250_44, e250_45, e250_46, e250_47, e250_50, e250_53, e250_54, e250_57, e250_58, e250_59, e250_60, e250_63, e250_66, e250_67, bi_s, tyX, rl1, rl2, rl4, ↓reduceIte, Option.bind_some, true_and, and_true, false_and, and_false, true_or, or_true, false_or, or_false, if_same0, ite_eq0, ite_eq0', ite_eq1, ite_eq1', or_em, or_em', ite_not, lcmp0, lcmpL, lcmpG, nI_cl_b, eb_in_b, nI_1, nI_pred, Int32.reduceToNatClampNeg, eb_u_ap, Prod.mk.injEq, not_true_eq_false, not_false_eq_true, tyM, rl21, rl25, sp_rg, sp_iI, sp_iG, sp_iS, hb, b]
          exact ⟨I1, rfl, keep (if_neg (fun q => q.1 q3)), h2⟩
        · have b := (b2 q1).1
          simp (decide := true) (disch := omega) only [e250_25, e250_27, e250_30, e250_31, e250_34, e250_35, e250_36, e250_37, e250_40, e250_41, e250_44, e250_45, e250_46, e250_47, e250_50, e250_53, e250_54, e250_57, e250_58, e250_59, e250_60, e250_63, e250_66, e250_67, bi_s, tyX, rl1, rl2, rl4, ↓reduceIte, Option.bind_some, true_and, and_true, false_and, and_false, true_or, or_true, false_or, or_false, if_same0, ite_eq0, ite_eq0', ite_eq1, ite_eq1', or_em, or_em', ite_not, lcmp0, lcmpL, lcmpG, nI_cl_b, eb_in_b, nI_1, nI_pred, Int32.reduceToNatClampNeg, eb_u_ap, Prod.mk.injEq, not_true_eq_false, not_false_eq_true, tyM, rl21, rl25, sp_rg, sp_iI, sp_iG, sp_iS, hb, b]
          exact ⟨I1, rfl, keep (if_neg (fun q => q.1 q3)), h2⟩
        · obtain ⟨g1, g2⟩ := b3 q3
          have hsub : nI (10 + g) - 10 = nI g := by rw [Nat.add_comm, ← nI_add]; exact Int32.add_sub_cancel _ _
          have hS : S.2.2.1 y = nI (10 + g) := q1
          rw [hS, hsub] at g2
          by_cases c2 : g < p.2.1
          · have c3 : (nI g < nI p.2.1) = True := by rw [nI_lt_b (by omega) (by omega)]; exact eq_true c2
            simp (decide := true) (disch := omega) only [e250_25, e250_27, e250_30, e250_31, e250_34, e250_35, e250_36, e250_37, e250_40, e250_41, e250_44, e250_45, e250_46, e250_47, e250_50, e250_53, e250_54, e250_57, e250_58, e250_59, e250_60, e250_63, e250_66, e250_67, bi_s, tyX, rl1, rl2, rl4, ↓reduceIte, Option.bind_some, true_and, and_true, false_and, and_false, true_or, or_true, false_or, or_false, if_same0, ite_eq0, ite_eq0', ite_eq1, ite_eq1', or_em, or_em', ite_not, lcmp0, lcmpL, lcmpG, nI_cl_b, eb_in_b, nI_1, nI_pred, Int32.reduceToNatClampNeg, eb_u_ap, Prod.mk.injEq, not_true_eq_false, not_false_eq_true, tyM, rl21, rl25, sp_rg, sp_iI, sp_iG, sp_iS, hb, g1, g2, g11, c3]
            refine ⟨I1, rfl, keep ?_, h2⟩
            rw [q1]
            exact if_neg (fun q => q.2 (by rw [hsub]; exact of_eq_true c3))
          · have c3 : (nI g < nI p.2.1) = False := by rw [nI_lt_b (by omega) (by omega)]; exact eq_false c2
            simp (decide := true) (disch := omega) only [e250_25, e250_27, e250_30, e250_31, e250_34, e250_35, e250_36, e250_37, e250_40, e250_41, e250_44, e250_45, e250_46, e250_47, e250_50, e250_53, e250_54, e250_57, e250_58, e250_59, e250_60, e250_63, e250_66, e250_67, bi_s, tyX, rl1, rl2, rl4, ↓reduceIte, Option.bind_some, true_and, and_true, false_and, and_false, true_or, or_true, false_or, or_false, if_same0, ite_eq0, ite_eq0', ite_eq1, ite_eq1', or_em, or_em', ite_not, lcmp0, lcmpL, lcmpG, nI_cl_b, eb_in_b, nI_1, nI_pred, Int32.reduceToNatClampNeg, eb_u_ap, Prod.mk.injEq, not_true_eq_false, not_false_eq_true, tyM, rl21, rl25, sp_rg, sp_iI, sp_iG, sp_iS, hb, g1, g2, g11, c3]
            refine ⟨eb_u I1 (22, 0, 0) y 0, rfl, ?_, eb_fM_tr h2 (eb_fM_u (Nat.le_of_ble_eq_true rfl))⟩
            have hbv : sp_bh p.2.1 (ss_h S y) = -1 := by rw [q1]; exact if_pos ⟨by rw [← q1]; exact q3, by rw [hsub]; exact of_eq_false c3⟩
            refine eb_MS_J h1 rfl rfl rfl rfl (fun a l q => if_neg (fun z => q (Or.inl z.1))) (fun s hs => ?_)
            obtain ⟨o1, o2, o3⟩ := h1.2.2.2.1 s hs
            by_cases z : s = y
            · subst z
              simp only [ss_h, Nat.lt_succ_self, if_true]
              show (sp_bh p.2.1 (ss_h S s) = -1 → _) ∧ (sp_rg (sp_bh p.2.1 (ss_h S s)) 0 4 → _) ∧ (¬ sp_bh p.2.1 (ss_h S s) < 10 → _)
              rw [hbv]
              exact ⟨fun _ => eb_u_s, fun y => absurd y (by decide), fun y => absurd y (by decide)⟩
            · have e22 : eb_u I1 (22, 0, 0) y 0 (22, 0, 0) s = I1 (22, 0, 0) s := if_neg (fun q => z q.2)
              have e23 : eb_u I1 (22, 0, 0) y 0 (23, 0, 0) s = I1 (23, 0, 0) s := by simp [eb_u]
              have e24 : eb_u I1 (22, 0, 0) y 0 (24, 0, 0) s = I1 (24, 0, 0) s := by simp [eb_u]
              have e28 : eb_u I1 (22, 0, 0) y 0 (28, 0, 0) s = I1 (28, 0, 0) s := by simp [eb_u]
              rw [e22, e23, e24, e28]
              have hv : (if s < y + 1 then sp_bh p.2.1 (ss_h S s) else ss_h S s) = (if s < y then sp_bh p.2.1 (ss_h S s) else ss_h S s) := by
                simp [show (s < y + 1) = (s < y) from propext ⟨fun q => by omega, fun q => by omega⟩]
              simp only [ss_h] at o1 o2 o3 hv ⊢
              rw [hv]
              exact ⟨o1, o2, o3⟩)
    simp only [nI_0] at e
    have hb : nI 8 = 8 := rfl
    rw [e, e250_24]
    simp (decide := true) (disch := omega) only [e250_25, e250_27, e250_30, e250_31, e250_34, e250_35, e250_36, e250_37, e250_40, e250_41, e250_44, e250_45, e250_46, e250_47, e250_50, e250_53, e250_54, e250_57, e250_58, e250_59, e250_60, e250_63, e250_66, e250_67, bi_s, tyX, rl1, rl2, rl4, ↓reduceIte, Option.bind_some, true_and, and_true, false_and, and_false, true_or, or_true, false_or, or_false, if_same0, ite_eq0, ite_eq0', ite_eq1, ite_eq1', or_em, or_em', ite_not, lcmp0, lcmpL, lcmpG, nI_cl_b, eb_in_b, nI_1, nI_pred, Int32.reduceToNatClampNeg, eb_u_ap, Prod.mk.injEq, not_true_eq_false, not_false_eq_true, tyM, rl21, rl25, sp_rg, sp_iI, sp_iG, sp_iS, hb]
    refine ⟨nc, ns, I1, J, mt, some k, rfl, ?_, e2, eb_fN_rf⟩
    obtain ⟨q1, q2, q3, q4, q5⟩ := e1
    rw [← hp]
    refine ⟨q1, q2, q3, fun s hs => ?_, q5⟩
    have q6 := q4 s hs
    have : (if s < 8 then sp_bh p.2.1 (ss_h S s) else ss_h S s) = sp_bh p.2.1 (ss_h S s) := if_pos hs
    simp only [ss_h] at q6 this ⊢
    rw [this] at q6
    exact q6
end

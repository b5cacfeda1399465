/-! the law: both sides of one call -/
section
variable {L D nc ns : Nat} {I I1 : eb_A → Nat → Int32} {J J1 : eb_A → Nat → Int64} {C : Nat → Nat → Nat} {mt mk : Option Nat} {S S' : eb_St} {as : List eb_V} {v : eb_V} {mX mM : Nat}
theorem MS_fX (h : eb_MS S I J nc ns mt mk) (e : eb_fX I I1) (eJ : eb_fJ J J1) : eb_MS S I1 J1 nc ns mt mk := by
  obtain ⟨h1, ⟨h2, h3⟩, h4, h5, ⟨h6, h7⟩, h8⟩ := h
  have hr : ∀ r w, eb_RM I r w → eb_RM I1 r w := fun r w q => eb_RM_of q (fun l _ _ => e _ _ (by simp)) (fun i l => e _ _ (by simp)) (fun j l => e _ _ (by simp))
  refine ⟨hr _ _ h1, ⟨h2, fun p q => ?_⟩, h4, fun s hs => ?_, ⟨(e _ _ (by simp)).trans h6, fun j hj => (e _ _ (by simp)).trans (h7 j hj)⟩, fun k hk => (e _ _ (by simp)).trans (h8 k hk)⟩
  · obtain ⟨k, q1, q2⟩ := h3 p q
    exact ⟨k, q1, hr _ _ q2⟩
  · obtain ⟨a1, a2, a3⟩ := h5 s hs
    refine ⟨fun q => (e _ _ (by simp)).trans (a1 q), fun q => ?_, fun q => ?_⟩
    · obtain ⟨b1, b2, b3, b4⟩ := a2 q
      exact ⟨(e _ _ (by simp)).trans b1, (e _ _ (by simp)).trans b2, (e _ _ (by simp)).trans b3, fun j hj => (eJ _ _ (by simp)).trans (b4 j hj)⟩
    · obtain ⟨b1, b2⟩ := a3 q
      exact ⟨(e _ _ (by simp)).trans b1, (e _ _ (by simp)).trans b2⟩
theorem XS_fM (h : eb_XS S I J) (e : eb_fM I I1) (eJ : eb_fN J J1) : eb_XS S I1 J1 := by
  obtain ⟨h1, ⟨h2, h3⟩, h4, ⟨h5, h6⟩, h7⟩ := h
  have hr : ∀ k w, eb_RX I k w → eb_RX I1 k w := fun k w q => eb_RX_of q (fun l => e _ _ (by simp)) (fun i l _ => e _ _ (by simp)) (fun i l _ => e _ _ (by simp))
  exact ⟨hr _ _ h1, ⟨(e _ _ (by simp)).trans h2, fun p hp => hr _ _ (h3 p hp)⟩, fun s hs => ⟨(e _ _ (by simp)).trans (h4 s hs).1, fun q => ⟨(e _ _ (by simp)).trans ((h4 s hs).2 q).1, fun j hj => (eJ _ _ (by simp)).trans (((h4 s hs).2 q).2 j hj)⟩⟩, ⟨(e _ _ (by simp)).trans h5, fun j hj => (e _ _ (by simp)).trans (h6 j hj)⟩, fun r hr => (e _ _ (by simp)).trans (h7 r hr)⟩
theorem lw_both (hX : eb_FX L D mX as S S' v) (hM : eb_FM L D mM as S S' v) (ok : sp_St S') (hx : eb_XS S I J) (hm : eb_MS S I J nc ns mt mk) : ∃ nc' ns' I1 J1 C1 I2 J2 mt' mk', eb_ev L D mX (zr (1, 0, 0) :: as) (nc, ns, I, J, eb_RL C mt mk) = some (v, (nc, ns, I1, J1, eb_RL C1 mt mk)) ∧ eb_ev L D mM (zr (21, 0, 0) :: as) (nc, ns, I1, J1, eb_RL C1 mt mk) = some (v, (nc', ns', I2, J2, eb_RL C1 mt' mk')) ∧ (∀ l, I1 (0, 0, 0) l = I (0, 0, 0) l) ∧ (sp_St S' ∧ eb_XS S' I2 J2 ∧ eb_MS S' I2 J2 nc' ns' mt' mk') := by
  obtain ⟨I1, J1, C1, a1, a2, a3, a4⟩ := hX nc ns I J C mt mk hx
  obtain ⟨nc', ns', I2, J2, mt', mk', b1, b2, b3, b4⟩ := hM nc ns I1 J1 C1 mt mk (MS_fX hm a3 a4)
  exact ⟨nc', ns', I1, J1, C1, I2, J2, mt', mk', a1, b1, fun l => a3 _ _ (by simp), ok, XS_fM a2 b3 b4, b2⟩
end
/-- what holds at a script's place i -/
def lw_I (L i : Nat) (S : eb_St) (nc ns : Nat) (I : eb_A → Nat → Int32) (J : eb_A → Nat → Int64) (mt mk : Option Nat) : Prop := i + 6 ≤ L ∧ L ≤ 384 ∧ sp_St S ∧ eb_XS S I J ∧ eb_MS S I J nc ns mt mk
/-- the call has been made, with the same answer -/
def lw_N (L i : Nat) (X : Option eb_R) : Prop := ∃ S' nc' ns' I' J' C' mt' mk', X = eb_E L 11 253 1948 [some (zr (0, 0, 0)), some (zr (1, 0, 0)), some (zr (21, 0, 0)), some (zi (nI i))] [] (nc', ns', I', J', eb_RL C' mt' mk') ∧ (sp_St S' ∧ eb_XS S' I' J' ∧ eb_MS S' I' J' nc' ns' mt' mk')
theorem ty0 {L : Nat} : eb_ty L 0 = (17, L) := rfl
theorem nI_c1 {i : Nat} : nI i + 1 = nI (i + 1) ∧ nI i + 2 = nI (i + 2) ∧ nI i + 3 = nI (i + 3) ∧ nI i + 4 = nI (i + 4) ∧ nI i + 5 = nI (i + 5) := ⟨nI_add i 1, nI_add i 2, nI_add i 3, nI_add i 4, nI_add i 5⟩
section
variable {L i nc ns : Nat} {I : eb_A → Nat → Int32} {J : eb_A → Nat → Int64} {C : Nat → Nat → Nat} {mt mk : Option Nat} {S : eb_St}
theorem lw_c0 (h : lw_I L i S nc ns I J mt mk) : lw_N L i (eb_E L 11 253 276 [some (zr (0, 0, 0)), some (zr (1, 0, 0)), some (zr (21, 0, 0)), some (zi (nI i))] [] (nc, ns, I, J, eb_RL C mt mk)) := by
  obtain ⟨hi, hL, ok, hX, hM⟩ := h
  obtain ⟨nc', ns', I1, J1, C1, I2, J2, mt', mk', a1, a2, a3, a4⟩ := lw_both (L := L) (D := 11) (as := [zi (I (0, 0, 0) (i + 1)), zi (I (0, 0, 0) (i + 2)), zi (I (0, 0, 0) (i + 3))]) (C := C) (xf_row (d := 7) ok) (mf_row (d := 7) ok) (St_row ok) hX hM
  refine ⟨_, nc', ns', I2, J2, C1, mt', mk', ?_, a4⟩
  simp (decide := true) (disch := omega) only [e253_276, e253_277, e253_278, e253_279, e253_280, e253_281, e253_282, e253_283, e253_284, e253_285, e253_286, e253_287, e253_288, e253_289, e253_290, e253_291, e253_292, e253_295, e253_296, e253_297, e253_298, e253_299, e253_300, e253_301, e253_302, e253_303, e253_304, e253_305, e253_306, e253_307, e253_308, e253_309, e253_310, e253_311, e253_314, bi_s, ↓reduceIte, Option.bind_some, true_and, and_true, ty0, tyX, tyM, rl1, rl2, nI_c1, nI_cl_b, eb_in_b, a1, a2, a3]
end

/-! the reference's faces: the dearest price, bearing, letters drawn -/
theorem land11 : ((1 : Int32) &&& 1 = 1) ∧ ((1 : Int32) &&& 0 = 0) ∧ ((0 : Int32) &&& 1 = 0) ∧ ((0 : Int32) &&& 0 = 0) := by decide
section
variable {L d nc ns r i g t : Nat} {I I' I1 : eb_A → Nat → Int32} {J J1 : eb_A → Nat → Int64} {C : Nat → Nat → Nat} {mt mk : Option Nat} {M : eb_M} {R : eb_A → Nat → Option eb_A} {w : eb_W} {x : Int32} {S : eb_St}
theorem mf_dearest (ok : sp_St S) {n a : Int32} : eb_FM L (d + 8) 240 [zi n, zi a] S (sf_dearest S n a).2 (zi (sf_dearest S n a).1) := by
  intro nc ns I J C mt mk h
  rw [h240 rfl]
  unfold sf_dearest
  have hI := m_isInn (L := L) (d := d + 5) (nc := nc) (ns := ns) (J := J) (C := C) (mt := mt) (mk := mk) (x := a) h.1 ok.1
  have hn1 := ok.1.1
  by_cases c1 : sp_rg n 1 12
  · by_cases c2 : sp_iI S.1 a
    · rw [if_pos c2] at hI
      rw [if_pos ⟨c1, c2⟩]
      obtain ⟨m, hm, rfl⟩ := rg_12 c1
      obtain ⟨i, hi, rfl⟩ := rg_nat (by omega) c2
      rw [show tn (nI i) = i from nI_cl_b (by omega), show tn (nI m) = m from nI_cl_b (by omega)]
      generalize hp : (fun p => (sp_years (sp_setI S.1 i 3 (nI p)) m).2.2.1 i) = p
      simp (decide := true) (disch := omega) only [e240_0, e240_1, e240_4, e240_7, e240_8, e240_9, e240_12, e240_15, e240_16, e240_18, e240_21, e240_22, e240_23, e240_24, e240_25, e240_27, e240_28, bi_s, tyX, rl1, rl2, rl4, ↓reduceIte, Option.bind_some, true_and, and_true, false_and, and_false, true_or, or_true, false_or, or_false, if_same0, ite_eq0, ite_eq0', ite_eq1, ite_eq1', or_em, or_em', ite_not, lcmp0, lcmpL, lcmpG, nI_cl_b, eb_in_b, nI_1, nI_pred, Int32.reduceToNatClampNeg, eb_u_ap, Prod.mk.injEq, not_true_eq_false, not_false_eq_true, tyM, rl21, rl25, sp_rg, sp_iI, sp_iG, sp_iS, m_isYears, c1, hI]
      obtain ⟨T, e, e1, e2, e3, e4, e5⟩ := eb_loop (α := Int32 × Int32 × (Nat × Nat × (eb_A → Nat → Int32) × (eb_A → Nat → Int64) × Option Nat) × Option eb_V × Option eb_V × Option eb_V) (n := 100) (s0 := (0, -1, (nc, ns, I, J, mt), none, none, none))
        (F := fun y s => eb_E L (d + 7) 240 30 [some (zr (21, 0, 0)), some (zi (nI m)), some (zi (nI i)), some (zi s.1), some (zi s.2.1), some (zi (nI y)), s.2.2.2.1, s.2.2.2.2.1, s.2.2.2.2.2] [] (s.2.2.1.1, s.2.2.1.2.1, s.2.2.1.2.2.1, s.2.2.1.2.2.2.1, eb_RL C s.2.2.1.2.2.2.2 mk))
        (P := fun y s => s.1 = (sp_most p y).1 ∧ s.2.1 = (sp_most p y).2 ∧ eb_MS S s.2.2.1.2.2.1 s.2.2.1.2.2.2.1 s.2.2.1.1 s.2.2.1.2.1 s.2.2.1.2.2.2.2 mk ∧ eb_fM I s.2.2.1.2.2.1 ∧ eb_fN J s.2.2.1.2.2.2.1)
        ⟨rfl, rfl, h, eb_fM_rf, eb_fN_rf⟩ (by
          intro y s hy hP
          obtain ⟨s1, s2, ⟨nc0, ns0, I0, J0, mt0⟩, o6, o7, o8⟩ := s
          obtain ⟨h1, h2, h3, h4, h5⟩ := hP
          have h1 : s1 = (sp_most p y).1 := h1
          have h2 : s2 = (sp_most p y).2 := h2
          have h3 : eb_MS S I0 J0 nc0 ns0 mt0 mk := h3
          have h4 : eb_fM I I0 := h4
          have h5 : eb_fN J J0 := h5
          obtain ⟨t, nc1, ns1, I1, J1, f1, f2, f3, f4, f5⟩ := m_fresh (L := L) (d := d + 3) (C := C) h3 ok
          have r1 := RM_setI (i := i) (f := 3) (v := nI y) f3
          have ok1 : sp_ok (sp_setI S.1 i 3 (nI y)) := ok_setI ok.1 (fun q => okI_3 q (nI_rg (lo := 0) (hi := 99) ⟨by omega, by omega⟩ (by omega)))
          have hpy : p y = (sp_years (sp_setI S.1 i 3 (nI y)) m).2.2.1 i := by rw [← hp]
          have hb : (99 < nI y) = False := by rw [show (99 : Int32) = nI 99 from rfl, nI_lt_b (by omega) (by omega)]; simp; omega
          rw [e240_30]
          simp (decide := true) (disch := omega) only [e240_32, e240_34, e240_37, e240_38, e240_41, e240_43, e240_45, e240_48, e240_49, e240_50, e240_51, e240_53, e240_54, e240_55, e240_57, e240_58, bi_s, tyX, rl1, rl2, rl4, ↓reduceIte, Option.bind_some, true_and, and_true, false_and, and_false, true_or, or_true, false_or, or_false, if_same0, ite_eq0, ite_eq0', ite_eq1, ite_eq1', or_em, or_em', ite_not, lcmp0, lcmpL, lcmpG, nI_cl_b, eb_in_b, nI_1, nI_pred, Int32.reduceToNatClampNeg, eb_u_ap, Prod.mk.injEq, not_true_eq_false, not_false_eq_true, tyM, rl21, rl25, sp_rg, sp_iI, sp_iG, sp_iS, hb, f1]
          obtain ⟨T, e, e1, e2, e3⟩ := eb_loop (α := Int32 × (eb_A → Nat → Int32)) (n := m) (s0 := (0, eb_u I1 (32, t, i) 3 (nI y)))
            (F := fun k s => eb_E L (d + 7) 240 60 [some (zr (21, 0, 0)), some (zi (nI m)), some (zi (nI i)), some (zi s1), some (zi s2), some (zi (nI y)), some (zr (21, t, 0)), some (zi s.1), some (zi (nI k))] [] (nc1, ns1, s.2, J1, eb_RL C (some t) mk))
            (P := fun k s => s.1 = (sp_years (sp_setI S.1 i 3 (nI y)) k).2.2.1 i ∧ eb_gv t I1 s.2 ∧ eb_RM s.2 t (sp_at (sp_setI S.1 i 3 (nI y)) k))
            ⟨rfl, r1.2, r1.1⟩ (by
              intro k s hk hP
              obtain ⟨u1, I2⟩ := s
              obtain ⟨g1, g2, g3⟩ := hP
              have g1 : u1 = (sp_years (sp_setI S.1 i 3 (nI y)) k).2.2.1 i := g1
              have g3 : eb_RM I2 t (sp_at (sp_setI S.1 i 3 (nI y)) k) := g3
              obtain ⟨I3, a1, a2, a3, a6⟩ := m_oneYear (L := L) (d := d + 1) (nc := nc1) (ns := ns1) (J := J1) (C := C) (mt := some t) (mk := mk) g3 ok1
              have kk := a6 i hi
              rw [e240_60]
              simp (decide := true) (disch := omega) only [e240_62, e240_63, e240_66, e240_68, e240_71, e240_73, e240_75, e240_78, e240_79, e240_80, e240_81, e240_83, e240_86, bi_s, tyX, rl1, rl2, rl4, ↓reduceIte, Option.bind_some, true_and, and_true, false_and, and_false, true_or, or_true, false_or, or_false, if_same0, ite_eq0, ite_eq0', ite_eq1, ite_eq1', or_em, or_em', ite_not, lcmp0, lcmpL, lcmpG, nI_cl_b, eb_in_b, nI_1, nI_pred, Int32.reduceToNatClampNeg, eb_u_ap, Prod.mk.injEq, not_true_eq_false, not_false_eq_true, tyM, rl21, rl25, sp_rg, sp_iI, sp_iG, sp_iS, nI_lt_b, hk, a1, kk]
              refine ⟨(u1 + (sp_at (sp_setI S.1 i 3 (nI y)) k).2.2.2.1 i 3 * (sp_night (sp_at (sp_setI S.1 i 3 (nI y)) k)).1 i, I3), rfl, ?_, eb_gv_tr g2 a2, a3⟩
              show u1 + _ = _
              rw [g1]; rfl)
          obtain ⟨u1, I2⟩ := T
          have e1 : u1 = (sp_years (sp_setI S.1 i 3 (nI y)) m).2.2.1 i := e1
          have e2 : eb_gv t I1 I2 := e2
          simp only [nI_0] at e
          have fin := fm_t f2 e2 (eb_fM_tr h4 f4) (eb_fN_tr h5 f5)
          rw [← hpy] at e1
          rw [e, e240_60]
          by_cases c : (sp_most p y).2 < p y
          · have hs : sp_most p (y + 1) = (nI y, p y) := if_pos c
            simp (decide := true) (disch := omega) only [e240_62, e240_63, e240_66, e240_68, e240_71, e240_73, e240_75, e240_78, e240_79, e240_80, e240_81, e240_83, e240_86, e240_89, e240_91, e240_93, e240_96, e240_98, e240_99, e240_101, e240_103, e240_106, bi_s, tyX, rl1, rl2, rl4, ↓reduceIte, Option.bind_some, true_and, and_true, false_and, and_false, true_or, or_true, false_or, or_false, if_same0, ite_eq0, ite_eq0', ite_eq1, ite_eq1', or_em, or_em', ite_not, lcmp0, lcmpL, lcmpG, nI_cl_b, eb_in_b, nI_1, nI_pred, Int32.reduceToNatClampNeg, eb_u_ap, Prod.mk.injEq, not_true_eq_false, not_false_eq_true, tyM, rl21, rl25, sp_rg, sp_iI, sp_iG, sp_iS, nI_lt_b, Nat.lt_irrefl, e1, h2, c]
            exact ⟨(nI y, p y, (nc1, ns1, I2, J1, some t), some (zr (21, t, 0)), some (zi (p y)), some (zi (nI m))), rfl, by rw [hs], by rw [hs], fin⟩
          · have hs : sp_most p (y + 1) = sp_most p y := if_neg c
            simp (decide := true) (disch := omega) only [e240_62, e240_63, e240_66, e240_68, e240_71, e240_73, e240_75, e240_78, e240_79, e240_80, e240_81, e240_83, e240_86, e240_89, e240_91, e240_93, e240_96, e240_98, e240_99, e240_101, e240_103, e240_106, bi_s, tyX, rl1, rl2, rl4, ↓reduceIte, Option.bind_some, true_and, and_true, false_and, and_false, true_or, or_true, false_or, or_false, if_same0, ite_eq0, ite_eq0', ite_eq1, ite_eq1', or_em, or_em', ite_not, lcmp0, lcmpL, lcmpG, nI_cl_b, eb_in_b, nI_1, nI_pred, Int32.reduceToNatClampNeg, eb_u_ap, Prod.mk.injEq, not_true_eq_false, not_false_eq_true, tyM, rl21, rl25, sp_rg, sp_iI, sp_iG, sp_iS, nI_lt_b, Nat.lt_irrefl, e1, h2, c]
            exact ⟨(s1, (sp_most p y).2, (nc1, ns1, I2, J1, some t), some (zr (21, t, 0)), some (zi (p y)), some (zi (nI m))), rfl, by rw [hs]; exact h1, by rw [hs], fin⟩)
      obtain ⟨s1, s2, ⟨nc0, ns0, I0, J0, mt0⟩, o6, o7, o8⟩ := T
      have e1 : s1 = (sp_most p 100).1 := e1
      simp only [nI_0] at e
      have hb : (99 < nI 100) = True := by decide
      rw [e, e240_30]
      simp (decide := true) (disch := omega) only [e240_32, e240_34, e240_37, e240_38, e240_41, e240_43, e240_45, e240_48, e240_49, e240_50, e240_51, e240_53, e240_54, e240_55, e240_57, e240_58, e240_62, e240_63, e240_66, e240_68, e240_71, e240_73, e240_75, e240_78, e240_79, e240_80, e240_81, e240_83, e240_86, e240_89, e240_91, e240_93, e240_96, e240_98, e240_99, e240_101, e240_103, e240_106, e240_109, e240_110, bi_s, tyX, rl1, rl2, rl4, ↓reduceIte, Option.bind_some, true_and, and_true, false_and, and_false, true_or, or_true, false_or, or_false, if_same0, ite_eq0, ite_eq0', ite_eq1, ite_eq1', or_em, or_em', ite_not, lcmp0, lcmpL, lcmpG, nI_cl_b, eb_in_b, nI_1, nI_pred, Int32.reduceToNatClampNeg, eb_u_ap, Prod.mk.injEq, not_true_eq_false, not_false_eq_true, tyM, rl21, rl25, sp_rg, sp_iI, sp_iG, sp_iS, hb]
      exact ⟨nc0, ns0, I0, J0, mt0, mk, by rw [e1], e3, e4, e5⟩
    · rw [if_neg c2] at hI
      rw [if_neg (fun q => c2 q.2)]
      simp (decide := true) (disch := omega) only [e240_0, e240_1, e240_4, e240_7, e240_8, e240_9, e240_12, e240_15, e240_16, e240_18, e240_21, e240_22, e240_23, e240_24, e240_25, e240_27, e240_28, bi_s, tyX, rl1, rl2, rl4, ↓reduceIte, Option.bind_some, true_and, and_true, false_and, and_false, true_or, or_true, false_or, or_false, if_same0, ite_eq0, ite_eq0', ite_eq1, ite_eq1', or_em, or_em', ite_not, lcmp0, lcmpL, lcmpG, nI_cl_b, eb_in_b, nI_1, nI_pred, Int32.reduceToNatClampNeg, eb_u_ap, Prod.mk.injEq, not_true_eq_false, not_false_eq_true, tyM, rl21, rl25, sp_rg, sp_iI, sp_iG, sp_iS, m_isYears, c1, hI, m_refuse0]
      exact ⟨nc, ns, _, J, mt, mk, rfl, fm_rf h (by omega)⟩
  · rw [if_neg (fun q => c1 q.1)]
    simp (decide := true) (disch := omega) only [e240_0, e240_1, e240_4, e240_7, e240_8, e240_9, e240_12, e240_15, e240_16, e240_18, e240_21, e240_22, e240_23, e240_24, e240_25, e240_27, e240_28, bi_s, tyX, rl1, rl2, rl4, ↓reduceIte, Option.bind_some, true_and, and_true, false_and, and_false, true_or, or_true, false_or, or_false, if_same0, ite_eq0, ite_eq0', ite_eq1, ite_eq1', or_em, or_em', ite_not, lcmp0, lcmpL, lcmpG, nI_cl_b, eb_in_b, nI_1, nI_pred, Int32.reduceToNatClampNeg, eb_u_ap, Prod.mk.injEq, not_true_eq_false, not_false_eq_true, tyM, rl21, rl25, sp_rg, sp_iI, sp_iG, sp_iS, m_isYears, c1, m_refuse0]
    exact ⟨nc, ns, _, J, mt, mk, rfl, fm_rf h (by omega)⟩
theorem setD2 {a b : Int32} : sp_setS (sp_setS w 2 a) 2 b = sp_setS w 2 b := by
  simp only [sp_setS, Prod.mk.injEq, true_and, and_true]
  funext l
  simp only [sp_up]
  split <;> rfl
theorem setDI2 {i : Nat} {s a b : Int32} : sp_setI (sp_setI (sp_setS w 2 s) i 5 a) i 6 b = sp_setS (sp_setI (sp_setI w i 5 a) i 6 b) 2 s := by
  obtain ⟨n, g, f, q, z⟩ := w
  simp only [sp_setI, sp_setS]
theorem RM_D2 {a b : Int32} (h : eb_RM I r w) : ∃ I2 I3, I2 = eb_u I (21, r, 0) 15 a ∧ I3 = eb_u I2 (21, r, 0) 15 b ∧ I2 (21, r, 0) 15 = a ∧ eb_gv r I I3 ∧ eb_RM I3 r (sp_setS w 2 b) ∧ ∀ i, i < w.1 → ∀ f, f < 7 → I2 (32, r, i) f = w.2.2.2.1 i f ∧ I3 (32, r, i) f = w.2.2.2.1 i f := by
  have r1 := RM_setD (v := a) h
  have r2 := RM_setD (v := b) r1.1
  rw [setD2] at r2
  exact ⟨_, _, rfl, rfl, eb_u_s, eb_gv_tr r1.2 r2.2, r2.1, fun i hi f hf => ⟨r1.1.2.1 i hi f hf, r2.1.2.1 i hi f hf⟩⟩
/-- a letter drawn: who, how much -/
theorem m_drawn (h : eb_RM I r w) (hw : sp_ok w) (hn0 : 0 < w.1) : ∃ q q2 I2 I3 I4, q < w.1 ∧ (∀ d, eb_ev L (d + 1) 243 [zr (21, r, 0), zi (nI w.1)] (nc, ns, I, J, eb_RL C mt mk) = some (zi (nI q), (nc, ns, I2, J, eb_RL C mt mk))) ∧ (∀ d, eb_ev L (d + 1) 243 [zr (21, r, 0), zi 21] (nc, ns, I2, J, eb_RL C mt mk) = some (zi (nI q2), (nc, ns, I3, J, eb_RL C mt mk))) ∧ I2 (32, r, q) 0 = w.2.2.2.1 q 0 ∧ I3 (32, r, q) 5 = w.2.2.2.1 q 5 ∧ (∀ d, eb_ev L (d + 1) 169 [zr (21, r, 0), zi (nI q), zi (sp_clamp (w.2.2.2.1 q 0 + nI q2 - 10))] (nc, ns, I3, J, eb_RL C mt mk) = some (zn, (nc, ns, I4, J, eb_RL C mt mk))) ∧ eb_RM I4 r (sp_post1 w).1 ∧ eb_gv r I I4 ∧ (sp_post1 w).2 = if w.2.2.2.1 q 5 < 99 then 1 else 0 := by
  have hn6 := hw.1
  have hil : sp_u16 (sp_nx (w.2.2.1 2)) % w.1 < w.1 := Nat.mod_lt _ hn0
  have hp1 : sp_post1 w = sp_post2 w (sp_nx (sp_nx (w.2.2.1 2))) (sp_u16 (sp_nx (w.2.2.1 2)) % w.1) (sp_clamp (w.2.2.2.1 (sp_u16 (sp_nx (w.2.2.1 2)) % w.1) 0 + nI (sp_u16 (sp_nx (sp_nx (w.2.2.1 2))) % 21) - 10)) := by unfold sp_post1; rfl
  obtain ⟨I2, I3, x2, x3, x4, x5, x6, x7⟩ := RM_D2 (a := sp_nx (w.2.2.1 2)) (b := sp_nx (sp_nx (w.2.2.1 2))) h
  have dr1 : ∀ d, eb_ev L (d + 1) 243 [zr (21, r, 0), zi (nI w.1)] (nc, ns, I, J, eb_RL C mt mk) = some (zi (nI (sp_u16 (sp_nx (w.2.2.1 2)) % w.1)), (nc, ns, I2, J, eb_RL C mt mk)) := fun d => by
    rw [m_draw hn0 (by omega), h.1.2.2.2.2, x2]
  have dr2 : ∀ d, eb_ev L (d + 1) 243 [zr (21, r, 0), zi (nI 21)] (nc, ns, I2, J, eb_RL C mt mk) = some (zi (nI (sp_u16 (sp_nx (sp_nx (w.2.2.1 2))) % 21)), (nc, ns, I3, J, eb_RL C mt mk)) := fun d => by
    rw [m_draw (by omega) (by omega), x4, x3]
  rw [show nI 21 = 21 from rfl] at dr2
  clear x2 x3 x4
  generalize sp_u16 (sp_nx (w.2.2.1 2)) % w.1 = q at hil dr1 hp1
  generalize sp_u16 (sp_nx (sp_nx (w.2.2.1 2))) % 21 = q2 at dr2 hp1
  generalize sp_nx (sp_nx (w.2.2.1 2)) = s2 at x6 hp1
  have k5 := (x7 q hil 5 (by omega)).2
  have k6 := (x7 q hil 6 (by omega)).2
  have gl : ∀ x d, eb_ev L (d + 1) 169 [zr (21, r, 0), zi (nI q), zi x] (nc, ns, I3, J, eb_RL C mt mk) = some (zn, (nc, ns, (if w.2.2.2.1 q 5 < 99 then eb_u (eb_u I3 (32, r, q) 5 (w.2.2.2.1 q 5 + 1)) (32, r, q) 6 (w.2.2.2.1 q 6 + x) else I3), J, eb_RL C mt mk)) := fun x d => by
    rw [m_getsLetter (by omega), k5, k6]
  have gl := gl (sp_clamp (w.2.2.2.1 q 0 + nI q2 - 10))
  refine ⟨q, q2, I2, I3, (if w.2.2.2.1 q 5 < 99 then eb_u (eb_u I3 (32, r, q) 5 (w.2.2.2.1 q 5 + 1)) (32, r, q) 6 (w.2.2.2.1 q 6 + sp_clamp (w.2.2.2.1 q 0 + nI q2 - 10)) else I3), hil, dr1, dr2, (x7 q hil 0 (by omega)).1, k5, gl, ?_⟩
  generalize sp_clamp (w.2.2.2.1 q 0 + nI q2 - 10) = v at hp1
  rw [hp1]
  unfold sp_post2
  by_cases c : w.2.2.2.1 q 5 < 99
  · simp only [if_pos c]
    have r3 := RM_setI (i := q) (f := 5) (v := w.2.2.2.1 q 5 + 1) x6
    have r4 := RM_setI (i := q) (f := 6) (v := w.2.2.2.1 q 6 + v) r3.1
    refine ⟨?_, eb_gv_tr (eb_gv_tr x5 r3.2) r4.2, trivial⟩
    rw [← setDI2]
    exact r4.1
  · simp only [if_neg c]
    exact ⟨x6, x5, trivial⟩
theorem mf_post (ok : sp_St S) {n : Int32} : eb_FM L (d + 8) 244 [zi n] S (sf_post S n).2 (zi (sf_post S n).1) := by
  intro nc ns I J C mt mk h
  rw [h244 rfl]
  unfold sf_post
  have hn1 := ok.1.1
  by_cases c1 : sp_rg n 1 40
  · rw [if_neg (fun q => q c1)]
    obtain ⟨m, hm, rfl⟩ := rg_le 40 (by omega) (by decide) c1
    rw [show tn (nI m) = m from nI_cl_b (by omega)]
    by_cases c2 : S.1.1 = 0
    · rw [if_pos c2]
      have k0 : I (21, 0, 0) 9 = 0 := by rw [h.1.1.1, c2]; rfl
      simp (decide := true) (disch := omega) only [e244_0, e244_1, e244_2, e244_3, e244_6, e244_9, e244_12, e244_13, e244_15, e244_18, e244_19, e244_20, e244_23, e244_26, e244_27, e244_29, e244_32, e244_33, e244_34, e244_35, e244_36, bi_s, tyX, rl1, rl2, rl4, ↓reduceIte, Option.bind_some, true_and, and_true, false_and, and_false, true_or, or_true, false_or, or_false, if_same0, ite_eq0, ite_eq0', ite_eq1, ite_eq1', or_em, or_em', ite_not, lcmp0, lcmpL, lcmpG, nI_cl_b, eb_in_b, nI_1, nI_pred, Int32.reduceToNatClampNeg, eb_u_ap, Prod.mk.injEq, not_true_eq_false, not_false_eq_true, tyM, rl21, rl25, sp_rg, sp_iI, sp_iG, sp_iS, m_ins, c1, k0, m_refuse3]
      exact ⟨nc, ns, _, J, mt, mk, rfl, fm_rf h (by omega)⟩
    · rw [if_neg c2]
      have k0 : nI S.1.1 ≠ 0 := nI_ne0 (by omega) (by omega)
      simp (decide := true) (disch := omega) only [e244_0, e244_1, e244_2, e244_3, e244_6, e244_9, e244_12, e244_13, e244_15, e244_18, e244_19, e244_20, e244_23, e244_26, e244_27, e244_29, e244_32, e244_33, e244_34, e244_35, e244_36, bi_s, tyX, rl1, rl2, rl4, ↓reduceIte, Option.bind_some, true_and, and_true, false_and, and_false, true_or, or_true, false_or, or_false, if_same0, ite_eq0, ite_eq0', ite_eq1, ite_eq1', or_em, or_em', ite_not, lcmp0, lcmpL, lcmpG, nI_cl_b, eb_in_b, nI_1, nI_pred, Int32.reduceToNatClampNeg, eb_u_ap, Prod.mk.injEq, not_true_eq_false, not_false_eq_true, tyM, rl21, rl25, sp_rg, sp_iI, sp_iG, sp_iS, m_ins, c1, h.1.1.1, k0]
      obtain ⟨T, e, e1, e2, e3⟩ := eb_loop (α := Int32 × (eb_A → Nat → Int32) × Option eb_V × Option eb_V) (n := m) (s0 := (0, I, none, none))
        (F := fun y s => eb_E L (d + 7) 244 37 [some (zr (21, 0, 0)), some (zi (nI m)), some (zi s.1), some (zi (nI y)), s.2.2.1, s.2.2.2] [] (nc, ns, s.2.1, J, eb_RL C mt mk))
        (P := fun y s => s.1 = (sp_post S.1 y).2 ∧ eb_gv 0 I s.2.1 ∧ eb_RM s.2.1 0 (sp_post S.1 y).1)
        ⟨rfl, eb_gv_rf, h.1⟩ (by
          intro y s hy hP
          obtain ⟨s1, I1, o4, o5⟩ := s
          obtain ⟨h1, h2, h3⟩ := hP
          have h1 : s1 = (sp_post S.1 y).2 := h1
          have h2 : eb_gv 0 I I1 := h2
          have h3 : eb_RM I1 0 (sp_post S.1 y).1 := h3
          obtain ⟨oky, hny⟩ := sp_ok_post ok.1 y
          have hz : sp_post S.1 (y + 1) = ((sp_post1 (sp_post S.1 y).1).1, (sp_post S.1 y).2 + (sp_post1 (sp_post S.1 y).1).2) := rfl
          generalize hW : (sp_post S.1 y).1 = W at h3 oky hny hz
          have hn0 : 0 < W.1 := by omega
          have hn6 := oky.1
          obtain ⟨q, q2, I2, I3, I4, hil, dr1, dr2, k0, k5, gl, rM, gv, hs⟩ := m_drawn (L := L) (nc := nc) (ns := ns) (J := J) (C := C) (mt := mt) (mk := mk) h3 oky hn0
          have dr1 := dr1 (d + 6)
          have dr2 := dr2 (d + 6)
          have gl := gl (d + 6)
          have k9 : I1 (21, 0, 0) 9 = nI W.1 := h3.1.1
          have wi : ∀ (x : Int32) (M : eb_M), eb_ev L (d + 7) 147 [zi x, zi 100] M = some (zi (sp_clamp x), M) := fun x M => m_within
          rw [e244_37]
          by_cases c : W.2.2.2.1 q 5 < 99
          · rw [if_pos c] at hs
            simp (decide := true) (disch := omega) only [e244_38, e244_39, e244_42, e244_43, e244_44, e244_47, e244_50, e244_52, e244_53, e244_56, e244_58, e244_59, e244_60, e244_61, e244_62, e244_64, e244_67, e244_68, e244_70, e244_71, e244_73, e244_76, e244_78, e244_79, e244_80, e244_83, e244_85, e244_86, e244_87, e244_88, e244_90, e244_93, e244_94, e244_97, e244_98, e244_99, e244_100, e244_101, e244_103, e244_105, e244_108, e244_111, bi_s, tyX, rl1, rl2, rl4, ↓reduceIte, Option.bind_some, true_and, and_true, false_and, and_false, true_or, or_true, false_or, or_false, if_same0, ite_eq0, ite_eq0', ite_eq1, ite_eq1', or_em, or_em', ite_not, lcmp0, lcmpL, lcmpG, nI_cl_b, eb_in_b, nI_1, nI_pred, Int32.reduceToNatClampNeg, eb_u_ap, Prod.mk.injEq, not_true_eq_false, not_false_eq_true, tyM, rl21, rl25, sp_rg, sp_iI, sp_iG, sp_iS, nI_lt_b, hy, k9, dr1, dr2, k0, wi, k5, c, gl]
            refine ⟨(s1 + 1, I4, some (zi (nI q)), some (zi (sp_clamp (W.2.2.2.1 q 0 + nI q2 - 10)))), rfl, ?_, eb_gv_tr h2 gv, ?_⟩
            · rw [hz, hs, h1]
            · rw [hz]; exact rM
          · rw [if_neg c] at hs
            simp (decide := true) (disch := omega) only [e244_38, e244_39, e244_42, e244_43, e244_44, e244_47, e244_50, e244_52, e244_53, e244_56, e244_58, e244_59, e244_60, e244_61, e244_62, e244_64, e244_67, e244_68, e244_70, e244_71, e244_73, e244_76, e244_78, e244_79, e244_80, e244_83, e244_85, e244_86, e244_87, e244_88, e244_90, e244_93, e244_94, e244_97, e244_98, e244_99, e244_100, e244_101, e244_103, e244_105, e244_108, e244_111, bi_s, tyX, rl1, rl2, rl4, ↓reduceIte, Option.bind_some, true_and, and_true, false_and, and_false, true_or, or_true, false_or, or_false, if_same0, ite_eq0, ite_eq0', ite_eq1, ite_eq1', or_em, or_em', ite_not, lcmp0, lcmpL, lcmpG, nI_cl_b, eb_in_b, nI_1, nI_pred, Int32.reduceToNatClampNeg, eb_u_ap, Prod.mk.injEq, not_true_eq_false, not_false_eq_true, tyM, rl21, rl25, sp_rg, sp_iI, sp_iG, sp_iS, nI_lt_b, hy, k9, dr1, dr2, k0, wi, k5, c, gl]
            refine ⟨(s1 + 0, I4, some (zi (nI q)), some (zi (sp_clamp (W.2.2.2.1 q 0 + nI q2 - 10)))), rfl, ?_, eb_gv_tr h2 gv, ?_⟩
            · rw [hz, hs, h1]
            · rw [hz]; exact rM)
      obtain ⟨s1, I1, o4, o5⟩ := T
      have e1 : s1 = (sp_post S.1 m).2 := e1
      simp only [nI_0] at e
      rw [e, e244_37]
      simp (decide := true) (disch := omega) only [e244_38, e244_39, e244_42, e244_43, e244_44, e244_47, e244_50, e244_52, e244_53, e244_56, e244_58, e244_59, e244_60, e244_61, e244_62, e244_64, e244_67, e244_68, e244_70, e244_71, e244_73, e244_76, e244_78, e244_79, e244_80, e244_83, e244_85, e244_86, e244_87, e244_88, e244_90, e244_93, e244_94, e244_97, e244_98, e244_99, e244_100, e244_101, e244_103, e244_105, e244_108, e244_111, e244_114, e244_115, bi_s, tyX, rl1, rl2, rl4, ↓reduceIte, Option.bind_some, true_and, and_true, false_and, and_false, true_or, or_true, false_or, or_false, if_same0, ite_eq0, ite_eq0', ite_eq1, ite_eq1', or_em, or_em', ite_not, lcmp0, lcmpL, lcmpG, nI_cl_b, eb_in_b, nI_1, nI_pred, Int32.reduceToNatClampNeg, eb_u_ap, Prod.mk.injEq, not_true_eq_false, not_false_eq_true, tyM, rl21, rl25, sp_rg, sp_iI, sp_iG, sp_iS, nI_lt_b, Nat.lt_irrefl]
      exact ⟨nc, ns, I1, J, mt, mk, by rw [e1], fm_w h ⟨e3, e2⟩⟩
  · rw [if_pos c1]
    simp (decide := true) (disch := omega) only [e244_0, e244_1, e244_2, e244_3, e244_6, e244_9, e244_12, e244_13, e244_15, e244_18, e244_19, e244_20, e244_23, e244_26, e244_27, e244_29, e244_32, e244_33, e244_34, e244_35, e244_36, bi_s, tyX, rl1, rl2, rl4, ↓reduceIte, Option.bind_some, true_and, and_true, false_and, and_false, true_or, or_true, false_or, or_false, if_same0, ite_eq0, ite_eq0', ite_eq1, ite_eq1', or_em, or_em', ite_not, lcmp0, lcmpL, lcmpG, nI_cl_b, eb_in_b, nI_1, nI_pred, Int32.reduceToNatClampNeg, eb_u_ap, Prod.mk.injEq, not_true_eq_false, not_false_eq_true, tyM, rl21, rl25, sp_rg, sp_iI, sp_iG, sp_iS, m_ins, c1, m_refuse0]
    exact ⟨nc, ns, _, J, mt, mk, rfl, fm_rf h (by omega)⟩
end

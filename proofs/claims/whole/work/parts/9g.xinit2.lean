/-! the class is made -/
/-- the state at the start -/
def sp_S0 : eb_St := ((0, 0, fun s => if s = 2 then 1 else 0, fun _ _ => 0, fun _ _ => 0), none, fun _ => -1, fun _ => 0, fun _ _ => 0, (fun _ => 0, 0), fun _ => 0)
theorem St_0 : sp_St sp_S0 := by
  refine ⟨⟨Nat.zero_le _, Nat.zero_le _, ⟨by decide, by decide⟩, fun i hi => absurd hi (Nat.not_lt_zero _), fun i hi => absurd hi (Nat.not_lt_zero _)⟩, (fun p q => by cases q), fun s hs => Or.inl rfl, Nat.zero_le _, fun j hj => absurd hj (Nat.not_lt_zero _)⟩
theorem nmX : eb_nm 1 = (1, 0, 0) ∧ eb_nm 2 = (4, 0, 0) ∧ eb_nm 25 = (4, 1, 0) ∧ eb_nm 48 = (4, 2, 0) ∧ eb_nm 71 = (2, 0, 0) ∧ eb_nm 72 = (13, 0, 0) ∧ eb_nm 73 = (14, 0, 0) ∧ eb_nm 74 = (15, 0, 0) := ⟨rfl, rfl, rfl, rfl, rfl, rfl, rfl, rfl⟩
theorem nmS : ∀ i, i < 8 → eb_nm (75 + 2 * i) = (3, 0, i) ∧ eb_nm (75 + 2 * i + 1) = (12, 0, i) := by decide
def eb_hR (i : Nat) (R : eb_A → Nat → Option eb_A) : eb_A → Nat → Option eb_A := fun b l => if b = (2, 0, 0) ∧ i ≤ l ∧ l < 8 then none else R b l
section
variable {i : Nat} {R : eb_A → Nat → Option eb_A}
theorem sR_1 (h2 : R (2, 0, 0) i = some (3, 0, i)) (h3 : ∀ l, R (3, 0, i) l = if l = 2 then some (12, 0, i) else none) : eb_u (eb_u (eb_zR (eb_hR i R) (3, 0, i) 3) (3, 0, i) 2 (some (12, 0, i))) (2, 0, 0) i (some (3, 0, i)) = eb_hR (i + 1) R := by
  funext b l
  by_cases q : b = (2, 0, 0)
  · subst q
    by_cases z : l = i
    · subst z; simp [eb_u, eb_hR, h2]; omega
    · have : (i ≤ l ∧ l < 8) = (i + 1 ≤ l ∧ l < 8) := propext (by omega)
      simp only [eb_u, eb_zR, eb_hR, z, Prod.mk.injEq, Nat.reduceEqDiff, false_and, and_false, if_false, true_and, or_false, false_or, this]
  · by_cases q2 : b = (3, 0, i)
    · subst q2
      by_cases z : l = 2
      · subst z; simp [eb_u, eb_hR, h3]
      · simp [eb_u, eb_zR, eb_hR, h3, z]
    · simp only [eb_u, eb_zR, eb_hR, q, q2, false_and, if_false]
theorem sR_8 : eb_hR 8 R = R := by
  funext b l
  exact if_neg (fun z => by omega)
theorem sR_0 (h1 : ∀ l, l < 7 → R (1, 0, 0) l = if l = 0 then some (4, 0, 0) else if l = 1 then some (4, 1, 0) else if l = 2 then some (4, 2, 0) else if l = 4 then some (2, 0, 0) else if l = 5 then some (13, 0, 0) else if l = 6 then some (15, 0, 0) else none) (h13 : ∀ l, R (13, 0, 0) l = if l = 0 then some (14, 0, 0) else none) : eb_u (eb_u (eb_u (eb_zR (eb_u (eb_zR (eb_u (eb_u (eb_u (eb_zR R (1, 0, 0) 7) (1, 0, 0) 0 (some (4, 0, 0))) (1, 0, 0) 1 (some (4, 1, 0))) (1, 0, 0) 2 (some (4, 2, 0))) (2, 0, 0) 8) (1, 0, 0) 4 (some (2, 0, 0))) (13, 0, 0) 5) (13, 0, 0) 0 (some (14, 0, 0))) (1, 0, 0) 5 (some (13, 0, 0))) (1, 0, 0) 6 (some (15, 0, 0)) = eb_hR 0 R := by
  funext b l
  by_cases q : b = (1, 0, 0)
  · subst q
    by_cases z : l < 7
    · have := h1 l z
      rcases (show l = 0 ∨ l = 1 ∨ l = 2 ∨ l = 3 ∨ l = 4 ∨ l = 5 ∨ l = 6 by omega) with rfl | rfl | rfl | rfl | rfl | rfl | rfl <;> simp [eb_u, eb_zR, eb_hR, this]
    · have z0 : ¬ l = 0 := by omega
      have z1 : ¬ l = 1 := by omega
      have z2 : ¬ l = 2 := by omega
      have z4 : ¬ l = 4 := by omega
      have z5 : ¬ l = 5 := by omega
      have z6 : ¬ l = 6 := by omega
      simp [eb_u, eb_zR, eb_hR, z, z0, z1, z2, z4, z5, z6]
  · by_cases q1 : b = (2, 0, 0)
    · subst q1; simp [eb_u, eb_zR, eb_hR]
    by_cases q2 : b = (13, 0, 0)
    · subst q2
      by_cases z : l = 0
      · subst z; simp [eb_u, eb_hR, h13]
      · simp [eb_u, eb_zR, eb_hR, h13, z]
    simp only [eb_u, eb_zR, eb_hR, q, q1, q2, false_and, if_false]
end
section
variable {L d nc ns k b : Nat} {I : eb_A → Nat → Int32} {J : eb_A → Nat → Int64} {R : eb_A → Nat → Option eb_A} {C : Nat → Nat → Nat}
theorem x_init3 : eb_ev L (d + 2) 23 [zr (13, 0, 0)] (73, ns, I, J, R) = some (zn, (74, ns + 250, eb_zI I (14, 0, 0), J, eb_u R (13, 0, 0) 0 (some (14, 0, 0)))) := by
  rw [h23 rfl]
  simp (decide := true) only [e23_0, e23_1, e23_4, e23_5, e23_8, e23_10, e23_13, bi_s, ↓reduceIte, Option.bind_some, true_and, and_true, Int32.reduceToNatClampNeg, tyX, nmX]
theorem x_init2 {i : Nat} (h : eb_nm nc = (12, 0, i)) : eb_ev L (d + 2) 16 [zr (3, 0, i)] (nc, ns, I, J, R) = some (zn, (nc + 1, ns + 40, eb_u I (3, 0, i) 0 (-1), eb_zJ J (12, 0, i), eb_u R (3, 0, i) 2 (some (12, 0, i)))) := by
  rw [h16 rfl]
  simp (decide := true) only [e16_0, e16_1, e16_4, e16_5, e16_6, e16_9, e16_10, e16_12, e16_14, e16_17, bi_s, ↓reduceIte, Option.bind_some, true_and, and_true, Int32.reduceToNatClampNeg, tyX, h]
theorem x_init5 (hC : ∀ k j, C k j = j) (h3 : I (1, 0, 0) 3 = 0) : ∃ I' J', eb_ev L (d + 4) 67 [zr (1, 0, 0)] (2, ns, I, J, eb_zR (eb_RL C none none) (1, 0, 0) 7) = some (zn, (91, ns + 1089, I', J', eb_RL C none none)) ∧ eb_XS sp_S0 I' J' ∧ eb_fX I I' := by
  have hR1 : ∀ (k : Nat) (R : eb_A → Nat → Option eb_A), (∀ a l, 4 ≤ a.1 → a.1 ≤ 11 → R a l = eb_RL C none none a l) → ∀ a l, a.2.1 = k → 4 ≤ a.1 → a.1 ≤ 11 → R a l = eb_RL C none none a l := fun k R h a l _ q1 q2 => h a l q1 q2
  have r0 : ∀ a l, 4 ≤ a.1 → a.1 ≤ 11 → eb_zR (eb_RL C none none) (1, 0, 0) 7 a l = eb_RL C none none a l := fun a l q1 _ => if_neg (fun z => by rw [z.1] at q1; exact absurd (q1 : (4 : Nat) ≤ 1) (by decide : ¬ (4 : Nat) ≤ 1))
  have ru : ∀ (R : eb_A → Nat → Option eb_A) (j : Nat) (x : Option eb_A), (∀ a l, 4 ≤ a.1 → a.1 ≤ 11 → R a l = eb_RL C none none a l) → ∀ a l, 4 ≤ a.1 → a.1 ≤ 11 → eb_u R (1, 0, 0) j x a l = eb_RL C none none a l := fun R j x h a l q1 q2 => (if_neg (fun z => by rw [z.1] at q1; exact absurd (q1 : (4 : Nat) ≤ 1) (by decide : ¬ (4 : Nat) ≤ 1))).trans (h a l q1 q2)
  obtain ⟨I0, a1, a2, a3⟩ := x_init4 (L := L) (d := d) (b := 2) (ns := ns + 9) (I := eb_zI I (4, 0, 0)) (J := J) (C := C) nmV_0.1 (hR1 0 _ r0) (hC 0)
  have r1 := ru _ 0 (some (4, 0, 0)) r0
  obtain ⟨I1, b1, b2, b3⟩ := x_init4 (L := L) (d := d) (b := 25) (ns := ns + 9 + 150 + 9) (I := eb_zI I0 (4, 1, 0)) (J := J) (C := C) nmV_0.2.1 (hR1 1 _ r1) (hC 1)
  have r2 := ru _ 1 (some (4, 1, 0)) r1
  obtain ⟨I2, c1, c2, c3⟩ := x_init4 (L := L) (d := d) (b := 48) (ns := ns + 9 + 150 + 9 + 150 + 9) (I := eb_zI I1 (4, 2, 0)) (J := J) (C := C) nmV_0.2.2 (hR1 2 _ r2) (hC 2)
  simp only [Nat.reduceAdd] at a1 b1 c1
  have hs0 := sR_0 (R := eb_RL C none none) (fun l hl => by rcases (show l = 0 ∨ l = 1 ∨ l = 2 ∨ l = 3 ∨ l = 4 ∨ l = 5 ∨ l = 6 by omega) with rfl | rfl | rfl | rfl | rfl | rfl | rfl <;> rfl) (fun l => by rcases l with _ | l <;> rfl)
  rw [h67 rfl]
  simp (decide := true) only [e67_0, e67_1, e67_4, e67_5, e67_8a, e67_8b, e67_9, e67_12, e67_15, e67_16, e67_19a, e67_19b, e67_20, e67_23, e67_26, e67_27, e67_30a, e67_30b, e67_31, e67_34, e67_37, e67_38, e67_40, e67_43, e67_46, e67_47, e67_50a, e67_50b, e67_51, e67_54, e67_57, e67_58, e67_59, e67_61, e67_64, e67_65, bi_s, ↓reduceIte, Option.bind_some, true_and, and_true, Int32.reduceToNatClampNeg, tyX, nmX, Nat.reduceAdd, a1, b1, c1, x_init3, hs0]
  generalize hI3 : eb_zI (eb_zI (eb_zI I2 (13, 0, 0)) (14, 0, 0)) (15, 0, 0) = I3
  have e3 : ∀ a l, ¬ a = (13, 0, 0) → ¬ a = (14, 0, 0) → ¬ a = (15, 0, 0) → I3 a l = I2 a l := fun a l q1 q2 q3 => by rw [← hI3]; simp only [eb_zI, q1, q2, q3, if_false]
  have k13 : I3 (13, 0, 0) 1 = 0 := by rw [← hI3]; simp [eb_zI]
  have k15 : ∀ l, I3 (15, 0, 0) l = 0 := fun l => by rw [← hI3]; simp [eb_zI]
  have k1 : I3 (1, 0, 0) 3 = 0 := by
    rw [e3 _ _ (by simp) (by simp) (by simp), c2 _ _ (by simp)]
    show (if _ then _ else _) = _
    rw [if_neg (by simp), b2 _ _ (by simp)]
    show (if _ then _ else _) = _
    rw [if_neg (by simp), a2 _ _ (by simp)]
    show (if _ then _ else _) = _
    rw [if_neg (by simp)]
    exact h3
  have k4 : ∀ l, I3 (4, 0, 0) l = if l = 6 then 1 else 0 := fun l => by
    rw [e3 _ _ (by simp) (by simp) (by simp), c2 _ _ (by simp)]
    show (if _ then _ else _) = _
    rw [if_neg (by simp), b2 _ _ (by simp)]
    show (if _ then _ else _) = _
    rw [if_neg (by simp), a3]
    simp [eb_zI]
  have fX : eb_fX I I3 := fun a l q => by
    have n1 : ∀ c : eb_A, 1 ≤ c.1 → c.1 ≤ 15 → ¬ a = c := fun c q1 q2 z => q (by rw [z]; exact ⟨q1, q2⟩)
    rw [e3 _ _ (n1 _ (Nat.le_of_ble_eq_true rfl) (Nat.le_of_ble_eq_true rfl)) (n1 _ (Nat.le_of_ble_eq_true rfl) (Nat.le_of_ble_eq_true rfl)) (n1 _ (Nat.le_of_ble_eq_true rfl) (Nat.le_of_ble_eq_true rfl)), c2 _ _ (fun z => q ⟨by omega, by omega⟩)]
    show (if _ then _ else _) = _
    rw [if_neg (n1 _ (Nat.le_of_ble_eq_true rfl) (Nat.le_of_ble_eq_true rfl)), b2 _ _ (fun z => q ⟨by omega, by omega⟩)]
    show (if _ then _ else _) = _
    rw [if_neg (n1 _ (Nat.le_of_ble_eq_true rfl) (Nat.le_of_ble_eq_true rfl)), a2 _ _ (fun z => q ⟨by omega, by omega⟩)]
    exact if_neg (n1 _ (Nat.le_of_ble_eq_true rfl) (Nat.le_of_ble_eq_true rfl))
  have g4 : ∀ i, eb_hR i (eb_RL C none none) (1, 0, 0) 4 = some (2, 0, 0) := fun i => (if_neg (by simp)).trans rfl
  obtain ⟨T, e, e1, e2, e4⟩ := eb_loop (α := Nat × (eb_A → Nat → Int32) × (eb_A → Nat → Int64)) (n := 8) (s0 := (ns + 745, I3, J))
    (F := fun i s => eb_E L (d + 3) 67 66 [some (zr (1, 0, 0)), some (zi (nI i))] [] (75 + 2 * i, s.1, s.2.1, s.2.2, eb_hR i (eb_RL C none none)))
    (P := fun i s => s.1 = ns + 745 + 43 * i ∧ (∀ a l, ¬ a.1 = 3 → s.2.1 a l = I3 a l) ∧ ∀ j, j < i → s.2.1 (3, 0, j) 0 = -1)
    ⟨rfl, fun _ _ _ => rfl, fun j hj => absurd hj (Nat.not_lt_zero _)⟩ (by
      intro i s hi hP
      obtain ⟨m, I4, J4⟩ := s
      obtain ⟨h1, h2, h4⟩ := hP
      have h1 : m = ns + 745 + 43 * i := h1
      have h2 : ∀ a l, ¬ a.1 = 3 → I4 a l = I3 a l := h2
      have h4 : ∀ j, j < i → I4 (3, 0, j) 0 = -1 := h4
      have hb : (nI i < 8) = True := by rw [show (8 : Int32) = nI 8 from rfl, nI_lt_b (by omega) (by omega)]; exact eq_true hi
      obtain ⟨nn, nn2⟩ := nmS i hi
      have ev := fun R' => x_init2 (L := L) (d := d + 1) (nc := 75 + 2 * i + 1) (ns := m + 3) (I := eb_zI I4 (3, 0, i)) (J := J4) (R := R') (i := i) nn2
      have rv := sR_1 (i := i) (R := eb_RL C none none) rfl (fun l => by rcases l with _ | _ | _ | l <;> rfl)
      have hs : nI i + 1 = nI (i + 1) := nI_add i 1
      rw [e67_66]
      simp (decide := true) (disch := omega) only [e67_67, e67_69, e67_72, e67_73, e67_76, e67_77, e67_80a, e67_80b, e67_81, e67_84, e67_85, e67_88, bi_s, tyX, ↓reduceIte, Option.bind_some, true_and, and_true, nI_cl_b, eb_in_b, hb, g4, nn, ev, rv, hs]
      refine ⟨(m + 3 + 40, eb_u (eb_zI I4 (3, 0, i)) (3, 0, i) 0 (-1), eb_zJ J4 (12, 0, i)), rfl, (by show m + 3 + 40 = ns + 745 + 43 * (i + 1); omega), fun a l q => ?_, fun j hj => ?_⟩
      · have n3 : ¬ a = (3, 0, i) := fun z => q (by rw [z])
        show (if _ then _ else _) = _
        rw [if_neg (fun z => n3 z.1)]
        exact (if_neg n3).trans (h2 a l q)
      · by_cases z : j = i
        · subst z; exact eb_u_s
        · have n3 : ¬ ((3, 0, j) : eb_A) = (3, 0, i) := fun y => z (by injection y with _ y; injection y)
          show (if _ then _ else _) = _
          rw [if_neg (fun z => n3 z.1)]
          exact (if_neg n3).trans (h4 j (by omega)))
  obtain ⟨m, I4, J4⟩ := T
  have e1 : m = ns + 745 + 43 * 8 := e1
  have e2 : ∀ a l, ¬ a.1 = 3 → I4 a l = I3 a l := e2
  have e4 : ∀ j, j < 8 → I4 (3, 0, j) 0 = -1 := e4
  simp only [nI_0] at e
  have hb8 : (nI 8 < 8) = False := by decide
  rw [show (75 : Nat) = 75 + 2 * 0 from rfl, show ns + 9 + 150 + 9 + 150 + 9 + 150 + 8 + 5 + 250 + 5 = ns + 745 from rfl, e, e67_66, sR_8]
  simp (decide := true) (disch := omega) only [e67_67, e67_69, e67_72, e67_73, e67_76, e67_77, e67_80a, e67_80b, e67_81, e67_84, e67_85, e67_88, e67_91, bi_s, tyX, ↓reduceIte, hb8]
  refine ⟨I4, J4, by rw [e1], ⟨⟨⟨?_, ?_, ?_, ?_, ?_⟩, fun i hi => absurd hi (Nat.not_lt_zero _), fun i hi => absurd hi (Nat.not_lt_zero _)⟩, ⟨?_, fun p hp => by cases hp⟩, fun s hs => ⟨e4 s hs, fun z => absurd z.1 (by show ¬ (0 : Int32) ≤ -1; decide)⟩, ⟨?_, fun j hj => absurd hj (Nat.not_lt_zero _)⟩, fun r hr => ?_⟩, fun a l q => (e2 a l (fun z => q ⟨by omega, by omega⟩)).trans (fX a l q)⟩
  · rw [e2 _ _ (by simp), k4]; rfl
  · rw [e2 _ _ (by simp), k4]; rfl
  · rw [e2 _ _ (by simp), k4]; rfl
  · rw [e2 _ _ (by simp), k4]; rfl
  · rw [e2 _ _ (by simp), k4]; rfl
  · rw [e2 _ _ (by simp), k1]; rfl
  · rw [e2 _ _ (by simp), k13]; rfl
  · rw [e2 _ _ (by simp), k15]; rfl
end

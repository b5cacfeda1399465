/-! the class is made: its valleys -/
/-- the names of a valley's cells, from b on -/
def eb_nmV (b k : Nat) : Prop := eb_nm b = (4, k, 0) ∧ eb_nm (b + 1) = (5, k, 0) ∧ eb_nm (b + 2) = (9, k, 0) ∧ eb_nm (b + 3) = (10, k, 0) ∧ eb_nm (b + 4) = (11, k, 0) ∧ (∀ i, i < 6 → eb_nm (b + 5 + i) = (6, k, i)) ∧ ∀ i, i < 6 → eb_nm (b + 11 + 2 * i) = (7, k, i) ∧ eb_nm (b + 11 + 2 * i + 1) = (8, k, i)
theorem nmV_0 : eb_nmV 2 0 ∧ eb_nmV 25 1 ∧ eb_nmV 48 2 := by
  refine ⟨⟨rfl, rfl, rfl, rfl, rfl, ?_, ?_⟩, ⟨rfl, rfl, rfl, rfl, rfl, ?_, ?_⟩, ⟨rfl, rfl, rfl, rfl, rfl, ?_, ?_⟩⟩ <;> decide
/-- R, but in what rows of a valley aren't set yet -/
def eb_vR (k i j : Nat) (R : eb_A → Nat → Option eb_A) : eb_A → Nat → Option eb_A := fun b l => if (b = (5, k, 0) ∧ i ≤ l ∧ l < 6) ∨ (b = (9, k, 0) ∧ j ≤ l ∧ l < 6) ∨ (b = (11, k, 0) ∧ j ≤ l ∧ l < 6) then none else R b l
section
variable {k i j : Nat} {R : eb_A → Nat → Option eb_A}
theorem vR_1 (h5 : R (5, k, 0) i = some (6, k, i)) (h6 : ∀ l, R (6, k, i) l = none) : eb_u (eb_zR (eb_vR k i 0 R) (6, k, i) 9) (5, k, 0) i (some (6, k, i)) = eb_vR k (i + 1) 0 R := by
  funext b l
  by_cases q : b = (5, k, 0)
  · subst q
    by_cases z : l = i
    · subst z; simp [eb_u, eb_vR, h5]; omega
    · have : (i ≤ l ∧ l < 6) = (i + 1 ≤ l ∧ l < 6) := propext (by omega)
      simp only [eb_u, eb_zR, eb_vR, z, Prod.mk.injEq, Nat.reduceEqDiff, false_and, and_false, if_false, true_and, or_false, this]
  · by_cases q2 : b = (6, k, i)
    · subst q2; simp [eb_u, eb_zR, eb_vR, h6]
    · simp only [eb_u, eb_zR, eb_vR, q, q2, false_and, if_false, false_or]
theorem vR_2 (h7 : ∀ l, R (7, k, i) l = if l = 3 then some (8, k, i) else none) (h9 : R (9, k, 0) i = some (7, k, i)) (h11 : R (11, k, 0) i = some (7, k, i)) : eb_u (eb_u (eb_u (eb_zR (eb_vR k 6 i R) (7, k, i) 6) (7, k, i) 3 (some (8, k, i))) (9, k, 0) i (some (7, k, i))) (11, k, 0) i (some (7, k, i)) = eb_vR k 6 (i + 1) R := by
  funext b l
  by_cases q : b = (9, k, 0)
  · subst q
    by_cases z : l = i
    · subst z; simp [eb_u, eb_vR, h9]; omega
    · have : (i ≤ l ∧ l < 6) = (i + 1 ≤ l ∧ l < 6) := propext (by omega)
      simp only [eb_u, eb_zR, eb_vR, z, Prod.mk.injEq, Nat.reduceEqDiff, false_and, and_false, if_false, true_and, or_false, false_or, this]
  · by_cases q1 : b = (11, k, 0)
    · subst q1
      by_cases z : l = i
      · subst z; simp [eb_u, eb_vR, h11]; omega
      · have : (i ≤ l ∧ l < 6) = (i + 1 ≤ l ∧ l < 6) := propext (by omega)
        simp only [eb_u, eb_zR, eb_vR, z, Prod.mk.injEq, Nat.reduceEqDiff, false_and, and_false, if_false, true_and, or_false, false_or, this]
    · by_cases q2 : b = (7, k, i)
      · subst q2
        by_cases z : l = 3
        · subst z; simp [eb_u, eb_zR, eb_vR, h7]
        · simp [eb_u, eb_zR, eb_vR, h7, z]
      · simp only [eb_u, eb_zR, eb_vR, q, q1, q2, false_and, if_false, or_false]
theorem vR_3 : eb_vR k 6 6 R = R := by
  funext b l
  exact if_neg (fun z => by omega)
theorem vR_0 (h4 : ∀ l, R (4, k, 0) l = if l = 0 then some (5, k, 0) else if l = 1 then some (9, k, 0) else if l = 7 then some (10, k, 0) else if l = 8 then some (11, k, 0) else none) : eb_u (eb_zR (eb_u (eb_u (eb_zR (eb_u (eb_zR (eb_zR R (4, k, 0) 9) (5, k, 0) 6) (4, k, 0) 0 (some (5, k, 0))) (9, k, 0) 6) (4, k, 0) 1 (some (9, k, 0))) (4, k, 0) 7 (some (10, k, 0))) (11, k, 0) 6) (4, k, 0) 8 (some (11, k, 0)) = eb_vR k 0 0 R := by
  funext b l
  by_cases q : b = (4, k, 0)
  · subst q
    by_cases z0 : l = 0
    · subst z0; simp [eb_u, eb_zR, eb_vR, h4]
    by_cases z1 : l = 1
    · subst z1; simp [eb_u, eb_zR, eb_vR, h4]
    by_cases z7 : l = 7
    · subst z7; simp [eb_u, eb_zR, eb_vR, h4]
    by_cases z8 : l = 8
    · subst z8; simp [eb_u, eb_vR, h4]
    simp [eb_u, eb_zR, eb_vR, h4, z0, z1, z7, z8]
  · by_cases q1 : b = (5, k, 0)
    · subst q1; simp [eb_u, eb_zR, eb_vR]
    by_cases q2 : b = (9, k, 0)
    · subst q2; simp [eb_u, eb_zR, eb_vR]
    by_cases q3 : b = (11, k, 0)
    · subst q3; simp [eb_u, eb_zR, eb_vR]
    simp only [eb_u, eb_zR, eb_vR, q, q1, q2, q3, false_and, if_false, or_false]
end
section
variable {L d nc ns k b : Nat} {I : eb_A → Nat → Int32} {J : eb_A → Nat → Int64} {R : eb_A → Nat → Option eb_A} {C : Nat → Nat → Nat}
theorem x_init0 {i : Nat} (h8 : eb_nm nc = (8, k, i)) : eb_ev L (d + 2) 0 [zr (7, k, i)] (nc, ns, I, J, R) = some (zn, (nc + 1, ns + 6, eb_zI I (8, k, i), J, eb_u R (7, k, i) 3 (some (8, k, i)))) := by
  rw [h0 rfl]
  simp (decide := true) only [e0_0, e0_1, e0_4, e0_5, e0_7, e0_9, e0_12, bi_s, ↓reduceIte, Option.bind_some, true_and, and_true, Int32.reduceToNatClampNeg, tyX, h8]
theorem x_init1 {i : Nat} : eb_ev L (d + 2) 6 [zr (6, k, i)] (nc, ns, I, J, R) = some (zn, (nc, ns, I, J, R)) := by
  rw [h6 rfl]
  simp (decide := true) only [e6_0, e6_1, e6_4, bi_s, ↓reduceIte, Option.bind_some, true_and, and_true, tyX]
theorem x_init4 (hn : eb_nmV b k) (hR : ∀ a l, a.2.1 = k → 4 ≤ a.1 → a.1 ≤ 11 → R a l = eb_RL C none none a l) (hC : ∀ j, C k j = j) : ∃ I', eb_ev L (d + 3) 38 [zr (4, k, 0)] (b + 1, ns, I, J, eb_zR R (4, k, 0) 9) = some (zn, (b + 23, ns + 150, I', J, R)) ∧ (∀ a l, ¬ (a.2.1 = k ∧ 4 ≤ a.1 ∧ a.1 ≤ 11) → I' a l = I a l) ∧ ∀ l, I' (4, k, 0) l = if l = 6 then 1 else I (4, k, 0) l := by
  obtain ⟨-, n1, n2, n3, n4, n5, n6⟩ := hn
  have h4 : ∀ l, R (4, k, 0) l = if l = 0 then some (5, k, 0) else if l = 1 then some (9, k, 0) else if l = 7 then some (10, k, 0) else if l = 8 then some (11, k, 0) else none := fun l => by
    rw [hR _ _ rfl (Nat.le_of_ble_eq_true rfl) (Nat.le_of_ble_eq_true rfl)]
    rcases l with _ | _ | _ | _ | _ | _ | _ | _ | _ | l <;> rfl
  have h5 : ∀ l, R (5, k, 0) l = some (6, k, l) := fun l => hR _ _ rfl (Nat.le_of_ble_eq_true rfl) (Nat.le_of_ble_eq_true rfl)
  have h6 : ∀ i l, R (6, k, i) l = none := fun i l => hR _ _ rfl (Nat.le_of_ble_eq_true rfl) (Nat.le_of_ble_eq_true rfl)
  have h9 : ∀ l, R (9, k, 0) l = some (7, k, l) := fun l => hR _ _ rfl (Nat.le_of_ble_eq_true rfl) (Nat.le_of_ble_eq_true rfl)
  have h11 : ∀ l, R (11, k, 0) l = some (7, k, l) := fun l => by
    rw [hR _ _ rfl (Nat.le_of_ble_eq_true rfl) (Nat.le_of_ble_eq_true rfl)]
    show (if 0 = 0 then some (7, k, C k l) else none) = _
    rw [hC]; rfl
  have h7 : ∀ i l, R (7, k, i) l = if l = 3 then some (8, k, i) else none := fun i l => by
    rw [hR _ _ rfl (Nat.le_of_ble_eq_true rfl) (Nat.le_of_ble_eq_true rfl)]
    rcases l with _ | _ | _ | _ | l <;> rfl
  have hv0 := vR_0 h4
  rw [h38 rfl]
  have n2' : eb_nm (b + 1 + 1) = (9, k, 0) := n2
  have n3' : eb_nm (b + 1 + 1 + 1) = (10, k, 0) := n3
  have n4' : eb_nm (b + 1 + 1 + 1 + 1) = (11, k, 0) := n4
  simp (decide := true) only [e38_0, e38_1, e38_4, e38_5, e38_7, e38_10, e38_13, e38_14, e38_16, e38_19, e38_22, e38_23, e38_24, e38_27, e38_28, e38_30, e38_32, e38_35, e38_36, e38_38, e38_41, e38_44, e38_45, bi_s, ↓reduceIte, Option.bind_some, true_and, and_true, Int32.reduceToNatClampNeg, tyX, n1, n2', n3', n4', hv0]
  have eR : ∀ i j, R (4, k, 0) 0 = some (5, k, 0) → eb_vR k i j R (4, k, 0) 0 = some (5, k, 0) := fun i j h => by simp [eb_vR, h]
  have e0 : ∀ i j, eb_vR k i j R (4, k, 0) 0 = some (5, k, 0) := fun i j => by simp [eb_vR, h4]
  have e1 : ∀ i j, eb_vR k i j R (4, k, 0) 1 = some (9, k, 0) := fun i j => by simp [eb_vR, h4]
  have e8 : ∀ i j, eb_vR k i j R (4, k, 0) 8 = some (11, k, 0) := fun i j => by simp [eb_vR, h4]
  generalize hI0 : eb_zI (eb_u I (4, k, 0) 6 1) (10, k, 0) = I0
  have f0 : (∀ a l, ¬ (a.2.1 = k ∧ 4 ≤ a.1 ∧ a.1 ≤ 11) → I0 a l = I a l) ∧ ∀ l, I0 (4, k, 0) l = if l = 6 then 1 else I (4, k, 0) l := by
    rw [← hI0]
    refine ⟨fun a l q => ?_, fun l => ?_⟩
    · have q1 : ¬ a = (10, k, 0) := fun z => q (by rw [z]; exact ⟨rfl, Nat.le_of_ble_eq_true rfl, Nat.le_of_ble_eq_true rfl⟩)
      have q2 : ¬ a = (4, k, 0) := fun z => q (by rw [z]; exact ⟨rfl, Nat.le_of_ble_eq_true rfl, Nat.le_of_ble_eq_true rfl⟩)
      simp only [eb_zI, eb_u, q1, q2, false_and, if_false]
    · simp [eb_zI, eb_u]
  have fz : ∀ (c : eb_A) (I1 : eb_A → Nat → Int32), c.2.1 = k → 5 ≤ c.1 → c.1 ≤ 11 → ((∀ a l, ¬ (a.2.1 = k ∧ 4 ≤ a.1 ∧ a.1 ≤ 11) → I1 a l = I a l) ∧ ∀ l, I1 (4, k, 0) l = if l = 6 then 1 else I (4, k, 0) l) → (∀ a l, ¬ (a.2.1 = k ∧ 4 ≤ a.1 ∧ a.1 ≤ 11) → eb_zI I1 c a l = I a l) ∧ ∀ l, eb_zI I1 c (4, k, 0) l = if l = 6 then 1 else I (4, k, 0) l := fun c I1 c1 c2 c3 h => by
    refine ⟨fun a l q => (if_neg (fun z => q (by rw [z]; exact ⟨c1, by omega, c3⟩))).trans (h.1 a l q), fun l => (if_neg (fun z => by rw [← z] at c2; exact absurd (c2 : (5 : Nat) ≤ 4) (by decide : ¬ (5 : Nat) ≤ 4))).trans (h.2 l)⟩
  obtain ⟨T1, g, g1, g2⟩ := eb_loop (α := Nat × (eb_A → Nat → Int32)) (n := 6) (s0 := (ns + 6 + 6 + 6 + 6, I0))
    (F := fun i s => eb_E L (d + 2) 38 46 [some (zr (4, k, 0)), some (zi (nI i))] [] (b + 5 + i, s.1, s.2, J, eb_vR k i 0 R))
    (P := fun i s => s.1 = ns + 24 + 9 * i ∧ ((∀ a l, ¬ (a.2.1 = k ∧ 4 ≤ a.1 ∧ a.1 ≤ 11) → s.2 a l = I a l) ∧ ∀ l, s.2 (4, k, 0) l = if l = 6 then 1 else I (4, k, 0) l))
    ⟨rfl, f0⟩ (by
      intro i s hi hP
      obtain ⟨m, I1⟩ := s
      obtain ⟨h1, h2⟩ := hP
      have h1 : m = ns + 24 + 9 * i := h1
      have hb : (nI i < 6) = True := by rw [show (6 : Int32) = nI 6 from rfl, nI_lt_b (by omega) (by omega)]; exact eq_true hi
      have nn := n5 i hi
      have ev := fun R' => x_init1 (L := L) (d := d) (nc := b + 5 + i + 1) (ns := m + 9) (I := eb_zI I1 (6, k, i)) (J := J) (R := R') (k := k) (i := i)
      have rv := vR_1 (k := k) (i := i) (R := R) (h5 i) (h6 i)
      rw [e38_46]
      simp (decide := true) (disch := omega) only [e38_47, e38_49, e38_52, e38_53, e38_56, e38_57, e38_60a, e38_60b, e38_61, e38_64, e38_65, e38_68, bi_s, tyX, rl1, rl2, rl4, ↓reduceIte, Option.bind_some, true_and, and_true, false_and, and_false, true_or, or_true, false_or, or_false, if_same0, ite_eq0, ite_eq0', ite_eq1, ite_eq1', or_em, or_em', ite_not, lcmp0, lcmpL, lcmpG, nI_cl_b, eb_in_b, nI_1, nI_pred, Int32.reduceToNatClampNeg, eb_u_ap, Prod.mk.injEq, not_true_eq_false, not_false_eq_true, sp_rg, sp_iI, sp_iG, sp_iS, hb, e0, nn, ev, rv]
      exact ⟨(m + 9, eb_zI I1 (6, k, i)), rfl, (by show m + 9 = ns + 24 + 9 * (i + 1); omega), fz (6, k, i) I1 rfl (Nat.le_of_ble_eq_true rfl) (Nat.le_of_ble_eq_true rfl) h2⟩)
  obtain ⟨m1, I1⟩ := T1
  have g1 : m1 = ns + 24 + 9 * 6 := g1
  simp only [nI_0] at g
  have hb6 : (nI 6 < 6) = False := by decide
  rw [show b + 4 + 1 = b + 5 + 0 from rfl, g, e38_46]
  simp (decide := true) (disch := omega) only [e38_47, e38_49, e38_52, e38_53, e38_56, e38_57, e38_60a, e38_60b, e38_61, e38_64, e38_65, e38_68, e38_71, e38_72, bi_s, tyX, rl1, rl2, rl4, ↓reduceIte, Option.bind_some, true_and, and_true, false_and, and_false, true_or, or_true, false_or, or_false, if_same0, ite_eq0, ite_eq0', ite_eq1, ite_eq1', or_em, or_em', ite_not, lcmp0, lcmpL, lcmpG, nI_cl_b, eb_in_b, nI_1, nI_pred, Int32.reduceToNatClampNeg, eb_u_ap, Prod.mk.injEq, not_true_eq_false, not_false_eq_true, sp_rg, sp_iI, sp_iG, sp_iS, hb6]
  obtain ⟨T2, q, q1, q2⟩ := eb_loop (α := Nat × (eb_A → Nat → Int32)) (n := 6) (s0 := (m1, I1))
    (F := fun i s => eb_E L (d + 2) 38 73 [some (zr (4, k, 0)), some (zi (nI i))] [] (b + 11 + 2 * i, s.1, s.2, J, eb_vR k 6 i R))
    (P := fun i s => s.1 = ns + 78 + 12 * i ∧ ((∀ a l, ¬ (a.2.1 = k ∧ 4 ≤ a.1 ∧ a.1 ≤ 11) → s.2 a l = I a l) ∧ ∀ l, s.2 (4, k, 0) l = if l = 6 then 1 else I (4, k, 0) l))
    ⟨by omega, g2⟩ (by
      intro i s hi hP
      obtain ⟨m, I1⟩ := s
      obtain ⟨h1, h2⟩ := hP
      have h1 : m = ns + 78 + 12 * i := h1
      have hb : (nI i < 6) = True := by rw [show (6 : Int32) = nI 6 from rfl, nI_lt_b (by omega) (by omega)]; exact eq_true hi
      obtain ⟨nn, nn2⟩ := n6 i hi
      have ev := fun R' => x_init0 (L := L) (d := d) (nc := b + 11 + 2 * i + 1) (ns := m + 6) (I := eb_zI I1 (7, k, i)) (J := J) (R := R') (k := k) (i := i) nn2
      have rv := vR_2 (k := k) (i := i) (R := R) (h7 i) (h9 i) (h11 i)
      have hs : nI i + 1 = nI (i + 1) := nI_add i 1
      have x1 : ∀ x : Option eb_A, eb_u (eb_zR (eb_vR k 6 i R) (7, k, i) 6) (7, k, i) 3 x (4, k, 0) 1 = some (9, k, 0) := fun x => by simp [eb_u, eb_zR, e1]
      have x8 : ∀ x y : Option eb_A, eb_u (eb_u (eb_zR (eb_vR k 6 i R) (7, k, i) 6) (7, k, i) 3 x) (9, k, 0) i y (4, k, 0) 8 = some (11, k, 0) := fun x y => by simp [eb_u, eb_zR, e8]
      have x9 : ∀ x y : Option eb_A, eb_u (eb_u (eb_zR (eb_vR k 6 i R) (7, k, i) 6) (7, k, i) 3 x) (9, k, 0) i y (4, k, 0) 1 = some (9, k, 0) := fun x y => by simp [eb_u, eb_zR, e1]
      have x99 : ∀ x y : Option eb_A, eb_u (eb_u (eb_zR (eb_vR k 6 i R) (7, k, i) 6) (7, k, i) 3 x) (9, k, 0) i y (9, k, 0) i = y := fun x y => eb_u_s
      rw [e38_73]
      simp (decide := true) (disch := omega) only [e38_74, e38_76, e38_79, e38_80, e38_83, e38_84, e38_87a, e38_87b, e38_88, e38_91, e38_92, e38_93, e38_96, e38_97, e38_98, e38_101, e38_102, e38_103, e38_104, e38_107, bi_s, tyX, ↓reduceIte, Option.bind_some, true_and, and_true, nI_cl_b, eb_in_b, hb, e1, nn, ev, x1, x8, x9, x99, rv, hs]
      exact ⟨(m + 6 + 6, eb_zI (eb_zI I1 (7, k, i)) (8, k, i)), rfl, (by show m + 6 + 6 = ns + 78 + 12 * (i + 1); omega), fz (8, k, i) _ rfl (Nat.le_of_ble_eq_true rfl) (Nat.le_of_ble_eq_true rfl) (fz (7, k, i) I1 rfl (Nat.le_of_ble_eq_true rfl) (Nat.le_of_ble_eq_true rfl) h2)⟩)
  obtain ⟨m2, I2⟩ := T2
  have q1 : m2 = ns + 78 + 12 * 6 := q1
  simp only [nI_0] at q
  rw [show b + 5 + 6 = b + 11 + 2 * 0 from rfl, q, e38_73, vR_3]
  simp (decide := true) (disch := omega) only [e38_74, e38_76, e38_79, e38_80, e38_83, e38_84, e38_87a, e38_87b, e38_88, e38_91, e38_92, e38_93, e38_96, e38_97, e38_98, e38_101, e38_102, e38_103, e38_104, e38_107, e38_110, bi_s, tyX, rl1, rl2, rl4, ↓reduceIte, Option.bind_some, true_and, and_true, false_and, and_false, true_or, or_true, false_or, or_false, if_same0, ite_eq0, ite_eq0', ite_eq1, ite_eq1', or_em, or_em', ite_not, lcmp0, lcmpL, lcmpG, nI_cl_b, eb_in_b, nI_1, nI_pred, Int32.reduceToNatClampNeg, eb_u_ap, Prod.mk.injEq, not_true_eq_false, not_false_eq_true, sp_rg, sp_iI, sp_iG, sp_iS, hb6]
  exact ⟨I2, by rw [q1], q2⟩
end

/-! a model is made -/
/-- R is R' but in a model's own fields that aren't set yet -/
def eb_Ag (r : Nat) (U : List Nat) (R R' : eb_A → Nat → Option eb_A) : Prop := ∀ b l, R b l = R' b l ∨ (b = (21, r, 0) ∧ l < 34 ∧ ¬ l ∈ U ∧ R b l = none)
theorem ag_0 {r : Nat} {R' : eb_A → Nat → Option eb_A} : eb_Ag r [] (eb_zR R' (21, r, 0) 34) R' := fun b l => by
  by_cases q : b = (21, r, 0) ∧ l < 34
  · exact Or.inr ⟨q.1, q.2, List.not_mem_nil, if_pos q⟩
  · exact Or.inl (if_neg q)
theorem ag_u {r j : Nat} {U : List Nat} {R R' : eb_A → Nat → Option eb_A} {x : Option eb_A} (h : eb_Ag r U R R') (hx : R' (21, r, 0) j = x) : eb_Ag r (j :: U) (eb_u R (21, r, 0) j x) R' := fun b l => by
  by_cases q : b = (21, r, 0) ∧ l = j
  · left
    obtain ⟨q1, q2⟩ := q
    subst q1
    subst q2
    rw [hx]; exact eb_u_s
  · have e : eb_u R (21, r, 0) j x b l = R b l := if_neg q
    rw [e]
    rcases h b l with z | ⟨z1, z2, z3, z4⟩
    · exact Or.inl z
    · exact Or.inr ⟨z1, z2, fun hm => (List.mem_cons.mp hm).elim (fun y => q ⟨z1, y⟩) z3, z4⟩
theorem ag_v {r j : Nat} {U : List Nat} {R R' : eb_A → Nat → Option eb_A} {a : eb_A} {x : Option eb_A} (h : eb_Ag r U R R') (hx : R' a j = x) : eb_Ag r U (eb_u R a j x) R' := fun b l => by
  by_cases q : b = a ∧ l = j
  · left
    obtain ⟨q1, q2⟩ := q
    subst q1
    subst q2
    rw [hx]; exact eb_u_s
  · have e : eb_u R a j x b l = R b l := if_neg q
    rw [e]
    exact h b l
theorem ag_us {r : Nat} {U : List Nat} {R R' : eb_A → Nat → Option eb_A} {a : eb_A} {k : Nat} : ∀ {n : Nat}, eb_Ag r U R R' → (∀ i, i < n → R' a i = some (eb_nm (k + i))) → eb_Ag r U (eb_uRs R a k n) R' := by
  intro n
  induction n with
  | zero => exact fun h _ => h
  | succ n ih => exact fun h hx => ag_v (ih h (fun i hi => hx i (by omega))) (hx n (by omega))
/-- rows and rows of rows zeroed -/
theorem zIs_ap {I : eb_A → Nat → Int32} {k : Nat} {a : eb_A} : ∀ {n : Nat}, (∀ i, i < n → ¬ a = eb_nm (k + i)) → ∀ l, eb_zIs I k n a l = I a l := by
  intro n
  induction n with
  | zero => exact fun _ _ => rfl
  | succ n ih =>
    intro h l
    show (if a = eb_nm (k + n) then 0 else eb_zIs I k n a l) = I a l
    rw [if_neg (h n (by omega))]
    exact ih (fun i hi => h i (by omega)) l
theorem zJs_ap {I : eb_A → Nat → Int64} {k : Nat} {a : eb_A} : ∀ {n : Nat}, (∀ i, i < n → ¬ a = eb_nm (k + i)) → ∀ l, eb_zJs I k n a l = I a l := by
  intro n
  induction n with
  | zero => exact fun _ _ => rfl
  | succ n ih =>
    intro h l
    show (if a = eb_nm (k + n) then 0 else eb_zJs I k n a l) = I a l
    rw [if_neg (h n (by omega))]
    exact ih (fun i hi => h i (by omega)) l
theorem zI_ap {I : eb_A → Nat → Int32} {a b : eb_A} {l : Nat} : eb_zI I b a l = if a = b then 0 else I a l := rfl
theorem zJ_ap {I : eb_A → Nat → Int64} {a b : eb_A} {l : Nat} : eb_zJ I b a l = if a = b then 0 else I a l := rfl

theorem nmM0 : eb_nm 91 = (21, 0, 0) ∧ eb_nm 92 = (22, 0, 0) ∧ eb_nm 93 = (23, 0, 0) ∧ eb_nm 94 = (24, 0, 0) ∧ eb_nm 95 = (25, 0, 0) ∧ eb_nm 96 = (26, 0, 0) ∧ eb_nm 97 = (26, 0, 1) ∧ eb_nm 98 = (26, 0, 2) ∧ eb_nm 99 = (26, 0, 3) ∧ eb_nm 100 = (26, 0, 4) ∧ eb_nm 101 = (26, 0, 5) ∧ eb_nm 102 = (26, 0, 6) ∧ eb_nm 103 = (26, 0, 7) ∧ eb_nm 104 = (27, 0, 0) ∧ eb_nm 105 = (28, 0, 0) ∧ eb_nm 106 = (29, 0, 0) ∧ eb_nm 107 = (30, 0, 0) ∧ eb_nm 108 = (31, 0, 0) ∧ eb_nm 109 = (32, 0, 0) ∧ eb_nm 110 = (32, 0, 1) ∧ eb_nm 111 = (32, 0, 2) ∧ eb_nm 112 = (32, 0, 3) ∧ eb_nm 113 = (32, 0, 4) ∧ eb_nm 114 = (32, 0, 5) ∧ eb_nm 115 = (33, 0, 0) ∧ eb_nm 116 = (34, 0, 0) ∧ eb_nm 117 = (34, 0, 1) ∧ eb_nm 118 = (34, 0, 2) ∧ eb_nm 119 = (34, 0, 3) ∧ eb_nm 120 = (34, 0, 4) ∧ eb_nm 121 = (34, 0, 5) ∧ eb_nm 122 = (35, 0, 0) ∧ eb_nm 123 = (36, 0, 0) ∧ eb_nm 124 = (37, 0, 0) ∧ eb_nm 125 = (37, 0, 1) ∧ eb_nm 126 = (37, 0, 2) ∧ eb_nm 127 = (37, 0, 3) ∧ eb_nm 128 = (37, 0, 4) ∧ eb_nm 129 = (37, 0, 5) ∧ eb_nm 130 = (38, 0, 0) ∧ eb_nm 131 = (39, 0, 0) ∧ eb_nm 132 = (40, 0, 0) ∧ eb_nm 133 = (41, 0, 0) ∧ eb_nm 134 = (42, 0, 0) ∧ eb_nm 135 = (43, 0, 0) := ⟨rfl, rfl, rfl, rfl, rfl, rfl, rfl, rfl, rfl, rfl, rfl, rfl, rfl, rfl, rfl, rfl, rfl, rfl, rfl, rfl, rfl, rfl, rfl, rfl, rfl, rfl, rfl, rfl, rfl, rfl, rfl, rfl, rfl, rfl, rfl, rfl, rfl, rfl, rfl, rfl, rfl, rfl, rfl, rfl, rfl⟩
theorem all0_4 {L : Nat} : ((List.range 8).all (fun i => decide (eb_ty L (eb_nm (96 + i)).1 = (11, 40)))) = true := rfl
theorem all0_17 {L : Nat} : ((List.range 6).all (fun i => decide (eb_ty L (eb_nm (109 + i)).1 = (10, 7)))) = true := rfl
theorem all0_24 {L : Nat} : ((List.range 6).all (fun i => decide (eb_ty L (eb_nm (116 + i)).1 = (10, 3)))) = true := rfl
theorem all0_32 {L : Nat} : ((List.range 6).all (fun i => decide (eb_ty L (eb_nm (124 + i)).1 = (10, 6)))) = true := rfl
theorem nmM1 : eb_nm 136 = (21, 1, 0) ∧ eb_nm 137 = (22, 1, 0) ∧ eb_nm 138 = (23, 1, 0) ∧ eb_nm 139 = (24, 1, 0) ∧ eb_nm 140 = (25, 1, 0) ∧ eb_nm 141 = (26, 1, 0) ∧ eb_nm 142 = (26, 1, 1) ∧ eb_nm 143 = (26, 1, 2) ∧ eb_nm 144 = (26, 1, 3) ∧ eb_nm 145 = (26, 1, 4) ∧ eb_nm 146 = (26, 1, 5) ∧ eb_nm 147 = (26, 1, 6) ∧ eb_nm 148 = (26, 1, 7) ∧ eb_nm 149 = (27, 1, 0) ∧ eb_nm 150 = (28, 1, 0) ∧ eb_nm 151 = (29, 1, 0) ∧ eb_nm 152 = (30, 1, 0) ∧ eb_nm 153 = (31, 1, 0) ∧ eb_nm 154 = (32, 1, 0) ∧ eb_nm 155 = (32, 1, 1) ∧ eb_nm 156 = (32, 1, 2) ∧ eb_nm 157 = (32, 1, 3) ∧ eb_nm 158 = (32, 1, 4) ∧ eb_nm 159 = (32, 1, 5) ∧ eb_nm 160 = (33, 1, 0) ∧ eb_nm 161 = (34, 1, 0) ∧ eb_nm 162 = (34, 1, 1) ∧ eb_nm 163 = (34, 1, 2) ∧ eb_nm 164 = (34, 1, 3) ∧ eb_nm 165 = (34, 1, 4) ∧ eb_nm 166 = (34, 1, 5) ∧ eb_nm 167 = (35, 1, 0) ∧ eb_nm 168 = (36, 1, 0) ∧ eb_nm 169 = (37, 1, 0) ∧ eb_nm 170 = (37, 1, 1) ∧ eb_nm 171 = (37, 1, 2) ∧ eb_nm 172 = (37, 1, 3) ∧ eb_nm 173 = (37, 1, 4) ∧ eb_nm 174 = (37, 1, 5) ∧ eb_nm 175 = (38, 1, 0) ∧ eb_nm 176 = (39, 1, 0) ∧ eb_nm 177 = (40, 1, 0) ∧ eb_nm 178 = (41, 1, 0) ∧ eb_nm 179 = (42, 1, 0) ∧ eb_nm 180 = (43, 1, 0) := ⟨rfl, rfl, rfl, rfl, rfl, rfl, rfl, rfl, rfl, rfl, rfl, rfl, rfl, rfl, rfl, rfl, rfl, rfl, rfl, rfl, rfl, rfl, rfl, rfl, rfl, rfl, rfl, rfl, rfl, rfl, rfl, rfl, rfl, rfl, rfl, rfl, rfl, rfl, rfl, rfl, rfl, rfl, rfl, rfl, rfl⟩
theorem all1_4 {L : Nat} : ((List.range 8).all (fun i => decide (eb_ty L (eb_nm (141 + i)).1 = (11, 40)))) = true := rfl
theorem all1_17 {L : Nat} : ((List.range 6).all (fun i => decide (eb_ty L (eb_nm (154 + i)).1 = (10, 7)))) = true := rfl
theorem all1_24 {L : Nat} : ((List.range 6).all (fun i => decide (eb_ty L (eb_nm (161 + i)).1 = (10, 3)))) = true := rfl
theorem all1_32 {L : Nat} : ((List.range 6).all (fun i => decide (eb_ty L (eb_nm (169 + i)).1 = (10, 6)))) = true := rfl
theorem nmM2 : eb_nm 181 = (21, 2, 0) ∧ eb_nm 182 = (22, 2, 0) ∧ eb_nm 183 = (23, 2, 0) ∧ eb_nm 184 = (24, 2, 0) ∧ eb_nm 185 = (25, 2, 0) ∧ eb_nm 186 = (26, 2, 0) ∧ eb_nm 187 = (26, 2, 1) ∧ eb_nm 188 = (26, 2, 2) ∧ eb_nm 189 = (26, 2, 3) ∧ eb_nm 190 = (26, 2, 4) ∧ eb_nm 191 = (26, 2, 5) ∧ eb_nm 192 = (26, 2, 6) ∧ eb_nm 193 = (26, 2, 7) ∧ eb_nm 194 = (27, 2, 0) ∧ eb_nm 195 = (28, 2, 0) ∧ eb_nm 196 = (29, 2, 0) ∧ eb_nm 197 = (30, 2, 0) ∧ eb_nm 198 = (31, 2, 0) ∧ eb_nm 199 = (32, 2, 0) ∧ eb_nm 200 = (32, 2, 1) ∧ eb_nm 201 = (32, 2, 2) ∧ eb_nm 202 = (32, 2, 3) ∧ eb_nm 203 = (32, 2, 4) ∧ eb_nm 204 = (32, 2, 5) ∧ eb_nm 205 = (33, 2, 0) ∧ eb_nm 206 = (34, 2, 0) ∧ eb_nm 207 = (34, 2, 1) ∧ eb_nm 208 = (34, 2, 2) ∧ eb_nm 209 = (34, 2, 3) ∧ eb_nm 210 = (34, 2, 4) ∧ eb_nm 211 = (34, 2, 5) ∧ eb_nm 212 = (35, 2, 0) ∧ eb_nm 213 = (36, 2, 0) ∧ eb_nm 214 = (37, 2, 0) ∧ eb_nm 215 = (37, 2, 1) ∧ eb_nm 216 = (37, 2, 2) ∧ eb_nm 217 = (37, 2, 3) ∧ eb_nm 218 = (37, 2, 4) ∧ eb_nm 219 = (37, 2, 5) ∧ eb_nm 220 = (38, 2, 0) ∧ eb_nm 221 = (39, 2, 0) ∧ eb_nm 222 = (40, 2, 0) ∧ eb_nm 223 = (41, 2, 0) ∧ eb_nm 224 = (42, 2, 0) ∧ eb_nm 225 = (43, 2, 0) := ⟨rfl, rfl, rfl, rfl, rfl, rfl, rfl, rfl, rfl, rfl, rfl, rfl, rfl, rfl, rfl, rfl, rfl, rfl, rfl, rfl, rfl, rfl, rfl, rfl, rfl, rfl, rfl, rfl, rfl, rfl, rfl, rfl, rfl, rfl, rfl, rfl, rfl, rfl, rfl, rfl, rfl, rfl, rfl, rfl, rfl⟩
theorem all2_4 {L : Nat} : ((List.range 8).all (fun i => decide (eb_ty L (eb_nm (186 + i)).1 = (11, 40)))) = true := rfl
theorem all2_17 {L : Nat} : ((List.range 6).all (fun i => decide (eb_ty L (eb_nm (199 + i)).1 = (10, 7)))) = true := rfl
theorem all2_24 {L : Nat} : ((List.range 6).all (fun i => decide (eb_ty L (eb_nm (206 + i)).1 = (10, 3)))) = true := rfl
theorem all2_32 {L : Nat} : ((List.range 6).all (fun i => decide (eb_ty L (eb_nm (214 + i)).1 = (10, 6)))) = true := rfl
theorem ag_eq {r : Nat} (U : List Nat) {R R' : eb_A → Nat → Option eb_A} (h : eb_Ag r U R R') (hP : ∀ l, l < 34 → ¬ l ∈ U → R' (21, r, 0) l = none) : R = R' := by
  funext b l
  rcases h b l with q | ⟨rfl, q2, q3, q4⟩
  · exact q
  · rw [q4, hP l q2 q3]
theorem fin_i {n m m' : Nat} {I : eb_A → Nat → Int32} {J : eb_A → Nat → Int64} {R R' : eb_A → Nat → Option eb_A} (h : m = m') (hR : R = R') : (some (zn, (n, m, I, J, R)) : Option eb_R) = some (zn, (n, m', I, J, R')) := by rw [h, hR]
section
variable {L d ns : Nat} {I : eb_A → Nat → Int32} {J : eb_A → Nat → Int64} {C : Nat → Nat → Nat} {mt mk : Option Nat}
theorem nmk0_4 : ∀ i, i < 8 → eb_nm (96 + i) = (26, 0, i) := by decide
theorem nmk0_17 : ∀ i, i < 6 → eb_nm (109 + i) = (32, 0, i) := by decide
theorem nmk0_24 : ∀ i, i < 6 → eb_nm (116 + i) = (34, 0, i) := by decide
theorem nmk0_32 : ∀ i, i < 6 → eb_nm (124 + i) = (37, 0, i) := by decide
theorem m_init0 (h1 : mt = none) (h2 : mk = none) : ∃ I' J', eb_ev L (d + 2) 144 [zr (21, 0, 0)] (92, ns, I, J, eb_zR (eb_RL C mt mk) (21, 0, 0) 34) = some (zn, (136, ns + 808, I', J', eb_RL C mt mk)) ∧ (∀ a l, ¬ (a.2.1 = 0 ∧ 21 ≤ a.1) → I' a l = I a l ∧ J' a l = J a l) ∧ (∀ l, I' (21, 0, 0) l = if l = 15 then 1 else I (21, 0, 0) l) ∧ ∀ l, I' (22, 0, 0) l = 0 ∧ I' (30, 0, 0) l = 0 := by
  subst h1
  subst h2
  rw [h144 rfl]
  simp (decide := true) only [e144_0, e144_1, e144_4, e144_5, e144_7, e144_9, e144_12, e144_13, e144_15, e144_17, e144_20, e144_21, e144_23, e144_25, e144_28, e144_29, e144_31, e144_33, e144_37, e144_40, e144_41, e144_43, e144_45, e144_48, e144_49, e144_51, e144_53, e144_56, e144_57, e144_60, e144_62, e144_65, e144_66, e144_68, e144_70, e144_73, e144_74, e144_76, e144_78, e144_82, e144_85, e144_86, e144_88, e144_89, e144_93, e144_96, e144_97, e144_98, e144_101, e144_102, e144_103, e144_105, e144_108, e144_109, e144_111, e144_113, e144_117, e144_120, e144_121, e144_123, e144_125, e144_128, e144_129, e144_131, e144_133, e144_136, e144_137, e144_139, e144_141, e144_144, e144_145, e144_147, e144_149, e144_152, e144_153, e144_155, e144_157, e144_160, e144_161, e144_162, e144_164, e144_167, bi_s, ↓reduceIte, Option.bind_some, true_and, and_true, Int32.reduceToNatClampNeg, tyM, nmM0, all0_4, all0_17, all0_24, all0_32, Nat.reduceAdd, Nat.reduceMul, Nat.reduceEqDiff, Nat.reduceLT, Nat.reduceLeDiff, Nat.lt_irrefl]
  refine ⟨_, _, fin_i (by omega) ?_, fun a l h => ?_, fun l => ?_, fun l => ?_⟩
  · refine ag_eq (r := 0) [33, 31, 30, 28, 27, 26, 25, 23, 12, 10, 8, 6, 5, 4, 3, 2, 1, 0] ?_ (fun l hl hP => ?_)
    · (repeat (first | exact ag_0 | refine ag_u ?_ rfl | refine ag_us ?_ (fun i hi => by (repeat (first | omega | (rcases i with _ | i; rfl))))))
    · rcases (show l = 0 ∨ l = 1 ∨ l = 2 ∨ l = 3 ∨ l = 4 ∨ l = 5 ∨ l = 6 ∨ l = 7 ∨ l = 8 ∨ l = 9 ∨ l = 10 ∨ l = 11 ∨ l = 12 ∨ l = 13 ∨ l = 14 ∨ l = 15 ∨ l = 16 ∨ l = 17 ∨ l = 18 ∨ l = 19 ∨ l = 20 ∨ l = 21 ∨ l = 22 ∨ l = 23 ∨ l = 24 ∨ l = 25 ∨ l = 26 ∨ l = 27 ∨ l = 28 ∨ l = 29 ∨ l = 30 ∨ l = 31 ∨ l = 32 ∨ l = 33 by omega) with rfl | rfl | rfl | rfl | rfl | rfl | rfl | rfl | rfl | rfl | rfl | rfl | rfl | rfl | rfl | rfl | rfl | rfl | rfl | rfl | rfl | rfl | rfl | rfl | rfl | rfl | rfl | rfl | rfl | rfl | rfl | rfl | rfl | rfl <;> first | rfl | (exfalso; simp at hP; done)
  · have hne : ∀ b : eb_A, b.2.1 = 0 → 21 ≤ b.1 → ¬ a = b := fun b q1 q2 q3 => h (by rw [q3]; exact ⟨q1, q2⟩)
    constructor
    · simp only [zI_ap, eb_u_ap, if_neg (hne (22, 0, 0) rfl (Nat.le_of_ble_eq_true rfl)), if_neg (hne (23, 0, 0) rfl (Nat.le_of_ble_eq_true rfl)), if_neg (hne (24, 0, 0) rfl (Nat.le_of_ble_eq_true rfl)), if_neg (hne (28, 0, 0) rfl (Nat.le_of_ble_eq_true rfl)), if_neg (hne (29, 0, 0) rfl (Nat.le_of_ble_eq_true rfl)), if_neg (hne (30, 0, 0) rfl (Nat.le_of_ble_eq_true rfl)), if_neg (hne (35, 0, 0) rfl (Nat.le_of_ble_eq_true rfl)), if_neg (hne (38, 0, 0) rfl (Nat.le_of_ble_eq_true rfl)), if_neg (hne (39, 0, 0) rfl (Nat.le_of_ble_eq_true rfl)), if_neg (hne (40, 0, 0) rfl (Nat.le_of_ble_eq_true rfl)), if_neg (hne (41, 0, 0) rfl (Nat.le_of_ble_eq_true rfl)), if_neg (hne (42, 0, 0) rfl (Nat.le_of_ble_eq_true rfl)), if_neg (hne (43, 0, 0) rfl (Nat.le_of_ble_eq_true rfl)), if_neg (hne (27, 0, 0) rfl (Nat.le_of_ble_eq_true rfl)), if_neg (hne (21, 0, 0) rfl (Nat.le_of_ble_eq_true rfl)), if_neg (fun z : a = (21, 0, 0) ∧ l = 15 => hne (21, 0, 0) rfl (Nat.le_of_ble_eq_true rfl) z.1), zIs_ap (k := 109) (n := 6) (a := a) (fun i hi => by rw [nmk0_17 i hi]; exact hne _ rfl (Nat.le_of_ble_eq_true rfl)), zIs_ap (k := 116) (n := 6) (a := a) (fun i hi => by rw [nmk0_24 i hi]; exact hne _ rfl (Nat.le_of_ble_eq_true rfl)), zIs_ap (k := 124) (n := 6) (a := a) (fun i hi => by rw [nmk0_32 i hi]; exact hne _ rfl (Nat.le_of_ble_eq_true rfl))]
    · simp only [zJ_ap, if_neg (hne (22, 0, 0) rfl (Nat.le_of_ble_eq_true rfl)), if_neg (hne (23, 0, 0) rfl (Nat.le_of_ble_eq_true rfl)), if_neg (hne (24, 0, 0) rfl (Nat.le_of_ble_eq_true rfl)), if_neg (hne (28, 0, 0) rfl (Nat.le_of_ble_eq_true rfl)), if_neg (hne (29, 0, 0) rfl (Nat.le_of_ble_eq_true rfl)), if_neg (hne (30, 0, 0) rfl (Nat.le_of_ble_eq_true rfl)), if_neg (hne (35, 0, 0) rfl (Nat.le_of_ble_eq_true rfl)), if_neg (hne (38, 0, 0) rfl (Nat.le_of_ble_eq_true rfl)), if_neg (hne (39, 0, 0) rfl (Nat.le_of_ble_eq_true rfl)), if_neg (hne (40, 0, 0) rfl (Nat.le_of_ble_eq_true rfl)), if_neg (hne (41, 0, 0) rfl (Nat.le_of_ble_eq_true rfl)), if_neg (hne (42, 0, 0) rfl (Nat.le_of_ble_eq_true rfl)), if_neg (hne (43, 0, 0) rfl (Nat.le_of_ble_eq_true rfl)), if_neg (hne (27, 0, 0) rfl (Nat.le_of_ble_eq_true rfl)), if_neg (hne (21, 0, 0) rfl (Nat.le_of_ble_eq_true rfl)), zJs_ap (k := 96) (n := 8) (a := a) (fun i hi => by rw [nmk0_4 i hi]; exact hne _ rfl (Nat.le_of_ble_eq_true rfl))]
  · simp only [zI_ap, eb_u_ap, Prod.mk.injEq, Nat.reduceEqDiff, false_and, if_false, true_and, zIs_ap (k := 109) (n := 6) (a := (21, 0, 0)) (fun i hi => by rw [nmk0_17 i hi]; simp), zIs_ap (k := 116) (n := 6) (a := (21, 0, 0)) (fun i hi => by rw [nmk0_24 i hi]; simp), zIs_ap (k := 124) (n := 6) (a := (21, 0, 0)) (fun i hi => by rw [nmk0_32 i hi]; simp)]
  · constructor
    · simp only [zI_ap, eb_u_ap, Prod.mk.injEq, Nat.reduceEqDiff, false_and, if_false, true_and, if_true, zIs_ap (k := 109) (n := 6) (a := (22, 0, 0)) (fun i hi => by rw [nmk0_17 i hi]; simp), zIs_ap (k := 116) (n := 6) (a := (22, 0, 0)) (fun i hi => by rw [nmk0_24 i hi]; simp), zIs_ap (k := 124) (n := 6) (a := (22, 0, 0)) (fun i hi => by rw [nmk0_32 i hi]; simp)]
    · simp only [zI_ap, eb_u_ap, Prod.mk.injEq, Nat.reduceEqDiff, false_and, if_false, true_and, if_true, zIs_ap (k := 109) (n := 6) (a := (30, 0, 0)) (fun i hi => by rw [nmk0_17 i hi]; simp), zIs_ap (k := 116) (n := 6) (a := (30, 0, 0)) (fun i hi => by rw [nmk0_24 i hi]; simp), zIs_ap (k := 124) (n := 6) (a := (30, 0, 0)) (fun i hi => by rw [nmk0_32 i hi]; simp)]
theorem nmk1_4 : ∀ i, i < 8 → eb_nm (141 + i) = (26, 1, i) := by decide
theorem nmk1_17 : ∀ i, i < 6 → eb_nm (154 + i) = (32, 1, i) := by decide
theorem nmk1_24 : ∀ i, i < 6 → eb_nm (161 + i) = (34, 1, i) := by decide
theorem nmk1_32 : ∀ i, i < 6 → eb_nm (169 + i) = (37, 1, i) := by decide
theorem m_init1 : ∃ I' J', eb_ev L (d + 2) 144 [zr (21, 1, 0)] (137, ns, I, J, eb_zR (eb_RL C mt mk) (21, 1, 0) 34) = some (zn, (181, ns + 808, I', J', eb_RL C mt mk)) ∧ (∀ a l, ¬ (a.2.1 = 1 ∧ 21 ≤ a.1) → I' a l = I a l ∧ J' a l = J a l) ∧ (∀ l, I' (21, 1, 0) l = if l = 15 then 1 else I (21, 1, 0) l) ∧ ∀ l, I' (22, 1, 0) l = 0 ∧ I' (30, 1, 0) l = 0 := by
  rw [h144 rfl]
  simp (decide := true) only [e144_0, e144_1, e144_4, e144_5, e144_7, e144_9, e144_12, e144_13, e144_15, e144_17, e144_20, e144_21, e144_23, e144_25, e144_28, e144_29, e144_31, e144_33, e144_37, e144_40, e144_41, e144_43, e144_45, e144_48, e144_49, e144_51, e144_53, e144_56, e144_57, e144_60, e144_62, e144_65, e144_66, e144_68, e144_70, e144_73, e144_74, e144_76, e144_78, e144_82, e144_85, e144_86, e144_88, e144_89, e144_93, e144_96, e144_97, e144_98, e144_101, e144_102, e144_103, e144_105, e144_108, e144_109, e144_111, e144_113, e144_117, e144_120, e144_121, e144_123, e144_125, e144_128, e144_129, e144_131, e144_133, e144_136, e144_137, e144_139, e144_141, e144_144, e144_145, e144_147, e144_149, e144_152, e144_153, e144_155, e144_157, e144_160, e144_161, e144_162, e144_164, e144_167, bi_s, ↓reduceIte, Option.bind_some, true_and, and_true, Int32.reduceToNatClampNeg, tyM, nmM1, all1_4, all1_17, all1_24, all1_32, Nat.reduceAdd, Nat.reduceMul, Nat.reduceEqDiff, Nat.reduceLT, Nat.reduceLeDiff, Nat.lt_irrefl]
  refine ⟨_, _, fin_i (by omega) ?_, fun a l h => ?_, fun l => ?_, fun l => ?_⟩
  · refine ag_eq (r := 1) [33, 31, 30, 28, 27, 26, 25, 23, 12, 10, 8, 6, 5, 4, 3, 2, 1, 0] ?_ (fun l hl hP => ?_)
    · (repeat (first | exact ag_0 | refine ag_u ?_ rfl | refine ag_us ?_ (fun i hi => by (repeat (first | omega | (rcases i with _ | i; rfl))))))
    · rcases (show l = 0 ∨ l = 1 ∨ l = 2 ∨ l = 3 ∨ l = 4 ∨ l = 5 ∨ l = 6 ∨ l = 7 ∨ l = 8 ∨ l = 9 ∨ l = 10 ∨ l = 11 ∨ l = 12 ∨ l = 13 ∨ l = 14 ∨ l = 15 ∨ l = 16 ∨ l = 17 ∨ l = 18 ∨ l = 19 ∨ l = 20 ∨ l = 21 ∨ l = 22 ∨ l = 23 ∨ l = 24 ∨ l = 25 ∨ l = 26 ∨ l = 27 ∨ l = 28 ∨ l = 29 ∨ l = 30 ∨ l = 31 ∨ l = 32 ∨ l = 33 by omega) with rfl | rfl | rfl | rfl | rfl | rfl | rfl | rfl | rfl | rfl | rfl | rfl | rfl | rfl | rfl | rfl | rfl | rfl | rfl | rfl | rfl | rfl | rfl | rfl | rfl | rfl | rfl | rfl | rfl | rfl | rfl | rfl | rfl | rfl <;> first | rfl | (exfalso; simp at hP; done)
  · have hne : ∀ b : eb_A, b.2.1 = 1 → 21 ≤ b.1 → ¬ a = b := fun b q1 q2 q3 => h (by rw [q3]; exact ⟨q1, q2⟩)
    constructor
    · simp only [zI_ap, eb_u_ap, if_neg (hne (22, 1, 0) rfl (Nat.le_of_ble_eq_true rfl)), if_neg (hne (23, 1, 0) rfl (Nat.le_of_ble_eq_true rfl)), if_neg (hne (24, 1, 0) rfl (Nat.le_of_ble_eq_true rfl)), if_neg (hne (28, 1, 0) rfl (Nat.le_of_ble_eq_true rfl)), if_neg (hne (29, 1, 0) rfl (Nat.le_of_ble_eq_true rfl)), if_neg (hne (30, 1, 0) rfl (Nat.le_of_ble_eq_true rfl)), if_neg (hne (35, 1, 0) rfl (Nat.le_of_ble_eq_true rfl)), if_neg (hne (38, 1, 0) rfl (Nat.le_of_ble_eq_true rfl)), if_neg (hne (39, 1, 0) rfl (Nat.le_of_ble_eq_true rfl)), if_neg (hne (40, 1, 0) rfl (Nat.le_of_ble_eq_true rfl)), if_neg (hne (41, 1, 0) rfl (Nat.le_of_ble_eq_true rfl)), if_neg (hne (42, 1, 0) rfl (Nat.le_of_ble_eq_true rfl)), if_neg (hne (43, 1, 0) rfl (Nat.le_of_ble_eq_true rfl)), if_neg (hne (27, 1, 0) rfl (Nat.le_of_ble_eq_true rfl)), if_neg (hne (21, 1, 0) rfl (Nat.le_of_ble_eq_true rfl)), if_neg (fun z : a = (21, 1, 0) ∧ l = 15 => hne (21, 1, 0) rfl (Nat.le_of_ble_eq_true rfl) z.1), zIs_ap (k := 154) (n := 6) (a := a) (fun i hi => by rw [nmk1_17 i hi]; exact hne _ rfl (Nat.le_of_ble_eq_true rfl)), zIs_ap (k := 161) (n := 6) (a := a) (fun i hi => by rw [nmk1_24 i hi]; exact hne _ rfl (Nat.le_of_ble_eq_true rfl)), zIs_ap (k := 169) (n := 6) (a := a) (fun i hi => by rw [nmk1_32 i hi]; exact hne _ rfl (Nat.le_of_ble_eq_true rfl))]
    · simp only [zJ_ap, if_neg (hne (22, 1, 0) rfl (Nat.le_of_ble_eq_true rfl)), if_neg (hne (23, 1, 0) rfl (Nat.le_of_ble_eq_true rfl)), if_neg (hne (24, 1, 0) rfl (Nat.le_of_ble_eq_true rfl)), if_neg (hne (28, 1, 0) rfl (Nat.le_of_ble_eq_true rfl)), if_neg (hne (29, 1, 0) rfl (Nat.le_of_ble_eq_true rfl)), if_neg (hne (30, 1, 0) rfl (Nat.le_of_ble_eq_true rfl)), if_neg (hne (35, 1, 0) rfl (Nat.le_of_ble_eq_true rfl)), if_neg (hne (38, 1, 0) rfl (Nat.le_of_ble_eq_true rfl)), if_neg (hne (39, 1, 0) rfl (Nat.le_of_ble_eq_true rfl)), if_neg (hne (40, 1, 0) rfl (Nat.le_of_ble_eq_true rfl)), if_neg (hne (41, 1, 0) rfl (Nat.le_of_ble_eq_true rfl)), if_neg (hne (42, 1, 0) rfl (Nat.le_of_ble_eq_true rfl)), if_neg (hne (43, 1, 0) rfl (Nat.le_of_ble_eq_true rfl)), if_neg (hne (27, 1, 0) rfl (Nat.le_of_ble_eq_true rfl)), if_neg (hne (21, 1, 0) rfl (Nat.le_of_ble_eq_true rfl)), zJs_ap (k := 141) (n := 8) (a := a) (fun i hi => by rw [nmk1_4 i hi]; exact hne _ rfl (Nat.le_of_ble_eq_true rfl))]
  · simp only [zI_ap, eb_u_ap, Prod.mk.injEq, Nat.reduceEqDiff, false_and, if_false, true_and, zIs_ap (k := 154) (n := 6) (a := (21, 1, 0)) (fun i hi => by rw [nmk1_17 i hi]; simp), zIs_ap (k := 161) (n := 6) (a := (21, 1, 0)) (fun i hi => by rw [nmk1_24 i hi]; simp), zIs_ap (k := 169) (n := 6) (a := (21, 1, 0)) (fun i hi => by rw [nmk1_32 i hi]; simp)]
  · constructor
    · simp only [zI_ap, eb_u_ap, Prod.mk.injEq, Nat.reduceEqDiff, false_and, if_false, true_and, if_true, zIs_ap (k := 154) (n := 6) (a := (22, 1, 0)) (fun i hi => by rw [nmk1_17 i hi]; simp), zIs_ap (k := 161) (n := 6) (a := (22, 1, 0)) (fun i hi => by rw [nmk1_24 i hi]; simp), zIs_ap (k := 169) (n := 6) (a := (22, 1, 0)) (fun i hi => by rw [nmk1_32 i hi]; simp)]
    · simp only [zI_ap, eb_u_ap, Prod.mk.injEq, Nat.reduceEqDiff, false_and, if_false, true_and, if_true, zIs_ap (k := 154) (n := 6) (a := (30, 1, 0)) (fun i hi => by rw [nmk1_17 i hi]; simp), zIs_ap (k := 161) (n := 6) (a := (30, 1, 0)) (fun i hi => by rw [nmk1_24 i hi]; simp), zIs_ap (k := 169) (n := 6) (a := (30, 1, 0)) (fun i hi => by rw [nmk1_32 i hi]; simp)]
theorem nmk2_4 : ∀ i, i < 8 → eb_nm (186 + i) = (26, 2, i) := by decide
theorem nmk2_17 : ∀ i, i < 6 → eb_nm (199 + i) = (32, 2, i) := by decide
theorem nmk2_24 : ∀ i, i < 6 → eb_nm (206 + i) = (34, 2, i) := by decide
theorem nmk2_32 : ∀ i, i < 6 → eb_nm (214 + i) = (37, 2, i) := by decide
theorem m_init2 : ∃ I' J', eb_ev L (d + 2) 144 [zr (21, 2, 0)] (182, ns, I, J, eb_zR (eb_RL C mt mk) (21, 2, 0) 34) = some (zn, (226, ns + 808, I', J', eb_RL C mt mk)) ∧ (∀ a l, ¬ (a.2.1 = 2 ∧ 21 ≤ a.1) → I' a l = I a l ∧ J' a l = J a l) ∧ (∀ l, I' (21, 2, 0) l = if l = 15 then 1 else I (21, 2, 0) l) ∧ ∀ l, I' (22, 2, 0) l = 0 ∧ I' (30, 2, 0) l = 0 := by
  rw [h144 rfl]
  simp (decide := true) only [e144_0, e144_1, e144_4, e144_5, e144_7, e144_9, e144_12, e144_13, e144_15, e144_17, e144_20, e144_21, e144_23, e144_25, e144_28, e144_29, e144_31, e144_33, e144_37, e144_40, e144_41, e144_43, e144_45, e144_48, e144_49, e144_51, e144_53, e144_56, e144_57, e144_60, e144_62, e144_65, e144_66, e144_68, e144_70, e144_73, e144_74, e144_76, e144_78, e144_82, e144_85, e144_86, e144_88, e144_89, e144_93, e144_96, e144_97, e144_98, e144_101, e144_102, e144_103, e144_105, e144_108, e144_109, e144_111, e144_113, e144_117, e144_120, e144_121, e144_123, e144_125, e144_128, e144_129, e144_131, e144_133, e144_136, e144_137, e144_139, e144_141, e144_144, e144_145, e144_147, e144_149, e144_152, e144_153, e144_155, e144_157, e144_160, e144_161, e144_162, e144_164, e144_167, bi_s, ↓reduceIte, Option.bind_some, true_and, and_true, Int32.reduceToNatClampNeg, tyM, nmM2, all2_4, all2_17, all2_24, all2_32, Nat.reduceAdd, Nat.reduceMul, Nat.reduceEqDiff, Nat.reduceLT, Nat.reduceLeDiff, Nat.lt_irrefl]
  refine ⟨_, _, fin_i (by omega) ?_, fun a l h => ?_, fun l => ?_, fun l => ?_⟩
  · refine ag_eq (r := 2) [33, 31, 30, 28, 27, 26, 25, 23, 12, 10, 8, 6, 5, 4, 3, 2, 1, 0] ?_ (fun l hl hP => ?_)
    · (repeat (first | exact ag_0 | refine ag_u ?_ rfl | refine ag_us ?_ (fun i hi => by (repeat (first | omega | (rcases i with _ | i; rfl))))))
    · rcases (show l = 0 ∨ l = 1 ∨ l = 2 ∨ l = 3 ∨ l = 4 ∨ l = 5 ∨ l = 6 ∨ l = 7 ∨ l = 8 ∨ l = 9 ∨ l = 10 ∨ l = 11 ∨ l = 12 ∨ l = 13 ∨ l = 14 ∨ l = 15 ∨ l = 16 ∨ l = 17 ∨ l = 18 ∨ l = 19 ∨ l = 20 ∨ l = 21 ∨ l = 22 ∨ l = 23 ∨ l = 24 ∨ l = 25 ∨ l = 26 ∨ l = 27 ∨ l = 28 ∨ l = 29 ∨ l = 30 ∨ l = 31 ∨ l = 32 ∨ l = 33 by omega) with rfl | rfl | rfl | rfl | rfl | rfl | rfl | rfl | rfl | rfl | rfl | rfl | rfl | rfl | rfl | rfl | rfl | rfl | rfl | rfl | rfl | rfl | rfl | rfl | rfl | rfl | rfl | rfl | rfl | rfl | rfl | rfl | rfl | rfl <;> first | rfl | (exfalso; simp at hP; done)
  · have hne : ∀ b : eb_A, b.2.1 = 2 → 21 ≤ b.1 → ¬ a = b := fun b q1 q2 q3 => h (by rw [q3]; exact ⟨q1, q2⟩)
    constructor
    · simp only [zI_ap, eb_u_ap, if_neg (hne (22, 2, 0) rfl (Nat.le_of_ble_eq_true rfl)), if_neg (hne (23, 2, 0) rfl (Nat.le_of_ble_eq_true rfl)), if_neg (hne (24, 2, 0) rfl (Nat.le_of_ble_eq_true rfl)), if_neg (hne (28, 2, 0) rfl (Nat.le_of_ble_eq_true rfl)), if_neg (hne (29, 2, 0) rfl (Nat.le_of_ble_eq_true rfl)), if_neg (hne (30, 2, 0) rfl (Nat.le_of_ble_eq_true rfl)), if_neg (hne (35, 2, 0) rfl (Nat.le_of_ble_eq_true rfl)), if_neg (hne (38, 2, 0) rfl (Nat.le_of_ble_eq_true rfl)), if_neg (hne (39, 2, 0) rfl (Nat.le_of_ble_eq_true rfl)), if_neg (hne (40, 2, 0) rfl (Nat.le_of_ble_eq_true rfl)), if_neg (hne (41, 2, 0) rfl (Nat.le_of_ble_eq_true rfl)), if_neg (hne (42, 2, 0) rfl (Nat.le_of_ble_eq_true rfl)), if_neg (hne (43, 2, 0) rfl (Nat.le_of_ble_eq_true rfl)), if_neg (hne (27, 2, 0) rfl (Nat.le_of_ble_eq_true rfl)), if_neg (hne (21, 2, 0) rfl (Nat.le_of_ble_eq_true rfl)), if_neg (fun z : a = (21, 2, 0) ∧ l = 15 => hne (21, 2, 0) rfl (Nat.le_of_ble_eq_true rfl) z.1), zIs_ap (k := 199) (n := 6) (a := a) (fun i hi => by rw [nmk2_17 i hi]; exact hne _ rfl (Nat.le_of_ble_eq_true rfl)), zIs_ap (k := 206) (n := 6) (a := a) (fun i hi => by rw [nmk2_24 i hi]; exact hne _ rfl (Nat.le_of_ble_eq_true rfl)), zIs_ap (k := 214) (n := 6) (a := a) (fun i hi => by rw [nmk2_32 i hi]; exact hne _ rfl (Nat.le_of_ble_eq_true rfl))]
    · simp only [zJ_ap, if_neg (hne (22, 2, 0) rfl (Nat.le_of_ble_eq_true rfl)), if_neg (hne (23, 2, 0) rfl (Nat.le_of_ble_eq_true rfl)), if_neg (hne (24, 2, 0) rfl (Nat.le_of_ble_eq_true rfl)), if_neg (hne (28, 2, 0) rfl (Nat.le_of_ble_eq_true rfl)), if_neg (hne (29, 2, 0) rfl (Nat.le_of_ble_eq_true rfl)), if_neg (hne (30, 2, 0) rfl (Nat.le_of_ble_eq_true rfl)), if_neg (hne (35, 2, 0) rfl (Nat.le_of_ble_eq_true rfl)), if_neg (hne (38, 2, 0) rfl (Nat.le_of_ble_eq_true rfl)), if_neg (hne (39, 2, 0) rfl (Nat.le_of_ble_eq_true rfl)), if_neg (hne (40, 2, 0) rfl (Nat.le_of_ble_eq_true rfl)), if_neg (hne (41, 2, 0) rfl (Nat.le_of_ble_eq_true rfl)), if_neg (hne (42, 2, 0) rfl (Nat.le_of_ble_eq_true rfl)), if_neg (hne (43, 2, 0) rfl (Nat.le_of_ble_eq_true rfl)), if_neg (hne (27, 2, 0) rfl (Nat.le_of_ble_eq_true rfl)), if_neg (hne (21, 2, 0) rfl (Nat.le_of_ble_eq_true rfl)), zJs_ap (k := 186) (n := 8) (a := a) (fun i hi => by rw [nmk2_4 i hi]; exact hne _ rfl (Nat.le_of_ble_eq_true rfl))]
  · simp only [zI_ap, eb_u_ap, Prod.mk.injEq, Nat.reduceEqDiff, false_and, if_false, true_and, zIs_ap (k := 199) (n := 6) (a := (21, 2, 0)) (fun i hi => by rw [nmk2_17 i hi]; simp), zIs_ap (k := 206) (n := 6) (a := (21, 2, 0)) (fun i hi => by rw [nmk2_24 i hi]; simp), zIs_ap (k := 214) (n := 6) (a := (21, 2, 0)) (fun i hi => by rw [nmk2_32 i hi]; simp)]
  · constructor
    · simp only [zI_ap, eb_u_ap, Prod.mk.injEq, Nat.reduceEqDiff, false_and, if_false, true_and, if_true, zIs_ap (k := 199) (n := 6) (a := (22, 2, 0)) (fun i hi => by rw [nmk2_17 i hi]; simp), zIs_ap (k := 206) (n := 6) (a := (22, 2, 0)) (fun i hi => by rw [nmk2_24 i hi]; simp), zIs_ap (k := 214) (n := 6) (a := (22, 2, 0)) (fun i hi => by rw [nmk2_32 i hi]; simp)]
    · simp only [zI_ap, eb_u_ap, Prod.mk.injEq, Nat.reduceEqDiff, false_and, if_false, true_and, if_true, zIs_ap (k := 199) (n := 6) (a := (30, 2, 0)) (fun i hi => by rw [nmk2_17 i hi]; simp), zIs_ap (k := 206) (n := 6) (a := (30, 2, 0)) (fun i hi => by rw [nmk2_24 i hi]; simp), zIs_ap (k := 214) (n := 6) (a := (30, 2, 0)) (fun i hi => by rw [nmk2_32 i hi]; simp)]
end

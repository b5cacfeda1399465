/-! the layout of the references -/
def eb_RL (C : Nat → Nat → Nat) (mt mk : Option Nat) : eb_A → Nat → Option eb_A := fun a j => match a.1 with
  | 1 => (match j with
    | 0 => some (4, 0, 0)
    | 1 => some (4, 1, 0)
    | 2 => some (4, 2, 0)
    | 4 => some (2, 0, 0)
    | 5 => some (13, 0, 0)
    | 6 => some (15, 0, 0)
    | _ => none)
  | 2 => some (3, 0, j)
  | 3 => (match j with
    | 2 => some (12, 0, a.2.2)
    | _ => none)
  | 4 => (match j with
    | 0 => some (5, a.2.1, 0)
    | 1 => some (9, a.2.1, 0)
    | 7 => some (10, a.2.1, 0)
    | 8 => some (11, a.2.1, 0)
    | _ => none)
  | 5 => some (6, a.2.1, j)
  | 7 => (match j with
    | 3 => some (8, a.2.1, a.2.2)
    | _ => none)
  | 9 => some (7, a.2.1, j)
  | 11 => if a.2.2 = 0 then some (7, a.2.1, C a.2.1 j) else none
  | 13 => (match j with
    | 0 => some (14, 0, 0)
    | _ => none)
  | 21 => (match j with
    | 0 => some (22, a.2.1, 0)
    | 1 => some (23, a.2.1, 0)
    | 2 => some (24, a.2.1, 0)
    | 3 => some (25, a.2.1, 0)
    | 4 => some (27, a.2.1, 0)
    | 5 => some (28, a.2.1, 0)
    | 6 => some (29, a.2.1, 0)
    | 8 => some (30, a.2.1, 0)
    | 10 => some (31, a.2.1, 0)
    | 12 => some (33, a.2.1, 0)
    | 16 => if a.2.1 = 0 ∧ a.2.2 = 0 then mk.map (fun r => (21, r, 0)) else none
    | 17 => if a.2.1 = 0 ∧ a.2.2 = 0 then mt.map (fun r => (21, r, 0)) else none
    | 23 => some (35, a.2.1, 0)
    | 25 => some (36, a.2.1, 0)
    | 26 => some (38, a.2.1, 0)
    | 27 => some (39, a.2.1, 0)
    | 28 => some (40, a.2.1, 0)
    | 30 => some (41, a.2.1, 0)
    | 31 => some (42, a.2.1, 0)
    | 33 => some (43, a.2.1, 0)
    | _ => none)
  | 25 => some (26, a.2.1, j)
  | 31 => some (32, a.2.1, j)
  | 33 => some (34, a.2.1, j)
  | 36 => some (37, a.2.1, j)
  | _ => none
section
variable {L k i j : Nat} {C : Nat → Nat → Nat} {mt mk : Option Nat}
theorem rl1 : eb_RL C mt mk (1, k, i) 0 = some (4, 0, 0) ∧ eb_RL C mt mk (1, k, i) 1 = some (4, 1, 0) ∧ eb_RL C mt mk (1, k, i) 2 = some (4, 2, 0) ∧ eb_RL C mt mk (1, k, i) 4 = some (2, 0, 0) ∧ eb_RL C mt mk (1, k, i) 5 = some (13, 0, 0) ∧ eb_RL C mt mk (1, k, i) 6 = some (15, 0, 0) := ⟨rfl, rfl, rfl, rfl, rfl, rfl⟩
theorem rl2 : (∀ k i j, eb_RL C mt mk (2, k, i) j = some (3, 0, j)) ∧ (∀ k i, eb_RL C mt mk (3, k, i) 2 = some (12, 0, i)) ∧ (∀ k i j, eb_RL C mt mk (5, k, i) j = some (6, k, j)) ∧ (∀ k i, eb_RL C mt mk (7, k, i) 3 = some (8, k, i)) ∧ (∀ k i j, eb_RL C mt mk (9, k, i) j = some (7, k, j)) ∧ (∀ k j, eb_RL C mt mk (11, k, 0) j = some (7, k, C k j)) ∧ (∀ k i, eb_RL C mt mk (13, k, i) 0 = some (14, 0, 0)) := ⟨fun _ _ _ => rfl, fun _ _ => rfl, fun _ _ _ => rfl, fun _ _ => rfl, fun _ _ _ => rfl, fun _ _ => rfl, fun _ _ => rfl⟩
theorem rl4 : eb_RL C mt mk (4, k, i) 0 = some (5, k, 0) ∧ eb_RL C mt mk (4, k, i) 1 = some (9, k, 0) ∧ eb_RL C mt mk (4, k, i) 7 = some (10, k, 0) ∧ eb_RL C mt mk (4, k, i) 8 = some (11, k, 0) := ⟨rfl, rfl, rfl, rfl⟩
theorem rl21 : eb_RL C mt mk (21, k, i) 0 = some (22, k, 0) ∧ eb_RL C mt mk (21, k, i) 1 = some (23, k, 0) ∧ eb_RL C mt mk (21, k, i) 2 = some (24, k, 0) ∧ eb_RL C mt mk (21, k, i) 3 = some (25, k, 0) ∧ eb_RL C mt mk (21, k, i) 4 = some (27, k, 0) ∧ eb_RL C mt mk (21, k, i) 5 = some (28, k, 0) ∧ eb_RL C mt mk (21, k, i) 6 = some (29, k, 0) ∧ eb_RL C mt mk (21, k, i) 8 = some (30, k, 0) ∧ eb_RL C mt mk (21, k, i) 10 = some (31, k, 0) ∧ eb_RL C mt mk (21, k, i) 12 = some (33, k, 0) ∧ eb_RL C mt mk (21, k, i) 16 = (if k = 0 ∧ i = 0 then mk.map (fun r => (21, r, 0)) else none) ∧ eb_RL C mt mk (21, k, i) 17 = (if k = 0 ∧ i = 0 then mt.map (fun r => (21, r, 0)) else none) ∧ eb_RL C mt mk (21, k, i) 23 = some (35, k, 0) ∧ eb_RL C mt mk (21, k, i) 25 = some (36, k, 0) ∧ eb_RL C mt mk (21, k, i) 26 = some (38, k, 0) ∧ eb_RL C mt mk (21, k, i) 27 = some (39, k, 0) ∧ eb_RL C mt mk (21, k, i) 28 = some (40, k, 0) ∧ eb_RL C mt mk (21, k, i) 30 = some (41, k, 0) ∧ eb_RL C mt mk (21, k, i) 31 = some (42, k, 0) ∧ eb_RL C mt mk (21, k, i) 33 = some (43, k, 0) := ⟨rfl, rfl, rfl, rfl, rfl, rfl, rfl, rfl, rfl, rfl, rfl, rfl, rfl, rfl, rfl, rfl, rfl, rfl, rfl, rfl⟩
theorem rl25 : eb_RL C mt mk (25, k, i) j = some (26, k, j) ∧ eb_RL C mt mk (31, k, i) j = some (32, k, j) ∧ eb_RL C mt mk (33, k, i) j = some (34, k, j) ∧ eb_RL C mt mk (36, k, i) j = some (37, k, j) := ⟨rfl, rfl, rfl, rfl⟩
theorem tyX : eb_ty L 1 = (5, 0) ∧ eb_ty L 2 = (14, 8) ∧ eb_ty L 3 = (2, 0) ∧ eb_ty L 4 = (4, 0) ∧ eb_ty L 5 = (12, 6) ∧ eb_ty L 6 = (1, 0) ∧ eb_ty L 7 = (0, 0) ∧ eb_ty L 8 = (10, 6) ∧ eb_ty L 9 = (13, 6) ∧ eb_ty L 10 = (10, 6) ∧ eb_ty L 11 = (13, 6) ∧ eb_ty L 12 = (11, 40) ∧ eb_ty L 13 = (3, 0) ∧ eb_ty L 14 = (10, 250) ∧ eb_ty L 15 = (10, 5) := ⟨rfl, rfl, rfl, rfl, rfl, rfl, rfl, rfl, rfl, rfl, rfl, rfl, rfl, rfl, rfl⟩
theorem tyM : eb_ty L 21 = (6, 0) ∧ eb_ty L 22 = (10, 8) ∧ eb_ty L 23 = (10, 8) ∧ eb_ty L 24 = (10, 8) ∧ eb_ty L 25 = (16, 8) ∧ eb_ty L 26 = (11, 40) ∧ eb_ty L 27 = (11, 40) ∧ eb_ty L 28 = (10, 8) ∧ eb_ty L 29 = (10, 250) ∧ eb_ty L 30 = (10, 8) ∧ eb_ty L 31 = (15, 6) ∧ eb_ty L 32 = (10, 7) ∧ eb_ty L 33 = (15, 6) ∧ eb_ty L 34 = (10, 3) ∧ eb_ty L 35 = (10, 3) ∧ eb_ty L 36 = (15, 6) ∧ eb_ty L 37 = (10, 6) ∧ eb_ty L 38 = (10, 6) ∧ eb_ty L 39 = (10, 6) ∧ eb_ty L 40 = (10, 6) ∧ eb_ty L 41 = (10, 6) ∧ eb_ty L 42 = (10, 6) ∧ eb_ty L 43 = (10, 3) := ⟨rfl, rfl, rfl, rfl, rfl, rfl, rfl, rfl, rfl, rfl, rfl, rfl, rfl, rfl, rfl, rfl, rfl, rfl, rfl, rfl, rfl, rfl, rfl⟩
theorem rlC {g c : Nat} : eb_u (eb_RL C mt mk) (11, k, 0) c (some (7, k, g)) = eb_RL (fun k' j => if k' = k ∧ j = c then g else C k' j) mt mk := by
  funext a l
  obtain ⟨x, y, z⟩ := a
  by_cases hx : x = 11
  · subst hx
    by_cases hz : z = 0
    · subst hz
      show (if ((11, y, 0) : eb_A) = (11, k, 0) ∧ l = c then some ((7, k, g) : eb_A) else some (7, y, C y l)) = some (7, y, if y = k ∧ l = c then g else C y l)
      by_cases hy : y = k ∧ l = c
      · rw [if_pos ⟨by rw [hy.1], hy.2⟩, if_pos hy, hy.1]
      · rw [if_neg (fun q => hy ⟨by have := q.1; simp only [Prod.mk.injEq] at this; exact this.2.1, q.2⟩), if_neg hy]
    · have : ¬ ((11, y, z) : eb_A) = (11, k, 0) := fun q => by simp only [Prod.mk.injEq] at q; exact hz q.2.2
      simp only [eb_u, this, false_and, if_false]
      exact (if_neg hz : eb_RL C mt mk (11, y, z) l = none).trans (if_neg hz : eb_RL (fun k' j => if k' = k ∧ j = c then g else C k' j) mt mk (11, y, z) l = none).symm
  · have : ¬ ((x, y, z) : eb_A) = (11, k, 0) := fun q => by simp only [Prod.mk.injEq] at q; exact hx q.1
    simp only [eb_u, this, false_and, if_false]
    unfold eb_RL
    dsimp only
    split <;> first | rfl | exact absurd rfl hx
end

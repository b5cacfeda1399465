/-! A pure machine: addresses are names (kind, number, place), a memory is three functions (ints, longs, references) and two counts (cells, slots made so far).
A method's code is a function from its program counter to an operation; eb_ev L d m as M is what method m answers at depth d, where it comes to an end. -/
abbrev eb_A : Type := Nat × Nat × Nat
abbrev eb_V : Type := (Int32 ⊕ Int64) ⊕ Option eb_A
abbrev eb_M : Type := Nat × Nat × (eb_A → Nat → Int32) × (eb_A → Nat → Int64) × (eb_A → Nat → Option eb_A)
abbrev eb_R : Type := eb_V × eb_M
abbrev eb_S : Type := Nat × List (Option eb_V) × List eb_V × eb_M
abbrev eb_C : Type := Nat → List eb_V → eb_M → Option eb_R
abbrev eb_T : Type := Option (eb_S ⊕ eb_R)
abbrev eb_O : Type := eb_C → List (Option eb_V) → List eb_V → eb_M → eb_T
abbrev zi (x : Int32) : eb_V := Sum.inl (Sum.inl x)
abbrev zl (x : Int64) : eb_V := Sum.inl (Sum.inr x)
abbrev zr (a : eb_A) : eb_V := Sum.inr (some a)
abbrev zn : eb_V := Sum.inr none
/-- one place of a memory function changed -/
def eb_u {α : Type} (I : eb_A → Nat → α) (a : eb_A) (j : Nat) (x : α) : eb_A → Nat → α := fun b l => if b = a ∧ l = j then x else I b l
/-- an index within a row of n -/
def eb_in (x : Int32) (n : Nat) : Bool := decide (¬ x < 0) && decide (x.toNatClampNeg < n)
theorem eb_in_iff {x : Int32} {n : Nat} : eb_in x n = true ↔ vp_in x n := by
  unfold eb_in vp_in
  simp only [Bool.and_eq_true, decide_eq_true_eq]
  constructor
  · rintro ⟨h1, h2⟩ (h | h)
    · exact h1 h
    · omega
  · intro h
    exact ⟨fun q => h (Or.inl q), Nat.not_le.mp fun q => h (Or.inr q)⟩
theorem eb_in_nI {i n : Nat} (h : i < n) (hn : n ≤ 1000) : eb_in (nI i) n = true := eb_in_iff.mpr (vp_in_nI h (by omega))
/-- the kinds of cells: (what, how long); what: 0 to 6 an object of that class, 10 ints, 11 longs, 12 inns, 13 goers, 14 shelves, 15 rows of ints, 16 rows of longs, 17 the script -/
def eb_ty (L : Nat) (k : Nat) : Nat × Nat := match k with
  | 0 => (17, L)
  | 1 => (5, 0)
  | 2 => (14, 8)
  | 3 => (2, 0)
  | 4 => (4, 0)
  | 5 => (12, 6)
  | 6 => (1, 0)
  | 7 => (0, 0)
  | 8 => (10, 6)
  | 9 => (13, 6)
  | 10 => (10, 6)
  | 11 => (13, 6)
  | 12 => (11, 40)
  | 13 => (3, 0)
  | 14 => (10, 250)
  | 15 => (10, 5)
  | 21 => (6, 0)
  | 22 => (10, 8)
  | 23 => (10, 8)
  | 24 => (10, 8)
  | 25 => (16, 8)
  | 26 => (11, 40)
  | 27 => (11, 40)
  | 28 => (10, 8)
  | 29 => (10, 250)
  | 30 => (10, 8)
  | 31 => (15, 6)
  | 32 => (10, 7)
  | 33 => (15, 6)
  | 34 => (10, 3)
  | 35 => (10, 3)
  | 36 => (15, 6)
  | 37 => (10, 6)
  | 38 => (10, 6)
  | 39 => (10, 6)
  | 40 => (10, 6)
  | 41 => (10, 6)
  | 42 => (10, 6)
  | 43 => (10, 3)
  | 50 => (50, 0)
  | 51 => (51, 0)
  | _ => (99, 0)
/-- the cells in the order in which they are made: the script; the class's 90; a model's 45, and so on -/
def eb_nX : List eb_A := [(1,0,0),
  (4,0,0),(5,0,0),(9,0,0),(10,0,0),(11,0,0),(6,0,0),(6,0,1),(6,0,2),(6,0,3),(6,0,4),(6,0,5),(7,0,0),(8,0,0),(7,0,1),(8,0,1),(7,0,2),(8,0,2),(7,0,3),(8,0,3),(7,0,4),(8,0,4),(7,0,5),(8,0,5),
  (4,1,0),(5,1,0),(9,1,0),(10,1,0),(11,1,0),(6,1,0),(6,1,1),(6,1,2),(6,1,3),(6,1,4),(6,1,5),(7,1,0),(8,1,0),(7,1,1),(8,1,1),(7,1,2),(8,1,2),(7,1,3),(8,1,3),(7,1,4),(8,1,4),(7,1,5),(8,1,5),
  (4,2,0),(5,2,0),(9,2,0),(10,2,0),(11,2,0),(6,2,0),(6,2,1),(6,2,2),(6,2,3),(6,2,4),(6,2,5),(7,2,0),(8,2,0),(7,2,1),(8,2,1),(7,2,2),(8,2,2),(7,2,3),(8,2,3),(7,2,4),(8,2,4),(7,2,5),(8,2,5),
  (2,0,0),(13,0,0),(14,0,0),(15,0,0),
  (3,0,0),(12,0,0),(3,0,1),(12,0,1),(3,0,2),(12,0,2),(3,0,3),(12,0,3),(3,0,4),(12,0,4),(3,0,5),(12,0,5),(3,0,6),(12,0,6),(3,0,7),(12,0,7)]
def eb_nM : List (Nat × Nat) := [(21,0),(22,0),(23,0),(24,0),(25,0),(26,0),(26,1),(26,2),(26,3),(26,4),(26,5),(26,6),(26,7),(27,0),(28,0),(29,0),(30,0),(31,0),(32,0),(32,1),(32,2),(32,3),(32,4),(32,5),(33,0),(34,0),(34,1),(34,2),(34,3),(34,4),(34,5),(35,0),(36,0),(37,0),(37,1),(37,2),(37,3),(37,4),(37,5),(38,0),(39,0),(40,0),(41,0),(42,0),(43,0)]
def eb_nm (n : Nat) : eb_A := match n with
  | 0 => (0, 0, 0)
  | n + 1 => match eb_nX[n]? with
    | some a => a
    | none => match eb_nM[(n - 90) % 45]? with
      | some q => (q.1, (n - 90) / 45, q.2)
      | none => (99, 0, 0)
-- ===== runs =====
def eb_run (cd : Nat → eb_O) (cl : eb_C) : Nat → eb_S → Option eb_R
  | 0, _ => none
  | n + 1, s => match cd s.1 cl s.2.1 s.2.2.1 s.2.2.2 with
    | none => none
    | some (.inl s') => eb_run cd cl n s'
    | some (.inr r) => some r
theorem eb_run_s {cd : Nat → eb_O} {cl : eb_C} {n : Nat} {s s' : eb_S} (h : cd s.1 cl s.2.1 s.2.2.1 s.2.2.2 = some (.inl s')) : eb_run cd cl (n + 1) s = eb_run cd cl n s' := by
  simp only [eb_run, h]
theorem eb_run_r {cd : Nat → eb_O} {cl : eb_C} {n : Nat} {s : eb_S} {r : eb_R} (h : cd s.1 cl s.2.1 s.2.2.1 s.2.2.2 = some (.inr r)) : eb_run cd cl (n + 1) s = some r := by
  simp only [eb_run, h]
theorem eb_run_n {cd : Nat → eb_O} {cl : eb_C} {n : Nat} {s : eb_S} (h : cd s.1 cl s.2.1 s.2.2.1 s.2.2.2 = none) : eb_run cd cl n s = none := by
  cases n with
  | zero => rfl
  | succ n => simp only [eb_run, h]
theorem eb_run_det {cd : Nat → eb_O} {cl : eb_C} : ∀ {n k : Nat} {s : eb_S} {r q : eb_R}, eb_run cd cl n s = some r → eb_run cd cl k s = some q → r = q := by
  intro n
  induction n with
  | zero => intro k s r q h; cases h
  | succ n ih =>
    intro k s r q h1 h2
    cases k with
    | zero => cases h2
    | succ k =>
      cases h : cd s.1 cl s.2.1 s.2.2.1 s.2.2.2 with
      | none => rw [eb_run_n h] at h1; cases h1
      | some z => cases z with
        | inl s' => rw [eb_run_s h] at h1 h2; exact ih h1 h2
        | inr z => rw [eb_run_r h] at h1 h2; exact Option.some.inj (h1.symm.trans h2)
noncomputable def eb_lim (f : Nat → Option eb_R) : Option eb_R := @dite _ (∃ n r, f n = some r) (Classical.propDecidable _) (fun h => some (Classical.choose (Classical.choose_spec h))) (fun _ => none)
theorem eb_lim_some {f : Nat → Option eb_R} {r : eb_R} (h : eb_lim f = some r) : ∃ n, f n = some r := by
  unfold eb_lim at h
  split at h
  · next hx => exact ⟨_, (Classical.choose_spec (Classical.choose_spec hx)).trans h⟩
  · cases h
theorem eb_lim_none {f : Nat → Option eb_R} (h : eb_lim f = none) (n : Nat) : f n = none := by
  unfold eb_lim at h
  split at h
  · cases h
  · next hx =>
    cases hf : f n with
    | none => rfl
    | some r => exact absurd ⟨n, r, hf⟩ hx
theorem eb_lim_of {f : Nat → Option eb_R} {r : eb_R} {n : Nat} (hd : ∀ k q, f k = some q → q = r) (h : f n = some r) : eb_lim f = some r := by
  cases hl : eb_lim f with
  | none => rw [eb_lim_none hl n] at h; cases h
  | some q =>
    obtain ⟨k, hk⟩ := eb_lim_some hl
    rw [hd k q hk]
noncomputable def eb_G (cd : Nat → eb_O) (cl : eb_C) (s : eb_S) : Option eb_R := eb_lim (fun n => eb_run cd cl n s)
theorem eb_G_of {cd : Nat → eb_O} {cl : eb_C} {s : eb_S} {r : eb_R} {n : Nat} (h : eb_run cd cl n s = some r) : eb_G cd cl s = some r :=
  eb_lim_of (n := n) (fun _ _ hk => eb_run_det hk h) h
theorem eb_G_s {cd : Nat → eb_O} {cl : eb_C} {s s' : eb_S} (h : cd s.1 cl s.2.1 s.2.2.1 s.2.2.2 = some (.inl s')) : eb_G cd cl s = eb_G cd cl s' := by
  cases h2 : eb_G cd cl s' with
  | some r =>
    obtain ⟨n, hn⟩ := eb_lim_some h2
    exact eb_G_of (n := n + 1) ((eb_run_s h).trans hn)
  | none =>
    cases h1 : eb_G cd cl s with
    | none => rfl
    | some r =>
      obtain ⟨n, hn⟩ := eb_lim_some h1
      cases n with
      | zero => cases hn
      | succ n =>
        have hn : eb_run cd cl (n + 1) s = some r := hn
        rw [eb_run_s h] at hn
        rw [eb_G_of hn] at h2
        cases h2
theorem eb_G_r {cd : Nat → eb_O} {cl : eb_C} {s : eb_S} {r : eb_R} (h : cd s.1 cl s.2.1 s.2.2.1 s.2.2.2 = some (.inr r)) : eb_G cd cl s = some r := eb_G_of (n := 1) (eb_run_r h)
theorem eb_G_n {cd : Nat → eb_O} {cl : eb_C} {s : eb_S} (h : cd s.1 cl s.2.1 s.2.2.1 s.2.2.2 = none) : eb_G cd cl s = none := by
  cases h1 : eb_G cd cl s with
  | none => rfl
  | some r =>
    obtain ⟨n, hn⟩ := eb_lim_some h1
    have hn : eb_run cd cl n s = some r := hn
    rw [eb_run_n h] at hn
    cases hn
/-- where an operation leads -/
noncomputable def eb_fin (cd : Nat → eb_O) (cl : eb_C) (o : eb_T) : Option eb_R := match o with
  | none => none
  | some (.inl s) => eb_G cd cl s
  | some (.inr r) => some r
theorem eb_G_eq (cd : Nat → eb_O) (cl : eb_C) (s : eb_S) : eb_G cd cl s = eb_fin cd cl (cd s.1 cl s.2.1 s.2.2.1 s.2.2.2) := by
  cases h : cd s.1 cl s.2.1 s.2.2.1 s.2.2.2 with
  | none => exact eb_G_n h
  | some z => cases z with
    | inl s' => exact eb_G_s h
    | inr r => exact eb_G_r h
-- ===== operations =====
abbrev eb_go (pc : Nat) (ls : List (Option eb_V)) (st : List eb_V) (M : eb_M) : eb_T := some (.inl (pc, ls, st, M))
def op_stuck : eb_O := fun _ _ _ _ => none
def op_push (v : eb_V) (nx : Nat) : eb_O := fun _ ls st M => eb_go nx ls (v :: st) M
def op_iload (i nx : Nat) : eb_O := fun _ ls st M => match ls[i]? with
  | some (some (.inl (.inl x))) => eb_go nx ls (zi x :: st) M
  | _ => none
def op_lload (i nx : Nat) : eb_O := fun _ ls st M => match ls[i]? with
  | some (some (.inl (.inr x))) => eb_go nx ls (zl x :: st) M
  | _ => none
def op_aload (i nx : Nat) : eb_O := fun _ ls st M => match ls[i]? with
  | some (some (.inr x)) => eb_go nx ls (.inr x :: st) M
  | _ => none
def op_istore (i nx : Nat) : eb_O := fun _ ls st M => match st with
  | .inl (.inl x) :: st => eb_go nx (ls.set i (some (zi x))) st M
  | _ => none
def op_astore (i nx : Nat) : eb_O := fun _ ls st M => match st with
  | .inr x :: st => eb_go nx (ls.set i (some (.inr x))) st M
  | _ => none
def op_iinc (i : Nat) (k : Int32) (nx : Nat) : eb_O := fun _ ls st M => match ls[i]? with
  | some (some (.inl (.inl x))) => eb_go nx (ls.set i (some (zi (x + k)))) st M
  | _ => none
def op_ii (f : Int32 → Int32 → Int32) (nx : Nat) : eb_O := fun _ ls st M => match st with
  | .inl (.inl y) :: .inl (.inl x) :: st => eb_go nx ls (zi (f x y) :: st) M
  | _ => none
def op_ll (f : Int64 → Int64 → Int64) (nx : Nat) : eb_O := fun _ ls st M => match st with
  | .inl (.inr y) :: .inl (.inr x) :: st => eb_go nx ls (zl (f x y) :: st) M
  | _ => none
def op_iid (f : Int32 → Int32 → Int32) (nx : Nat) : eb_O := fun _ ls st M => match st with
  | .inl (.inl y) :: .inl (.inl x) :: st => if y = 0 then none else eb_go nx ls (zi (f x y) :: st) M
  | _ => none
def op_lshl (nx : Nat) : eb_O := fun _ ls st M => match st with
  | .inl (.inl y) :: .inl (.inr x) :: st => eb_go nx ls (zl (x <<< (y.toInt64 &&& 63)) :: st) M
  | _ => none
def op_i (f : Int32 → Int32) (nx : Nat) : eb_O := fun _ ls st M => match st with
  | .inl (.inl x) :: st => eb_go nx ls (zi (f x) :: st) M
  | _ => none
def op_i2l (nx : Nat) : eb_O := fun _ ls st M => match st with
  | .inl (.inl x) :: st => eb_go nx ls (zl x.toInt64 :: st) M
  | _ => none
def op_l2i (nx : Nat) : eb_O := fun _ ls st M => match st with
  | .inl (.inr x) :: st => eb_go nx ls (zi x.toInt32 :: st) M
  | _ => none
def op_lcmp (nx : Nat) : eb_O := fun _ ls st M => match st with
  | .inl (.inr y) :: .inl (.inr x) :: st => eb_go nx ls (zi (if x < y then -1 else if x = y then 0 else 1) :: st) M
  | _ => none
/-- a value of one word -/
def eb_one : eb_V → Bool
  | .inl (.inr _) => false
  | _ => true
def op_dup (nx : Nat) : eb_O := fun _ ls st M => match st with
  | .inl (.inl x) :: st => eb_go nx ls (zi x :: zi x :: st) M
  | .inr x :: st => eb_go nx ls (.inr x :: .inr x :: st) M
  | _ => none
/-- over an array and an index -/
def op_dup2 (nx : Nat) : eb_O := fun _ ls st M => match st with
  | .inl (.inl y) :: .inr x :: st => eb_go nx ls (zi y :: .inr x :: zi y :: .inr x :: st) M
  | _ => none
/-- an int behind an object -/
def op_dup_x1 (nx : Nat) : eb_O := fun _ ls st M => match st with
  | .inl (.inl y) :: .inr x :: st => eb_go nx ls (zi y :: .inr x :: zi y :: st) M
  | _ => none
def op_pop (nx : Nat) : eb_O := fun _ ls st M => match st with
  | .inl (.inl _) :: st => eb_go nx ls st M
  | .inr _ :: st => eb_go nx ls st M
  | _ => none
def op_goto (t : Nat) : eb_O := fun _ ls st M => eb_go t ls st M
def op_ifeq (t nx : Nat) : eb_O := fun _ ls st M => match st with
  | .inl (.inl x) :: st => if x = 0 then eb_go t ls st M else eb_go nx ls st M
  | _ => none
def op_ifne (t nx : Nat) : eb_O := fun _ ls st M => match st with
  | .inl (.inl x) :: st => if x = 0 then eb_go nx ls st M else eb_go t ls st M
  | _ => none
def op_iflt (t nx : Nat) : eb_O := fun _ ls st M => match st with
  | .inl (.inl x) :: st => if x < 0 then eb_go t ls st M else eb_go nx ls st M
  | _ => none
def op_ifge (t nx : Nat) : eb_O := fun _ ls st M => match st with
  | .inl (.inl x) :: st => if x < 0 then eb_go nx ls st M else eb_go t ls st M
  | _ => none
def op_ifgt (t nx : Nat) : eb_O := fun _ ls st M => match st with
  | .inl (.inl x) :: st => if 0 < x then eb_go t ls st M else eb_go nx ls st M
  | _ => none
def op_ifle (t nx : Nat) : eb_O := fun _ ls st M => match st with
  | .inl (.inl x) :: st => if 0 < x then eb_go nx ls st M else eb_go t ls st M
  | _ => none
def op_iceq (t nx : Nat) : eb_O := fun _ ls st M => match st with
  | .inl (.inl y) :: .inl (.inl x) :: st => if x = y then eb_go t ls st M else eb_go nx ls st M
  | _ => none
def op_icne (t nx : Nat) : eb_O := fun _ ls st M => match st with
  | .inl (.inl y) :: .inl (.inl x) :: st => if x = y then eb_go nx ls st M else eb_go t ls st M
  | _ => none
def op_iclt (t nx : Nat) : eb_O := fun _ ls st M => match st with
  | .inl (.inl y) :: .inl (.inl x) :: st => if x < y then eb_go t ls st M else eb_go nx ls st M
  | _ => none
def op_icge (t nx : Nat) : eb_O := fun _ ls st M => match st with
  | .inl (.inl y) :: .inl (.inl x) :: st => if x < y then eb_go nx ls st M else eb_go t ls st M
  | _ => none
def op_icgt (t nx : Nat) : eb_O := fun _ ls st M => match st with
  | .inl (.inl y) :: .inl (.inl x) :: st => if y < x then eb_go t ls st M else eb_go nx ls st M
  | _ => none
def op_icle (t nx : Nat) : eb_O := fun _ ls st M => match st with
  | .inl (.inl y) :: .inl (.inl x) :: st => if y < x then eb_go nx ls st M else eb_go t ls st M
  | _ => none
def op_ifnn (t nx : Nat) : eb_O := fun _ ls st M => match st with
  | .inr x :: st => if x = none then eb_go nx ls st M else eb_go t ls st M
  | _ => none
def eb_sw {α : Type} (x : Int32) (f : Nat → α) (dflt : Nat) : List (Int32 × Nat) → α
  | [] => f dflt
  | q :: r => if x = q.1 then f q.2 else eb_sw x f dflt r
def op_sw (cs : List (Int32 × Nat)) (dflt : Nat) : eb_O := fun _ ls st M => match st with
  | .inl (.inl x) :: st => eb_sw x (fun t => eb_go t ls st M) dflt cs
  | _ => none
-- fields: ci the class, j the place
def op_getI (L ci j nx : Nat) : eb_O := fun _ ls st M => match st with
  | .inr (some a) :: st => if (eb_ty L a.1).1 = ci then eb_go nx ls (zi (M.2.2.1 a j) :: st) M else none
  | _ => none
def op_getR (L ci j nx : Nat) : eb_O := fun _ ls st M => match st with
  | .inr (some a) :: st => if (eb_ty L a.1).1 = ci then eb_go nx ls (.inr (M.2.2.2.2 a j) :: st) M else none
  | _ => none
def op_putI (L ci j nx : Nat) : eb_O := fun _ ls st M => match st with
  | .inl (.inl x) :: .inr (some a) :: st => if (eb_ty L a.1).1 = ci then eb_go nx ls st (M.1, M.2.1, eb_u M.2.2.1 a j x, M.2.2.2.1, M.2.2.2.2) else none
  | _ => none
/-- a boolean field -/
def op_putZ (L ci j nx : Nat) : eb_O := fun _ ls st M => match st with
  | .inl (.inl x) :: .inr (some a) :: st => if (eb_ty L a.1).1 = ci ∧ (x = 0 ∨ x = 1) then eb_go nx ls st (M.1, M.2.1, eb_u M.2.2.1 a j x, M.2.2.2.1, M.2.2.2.2) else none
  | _ => none
def op_putR (L ci j nx : Nat) : eb_O := fun _ ls st M => match st with
  | .inr x :: .inr (some a) :: st => if (eb_ty L a.1).1 = ci then eb_go nx ls st (M.1, M.2.1, M.2.2.1, M.2.2.2.1, eb_u M.2.2.2.2 a j x) else none
  | _ => none
-- rows
def op_iald (L nx : Nat) : eb_O := fun _ ls st M => match st with
  | .inl (.inl x) :: .inr (some a) :: st => if (eb_ty L a.1).1 = 10 ∧ eb_in x (eb_ty L a.1).2 = true then eb_go nx ls (zi (M.2.2.1 a x.toNatClampNeg) :: st) M else none
  | _ => none
/-- out of the script -/
def op_sald (L nx : Nat) : eb_O := fun _ ls st M => match st with
  | .inl (.inl x) :: .inr (some a) :: st => if (eb_ty L a.1).1 = 17 ∧ eb_in x (eb_ty L a.1).2 = true then eb_go nx ls (zi (M.2.2.1 a x.toNatClampNeg) :: st) M else none
  | _ => none
def op_lald (L nx : Nat) : eb_O := fun _ ls st M => match st with
  | .inl (.inl x) :: .inr (some a) :: st => if (eb_ty L a.1).1 = 11 ∧ eb_in x (eb_ty L a.1).2 = true then eb_go nx ls (zl (M.2.2.2.1 a x.toNatClampNeg) :: st) M else none
  | _ => none
def op_aald (L nx : Nat) : eb_O := fun _ ls st M => match st with
  | .inl (.inl x) :: .inr (some a) :: st => if (12 ≤ (eb_ty L a.1).1 ∧ (eb_ty L a.1).1 ≤ 16) ∧ eb_in x (eb_ty L a.1).2 = true then eb_go nx ls (.inr (M.2.2.2.2 a x.toNatClampNeg) :: st) M else none
  | _ => none
def op_iast (L nx : Nat) : eb_O := fun _ ls st M => match st with
  | .inl (.inl v) :: .inl (.inl x) :: .inr (some a) :: st => if (eb_ty L a.1).1 = 10 ∧ eb_in x (eb_ty L a.1).2 = true then eb_go nx ls st (M.1, M.2.1, eb_u M.2.2.1 a x.toNatClampNeg v, M.2.2.2.1, M.2.2.2.2) else none
  | _ => none
def op_last (L nx : Nat) : eb_O := fun _ ls st M => match st with
  | .inl (.inr v) :: .inl (.inl x) :: .inr (some a) :: st => if (eb_ty L a.1).1 = 11 ∧ eb_in x (eb_ty L a.1).2 = true then eb_go nx ls st (M.1, M.2.1, M.2.2.1, eb_u M.2.2.2.1 a x.toNatClampNeg v, M.2.2.2.2) else none
  | _ => none
/-- the class of what a row of objects holds -/
def eb_el (t : Nat) : Nat := match t with
  | 12 => 1
  | 13 => 0
  | 14 => 2
  | _ => 98
def op_aast (L nx : Nat) : eb_O := fun _ ls st M => match st with
  | .inr (some b) :: .inl (.inl x) :: .inr (some a) :: st => if (eb_ty L b.1).1 = eb_el (eb_ty L a.1).1 ∧ eb_in x (eb_ty L a.1).2 = true then eb_go nx ls st (M.1, M.2.1, M.2.2.1, M.2.2.2.1, eb_u M.2.2.2.2 a x.toNatClampNeg (some b)) else none
  | _ => none
def op_alen (L nx : Nat) : eb_O := fun _ ls st M => match st with
  | .inr (some a) :: st => if (eb_ty L a.1).1 = 10 then eb_go nx ls (zi (nI (eb_ty L a.1).2) :: st) M else none
  | _ => none
def op_slen (L nx : Nat) : eb_O := fun _ ls st M => match st with
  | .inr (some a) :: st => if (eb_ty L a.1).1 = 17 then eb_go nx ls (zi (nI (eb_ty L a.1).2) :: st) M else none
  | _ => none
-- what is made
def eb_zI (I : eb_A → Nat → Int32) (a : eb_A) : eb_A → Nat → Int32 := fun b l => if b = a then 0 else I b l
def eb_zJ (I : eb_A → Nat → Int64) (a : eb_A) : eb_A → Nat → Int64 := fun b l => if b = a then 0 else I b l
def eb_zR (I : eb_A → Nat → Option eb_A) (a : eb_A) (n : Nat) : eb_A → Nat → Option eb_A := fun b l => if b = a ∧ l < n then none else I b l
/-- an object of class ci, of n fields -/
def op_new (L ci n nx : Nat) : eb_O := fun _ ls st M => if (eb_ty L (eb_nm M.1).1).1 = ci then eb_go nx ls (zr (eb_nm M.1) :: st) (M.1 + 1, M.2.1 + n, eb_zI M.2.2.1 (eb_nm M.1), M.2.2.2.1, eb_zR M.2.2.2.2 (eb_nm M.1) n) else none
/-- a row of n ints -/
def op_newI (L nx : Nat) : eb_O := fun _ ls st M => match st with
  | .inl (.inl x) :: st => if eb_ty L (eb_nm M.1).1 = (10, x.toNatClampNeg) ∧ ¬ x < 0 ∧ x.toNatClampNeg ≤ 1000 then eb_go nx ls (zr (eb_nm M.1) :: st) (M.1 + 1, M.2.1 + x.toNatClampNeg, eb_zI M.2.2.1 (eb_nm M.1), M.2.2.2.1, M.2.2.2.2) else none
  | _ => none
def op_newJ (L nx : Nat) : eb_O := fun _ ls st M => match st with
  | .inl (.inl x) :: st => if eb_ty L (eb_nm M.1).1 = (11, x.toNatClampNeg) ∧ ¬ x < 0 ∧ x.toNatClampNeg ≤ 1000 then eb_go nx ls (zr (eb_nm M.1) :: st) (M.1 + 1, M.2.1 + x.toNatClampNeg, M.2.2.1, eb_zJ M.2.2.2.1 (eb_nm M.1), M.2.2.2.2) else none
  | _ => none
/-- a row of n objects of a class -/
def op_newA (L t nx : Nat) : eb_O := fun _ ls st M => match st with
  | .inl (.inl x) :: st => if eb_ty L (eb_nm M.1).1 = (t, x.toNatClampNeg) ∧ ¬ x < 0 ∧ x.toNatClampNeg ≤ 1000 then eb_go nx ls (zr (eb_nm M.1) :: st) (M.1 + 1, M.2.1 + x.toNatClampNeg, M.2.2.1, M.2.2.2.1, eb_zR M.2.2.2.2 (eb_nm M.1) x.toNatClampNeg) else none
  | _ => none
/-- n rows at the names from k on, all their ints 0 -/
def eb_zIs (I : eb_A → Nat → Int32) (k : Nat) : Nat → eb_A → Nat → Int32
  | 0 => I
  | n + 1 => eb_zI (eb_zIs I k n) (eb_nm (k + n))
def eb_zJs (I : eb_A → Nat → Int64) (k : Nat) : Nat → eb_A → Nat → Int64
  | 0 => I
  | n + 1 => eb_zJ (eb_zJs I k n) (eb_nm (k + n))
def eb_uRs (R : eb_A → Nat → Option eb_A) (a : eb_A) (k : Nat) : Nat → eb_A → Nat → Option eb_A
  | 0 => R
  | n + 1 => eb_u (eb_uRs R a k n) a n (some (eb_nm (k + n)))
/-- a row of n rows of k ints -/
def op_newII (L nx : Nat) : eb_O := fun _ ls st M => match st with
  | .inl (.inl y) :: .inl (.inl x) :: st =>
    if eb_ty L (eb_nm M.1).1 = (15, x.toNatClampNeg) ∧ (¬ x < 0 ∧ x.toNatClampNeg ≤ 1000 ∧ ¬ y < 0 ∧ y.toNatClampNeg ≤ 1000) ∧ (List.range x.toNatClampNeg).all (fun i => decide (eb_ty L (eb_nm (M.1 + 1 + i)).1 = (10, y.toNatClampNeg))) = true
    then eb_go nx ls (zr (eb_nm M.1) :: st) (M.1 + 1 + x.toNatClampNeg, M.2.1 + (x.toNatClampNeg + x.toNatClampNeg * y.toNatClampNeg), eb_zIs M.2.2.1 (M.1 + 1) x.toNatClampNeg, M.2.2.2.1, eb_uRs M.2.2.2.2 (eb_nm M.1) (M.1 + 1) x.toNatClampNeg) else none
  | _ => none
def op_newJJ (L nx : Nat) : eb_O := fun _ ls st M => match st with
  | .inl (.inl y) :: .inl (.inl x) :: st =>
    if eb_ty L (eb_nm M.1).1 = (16, x.toNatClampNeg) ∧ (¬ x < 0 ∧ x.toNatClampNeg ≤ 1000 ∧ ¬ y < 0 ∧ y.toNatClampNeg ≤ 1000) ∧ (List.range x.toNatClampNeg).all (fun i => decide (eb_ty L (eb_nm (M.1 + 1 + i)).1 = (11, y.toNatClampNeg))) = true
    then eb_go nx ls (zr (eb_nm M.1) :: st) (M.1 + 1 + x.toNatClampNeg, M.2.1 + (x.toNatClampNeg + x.toNatClampNeg * y.toNatClampNeg), M.2.2.1, eb_zJs M.2.2.2.1 (M.1 + 1) x.toNatClampNeg, eb_uRs M.2.2.2.2 (eb_nm M.1) (M.1 + 1) x.toNatClampNeg) else none
  | _ => none
-- calls: n the number of arguments (the object among them); what stays on the stack is small
def eb_cats : List eb_V → Nat
  | [] => 0
  | .inl (.inr _) :: r => eb_cats r + 2
  | .inl (.inl _) :: r => eb_cats r + 1
  | .inr _ :: r => eb_cats r + 1
def op_call (m n nx : Nat) : eb_O := fun cl ls st M => match Nat.ble n st.length && Nat.ble (eb_cats (st.drop n)) 8 with
  | true => (cl m (st.take n).reverse M).bind (fun q => eb_go nx ls (q.1 :: st.drop n) q.2)
  | false => none
def op_callv (m n nx : Nat) : eb_O := fun cl ls st M => match Nat.ble n st.length && Nat.ble (eb_cats (st.drop n)) 8 with
  | true => (cl m (st.take n).reverse M).bind (fun q => eb_go nx ls (st.drop n) q.2)
  | false => none
/-- n elements of one row of longs over another's -/
def eb_cp (J : eb_A → Nat → Int64) (a b : eb_A) (i j n : Nat) : eb_A → Nat → Int64 := fun c l => if c = b ∧ j ≤ l ∧ l < j + n then J a (i + (l - j)) else J c l
-- ends
def op_iret : eb_O := fun _ _ st M => match st with
  | [.inl (.inl x)] => some (.inr (zi x, M))
  | _ => none
def op_zret : eb_O := fun _ _ st M => match st with
  | [.inl (.inl x)] => if x = 0 ∨ x = 1 then some (.inr (zi x, M)) else none
  | _ => none
def op_lret : eb_O := fun _ _ st M => match st with
  | [.inl (.inr x)] => some (.inr (zl x, M))
  | _ => none
def op_aret : eb_O := fun _ _ st M => match st with
  | [.inr x] => some (.inr (.inr x, M))
  | _ => none
def op_vret : eb_O := fun _ _ st M => match st with
  | [] => some (.inr (zn, M))
  | _ => none
-- texts: (50, s, 0) is the text s, (51, s, 0) its bytes
def eb_tx (s : Nat) : List Int32 := match s with
  | 0 => [105, 110, 110]
  | 1 => [103, 111, 101, 114]
  | 2 => [108, 101, 116, 116, 101, 114]
  | 3 => [97, 103, 101]
  | 4 => [119, 114, 105, 116, 101]
  | 5 => [115, 97, 105, 100]
  | _ => []
/-- the JDK's own: Math.max, min, abs; Object(); System.arraycopy over longs; String.length, charAt over the texts. d: how many calls deep they may go further -/
def eb_bi (L d m : Nat) (as : List eb_V) (M : eb_M) : Option eb_R := match m, as with
  | 900, [.inl (.inl x), .inl (.inl y)] => some (zi (if x < y then y else x), M)
  | 901, [.inl (.inl x), .inl (.inl y)] => some (zi (if y < x then y else x), M)
  | 902, [.inl (.inl x)] => some (zi (if 0 ≤ x then x else 0 - x), M)
  | 903, [.inr (some _)] => some (zn, M)
  | 904, [.inr (some a), .inl (.inl i), .inr (some b), .inl (.inl j), .inl (.inl n)] =>
    if ((eb_ty L a.1).1 = 11 ∧ (eb_ty L b.1).1 = 11) ∧ (¬ n < 0 ∧ ¬ i < 0 ∧ ¬ j < 0) ∧ i.toNatClampNeg + n.toNatClampNeg ≤ (eb_ty L a.1).2 ∧ j.toNatClampNeg + n.toNatClampNeg ≤ (eb_ty L b.1).2
    then some (zn, (M.1, M.2.1, M.2.2.1, eb_cp M.2.2.2.1 a b i.toNatClampNeg j.toNatClampNeg n.toNatClampNeg, M.2.2.2.2)) else none
  | 905, [.inr (some a)] => if (eb_ty L a.1).1 = 50 ∧ (a.2.1 < 12 ∧ a.2.2 = 0) ∧ 1 ≤ d then some (zi (nI (eb_tx (a.2.1 % 6)).length), M) else none
  | 906, [.inr (some a), .inl (.inl i)] => if (eb_ty L a.1).1 = 50 ∧ (a.2.1 < 12 ∧ a.2.2 = 0) ∧ eb_in i (eb_tx (a.2.1 % 6)).length = true ∧ 4 ≤ d then some (zi ((eb_tx (a.2.1 % 6)).getD i.toNatClampNeg 0), M) else none
  | _, _ => none
/-- arguments by their kinds: 0 an int, 1 a long, 2 a reference, 3 the object itself, of class c -/
def eb_chk (L c : Nat) : List eb_V → List Nat → Bool
  | [], [] => true
  | .inl (.inl _) :: as, 0 :: ts => eb_chk L c as ts
  | .inl (.inr _) :: as, 1 :: ts => eb_chk L c as ts
  | .inr _ :: as, 2 :: ts => eb_chk L c as ts
  | .inr (some a) :: as, 3 :: ts => Nat.beq (eb_ty L a.1).1 c && eb_chk L c as ts
  | _, _ => false
theorem eb_chk_i {L c : Nat} {a : eb_A} {as : List eb_V} {ts : List Nat} (ha : (eb_ty L a.1).1 = c) (h : eb_chk L c as ts = true) : eb_chk L c (zr a :: as) (3 :: ts) = true := by
  show (Nat.beq (eb_ty L a.1).1 c && eb_chk L c as ts) = true
  rw [h, ha, Nat.beq_refl]
  rfl
/-- the operation at a place -/
def eb_look : List (Nat × eb_O) → Nat → eb_O
  | [], _ => op_stuck
  | q :: r, pc => match Nat.beq q.1 pc with
    | true => q.2
    | false => eb_look r pc

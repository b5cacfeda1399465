/-! what both sides compute, in plain functions. A valley's worth w = (how many inns, how many goers, (age, years, seed), inns' rows, goers' rows) -/
abbrev eb_W : Type := Nat × Nat × (Nat → Int32) × (Nat → Nat → Int32) × (Nat → Nat → Int32)
def sp_up {α : Type} (f : Nat → α) (k : Nat) (x : α) : Nat → α := fun j => if j = k then x else f j
theorem sp_up_ap {α : Type} {f : Nat → α} {k j : Nat} {x : α} : sp_up f k x j = if j = k then x else f j := rfl
def sp_sum (f : Nat → Int32) : Nat → Int32
  | 0 => 0
  | n + 1 => sp_sum f n + f n
def sp_bit (set : Int32) (i : Nat) : Bool := decide ((set >>> (nI i &&& 31)) &&& 1 = 1)
def sp_write (w : eb_W) (set : Int32) : eb_W := (w.1, w.2.1, sp_up w.2.2.1 0 0, fun i => sp_up (w.2.2.2.1 i) 4 (if sp_bit set i = true then w.2.2.2.1 i 0 else -1), w.2.2.2.2)
def sp_cnt (set : Int32) (n : Nat) : Int32 := sp_sum (fun i => if sp_bit set i = true then 1 else 0) n
def sp_inn (w : eb_W) (g r p said : Int32) : eb_W := (w.1 + 1, w.2.1, w.2.2.1, sp_up w.2.2.2.1 w.1 (fun f => match f with | 0 => g | 1 => g | 2 => r | 3 => p | 4 => said | _ => 0), w.2.2.2.2)
def sp_goer (w : eb_W) (k h a : Int32) : eb_W := (w.1, w.2.1 + 1, w.2.2.1, w.2.2.2.1, sp_up w.2.2.2.2 w.2.1 (fun f => match f with | 0 => k | 1 => h | _ => a))
def sp_setI (w : eb_W) (i f : Nat) (v : Int32) : eb_W := (w.1, w.2.1, w.2.2.1, sp_up w.2.2.2.1 i (sp_up (w.2.2.2.1 i) f v), w.2.2.2.2)
def sp_setG (w : eb_W) (j f : Nat) (v : Int32) : eb_W := (w.1, w.2.1, w.2.2.1, w.2.2.2.1, sp_up w.2.2.2.2 j (sp_up (w.2.2.2.2 j) f v))
def sp_setS (w : eb_W) (s : Nat) (v : Int32) : eb_W := (w.1, w.2.1, sp_up w.2.2.1 s v, w.2.2.2.1, w.2.2.2.2)
-- scores
def sp_booked (age said : Int32) : Int32 := if said = -1 then 0 else if said - 2 * age < 0 then 0 else said - 2 * age
def sp_score (age : Int32) (q h : Nat → Int32) (said : Int32) : Int32 :=
  if h 0 = 0 then 100 - q 3
  else if h 0 = 2 then (if said = -1 then 100 - q 3 else sp_booked age said - h 2)
  else if h 0 = 3 then q 0 - q 3 / 2
  else if h 0 = 4 then (if h 2 ≤ q 5 ∧ 0 < q 5 then q 6 / q 5 else sp_booked age said)
  else sp_booked age said
/-- the first of the greatest s among those that have -/
def sp_best (has : Nat → Bool) (s : Nat → Int32) : Nat → Option Nat
  | 0 => none
  | i + 1 => match sp_best has s i with
    | none => if has i = true then some i else none
    | some b => if has i = true ∧ s b < s i then some i else some b
def sp_enc : Option Nat → Int32
  | none => -1
  | some b => nI b
theorem sp_best_lt {has : Nat → Bool} {s : Nat → Int32} : ∀ {n b : Nat}, sp_best has s n = some b → b < n ∧ has b = true := by
  intro n
  induction n with
  | zero => intro b h; cases h
  | succ n ih =>
    intro b h
    unfold sp_best at h
    cases hb : sp_best has s n with
    | none =>
      rw [hb] at h
      simp only at h
      split at h
      · next hh => cases h; exact ⟨by omega, hh⟩
      · cases h
    | some c =>
      rw [hb] at h
      simp only at h
      split at h
      · next hh => cases h; exact ⟨by omega, hh.1⟩
      · cases h
        have := ih hb
        exact ⟨by omega, this.2⟩
theorem sp_best_none {has : Nat → Bool} {s : Nat → Int32} : ∀ {n : Nat}, sp_best has s n = none → ∀ i, i < n → has i = false := by
  intro n
  induction n with
  | zero => intro h i hi; omega
  | succ n ih =>
    intro h i hi
    unfold sp_best at h
    cases hb : sp_best has s n with
    | none =>
      rw [hb] at h
      simp only at h
      split at h
      · cases h
      · next hh =>
        by_cases e : i = n
        · subst e; simpa using hh
        · exact ih hb i (by omega)
    | some c =>
      rw [hb] at h
      simp only at h
      split at h <;> cases h
theorem sp_best_congr {has has' : Nat → Bool} {s s' : Nat → Int32} : ∀ {n : Nat}, (∀ i, i < n → has i = has' i ∧ s i = s' i) → sp_best has s n = sp_best has' s' n := by
  intro n
  induction n with
  | zero => exact fun _ => rfl
  | succ n ih =>
    intro h
    have e := ih (fun i hi => h i (by omega))
    have hn := h n (by omega)
    unfold sp_best
    rw [e]
    cases hb : sp_best has' s' n with
    | none => simp only [hn.1]
    | some b =>
      have hlt := (sp_best_lt hb).1
      have hb2 := h b (by omega)
      simp only [hn.1, hn.2, hb2.2]
theorem sp_sum_congr {f f' : Nat → Int32} : ∀ {n : Nat}, (∀ i, i < n → f i = f' i) → sp_sum f n = sp_sum f' n := by
  intro n
  induction n with
  | zero => exact fun _ => rfl
  | succ n ih => intro h; unfold sp_sum; rw [ih (fun i hi => h i (by omega)), h n (by omega)]
def sp_choice (w : eb_W) (j : Nat) : Option Nat := sp_best (fun _ => true) (fun i => sp_score (w.2.2.1 0) (w.2.2.2.1 i) (w.2.2.2.2 j) (w.2.2.2.1 i 4)) w.1
/-- of a kind that is BOOKED or under it -/
def sp_bk (k : Int32) : Bool := decide (¬ k = 0 ∧ ¬ k = 3)
def sp_crowd (w : eb_W) (i : Int32) : Int32 := sp_sum (fun j => if sp_bk (w.2.2.2.2 j 0) = true ∧ sp_enc (sp_choice w j) = i then w.2.2.2.2 j 1 else 0) w.2.1
-- a night
abbrev eb_N : Type := (Nat → Int32) × (Nat → Nat → Int32) × (Nat → Int32)
def sp_lodge (n : Nat) (room s : Nat → Int32) : Nat → (Nat → Int32) × (Nat → Int32) × Int32 → (Nat → Int32) × (Nat → Int32) × Int32
  | 0, N => N
  | c + 1, N => if 0 < N.2.2 then match sp_best (fun i => decide (N.1 i < room i)) s n with
      | none => N
      | some b => sp_lodge n room s c (sp_up N.1 b (N.1 b + (if room b - N.1 b < N.2.2 then room b - N.1 b else N.2.2)), sp_up N.2.1 b (N.2.1 b + (if room b - N.1 b < N.2.2 then room b - N.1 b else N.2.2)), N.2.2 - (if room b - N.1 b < N.2.2 then room b - N.1 b else N.2.2))
    else N
def sp_put (w : eb_W) (said : Nat → Int32) (j : Nat) (heads : Int32) (N : eb_N) : eb_N :=
  let r := sp_lodge w.1 (fun i => w.2.2.2.1 i 2) (fun i => sp_score (w.2.2.1 0) (w.2.2.2.1 i) (w.2.2.2.2 j) (said i)) w.1 (N.1, N.2.1 j, heads)
  (r.1, sp_up N.2.1 j r.2.1, sp_up N.2.2 j (N.2.2 j + r.2.2))
def sp_ord (w : eb_W) : List Nat := (List.range w.2.1).filter (fun j => !decide (w.2.2.2.2 j 0 = 5)) ++ (List.range w.2.1).filter (fun j => decide (w.2.2.2.2 j 0 = 5))
def sp_N0 : eb_N := (fun _ => 0, fun _ _ => 0, fun _ => 0)
def sp_night (w : eb_W) : eb_N := (sp_ord w).foldl (fun N j => sp_put w (fun i => w.2.2.2.1 i 4) j (w.2.2.2.2 j 1) N) sp_N0
def sp_full (w : eb_W) (N : eb_N) (i : Nat) : Bool := !decide (N.1 i < w.2.2.2.1 i 2)
def sp_joy (w : eb_W) (N : eb_N) (j : Nat) : Int32 := -30 * N.2.2 j + sp_sum (fun i => N.2.1 j i * (w.2.2.2.1 i 0 - w.2.2.2.1 i 3 - (if sp_full w N i = true then 20 else 0))) w.1
def sp_joyAll (w : eb_W) (N : eb_N) : Int32 := sp_sum (fun j => sp_joy w N j) w.2.1
-- a year
def sp_grow (q : Nat → Int32) (gu : Int32) : Nat → Int32 :=
  let v := if ¬ q 4 = -1 ∧ q 0 < q 4 then (if q 0 - 10 < 0 then 0 else q 0 - 10) else q 0
  let l := decide (0 < gu ∧ q 5 < 99)
  fun f => match f with
    | 0 => if ¬ gu < q 2 then (if q 0 - 6 < 0 then 0 else q 0 - 6) else if 2 * gu < q 2 then (if q 0 < q 1 then (if q 1 < q 0 + 3 then q 1 else q 0 + 3) else q 0) else q 0
    | 3 => if ¬ gu < q 2 then (if 99 < q 3 + q 3 / 4 + 1 then 99 else q 3 + q 3 / 4 + 1) else if 2 * gu < q 2 then (if q 3 - 1 < 0 then 0 else q 3 - 1) else q 3
    | 5 => if l = true then q 5 + 1 else q 5
    | 6 => if l = true then q 6 + v else q 6
    | f => q f
def sp_year (w : eb_W) : eb_W :=
  (w.1, w.2.1, sp_up (sp_up w.2.2.1 0 (if 99 < w.2.2.1 0 + 1 then 99 else w.2.2.1 0 + 1)) 1 (w.2.2.1 1 + 1), fun i => sp_grow (w.2.2.2.1 i) ((sp_night w).1 i), w.2.2.2.2)
/-- joy of all, of each, what each inn took, the valley: of n years -/
def sp_years (w : eb_W) : Nat → Int32 × (Nat → Int32) × (Nat → Int32) × eb_W
  | 0 => (0, fun _ => 0, fun _ => 0, w)
  | n + 1 => let r := sp_years w n
    (r.1 + sp_joyAll r.2.2.2 (sp_night r.2.2.2), fun j => r.2.1 j + sp_joy r.2.2.2 (sp_night r.2.2.2) j, fun i => r.2.2.1 i + r.2.2.2.2.2.2.1 i 3 * (sp_night r.2.2.2).1 i, sp_year r.2.2.2)
-- what is held
/-- the class's valley k holds w -/
def eb_RX (I : eb_A → Nat → Int32) (k : Nat) (w : eb_W) : Prop :=
  (I (4, k, 0) 2 = nI w.1 ∧ I (4, k, 0) 3 = nI w.2.1 ∧ I (4, k, 0) 4 = w.2.2.1 0 ∧ I (4, k, 0) 5 = w.2.2.1 1 ∧ I (4, k, 0) 6 = w.2.2.1 2) ∧ (∀ i, i < w.1 → ∀ f, f < 7 → I (6, k, i) f = w.2.2.2.1 i f) ∧ (∀ j, j < w.2.1 → ∀ f, f < 3 → I (7, k, j) f = w.2.2.2.2 j f)
/-- the reference's model r holds w -/
def eb_RM (I : eb_A → Nat → Int32) (r : Nat) (w : eb_W) : Prop :=
  (I (21, r, 0) 9 = nI w.1 ∧ I (21, r, 0) 11 = nI w.2.1 ∧ I (21, r, 0) 13 = w.2.2.1 0 ∧ I (21, r, 0) 14 = w.2.2.1 1 ∧ I (21, r, 0) 15 = w.2.2.1 2) ∧ (∀ i, i < w.1 → ∀ f, f < 7 → I (32, r, i) f = w.2.2.2.1 i f) ∧ (∀ j, j < w.2.1 → ∀ f, f < 3 → I (34, r, j) f = w.2.2.2.2 j f)
def sp_okI (q : Nat → Int32) : Prop := (0 ≤ q 0 ∧ q 0 ≤ 100) ∧ (0 ≤ q 1 ∧ q 1 ≤ 100) ∧ (1 ≤ q 2 ∧ q 2 ≤ 20) ∧ (0 ≤ q 3 ∧ q 3 ≤ 99) ∧ (-1 ≤ q 4 ∧ q 4 ≤ 100) ∧ (0 ≤ q 5 ∧ q 5 ≤ 99)
def sp_okG (h : Nat → Int32) : Prop := (0 ≤ h 0 ∧ h 0 ≤ 5) ∧ (1 ≤ h 1 ∧ h 1 ≤ 30) ∧ (0 ≤ h 2 ∧ h 2 ≤ 99)
def sp_ok (w : eb_W) : Prop := w.1 ≤ 6 ∧ w.2.1 ≤ 6 ∧ (0 ≤ w.2.2.1 0 ∧ w.2.2.1 0 ≤ 99) ∧ (∀ i, i < w.1 → sp_okI (w.2.2.2.1 i)) ∧ (∀ j, j < w.2.1 → sp_okG (w.2.2.2.2 j))

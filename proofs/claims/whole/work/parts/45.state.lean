/-! a state of the whole: (the valley in truth, the image, what shelves hold, their rows' sizes and elements, the tape, refusals); what each call answers and leaves -/
abbrev eb_St : Type := eb_W × Option eb_W × (Nat → Int32) × (Nat → Nat) × (Nat → Nat → Int64) × ((Nat → Int32) × Nat) × (Nat → Int32)
abbrev ss_h (S : eb_St) : Nat → Int32 := S.2.2.1
abbrev ss_n (S : eb_St) : Nat → Nat := S.2.2.2.1
abbrev ss_e (S : eb_St) : Nat → Nat → Int64 := S.2.2.2.2.1
abbrev ss_t (S : eb_St) : (Nat → Int32) × Nat := S.2.2.2.2.2.1
abbrev ss_r (S : eb_St) : Nat → Int32 := S.2.2.2.2.2.2
abbrev tn (x : Int32) : Nat := x.toNatClampNeg
def sp_rf (S : eb_St) (k : Nat) : eb_St := (S.1, S.2.1, ss_h S, ss_n S, ss_e S, ss_t S, sp_up (ss_r S) k (ss_r S k + 1))
def sp_no (S : eb_St) (k : Nat) : Int32 × eb_St := (-2 - nI k, sp_rf S k)
def sp_far (S : eb_St) (k : Nat) : Int32 × eb_St := (-1000002 - nI k, sp_rf S k)
def sp_toW (S : eb_St) (w : eb_W) : eb_St := (w, S.2)
def sp_toH (S : eb_St) (s : Nat) (v : Int32) : eb_St := (S.1, S.2.1, sp_up (ss_h S) s v, ss_n S, ss_e S, ss_t S, ss_r S)
def sp_toE (S : eb_St) (s : Nat) (e : Nat → Int64) : eb_St := (S.1, S.2.1, ss_h S, ss_n S, sp_up (ss_e S) s e, ss_t S, ss_r S)
def sp_toT (S : eb_St) (t : (Nat → Int32) × Nat) : eb_St := (S.1, S.2.1, ss_h S, ss_n S, ss_e S, t, ss_r S)
abbrev sp_rg (v a b : Int32) : Prop := a ≤ v ∧ v ≤ b
abbrev sp_iI (w : eb_W) (i : Int32) : Prop := 0 ≤ i ∧ i < nI w.1
abbrev sp_iG (w : eb_W) (g : Int32) : Prop := 0 ≤ g ∧ g < nI w.2.1
abbrev sp_iS (w : eb_W) (s : Int32) : Prop := 0 ≤ s ∧ s < nI (2 ^ w.1)
def sf_row (S : eb_St) (s sort n : Int32) : Int32 × eb_St := if sp_rg s 0 7 ∧ sp_rg sort 0 4 ∧ sp_rg n 0 40 then (1, S.1, S.2.1, sp_up (ss_h S) (tn s) sort, sp_up (ss_n S) (tn s) (tn n), sp_up (ss_e S) (tn s) (fun _ => 0), ss_t S, ss_r S) else sp_no S 0
def sp_fault (S : eb_St) (s : Int32) : Option Nat := if ¬ sp_rg s 0 7 then some 0 else if ¬ ss_h S (tn s) < 10 then some 1 else if sp_rg (ss_h S (tn s)) 0 4 then none else some 2
def sf_set (S : eb_St) (s i : Int32) (v : Int64) : Int32 × eb_St := match sp_fault S s with
  | some k => sp_no S k
  | none => if 0 ≤ i ∧ i < nI (ss_n S (tn s)) then (1, sp_toE S (tn s) (sp_up (ss_e S (tn s)) (tn i) (xs_low (ss_h S (tn s)) v))) else sp_no S 0
def sf_copy (S : eb_St) (p q i j n : Int32) : Int32 × eb_St :=
  if ¬ (sp_rg p 0 7 ∧ sp_rg q 0 7) then sp_no S 0
  else if ¬ ss_h S (tn p) < 10 ∨ ¬ ss_h S (tn q) < 10 ∨ ¬ ss_h S (tn p) = -1 ∧ ¬ ss_h S (tn q) = -1 ∧ ¬ ss_h S (tn p) = ss_h S (tn q) then sp_no S 1
  else if ss_h S (tn p) = -1 ∨ ss_h S (tn q) = -1 then sp_no S 2
  else if 0 ≤ n ∧ (0 ≤ i ∧ i ≤ nI (ss_n S (tn p)) - n) ∧ (0 ≤ j ∧ j ≤ nI (ss_n S (tn q)) - n) then (n, sp_toE S (tn q) (fun l => if tn j ≤ l ∧ l < tn j + tn n then ss_e S (tn p) (tn i + (l - tn j)) else ss_e S (tn q) l))
  else sp_no S 0
def sf_element (S : eb_St) (s i : Int32) : Int64 := if sp_rg s 0 7 ∧ sp_rg (ss_h S (tn s)) 0 4 ∧ 0 ≤ i ∧ i < nI (ss_n S (tn s)) then ss_e S (tn s) (tn i) else 0
def sf_holds (S : eb_St) (s : Int32) : Int32 × eb_St := (if sp_rg s 0 7 then ss_h S (tn s) else -1, S)
def sf_show (S : eb_St) (s g : Int32) : Int32 × eb_St := if sp_rg s 0 7 ∧ (g = -1 ∨ sp_iG S.1 g) then (1, sp_toH S (tn s) (if g = -1 then -1 else 10 + g)) else sp_no S 0
def sf_says (S : eb_St) (s kind : Int32) : Int32 × eb_St :=
  if ¬ (sp_rg s 0 7 ∧ sp_rg kind 0 5) then sp_no S 0
  else if sp_rg (ss_h S (tn s)) 0 4 then sp_no S 1
  else if ss_h S (tn s) < 10 then sp_no S 2
  else if ¬ (kind = 0 ∨ kind = S.1.2.2.2.2 (tn (ss_h S (tn s) - 10)) 0 ∨ kind = 1 ∧ ¬ S.1.2.2.2.2 (tn (ss_h S (tn s) - 10)) 0 = 0 ∧ ¬ S.1.2.2.2.2 (tn (ss_h S (tn s) - 10)) 0 = 3) then sp_no S 1
  else (if kind = 0 then S.1.2.2.2.2 (tn (ss_h S (tn s) - 10)) 1 else sp_enc (sp_choice S.1 (tn (ss_h S (tn s) - 10))), S)
def sf_inn (S : eb_St) (g r p : Int32) : Int32 × eb_St := if ¬ (sp_rg g 0 100 ∧ sp_rg r 1 20 ∧ sp_rg p 0 99) then sp_no S 0 else if S.1.1 = 6 then sp_no S 4 else (nI S.1.1, sp_toW S (sp_inn S.1 g r p (-1)))
def sf_goer (S : eb_St) (k h a : Int32) : Int32 × eb_St := if ¬ (sp_rg k 0 5 ∧ sp_rg h 1 30 ∧ sp_rg a 0 99) then sp_no S 0 else if S.1.2.1 = 6 then sp_no S 4 else (nI S.1.2.1, sp_toW S (sp_goer S.1 k h a))
def sf_change (S : eb_St) (i what v : Int32) : Int32 × eb_St := if sp_iI S.1 i ∧ sp_rg what 0 1 ∧ 0 ≤ v ∧ v ≤ (if what = 0 then 100 else 99) then (S.1.2.2.2.1 (tn i) (if what = 0 then 0 else 3), sp_toW S (sp_setI S.1 (tn i) (if what = 0 then 0 else 3) v)) else sp_no S 0
def sf_say (S : eb_St) (i v : Int32) : Int32 × eb_St := if sp_iI S.1 i ∧ (v = -1 ∨ sp_rg v 0 100) then (S.1.2.2.2.1 (tn i) 4, sp_toW S (sp_setI S.1 (tn i) 4 v)) else sp_no S 0
def sf_write (S : eb_St) (s : Int32) : Int32 × eb_St := if sp_iS S.1 s then (sp_cnt s S.1.1, sp_toW S (sp_write S.1 s)) else sp_no S 0
def sf_letter (S : eb_St) (i v : Int32) : Int32 × eb_St := if ¬ (sp_iI S.1 i ∧ sp_rg v 0 100) then sp_no S 0 else if S.1.2.2.2.1 (tn i) 5 < 99 then (S.1.2.2.2.1 (tn i) 5 + 1, sp_toW S (sp_setI (sp_setI S.1 (tn i) 5 (S.1.2.2.2.1 (tn i) 5 + 1)) (tn i) 6 (S.1.2.2.2.1 (tn i) 6 + v))) else sp_no S 4
def sf_age (S : eb_St) (v : Int32) : Int32 × eb_St := if sp_rg v 0 99 then (S.1.2.2.1 0, sp_toW S (sp_setS S.1 0 v)) else sp_no S 0
def sf_heads (S : eb_St) (g v : Int32) : Int32 × eb_St := if sp_iG S.1 g ∧ sp_rg v 1 30 then (S.1.2.2.2.2 (tn g) 1, sp_toW S (sp_setG S.1 (tn g) 1 v)) else sp_no S 0
def sf_feed (S : eb_St) (b : Int32) : Int32 × eb_St := if ¬ sp_rg b 0 255 then sp_no S 0 else if (ss_t S).2 = 250 then sp_no S 4 else (nI ((ss_t S).2 + 1), sp_toT S (sp_up (ss_t S).1 (ss_t S).2 b, (ss_t S).2 + 1))
def sf_wipe (S : eb_St) : Int32 × eb_St := (nI (ss_t S).2, sp_toT S ((ss_t S).1, 0))
def sf_innOf (S : eb_St) (i what : Int32) : Int32 × eb_St := if sp_iI S.1 i ∧ sp_rg what 0 6 then (S.1.2.2.2.1 (tn i) (tn what), S) else sp_no S 0
def sf_goerOf (S : eb_St) (g what : Int32) : Int32 × eb_St := if sp_iG S.1 g ∧ sp_rg what 0 2 then (S.1.2.2.2.2 (tn g) (tn what), S) else sp_no S 0
def sf_score (S : eb_St) (g i : Int32) : Int32 × eb_St := if sp_iG S.1 g ∧ sp_iI S.1 i then (sp_score (S.1.2.2.1 0) (S.1.2.2.2.1 (tn i)) (S.1.2.2.2.2 (tn g)) (S.1.2.2.2.1 (tn i) 4), S) else sp_far S 0
def sf_sleeps (S : eb_St) (g i : Int32) : Int32 × eb_St := if sp_iG S.1 g ∧ sp_iI S.1 i then ((sp_night S.1).2.1 (tn g) (tn i), S) else sp_no S 0
def sf_guests (S : eb_St) (i : Int32) : Int32 × eb_St := if sp_iI S.1 i then ((sp_night S.1).1 (tn i), S) else sp_no S 0
def sf_out (S : eb_St) (g : Int32) : Int32 × eb_St := if g = -1 then (sp_sum (sp_night S.1).2.2 S.1.2.1, S) else if sp_iG S.1 g then ((sp_night S.1).2.2 (tn g), S) else sp_no S 0
def sf_full (S : eb_St) : Int32 × eb_St := (sp_fullset S.1 (sp_night S.1) S.1.1, S)
def sf_joy (S : eb_St) (g : Int32) : Int32 × eb_St := if g = -1 then (sp_joyAll S.1 (sp_night S.1), S) else if sp_iG S.1 g then (sp_joy S.1 (sp_night S.1) (tn g), S) else sp_far S 0
def sf_taken (S : eb_St) (i : Int32) : Int32 × eb_St := if sp_iI S.1 i then (S.1.2.2.2.1 (tn i) 3 * (sp_night S.1).1 (tn i), S) else sp_no S 0
def sf_crowd (S : eb_St) (i : Int32) : Int32 × eb_St := if sp_iI S.1 i then (sp_crowd S.1 i, S) else sp_no S 0
def sf_lean (S : eb_St) (i : Int32) : Int32 × eb_St := if ¬ sp_iI S.1 i then sp_far S 0 else if S.1.2.2.2.1 (tn i) 5 < 1 then sp_far S 3 else (S.1.2.2.2.1 (tn i) 6 / S.1.2.2.2.1 (tn i) 5 - S.1.2.2.2.1 (tn i) 0, S)
def sf_truest (S : eb_St) : Int32 × eb_St := match sp_truest S.1 with
  | none => sp_no S 3
  | some b => (nI b, S)
def sp_abs (x : Int32) : Int32 := if 0 ≤ x then x else 0 - x
def sp_oldest (w : eb_W) : Option Nat := sp_best (fun i => decide (¬ w.2.2.2.1 i 4 = -1)) (fun i => sp_abs (w.2.2.2.1 i 4 - w.2.2.2.1 i 0)) w.1
def sf_oldest (S : eb_St) : Int32 × eb_St := (sp_enc (sp_oldest S.1), S)
/-- the first of c numbers from k on of which p; -1 -/
def sp_fst (p : Nat → Bool) : Nat → Nat → Int32
  | _, 0 => -1
  | k, c + 1 => if p k = true then nI k else sp_fst p (k + 1) c
/-- the greatest below n of which p; -1 -/
def sp_lst (p : Nat → Bool) : Nat → Int32
  | 0 => -1
  | n + 1 => if p n = true then nI n else sp_lst p n
def sf_enough (S : eb_St) (i : Int32) : Int32 × eb_St := if sp_iI S.1 i then (sp_fst (fun r => decide ((sp_night (sp_setI S.1 (tn i) 2 (nI r))).1 (tn i) < nI r)) 1 20, S) else sp_no S 0
def sf_better (S : eb_St) (g : Int32) : Int32 × eb_St := if sp_iG S.1 g then (sp_enc (sp_best (fun _ => true) (fun k => sp_joy (sp_setG S.1 (tn g) 0 (nI k)) (sp_night (sp_setG S.1 (tn g) 0 (nI k))) (tn g)) 6), S) else sp_no S 0
def sf_trust (S : eb_St) (i : Int32) : Int32 × eb_St := if sp_iI S.1 i then (sp_lst (fun a => decide (0 < sp_crowd (sp_setS S.1 0 (nI a)) i)) 100, S) else sp_no S 0
def sf_share (S : eb_St) (g : Int32) : Int32 × eb_St := if ¬ sp_iG S.1 g then sp_no S 0 else match sp_truest S.1 with
  | none => sp_no S 3
  | some b => (100 * (sp_night S.1).2.1 (tn g) b / S.1.2.2.2.2 (tn g) 1, S)
def sf_nine (S : eb_St) (i n v : Int32) : Int32 × eb_St := if sp_iI S.1 i ∧ sp_rg n 1 40 ∧ sp_rg v 0 100 then ((S.1.2.2.2.1 (tn i) 6 + n * v) / (S.1.2.2.2.1 (tn i) 5 + n) - S.1.2.2.2.1 (tn i) 0, S) else sp_far S 0
def sf_two (S : eb_St) (a b : Int32) : Int32 × eb_St := if sp_iS S.1 a ∧ sp_iS S.1 b then (sp_joyAll (sp_two S.1 a b).1 (sp_two S.1 a b).2, S) else sp_far S 0
def sf_judge (S : eb_St) (s : Int32) : Int32 × eb_St := match sp_fault S s with
  | some k => sp_no S k
  | none => if ss_n S (tn s) < S.1.2.1 * S.1.1 then sp_no S 0 else (sp_fst (fun k => decide (¬ ss_e S (tn s) k = ((sp_night S.1).2.1 (k / S.1.1) (k % S.1.1)).toInt64)) 0 (S.1.2.1 * S.1.1), S)
def sf_years (S : eb_St) (n g : Int32) : Int32 × eb_St := if sp_rg n 1 12 ∧ (g = -1 ∨ sp_iG S.1 g) then ((if g = -1 then (sp_years S.1 (tn n)).1 else (sp_years S.1 (tn n)).2.1 (tn g)), S) else sp_far S 0
def sf_then (S : eb_St) (n i what : Int32) : Int32 × eb_St := if sp_rg n 1 12 ∧ sp_iI S.1 i ∧ sp_rg what 0 2 then ((if what = 0 then (sp_at S.1 (tn n)).2.2.2.1 (tn i) 0 else if what = 1 then (sp_at S.1 (tn n)).2.2.2.1 (tn i) 3 else (sp_years S.1 (tn n)).2.2.1 (tn i)), S) else sp_no S 0
/-- joy of n years, if a set were written -/
def sp_jw (w : eb_W) (n s : Nat) : Int32 := (sp_years (sp_write w (nI s)) n).1
/-- how many a set has -/
def sp_pop (s : Nat) : Nat := s % 2 + s / 2 % 2 + s / 4 % 2 + s / 8 % 2 + s / 16 % 2 + s / 32 % 2
def sp_book (w : eb_W) (n k : Nat) : Option Nat := sp_best (fun s => decide (sp_pop s ≤ k)) (sp_jw w n) (2 ^ w.1)
def sf_book (S : eb_St) (n k : Int32) : Int32 × eb_St := if sp_rg n 1 12 ∧ sp_rg k 0 6 then (sp_enc (sp_book S.1 (tn n) (tn k)), S) else sp_no S 0
def sf_written (S : eb_St) (n s : Int32) : Int32 × eb_St := if sp_rg n 1 12 ∧ sp_iS S.1 s then (sp_jw S.1 (tn n) (tn s), S) else sp_far S 0
/-- a set of k at most has the greatest joy of all -/
def sp_top (w : eb_W) (n k : Nat) : Prop := ∃ s, s < 2 ^ w.1 ∧ sp_pop s ≤ k ∧ ∀ t, t < 2 ^ w.1 → sp_jw w n t ≤ sp_jw w n s
noncomputable def sf_many (S : eb_St) (n : Int32) : Int32 × eb_St := if sp_rg n 1 12 then (sp_fst (fun k => @decide (sp_top S.1 (tn n) k) (Classical.propDecidable _)) 0 7, S) else sp_no S 0
/-- the y-th digit of a row of n digits -/
def sp_dig (b n row y : Nat) : Nat := row / b ^ (n - 1 - y) % b
def sp_ahead (w : eb_W) (c : Nat) : eb_W := if c = 0 then w else sp_setI w (c - 1) 4 (w.2.2.2.1 (c - 1) 0)
/-- a round: the joy of the first y years of a row, the valley then -/
def sp_rnd (w : eb_W) (ds : Nat → Nat) : Nat → Int32 × eb_W
  | 0 => (0, w)
  | y + 1 => ((sp_rnd w ds y).1 + (sp_years (sp_ahead (sp_rnd w ds y).2 (ds y)) 1).1, sp_at (sp_ahead (sp_rnd w ds y).2 (ds y)) 1)
def sp_rj (w : eb_W) (n row : Nat) : Int32 := (sp_rnd w (sp_dig (w.1 + 1) n row) n).1
def sp_round (w : eb_W) (n : Nat) : Nat := (sp_best (fun _ => true) (sp_rj w n) ((w.1 + 1) ^ n)).getD 0
def sf_round (S : eb_St) (n i : Int32) : Int32 × eb_St := if sp_rg n 1 3 ∧ (i = -1 ∨ 0 ≤ i ∧ i < n) then ((if i = -1 then sp_rj S.1 (tn n) (sp_round S.1 (tn n)) else nI (sp_dig (S.1.1 + 1) (tn n) (sp_round S.1 (tn n)) (tn i)) - 1), S) else sp_far S 0
def sf_kept (S : eb_St) (n i : Int32) : Int32 × eb_St := if ¬ (sp_rg n 1 12 ∧ sp_iI S.1 i) then sp_far S 0 else if S.1.2.2.2.1 (tn i) 4 = -1 then sp_far S 3 else (sp_own (sp_setI S.1 (tn i) 4 (-1)) (tn n) - sp_own S.1 (tn n), S)
def sf_called (S : eb_St) (n i v : Int32) : Int32 × eb_St := if sp_rg n 1 12 ∧ sp_iI S.1 i ∧ sp_rg v 0 100 then ((sp_years (sp_setI S.1 (tn i) 4 v) (tn n)).1 - (sp_years S.1 (tn n)).1, S) else sp_far S 0
def sf_spoilt (S : eb_St) (i g : Int32) : Int32 × eb_St := if sp_iI S.1 i ∧ sp_rg g 0 100 then (sp_fst (fun y => decide ((sp_at S.1 y).2.2.2.1 (tn i) 0 < g)) 1 30, S) else sp_no S 0
/-- the greatest of n down to 1 of which p; -1 -/
def sp_lst1 (p : Nat → Bool) : Nat → Int32
  | 0 => -1
  | n + 1 => if p (n + 1) = true then nI (n + 1) else sp_lst1 p n
def sf_bears (S : eb_St) (g i n l : Int32) : Int32 × eb_St := if sp_iG S.1 g ∧ sp_iI S.1 i ∧ sp_rg n 1 12 ∧ sp_rg l 0 100 then (sp_lst1 (fun h => sp_stays (sp_setG S.1 (tn g) 1 (nI h)) (tn i) l (tn n)) 30, S) else sp_no S 0
def sf_recovers (S : eb_St) (i : Int32) : Int32 × eb_St := if sp_iI S.1 i then (sp_fst (fun y => decide ((sp_at (sp_write S.1 0) y).2.2.2.1 (tn i) 1 ≤ (sp_at (sp_write S.1 0) y).2.2.2.1 (tn i) 0)) 1 30, S) else sp_no S 0
/-- (which, how much): the first of the greatest above -1 -/
def sp_most (f : Nat → Int32) : Nat → Int32 × Int32
  | 0 => (0, -1)
  | p + 1 => if (sp_most f p).2 < f p then (nI p, f p) else sp_most f p
def sf_dearest (S : eb_St) (n i : Int32) : Int32 × eb_St := if sp_rg n 1 12 ∧ sp_iI S.1 i then ((sp_most (fun p => (sp_years (sp_setI S.1 (tn i) 3 (nI p)) (tn n)).2.2.1 (tn i)) 100).1, S) else sp_no S 0
def sf_year (S : eb_St) : Int32 × eb_St := ((sp_years S.1 1).1, sp_toW S (sp_at S.1 1))
def sf_goes (S : eb_St) (n : Int32) : Int32 × eb_St := if sp_rg n 1 12 then ((sp_years S.1 (tn n)).1, sp_toW S (sp_at S.1 (tn n))) else sp_far S 0
def sp_post (w : eb_W) : Nat → eb_W × Int32
  | 0 => (w, 0)
  | n + 1 => ((sp_post1 (sp_post w n).1).1, (sp_post w n).2 + (sp_post1 (sp_post w n).1).2)
def sf_post (S : eb_St) (n : Int32) : Int32 × eb_St := if ¬ sp_rg n 1 40 then sp_no S 0 else if S.1.1 = 0 then sp_no S 3 else ((sp_post S.1 (tn n)).2, sp_toW S (sp_post S.1 (tn n)).1)
def sf_seed (S : eb_St) (v : Int32) : Int32 × eb_St := (S.1.2.2.1 2, sp_toW S (sp_setS S.1 2 v))
def sf_image (S : eb_St) : Int32 × eb_St := (1, S.1, some S.1, S.2.2)
def sf_back (S : eb_St) : Int32 × eb_St := match S.2.1 with
  | none => sp_no S 3
  | some p => (1, p, S.2.1, (fun s => if ¬ ss_h S s < 10 ∧ ¬ ss_h S s - 10 < nI p.2.1 then -1 else ss_h S s), ss_n S, ss_e S, ss_t S, ss_r S)
def sf_status (S : eb_St) (what : Int32) : Int32 × eb_St := (
  if what = 0 then nI S.1.1 else if what = 1 then nI S.1.2.1 else if what = 2 then S.1.2.2.1 0 else if what = 3 then sp_inbook S.1 S.1.1
  else if what = 4 then sp_sum (fun i => S.1.2.2.2.1 i 2) S.1.1 else if what = 5 then sp_sum (fun j => S.1.2.2.2.2 j 1) S.1.2.1 else if what = 6 then S.1.2.2.1 1
  else if what = 7 then nI (ss_t S).2 else if what = 8 then S.1.2.2.1 2 else if what = 9 then sp_sum (fun s => if ss_h S s = -1 then 0 else 1) 8
  else if sp_rg what 12 16 then ss_r S (tn what - 12) else -1, S)

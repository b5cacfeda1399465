/-! a state stays well, whatever is called -/
section
variable {S : eb_St} {w : eb_W} {a b c e : Int32} {v : Int64}
theorem St_rf {k : Nat} (h : sp_St S) : sp_St (sp_rf S k) := h
theorem St_W (h : sp_St S) (hw : sp_ok w) (hg : S.1.2.1 ≤ w.2.1) : sp_St (sp_toW S w) := by
  obtain ⟨h1, h2, h3, h4⟩ := h
  refine ⟨hw, h2, fun s hs => ?_, h4⟩
  rcases h3 s hs with q | q | ⟨g, q1, q2⟩
  · exact Or.inl q
  · exact Or.inr (Or.inl q)
  · exact Or.inr (Or.inr ⟨g, Nat.lt_of_lt_of_le q1 hg, q2⟩)
theorem St_E {s : Nat} {x : Nat → Int64} (h : sp_St S) : sp_St (sp_toE S s x) := h
theorem St_T {t : (Nat → Int32) × Nat} (h : sp_St S) (ht : t.2 ≤ 250 ∧ ∀ j, j < t.2 → sp_rg (t.1 j) 0 255) : sp_St (sp_toT S t) := ⟨h.1, h.2.1, h.2.2.1, ht⟩
theorem St_H {s : Nat} {x : Int32} (h : sp_St S) (hx : x = -1 ∨ ∃ g, g < S.1.2.1 ∧ x = nI (10 + g)) : sp_St (sp_toH S s x) := by
  obtain ⟨h1, h2, h3, h4⟩ := h
  refine ⟨h1, h2, fun k hk => ?_, h4⟩
  show sp_up (ss_h S) s x k = -1 ∨ (sp_rg (sp_up (ss_h S) s x k) 0 4 ∧ ss_n S k ≤ 40) ∨ ∃ g, g < S.1.2.1 ∧ sp_up (ss_h S) s x k = nI (10 + g)
  by_cases q : k = s
  · subst q
    rw [show sp_up (ss_h S) k x k = x from if_pos rfl]
    exact hx.imp (fun z => z) (fun z => Or.inr z)
  · rw [show sp_up (ss_h S) s x k = ss_h S k from if_neg q]
    exact h3 k hk
theorem St_holds (h : sp_St S) : sp_St (sf_holds S a).2 := by
  unfold sf_holds
  (repeat' split) <;> first | exact h | exact St_rf h
theorem St_says (h : sp_St S) : sp_St (sf_says S a b).2 := by
  unfold sf_says
  (repeat' split) <;> first | exact h | exact St_rf h
theorem St_innOf (h : sp_St S) : sp_St (sf_innOf S a b).2 := by
  unfold sf_innOf
  (repeat' split) <;> first | exact h | exact St_rf h
theorem St_goerOf (h : sp_St S) : sp_St (sf_goerOf S a b).2 := by
  unfold sf_goerOf
  (repeat' split) <;> first | exact h | exact St_rf h
theorem St_score (h : sp_St S) : sp_St (sf_score S a b).2 := by
  unfold sf_score
  (repeat' split) <;> first | exact h | exact St_rf h
theorem St_sleeps (h : sp_St S) : sp_St (sf_sleeps S a b).2 := by
  unfold sf_sleeps
  (repeat' split) <;> first | exact h | exact St_rf h
theorem St_guests (h : sp_St S) : sp_St (sf_guests S a).2 := by
  unfold sf_guests
  (repeat' split) <;> first | exact h | exact St_rf h
theorem St_out (h : sp_St S) : sp_St (sf_out S a).2 := by
  unfold sf_out
  (repeat' split) <;> first | exact h | exact St_rf h
theorem St_full (h : sp_St S) : sp_St (sf_full S).2 := by
  unfold sf_full
  (repeat' split) <;> first | exact h | exact St_rf h
theorem St_joy (h : sp_St S) : sp_St (sf_joy S a).2 := by
  unfold sf_joy
  (repeat' split) <;> first | exact h | exact St_rf h
theorem St_taken (h : sp_St S) : sp_St (sf_taken S a).2 := by
  unfold sf_taken
  (repeat' split) <;> first | exact h | exact St_rf h
theorem St_crowd (h : sp_St S) : sp_St (sf_crowd S a).2 := by
  unfold sf_crowd
  (repeat' split) <;> first | exact h | exact St_rf h
theorem St_lean (h : sp_St S) : sp_St (sf_lean S a).2 := by
  unfold sf_lean
  (repeat' split) <;> first | exact h | exact St_rf h
theorem St_truest (h : sp_St S) : sp_St (sf_truest S).2 := by
  unfold sf_truest
  (repeat' split) <;> first | exact h | exact St_rf h
theorem St_oldest (h : sp_St S) : sp_St (sf_oldest S).2 := by
  unfold sf_oldest
  (repeat' split) <;> first | exact h | exact St_rf h
theorem St_enough (h : sp_St S) : sp_St (sf_enough S a).2 := by
  unfold sf_enough
  (repeat' split) <;> first | exact h | exact St_rf h
theorem St_better (h : sp_St S) : sp_St (sf_better S a).2 := by
  unfold sf_better
  (repeat' split) <;> first | exact h | exact St_rf h
theorem St_trust (h : sp_St S) : sp_St (sf_trust S a).2 := by
  unfold sf_trust
  (repeat' split) <;> first | exact h | exact St_rf h
theorem St_share (h : sp_St S) : sp_St (sf_share S a).2 := by
  unfold sf_share
  (repeat' split) <;> first | exact h | exact St_rf h
theorem St_nine (h : sp_St S) : sp_St (sf_nine S a b c).2 := by
  unfold sf_nine
  (repeat' split) <;> first | exact h | exact St_rf h
theorem St_two (h : sp_St S) : sp_St (sf_two S a b).2 := by
  unfold sf_two
  (repeat' split) <;> first | exact h | exact St_rf h
theorem St_judge (h : sp_St S) : sp_St (sf_judge S a).2 := by
  unfold sf_judge
  (repeat' split) <;> first | exact h | exact St_rf h
theorem St_years (h : sp_St S) : sp_St (sf_years S a b).2 := by
  unfold sf_years
  (repeat' split) <;> first | exact h | exact St_rf h
theorem St_then (h : sp_St S) : sp_St (sf_then S a b c).2 := by
  unfold sf_then
  (repeat' split) <;> first | exact h | exact St_rf h
theorem St_book (h : sp_St S) : sp_St (sf_book S a b).2 := by
  unfold sf_book
  (repeat' split) <;> first | exact h | exact St_rf h
theorem St_written (h : sp_St S) : sp_St (sf_written S a b).2 := by
  unfold sf_written
  (repeat' split) <;> first | exact h | exact St_rf h
theorem St_many (h : sp_St S) : sp_St (sf_many S a).2 := by
  unfold sf_many
  (repeat' split) <;> first | exact h | exact St_rf h
theorem St_round (h : sp_St S) : sp_St (sf_round S a b).2 := by
  unfold sf_round
  (repeat' split) <;> first | exact h | exact St_rf h
theorem St_kept (h : sp_St S) : sp_St (sf_kept S a b).2 := by
  unfold sf_kept
  (repeat' split) <;> first | exact h | exact St_rf h
theorem St_called (h : sp_St S) : sp_St (sf_called S a b c).2 := by
  unfold sf_called
  (repeat' split) <;> first | exact h | exact St_rf h
theorem St_spoilt (h : sp_St S) : sp_St (sf_spoilt S a b).2 := by
  unfold sf_spoilt
  (repeat' split) <;> first | exact h | exact St_rf h
theorem St_bears (h : sp_St S) : sp_St (sf_bears S a b c e).2 := by
  unfold sf_bears
  (repeat' split) <;> first | exact h | exact St_rf h
theorem St_recovers (h : sp_St S) : sp_St (sf_recovers S a).2 := by
  unfold sf_recovers
  (repeat' split) <;> first | exact h | exact St_rf h
theorem St_dearest (h : sp_St S) : sp_St (sf_dearest S a b).2 := by
  unfold sf_dearest
  (repeat' split) <;> first | exact h | exact St_rf h
theorem St_status (h : sp_St S) : sp_St (sf_status S a).2 := by
  unfold sf_status
  (repeat' split) <;> first | exact h | exact St_rf h
theorem St_row (h : sp_St S) : sp_St (sf_row S a b c).2 := by
  unfold sf_row
  by_cases q : sp_rg a 0 7 ∧ sp_rg b 0 4 ∧ sp_rg c 0 40
  · rw [if_pos q]
    obtain ⟨h1, h2, h3, h4⟩ := h
    refine ⟨h1, h2, fun k hk => ?_, h4⟩
    show sp_up (ss_h S) (tn a) b k = -1 ∨ (sp_rg (sp_up (ss_h S) (tn a) b k) 0 4 ∧ sp_up (ss_n S) (tn a) (tn c) k ≤ 40) ∨ ∃ g, g < S.1.2.1 ∧ sp_up (ss_h S) (tn a) b k = nI (10 + g)
    by_cases z : k = tn a
    · subst z
      rw [show sp_up (ss_h S) (tn a) b (tn a) = b from if_pos rfl, show sp_up (ss_n S) (tn a) (tn c) (tn a) = tn c from if_pos rfl]
      obtain ⟨m, hm, rfl⟩ := rg_le 40 (by omega) (by decide) q.2.2
      exact Or.inr (Or.inl ⟨q.2.1, by rw [show tn (nI m) = m from nI_cl_b (by omega)]; exact hm⟩)
    · rw [show sp_up (ss_h S) (tn a) b k = ss_h S k from if_neg z, show sp_up (ss_n S) (tn a) (tn c) k = ss_n S k from if_neg z]
      exact h3 k hk
  · rw [if_neg q]; exact St_rf h
theorem St_set (h : sp_St S) : sp_St (sf_set S a b v).2 := by
  unfold sf_set
  (repeat' split) <;> first | exact St_rf h | exact St_E h
theorem St_copy (h : sp_St S) {f : Int32} : sp_St (sf_copy S a b c e f).2 := by
  unfold sf_copy
  (repeat' split) <;> first | exact St_rf h | exact St_E h
theorem St_show (h : sp_St S) : sp_St (sf_show S a b).2 := by
  unfold sf_show
  by_cases q : sp_rg a 0 7 ∧ (b = -1 ∨ sp_iG S.1 b)
  · rw [if_pos q]
    refine St_H h ?_
    by_cases z : b = -1
    · rw [if_pos z]; exact Or.inl rfl
    · rw [if_neg z]
      have hg := h.1.2.1
      obtain ⟨g, hg2, rfl⟩ := rg_nat (by omega) (q.2.resolve_left z)
      exact Or.inr ⟨g, hg2, nI_add 10 g⟩
  · rw [if_neg q]; exact St_rf h
theorem St_inn (h : sp_St S) : sp_St (sf_inn S a b c).2 := by
  unfold sf_inn
  by_cases q : sp_rg a 0 100 ∧ sp_rg b 1 20 ∧ sp_rg c 0 99
  · rw [if_neg (fun z => z q)]
    by_cases z : S.1.1 = 6
    · rw [if_pos z]; exact St_rf h
    · rw [if_neg z]; exact St_W h (sp_ok_inn h.1 z q.1 q.2.1 q.2.2 ⟨by decide, by decide⟩) (Nat.le_refl _)
  · rw [if_pos q]; exact St_rf h
theorem St_goer (h : sp_St S) : sp_St (sf_goer S a b c).2 := by
  unfold sf_goer
  by_cases q : sp_rg a 0 5 ∧ sp_rg b 1 30 ∧ sp_rg c 0 99
  · rw [if_neg (fun z => z q)]
    by_cases z : S.1.2.1 = 6
    · rw [if_pos z]; exact St_rf h
    · rw [if_neg z]; exact St_W h (sp_ok_goer h.1 z q.1 q.2.1 q.2.2) (Nat.le_succ _)
  · rw [if_pos q]; exact St_rf h
theorem St_change (h : sp_St S) : sp_St (sf_change S a b c).2 := by
  unfold sf_change
  by_cases q : sp_iI S.1 a ∧ sp_rg b 0 1 ∧ 0 ≤ c ∧ c ≤ (if b = 0 then 100 else 99)
  · rw [if_pos q]
    by_cases z : b = 0
    · rw [if_pos z] at q
      simp only [if_pos z]
      exact St_W h (ok_setI h.1 (fun k => ⟨q.2.2, k.2⟩)) (Nat.le_refl _)
    · rw [if_neg z] at q
      simp only [if_neg z]
      exact St_W h (ok_setI h.1 (fun k => okI_3 k q.2.2)) (Nat.le_refl _)
  · rw [if_neg q]; exact St_rf h
theorem St_say (h : sp_St S) : sp_St (sf_say S a b).2 := by
  unfold sf_say
  by_cases q : sp_iI S.1 a ∧ (b = -1 ∨ sp_rg b 0 100)
  · rw [if_pos q]
    exact St_W h (ok_setI h.1 (fun k => okI_4 k (rg_m1.symm ▸ q.2))) (Nat.le_refl _)
  · rw [if_neg q]; exact St_rf h
theorem St_write (h : sp_St S) : sp_St (sf_write S a).2 := by
  unfold sf_write
  split
  · exact St_W h (sp_ok_write h.1) (Nat.le_refl _)
  · exact St_rf h
theorem St_letter (h : sp_St S) : sp_St (sf_letter S a b).2 := by
  unfold sf_letter
  split
  · exact St_rf h
  · split
    · next q => exact St_W h (ok_letter h.1 q) (Nat.le_refl _)
    · exact St_rf h
theorem St_age (h : sp_St S) : sp_St (sf_age S a).2 := by
  unfold sf_age
  split
  · next q => exact St_W h (ok_setA h.1 q) (Nat.le_refl _)
  · exact St_rf h
theorem St_heads (h : sp_St S) : sp_St (sf_heads S a b).2 := by
  unfold sf_heads
  split
  · next q => exact St_W h (ok_setG h.1 (fun k => okG_1 k q.2)) (Nat.le_refl _)
  · exact St_rf h
theorem St_feed (h : sp_St S) : sp_St (sf_feed S a).2 := by
  unfold sf_feed
  by_cases q : sp_rg a 0 255
  · rw [if_neg (fun z => z q)]
    by_cases z : (ss_t S).2 = 250
    · rw [if_pos z]; exact St_rf h
    · rw [if_neg z]
      have ht := h.2.2.2
      refine St_T h ⟨by show (ss_t S).2 + 1 ≤ 250; have := ht.1; omega, fun j hj => ?_⟩
      have hj : j < (ss_t S).2 + 1 := hj
      show sp_rg (sp_up (ss_t S).1 (ss_t S).2 a j) 0 255
      by_cases y : j = (ss_t S).2
      · rw [show sp_up (ss_t S).1 (ss_t S).2 a j = a from if_pos y]; exact q
      · rw [show sp_up (ss_t S).1 (ss_t S).2 a j = (ss_t S).1 j from if_neg y]; exact ht.2 j (by omega)
  · rw [if_pos q]; exact St_rf h
theorem St_wipe (h : sp_St S) : sp_St (sf_wipe S).2 := St_T h ⟨Nat.zero_le _, fun j hj => absurd hj (Nat.not_lt_zero _)⟩
theorem St_year (h : sp_St S) : sp_St (sf_year S).2 := St_W h (sp_ok_at h.1 1) (Nat.le_refl _)
theorem St_goes (h : sp_St S) : sp_St (sf_goes S a).2 := by
  unfold sf_goes
  split
  · exact St_W h (sp_ok_at h.1 _) (Nat.le_of_eq (sp_years_n (w := S.1) (m := tn a)).2.symm)
  · exact St_rf h
theorem sp_post_g {w : eb_W} : ∀ n, (sp_post w n).1.2.1 = w.2.1 := by
  intro n
  induction n with
  | zero => rfl
  | succ n ih =>
    refine Eq.trans ?_ ih
    show (sp_post1 (sp_post w n).1).1.2.1 = _
    unfold sp_post1 sp_post2
    split <;> rfl
theorem St_post (h : sp_St S) : sp_St (sf_post S a).2 := by
  unfold sf_post
  split
  · exact St_rf h
  · split
    · exact St_rf h
    · exact St_W h (sp_ok_post h.1 _).1 (Nat.le_of_eq (sp_post_g _).symm)
theorem St_seed (h : sp_St S) : sp_St (sf_seed S a).2 := St_W h ⟨h.1.1, h.1.2.1, h.1.2.2.1, h.1.2.2.2⟩ (Nat.le_refl _)
theorem St_image (h : sp_St S) : sp_St (sf_image S).2 := ⟨h.1, fun p q => by cases q; exact h.1, h.2.2⟩
theorem St_back (h : sp_St S) : sp_St (sf_back S).2 := by
  unfold sf_back
  cases hp : S.2.1 with
  | none => exact St_rf h
  | some p =>
    have hok := h.2.1 p hp
    refine ⟨hok, fun p' q => ?_, fun s hs => ?_, h.2.2.2⟩
    · exact h.2.1 p' (by rw [hp]; exact q)
    · show (if ¬ ss_h S s < 10 ∧ ¬ ss_h S s - 10 < nI p.2.1 then -1 else ss_h S s) = -1 ∨ (sp_rg (if ¬ ss_h S s < 10 ∧ ¬ ss_h S s - 10 < nI p.2.1 then -1 else ss_h S s) 0 4 ∧ ss_n S s ≤ 40) ∨ ∃ g, g < p.2.1 ∧ (if ¬ ss_h S s < 10 ∧ ¬ ss_h S s - 10 < nI p.2.1 then -1 else ss_h S s) = nI (10 + g)
      by_cases c : ¬ ss_h S s < 10 ∧ ¬ ss_h S s - 10 < nI p.2.1
      · rw [if_pos c]; exact Or.inl rfl
      · rw [if_neg c]
        have hg := hok.2.1
        have hg0 := h.1.2.1
        rcases St_held h hs with q | q | ⟨g, q1, q2, q3, q4, -⟩
        · exact Or.inl q.1
        · exact Or.inr (Or.inl ⟨q.1, q.2.1⟩)
        · refine Or.inr (Or.inr ⟨g, ?_, q2⟩)
          refine Classical.byContradiction fun z => c ⟨q4, ?_⟩
          rw [q2, show (10 : Int32) = nI 10 from rfl, nI_sub (by omega), nI_lt_b (by omega) (by omega)]
          omega
/-- goers only become more -/
theorem pr_stmt_g {T : eb_Tp} {w w' : eb_W} {K : eb_K} (h : (pr_stmt T w K).2 = some w') : w.2.1 ≤ w'.2.1 := by
  unfold pr_stmt at h
  split at h
  · unfold pr_inn at h
    split at h
    · cases h
    · split at h
      · cases h
      · unfold pr_said at h
        split at h
        · split at h
          · cases h
          · cases h; exact Nat.le_refl _
        · cases h; exact Nat.le_refl _
  split at h
  · unfold pr_goer at h
    split at h
    · cases h
    · split at h
      · cases h
      · cases h; exact Nat.le_succ _
  split at h
  · unfold pr_letter at h
    split at h
    · cases h
    · split at h
      · split at h
        · cases h
        · cases h; exact Nat.le_refl _
      · cases h
  split at h
  · unfold pr_age at h
    split at h
    · cases h
    · cases h; exact Nat.le_refl _
  split at h
  · unfold pr_write at h
    split at h
    · cases h
    · cases h; exact Nat.le_refl _
  · cases h
theorem pr_all_g {T : eb_Tp} : ∀ {f c : Nat} {w : eb_W} {K : eb_K} {q : eb_W × Nat}, (pr_all T f c w K).2 = some q → w.2.1 ≤ q.1.2.1 := by
  intro f
  induction f with
  | zero => intro c w K q h; cases h
  | succ f ih =>
    intro c w K q h
    rw [pr_all_s] at h
    have hs := fun w' => pr_stmt_g (T := T) (w := w) (w' := w') (K := K)
    cases hr : pr_stmt T w K with
    | mk k o =>
      rw [hr] at h hs
      cases o with
      | none => cases h
      | some w' =>
        have h1 := hs w' rfl
        have h : (pr_then T f c w' k).2 = some q := h
        unfold pr_then at h
        split at h
        · cases h; exact h1
        · split at h
          · exact Nat.le_trans h1 (ih h)
          · cases h
theorem St_valley (h : sp_St S) : sp_St (sf_valley S).2 := by
  unfold sf_valley
  have h1 := pr_all_ok (T := ss_t S) (f := 250) (c := 1) (sk_tok_wf (T := ss_t S) (Nat.zero_le _)).1 h.1
  have h2 := fun q => pr_all_g (T := ss_t S) (f := 250) (c := 1) (w := S.1) (K := sk_tok (ss_t S) 0) (q := q)
  cases hr : pr_all (ss_t S) 250 1 S.1 (sk_tok (ss_t S) 0) with
  | mk k o =>
    rw [hr] at h1 h2
    cases o with
    | none => exact St_rf (St_T (t := ((ss_t S).1, 0)) h ⟨Nat.zero_le _, fun j hj => absurd hj (Nat.not_lt_zero _)⟩)
    | some q => exact St_T (t := ((ss_t S).1, 0)) (St_W h (h1 q rfl).1 (h2 q rfl)) ⟨Nat.zero_le _, fun j hj => absurd hj (Nat.not_lt_zero _)⟩
end

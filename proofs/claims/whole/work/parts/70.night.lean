/-! what holds of every night: rooms are not overfilled; who is in an inn sleeps there -/
theorem sp_sum_up {f : Nat → Int32} {j : Nat} {x : Int32} : ∀ {n : Nat}, j < n → sp_sum (sp_up f j x) n + f j = sp_sum f n + x := by
  intro n
  induction n with
  | zero => intro h; omega
  | succ n ih =>
    intro h
    show sp_sum (sp_up f j x) n + sp_up f j x n + f j = sp_sum f n + f n + x
    by_cases q : j = n
    · subst q
      have e1 : sp_sum (sp_up f j x) j = sp_sum f j := sp_sum_congr (fun i hi => if_neg (by omega))
      rw [e1, show sp_up f j x j = x from if_pos rfl, Int32.add_assoc, Int32.add_comm x, ← Int32.add_assoc]
    · have e2 : sp_up f j x n = f n := if_neg (fun z => q z.symm)
      have := ih (by omega)
      rw [e2, Int32.add_assoc, Int32.add_comm (f n), ← Int32.add_assoc, this, Int32.add_assoc, Int32.add_comm x, ← Int32.add_assoc]
theorem sp_lodge_z {n : Nat} {room s : Nat → Int32} {G1 G2 : Nat → Int32} {x : Int32} (hx : ¬ 0 < x) : ∀ c, sp_lodge n room s c (G1, G2, x) = (G1, G2, x) := by
  intro c
  cases c with
  | zero => rfl
  | succ c => unfold sp_lodge; exact if_neg hx
/-- what is in a night's bed: rooms v, guests u -/
def sp_Gok (n : Nat) (room G1 : Nat → Int32) : Prop := ∀ i, i < n → ∃ u v, G1 i = nI u ∧ room i = nI v ∧ u ≤ v ∧ v ≤ 20
/-- a step of lodging -/
theorem sp_lodge_s {n : Nat} {room s : Nat → Int32} {G1 G2 : Nat → Int32} {x : Int32} {c b : Nat} (hx : 0 < x) (hb : sp_best (fun i => decide (G1 i < room i)) s n = some b) : sp_lodge n room s (c + 1) (G1, G2, x) = sp_lodge n room s c (sp_up G1 b (G1 b + (if room b - G1 b < x then room b - G1 b else x)), sp_up G2 b (G2 b + (if room b - G1 b < x then room b - G1 b else x)), x - (if room b - G1 b < x then room b - G1 b else x)) := by
  conv => lhs; unfold sp_lodge
  simp only [hx, if_true, hb]
theorem sp_lodge_n {n : Nat} {room s : Nat → Int32} {G1 G2 : Nat → Int32} {x : Int32} {c : Nat} (hb : sp_best (fun i => decide (G1 i < room i)) s n = none) : sp_lodge n room s c (G1, G2, x) = (G1, G2, x) := by
  cases c with
  | zero => rfl
  | succ c =>
    unfold sp_lodge
    by_cases q : 0 < x
    · simp only [q, if_true, hb]
    · simp only [q, if_false]
/-- how many stay, of m heads where v - u rooms are left -/
theorem sp_stay {u v m : Nat} (h : u ≤ v) (hv : v ≤ 20) (hm : m ≤ 30) : (if nI v - nI u < nI m then nI v - nI u else nI m) = nI (min (v - u) m) ∧ nI m - nI (min (v - u) m) = nI (m - min (v - u) m) ∧ nI u + nI (min (v - u) m) = nI (u + min (v - u) m) := by
  rw [nI_sub h]
  refine ⟨?_, nI_sub (by omega), nI_add _ _⟩
  have e : (nI (v - u) < nI m) = (v - u < m) := nI_lt_b (by omega) (by omega)
  by_cases q : v - u < m
  · rw [if_pos (by rw [e]; exact q), Nat.min_eq_left (by omega)]
  · rw [if_neg (by rw [e]; exact q), Nat.min_eq_right (by omega)]
theorem sp_Gok_up {n : Nat} {room G1 : Nat → Int32} {b u v : Nat} (h : sp_Gok n room G1) (hr : room b = nI v) (hu : u ≤ v) (hv : v ≤ 20) : sp_Gok n room (sp_up G1 b (nI u)) := by
  intro i hi
  by_cases q : i = b
  · subst q
    exact ⟨u, v, if_pos rfl, hr, hu, hv⟩
  · obtain ⟨u', v', h1, h2⟩ := h i hi
    exact ⟨u', v', (if_neg q).trans h1, h2⟩
/-- lodging keeps to the rooms; what comes into an inn comes into a bed; heads stay -/
theorem sp_lodge_ok {n : Nat} {room s : Nat → Int32} : ∀ (c : Nat) (G1 G2 : Nat → Int32) (m : Nat), sp_Gok n room G1 → m ≤ 30 →
    sp_Gok n room (sp_lodge n room s c (G1, G2, nI m)).1 ∧ (∀ i, (sp_lodge n room s c (G1, G2, nI m)).1 i + G2 i = (sp_lodge n room s c (G1, G2, nI m)).2.1 i + G1 i) ∧ ∃ m', m' ≤ m ∧ (sp_lodge n room s c (G1, G2, nI m)).2.2 = nI m' := by
  intro c
  induction c with
  | zero => exact fun G1 G2 m h hm => ⟨h, fun i => Int32.add_comm _ _, m, Nat.le_refl _, rfl⟩
  | succ c ih =>
    intro G1 G2 m h hm
    by_cases hx : 0 < nI m
    · cases hb : sp_best (fun i => decide (G1 i < room i)) s n with
      | none => rw [sp_lodge_n hb]; exact ⟨h, fun i => Int32.add_comm _ _, m, Nat.le_refl _, rfl⟩
      | some b =>
        have hbn := (sp_best_lt hb).1
        obtain ⟨u, v, h1, h2, h3, h4⟩ := h b hbn
        rw [sp_lodge_s hx hb, h1, h2]
        obtain ⟨e1, e2, e3⟩ := sp_stay h3 h4 hm
        rw [e1, e2, e3]
        obtain ⟨i1, i2, m', i3, i4⟩ := ih (sp_up G1 b (nI (u + min (v - u) m))) (sp_up G2 b (G2 b + nI (min (v - u) m))) (m - min (v - u) m) (sp_Gok_up h h2 (by omega) h4) (by omega)
        refine ⟨i1, fun i => ?_, m', by omega, i4⟩
        have := i2 i
        by_cases q : i = b
        · subst q
          rw [show sp_up G1 i (nI (u + min (v - u) m)) i = nI (u + min (v - u) m) from if_pos rfl, show sp_up G2 i (G2 i + nI (min (v - u) m)) i = G2 i + nI (min (v - u) m) from if_pos rfl] at this
          have e5 : nI (u + min (v - u) m) = G1 i + nI (min (v - u) m) := by rw [h1, e3]
          generalize sp_lodge n room s c (sp_up G1 i (nI (u + min (v - u) m)), sp_up G2 i (G2 i + nI (min (v - u) m)), nI (m - min (v - u) m)) = Z at this ⊢
          rw [e5] at this
          rw [← Int32.add_assoc, ← Int32.add_assoc] at this
          have t2 := congrArg (fun z => z - nI (min (v - u) m)) this
          simp only [Int32.add_sub_cancel] at t2
          exact t2
        · rw [show sp_up G1 b (nI (u + min (v - u) m)) i = G1 i from if_neg q, show sp_up G2 b (G2 b + nI (min (v - u) m)) i = G2 i from if_neg q] at this
          exact this
    · rw [sp_lodge_z hx]; exact ⟨h, fun i => Int32.add_comm _ _, m, Nat.le_refl _, rfl⟩
/-- what holds of a night -/
def sp_Nok (w : eb_W) (N : eb_N) : Prop := sp_Gok w.1 (fun i => w.2.2.2.1 i 2) N.1 ∧ ∀ i, sp_sum (fun j => N.2.1 j i) w.2.1 = N.1 i
theorem sp_sum_0 : ∀ n, sp_sum (fun _ => 0) n = 0 := by
  intro n
  induction n with
  | zero => rfl
  | succ n ih => show sp_sum (fun _ => 0) n + 0 = 0; rw [ih]; rfl
theorem sp_Nok_0 {w : eb_W} (h : sp_ok w) : sp_Nok w sp_N0 := by
  refine ⟨fun i hi => ?_, fun i => sp_sum_0 _⟩
  obtain ⟨-, -, q2, -⟩ := h.2.2.2.1 i hi
  obtain ⟨v, hv, ev⟩ := rg_le 20 (by omega) (by decide) q2
  exact ⟨0, v, rfl, ev, Nat.zero_le _, hv⟩
theorem sp_Nok_put {w : eb_W} {said : Nat → Int32} {j m : Nat} {N : eb_N} (h : sp_Nok w N) (hj : j < w.2.1) (hm : m ≤ 30) : sp_Nok w (sp_put w said j (nI m) N) := by
  obtain ⟨h1, h2⟩ := h
  obtain ⟨i1, i2, -⟩ := sp_lodge_ok (s := fun i => sp_score (w.2.2.1 0) (w.2.2.2.1 i) (w.2.2.2.2 j) (said i)) w.1 N.1 (N.2.1 j) m h1 hm
  refine ⟨i1, fun i => ?_⟩
  have e := sp_sum_up (f := fun j => N.2.1 j i) (j := j) (x := (sp_lodge w.1 (fun i => w.2.2.2.1 i 2) (fun i => sp_score (w.2.2.1 0) (w.2.2.2.1 i) (w.2.2.2.2 j) (said i)) w.1 (N.1, N.2.1 j, nI m)).2.1 i) hj
  have e2 : (fun j' => (sp_put w said j (nI m) N).2.1 j' i) = sp_up (fun j => N.2.1 j i) j ((sp_lodge w.1 (fun i => w.2.2.2.1 i 2) (fun i => sp_score (w.2.2.1 0) (w.2.2.2.1 i) (w.2.2.2.2 j) (said i)) w.1 (N.1, N.2.1 j, nI m)).2.1 i) := by
    funext j'
    show sp_up N.2.1 j _ j' i = _
    by_cases q : j' = j
    · subst q; simp [sp_up]
    · simp [sp_up, q]
  rw [e2]
  have e3 := h2 i
  rw [e3] at e
  have e4 := i2 i
  show _ = (sp_lodge w.1 (fun i => w.2.2.2.1 i 2) (fun i => sp_score (w.2.2.1 0) (w.2.2.2.1 i) (w.2.2.2.2 j) (said i)) w.1 (N.1, N.2.1 j, nI m)).1 i
  generalize (sp_lodge w.1 (fun i => w.2.2.2.1 i 2) (fun i => sp_score (w.2.2.1 0) (w.2.2.2.1 i) (w.2.2.2.2 j) (said i)) w.1 (N.1, N.2.1 j, nI m)).1 i = A at e4 ⊢
  generalize (sp_lodge w.1 (fun i => w.2.2.2.1 i 2) (fun i => sp_score (w.2.2.1 0) (w.2.2.2.1 i) (w.2.2.2.2 j) (said i)) w.1 (N.1, N.2.1 j, nI m)).2.1 i = B at e e4 ⊢
  have e5 : N.1 i + B = A + N.2.1 j i := by rw [e4, Int32.add_comm]
  rw [e5] at e
  have t2 := congrArg (fun z => z - N.2.1 j i) e
  simp only [Int32.add_sub_cancel] at t2
  exact t2
theorem sp_Nok_fold {w : eb_W} {said : Nat → Int32} (hw : sp_ok w) : ∀ {l : List Nat} {N : eb_N}, (∀ j, j ∈ l → j < w.2.1) → sp_Nok w N → sp_Nok w (l.foldl (fun N j => sp_put w said j (w.2.2.2.2 j 1) N) N) := by
  intro l
  induction l with
  | nil => exact fun _ h => h
  | cons a l ih =>
    intro N hl h
    refine ih (fun j hj => hl j (List.mem_cons_of_mem _ hj)) ?_
    have ha := hl a List.mem_cons_self
    obtain ⟨-, q, -⟩ := hw.2.2.2.2 a ha
    obtain ⟨m, hm, em⟩ := rg_le 30 (by omega) (by decide) q
    show sp_Nok w (sp_put w said a (w.2.2.2.2 a 1) N)
    rw [em]
    exact sp_Nok_put h ha hm
theorem sp_Nok_night {w : eb_W} (hw : sp_ok w) : sp_Nok w (sp_night w) := sp_Nok_fold hw (fun j hj => sp_ord_lt hj) (sp_Nok_0 hw)

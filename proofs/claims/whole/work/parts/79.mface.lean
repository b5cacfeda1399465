/-! the reference's object: what holds a state; copies made afresh -/
/-- how many models there are, what was made -/
def eb_cnt (nc ns : Nat) (mt mk : Option Nat) : Prop :=
  (mt = none ∧ mk = none ∧ nc = 136 ∧ ns ≤ 5000) ∨ (mt = some 1 ∧ mk = none ∧ nc = 181 ∧ ns ≤ 6000) ∨ (mt = none ∧ mk = some 1 ∧ nc = 181 ∧ ns ≤ 6000) ∨ (mt = some 1 ∧ mk = some 2 ∧ nc = 226 ∧ ns ≤ 7000) ∨ (mt = some 2 ∧ mk = some 1 ∧ nc = 226 ∧ ns ≤ 7000)
def eb_MS (S : eb_St) (I : eb_A → Nat → Int32) (J : eb_A → Nat → Int64) (nc ns : Nat) (mt mk : Option Nat) : Prop :=
  eb_RM I 0 S.1 ∧ ((S.2.1 = none → mk = none) ∧ ∀ p, S.2.1 = some p → ∃ r, mk = some r ∧ eb_RM I r p) ∧ eb_cnt nc ns mt mk ∧
  (∀ s, s < 8 → (ss_h S s = -1 → I (22, 0, 0) s = 0) ∧ (sp_rg (ss_h S s) 0 4 → I (22, 0, 0) s = 1 ∧ I (23, 0, 0) s = ss_h S s ∧ I (24, 0, 0) s = nI (ss_n S s) ∧ ∀ j, j < 40 → J (26, 0, s) j = ss_e S s j) ∧ (¬ ss_h S s < 10 → I (22, 0, 0) s = 2 ∧ I (28, 0, 0) s = ss_h S s - 10)) ∧
  (I (21, 0, 0) 7 = nI (ss_t S).2 ∧ ∀ j, j < (ss_t S).2 → I (29, 0, 0) j = (ss_t S).1 j) ∧ ∀ k, k < 5 → I (30, 0, 0) (k + 2) = ss_r S k
/-- only the reference's cells differ -/
def eb_fM (I I' : eb_A → Nat → Int32) : Prop := ∀ a l, a.1 < 21 → I' a l = I a l
def eb_fN (J J' : eb_A → Nat → Int64) : Prop := ∀ a l, a.1 < 21 → J' a l = J a l
theorem eb_fM_rf {I : eb_A → Nat → Int32} : eb_fM I I := fun _ _ _ => rfl
theorem eb_fN_rf {J : eb_A → Nat → Int64} : eb_fN J J := fun _ _ _ => rfl
theorem eb_fM_tr {I I1 I2 : eb_A → Nat → Int32} (h1 : eb_fM I I1) (h2 : eb_fM I1 I2) : eb_fM I I2 := fun a l h => (h2 a l h).trans (h1 a l h)
theorem eb_fN_tr {I I1 I2 : eb_A → Nat → Int64} (h1 : eb_fN I I1) (h2 : eb_fN I1 I2) : eb_fN I I2 := fun a l h => (h2 a l h).trans (h1 a l h)
theorem eb_fM_gv {r : Nat} {I I1 : eb_A → Nat → Int32} (h : eb_gv r I I1) : eb_fM I I1 := fun a l q => h a l (fun z => by omega)
theorem eb_fM_u {I : eb_A → Nat → Int32} {a : eb_A} {j : Nat} {x : Int32} (h : 21 ≤ a.1) : eb_fM I (eb_u I a j x) := fun b l hb => if_neg fun q => by rw [q.1] at hb; omega
/-- a face of the reference: from a state S to S', answering v -/
def eb_FM (L d m : Nat) (as : List eb_V) (S S' : eb_St) (v : eb_V) : Prop := ∀ (nc ns : Nat) (I : eb_A → Nat → Int32) (J : eb_A → Nat → Int64) (C : Nat → Nat → Nat) (mt mk : Option Nat), eb_MS S I J nc ns mt mk →
  ∃ nc' ns' I' J' mt' mk', eb_ev L d m (zr (21, 0, 0) :: as) (nc, ns, I, J, eb_RL C mt mk) = some (v, (nc', ns', I', J', eb_RL C mt' mk')) ∧ eb_MS S' I' J' nc' ns' mt' mk' ∧ eb_fM I I' ∧ eb_fN J J'
theorem cnt_t {nc ns : Nat} {mt mk : Option Nat} (h : eb_cnt nc ns mt mk) : (∀ t, mt = some t → ¬ t = 0 ∧ ¬ mk = some t) ∧ ∀ k, mk = some k → ¬ k = 0 := by
  rcases h with ⟨h1, h2, -⟩ | ⟨h1, h2, -⟩ | ⟨h1, h2, -⟩ | ⟨h1, h2, -⟩ | ⟨h1, h2, -⟩ <;> subst h1 <;> subst h2 <;> simp
theorem eb_RM_gv {r r1 : Nat} {I I' : eb_A → Nat → Int32} {w : eb_W} (h : eb_RM I r w) (hf : eb_gv r1 I I') (hr : ¬ r = r1) : eb_RM I' r w :=
  eb_RM_of h (fun l _ _ => hf _ _ (fun z => hr z.1)) (fun i l => hf _ _ (fun z => hr z.1)) (fun j l => hf _ _ (fun z => hr z.1))
section
variable {L d nc ns r i g : Nat} {I I' : eb_A → Nat → Int32} {J : eb_A → Nat → Int64} {C : Nat → Nat → Nat} {mt mk : Option Nat} {M : eb_M} {R : eb_A → Nat → Option eb_A} {w : eb_W} {x : Int32} {S : eb_St}
/-- what belongs to no valley stays -/
theorem eb_MS_rest (h : eb_MS S I J nc ns mt mk) (e : ∀ a l, (a = (22, 0, 0) ∨ a = (23, 0, 0) ∨ a = (24, 0, 0) ∨ a = (28, 0, 0) ∨ a = (29, 0, 0) ∨ a = (30, 0, 0) ∨ (a = (21, 0, 0) ∧ l = 7)) → I' a l = I a l) (hw : eb_RM I' 0 w) (hp : ∀ p k, mk = some k → eb_RM I k p → eb_RM I' k p) : eb_MS (sp_toW S w) I' J nc ns mt mk := by
  obtain ⟨h1, ⟨h2, h3⟩, h4, h5, ⟨h6, h7⟩, h8⟩ := h
  refine ⟨hw, ⟨h2, fun p q => ?_⟩, h4, fun s hs => ?_, ⟨(e _ _ (by simp)).trans h6, fun j hj => (e _ _ (by simp)).trans (h7 j hj)⟩, fun k hk => (e _ _ (by simp)).trans (h8 k hk)⟩
  · obtain ⟨k, q1, q2⟩ := h3 p q
    exact ⟨k, q1, hp p k q1 q2⟩
  · obtain ⟨a1, a2, a3⟩ := h5 s hs
    refine ⟨fun q => (e _ _ (by simp)).trans (a1 q), fun q => ?_, fun q => ?_⟩
    · obtain ⟨b1, b2, b3, b4⟩ := a2 q
      exact ⟨(e _ _ (by simp)).trans b1, (e _ _ (by simp)).trans b2, (e _ _ (by simp)).trans b3, b4⟩
    · obtain ⟨b1, b2⟩ := a3 q
      exact ⟨(e _ _ (by simp)).trans b1, (e _ _ (by simp)).trans b2⟩
/-- the valley in truth becomes another -/
theorem eb_MS_w (h : eb_MS S I J nc ns mt mk) (hf : eb_gv 0 I I') (hw : eb_RM I' 0 w) : eb_MS (sp_toW S w) I' J nc ns mt mk :=
  eb_MS_rest h (fun a l q => hf a l (by rcases q with q | q | q | q | q | q | q <;> simp [q])) hw (fun p k hk q => eb_RM_gv q hf ((cnt_t h.2.2.1).2 k hk))
/-- a night is spent -/
theorem eb_MS_n (h : eb_MS S I J nc ns mt mk) (hf : eb_gn 0 I I') : eb_MS S I' J nc ns mt mk := eb_MS_w (w := S.1) h (eb_gn_gv hf) (eb_gn_RM hf h.1)
/-- the copy made afresh changes -/
theorem eb_MS_t {t : Nat} (h : eb_MS S I J nc ns (some t) mk) (hf : eb_gv t I I') : eb_MS S I' J nc ns (some t) mk := by
  have ht := (cnt_t h.2.2.1).1 t rfl
  exact eb_MS_rest (w := S.1) h (fun a l q => hf a l (fun z => ht.1 (z.1.symm.trans (by rcases q with q | q | q | q | q | q | q <;> simp [q])))) (eb_RM_gv h.1 hf (fun z => ht.1 z.symm)) (fun p k hk q => eb_RM_gv q hf (fun z => ht.2 (by rw [hk, z])))
theorem eb_MS_rf {k : Nat} (h : eb_MS S I J nc ns mt mk) (hx : x = ss_r S k + 1) : eb_MS (sp_rf S k) (eb_u I (30, 0, 0) (k + 2) x) J nc ns mt mk := by
  have e : ∀ a l, ¬ a = (30, 0, 0) → eb_u I (30, 0, 0) (k + 2) x a l = I a l := fun a l ha => if_neg fun q => ha q.1
  obtain ⟨h1, ⟨h2, h3⟩, h4, h5, ⟨h6, h7⟩, h8⟩ := h
  have hr : ∀ r w, eb_RM I r w → eb_RM (eb_u I (30, 0, 0) (k + 2) x) r w := fun r w q => eb_RM_of q (fun l _ _ => e _ _ (by simp)) (fun i l => e _ _ (by simp)) (fun j l => e _ _ (by simp))
  refine ⟨hr _ _ h1, ⟨h2, fun p q => ?_⟩, h4, fun s hs => ?_, ⟨(e _ _ (by simp)).trans h6, fun j hj => (e _ _ (by simp)).trans (h7 j hj)⟩, fun j hj => ?_⟩
  · obtain ⟨k, q1, q2⟩ := h3 p q
    exact ⟨k, q1, hr _ _ q2⟩
  · obtain ⟨a1, a2, a3⟩ := h5 s hs
    refine ⟨fun q => (e _ _ (by simp)).trans (a1 q), fun q => ?_, fun q => ?_⟩
    · obtain ⟨b1, b2, b3, b4⟩ := a2 q
      exact ⟨(e _ _ (by simp)).trans b1, (e _ _ (by simp)).trans b2, (e _ _ (by simp)).trans b3, b4⟩
    · obtain ⟨b1, b2⟩ := a3 q
      exact ⟨(e _ _ (by simp)).trans b1, (e _ _ (by simp)).trans b2⟩
  · show (if ((30, 0, 0) : eb_A) = (30, 0, 0) ∧ j + 2 = k + 2 then x else I (30, 0, 0) (j + 2)) = if j = k then ss_r S k + 1 else ss_r S j
    by_cases q : j = k
    · simp only [q, and_self, if_true, hx]
    · rw [if_neg (fun z => q (by omega)), if_neg q]; exact h8 j hj
/-- how calls end: refused, with nothing changed, with a night, with the valley changed, with a copy changed -/
theorem fm_rf {k : Nat} (h : eb_MS S I J nc ns mt mk) (hk : k < 5) : eb_MS (sp_rf S k) (eb_u I (30, 0, 0) (k + 2) (I (30, 0, 0) (k + 2) + 1)) J nc ns mt mk ∧ eb_fM I (eb_u I (30, 0, 0) (k + 2) (I (30, 0, 0) (k + 2) + 1)) ∧ eb_fN J J :=
  ⟨eb_MS_rf h (by rw [h.2.2.2.2.2 k hk]), eb_fM_u (Nat.le_of_ble_eq_true rfl), eb_fN_rf⟩
theorem fm_0 (h : eb_MS S I J nc ns mt mk) : eb_MS S I J nc ns mt mk ∧ eb_fM I I ∧ eb_fN J J := ⟨h, eb_fM_rf, eb_fN_rf⟩
theorem fm_n (h : eb_MS S I J nc ns mt mk) (q : eb_gn 0 I I') : eb_MS S I' J nc ns mt mk ∧ eb_fM I I' ∧ eb_fN J J := ⟨eb_MS_n h q, eb_fM_gv (eb_gn_gv q), eb_fN_rf⟩
theorem fm_w (h : eb_MS S I J nc ns mt mk) (q : eb_RM I' 0 w ∧ eb_gv 0 I I') : eb_MS (sp_toW S w) I' J nc ns mt mk ∧ eb_fM I I' ∧ eb_fN J J := ⟨eb_MS_w h q.2 q.1, eb_fM_gv q.2, eb_fN_rf⟩
theorem rlT {t : Nat} : eb_u (eb_RL C mt mk) (21, 0, 0) 17 (some (21, t, 0)) = eb_RL C (some t) mk := by
  funext a l
  by_cases q : a = (21, 0, 0) ∧ l = 17
  · obtain ⟨q1, q2⟩ := q
    subst q1
    subst q2
    exact eb_u_s
  · have e : eb_u (eb_RL C mt mk) (21, 0, 0) 17 (some (21, t, 0)) a l = eb_RL C mt mk a l := if_neg q
    rw [e]
    obtain ⟨x, y, z⟩ := a
    by_cases hx : x = 21
    · subst hx
      by_cases hl : l = 17
      · subst hl
        have hn : ¬ (y = 0 ∧ z = 0) := fun h => q (by rw [h.1, h.2]; exact ⟨rfl, rfl⟩)
        show (if y = 0 ∧ z = 0 then _ else none) = (if y = 0 ∧ z = 0 then _ else none)
        rw [if_neg hn, if_neg hn]
      · rcases (show l = 0 ∨ l = 1 ∨ l = 2 ∨ l = 3 ∨ l = 4 ∨ l = 5 ∨ l = 6 ∨ l = 7 ∨ l = 8 ∨ l = 9 ∨ l = 10 ∨ l = 11 ∨ l = 12 ∨ l = 13 ∨ l = 14 ∨ l = 15 ∨ l = 16 ∨ l = 17 ∨ l = 18 ∨ l = 19 ∨ l = 20 ∨ l = 21 ∨ l = 22 ∨ l = 23 ∨ l = 24 ∨ l = 25 ∨ l = 26 ∨ l = 27 ∨ l = 28 ∨ l = 29 ∨ l = 30 ∨ l = 31 ∨ l = 32 ∨ l = 33 ∨ 34 ≤ l by omega) with rfl | rfl | rfl | rfl | rfl | rfl | rfl | rfl | rfl | rfl | rfl | rfl | rfl | rfl | rfl | rfl | rfl | rfl | rfl | rfl | rfl | rfl | rfl | rfl | rfl | rfl | rfl | rfl | rfl | rfl | rfl | rfl | rfl | rfl | hh <;> first | rfl | exact absurd rfl hl | (obtain ⟨k, rfl⟩ := Nat.exists_eq_add_of_le' hh; rfl)
    · unfold eb_RL
      split <;> first | rfl | (rename_i hh; exact absurd hh hx) | simp_all
theorem rlK {t : Nat} : eb_u (eb_RL C mt mk) (21, 0, 0) 16 (some (21, t, 0)) = eb_RL C mt (some t) := by
  funext a l
  by_cases q : a = (21, 0, 0) ∧ l = 16
  · obtain ⟨q1, q2⟩ := q
    subst q1
    subst q2
    exact eb_u_s
  · have e : eb_u (eb_RL C mt mk) (21, 0, 0) 16 (some (21, t, 0)) a l = eb_RL C mt mk a l := if_neg q
    rw [e]
    obtain ⟨x, y, z⟩ := a
    by_cases hx : x = 21
    · subst hx
      by_cases hl : l = 16
      · subst hl
        have hn : ¬ (y = 0 ∧ z = 0) := fun h => q (by rw [h.1, h.2]; exact ⟨rfl, rfl⟩)
        show (if y = 0 ∧ z = 0 then _ else none) = (if y = 0 ∧ z = 0 then _ else none)
        rw [if_neg hn, if_neg hn]
      · rcases (show l = 0 ∨ l = 1 ∨ l = 2 ∨ l = 3 ∨ l = 4 ∨ l = 5 ∨ l = 6 ∨ l = 7 ∨ l = 8 ∨ l = 9 ∨ l = 10 ∨ l = 11 ∨ l = 12 ∨ l = 13 ∨ l = 14 ∨ l = 15 ∨ l = 16 ∨ l = 17 ∨ l = 18 ∨ l = 19 ∨ l = 20 ∨ l = 21 ∨ l = 22 ∨ l = 23 ∨ l = 24 ∨ l = 25 ∨ l = 26 ∨ l = 27 ∨ l = 28 ∨ l = 29 ∨ l = 30 ∨ l = 31 ∨ l = 32 ∨ l = 33 ∨ 34 ≤ l by omega) with rfl | rfl | rfl | rfl | rfl | rfl | rfl | rfl | rfl | rfl | rfl | rfl | rfl | rfl | rfl | rfl | rfl | rfl | rfl | rfl | rfl | rfl | rfl | rfl | rfl | rfl | rfl | rfl | rfl | rfl | rfl | rfl | rfl | rfl | hh <;> first | rfl | exact absurd rfl hl | (obtain ⟨k, rfl⟩ := Nat.exists_eq_add_of_le' hh; rfl)
    · unfold eb_RL
      split <;> first | rfl | (rename_i hh; exact absurd hh hx) | simp_all
end

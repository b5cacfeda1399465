/-! a memory, held by the heap: names stand for addresses by φ; cells at and above q0 are the run's own -/
def eb_cn (φ : eb_A → Nat) : eb_V → Value
  | .inl (.inl x) => .int x
  | .inl (.inr x) => .long x
  | .inr none => .null
  | .inr (some a) => .ref (φ a)
def eb_ok (nc : Nat) (a : eb_A) : Prop := (∃ n, n < nc ∧ a = eb_nm n) ∨ (a.1 = 50 ∧ a.2.1 < 12 ∧ a.2.2 = 0)
def eb_okV (nc : Nat) (v : eb_V) : Prop := ∀ a, v = zr a → eb_ok nc a
theorem eb_ok_mono {nc k : Nat} (h : nc ≤ k) {a : eb_A} (ha : eb_ok nc a) : eb_ok k a := by
  rcases ha with ⟨n, h1, h2⟩ | h2
  · exact Or.inl ⟨n, by omega, h2⟩
  · exact Or.inr h2
theorem eb_okV_mono {nc k : Nat} (h : nc ≤ k) {v : eb_V} (hv : eb_okV nc v) : eb_okV k v := fun a ha => eb_ok_mono h (hv a ha)
theorem eb_ok_dom {L nc : Nat} {a : eb_A} (h : eb_ok nc a) (ht : ¬ (eb_ty L a.1).1 = 50) : ∃ n, n < nc ∧ a = eb_nm n := by
  rcases h with h | ⟨h, -⟩
  · exact h
  · exact absurd (by rw [h]; rfl) ht
theorem eb_nX_nd : ∀ i, i < 90 → ∀ j, j < 90 → eb_nX[i]? = eb_nX[j]? → i = j := by decide +kernel
theorem eb_nX_len : eb_nX.length = 90 := by decide
theorem eb_nX_small : ∀ i, i < 90 → ∀ a, eb_nX[i]? = some a → a.1 < 20 ∧ a.1 ≠ 0 := by
  intro i hi a h
  have key : eb_nX.all (fun a => decide (a.1 < 20 ∧ a.1 ≠ 0)) = true := by decide +kernel
  exact of_decide_eq_true (List.all_eq_true.mp key a (List.mem_of_getElem? h))
theorem eb_nM_nd : ∀ i, i < 45 → ∀ j, j < 45 → eb_nM[i]? = eb_nM[j]? → i = j := by decide +kernel
theorem eb_nM_len : eb_nM.length = 45 := by decide
theorem eb_nM_big : ∀ i, i < 45 → ∀ q, eb_nM[i]? = some q → 20 < q.1 ∧ q.1 < 50 := by
  intro i hi a h
  have key : eb_nM.all (fun a => decide (20 < a.1 ∧ a.1 < 50)) = true := by decide +kernel
  exact of_decide_eq_true (List.all_eq_true.mp key a (List.mem_of_getElem? h))
theorem eb_nm_x {n : Nat} (h : n < 90) : ∃ a, eb_nX[n]? = some a ∧ eb_nm (n + 1) = a ∧ a.1 < 20 ∧ a.1 ≠ 0 := by
  have hl : n < eb_nX.length := by rw [eb_nX_len]; exact h
  refine ⟨eb_nX[n], List.getElem?_eq_getElem hl, ?_, eb_nX_small n h _ (List.getElem?_eq_getElem hl)⟩
  unfold eb_nm
  simp only [List.getElem?_eq_getElem hl]
theorem eb_nm_m {n : Nat} (h : 90 ≤ n) : ∃ q, eb_nM[(n - 90) % 45]? = some q ∧ eb_nm (n + 1) = (q.1, (n - 90) / 45, q.2) ∧ 20 < q.1 ∧ q.1 < 50 := by
  have h0 : (n - 90) % 45 < 45 := Nat.mod_lt _ (by decide)
  have hl : (n - 90) % 45 < eb_nM.length := by rw [eb_nM_len]; exact h0
  have hx : eb_nX[n]? = none := List.getElem?_eq_none (by rw [eb_nX_len]; exact h)
  refine ⟨eb_nM[(n - 90) % 45], List.getElem?_eq_getElem hl, ?_, eb_nM_big _ h0 _ (List.getElem?_eq_getElem hl)⟩
  unfold eb_nm
  simp only [hx, List.getElem?_eq_getElem hl]
theorem eb_nm_inj {n k : Nat} (h : eb_nm n = eb_nm k) : n = k := by
  cases n with
  | zero => cases k with
    | zero => rfl
    | succ k =>
      by_cases hk : k < 90
      · obtain ⟨a, -, e, -, h0⟩ := eb_nm_x hk
        rw [e] at h
        exact absurd (by rw [← h]; rfl) h0
      · obtain ⟨q, -, e, h0, -⟩ := eb_nm_m (Nat.not_lt.mp hk)
        rw [e] at h
        have h1 : (0 : Nat) = q.1 := congrArg (fun a : eb_A => a.1) h
        omega
  | succ n => cases k with
    | zero =>
      by_cases hk : n < 90
      · obtain ⟨a, -, e, -, h0⟩ := eb_nm_x hk
        rw [e] at h
        exact absurd (by rw [h]; rfl) h0
      · obtain ⟨q, -, e, h0, -⟩ := eb_nm_m (Nat.not_lt.mp hk)
        rw [e] at h
        have h1 : q.1 = (0 : Nat) := congrArg (fun a : eb_A => a.1) h
        omega
    | succ k =>
      by_cases hn : n < 90 <;> by_cases hk : k < 90
      · obtain ⟨a, e1, e2, -, -⟩ := eb_nm_x hn
        obtain ⟨b, f1, f2, -, -⟩ := eb_nm_x hk
        rw [e2, f2] at h
        rw [eb_nX_nd n hn k hk (by rw [e1, f1, h])]
      · obtain ⟨a, -, e2, h0, -⟩ := eb_nm_x hn
        obtain ⟨q, -, f2, h1, -⟩ := eb_nm_m (Nat.not_lt.mp hk)
        rw [e2, f2] at h
        rw [h] at h0
        have h0 : q.1 < 20 := h0
        omega
      · obtain ⟨a, -, e2, h0, -⟩ := eb_nm_x hk
        obtain ⟨q, -, f2, h1, -⟩ := eb_nm_m (Nat.not_lt.mp hn)
        rw [e2, f2] at h
        rw [← h] at h0
        have h0 : q.1 < 20 := h0
        omega
      · obtain ⟨a, e1, e2, -⟩ := eb_nm_m (Nat.not_lt.mp hn)
        obtain ⟨b, f1, f2, -⟩ := eb_nm_m (Nat.not_lt.mp hk)
        rw [e2, f2] at h
        have g1 : a.1 = b.1 := congrArg (fun a : eb_A => a.1) h
        have g2 : (n - 90) / 45 = (k - 90) / 45 := congrArg (fun a : eb_A => a.2.1) h
        have g3 : a.2 = b.2 := congrArg (fun a : eb_A => a.2.2) h
        have g4 : a = b := Prod.ext g1 g3
        have g5 := eb_nM_nd _ (Nat.mod_lt (n - 90) (by decide)) _ (Nat.mod_lt (k - 90) (by decide)) (by rw [e1, f1, g4])
        have := Nat.div_add_mod (n - 90) 45
        have := Nat.div_add_mod (k - 90) 45
        omega
theorem eb_nm_no50 {n : Nat} : ¬ (eb_nm n).1 = 50 := by
  cases n with
  | zero => decide
  | succ n =>
    by_cases hn : n < 90
    · obtain ⟨a, -, e, h0, -⟩ := eb_nm_x hn
      rw [e]; omega
    · obtain ⟨q, -, e, h0, h1⟩ := eb_nm_m (Nat.not_lt.mp hn)
      rw [e]
      show ¬ q.1 = 50
      omega
theorem eb_ok_new {nc k : Nat} (h : nc ≤ k) : ¬ eb_ok nc (eb_nm k) := by
  rintro (⟨n, h1, h2⟩ | ⟨h1, -⟩)
  · have := eb_nm_inj h2
    omega
  · exact eb_nm_no50 h1
-- cells
def eb_fv (c : Nat) (φ : eb_A → Nat) (I : eb_A → Nat → Int32) (R : eb_A → Nat → Option eb_A) (a : eb_A) (j : Nat) : Value := if (eb_tt c j).isReference = true then va_rf ((R a j).map φ) else .int (I a j)
def eb_et (t : Nat) : FieldType := match t with
  | 12 => .object RX1
  | 13 => .object RX0
  | 14 => .object RX2
  | 15 => .array .int
  | _ => .array .long
def eb_cell (s : State) (φ : eb_A → Nat) (M : eb_M) (t n : Nat) (a : eb_A) (H : Heap) : Prop :=
  if t < 7 then ∃ (cC : ClassId) (iS : Nat → Nat), u_Kn s (eb_cN t) (eb_tT t) (eb_nf t) cC iS ∧ t_OB (φ a) cC (eb_nf t) iS H (eb_fv t φ M.2.2.1 M.2.2.2.2 a)
  else if t = 10 then ∃ cA, ArrOfT s cA .int ∧ H[φ a]? = some (arrV cA n (fun j => .int (M.2.2.1 a j)))
  else if t = 11 then ∃ cA, ArrOfT s cA .long ∧ H[φ a]? = some (arrV cA n (fun j => .long (M.2.2.2.1 a j)))
  else if t = 17 then va_X (φ a) n (fun j => M.2.2.1 a j) s H
  else if 12 ≤ t ∧ t ≤ 16 then ∃ cA, ArrOfT s cA (eb_et t) ∧ va_RA s cA (eb_et t) ∧ H[φ a]? = some (arrV cA n (fun j => va_rf ((M.2.2.2.2 a j).map φ)))
  else False
/-- the places of a cell that hold references -/
def eb_rw (t n j : Nat) : Prop := (t < 7 ∧ j < eb_nf t ∧ (eb_tt t j).isReference = true) ∨ (12 ≤ t ∧ t ≤ 16 ∧ j < n)
def eb_Wd (L q0 : Nat) (φ : eb_A → Nat) (M : eb_M) (s : State) (H : Heap) : Prop :=
  (∀ n, n < M.1 → eb_cell s φ M (eb_ty L (eb_nm n).1).1 (eb_ty L (eb_nm n).1).2 (eb_nm n) H) ∧
  (∀ n k, n < M.1 → k < M.1 → φ (eb_nm n) = φ (eb_nm k) → n = k) ∧
  (∀ n j b, n < M.1 → eb_rw (eb_ty L (eb_nm n).1).1 (eb_ty L (eb_nm n).1).2 j → M.2.2.2.2 (eb_nm n) j = some b → eb_ok M.1 b) ∧
  (∀ n, n < M.1 → ¬ (eb_ty L (eb_nm n).1).1 = 17 → q0 ≤ φ (eb_nm n)) ∧ q0 ≤ H.size
theorem arrV_congr {cA : ClassId} {n : Nat} {f g : Nat → Value} (h : ∀ j, j < n → f j = g j) : arrV cA n f = arrV cA n g := by
  unfold arrV
  have : (Array.ofFn (n := n) fun j => f j.val) = (Array.ofFn (n := n) fun j => g j.val) := congrArg _ (funext fun j => h j.val j.isLt)
  rw [this]
theorem va_X_congr {b n : Nat} {f g : Nat → Int32} {s : State} {H : Heap} (h : ∀ j, j < n → f j = g j) (hx : va_X b n f s H) : va_X b n g s H := by
  obtain ⟨scr, h1, h2, h3, h4, h5⟩ := hx
  exact ⟨scr, h1, h2, h3, h4, fun j hj => by rw [h5 j hj, h j hj]⟩
theorem eb_cell_moved {u U : State} (hvm : u.vm.Alike U.vm) {φ : eb_A → Nat} {M : eb_M} {t n : Nat} {a : eb_A} {H : Heap} (h : eb_cell u φ M t n a H) : eb_cell U φ M t n a H := by
  unfold eb_cell at h ⊢
  by_cases h7 : t < 7
  · rw [if_pos h7] at h ⊢
    obtain ⟨cC, iS, h1, h2⟩ := h
    exact ⟨cC, iS, u_Kn_moved hvm h1, h2⟩
  · rw [if_neg h7] at h ⊢
    by_cases h10 : t = 10
    · rw [if_pos h10] at h ⊢
      obtain ⟨cA, h1, h2⟩ := h
      exact ⟨cA, arrOfT_moved hvm h1, h2⟩
    · rw [if_neg h10] at h ⊢
      by_cases h11 : t = 11
      · rw [if_pos h11] at h ⊢
        obtain ⟨cA, h1, h2⟩ := h
        exact ⟨cA, arrOfT_moved hvm h1, h2⟩
      · rw [if_neg h11] at h ⊢
        by_cases h17 : t = 17
        · rw [if_pos h17] at h ⊢
          exact h.moved hvm
        · rw [if_neg h17] at h ⊢
          by_cases h12 : 12 ≤ t ∧ t ≤ 16
          · rw [if_pos h12] at h ⊢
            obtain ⟨cA, h1, h2, h3⟩ := h
            exact ⟨cA, arrOfT_moved hvm h1, h2.moved hvm, h3⟩
          · rw [if_neg h12] at h
            exact h.elim
theorem eb_Wd_moved {L q0 : Nat} {u U : State} (hvm : u.vm.Alike U.vm) {φ : eb_A → Nat} {M : eb_M} {H : Heap} (h : eb_Wd L q0 φ M u H) : eb_Wd L q0 φ M U H := ⟨fun n hn => eb_cell_moved hvm (h.1 n hn), h.2⟩
/-- a cell that nobody touched -/
theorem eb_cell_kept {s : State} {φ φ' : eb_A → Nat} {M M' : eb_M} {t n : Nat} {a : eb_A} {H H1 : Heap} (h : eb_cell s φ M t n a H) (hφ : φ' a = φ a) (hH : H1[φ a]? = H[φ a]?) (hI : ∀ j, M'.2.2.1 a j = M.2.2.1 a j) (hJ : ∀ j, M'.2.2.2.1 a j = M.2.2.2.1 a j) (hR : ∀ j, eb_rw t n j → (M'.2.2.2.2 a j).map φ' = (M.2.2.2.2 a j).map φ) : eb_cell s φ' M' t n a H1 := by
  unfold eb_cell at h ⊢
  rw [hφ]
  split at h
  · next h7 =>
    obtain ⟨cC, iS, h1, h2⟩ := h
    rw [if_pos h7]
    refine ⟨cC, iS, h1, (h2.kept hH).to fun k hk => ?_⟩
    unfold eb_fv
    split
    · next hr => rw [hR k (Or.inl ⟨h7, hk, hr⟩)]
    · rw [hI]
  · next h7 =>
    rw [if_neg h7]
    split at h
    · next h10 =>
      obtain ⟨cA, h1, h2⟩ := h
      rw [if_pos h10]
      exact ⟨cA, h1, by rw [hH, h2]; exact congrArg some (arrV_congr fun j _ => by rw [hI])⟩
    · next h10 =>
      rw [if_neg h10]
      split at h
      · next h11 =>
        obtain ⟨cA, h1, h2⟩ := h
        rw [if_pos h11]
        exact ⟨cA, h1, by rw [hH, h2]; exact congrArg some (arrV_congr fun j _ => by rw [hJ])⟩
      · next h11 =>
        rw [if_neg h11]
        split at h
        · next h17 =>
          rw [if_pos h17]
          exact va_X_congr (fun j _ => (hI j).symm) (h.kept hH)
        · next h17 =>
          rw [if_neg h17]
          split at h
          · next h12 =>
            obtain ⟨cA, h1, h2, h3⟩ := h
            rw [if_pos h12]
            exact ⟨cA, h1, h2, by rw [hH, h3]; exact congrArg some (arrV_congr fun j hj => by rw [hR j (Or.inr ⟨h12.1, h12.2, hj⟩)])⟩
          · exact h.elim
theorem eb_cell_lt {s : State} {φ : eb_A → Nat} {M : eb_M} {t n : Nat} {a : eb_A} {H : Heap} (h : eb_cell s φ M t n a H) : φ a < H.size := by
  have key : ∀ {x : Cell}, H[φ a]? = some x → φ a < H.size := fun hx => (Array.getElem?_eq_some_iff.mp hx).1
  unfold eb_cell at h
  split at h
  · obtain ⟨cC, iS, h1, cell, h2, -⟩ := h
    exact key h2
  · split at h
    · obtain ⟨cA, h1, h2⟩ := h
      exact key h2
    · split at h
      · obtain ⟨cA, h1, h2⟩ := h
        exact key h2
      · split at h
        · obtain ⟨scr, h1, -⟩ := h
          exact key h1
        · split at h
          · obtain ⟨cA, h1, h2, h3⟩ := h
            exact key h3
          · exact h.elim
/-- one cell changed, by a write to the heap at its address -/
theorem eb_Wd_put {L q0 : Nat} {s : State} {φ : eb_A → Nat} {M M' : eb_M} {H H1 : Heap} (h : eb_Wd L q0 φ M s H) {n0 : Nat} (hn0 : n0 < M.1) (hc : M'.1 = M.1)
    (hI : ∀ b j, ¬ b = eb_nm n0 → M'.2.2.1 b j = M.2.2.1 b j) (hJ : ∀ b j, ¬ b = eb_nm n0 → M'.2.2.2.1 b j = M.2.2.2.1 b j) (hR : ∀ b j, ¬ b = eb_nm n0 → M'.2.2.2.2 b j = M.2.2.2.2 b j)
    (hz : H1.size = H.size) (ho : ∀ q : Nat, q ≠ φ (eb_nm n0) → H1[q]? = H[q]?)
    (hcell : eb_cell s φ M' (eb_ty L (eb_nm n0).1).1 (eb_ty L (eb_nm n0).1).2 (eb_nm n0) H1)
    (hcl : ∀ j b, eb_rw (eb_ty L (eb_nm n0).1).1 (eb_ty L (eb_nm n0).1).2 j → M'.2.2.2.2 (eb_nm n0) j = some b → eb_ok M.1 b) : eb_Wd L q0 φ M' s H1 := by
  obtain ⟨h1, h2, h3, h4, h5⟩ := h
  refine ⟨fun n hn => ?_, fun n k hn hk e => h2 n k (by omega) (by omega) e, fun n j b hn hw e => ?_, fun n hn ht => h4 n (by omega) ht, by omega⟩
  · by_cases e : n = n0
    · rw [e]; exact hcell
    · have hne : ¬ eb_nm n = eb_nm n0 := fun q => e (eb_nm_inj q)
      refine eb_cell_kept (h1 n (by omega)) rfl (ho _ fun q => e (h2 n n0 (by omega) hn0 q)) (fun j => hI _ j hne) (fun j => hJ _ j hne) (fun j _ => by rw [hR _ j hne])
  · rw [hc]
    by_cases e2 : n = n0
    · rw [e2] at hw e; exact hcl j b hw e
    · rw [hR _ j (fun q => e2 (eb_nm_inj q))] at e
      exact h3 n j b (by omega) hw e
/-- names given to new addresses: those that stood keep theirs -/
theorem eb_Wd_grow {L q0 : Nat} {s : State} {φ φ' : eb_A → Nat} {M M' : eb_M} {H H1 : Heap} (h : eb_Wd L q0 φ M s H) (hc : M.1 ≤ M'.1) (hφ : ∀ a, eb_ok M.1 a → φ' a = φ a)
    (hI : ∀ n j, n < M.1 → M'.2.2.1 (eb_nm n) j = M.2.2.1 (eb_nm n) j) (hJ : ∀ n j, n < M.1 → M'.2.2.2.1 (eb_nm n) j = M.2.2.2.1 (eb_nm n) j) (hR : ∀ n j, n < M.1 → M'.2.2.2.2 (eb_nm n) j = M.2.2.2.2 (eb_nm n) j)
    (hz : H.size ≤ H1.size) (ho : ∀ q : Nat, q < H.size → H1[q]? = H[q]?)
    (hnew : ∀ n, M.1 ≤ n → n < M'.1 → eb_cell s φ' M' (eb_ty L (eb_nm n).1).1 (eb_ty L (eb_nm n).1).2 (eb_nm n) H1 ∧ φ' (eb_nm n) = H.size + (n - M.1) ∧ ∀ j b, eb_rw (eb_ty L (eb_nm n).1).1 (eb_ty L (eb_nm n).1).2 j → M'.2.2.2.2 (eb_nm n) j = some b → eb_ok M'.1 b) : eb_Wd L q0 φ' M' s H1 := by
  obtain ⟨h1, h2, h3, h4, h5⟩ := h
  have hφn : ∀ n, n < M.1 → φ' (eb_nm n) = φ (eb_nm n) := fun n hn => hφ _ (Or.inl ⟨n, hn, rfl⟩)
  have hlt : ∀ n, n < M.1 → φ' (eb_nm n) < H.size := fun n hn => by rw [hφn n hn]; exact eb_cell_lt (h1 n hn)
  refine ⟨fun n hn => ?_, fun n k hn hk e => ?_, fun n j b hn hw e => ?_, fun n hn ht => ?_, by omega⟩
  · by_cases e : n < M.1
    · refine eb_cell_kept (h1 n e) (hφn n e) (ho _ (eb_cell_lt (h1 n e))) (fun j => hI n j e) (fun j => hJ n j e) (fun j hw => ?_)
      rw [hR n j e]
      cases hb : M.2.2.2.2 (eb_nm n) j with
      | none => rfl
      | some b =>
        show some _ = some _
        rw [hφ b (h3 n j b e hw hb)]
    · exact (hnew n (by omega) hn).1
  · by_cases e1 : n < M.1 <;> by_cases e2 : k < M.1
    · exact h2 n k e1 e2 (by rw [← hφn n e1, ← hφn k e2]; exact e)
    · have := hlt n e1
      have := (hnew k (by omega) hk).2.1
      omega
    · have := hlt k e2
      have := (hnew n (by omega) hn).2.1
      omega
    · have := (hnew k (by omega) hk).2.1
      have := (hnew n (by omega) hn).2.1
      omega
  · by_cases e1 : n < M.1
    · rw [hR n j e1] at e
      exact eb_ok_mono hc (h3 n j b e1 hw e)
    · exact (hnew n (by omega) hn).2.2 j b hw e
  · by_cases e1 : n < M.1
    · rw [hφn n e1]; exact h4 n e1 ht
    · have := (hnew n (by omega) hn).2.1
      omega

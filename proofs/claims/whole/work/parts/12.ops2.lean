/-! the operations are sound: locals, branches, switches, ends -/
section
variable {L q0 m pc : Nat} {lg : Nat → Bool}
theorem eb_get_loc {φ : eb_A → Nat} {s : State} {nL : Nat} {ls : List (Option eb_V)} {st : List eb_V} {M : eb_M} {arr : Array Slot} {H : Heap} {locs : List Loc} (hA : eb_At L q0 φ s nL lg ls st M arr H locs) {i : Nat} {v : eb_V} (h : ls[i]? = some (some v)) : arr[i]? = some (.val (eb_cn φ v)) := hA.2.2.1.2 i v h
theorem sn_iload' {i nx : Nat} (h : ∀ (p : Program) (l : Launch) (e : Env) (R : Room) (s : State) (mt : MethodId) (args : Array Value) (below : List Frame) (meth : Method) (c : Code) (Q : State → Prop) (cells slots : Nat) (arr : Array Slot) (H : Heap) (locs : List Loc) (rest : List Value) (x : Int32), p.tables.exec = Jvm.exec → c.code = eb_b m → arr[i]? = some (.val (.int x)) → W p l e R s mt args below meth c H locs cells slots Q (F0 mt nx arr (.int x :: rest)) → W p l e R s mt args below meth c H locs cells slots Q (F0 mt pc arr rest)) : eb_Snd L q0 m pc lg (op_iload i nx) := by
  refine eb_Snd_of (fun cl ls st M _ => ?_) (fun cl ls st M r h => ?_) (fun l d ls st M s' hs _ => ?_)
  · unfold op_iload; split
    · exact ⟨Nat.le_refl _, Nat.le_refl _⟩
    · trivial
  · unfold op_iload at h; split at h <;> cases h
  · unfold op_iload at hs; split at hs
    · next x hx =>
      cases hs
      refine er_st (fun w hw => ?_) (fun p e R s mt args below meth c Q cells slots φ arr H locs hC hA k => h p l e R s mt args below meth c Q cells slots arr H locs _ x hC.1 hC.2.1 (eb_get_loc hA hx) k)
      rcases List.mem_cons.mp hw with rfl | hw
      · exact Or.inr (Or.inr (Or.inl ⟨_, rfl⟩))
      · exact Or.inl hw
    · cases hs
theorem sn_iload {i : Nat} (hd : decode (eb_b m) pc = .ok (.iload i, 2)) : eb_Snd L q0 m pc lg (op_iload i (pc + 2)) := sn_iload' fun p l e R s mt args below meth c Q cells slots arr H locs rest x hx hb hl k => lv_iload hx hb hd hl k
theorem sn_iload_n {k : Fin 4} {i : Nat} (hd : decode (eb_b m) pc = .ok (.iload_n k, 1)) (hi : (k : Nat) = i) : eb_Snd L q0 m pc lg (op_iload i (pc + 1)) := sn_iload' fun p l e R s mt args below meth c Q cells slots arr H locs rest x hx hb hl k => lv_iload_n hx hb hd hi hl k
theorem sn_lload' {i nx : Nat} (h : ∀ (p : Program) (l : Launch) (e : Env) (R : Room) (s : State) (mt : MethodId) (args : Array Value) (below : List Frame) (meth : Method) (c : Code) (Q : State → Prop) (cells slots : Nat) (arr : Array Slot) (H : Heap) (locs : List Loc) (rest : List Value) (x : Int64), p.tables.exec = Jvm.exec → c.code = eb_b m → arr[i]? = some (.val (.long x)) → W p l e R s mt args below meth c H locs cells slots Q (F0 mt nx arr (.long x :: rest)) → W p l e R s mt args below meth c H locs cells slots Q (F0 mt pc arr rest)) : eb_Snd L q0 m pc lg (op_lload i nx) := by
  refine eb_Snd_of (fun cl ls st M _ => ?_) (fun cl ls st M r h => ?_) (fun l d ls st M s' hs _ => ?_)
  · unfold op_lload; split
    · exact ⟨Nat.le_refl _, Nat.le_refl _⟩
    · trivial
  · unfold op_lload at h; split at h <;> cases h
  · unfold op_lload at hs; split at hs
    · next x hx =>
      cases hs
      refine er_st (fun w hw => ?_) (fun p e R s mt args below meth c Q cells slots φ arr H locs hC hA k => h p l e R s mt args below meth c Q cells slots arr H locs _ x hC.1 hC.2.1 (eb_get_loc hA hx) k)
      rcases List.mem_cons.mp hw with rfl | hw
      · exact Or.inr (Or.inr (Or.inl ⟨_, rfl⟩))
      · exact Or.inl hw
    · cases hs
theorem sn_lload {i : Nat} (hd : decode (eb_b m) pc = .ok (.lload i, 2)) : eb_Snd L q0 m pc lg (op_lload i (pc + 2)) := sn_lload' fun p l e R s mt args below meth c Q cells slots arr H locs rest x hx hb hl k => lv_lload hx hb hd hl k
theorem sn_lload_n {k : Fin 4} {i : Nat} (hd : decode (eb_b m) pc = .ok (.lload_n k, 1)) (hi : (k : Nat) = i) : eb_Snd L q0 m pc lg (op_lload i (pc + 1)) := sn_lload' fun p l e R s mt args below meth c Q cells slots arr H locs rest x hx hb hl k => lv_lload_n hx hb hd hi hl k
theorem sn_aload' {i nx : Nat} (h : ∀ (p : Program) (l : Launch) (e : Env) (R : Room) (s : State) (mt : MethodId) (args : Array Value) (below : List Frame) (meth : Method) (c : Code) (Q : State → Prop) (cells slots : Nat) (arr : Array Slot) (H : Heap) (locs : List Loc) (rest : List Value) (o : Option Nat), p.tables.exec = Jvm.exec → c.code = eb_b m → arr[i]? = some (.val (va_rf o)) → W p l e R s mt args below meth c H locs cells slots Q (F0 mt nx arr (va_rf o :: rest)) → W p l e R s mt args below meth c H locs cells slots Q (F0 mt pc arr rest)) : eb_Snd L q0 m pc lg (op_aload i nx) := by
  refine eb_Snd_of (fun cl ls st M _ => ?_) (fun cl ls st M r h => ?_) (fun l d ls st M s' hs _ => ?_)
  · unfold op_aload; split
    · exact ⟨Nat.le_refl _, Nat.le_refl _⟩
    · trivial
  · unfold op_aload at h; split at h <;> cases h
  · unfold op_aload at hs; split at hs
    · next x hx =>
      cases hs
      refine er_st (fun w hw => ?_) (fun p e R s mt args below meth c Q cells slots φ arr H locs hC hA k => ?_)
      · rcases List.mem_cons.mp hw with rfl | hw
        · exact Or.inr (Or.inl (List.mem_of_getElem? hx))
        · exact Or.inl hw
      · have hl := eb_get_loc hA hx
        cases x with
        | none => exact h p l e R s mt args below meth c Q cells slots arr H locs _ none hC.1 hC.2.1 hl k
        | some a => exact h p l e R s mt args below meth c Q cells slots arr H locs _ (some (φ a)) hC.1 hC.2.1 hl k
    · cases hs
theorem sn_aload {i : Nat} (hd : decode (eb_b m) pc = .ok (.aload i, 2)) : eb_Snd L q0 m pc lg (op_aload i (pc + 2)) := sn_aload' fun p l e R s mt args below meth c Q cells slots arr H locs rest o hx hb hl k => by
  cases o with
  | none => exact lv_aloadN hx hb hd hl k
  | some a => exact lv_aload hx hb hd hl k
theorem sn_aload_n {k : Fin 4} {i : Nat} (hd : decode (eb_b m) pc = .ok (.aload_n k, 1)) (hi : (k : Nat) = i) : eb_Snd L q0 m pc lg (op_aload i (pc + 1)) := sn_aload' fun p l e R s mt args below meth c Q cells slots arr H locs rest o hx hb hl k => by
  cases o with
  | none => exact lv_aload_nN hx hb hd hi hl k
  | some a => exact lv_aload_n hx hb hd hi hl k
/-- the locals as places and values -/
def eb_prs (φ : eb_A → Nat) (ls : List (Option eb_V)) : List (Nat × Value) := (List.range ls.length).filterMap fun j => (ls[j]?).bind fun o => o.map fun w => (j, eb_cn φ w)
theorem eb_prs_in {φ : eb_A → Nat} {ls : List (Option eb_V)} {j : Nat} {w : eb_V} (h : ls[j]? = some (some w)) : (j, eb_cn φ w) ∈ eb_prs φ ls := by
  refine List.mem_filterMap.mpr ⟨j, List.mem_range.mpr (List.getElem?_eq_some_iff.mp h).1, ?_⟩
  rw [h]; rfl
theorem eb_prs_of {φ : eb_A → Nat} {ls : List (Option eb_V)} {q : Nat × Value} (h : q ∈ eb_prs φ ls) : ∃ w, ls[q.1]? = some (some w) ∧ q.2 = eb_cn φ w := by
  obtain ⟨j, -, hj⟩ := List.mem_filterMap.mp h
  cases ho : ls[j]? with
  | none => rw [ho] at hj; cases hj
  | some o => cases o with
    | none => rw [ho] at hj; cases hj
    | some w => rw [ho] at hj; cases hj; exact ⟨w, ho, rfl⟩
theorem eb_prs_has {φ : eb_A → Nat} {nL : Nat} {ls : List (Option eb_V)} {arr : Array Slot} (h : lv_has arr nL [] ∧ ∀ (i : Nat) (v : eb_V), ls[i]? = some (some v) → arr[i]? = some (.val (eb_cn φ v))) : lv_has arr nL (eb_prs φ ls) := by
  refine ⟨h.1.1, h.1.2.1, fun q hq => ?_⟩
  obtain ⟨w, h1, h2⟩ := eb_prs_of hq
  rw [h2]
  exact h.2 _ _ h1
theorem eb_cat2 {φ : eb_A → Nat} {w : eb_V} (h : (eb_cn φ w).category = 2) : ∃ x, w = zl x := by
  rcases w with (x | x) | (_ | x)
  · cases h
  · exact ⟨x, rfl⟩
  · cases h
  · cases h
/-- a store into a local -/
theorem er_sto {φ : eb_A → Nat} {s : State} {nL : Nat} {ls : List (Option eb_V)} {st : List eb_V} {M : eb_M} {arr arr1 : Array Slot} {H : Heap} {locs : List Loc} {i : Nat} {v : eb_V} {st1 : List eb_V} {lv : List (Nat × Value)} (hlg : ∀ k, k + 1 = i → lg k = false) (hv : ∀ x, ¬ v = zl x) (hok : eb_okV M.1 v) (hst : ∀ w ∈ st1, w ∈ st)
    (hA : eb_At L q0 φ s nL lg ls st M arr H locs) (hlv : ∀ q ∈ eb_prs φ ls, q ∈ lv) (h1 : lv_has arr1 nL ((i, eb_cn φ v) :: lv.filter (fun q => !(q.1 == i) && !(q.1 + 1 == i && q.2.category == 2)))) : eb_At L q0 φ s nL lg (ls.set i (some v)) st1 M arr1 H locs := by
  obtain ⟨a1, a2, a3, a4, a5, a6, a7⟩ := hA
  refine ⟨a1, a2, ⟨⟨h1.1, h1.2.1, fun q hq => by cases hq⟩, fun j w hj => ?_⟩, fun j x hj => ?_, fun w hw => ?_, fun w hw => a6 w (hst w hw), a7⟩
  · by_cases e : j = i
    · subst e
      have hlt := (List.getElem?_eq_some_iff.mp hj).1
      rw [List.length_set] at hlt
      rw [List.getElem?_set_self hlt] at hj
      cases hj
      exact h1.2.2 _ List.mem_cons_self
    · rw [List.getElem?_set_ne (fun q => e q.symm)] at hj
      refine h1.2.2 (j, eb_cn φ w) (List.mem_cons_of_mem _ (List.mem_filter.mpr ⟨hlv _ (eb_prs_in hj), ?_⟩))
      have hb : ¬ (j + 1 = i ∧ (eb_cn φ w).category = 2) := by
        rintro ⟨h2, h3⟩
        obtain ⟨x, rfl⟩ := eb_cat2 h3
        have := a4 j x hj
        rw [hlg j h2] at this
        cases this
      simp only [Bool.and_eq_true, Bool.not_eq_true', beq_eq_false_iff_ne, ne_eq]
      refine ⟨e, ?_⟩
      cases hq : (j + 1 == i && (eb_cn φ w).category == 2) with
      | false => rfl
      | true =>
        simp only [Bool.and_eq_true, beq_iff_eq] at hq
        exact absurd hq hb
  · by_cases e : j = i
    · subst e
      have hlt := (List.getElem?_eq_some_iff.mp hj).1
      rw [List.length_set] at hlt
      rw [List.getElem?_set_self hlt] at hj
      exact absurd (Option.some.inj (Option.some.inj hj)) (hv x)
    · rw [List.getElem?_set_ne (fun q => e q.symm)] at hj
      exact a4 j x hj
  · obtain ⟨j, hj⟩ := List.getElem?_of_mem hw
    by_cases e : j = i
    · subst e
      have hlt := (List.getElem?_eq_some_iff.mp hj).1
      rw [List.length_set] at hlt
      rw [List.getElem?_set_self hlt] at hj
      cases hj
      exact hok
    · rw [List.getElem?_set_ne (fun q => e q.symm)] at hj
      exact a5 w (List.mem_of_getElem? hj)
theorem sn_istore' {i nx : Nat} (hlg : ∀ k, k + 1 = i → lg k = false) (h : ∀ (p : Program) (l : Launch) (e : Env) (R : Room) (s : State) (mt : MethodId) (args : Array Value) (below : List Frame) (meth : Method) (c : Code) (Q : State → Prop) (cells slots : Nat) (arr : Array Slot) (H : Heap) (locs : List Loc) (rest : List Value) (x : Int32) (lv : List (Nat × Value)), p.tables.exec = Jvm.exec → c.code = eb_b m → lv_has arr (eb_ml m) lv → (∀ arr1, lv_has arr1 (eb_ml m) ((i, Value.int x) :: lv.filter (fun q => !(q.1 == i) && !(q.1 + 1 == i && q.2.category == 2))) → W p l e R s mt args below meth c H locs cells slots Q (F0 mt nx arr1 rest)) → W p l e R s mt args below meth c H locs cells slots Q (F0 mt pc arr (.int x :: rest))) : eb_Snd L q0 m pc lg (op_istore i nx) := by
  refine eb_Snd_of (fun cl ls st M _ => ?_) (fun cl ls st M r h => ?_) (fun l d ls st M s' hs _ => ?_)
  · unfold op_istore; split
    · exact ⟨Nat.le_refl _, Nat.le_refl _⟩
    · trivial
  · unfold op_istore at h; split at h <;> cases h
  · unfold op_istore at hs; split at hs
    · next x r =>
      cases hs
      intro p e R s mt args below meth c Q kc ks φ hC _ _ _ _ kk arr H locs hA
      refine h p l e R s mt args below meth c Q _ _ arr H locs _ x (eb_prs φ ls) hC.1 hC.2.1 (eb_prs_has hA.2.2.1) fun arr1 h1 => ?_
      exact kk φ (fun _ _ => rfl) arr1 H locs (er_sto (v := zi x) hlg (fun x q => by cases q) (fun a q => by cases q) (fun w hw => List.mem_cons_of_mem _ hw) hA (fun _ hq => hq) h1)
    · cases hs
theorem sn_istore {i : Nat} (hlg : ∀ k, k + 1 = i → lg k = false) (hn : i < eb_ml m) (hd : decode (eb_b m) pc = .ok (.istore i, 2)) : eb_Snd L q0 m pc lg (op_istore i (pc + 2)) := sn_istore' hlg fun p l e R s mt args below meth c Q cells slots arr H locs rest x lv hx hb hl k => lv_istore hx hb hd hl hn rfl k
theorem sn_istore_n {k : Fin 4} {i : Nat} (hlg : ∀ k, k + 1 = i → lg k = false) (hn : i < eb_ml m) (hd : decode (eb_b m) pc = .ok (.istore_n k, 1)) (hi : (k : Nat) = i) : eb_Snd L q0 m pc lg (op_istore i (pc + 1)) := sn_istore' hlg fun p l e R s mt args below meth c Q cells slots arr H locs rest x lv hx hb hl k => lv_istore_n hx hb hd hi hl hn rfl k
theorem sn_astore' {i nx : Nat} (hlg : ∀ k, k + 1 = i → lg k = false) (h : ∀ (p : Program) (l : Launch) (e : Env) (R : Room) (s : State) (mt : MethodId) (args : Array Value) (below : List Frame) (meth : Method) (c : Code) (Q : State → Prop) (cells slots : Nat) (arr : Array Slot) (H : Heap) (locs : List Loc) (rest : List Value) (o : Option Nat) (lv : List (Nat × Value)), p.tables.exec = Jvm.exec → c.code = eb_b m → lv_has arr (eb_ml m) lv → (∀ arr1, lv_has arr1 (eb_ml m) ((i, va_rf o) :: lv.filter (fun q => !(q.1 == i) && !(q.1 + 1 == i && q.2.category == 2))) → W p l e R s mt args below meth c H locs cells slots Q (F0 mt nx arr1 rest)) → W p l e R s mt args below meth c H locs cells slots Q (F0 mt pc arr (va_rf o :: rest))) : eb_Snd L q0 m pc lg (op_astore i nx) := by
  refine eb_Snd_of (fun cl ls st M _ => ?_) (fun cl ls st M r h => ?_) (fun l d ls st M s' hs _ => ?_)
  · unfold op_astore; split
    · exact ⟨Nat.le_refl _, Nat.le_refl _⟩
    · trivial
  · unfold op_astore at h; split at h <;> cases h
  · unfold op_astore at hs; split at hs
    · next x r =>
      cases hs
      intro p e R s mt args below meth c Q kc ks φ hC _ _ _ _ kk arr H locs hA
      have hx := hA.2.2.2.2.2.1 (.inr x) List.mem_cons_self
      have key : ∀ o : Option Nat, eb_cn φ (.inr x) = va_rf o → W p l e R s mt args below meth c H locs (M.1 - kc) (M.2.1 - ks) Q (F0 mt pc arr (va_rf o :: r.map (eb_cn φ))) := by
        intro o ho
        refine h p l e R s mt args below meth c Q _ _ arr H locs _ o (eb_prs φ ls) hC.1 hC.2.1 (eb_prs_has hA.2.2.1) fun arr1 h1 => ?_
        rw [← ho] at h1
        exact kk φ (fun _ _ => rfl) arr1 H locs (er_sto (v := .inr x) hlg (fun x q => by cases q) hx (fun w hw => List.mem_cons_of_mem _ hw) hA (fun _ hq => hq) h1)
      cases x with
      | none => exact key none rfl
      | some a => exact key (some (φ a)) rfl
    · cases hs
theorem sn_astore {i : Nat} (hlg : ∀ k, k + 1 = i → lg k = false) (hn : i < eb_ml m) (hd : decode (eb_b m) pc = .ok (.astore i, 2)) : eb_Snd L q0 m pc lg (op_astore i (pc + 2)) := sn_astore' hlg fun p l e R s mt args below meth c Q cells slots arr H locs rest o lv hx hb hl k => by
  cases o with
  | none => exact lv_astoreN hx hb hd hl hn rfl k
  | some a => exact lv_astore hx hb hd hl hn rfl k
theorem sn_astore_n {k : Fin 4} {i : Nat} (hlg : ∀ k, k + 1 = i → lg k = false) (hn : i < eb_ml m) (hd : decode (eb_b m) pc = .ok (.astore_n k, 1)) (hi : (k : Nat) = i) : eb_Snd L q0 m pc lg (op_astore i (pc + 1)) := sn_astore' hlg fun p l e R s mt args below meth c Q cells slots arr H locs rest o lv hx hb hl k => by
  cases o with
  | none => exact lv_astore_nN hx hb hd hi hl hn rfl k
  | some a => exact lv_astore_n hx hb hd hi hl hn rfl k
theorem sn_iinc {i : Nat} {n : Int} {v : Int32} (hlg : ∀ k, k + 1 = i → lg k = false) (hn : i < eb_ml m) (hd : decode (eb_b m) pc = .ok (.iinc i n, 3)) (hv : Int32.ofInt n = v) : eb_Snd L q0 m pc lg (op_iinc i v (pc + 3)) := by
  refine eb_Snd_of (fun cl ls st M _ => ?_) (fun cl ls st M r h => ?_) (fun l d ls st M s' hs _ => ?_)
  · unfold op_iinc; split
    · exact ⟨Nat.le_refl _, Nat.le_refl _⟩
    · trivial
  · unfold op_iinc at h; split at h <;> cases h
  · unfold op_iinc at hs; split at hs
    · next x hx =>
      cases hs
      intro p e R s mt args below meth c Q kc ks φ hC _ _ _ _ kk arr H locs hA
      have h0 := eb_prs_has hA.2.2.1
      have h1 : lv_has arr (eb_ml m) ((i, Value.int x) :: eb_prs φ ls) := ⟨h0.1, h0.2.1, fun q hq => by
        rcases List.mem_cons.mp hq with rfl | hq
        · exact eb_get_loc hA hx
        · exact h0.2.2 q hq⟩
      refine lv_iinc (k := 0) hC.1 hC.2.1 hd h1 rfl (by rw [hv]) hn rfl fun arr1 h2 => ?_
      exact kk φ (fun _ _ => rfl) arr1 H locs (er_sto (v := zi (x + v)) hlg (fun x q => by cases q) (fun a q => by cases q) (fun w hw => hw) hA (fun _ hq => List.mem_cons_of_mem _ hq) h2)
    · cases hs
theorem sn_goto {off : Int} {t : Nat} (hd : decode (eb_b m) pc = .ok (.goto off, 3)) (ht : (pc : Int) + off = (t : Int)) : eb_Snd L q0 m pc lg (op_goto t) := by
  refine eb_Snd_of (fun _ _ _ _ _ => ⟨Nat.le_refl _, Nat.le_refl _⟩) (fun _ _ _ _ _ h => by cases h) (fun l d ls st M s' hs _ => ?_)
  cases hs
  exact er_st (fun w hw => Or.inl hw) (fun p e R s mt args below meth c Q cells slots φ arr H locs hC hA k => lv_goto hC.1 hC.2.1 hd ht k)
/-- a branch on one int -/
theorem sn_br1 {o : eb_O} {C : Int32 → Prop} (ta tb : Nat) (ho : ∀ cl ls st M, (∃ x r, st = zi x :: r ∧ ((C x ∧ o cl ls st M = eb_go ta ls r M) ∨ (¬ C x ∧ o cl ls st M = eb_go tb ls r M))) ∨ o cl ls st M = none)
    (h : ∀ (p : Program) (l : Launch) (e : Env) (R : Room) (s : State) (mt : MethodId) (args : Array Value) (below : List Frame) (meth : Method) (c : Code) (Q : State → Prop) (cells slots : Nat) (arr : Array Slot) (H : Heap) (locs : List Loc) (rest : List Value) (x : Int32), p.tables.exec = Jvm.exec → c.code = eb_b m → (C x → W p l e R s mt args below meth c H locs cells slots Q (F0 mt ta arr rest)) → (¬ C x → W p l e R s mt args below meth c H locs cells slots Q (F0 mt tb arr rest)) → W p l e R s mt args below meth c H locs cells slots Q (F0 mt pc arr (.int x :: rest))) : eb_Snd L q0 m pc lg o := by
  refine eb_Snd_of (fun cl ls st M _ => ?_) (fun cl ls st M r h => ?_) (fun l d ls st M s' hs _ => ?_)
  · rcases ho cl ls st M with ⟨x, r, -, ⟨-, e⟩ | ⟨-, e⟩⟩ | e <;> rw [e]
    · exact ⟨Nat.le_refl _, Nat.le_refl _⟩
    · exact ⟨Nat.le_refl _, Nat.le_refl _⟩
    · trivial
  · rcases ho cl ls st M with ⟨x, r, -, ⟨-, e⟩ | ⟨-, e⟩⟩ | e <;> rw [e] at h <;> cases h
  · rcases ho (eb_ev L d) ls st M with ⟨x, r, rfl, ⟨hc, e⟩ | ⟨hc, e⟩⟩ | e <;> rw [e] at hs <;> cases hs
    · exact er_st (fun w hw => Or.inl (List.mem_cons_of_mem _ hw)) (fun p e R s mt args below meth c Q cells slots φ arr H locs hC hA k => h p l e R s mt args below meth c Q cells slots arr H locs _ x hC.1 hC.2.1 (fun _ => k) (fun q => absurd hc q))
    · exact er_st (fun w hw => Or.inl (List.mem_cons_of_mem _ hw)) (fun p e R s mt args below meth c Q cells slots φ arr H locs hC hA k => h p l e R s mt args below meth c Q cells slots arr H locs _ x hC.1 hC.2.1 (fun q => absurd q hc) (fun _ => k))
theorem sn_br2 {o : eb_O} {C : Int32 → Int32 → Prop} (ta tb : Nat) (ho : ∀ cl ls st M, (∃ y x r, st = zi y :: zi x :: r ∧ ((C x y ∧ o cl ls st M = eb_go ta ls r M) ∨ (¬ C x y ∧ o cl ls st M = eb_go tb ls r M))) ∨ o cl ls st M = none)
    (h : ∀ (p : Program) (l : Launch) (e : Env) (R : Room) (s : State) (mt : MethodId) (args : Array Value) (below : List Frame) (meth : Method) (c : Code) (Q : State → Prop) (cells slots : Nat) (arr : Array Slot) (H : Heap) (locs : List Loc) (rest : List Value) (x y : Int32), p.tables.exec = Jvm.exec → c.code = eb_b m → (C x y → W p l e R s mt args below meth c H locs cells slots Q (F0 mt ta arr rest)) → (¬ C x y → W p l e R s mt args below meth c H locs cells slots Q (F0 mt tb arr rest)) → W p l e R s mt args below meth c H locs cells slots Q (F0 mt pc arr (.int y :: .int x :: rest))) : eb_Snd L q0 m pc lg o := by
  refine eb_Snd_of (fun cl ls st M _ => ?_) (fun cl ls st M r h => ?_) (fun l d ls st M s' hs _ => ?_)
  · rcases ho cl ls st M with ⟨y, x, r, -, ⟨-, e⟩ | ⟨-, e⟩⟩ | e <;> rw [e]
    · exact ⟨Nat.le_refl _, Nat.le_refl _⟩
    · exact ⟨Nat.le_refl _, Nat.le_refl _⟩
    · trivial
  · rcases ho cl ls st M with ⟨y, x, r, -, ⟨-, e⟩ | ⟨-, e⟩⟩ | e <;> rw [e] at h <;> cases h
  · rcases ho (eb_ev L d) ls st M with ⟨y, x, r, rfl, ⟨hc, e⟩ | ⟨hc, e⟩⟩ | e <;> rw [e] at hs <;> cases hs
    · exact er_st (fun w hw => Or.inl (List.mem_cons_of_mem _ (List.mem_cons_of_mem _ hw))) (fun p e R s mt args below meth c Q cells slots φ arr H locs hC hA k => h p l e R s mt args below meth c Q cells slots arr H locs _ x y hC.1 hC.2.1 (fun _ => k) (fun q => absurd hc q))
    · exact er_st (fun w hw => Or.inl (List.mem_cons_of_mem _ (List.mem_cons_of_mem _ hw))) (fun p e R s mt args below meth c Q cells slots φ arr H locs hC hA k => h p l e R s mt args below meth c Q cells slots arr H locs _ x y hC.1 hC.2.1 (fun q => absurd q hc) (fun _ => k))
theorem sn_ifeq {off : Int} {t : Nat} (hd : decode (eb_b m) pc = .ok (.ifCond .eq off, 3)) (ht : (pc : Int) + off = (t : Int)) : eb_Snd L q0 m pc lg (op_ifeq t (pc + 3)) := by
  refine sn_br1 (C := fun x => x = 0) t (pc + 3) (fun cl ls st M => ?_) (fun p l e R s mt args below meth c Q cells slots arr H locs rest x hx hb k1 k2 => ?_)
  · rcases st with _ | ⟨(x | x) | x, r⟩ <;> try exact Or.inr rfl
    refine Or.inl ⟨x, r, rfl, ?_⟩
    by_cases h : x = 0
    · exact Or.inl ⟨h, by simp [op_ifeq, h]⟩
    · exact Or.inr ⟨h, by simp [op_ifeq, h]⟩
  · exact lv_if_eq hx hb hd ht k1 k2
theorem sn_ifne {off : Int} {t : Nat} (hd : decode (eb_b m) pc = .ok (.ifCond .ne off, 3)) (ht : (pc : Int) + off = (t : Int)) : eb_Snd L q0 m pc lg (op_ifne t (pc + 3)) := by
  refine sn_br1 (C := fun x => x = 0) (pc + 3) t (fun cl ls st M => ?_) (fun p l e R s mt args below meth c Q cells slots arr H locs rest x hx hb k1 k2 => ?_)
  · rcases st with _ | ⟨(x | x) | x, r⟩ <;> try exact Or.inr rfl
    refine Or.inl ⟨x, r, rfl, ?_⟩
    by_cases h : x = 0
    · exact Or.inl ⟨h, by simp [op_ifne, h]⟩
    · exact Or.inr ⟨h, by simp [op_ifne, h]⟩
  · exact lv_if_ne hx hb hd ht k2 k1
theorem sn_iflt {off : Int} {t : Nat} (hd : decode (eb_b m) pc = .ok (.ifCond .lt off, 3)) (ht : (pc : Int) + off = (t : Int)) : eb_Snd L q0 m pc lg (op_iflt t (pc + 3)) := by
  refine sn_br1 (C := fun x => x < 0) t (pc + 3) (fun cl ls st M => ?_) (fun p l e R s mt args below meth c Q cells slots arr H locs rest x hx hb k1 k2 => ?_)
  · rcases st with _ | ⟨(x | x) | x, r⟩ <;> try exact Or.inr rfl
    refine Or.inl ⟨x, r, rfl, ?_⟩
    by_cases h : x < 0
    · exact Or.inl ⟨h, by simp [op_iflt, h]⟩
    · exact Or.inr ⟨h, by simp [op_iflt, h]⟩
  · exact lv_if_lt hx hb hd ht k1 k2
theorem sn_ifge {off : Int} {t : Nat} (hd : decode (eb_b m) pc = .ok (.ifCond .ge off, 3)) (ht : (pc : Int) + off = (t : Int)) : eb_Snd L q0 m pc lg (op_ifge t (pc + 3)) := by
  refine sn_br1 (C := fun x => x < 0) (pc + 3) t (fun cl ls st M => ?_) (fun p l e R s mt args below meth c Q cells slots arr H locs rest x hx hb k1 k2 => ?_)
  · rcases st with _ | ⟨(x | x) | x, r⟩ <;> try exact Or.inr rfl
    refine Or.inl ⟨x, r, rfl, ?_⟩
    by_cases h : x < 0
    · exact Or.inl ⟨h, by simp [op_ifge, h]⟩
    · exact Or.inr ⟨h, by simp [op_ifge, h]⟩
  · exact lv_if_ge hx hb hd ht (fun q => k2 (Int32.not_lt.mpr q)) (fun q => k1 (Int32.not_le.mp q))
theorem sn_ifgt {off : Int} {t : Nat} (hd : decode (eb_b m) pc = .ok (.ifCond .gt off, 3)) (ht : (pc : Int) + off = (t : Int)) : eb_Snd L q0 m pc lg (op_ifgt t (pc + 3)) := by
  refine sn_br1 (C := fun x => 0 < x) t (pc + 3) (fun cl ls st M => ?_) (fun p l e R s mt args below meth c Q cells slots arr H locs rest x hx hb k1 k2 => ?_)
  · rcases st with _ | ⟨(x | x) | x, r⟩ <;> try exact Or.inr rfl
    refine Or.inl ⟨x, r, rfl, ?_⟩
    by_cases h : 0 < x
    · exact Or.inl ⟨h, by simp [op_ifgt, h]⟩
    · exact Or.inr ⟨h, by simp [op_ifgt, h]⟩
  · exact lv_if_gt hx hb hd ht k1 k2
theorem sn_ifle {off : Int} {t : Nat} (hd : decode (eb_b m) pc = .ok (.ifCond .le off, 3)) (ht : (pc : Int) + off = (t : Int)) : eb_Snd L q0 m pc lg (op_ifle t (pc + 3)) := by
  refine sn_br1 (C := fun x => 0 < x) (pc + 3) t (fun cl ls st M => ?_) (fun p l e R s mt args below meth c Q cells slots arr H locs rest x hx hb k1 k2 => ?_)
  · rcases st with _ | ⟨(x | x) | x, r⟩ <;> try exact Or.inr rfl
    refine Or.inl ⟨x, r, rfl, ?_⟩
    by_cases h : 0 < x
    · exact Or.inl ⟨h, by simp [op_ifle, h]⟩
    · exact Or.inr ⟨h, by simp [op_ifle, h]⟩
  · exact lv_if_le hx hb hd ht (fun q => k2 (Int32.not_lt.mpr q)) (fun q => k1 (Int32.not_le.mp q))
theorem sn_iceq {off : Int} {t : Nat} (hd : decode (eb_b m) pc = .ok (.if_icmp .eq off, 3)) (ht : (pc : Int) + off = (t : Int)) : eb_Snd L q0 m pc lg (op_iceq t (pc + 3)) := by
  refine sn_br2 (C := fun x y => x = y) t (pc + 3) (fun cl ls st M => ?_) (fun p l e R s mt args below meth c Q cells slots arr H locs rest x y hx hb k1 k2 => ?_)
  · rcases st with _ | ⟨(y | y) | y, _ | ⟨(x | x) | x, r⟩⟩ <;> try exact Or.inr rfl
    refine Or.inl ⟨y, x, r, rfl, ?_⟩
    by_cases h : x = y
    · exact Or.inl ⟨h, by simp [op_iceq, h]⟩
    · exact Or.inr ⟨h, by simp [op_iceq, h]⟩
  · exact lv_icmp_eq hx hb hd ht k1 k2
theorem sn_icne {off : Int} {t : Nat} (hd : decode (eb_b m) pc = .ok (.if_icmp .ne off, 3)) (ht : (pc : Int) + off = (t : Int)) : eb_Snd L q0 m pc lg (op_icne t (pc + 3)) := by
  refine sn_br2 (C := fun x y => x = y) (pc + 3) t (fun cl ls st M => ?_) (fun p l e R s mt args below meth c Q cells slots arr H locs rest x y hx hb k1 k2 => ?_)
  · rcases st with _ | ⟨(y | y) | y, _ | ⟨(x | x) | x, r⟩⟩ <;> try exact Or.inr rfl
    refine Or.inl ⟨y, x, r, rfl, ?_⟩
    by_cases h : x = y
    · exact Or.inl ⟨h, by simp [op_icne, h]⟩
    · exact Or.inr ⟨h, by simp [op_icne, h]⟩
  · exact lv_icmp_ne hx hb hd ht k2 k1
theorem sn_iclt {off : Int} {t : Nat} (hd : decode (eb_b m) pc = .ok (.if_icmp .lt off, 3)) (ht : (pc : Int) + off = (t : Int)) : eb_Snd L q0 m pc lg (op_iclt t (pc + 3)) := by
  refine sn_br2 (C := fun x y => x < y) t (pc + 3) (fun cl ls st M => ?_) (fun p l e R s mt args below meth c Q cells slots arr H locs rest x y hx hb k1 k2 => ?_)
  · rcases st with _ | ⟨(y | y) | y, _ | ⟨(x | x) | x, r⟩⟩ <;> try exact Or.inr rfl
    refine Or.inl ⟨y, x, r, rfl, ?_⟩
    by_cases h : x < y
    · exact Or.inl ⟨h, by simp [op_iclt, h]⟩
    · exact Or.inr ⟨h, by simp [op_iclt, h]⟩
  · exact lv_icmp_lt hx hb hd ht k1 k2
theorem sn_icge {off : Int} {t : Nat} (hd : decode (eb_b m) pc = .ok (.if_icmp .ge off, 3)) (ht : (pc : Int) + off = (t : Int)) : eb_Snd L q0 m pc lg (op_icge t (pc + 3)) := by
  refine sn_br2 (C := fun x y => x < y) (pc + 3) t (fun cl ls st M => ?_) (fun p l e R s mt args below meth c Q cells slots arr H locs rest x y hx hb k1 k2 => ?_)
  · rcases st with _ | ⟨(y | y) | y, _ | ⟨(x | x) | x, r⟩⟩ <;> try exact Or.inr rfl
    refine Or.inl ⟨y, x, r, rfl, ?_⟩
    by_cases h : x < y
    · exact Or.inl ⟨h, by simp [op_icge, h]⟩
    · exact Or.inr ⟨h, by simp [op_icge, h]⟩
  · exact lv_icmp_ge hx hb hd ht (fun q => k2 (Int32.not_lt.mpr q)) (fun q => k1 (Int32.not_le.mp q))
theorem sn_icgt {off : Int} {t : Nat} (hd : decode (eb_b m) pc = .ok (.if_icmp .gt off, 3)) (ht : (pc : Int) + off = (t : Int)) : eb_Snd L q0 m pc lg (op_icgt t (pc + 3)) := by
  refine sn_br2 (C := fun x y => y < x) t (pc + 3) (fun cl ls st M => ?_) (fun p l e R s mt args below meth c Q cells slots arr H locs rest x y hx hb k1 k2 => ?_)
  · rcases st with _ | ⟨(y | y) | y, _ | ⟨(x | x) | x, r⟩⟩ <;> try exact Or.inr rfl
    refine Or.inl ⟨y, x, r, rfl, ?_⟩
    by_cases h : y < x
    · exact Or.inl ⟨h, by simp [op_icgt, h]⟩
    · exact Or.inr ⟨h, by simp [op_icgt, h]⟩
  · exact lv_icmp_gt hx hb hd ht k1 k2
theorem sn_icle {off : Int} {t : Nat} (hd : decode (eb_b m) pc = .ok (.if_icmp .le off, 3)) (ht : (pc : Int) + off = (t : Int)) : eb_Snd L q0 m pc lg (op_icle t (pc + 3)) := by
  refine sn_br2 (C := fun x y => y < x) (pc + 3) t (fun cl ls st M => ?_) (fun p l e R s mt args below meth c Q cells slots arr H locs rest x y hx hb k1 k2 => ?_)
  · rcases st with _ | ⟨(y | y) | y, _ | ⟨(x | x) | x, r⟩⟩ <;> try exact Or.inr rfl
    refine Or.inl ⟨y, x, r, rfl, ?_⟩
    by_cases h : y < x
    · exact Or.inl ⟨h, by simp [op_icle, h]⟩
    · exact Or.inr ⟨h, by simp [op_icle, h]⟩
  · exact lv_icmp_le hx hb hd ht (fun q => k2 (Int32.not_lt.mpr q)) (fun q => k1 (Int32.not_le.mp q))
theorem sn_ifnn {off : Int} {t : Nat} (hd : decode (eb_b m) pc = .ok (.ifnonnull off, 3)) (ht : (pc : Int) + off = (t : Int)) : eb_Snd L q0 m pc lg (op_ifnn t (pc + 3)) := by
  refine eb_Snd_of (fun cl ls st M _ => ?_) (fun cl ls st M r h => ?_) (fun l d ls st M s' hs _ => ?_)
  · rcases st with _ | ⟨(x | x) | (_ | x), r⟩ <;> first | trivial | exact ⟨Nat.le_refl _, Nat.le_refl _⟩
  · rcases st with _ | ⟨(x | x) | (_ | x), r⟩ <;> cases h
  · rcases st with _ | ⟨(x | x) | (_ | x), r⟩ <;> first | (cases hs; done) | skip
    · cases hs
      exact er_st (fun w hw => Or.inl (List.mem_cons_of_mem _ hw)) (fun p e R s mt args below meth c Q cells slots φ arr H locs hC hA k => lv_ifnonnullN hC.1 hC.2.1 hd k)
    · cases hs
      exact er_st (fun w hw => Or.inl (List.mem_cons_of_mem _ hw)) (fun p e R s mt args below meth c Q cells slots φ arr H locs hC hA k => lv_ifnonnull hC.1 hC.2.1 hd ht k)
theorem eb_sw_spec {α : Type} (x : Int32) (f : Nat → α) (d : Nat) : ∀ cs : List (Int32 × Nat), (∃ (k : Nat) (q : Int32 × Nat), cs[k]? = some q ∧ x = q.1 ∧ eb_sw x f d cs = f q.2) ∨ ((∀ (k : Nat) (q : Int32 × Nat), cs[k]? = some q → ¬ x = q.1) ∧ eb_sw x f d cs = f d)
  | [] => Or.inr ⟨fun k q h => by simp at h, rfl⟩
  | q :: r => by
    by_cases h : x = q.1
    · exact Or.inl ⟨0, q, rfl, h, by simp [eb_sw, h]⟩
    · rcases eb_sw_spec x f d r with ⟨k, q1, h1, h2, h3⟩ | ⟨h1, h2⟩
      · exact Or.inl ⟨k + 1, q1, by simpa using h1, h2, by rw [← h3]; simp [eb_sw, h]⟩
      · refine Or.inr ⟨fun k q1 hk => ?_, by rw [← h2]; simp [eb_sw, h]⟩
        cases k with
        | zero => cases hk; exact h
        | succ k => exact h1 k q1 (by simpa using hk)
def eb_swc (pc : Nat) (lo : Int) (cs : List (Int32 × Nat)) (offs : Array Int) : Bool := (List.range cs.length).all fun k => match cs[k]?, offs[k]? with
  | some q, some off => decide (q.1.toInt = lo + k) && decide ((pc : Int) + off = q.2)
  | _, _ => false
theorem sn_sw {dOff lo hi : Int} {offs : Array Int} {len : Nat} {cs : List (Int32 × Nat)} {df : Nat} (hd : decode (eb_b m) pc = .ok (.tableswitch dOff lo hi offs, len)) (hl : lo + cs.length = hi + 1) (hc : eb_swc pc lo cs offs = true) (hdf : (pc : Int) + dOff = (df : Int)) : eb_Snd L q0 m pc lg (op_sw cs df) := by
  have hk : ∀ (k : Nat) (q : Int32 × Nat), cs[k]? = some q → ∃ off, offs[k]? = some off ∧ q.1.toInt = lo + k ∧ (pc : Int) + off = q.2 := by
    intro k q h
    have h1 := List.all_eq_true.mp hc k (List.mem_range.mpr (List.getElem?_eq_some_iff.mp h).1)
    rw [h] at h1
    cases ho : offs[k]? with
    | none => rw [ho] at h1; cases h1
    | some off =>
      rw [ho] at h1
      simp only [Bool.and_eq_true, decide_eq_true_eq] at h1
      exact ⟨off, rfl, h1.1, h1.2⟩
  refine eb_Snd_of (fun cl ls st M _ => ?_) (fun cl ls st M r h => ?_) (fun l d ls st M s' hs _ => ?_)
  · rcases st with _ | ⟨(x | x) | x, r⟩ <;> try trivial
    show eb_mT M (eb_sw x (fun t => eb_go t ls r M) df cs)
    rcases eb_sw_spec x (fun t => eb_go t ls r M) df cs with ⟨k, q, -, -, e⟩ | ⟨-, e⟩ <;> rw [e] <;> exact ⟨Nat.le_refl _, Nat.le_refl _⟩
  · rcases st with _ | ⟨(x | x) | x, r1⟩ <;> try (cases h; done)
    have h : eb_sw x (fun t => eb_go t ls r1 M) df cs = some (.inr r) := h
    rcases eb_sw_spec x (fun t => eb_go t ls r1 M) df cs with ⟨k, q, -, -, e⟩ | ⟨-, e⟩ <;> rw [e] at h <;> cases h
  · rcases st with _ | ⟨(x | x) | x, r⟩ <;> try (cases hs; done)
    have hs : eb_sw x (fun t => eb_go t ls r M) df cs = some (.inl s') := hs
    rcases eb_sw_spec x (fun t => eb_go t ls r M) df cs with ⟨k, q, h1, h2, e⟩ | ⟨h1, e⟩ <;> rw [e] at hs <;> cases hs
    · obtain ⟨off, g1, g2, g3⟩ := hk k q h1
      have hlt := (List.getElem?_eq_some_iff.mp h1).1
      exact er_st (fun w hw => Or.inl (List.mem_cons_of_mem _ hw)) (fun p e R s mt args below meth c Q cells slots φ arr H locs hC hA kk => lv_tableIn hC.1 hC.2.1 (off := off) hd (by rw [h2, g2]; omega) (by rw [h2, g2]; omega) (by rw [h2, g2, show (lo + (k : Int) - lo).toNat = k by omega]; exact g1) g3 kk)
    · refine er_st (fun w hw => Or.inl (List.mem_cons_of_mem _ hw)) (fun p e R s mt args below meth c Q cells slots φ arr H locs hC hA kk => lv_tableOut hC.1 hC.2.1 hd ?_ hdf kk)
      by_cases h3 : x.toInt < lo
      · exact Or.inl h3
      · by_cases h4 : hi < x.toInt
        · exact Or.inr h4
        · have hn : (x.toInt - lo).toNat < cs.length := by omega
          obtain ⟨off, -, g2, -⟩ := hk _ _ (List.getElem?_eq_getElem hn)
          exact absurd (Int32.toInt_inj.mp (by rw [g2]; omega)) (h1 _ _ (List.getElem?_eq_getElem hn))
-- ends
theorem eb_Snd_ret {o : eb_O} (h : ∀ cl ls st M, o cl ls st M = none ∨ ∃ v, o cl ls st M = some (.inr (v, M)) ∧ eb_isR m pc st v) : eb_Snd L q0 m pc lg o := by
  refine ⟨fun cl ls st M _ => ?_, fun cl ls st M r hr => ?_, fun l d ls st M s' hs _ => ?_⟩
  · rcases h cl ls st M with e | ⟨v, e, -⟩ <;> rw [e]
    · trivial
    · exact ⟨Nat.le_refl _, Nat.le_refl _⟩
  · rcases h cl ls st M with e | ⟨v, e, hi⟩ <;> rw [e] at hr <;> cases hr
    exact ⟨rfl, hi⟩
  · rcases h (eb_ev L d) ls st M with e | ⟨v, e, -⟩ <;> rw [e] at hs <;> cases hs
theorem sn_iret (hd : decode (eb_b m) pc = .ok (.ireturn, 1)) (hr : eb_rt m = some .int) : eb_Snd L q0 m pc lg op_iret := by
  refine eb_Snd_ret fun cl ls st M => ?_
  rcases st with _ | ⟨(x | x) | x, _ | ⟨y, r⟩⟩ <;> try exact Or.inl rfl
  exact Or.inr ⟨zi x, rfl, Or.inl ⟨hr, hd, x, rfl, rfl⟩⟩
theorem sn_zret (hd : decode (eb_b m) pc = .ok (.ireturn, 1)) (hr : eb_rt m = some .boolean) : eb_Snd L q0 m pc lg op_zret := by
  refine eb_Snd_ret fun cl ls st M => ?_
  rcases st with _ | ⟨(x | x) | x, _ | ⟨y, r⟩⟩ <;> try exact Or.inl rfl
  by_cases h : x = 0 ∨ x = 1
  · exact Or.inr ⟨zi x, by simp [op_zret, h], Or.inr (Or.inl ⟨hr, hd, x, h, rfl, rfl⟩)⟩
  · exact Or.inl (by simp [op_zret, h])
theorem sn_lret (hd : decode (eb_b m) pc = .ok (.lreturn, 1)) (hr : eb_rt m = some .long) : eb_Snd L q0 m pc lg op_lret := by
  refine eb_Snd_ret fun cl ls st M => ?_
  rcases st with _ | ⟨(x | x) | x, _ | ⟨y, r⟩⟩ <;> try exact Or.inl rfl
  exact Or.inr ⟨zl x, rfl, Or.inr (Or.inr (Or.inl ⟨hr, hd, x, rfl, rfl⟩))⟩
theorem sn_aret (hd : decode (eb_b m) pc = .ok (.areturn, 1)) (hr : ∃ C, eb_rt m = some (.object C)) : eb_Snd L q0 m pc lg op_aret := by
  refine eb_Snd_ret fun cl ls st M => ?_
  rcases st with _ | ⟨(x | x) | x, _ | ⟨y, r⟩⟩ <;> try exact Or.inl rfl
  exact Or.inr ⟨.inr x, rfl, Or.inr (Or.inr (Or.inr (Or.inl ⟨hr, hd, x, rfl, rfl⟩)))⟩
theorem sn_vret (hd : decode (eb_b m) pc = .ok (.return_, 1)) (hr : eb_rt m = none) : eb_Snd L q0 m pc lg op_vret := by
  refine eb_Snd_ret fun cl ls st M => ?_
  rcases st with _ | ⟨y, r⟩
  · exact Or.inr ⟨zn, rfl, Or.inr (Or.inr (Or.inr (Or.inr ⟨hr, hd, rfl, rfl⟩)))⟩
  · exact Or.inl rfl
end

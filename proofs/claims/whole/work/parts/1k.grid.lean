/-! rows of rows are made: their operations are sound -/
def eb_phs (φ : eb_A → Nat) (k q : Nat) : Nat → eb_A → Nat
  | 0 => eb_ph φ (eb_nm k) q
  | n + 1 => eb_ph (eb_phs φ k q n) (eb_nm (k + n + 1)) (q + n + 1)
theorem eb_phs_at {φ : eb_A → Nat} {k q : Nat} : ∀ (n j : Nat), j ≤ n → eb_phs φ k q n (eb_nm (k + j)) = q + j
  | 0, j, h => by
    have : j = 0 := by omega
    subst this
    exact if_pos rfl
  | n + 1, j, h => by
    show (if eb_nm (k + j) = eb_nm (k + n + 1) then q + n + 1 else eb_phs φ k q n (eb_nm (k + j))) = q + j
    by_cases e : j = n + 1
    · subst e
      exact if_pos rfl
    · rw [if_neg (fun z => by have := eb_nm_inj z; omega)]
      exact eb_phs_at n j (by omega)
theorem eb_phs_ok {φ : eb_A → Nat} {k q : Nat} : ∀ (n : Nat) (a : eb_A), eb_ok k a → eb_phs φ k q n a = φ a
  | 0, a, h => eb_ph_ok a h
  | n + 1, a, h => by
    show (if a = eb_nm (k + n + 1) then q + n + 1 else eb_phs φ k q n a) = φ a
    rw [if_neg (fun z : a = eb_nm (k + n + 1) => eb_ok_new (show k ≤ k + n + 1 by omega) (by rw [← z]; exact h))]
    exact eb_phs_ok n a h
theorem eb_zIs_ne {I : eb_A → Nat → Int32} {k : Nat} {a : eb_A} {l : Nat} : ∀ {n : Nat}, (∀ i, i < n → ¬ a = eb_nm (k + i)) → eb_zIs I k n a l = I a l
  | 0, _ => rfl
  | n + 1, h => by
    show (if a = eb_nm (k + n) then 0 else eb_zIs I k n a l) = I a l
    rw [if_neg (h n (by omega))]
    exact eb_zIs_ne fun i hi => h i (by omega)
theorem eb_zIs_at {I : eb_A → Nat → Int32} {k l : Nat} : ∀ {n i : Nat}, i < n → eb_zIs I k n (eb_nm (k + i)) l = 0
  | n + 1, i, h => by
    show (if eb_nm (k + i) = eb_nm (k + n) then 0 else eb_zIs I k n (eb_nm (k + i)) l) = 0
    by_cases e : i = n
    · subst e; exact if_pos rfl
    · rw [if_neg (fun z => by have := eb_nm_inj z; omega)]
      exact eb_zIs_at (by omega)
theorem eb_zJs_ne {I : eb_A → Nat → Int64} {k : Nat} {a : eb_A} {l : Nat} : ∀ {n : Nat}, (∀ i, i < n → ¬ a = eb_nm (k + i)) → eb_zJs I k n a l = I a l
  | 0, _ => rfl
  | n + 1, h => by
    show (if a = eb_nm (k + n) then 0 else eb_zJs I k n a l) = I a l
    rw [if_neg (h n (by omega))]
    exact eb_zJs_ne fun i hi => h i (by omega)
theorem eb_zJs_at {I : eb_A → Nat → Int64} {k l : Nat} : ∀ {n i : Nat}, i < n → eb_zJs I k n (eb_nm (k + i)) l = 0
  | n + 1, i, h => by
    show (if eb_nm (k + i) = eb_nm (k + n) then 0 else eb_zJs I k n (eb_nm (k + i)) l) = 0
    by_cases e : i = n
    · subst e; exact if_pos rfl
    · rw [if_neg (fun z => by have := eb_nm_inj z; omega)]
      exact eb_zJs_at (by omega)
theorem eb_uRs_ne {R : eb_A → Nat → Option eb_A} {a b : eb_A} {k l : Nat} (h : ¬ b = a) : ∀ {n : Nat}, eb_uRs R a k n b l = R b l
  | 0 => rfl
  | n + 1 => by
    show (if b = a ∧ l = n then some (eb_nm (k + n)) else eb_uRs R a k n b l) = R b l
    rw [if_neg (fun z => h z.1)]
    exact eb_uRs_ne h
theorem eb_uRs_at {R : eb_A → Nat → Option eb_A} {a : eb_A} {k : Nat} : ∀ {n j : Nat}, j < n → eb_uRs R a k n a j = some (eb_nm (k + j))
  | n + 1, j, h => by
    show (if a = a ∧ j = n then some (eb_nm (k + n)) else eb_uRs R a k n a j) = some (eb_nm (k + j))
    by_cases e : j = n
    · subst e; exact if_pos ⟨rfl, rfl⟩
    · rw [if_neg (fun z => e z.2)]
      exact eb_uRs_at (by omega)
theorem gr_cell {c : Cell} {cA : ClassId} {N : Nat} {f : Nat → Value} (h1 : c = { cls := cA, slots := c.slots, vm := .none }) (h3 : c.slots.size = N) (h4 : ∀ j, j < N → c.slots[j]? = some (f j)) : c = arrV cA N f := by
  have e : c.slots = Array.ofFn (n := N) fun j => f j.val := by
    apply Array.ext
    · rw [h3, Array.size_ofFn]
    · intro i i1 i2
      have i3 : i < N := by rw [← h3]; exact i1
      have h5 := h4 i i3
      rw [Array.getElem?_eq_getElem i1] at h5
      rw [Array.getElem_ofFn]
      exact Option.some.inj h5
  rw [h1, e]
  rfl
theorem gr_set {c : Cell} {cA : ClassId} {i : Nat} {v : Value} (h : c = { cls := cA, slots := c.slots, vm := .none }) : c.setSlot i v = { cls := cA, slots := (c.setSlot i v).slots, vm := .none } := by
  rw [h]
  rfl
section
variable {L q0 m pc : Nat} {lg : Nat → Bool}
theorem gr_out {cA : ClassId} {N q : Nat} : ∀ i, Jvm.Free.Multi.outerC cA N q i = { cls := cA, slots := (Jvm.Free.Multi.outerC cA N q i).slots, vm := .none }
  | 0 => rfl
  | i + 1 => gr_set (gr_out i)
set_option maxHeartbeats 4000000 in
theorem er_grid {l : Launch} {d ix tO tI : Nat} {ty : FieldType} (hty : (tO = 15 ∧ ty = .int) ∨ (tO = 16 ∧ ty = .long)) {x y : Int32} {ls : List (Option eb_V)} {r : List eb_V} {M M1 : eb_M} (hx : ¬ x < 0) (hx2 : x.toNatClampNeg ≤ 1000) (hy : ¬ y < 0) (hy2 : y.toNatClampNeg ≤ 1000)
    (h0 : eb_ty L (eb_nm M.1).1 = (tO, x.toNatClampNeg)) (h1 : ∀ i, i < x.toNatClampNeg → eb_ty L (eb_nm (M.1 + 1 + i)).1 = (tI, y.toNatClampNeg)) (htI : tI = 10 ∨ tI = 11)
    (hc : M1.1 = M.1 + 1 + x.toNatClampNeg) (hs : M1.2.1 = M.2.1 + (x.toNatClampNeg + x.toNatClampNeg * y.toNatClampNeg))
    (hI : ∀ a l, (∀ i, i < x.toNatClampNeg → ¬ a = eb_nm (M.1 + 1 + i)) → M1.2.2.1 a l = M.2.2.1 a l) (hJ : ∀ a l, (∀ i, i < x.toNatClampNeg → ¬ a = eb_nm (M.1 + 1 + i)) → M1.2.2.2.1 a l = M.2.2.2.1 a l)
    (hR : ∀ a l, ¬ a = eb_nm M.1 → M1.2.2.2.2 a l = M.2.2.2.2 a l) (hR0 : ∀ j, j < x.toNatClampNeg → M1.2.2.2.2 (eb_nm M.1) j = some (eb_nm (M.1 + 1 + j)))
    (hin : ∀ i, i < x.toNatClampNeg → ∀ (s : State) (φ : eb_A → Nat) (H1 : Heap) (cI : ClassId), ArrOfT s cI ty → H1[φ (eb_nm (M.1 + 1 + i))]? = some (arrV cI y.toNatClampNeg (fun _ => defaultValue ty)) → eb_cell s φ M1 tI y.toNatClampNeg (eb_nm (M.1 + 1 + i)) H1)
    (hw : Cond.classLink (eb_own m) ix ("[" ++ (FieldType.array ty).toString) ∈ eb_LT) (hwa : Cond.arrayClass ty ∈ eb_LT) (hd : decode (eb_b m) pc = .ok (.multianewarray ix 2, 4)) : eb_Nx L q0 m pc lg l d ls (zi y :: zi x :: r) M (pc + 4, ls, zr (eb_nm M.1) :: r, M1) := by
  intro p e R s mt args below meth c Q kc ks φ hC hk1 hk2 hk3 hk4 kk arr H locs hA
  dsimp only at hk3 hk4
  rw [hc] at hk3
  rw [hs] at hk4
  generalize hn : x.toNatClampNeg = n at *
  generalize hk : y.toNatClampNeg = k at *
  have hov : (Cond.arrayOver (.array ty)).before args s = true := by
    rcases hty with ⟨-, rfl⟩ | ⟨-, rfl⟩
    · exact hA.2.1.2.2.1.1
    · exact hA.2.1.2.2.1.2
  have hcb : componentBytes ty ≤ 8 := by rcases hty with ⟨-, rfl⟩ | ⟨-, rfl⟩ <;> decide
  have hkb : k * componentBytes ty ≤ 536870912 := Nat.le_trans (Nat.mul_le_mul hy2 hcb) (by decide)
  have hdf : fits ty (defaultValue ty) = true ∧ (defaultValue ty).isDefault = true := by rcases hty with ⟨-, rfl⟩ | ⟨-, rfl⟩ <;> exact ⟨rfl, rfl⟩
  intro T hT X
  generalize hz : n * k = z at *
  obtain ⟨vm₁, cA, comp, hW1, hfA, hfC, hO, hI1, X1, step⟩ := X.multianewarray2F hC.1 (own := eb_own m) (index := ix) (ty := ty) hC.2.2.2.1 (hC.2.2.2.2.1 _ hw) hov (hC.2.2.2.2.1 _ hwa)
    (g := F0 mt pc arr ((zi y :: zi x :: r).map (eb_cn φ))) rfl (by rw [hC.2.1]; exact hd) (n := x) (k := y) (rest := r.map (eb_cn φ)) rfl hx hy (by rw [hn]; omega) (by rw [hk]; exact hkb) (by rw [hk]; omega) hdf.1 hdf.2 (by rw [hn]; omega) (by rw [hn, hk, hz]; omega)
  rw [hn, hk] at X1 step
  rw [hz] at X1
  obtain ⟨f1, f2, -, -⟩ := Jvm.Free.Multi.fill_facts (T.setVm vm₁) cA comp n k (defaultValue ty) n
  have fo := fun (a : Nat) (ha : a < T.heap.size) => Jvm.Free.Multi.fill_old (T.setVm vm₁) cA comp n k (defaultValue ty) (a := a) ha n
  have fi := fun (j : Nat) (hj : j < n) => Jvm.Free.Multi.fill_inner (T.setVm vm₁) cA comp n k (defaultValue ty) n j hj
  have f1 : (Jvm.Free.Multi.fill (T.setVm vm₁) cA comp n k (defaultValue ty) n).heap.size = T.heap.size + 1 + n := f1
  have f2 : (Jvm.Free.Multi.fill (T.setVm vm₁) cA comp n k (defaultValue ty) n).heap[T.heap.size]? = some (Jvm.Free.Multi.outerC cA n T.heap.size n) := f2
  have fi : ∀ j, j < n → (Jvm.Free.Multi.fill (T.setVm vm₁) cA comp n k (defaultValue ty) n).heap[T.heap.size + 1 + j]? = some (Jvm.Free.Multi.innerC comp k (defaultValue ty)) := fi
  have fo : ∀ a : Nat, a < T.heap.size → (Jvm.Free.Multi.fill (T.setVm vm₁) cA comp n k (defaultValue ty) n).heap[a]? = T.heap[a]? := fo
  generalize hF : Jvm.Free.Multi.fill (T.setVm vm₁) cA comp n k (defaultValue ty) n = F at *
  rw [hT] at f1 f2 fi fo step
  have hAO : ArrOfT s cA (.array ty) := fun n z => ⟨fun k h => (by cases h), (hO 0 0 0).1.2⟩
  have hAI : ArrOfT s comp ty := fun n z => ⟨fun k h => (by cases h), (hI1 0 (defaultValue ty)).1.2⟩
  obtain ⟨o1, o2, o3⟩ := Jvm.Free.Multi.outerC_facts cA n H.size n
  have eO : Jvm.Free.Multi.outerC cA n H.size n = arrV cA n (fun j => .ref (H.size + 1 + j)) := gr_cell (gr_out n) o3 fun j hj => by rw [Jvm.Free.Multi.outerC_slot cA n H.size n j hj, if_pos hj]
  have eI : Jvm.Free.Multi.innerC comp k (defaultValue ty) = arrV comp k (fun _ => defaultValue ty) := gr_cell rfl (by simp [Jvm.Free.Multi.innerC]) fun j hj => by simp [Jvm.Free.Multi.innerC, hj]
  rw [eO] at f2
  rw [eI] at fi
  have hph := eb_phs_ok (φ := φ) (k := M.1) (q := H.size) n
  have hat := fun j hj => eb_phs_at (φ := φ) (k := M.1) (q := H.size) n j hj
  have hat0 : eb_phs φ M.1 H.size n (eb_nm M.1) = H.size := hat 0 (Nat.zero_le _)
  have hat1 : ∀ j, j < n → eb_phs φ M.1 H.size n (eb_nm (M.1 + 1 + j)) = H.size + 1 + j := fun j hj => by
    have := hat (j + 1) (by omega)
    rw [show M.1 + 1 + j = M.1 + (j + 1) by omega, this]
    omega
  generalize hψ : eb_phs φ M.1 H.size n = ψ at *
  have hne : ∀ (a j : Nat), a < M.1 → ∀ i, i < n → ¬ eb_nm a = eb_nm (M.1 + 1 + i) := fun a j ha i hi z => by have := eb_nm_inj z; omega
  have hWd : eb_Wd L q0 ψ M1 s F.heap := by
    refine eb_Wd_grow hA.1 (by omega) hph (fun a j ha => hI _ j (hne a j ha)) (fun a j ha => hJ _ j (hne a j ha)) (fun a j ha => hR _ j (fun z => by have := eb_nm_inj z; omega)) (by rw [f1]; omega) fo fun a a1 a2 => ?_
    by_cases ea : a = M.1
    · subst ea
      rw [h0]
      refine ⟨?_, by rw [hat0]; omega, fun j b hw1 hb => ?_⟩
      · rw [eb_cell_R (by omega)]
        have het : eb_et tO = .array ty := by rcases hty with ⟨rfl, rfl⟩ | ⟨rfl, rfl⟩ <;> rfl
        rw [het]
        refine ⟨cA, hAO, ?_, ?_⟩
        · exact hfA
        · rw [hat0, f2]
          refine congrArg some (arrV_congr fun j hj => ?_)
          rw [hR0 j hj]
          show Value.ref _ = Value.ref _
          rw [hat1 j hj]
      · rcases hw1 with ⟨q, -⟩ | ⟨-, -, q⟩
        · dsimp only at q
          omega
        · dsimp only at q
          rw [hR0 j q] at hb
          cases hb
          exact Or.inl ⟨M.1 + 1 + j, by omega, rfl⟩
    · obtain ⟨i, rfl⟩ : ∃ i, a = M.1 + 1 + i := ⟨a - (M.1 + 1), by omega⟩
      have hi : i < n := by omega
      rw [h1 i hi]
      refine ⟨hin i hi s ψ F.heap comp hAI (by rw [hat1 i hi]; exact fi i hi), by rw [hat1 i hi]; omega, fun j b hw1 hb => ?_⟩
      rcases hw1 with ⟨q, -⟩ | ⟨q, -⟩ <;> dsimp only at q <;> omega
  have hAt := er_grow hA hph (show M.1 ≤ M1.1 by omega) hWd (by rw [f1]; omega) fo (st1 := zr (eb_nm M.1) :: r) (fun w hw => by
    rcases List.mem_cons.mp hw with rfl | hw
    · intro a ha
      cases ha
      exact Or.inl ⟨M.1, by omega, rfl⟩
    · exact eb_okV_mono (by omega) (hA.2.2.2.2.2.1 w (List.mem_cons_of_mem _ (List.mem_cons_of_mem _ hw))))
  have hk5 := kk ψ hph arr F.heap locs hAt
  have est : (zr (eb_nm M.1) :: r).map (eb_cn ψ) = .ref H.size :: r.map (eb_cn φ) := by
    rw [List.map_cons, eb_map_ok hph (fun v hv => hA.2.2.2.2.2.1 v (List.mem_cons_of_mem _ (List.mem_cons_of_mem _ hv)))]
    show Value.ref _ :: _ = _
    rw [hat0]
  dsimp only at hk5
  rw [est, hc, hs, show M.1 + 1 + n - kc = M.1 - kc + 1 + n by omega, show M.2.1 + (n + z) - ks = M.2.1 - ks + n + z by omega] at hk5
  obtain ⟨t, b1, b2⟩ := hk5 F rfl X1
  exact ⟨t, step t b1, b2⟩
theorem all_of {n : Nat} {p : Nat → Bool} (h : (List.range n).all p = true) (i : Nat) (hi : i < n) : p i = true := List.all_eq_true.mp h i (List.mem_range.mpr hi)
theorem sn_newII {ix : Nat} (hw : Cond.classLink (eb_own m) ix ("[" ++ (FieldType.array .int).toString) ∈ eb_LT) (hd : decode (eb_b m) pc = .ok (.multianewarray ix 2, 4)) : eb_Snd L q0 m pc lg (op_newII L (pc + 4)) := by
  have ho : ∀ cl ls st M, (∃ y x r, st = zi y :: zi x :: r ∧ (eb_ty L (eb_nm M.1).1 = (15, x.toNatClampNeg) ∧ (¬ x < 0 ∧ x.toNatClampNeg ≤ 1000 ∧ ¬ y < 0 ∧ y.toNatClampNeg ≤ 1000) ∧ (List.range x.toNatClampNeg).all (fun i => decide (eb_ty L (eb_nm (M.1 + 1 + i)).1 = (10, y.toNatClampNeg))) = true) ∧ op_newII L (pc + 4) cl ls st M = eb_go (pc + 4) ls (zr (eb_nm M.1) :: r) (M.1 + 1 + x.toNatClampNeg, M.2.1 + (x.toNatClampNeg + x.toNatClampNeg * y.toNatClampNeg), eb_zIs M.2.2.1 (M.1 + 1) x.toNatClampNeg, M.2.2.2.1, eb_uRs M.2.2.2.2 (eb_nm M.1) (M.1 + 1) x.toNatClampNeg)) ∨ op_newII L (pc + 4) cl ls st M = none := by
    intro cl ls st M
    rcases st with _ | ⟨(y | y) | y, _ | ⟨(x | x) | x, r⟩⟩ <;> try exact Or.inr rfl
    by_cases h : eb_ty L (eb_nm M.1).1 = (15, x.toNatClampNeg) ∧ (¬ x < 0 ∧ x.toNatClampNeg ≤ 1000 ∧ ¬ y < 0 ∧ y.toNatClampNeg ≤ 1000) ∧ (List.range x.toNatClampNeg).all (fun i => decide (eb_ty L (eb_nm (M.1 + 1 + i)).1 = (10, y.toNatClampNeg))) = true
    · exact Or.inl ⟨y, x, r, rfl, h, if_pos h⟩
    · exact Or.inr (if_neg h)
  refine eb_Snd_of (fun cl ls st M _ => ?_) (fun cl ls st M r h => ?_) (fun l d ls st M s' hs _ => ?_)
  · rcases ho cl ls st M with ⟨y, x, r, -, -, e⟩ | e <;> rw [e]
    · exact ⟨by show M.1 ≤ M.1 + 1 + _; omega, Nat.le_add_right _ _⟩
    · trivial
  · rcases ho cl ls st M with ⟨y, x, r, -, -, e⟩ | e <;> rw [e] at h <;> cases h
  · rcases ho (eb_ev L d) ls st M with ⟨y, x, r, rfl, ⟨h1, ⟨h2, h3, h4, h5⟩, h6⟩, ee⟩ | ee <;> rw [ee] at hs <;> cases hs
    have h7 := fun i hi => of_decide_eq_true (all_of h6 i hi)
    refine er_grid (tO := 15) (tI := 10) (ty := .int) (Or.inl ⟨rfl, rfl⟩) h2 h3 h4 h5 h1 h7 (Or.inl rfl) rfl rfl (fun a l h => eb_zIs_ne h) (fun a l _ => rfl) (fun a l h => eb_uRs_ne h) (fun j hj => eb_uRs_at hj) (fun i hi s φ H1 cI hAr hH => ?_) hw eb_aI hd
    rw [eb_cell_I]
    refine ⟨cI, hAr, hH.trans (congrArg some (arrV_congr fun j _ => ?_))⟩
    show Value.int 0 = Value.int (eb_zIs _ _ _ _ _)
    rw [eb_zIs_at hi]
theorem sn_newJJ {ix : Nat} (hw : Cond.classLink (eb_own m) ix ("[" ++ (FieldType.array .long).toString) ∈ eb_LT) (hd : decode (eb_b m) pc = .ok (.multianewarray ix 2, 4)) : eb_Snd L q0 m pc lg (op_newJJ L (pc + 4)) := by
  have ho : ∀ cl ls st M, (∃ y x r, st = zi y :: zi x :: r ∧ (eb_ty L (eb_nm M.1).1 = (16, x.toNatClampNeg) ∧ (¬ x < 0 ∧ x.toNatClampNeg ≤ 1000 ∧ ¬ y < 0 ∧ y.toNatClampNeg ≤ 1000) ∧ (List.range x.toNatClampNeg).all (fun i => decide (eb_ty L (eb_nm (M.1 + 1 + i)).1 = (11, y.toNatClampNeg))) = true) ∧ op_newJJ L (pc + 4) cl ls st M = eb_go (pc + 4) ls (zr (eb_nm M.1) :: r) (M.1 + 1 + x.toNatClampNeg, M.2.1 + (x.toNatClampNeg + x.toNatClampNeg * y.toNatClampNeg), M.2.2.1, eb_zJs M.2.2.2.1 (M.1 + 1) x.toNatClampNeg, eb_uRs M.2.2.2.2 (eb_nm M.1) (M.1 + 1) x.toNatClampNeg)) ∨ op_newJJ L (pc + 4) cl ls st M = none := by
    intro cl ls st M
    rcases st with _ | ⟨(y | y) | y, _ | ⟨(x | x) | x, r⟩⟩ <;> try exact Or.inr rfl
    by_cases h : eb_ty L (eb_nm M.1).1 = (16, x.toNatClampNeg) ∧ (¬ x < 0 ∧ x.toNatClampNeg ≤ 1000 ∧ ¬ y < 0 ∧ y.toNatClampNeg ≤ 1000) ∧ (List.range x.toNatClampNeg).all (fun i => decide (eb_ty L (eb_nm (M.1 + 1 + i)).1 = (11, y.toNatClampNeg))) = true
    · exact Or.inl ⟨y, x, r, rfl, h, if_pos h⟩
    · exact Or.inr (if_neg h)
  refine eb_Snd_of (fun cl ls st M _ => ?_) (fun cl ls st M r h => ?_) (fun l d ls st M s' hs _ => ?_)
  · rcases ho cl ls st M with ⟨y, x, r, -, -, e⟩ | e <;> rw [e]
    · exact ⟨by show M.1 ≤ M.1 + 1 + _; omega, Nat.le_add_right _ _⟩
    · trivial
  · rcases ho cl ls st M with ⟨y, x, r, -, -, e⟩ | e <;> rw [e] at h <;> cases h
  · rcases ho (eb_ev L d) ls st M with ⟨y, x, r, rfl, ⟨h1, ⟨h2, h3, h4, h5⟩, h6⟩, ee⟩ | ee <;> rw [ee] at hs <;> cases hs
    have h7 := fun i hi => of_decide_eq_true (all_of h6 i hi)
    refine er_grid (tO := 16) (tI := 11) (ty := .long) (Or.inr ⟨rfl, rfl⟩) h2 h3 h4 h5 h1 h7 (Or.inr rfl) rfl rfl (fun a l _ => rfl) (fun a l h => eb_zJs_ne h) (fun a l h => eb_uRs_ne h) (fun j hj => eb_uRs_at hj) (fun i hi s φ H1 cI hAr hH => ?_) hw eb_aJ hd
    rw [eb_cell_J]
    refine ⟨cI, hAr, hH.trans (congrArg some (arrV_congr fun j _ => ?_))⟩
    show Value.long 0 = Value.long (eb_zJs _ _ _ _ _)
    rw [eb_zJs_at hi]
end

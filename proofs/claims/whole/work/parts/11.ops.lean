/-! the operations are sound: values, stack, branches -/
section
variable {L q0 m pc : Nat} {lg : Nat → Bool}
theorem eb_Snd_of {o : eb_O} (h1 : ∀ cl ls st M, eb_mC cl → eb_mT M (o cl ls st M)) (h2 : ∀ cl ls st M r, ¬ o cl ls st M = some (.inr r)) (h3 : ∀ l d ls st M s', o (eb_ev L d) ls st M = some (.inl s') → eb_Sd L q0 l d → eb_Nx L q0 m pc lg l d ls st M s') : eb_Snd L q0 m pc lg o := ⟨h1, fun cl ls st M r h => absurd h (h2 cl ls st M r), h3⟩
theorem sn_push {v : eb_V} {nx : Nat} (hv : (∃ x, v = .inl x) ∨ ∃ i, v = zr (50, i, 0) ∧ i < 12) (h : ∀ (p : Program) (l : Launch) (e : Env) (R : Room) (s : State) (mt : MethodId) (args : Array Value) (below : List Frame) (meth : Method) (c : Code) (Q : State → Prop) (cells slots : Nat) (φ : eb_A → Nat) (arr : Array Slot) (H : Heap) (locs : List Loc) (rest : List Value) (d : Nat), eb_Cx q0 d p R s mt args meth c m → eb_Kn q0 φ s H → W p l e R s mt args below meth c H locs cells slots Q (F0 mt nx arr (eb_cn φ v :: rest)) → W p l e R s mt args below meth c H locs cells slots Q (F0 mt pc arr rest)) : eb_Snd L q0 m pc lg (op_push v nx) := by
  refine eb_Snd_of (fun _ _ _ _ _ => ⟨Nat.le_refl _, Nat.le_refl _⟩) (fun _ _ _ _ _ h => by cases h) (fun l d ls st M s' hs _ => ?_)
  cases hs
  refine er_st (fun w hw => ?_) (fun p e R s mt args below meth c Q cells slots φ arr H locs hC hA k => h p l e R s mt args below meth c Q cells slots φ arr H locs _ d hC hA.2.1 k)
  rcases List.mem_cons.mp hw with rfl | hw
  · rcases hv with ⟨x, rfl⟩ | ⟨i, rfl, hi⟩
    · exact Or.inr (Or.inr (Or.inl ⟨x, rfl⟩))
    · exact Or.inr (Or.inr (Or.inr (Or.inr ⟨i, rfl, hi⟩)))
  · exact Or.inl hw
theorem sn_iconst {n : Int} {v : Int32} (hd : decode (eb_b m) pc = .ok (.iconst n, 1)) (hv : Int32.ofInt n = v) : eb_Snd L q0 m pc lg (op_push (zi v) (pc + 1)) := sn_push (Or.inl ⟨_, rfl⟩) fun p l e R s mt args below meth c Q cells slots φ arr H locs rest d hC _ k => lv_iconst hC.1 hC.2.1 hd hv k
theorem sn_bipush {n : Int} {v : Int32} (hd : decode (eb_b m) pc = .ok (.bipush n, 2)) (hv : (Int8.ofInt n).toInt32 = v) : eb_Snd L q0 m pc lg (op_push (zi v) (pc + 2)) := sn_push (Or.inl ⟨_, rfl⟩) fun p l e R s mt args below meth c Q cells slots φ arr H locs rest d hC _ k => lv_bipush hC.1 hC.2.1 hd hv k
theorem sn_sipush {n : Int} {v : Int32} (hd : decode (eb_b m) pc = .ok (.sipush n, 3)) (hv : (Int16.ofInt n).toInt32 = v) : eb_Snd L q0 m pc lg (op_push (zi v) (pc + 3)) := sn_push (Or.inl ⟨_, rfl⟩) fun p l e R s mt args below meth c Q cells slots φ arr H locs rest d hC _ k => lv_sipush hC.1 hC.2.1 hd hv k
theorem sn_lconst {n : Fin 2} {v : Int64} (hd : decode (eb_b m) pc = .ok (.lconst n, 1)) (hv : Int64.ofNat (n : Nat) = v) : eb_Snd L q0 m pc lg (op_push (zl v) (pc + 1)) := sn_push (Or.inl ⟨_, rfl⟩) fun p l e R s mt args below meth c Q cells slots φ arr H locs rest d hC _ k => lv_lconst hC.1 hC.2.1 hd hv k
theorem sn_ldc {ix : Nat} {v : Int32} (hd : decode (eb_b m) pc = .ok (.ldc ix, 2)) (hw : Cond.constant (eb_own m) ix v ∈ eb_LT) : eb_Snd L q0 m pc lg (op_push (zi v) (pc + 2)) := sn_push (Or.inl ⟨_, rfl⟩) fun p l e R s mt args below meth c Q cells slots φ arr H locs rest d hC _ k => lv_ldc hC.1 hC.2.1 hC.2.2.2.1 (hC.2.2.2.2.1 _ hw) hd k
theorem sn_ldcw {ix : Nat} {v : Int32} (hd : decode (eb_b m) pc = .ok (.ldc_w ix, 3)) (hw : Cond.constant (eb_own m) ix v ∈ eb_LT) : eb_Snd L q0 m pc lg (op_push (zi v) (pc + 3)) := sn_push (Or.inl ⟨_, rfl⟩) fun p l e R s mt args below meth c Q cells slots φ arr H locs rest d hC _ k => lv_ldcw hC.1 hC.2.1 hC.2.2.2.1 (hC.2.2.2.2.1 _ hw) hd k
theorem sn_ldc2 {ix : Nat} {v : Int64} (hd : decode (eb_b m) pc = .ok (.ldc2_w ix, 3)) (hw : Cond.constantLong (eb_own m) ix v ∈ eb_LT) : eb_Snd L q0 m pc lg (op_push (zl v) (pc + 3)) := sn_push (Or.inl ⟨_, rfl⟩) fun p l e R s mt args below meth c Q cells slots φ arr H locs rest d hC _ k => lv_ldc2 hC.1 hC.2.1 hC.2.2.2.1 (hC.2.2.2.2.1 _ hw) hd k
theorem sn_ldcS {ix i : Nat} (hi : i < 12) (hd : decode (eb_b m) pc = .ok (.ldc ix, 2)) (hw : (eb_sR i).1 = eb_own m ∧ (eb_sR i).2.1 = ix) : eb_Snd L q0 m pc lg (op_push (zr (50, i, 0)) (pc + 2)) := sn_push (Or.inr ⟨i, rfl, hi⟩) fun p l e R s mt args below meth c Q cells slots φ arr H locs rest d hC hK k => by
  have h4 := hK.2.2.2.1 i hi
  rw [hw.1, hw.2] at h4
  exact va_ldcS hC.1 hC.2.1 hC.2.2.2.1 h4 hd k
theorem eb_lcmp {x y : Int64} : (if x < y then (-1 : Int32) else if x = y then 0 else 1) = lg_cmp x y := by
  unfold lg_cmp
  by_cases h : x < y
  · have h1 : ¬ x > y := Int64.lt_asymm h
    have h2 : ¬ x = y := fun q => by rw [q] at h; exact Int64.lt_irrefl h
    simp [h, h1, h2]
  · by_cases h2 : x = y
    · have h1 : ¬ x > y := fun q => by rw [h2] at q; exact Int64.lt_irrefl q
      simp [h, h1, h2]
    · have h1 : x > y := by
        have h3 : ¬ x.toInt < y.toInt := fun q => h (Int64.lt_iff_toInt_lt.mpr q)
        have h4 : x.toInt ≠ y.toInt := fun q => h2 (Int64.toInt_inj.mp q)
        show y < x
        rw [Int64.lt_iff_toInt_lt]
        omega
      simp [h, h1, h2]
/-- an operation on values alone -/
theorem sn_val {o : eb_O} {f : List eb_V → Option (List eb_V)} {nx : Nat} (ho : ∀ cl ls st M, o cl ls st M = match f st with | some st1 => eb_go nx ls st1 M | none => none)
    (hok : ∀ st st1, f st = some st1 → ∀ v ∈ st1, v ∈ st ∨ (∃ x, v = .inl x))
    (h : ∀ (p : Program) (l : Launch) (e : Env) (R : Room) (s : State) (mt : MethodId) (args : Array Value) (below : List Frame) (meth : Method) (c : Code) (Q : State → Prop) (cells slots : Nat) (φ : eb_A → Nat) (arr : Array Slot) (H : Heap) (locs : List Loc) (st st1 : List eb_V), p.tables.exec = Jvm.exec → c.code = eb_b m → f st = some st1 → W p l e R s mt args below meth c H locs cells slots Q (F0 mt nx arr (st1.map (eb_cn φ))) → W p l e R s mt args below meth c H locs cells slots Q (F0 mt pc arr (st.map (eb_cn φ)))) : eb_Snd L q0 m pc lg o := by
  refine eb_Snd_of (fun cl ls st M _ => ?_) (fun cl ls st M r h => ?_) (fun l d ls st M s' hs _ => ?_)
  · rw [ho]
    cases f st with
    | none => trivial
    | some st1 => exact ⟨Nat.le_refl _, Nat.le_refl _⟩
  · rw [ho] at h
    cases hf : f st with
    | none => rw [hf] at h; cases h
    | some st1 => rw [hf] at h; cases h
  · rw [ho] at hs
    cases hf : f st with
    | none => rw [hf] at hs; cases hs
    | some st1 =>
      rw [hf] at hs
      cases hs
      refine er_st (fun w hw => ?_) (fun p e R s mt args below meth c Q cells slots φ arr H locs hC hA k => h p l e R s mt args below meth c Q cells slots φ arr H locs st st1 hC.1 hC.2.1 hf k)
      rcases hok st st1 hf w hw with h1 | h1
      · exact Or.inl h1
      · exact Or.inr (Or.inr (Or.inl h1))
def fv_ii (g : Int32 → Int32 → Int32) : List eb_V → Option (List eb_V)
  | .inl (.inl y) :: .inl (.inl x) :: st => some (zi (g x y) :: st)
  | _ => none
theorem fv_ii_s {g : Int32 → Int32 → Int32} {st st1 : List eb_V} (h : fv_ii g st = some st1) : ∃ y x r, st = zi y :: zi x :: r ∧ st1 = zi (g x y) :: r := by
  unfold fv_ii at h
  split at h
  · next y x r => exact ⟨y, x, r, rfl, (Option.some.inj h).symm⟩
  · cases h
theorem sn_ii {g : Int32 → Int32 → Int32} {nx : Nat} (h : ∀ (p : Program) (l : Launch) (e : Env) (R : Room) (s : State) (mt : MethodId) (args : Array Value) (below : List Frame) (meth : Method) (c : Code) (Q : State → Prop) (cells slots : Nat) (arr : Array Slot) (H : Heap) (locs : List Loc) (rest : List Value) (x y : Int32), p.tables.exec = Jvm.exec → c.code = eb_b m → W p l e R s mt args below meth c H locs cells slots Q (F0 mt nx arr (.int (g x y) :: rest)) → W p l e R s mt args below meth c H locs cells slots Q (F0 mt pc arr (.int y :: .int x :: rest))) : eb_Snd L q0 m pc lg (op_ii g nx) := by
  refine sn_val (f := fv_ii g) (nx := nx) (fun cl ls st M => ?_) (fun st st1 hf v hv => ?_) (fun p l e R s mt args below meth c Q cells slots φ arr H locs st st1 hx hb hf k => ?_)
  · unfold op_ii fv_ii
    rcases st with _ | ⟨(x | x) | x, _ | ⟨(y | y) | y, st⟩⟩ <;> first | rfl | (split <;> rfl)
  · obtain ⟨y, x, r, rfl, rfl⟩ := fv_ii_s hf
    rcases List.mem_cons.mp hv with rfl | hv
    · exact Or.inr ⟨_, rfl⟩
    · exact Or.inl (List.mem_cons_of_mem _ (List.mem_cons_of_mem _ hv))
  · obtain ⟨y, x, r, rfl, rfl⟩ := fv_ii_s hf
    exact h p l e R s mt args below meth c Q cells slots arr H locs (r.map (eb_cn φ)) x y hx hb k
theorem sn_iadd (hd : decode (eb_b m) pc = .ok (.iadd, 1)) : eb_Snd L q0 m pc lg (op_ii (· + ·) (pc + 1)) := sn_ii fun p l e R s mt args below meth c Q cells slots arr H locs rest x y hx hb k => lv_iadd hx hb hd k
theorem sn_isub (hd : decode (eb_b m) pc = .ok (.isub, 1)) : eb_Snd L q0 m pc lg (op_ii (· - ·) (pc + 1)) := sn_ii fun p l e R s mt args below meth c Q cells slots arr H locs rest x y hx hb k => lv_isub hx hb hd k
theorem sn_imul (hd : decode (eb_b m) pc = .ok (.imul, 1)) : eb_Snd L q0 m pc lg (op_ii (· * ·) (pc + 1)) := sn_ii fun p l e R s mt args below meth c Q cells slots arr H locs rest x y hx hb k => lv_imul hx hb hd k
theorem sn_iand (hd : decode (eb_b m) pc = .ok (.iand, 1)) : eb_Snd L q0 m pc lg (op_ii (· &&& ·) (pc + 1)) := sn_ii fun p l e R s mt args below meth c Q cells slots arr H locs rest x y hx hb k => lv_iand hx hb hd k
theorem sn_ior (hd : decode (eb_b m) pc = .ok (.ior, 1)) : eb_Snd L q0 m pc lg (op_ii (· ||| ·) (pc + 1)) := sn_ii fun p l e R s mt args below meth c Q cells slots arr H locs rest x y hx hb k => lv_ior hx hb hd k
theorem sn_ishl (hd : decode (eb_b m) pc = .ok (.ishl, 1)) : eb_Snd L q0 m pc lg (op_ii (fun x y => x <<< (y &&& 31)) (pc + 1)) := sn_ii fun p l e R s mt args below meth c Q cells slots arr H locs rest x y hx hb k => lv_ishl hx hb hd k
theorem sn_ishr (hd : decode (eb_b m) pc = .ok (.ishr, 1)) : eb_Snd L q0 m pc lg (op_ii (fun x y => x >>> (y &&& 31)) (pc + 1)) := sn_ii fun p l e R s mt args below meth c Q cells slots arr H locs rest x y hx hb k => lv_ishr hx hb hd k
theorem sn_iushr (hd : decode (eb_b m) pc = .ok (.iushr, 1)) : eb_Snd L q0 m pc lg (op_ii (fun x y => (x.toUInt32 >>> (y.toUInt32 &&& Int32.toUInt32 31)).toInt32) (pc + 1)) := sn_ii fun p l e R s mt args below meth c Q cells slots arr H locs rest x y hx hb k => lv_iushr hx hb hd rfl k
def fv_idiv : List eb_V → Option (List eb_V)
  | .inl (.inl y) :: .inl (.inl x) :: st => if y = 0 then none else some (zi (x / y) :: st)
  | _ => none
theorem sn_idiv (hd : decode (eb_b m) pc = .ok (.idiv, 1)) : eb_Snd L q0 m pc lg (op_iid (· / ·) (pc + 1)) := by
  refine sn_val (f := fv_idiv) (nx := pc + 1) (fun cl ls st M => ?_) (fun st st1 hf v hv => ?_) (fun p l e R s mt args below meth c Q cells slots φ arr H locs st st1 hx hb hf k => ?_)
  · unfold op_iid fv_idiv
    rcases st with _ | ⟨(x | x) | x, _ | ⟨(y | y) | y, st⟩⟩ <;> first | rfl | (by_cases h0 : x = 0 <;> simp [h0])
  · unfold fv_idiv at hf
    split at hf
    · split at hf
      · cases hf
      · cases hf
        simp only [List.mem_cons] at hv ⊢
        first | (rcases hv with rfl | hv <;> first | exact Or.inr ⟨_, rfl⟩ | simp [hv]) | simp [hv]
    · cases hf
  · unfold fv_idiv at hf
    split at hf
    · next y x r =>
      split at hf
      · cases hf
      · next hne => cases hf; exact lv_idiv hx hb hd hne k
    · cases hf
def fv_irem : List eb_V → Option (List eb_V)
  | .inl (.inl y) :: .inl (.inl x) :: st => if y = 0 then none else some (zi (x - x / y * y) :: st)
  | _ => none
theorem sn_irem (hd : decode (eb_b m) pc = .ok (.irem, 1)) : eb_Snd L q0 m pc lg (op_iid (fun x y => x - x / y * y) (pc + 1)) := by
  refine sn_val (f := fv_irem) (nx := pc + 1) (fun cl ls st M => ?_) (fun st st1 hf v hv => ?_) (fun p l e R s mt args below meth c Q cells slots φ arr H locs st st1 hx hb hf k => ?_)
  · unfold op_iid fv_irem
    rcases st with _ | ⟨(x | x) | x, _ | ⟨(y | y) | y, st⟩⟩ <;> first | rfl | (by_cases h0 : x = 0 <;> simp [h0])
  · unfold fv_irem at hf
    split at hf
    · split at hf
      · cases hf
      · cases hf
        simp only [List.mem_cons] at hv ⊢
        first | (rcases hv with rfl | hv <;> first | exact Or.inr ⟨_, rfl⟩ | simp [hv]) | simp [hv]
    · cases hf
  · unfold fv_irem at hf
    split at hf
    · next y x r =>
      split at hf
      · cases hf
      · next hne => cases hf; exact lv_irem hx hb hd hne k
    · cases hf
def fv_ineg : List eb_V → Option (List eb_V)
  | .inl (.inl x) :: st => some (zi (-x) :: st)
  | _ => none
theorem sn_ineg (hd : decode (eb_b m) pc = .ok (.ineg, 1)) : eb_Snd L q0 m pc lg (op_i (fun x => -x) (pc + 1)) := by
  refine sn_val (f := fv_ineg) (nx := pc + 1) (fun cl ls st M => ?_) (fun st st1 hf v hv => ?_) (fun p l e R s mt args below meth c Q cells slots φ arr H locs st st1 hx hb hf k => ?_)
  · unfold op_i fv_ineg
    rcases st with _ | ⟨(x | x) | x, _ | ⟨(y | y) | y, st⟩⟩ <;> first | rfl | (split <;> rfl)
  · unfold fv_ineg at hf
    split at hf
    · cases hf
      simp only [List.mem_cons] at hv ⊢
      first | (rcases hv with rfl | rfl | rfl | rfl | hv <;> first | exact Or.inr ⟨_, rfl⟩ | simp; done | simp [hv]) | (rcases hv with rfl | rfl | rfl | hv <;> first | exact Or.inr ⟨_, rfl⟩ | simp; done | simp [hv]) | (rcases hv with rfl | rfl | hv <;> first | exact Or.inr ⟨_, rfl⟩ | simp; done | simp [hv]) | (rcases hv with rfl | hv <;> first | exact Or.inr ⟨_, rfl⟩ | simp; done | simp [hv]) | simp [hv]
    · cases hf
  · unfold fv_ineg at hf
    split at hf
    · next x r => cases hf; exact lv_ineg hx hb hd k
    · cases hf
def fv_i2b : List eb_V → Option (List eb_V)
  | .inl (.inl x) :: st => some (zi x.toInt8.toInt32 :: st)
  | _ => none
theorem sn_i2b (hd : decode (eb_b m) pc = .ok (.i2b, 1)) : eb_Snd L q0 m pc lg (op_i (fun x => x.toInt8.toInt32) (pc + 1)) := by
  refine sn_val (f := fv_i2b) (nx := pc + 1) (fun cl ls st M => ?_) (fun st st1 hf v hv => ?_) (fun p l e R s mt args below meth c Q cells slots φ arr H locs st st1 hx hb hf k => ?_)
  · unfold op_i fv_i2b
    rcases st with _ | ⟨(x | x) | x, _ | ⟨(y | y) | y, st⟩⟩ <;> first | rfl | (split <;> rfl)
  · unfold fv_i2b at hf
    split at hf
    · cases hf
      simp only [List.mem_cons] at hv ⊢
      first | (rcases hv with rfl | rfl | rfl | rfl | hv <;> first | exact Or.inr ⟨_, rfl⟩ | simp; done | simp [hv]) | (rcases hv with rfl | rfl | rfl | hv <;> first | exact Or.inr ⟨_, rfl⟩ | simp; done | simp [hv]) | (rcases hv with rfl | rfl | hv <;> first | exact Or.inr ⟨_, rfl⟩ | simp; done | simp [hv]) | (rcases hv with rfl | hv <;> first | exact Or.inr ⟨_, rfl⟩ | simp; done | simp [hv]) | simp [hv]
    · cases hf
  · unfold fv_i2b at hf
    split at hf
    · next x r => cases hf; exact lv_i2b hx hb hd rfl k
    · cases hf
def fv_i2s : List eb_V → Option (List eb_V)
  | .inl (.inl x) :: st => some (zi x.toInt16.toInt32 :: st)
  | _ => none
theorem sn_i2s (hd : decode (eb_b m) pc = .ok (.i2s, 1)) : eb_Snd L q0 m pc lg (op_i (fun x => x.toInt16.toInt32) (pc + 1)) := by
  refine sn_val (f := fv_i2s) (nx := pc + 1) (fun cl ls st M => ?_) (fun st st1 hf v hv => ?_) (fun p l e R s mt args below meth c Q cells slots φ arr H locs st st1 hx hb hf k => ?_)
  · unfold op_i fv_i2s
    rcases st with _ | ⟨(x | x) | x, _ | ⟨(y | y) | y, st⟩⟩ <;> first | rfl | (split <;> rfl)
  · unfold fv_i2s at hf
    split at hf
    · cases hf
      simp only [List.mem_cons] at hv ⊢
      first | (rcases hv with rfl | rfl | rfl | rfl | hv <;> first | exact Or.inr ⟨_, rfl⟩ | simp; done | simp [hv]) | (rcases hv with rfl | rfl | rfl | hv <;> first | exact Or.inr ⟨_, rfl⟩ | simp; done | simp [hv]) | (rcases hv with rfl | rfl | hv <;> first | exact Or.inr ⟨_, rfl⟩ | simp; done | simp [hv]) | (rcases hv with rfl | hv <;> first | exact Or.inr ⟨_, rfl⟩ | simp; done | simp [hv]) | simp [hv]
    · cases hf
  · unfold fv_i2s at hf
    split at hf
    · next x r => cases hf; exact lv_i2s hx hb hd rfl k
    · cases hf
def fv_i2l : List eb_V → Option (List eb_V)
  | .inl (.inl x) :: st => some (zl x.toInt64 :: st)
  | _ => none
theorem sn_i2l (hd : decode (eb_b m) pc = .ok (.i2l, 1)) : eb_Snd L q0 m pc lg (op_i2l (pc + 1)) := by
  refine sn_val (f := fv_i2l) (nx := pc + 1) (fun cl ls st M => ?_) (fun st st1 hf v hv => ?_) (fun p l e R s mt args below meth c Q cells slots φ arr H locs st st1 hx hb hf k => ?_)
  · unfold op_i2l fv_i2l
    rcases st with _ | ⟨(x | x) | x, _ | ⟨(y | y) | y, st⟩⟩ <;> first | rfl | (split <;> rfl)
  · unfold fv_i2l at hf
    split at hf
    · cases hf
      simp only [List.mem_cons] at hv ⊢
      first | (rcases hv with rfl | rfl | rfl | rfl | hv <;> first | exact Or.inr ⟨_, rfl⟩ | simp; done | simp [hv]) | (rcases hv with rfl | rfl | rfl | hv <;> first | exact Or.inr ⟨_, rfl⟩ | simp; done | simp [hv]) | (rcases hv with rfl | rfl | hv <;> first | exact Or.inr ⟨_, rfl⟩ | simp; done | simp [hv]) | (rcases hv with rfl | hv <;> first | exact Or.inr ⟨_, rfl⟩ | simp; done | simp [hv]) | simp [hv]
    · cases hf
  · unfold fv_i2l at hf
    split at hf
    · next x r => cases hf; exact lv_i2l hx hb hd rfl k
    · cases hf
def fv_l2i : List eb_V → Option (List eb_V)
  | .inl (.inr x) :: st => some (zi x.toInt32 :: st)
  | _ => none
theorem sn_l2i (hd : decode (eb_b m) pc = .ok (.l2i, 1)) : eb_Snd L q0 m pc lg (op_l2i (pc + 1)) := by
  refine sn_val (f := fv_l2i) (nx := pc + 1) (fun cl ls st M => ?_) (fun st st1 hf v hv => ?_) (fun p l e R s mt args below meth c Q cells slots φ arr H locs st st1 hx hb hf k => ?_)
  · unfold op_l2i fv_l2i
    rcases st with _ | ⟨(x | x) | x, _ | ⟨(y | y) | y, st⟩⟩ <;> first | rfl | (split <;> rfl)
  · unfold fv_l2i at hf
    split at hf
    · cases hf
      simp only [List.mem_cons] at hv ⊢
      first | (rcases hv with rfl | rfl | rfl | rfl | hv <;> first | exact Or.inr ⟨_, rfl⟩ | simp; done | simp [hv]) | (rcases hv with rfl | rfl | rfl | hv <;> first | exact Or.inr ⟨_, rfl⟩ | simp; done | simp [hv]) | (rcases hv with rfl | rfl | hv <;> first | exact Or.inr ⟨_, rfl⟩ | simp; done | simp [hv]) | (rcases hv with rfl | hv <;> first | exact Or.inr ⟨_, rfl⟩ | simp; done | simp [hv]) | simp [hv]
    · cases hf
  · unfold fv_l2i at hf
    split at hf
    · next x r => cases hf; exact lv_l2i hx hb hd rfl k
    · cases hf
def fv_land : List eb_V → Option (List eb_V)
  | .inl (.inr y) :: .inl (.inr x) :: st => some (zl (x &&& y) :: st)
  | _ => none
theorem sn_land (hd : decode (eb_b m) pc = .ok (.land, 1)) : eb_Snd L q0 m pc lg (op_ll (· &&& ·) (pc + 1)) := by
  refine sn_val (f := fv_land) (nx := pc + 1) (fun cl ls st M => ?_) (fun st st1 hf v hv => ?_) (fun p l e R s mt args below meth c Q cells slots φ arr H locs st st1 hx hb hf k => ?_)
  · unfold op_ll fv_land
    rcases st with _ | ⟨(x | x) | x, _ | ⟨(y | y) | y, st⟩⟩ <;> first | rfl | (split <;> rfl)
  · unfold fv_land at hf
    split at hf
    · cases hf
      simp only [List.mem_cons] at hv ⊢
      first | (rcases hv with rfl | rfl | rfl | rfl | hv <;> first | exact Or.inr ⟨_, rfl⟩ | simp; done | simp [hv]) | (rcases hv with rfl | rfl | rfl | hv <;> first | exact Or.inr ⟨_, rfl⟩ | simp; done | simp [hv]) | (rcases hv with rfl | rfl | hv <;> first | exact Or.inr ⟨_, rfl⟩ | simp; done | simp [hv]) | (rcases hv with rfl | hv <;> first | exact Or.inr ⟨_, rfl⟩ | simp; done | simp [hv]) | simp [hv]
    · cases hf
  · unfold fv_land at hf
    split at hf
    · next y x r => cases hf; exact lv_land hx hb hd k
    · cases hf
def fv_lor : List eb_V → Option (List eb_V)
  | .inl (.inr y) :: .inl (.inr x) :: st => some (zl (x ||| y) :: st)
  | _ => none
theorem sn_lor (hd : decode (eb_b m) pc = .ok (.lor, 1)) : eb_Snd L q0 m pc lg (op_ll (· ||| ·) (pc + 1)) := by
  refine sn_val (f := fv_lor) (nx := pc + 1) (fun cl ls st M => ?_) (fun st st1 hf v hv => ?_) (fun p l e R s mt args below meth c Q cells slots φ arr H locs st st1 hx hb hf k => ?_)
  · unfold op_ll fv_lor
    rcases st with _ | ⟨(x | x) | x, _ | ⟨(y | y) | y, st⟩⟩ <;> first | rfl | (split <;> rfl)
  · unfold fv_lor at hf
    split at hf
    · cases hf
      simp only [List.mem_cons] at hv ⊢
      first | (rcases hv with rfl | rfl | rfl | rfl | hv <;> first | exact Or.inr ⟨_, rfl⟩ | simp; done | simp [hv]) | (rcases hv with rfl | rfl | rfl | hv <;> first | exact Or.inr ⟨_, rfl⟩ | simp; done | simp [hv]) | (rcases hv with rfl | rfl | hv <;> first | exact Or.inr ⟨_, rfl⟩ | simp; done | simp [hv]) | (rcases hv with rfl | hv <;> first | exact Or.inr ⟨_, rfl⟩ | simp; done | simp [hv]) | simp [hv]
    · cases hf
  · unfold fv_lor at hf
    split at hf
    · next y x r => cases hf; exact lv_lor hx hb hd k
    · cases hf
def fv_lshl : List eb_V → Option (List eb_V)
  | .inl (.inl y) :: .inl (.inr x) :: st => some (zl (x <<< (y.toInt64 &&& 63)) :: st)
  | _ => none
theorem sn_lshl (hd : decode (eb_b m) pc = .ok (.lshl, 1)) : eb_Snd L q0 m pc lg (op_lshl (pc + 1)) := by
  refine sn_val (f := fv_lshl) (nx := pc + 1) (fun cl ls st M => ?_) (fun st st1 hf v hv => ?_) (fun p l e R s mt args below meth c Q cells slots φ arr H locs st st1 hx hb hf k => ?_)
  · unfold op_lshl fv_lshl
    rcases st with _ | ⟨(x | x) | x, _ | ⟨(y | y) | y, st⟩⟩ <;> first | rfl | (split <;> rfl)
  · unfold fv_lshl at hf
    split at hf
    · cases hf
      simp only [List.mem_cons] at hv ⊢
      first | (rcases hv with rfl | rfl | rfl | rfl | hv <;> first | exact Or.inr ⟨_, rfl⟩ | simp; done | simp [hv]) | (rcases hv with rfl | rfl | rfl | hv <;> first | exact Or.inr ⟨_, rfl⟩ | simp; done | simp [hv]) | (rcases hv with rfl | rfl | hv <;> first | exact Or.inr ⟨_, rfl⟩ | simp; done | simp [hv]) | (rcases hv with rfl | hv <;> first | exact Or.inr ⟨_, rfl⟩ | simp; done | simp [hv]) | simp [hv]
    · cases hf
  · unfold fv_lshl at hf
    split at hf
    · next y x r => cases hf; exact lv_lshl hx hb hd rfl k
    · cases hf
def fv_lcmp : List eb_V → Option (List eb_V)
  | .inl (.inr y) :: .inl (.inr x) :: st => some (zi (if x < y then -1 else if x = y then 0 else 1) :: st)
  | _ => none
theorem sn_lcmp (hd : decode (eb_b m) pc = .ok (.lcmp, 1)) : eb_Snd L q0 m pc lg (op_lcmp (pc + 1)) := by
  refine sn_val (f := fv_lcmp) (nx := pc + 1) (fun cl ls st M => ?_) (fun st st1 hf v hv => ?_) (fun p l e R s mt args below meth c Q cells slots φ arr H locs st st1 hx hb hf k => ?_)
  · unfold op_lcmp fv_lcmp
    rcases st with _ | ⟨(x | x) | x, _ | ⟨(y | y) | y, st⟩⟩ <;> first | rfl | (split <;> rfl)
  · unfold fv_lcmp at hf
    split at hf
    · cases hf
      simp only [List.mem_cons] at hv ⊢
      first | (rcases hv with rfl | rfl | rfl | rfl | hv <;> first | exact Or.inr ⟨_, rfl⟩ | simp; done | simp [hv]) | (rcases hv with rfl | rfl | rfl | hv <;> first | exact Or.inr ⟨_, rfl⟩ | simp; done | simp [hv]) | (rcases hv with rfl | rfl | hv <;> first | exact Or.inr ⟨_, rfl⟩ | simp; done | simp [hv]) | (rcases hv with rfl | hv <;> first | exact Or.inr ⟨_, rfl⟩ | simp; done | simp [hv]) | simp [hv]
    · cases hf
  · unfold fv_lcmp at hf
    split at hf
    · next y x r => cases hf; exact W.lcmp hx hb hd (by rw [← eb_lcmp]; exact k)
    · cases hf
def fv_dup : List eb_V → Option (List eb_V)
  | .inl (.inl x) :: st => some (zi x :: zi x :: st)
  | .inr x :: st => some (.inr x :: .inr x :: st)
  | _ => none
theorem sn_dup (hd : decode (eb_b m) pc = .ok (.dup, 1)) : eb_Snd L q0 m pc lg (op_dup (pc + 1)) := by
  refine sn_val (f := fv_dup) (nx := pc + 1) (fun cl ls st M => ?_) (fun st st1 hf v hv => ?_) (fun p l e R s mt args below meth c Q cells slots φ arr H locs st st1 hx hb hf k => ?_)
  · unfold op_dup fv_dup
    rcases st with _ | ⟨(x | x) | x, _ | ⟨(y | y) | y, st⟩⟩ <;> first | rfl | (split <;> rfl)
  · unfold fv_dup at hf
    split at hf
    · cases hf
      simp only [List.mem_cons] at hv ⊢
      first | (rcases hv with rfl | rfl | rfl | rfl | hv <;> first | exact Or.inr ⟨_, rfl⟩ | simp; done | simp [hv]) | (rcases hv with rfl | rfl | rfl | hv <;> first | exact Or.inr ⟨_, rfl⟩ | simp; done | simp [hv]) | (rcases hv with rfl | rfl | hv <;> first | exact Or.inr ⟨_, rfl⟩ | simp; done | simp [hv]) | (rcases hv with rfl | hv <;> first | exact Or.inr ⟨_, rfl⟩ | simp; done | simp [hv]) | simp [hv]
    · cases hf
      simp only [List.mem_cons] at hv ⊢
      first | (rcases hv with rfl | rfl | rfl | rfl | hv <;> first | exact Or.inr ⟨_, rfl⟩ | simp; done | simp [hv]) | (rcases hv with rfl | rfl | rfl | hv <;> first | exact Or.inr ⟨_, rfl⟩ | simp; done | simp [hv]) | (rcases hv with rfl | rfl | hv <;> first | exact Or.inr ⟨_, rfl⟩ | simp; done | simp [hv]) | (rcases hv with rfl | hv <;> first | exact Or.inr ⟨_, rfl⟩ | simp; done | simp [hv]) | simp [hv]
    · cases hf
  · unfold fv_dup at hf
    split at hf
    · next x r => cases hf; exact lv_dup hx hb hd rfl k
    · next x r => cases hf; exact (by cases x <;> exact lv_dup hx hb hd rfl k)
    · cases hf
def fv_dup2 : List eb_V → Option (List eb_V)
  | .inl (.inl y) :: .inr x :: st => some (zi y :: .inr x :: zi y :: .inr x :: st)
  | _ => none
theorem sn_dup2 (hd : decode (eb_b m) pc = .ok (.dup2, 1)) : eb_Snd L q0 m pc lg (op_dup2 (pc + 1)) := by
  refine sn_val (f := fv_dup2) (nx := pc + 1) (fun cl ls st M => ?_) (fun st st1 hf v hv => ?_) (fun p l e R s mt args below meth c Q cells slots φ arr H locs st st1 hx hb hf k => ?_)
  · unfold op_dup2 fv_dup2
    rcases st with _ | ⟨(x | x) | x, _ | ⟨(y | y) | y, st⟩⟩ <;> first | rfl | (split <;> rfl)
  · unfold fv_dup2 at hf
    split at hf
    · cases hf
      simp only [List.mem_cons] at hv ⊢
      first | (rcases hv with rfl | rfl | rfl | rfl | hv <;> first | exact Or.inr ⟨_, rfl⟩ | simp; done | simp [hv]) | (rcases hv with rfl | rfl | rfl | hv <;> first | exact Or.inr ⟨_, rfl⟩ | simp; done | simp [hv]) | (rcases hv with rfl | rfl | hv <;> first | exact Or.inr ⟨_, rfl⟩ | simp; done | simp [hv]) | (rcases hv with rfl | hv <;> first | exact Or.inr ⟨_, rfl⟩ | simp; done | simp [hv]) | simp [hv]
    · cases hf
  · unfold fv_dup2 at hf
    split at hf
    · next y x r => cases hf; exact (by cases x <;> exact lv_dup2_11 hx hb hd rfl rfl k)
    · cases hf
def fv_dup_x1 : List eb_V → Option (List eb_V)
  | .inl (.inl y) :: .inr x :: st => some (zi y :: .inr x :: zi y :: st)
  | _ => none
theorem sn_dup_x1 (hd : decode (eb_b m) pc = .ok (.dup_x1, 1)) : eb_Snd L q0 m pc lg (op_dup_x1 (pc + 1)) := by
  refine sn_val (f := fv_dup_x1) (nx := pc + 1) (fun cl ls st M => ?_) (fun st st1 hf v hv => ?_) (fun p l e R s mt args below meth c Q cells slots φ arr H locs st st1 hx hb hf k => ?_)
  · unfold op_dup_x1 fv_dup_x1
    rcases st with _ | ⟨(x | x) | x, _ | ⟨(y | y) | y, st⟩⟩ <;> first | rfl | (split <;> rfl)
  · unfold fv_dup_x1 at hf
    split at hf
    · cases hf
      simp only [List.mem_cons] at hv ⊢
      first | (rcases hv with rfl | rfl | rfl | rfl | hv <;> first | exact Or.inr ⟨_, rfl⟩ | simp; done | simp [hv]) | (rcases hv with rfl | rfl | rfl | hv <;> first | exact Or.inr ⟨_, rfl⟩ | simp; done | simp [hv]) | (rcases hv with rfl | rfl | hv <;> first | exact Or.inr ⟨_, rfl⟩ | simp; done | simp [hv]) | (rcases hv with rfl | hv <;> first | exact Or.inr ⟨_, rfl⟩ | simp; done | simp [hv]) | simp [hv]
    · cases hf
  · unfold fv_dup_x1 at hf
    split at hf
    · next y x r => cases hf; exact (by cases x <;> exact lv_dup_x1 hx hb hd rfl rfl k)
    · cases hf
def fv_pop : List eb_V → Option (List eb_V)
  | .inl (.inl _) :: st => some (st)
  | .inr _ :: st => some (st)
  | _ => none
theorem sn_pop (hd : decode (eb_b m) pc = .ok (.pop, 1)) : eb_Snd L q0 m pc lg (op_pop (pc + 1)) := by
  refine sn_val (f := fv_pop) (nx := pc + 1) (fun cl ls st M => ?_) (fun st st1 hf v hv => ?_) (fun p l e R s mt args below meth c Q cells slots φ arr H locs st st1 hx hb hf k => ?_)
  · unfold op_pop fv_pop
    rcases st with _ | ⟨(x | x) | x, _ | ⟨(y | y) | y, st⟩⟩ <;> first | rfl | (split <;> rfl)
  · unfold fv_pop at hf
    split at hf
    · cases hf
      simp only [List.mem_cons] at hv ⊢
      first | (rcases hv with rfl | rfl | rfl | rfl | hv <;> first | exact Or.inr ⟨_, rfl⟩ | simp; done | simp [hv]) | (rcases hv with rfl | rfl | rfl | hv <;> first | exact Or.inr ⟨_, rfl⟩ | simp; done | simp [hv]) | (rcases hv with rfl | rfl | hv <;> first | exact Or.inr ⟨_, rfl⟩ | simp; done | simp [hv]) | (rcases hv with rfl | hv <;> first | exact Or.inr ⟨_, rfl⟩ | simp; done | simp [hv]) | simp [hv]
    · cases hf
      simp only [List.mem_cons] at hv ⊢
      first | (rcases hv with rfl | rfl | rfl | rfl | hv <;> first | exact Or.inr ⟨_, rfl⟩ | simp; done | simp [hv]) | (rcases hv with rfl | rfl | rfl | hv <;> first | exact Or.inr ⟨_, rfl⟩ | simp; done | simp [hv]) | (rcases hv with rfl | rfl | hv <;> first | exact Or.inr ⟨_, rfl⟩ | simp; done | simp [hv]) | (rcases hv with rfl | hv <;> first | exact Or.inr ⟨_, rfl⟩ | simp; done | simp [hv]) | simp [hv]
    · cases hf
  · unfold fv_pop at hf
    split at hf
    · next x r => cases hf; exact lv_pop hx hb hd rfl k
    · next x r => cases hf; exact (by cases x <;> exact lv_pop hx hb hd rfl k)
    · cases hf
end

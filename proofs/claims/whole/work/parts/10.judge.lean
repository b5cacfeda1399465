/-! what is known of the launch, a method's place in it, and when an operation is sound -/
def eb_nest : List Cond := [.methodLinkNest RX4 34 yX1_init "EverybodyHasTheBook", .methodLinkNest RX4 35 yX0_init "EverybodyHasTheBook", .methodLinkNest RX5 30 yX3_init "EverybodyHasTheBook", .methodLinkNest RX5 39 yX2_init "EverybodyHasTheBook", .methodLinkNest RX2 19 yX5_within "EverybodyHasTheBook", .methodLinkNest RX3 113 yX5_within "EverybodyHasTheBook", .methodLinkNest RX4 132 yX5_within "EverybodyHasTheBook"]
def eb_sR (i : Nat) : String × Nat × String := match i with
  | 0 => (RX3, 32, "inn")
  | 1 => (RX3, 41, "goer")
  | 2 => (RX3, 46, "letter")
  | 3 => (RX3, 51, "age")
  | 4 => (RX3, 56, "write")
  | 5 => (RX3, 74, "said")
  | 6 => (RX6, 202, "inn")
  | 7 => (RX6, 206, "goer")
  | 8 => (RX6, 210, "letter")
  | 9 => (RX6, 220, "age")
  | 10 => (RX6, 215, "write")
  | _ => (RX6, 196, "said")
def eb_sL : List Nat := (List.range 12).map fun i => (eb_tx (i % 6)).length
def eb_sB : List (List Int32) := (List.range 12).map fun i => eb_tx (i % 6)
def eb_AOA (t : FieldType) (U : State) : Prop := (Cond.arrayOver (.array t)).before #[] U = true
theorem eb_AOA.moved {t : FieldType} {u U : State} (hvm : u.vm.Alike U.vm) (h : eb_AOA t u) : eb_AOA t U := by
  have h1 : (Cond.arrayOver (.array t)).before #[] (u.setVm U.vm) = true := by rw [Cond.arrayOver_setVmC hvm]; exact h
  exact h1
/-- the texts: each for itself (the same text in two classes is one object) -/
def eb_Sx (adK adV : Nat → Nat) (A : Nat → Prop) (U : State) (H : Heap) : Prop := ∀ i, i < 12 → vk_S 1 [eb_sL.getD i 0] [eb_sB.getD i []] (fun _ => adK i) (fun _ => adV i) A U H
def eb_Kn (q0 : Nat) (φ : eb_A → Nat) (s : State) (H : Heap) : Prop :=
  (∀ w ∈ eb_nest, va_Nw w s) ∧ (va_AO RX1 s ∧ va_AO RX0 s ∧ va_AO RX2 s) ∧ (eb_AOA .int s ∧ eb_AOA .long s) ∧
  (∀ i, i < 12 → vk_R (eb_sR i).1 (eb_sR i).2.1 (eb_sR i).2.2 (φ (50, i, 0)) s) ∧ (∃ adV, eb_Sx (fun i => φ (50, i, 0)) adV (fun q => q0 ≤ q) s H) ∧
  va_Z "java/lang/String" "COMPACT_STRINGS" "Z" (.int 1) (fun q => q0 ≤ q) s H ∧ va_Zq "jdk/internal/util/Preconditions" "SIOOBE_FORMATTER" "Ljava/util/function/BiFunction;" (fun q => q0 ≤ q) s H
theorem eb_Kn_warm {q0 : Nat} {φ φ' : eb_A → Nat} {s U : State} {H H1 : Heap} (hW : s.WarmedH U.vm) (hφ : ∀ i, i < 12 → φ' (50, i, 0) = φ (50, i, 0)) (hH : ∀ a : Nat, a < H.size → ¬ q0 ≤ a → H1[a]? = H[a]?) (h : eb_Kn q0 φ s H) : eb_Kn q0 φ' U H1 := by
  obtain ⟨h1, ⟨a1, a2, a3⟩, ⟨b1, b2⟩, h4, ⟨adV, h5⟩, z1, z2⟩ := h
  have hal := hW.alike
  refine ⟨fun w hw => ?_, ⟨va_AO.moved hal a1, va_AO.moved hal a2, va_AO.moved hal a3⟩, ⟨eb_AOA.moved hal b1, eb_AOA.moved hal b2⟩, fun i hi => ?_, ⟨adV, ?_⟩, va_Z.kept (va_Z.moved hal z1) hH, va_Zq.kept (va_Zq.moved hal z2) hH⟩
  · have hz := h1 w hw
    simp only [eb_nest, List.mem_cons, List.not_mem_nil, or_false] at hw
    rcases hw with rfl | rfl | rfl | rfl | rfl | rfl | rfl <;> exact va_Nw.warmM hW hz
  · rw [hφ i hi]
    exact vk_R.warm hW (h4 i hi)
  · intro i hi
    have h7 := vk_S.kept (H1 := H1) (vk_S.moved hal (h5 i hi)) hH
    dsimp only at h7 ⊢
    rw [hφ i hi]
    exact h7
theorem eb_Kn_kept {q0 : Nat} {φ φ' : eb_A → Nat} {s : State} {H H1 : Heap} (hφ : ∀ i, i < 12 → φ' (50, i, 0) = φ (50, i, 0)) (hH : ∀ a : Nat, a < H.size → ¬ q0 ≤ a → H1[a]? = H[a]?) (h : eb_Kn q0 φ s H) : eb_Kn q0 φ' s H1 := by
  obtain ⟨h1, h2, h3, h4, ⟨adV, h5⟩, z1, z2⟩ := h
  refine ⟨h1, h2, h3, fun i hi => by rw [hφ i hi]; exact h4 i hi, ⟨adV, ?_⟩, va_Z.kept z1 hH, va_Zq.kept z2 hH⟩
  intro i hi
  have h7 := vk_S.kept (H1 := H1) (h5 i hi) hH
  dsimp only at h7 ⊢
  rw [hφ i hi]
  exact h7
/-- the room of a method at depth d -/
def eb_rm (d mc ms : Nat) : Room := { frames := d - 1, cells := mc, slots := ms, locals := 36 * (d - 1) }
def eb_rv (φ : eb_A → Nat) (rt : Option FieldType) (v : eb_V) : Option Value := match rt with
  | none => none
  | some _ => some (eb_cn φ v)
def eb_Pc (L q0 : Nat) (φ : eb_A → Nat) (M : eb_M) (as : List eb_V) : Array Value → State → Prop := va_Pc (as.map (eb_cn φ)) (fun U => eb_Wd L q0 φ M U U.heap ∧ eb_Kn q0 φ U U.heap ∧ ∀ v ∈ as, eb_okV M.1 v)
def eb_Qc (L q0 : Nat) (φ : eb_A → Nat) (M : eb_M) (r : eb_R) (rt : Option FieldType) : Array Value → State → Outcome → State → Prop := fun _ st oc t =>
  (∃ φ', (∀ a, eb_ok M.1 a → φ' a = φ a) ∧ oc = .returned (eb_rv φ' rt r.1) ∧ eb_Wd L q0 φ' r.2 t t.heap ∧ eb_okV r.2.1 r.1) ∧ va_F (fun q => q0 ≤ q) st t
/-- the methods are sound at depth d -/
def eb_Sd (L q0 : Nat) (l : Launch) (d : Nat) : Prop := ∀ (m : Nat) (as : List eb_V) (M : eb_M) (r : eb_R) (φ : eb_A → Nat), m < 254 → eb_ev L d m as M = some r →
  M.1 ≤ r.2.1 ∧ M.2.1 ≤ r.2.2.1 ∧ Met l (eb_y m) (eb_ws m) (eb_rm d (r.2.1 - M.1) (r.2.2.1 - M.2.1)) (eb_Pc L q0 φ M as) (eb_Qc L q0 φ M r (eb_rt m)) (r.2.1 - M.1) (r.2.2.1 - M.2.1) (fun q => q0 ≤ q)
def eb_Cx (q0 d : Nat) (p : Program) (R : Room) (s : State) (mt : MethodId) (args : Array Value) (meth : Method) (c : Code) (m : Nat) : Prop :=
  p.tables.exec = Jvm.exec ∧ c.code = eb_b m ∧ c.maxLocals = eb_ml m ∧ s.vm.findClass (eb_own m) = some mt.cls ∧ (∀ w ∈ eb_LT, w.before args s = true) ∧ ((eb_y m).name = "<init>" → meth.name = "<init>") ∧ q0 ≤ s.heap.size ∧ d ≤ R.frames ∧ 36 * d ≤ R.locals
def eb_At (L q0 : Nat) (φ : eb_A → Nat) (s : State) (nL : Nat) (lg : Nat → Bool) (ls : List (Option eb_V)) (st : List eb_V) (M : eb_M) (arr : Array Slot) (H : Heap) (locs : List Loc) : Prop :=
  eb_Wd L q0 φ M s H ∧ eb_Kn q0 φ s H ∧ (lv_has arr nL [] ∧ ∀ (i : Nat) (v : eb_V), ls[i]? = some (some v) → arr[i]? = some (.val (eb_cn φ v))) ∧ (∀ (i : Nat) (x : Int64), ls[i]? = some (some (zl x)) → lg i = true) ∧ (∀ v, some v ∈ ls → eb_okV M.1 v) ∧ (∀ v ∈ st, eb_okV M.1 v) ∧ va_S (fun q => q0 ≤ q) s.heap H locs
def eb_WW (L q0 : Nat) (p : Program) (l : Launch) (e : Env) (R : Room) (s : State) (mt : MethodId) (args : Array Value) (below : List Frame) (meth : Method) (c : Code) (Q : State → Prop) (kc ks m : Nat) (lg : Nat → Bool) (φ : eb_A → Nat) (pc : Nat) (ls : List (Option eb_V)) (st : List eb_V) (M : eb_M) : Prop :=
  ∀ (arr : Array Slot) (H : Heap) (locs : List Loc), eb_At L q0 φ s (eb_ml m) lg ls st M arr H locs → W p l e R s mt args below meth c H locs (M.1 - kc) (M.2.1 - ks) Q (F0 mt pc arr (st.map (eb_cn φ)))
def eb_mT (M : eb_M) : eb_T → Prop
  | none => True
  | some (.inl s) => M.1 ≤ s.2.2.2.1 ∧ M.2.1 ≤ s.2.2.2.2.1
  | some (.inr r) => M.1 ≤ r.2.1 ∧ M.2.1 ≤ r.2.2.1
def eb_mC (cl : eb_C) : Prop := ∀ m as M r, cl m as M = some r → M.1 ≤ r.2.1 ∧ M.2.1 ≤ r.2.2.1
def eb_isR (m pc : Nat) (st : List eb_V) (v : eb_V) : Prop :=
  (eb_rt m = some .int ∧ decode (eb_b m) pc = .ok (.ireturn, 1) ∧ ∃ x, v = zi x ∧ st = [zi x]) ∨ (eb_rt m = some .boolean ∧ decode (eb_b m) pc = .ok (.ireturn, 1) ∧ ∃ x, (x = 0 ∨ x = 1) ∧ v = zi x ∧ st = [zi x]) ∨
  (eb_rt m = some .long ∧ decode (eb_b m) pc = .ok (.lreturn, 1) ∧ ∃ x, v = zl x ∧ st = [zl x]) ∨ ((∃ C, eb_rt m = some (.object C)) ∧ decode (eb_b m) pc = .ok (.areturn, 1) ∧ ∃ o, v = .inr o ∧ st = [.inr o]) ∨ (eb_rt m = none ∧ decode (eb_b m) pc = .ok (.return_, 1) ∧ v = zn ∧ st = [])
def eb_Nx (L q0 m pc : Nat) (lg : Nat → Bool) (l : Launch) (d : Nat) (ls : List (Option eb_V)) (st : List eb_V) (M : eb_M) (s' : eb_S) : Prop :=
  ∀ (p : Program) (e : Env) (R : Room) (s : State) (mt : MethodId) (args : Array Value) (below : List Frame) (meth : Method) (c : Code) (Q : State → Prop) (kc ks : Nat) (φ : eb_A → Nat), eb_Cx q0 d p R s mt args meth c m → kc ≤ M.1 → ks ≤ M.2.1 → s'.2.2.2.1 - kc ≤ R.cells → s'.2.2.2.2.1 - ks ≤ R.slots →
    (∀ φ', (∀ a, eb_ok M.1 a → φ' a = φ a) → eb_WW L q0 p l e R s mt args below meth c Q kc ks m lg φ' s'.1 s'.2.1 s'.2.2.1 s'.2.2.2) → eb_WW L q0 p l e R s mt args below meth c Q kc ks m lg φ pc ls st M
def eb_Snd (L q0 m pc : Nat) (lg : Nat → Bool) (o : eb_O) : Prop :=
  (∀ cl ls st M, eb_mC cl → eb_mT M (o cl ls st M)) ∧ (∀ cl ls st M r, o cl ls st M = some (.inr r) → r.2 = M ∧ eb_isR m pc st r.1) ∧
  (∀ l d ls st M s', o (eb_ev L d) ls st M = some (.inl s') → eb_Sd L q0 l d → eb_Nx L q0 m pc lg l d ls st M s')
section
variable {L q0 m pc : Nat} {lg : Nat → Bool} {l : Launch} {d : Nat} {ls : List (Option eb_V)} {st : List eb_V} {M : eb_M}
/-- an operation that only moves what stands on the stack -/
theorem er_st {pc1 : Nat} {st1 : List eb_V} (hok : ∀ v ∈ st1, v ∈ st ∨ some v ∈ ls ∨ (∃ x, v = .inl x) ∨ v = zn ∨ ∃ i, v = zr (50, i, 0) ∧ i < 12)
    (h : ∀ (p : Program) (e : Env) (R : Room) (s : State) (mt : MethodId) (args : Array Value) (below : List Frame) (meth : Method) (c : Code) (Q : State → Prop) (cells slots : Nat) (φ : eb_A → Nat) (arr : Array Slot) (H : Heap) (locs : List Loc), eb_Cx q0 d p R s mt args meth c m → eb_At L q0 φ s (eb_ml m) lg ls st M arr H locs →
      W p l e R s mt args below meth c H locs cells slots Q (F0 mt pc1 arr (st1.map (eb_cn φ))) → W p l e R s mt args below meth c H locs cells slots Q (F0 mt pc arr (st.map (eb_cn φ)))) : eb_Nx L q0 m pc lg l d ls st M (pc1, ls, st1, M) := by
  intro p e R s mt args below meth c Q kc ks φ hC _ _ _ _ kk arr H locs hA
  refine h p e R s mt args below meth c Q _ _ φ arr H locs hC hA (kk φ (fun _ _ => rfl) arr H locs ?_)
  obtain ⟨a1, a2, a3, a4, a5, a6, a7⟩ := hA
  refine ⟨a1, a2, a3, a4, a5, fun v hv => ?_, a7⟩
  rcases hok v hv with h1 | h1 | ⟨x, rfl⟩ | rfl | ⟨i, rfl, hi⟩
  · exact a6 v h1
  · exact a5 v h1
  · exact fun a ha => by cases ha
  · exact fun a ha => by cases ha
  · exact fun a ha => by cases ha; exact Or.inr ⟨rfl, hi, rfl⟩
theorem er_go {pc1 : Nat} {ls1 : List (Option eb_V)} {st1 : List eb_V} {M1 : eb_M} {s' : eb_S} (h : eb_go pc1 ls1 st1 M1 = some (.inl s')) : s' = (pc1, ls1, st1, M1) := by cases h; rfl
end

/-! the operations are sound: calls -/
theorem eb_Kn_same {q0 : Nat} {φ : eb_A → Nat} {u U : State} {H : Heap} (h : u.vm = U.vm) (hK : eb_Kn q0 φ u H) : eb_Kn q0 φ U H := by
  obtain ⟨h1, ⟨a1, a2, a3⟩, ⟨b1, b2⟩, h4, ⟨adV, h5⟩, z1, z2⟩ := hK
  have hal : u.vm.Alike U.vm := by rw [h]; exact Vm.Alike.refl _
  refine ⟨fun w hw => ?_, ⟨va_AO.moved hal a1, va_AO.moved hal a2, va_AO.moved hal a3⟩, ⟨eb_AOA.moved hal b1, eb_AOA.moved hal b2⟩, fun i hi => vk_R.same h.symm (h4 i hi), ⟨adV, fun i hi => vk_S.moved hal (h5 i hi)⟩, va_Z.moved hal z1, va_Zq.moved hal z2⟩
  have hz := h1 w hw
  simp only [eb_nest, List.mem_cons, List.not_mem_nil, or_false] at hw
  rcases hw with rfl | rfl | rfl | rfl | rfl | rfl | rfl <;> exact va_Nw.same rfl h hz
theorem eb_Pc_blind {L q0 : Nat} {φ : eb_A → Nat} {M : eb_M} {as : List eb_V} : FrameBlind (eb_Pc L q0 φ M as) := fun a U g mk q =>
  ⟨q.1, eb_Wd_moved (u := U) (U := U.calling g mk a) (Vm.Alike.refl U.vm) q.2.1, eb_Kn_same (u := U) (U := U.calling g mk a) rfl q.2.2.1, q.2.2.2⟩
theorem eb_cats_sum {φ : eb_A → Nat} : ∀ vs : List eb_V, ((vs.map (eb_cn φ)).map fun v => v.category).sum = eb_cats vs
  | [] => rfl
  | .inl (.inl x) :: r => by
    show 1 + ((r.map (eb_cn φ)).map fun v => v.category).sum = eb_cats r + 1
    rw [eb_cats_sum r]; omega
  | .inl (.inr x) :: r => by
    show 2 + ((r.map (eb_cn φ)).map fun v => v.category).sum = eb_cats r + 2
    rw [eb_cats_sum r]; omega
  | .inr none :: r => by
    show 1 + ((r.map (eb_cn φ)).map fun v => v.category).sum = eb_cats r + 1
    rw [eb_cats_sum r]; omega
  | .inr (some a) :: r => by
    show 1 + ((r.map (eb_cn φ)).map fun v => v.category).sum = eb_cats r + 1
    rw [eb_cats_sum r]; omega
theorem eb_ml_le : ∀ m, eb_ml m ≤ 17 := by
  have key : eb_mls.all (fun k => decide (k ≤ 17)) = true := by decide +kernel
  intro m
  unfold eb_ml
  rw [List.getD_eq_getElem?_getD]
  cases h : eb_mls[m]? with
  | none => exact Nat.zero_le _
  | some k => exact of_decide_eq_true (List.all_eq_true.mp key k (List.mem_of_getElem? h))
theorem eb_ws_good {m : Nat} (h : Cond.code (eb_y m) (eb_b m) (eb_ml m) (eb_rt m) ∈ eb_LT) : GoodIn eb_LT (eb_ws m) := by
  intro w hw
  rcases List.mem_cons.mp hw with rfl | hw
  · exact eb_LTg _ h
  · exact eb_LTg _ hw
section
variable {L q0 m pc : Nat} {lg : Nat → Bool} {p : Program} {l : Launch} {e : Env} {R : Room} {s : State} {mt : MethodId} {args : Array Value} {below : List Frame} {meth : Method} {c : Code} {Q : State → Prop} {φ : eb_A → Nat} {ls : List (Option eb_V)} {st : List eb_V} {M : eb_M} {arr : Array Slot} {H : Heap} {locs : List Loc}
theorem eb_pre {d : Nat} (hC : eb_Cx q0 d p R s mt args meth c m) (hA : eb_At L q0 φ s (eb_ml m) lg ls st M arr H locs) {as : List eb_V} (has : ∀ v ∈ as, v ∈ st) : ∀ U : State, U.heap = H → s.WarmedH U.vm → eb_Pc L q0 φ M as (as.map (eb_cn φ)).toArray U := by
  intro U hU hW
  refine ⟨rfl, ?_, ?_, fun v hv => hA.2.2.2.2.2.1 v (has v hv)⟩
  · rw [hU]; exact eb_Wd_moved hW.alike hA.1
  · rw [hU]; exact eb_Kn_warm hW (fun _ _ => rfl) (fun _ _ _ => rfl) hA.2.1
/-- behind a call -/
theorem er_run {d kc ks : Nat} {r : eb_R} {rt : Option FieldType} {a : Array Value} {rest : List eb_V} (hC : eb_Cx q0 d p R s mt args meth c m) (hA : eb_At L q0 φ s (eb_ml m) lg ls st M arr H locs) (h1 : M.1 ≤ r.2.1) (h2 : M.2.1 ≤ r.2.2.1) (hk1 : kc ≤ M.1) (hk2 : ks ≤ M.2.1) (hrest : ∀ v ∈ rest, v ∈ st)
    (hr : va_Run p l e R s mt args below meth c H locs (M.1 - kc) (M.2.1 - ks) (r.2.1 - M.1) (r.2.2.1 - M.2.1) (F0 mt pc arr (st.map (eb_cn φ))) (rest.map (eb_cn φ)) (eb_Qc L q0 φ M r rt a) (fun q => q0 ≤ q))
    {st1 : List eb_V} (hst : ∀ φ', (∀ a, eb_ok M.1 a → φ' a = φ a) → st1.map (eb_cn φ') = (eb_rv φ' rt r.1).toList ++ rest.map (eb_cn φ)) (hok : ∀ v ∈ st1, v ∈ rest ∨ v = r.1)
    (kk : ∀ φ', (∀ a, eb_ok M.1 a → φ' a = φ a) → eb_WW L q0 p l e R s mt args below meth c Q kc ks m lg φ' (pc + 3) ls st1 r.2) : W p l e R s mt args below meth c H locs (M.1 - kc) (M.2.1 - ks) Q (F0 mt pc arr (st.map (eb_cn φ))) := by
  intro T hT X
  obtain ⟨v, st₀, t, T', Lc, h0, X', hL, e1, e2, ⟨⟨φ', hφ, hoc, hW, hokr⟩, hF⟩, stp⟩ := hr T hT X
  have hv : v = eb_rv φ' rt r.1 := Outcome.returned.inj hoc
  subst hv
  have hal : s.vm.Alike t.vm := by rw [← e2]; exact X'.warmed.alike
  have hH : ∀ q : Nat, q < H.size → ¬ q0 ≤ q → T'.heap[q]? = H[q]? := fun q g1 g2 => by rw [e1, ← h0]; exact hF.2 q (by rw [h0]; exact g1) g2
  have hz : H.size ≤ T'.heap.size := by rw [e1, ← h0]; exact hF.1
  obtain ⟨a1, a2, a3, a4, a5, a6, a7⟩ := hA
  have hAt : eb_At L q0 φ' s (eb_ml m) lg ls st1 r.2 arr T'.heap (locs ++ Lc) := by
    refine ⟨?_, eb_Kn_kept (fun i hi => hφ _ (Or.inr ⟨rfl, hi, rfl⟩)) hH a2, ⟨a3.1, fun i v hv => ?_⟩, a4, fun v hv => eb_okV_mono h1 (a5 v hv), fun v hv => ?_, ⟨Nat.le_trans a7.1 hz, fun q g1 g2 => (hH q (Nat.lt_of_lt_of_le g1 a7.1) g2).trans (a7.2.1 q g1 g2), fun q hq => ?_⟩⟩
    · rw [e1]; exact eb_Wd_moved hal.symm hW
    · rw [eb_cn_ok hφ (a5 v (List.mem_of_getElem? hv))]; exact a3.2 i v hv
    · rcases hok v hv with g | rfl
      · exact eb_okV_mono h1 (a6 v (hrest v g))
      · exact hokr
    · rcases List.mem_append.mp hq with g | g
      · exact a7.2.2 q g
      · exact hL q g
  have hk := kk φ' hφ arr T'.heap (locs ++ Lc) hAt
  rw [hst φ' hφ] at hk
  rw [show r.2.1 - kc = M.1 - kc + (r.2.1 - M.1) by omega, show r.2.2.1 - ks = M.2.1 - ks + (r.2.2.1 - M.2.1) by omega] at hk
  obtain ⟨t2, g1, g2⟩ := hk T' rfl X'
  exact ⟨t2, stp t2 g1, g2⟩
end
section
variable {L q0 m pc : Nat} {lg : Nat → Bool}
/-- what a call's operation says -/
theorem eb_call_s {m1 n nx : Nat} {cl : eb_C} {ls : List (Option eb_V)} {st : List eb_V} {M : eb_M} : (∃ q, n ≤ st.length ∧ eb_cats (st.drop n) ≤ 8 ∧ cl m1 (st.take n).reverse M = some q ∧ op_call m1 n nx cl ls st M = eb_go nx ls (q.1 :: st.drop n) q.2 ∧ op_callv m1 n nx cl ls st M = eb_go nx ls (st.drop n) q.2) ∨ (op_call m1 n nx cl ls st M = none ∧ op_callv m1 n nx cl ls st M = none) := by
  unfold op_call op_callv
  cases h : (Nat.ble n st.length && Nat.ble (eb_cats (st.drop n)) 8) with
  | false => exact Or.inr ⟨rfl, rfl⟩
  | true =>
    simp only [Bool.and_eq_true, Nat.ble_eq] at h
    cases hq : cl m1 (st.take n).reverse M with
    | none => exact Or.inr ⟨rfl, rfl⟩
    | some q => exact Or.inl ⟨q, h.1, h.2, rfl, rfl, rfl⟩
/-- a call is sound if its run is -/
theorem sn_call' {o : eb_O} {m1 n : Nat} {rt : Option FieldType} (vd : Bool) (ho : o = if vd = true then op_callv m1 n (pc + 3) else op_call m1 n (pc + 3)) (hrt : (vd = true ∧ rt = none) ∨ (vd = false ∧ ∃ t, rt = some t))
    (h : ∀ (l : Launch) (d : Nat) (p : Program) (e : Env) (R : Room) (s : State) (mt : MethodId) (args : Array Value) (below : List Frame) (meth : Method) (c : Code) (φ : eb_A → Nat) (ls : List (Option eb_V)) (st : List eb_V) (M : eb_M) (arr : Array Slot) (H : Heap) (locs : List Loc) (r : eb_R) (cells slots : Nat), eb_Sd L q0 l d → eb_Cx q0 d p R s mt args meth c m → eb_At L q0 φ s (eb_ml m) lg ls st M arr H locs → n ≤ st.length → eb_cats (st.drop n) ≤ 8 → eb_ev L d m1 (st.take n).reverse M = some r → cells + (r.2.1 - M.1) ≤ R.cells → slots + (r.2.2.1 - M.2.1) ≤ R.slots →
      M.1 ≤ r.2.1 ∧ M.2.1 ≤ r.2.2.1 ∧ ∃ a, va_Run p l e R s mt args below meth c H locs cells slots (r.2.1 - M.1) (r.2.2.1 - M.2.1) (F0 mt pc arr (st.map (eb_cn φ))) ((st.drop n).map (eb_cn φ)) (eb_Qc L q0 φ M r rt a) (fun q => q0 ≤ q)) : eb_Snd L q0 m pc lg o := by
  have hd : ∀ {st : List eb_V}, ∀ v ∈ st.drop n, v ∈ st := fun v hv => List.mem_of_mem_drop hv
  subst ho
  refine ⟨fun cl ls st M hm => ?_, fun cl ls st M r hr => ?_, fun l d ls st M s' hs hSd => ?_⟩
  · rcases eb_call_s (m1 := m1) (n := n) (nx := pc + 3) (cl := cl) (ls := ls) (st := st) (M := M) with ⟨q, -, -, hq, e1, e2⟩ | ⟨e1, e2⟩ <;> cases vd <;> simp only [if_true, if_false, Bool.false_eq_true, e1, e2]
    · exact hm _ _ _ _ hq
    · exact hm _ _ _ _ hq
    · trivial
    · trivial
  · rcases eb_call_s (m1 := m1) (n := n) (nx := pc + 3) (cl := cl) (ls := ls) (st := st) (M := M) with ⟨q, -, -, hq, e1, e2⟩ | ⟨e1, e2⟩ <;> cases vd <;> simp only [if_true, if_false, Bool.false_eq_true, e1, e2] at hr <;> cases hr
  · rcases eb_call_s (m1 := m1) (n := n) (nx := pc + 3) (cl := eb_ev L d) (ls := ls) (st := st) (M := M) with ⟨q, hn, hcat, hq, e1, e2⟩ | ⟨e1, e2⟩
    · intro p e R s mt args below meth c Q kc ks φ hC hk1 hk2 hk3 hk4 kk arr H locs hA
      have key : M.1 ≤ q.2.1 ∧ M.2.1 ≤ q.2.2.1 → (M.1 - kc) + (q.2.1 - M.1) ≤ R.cells ∧ (M.2.1 - ks) + (q.2.2.1 - M.2.1) ≤ R.slots → W p l e R s mt args below meth c H locs (M.1 - kc) (M.2.1 - ks) Q (F0 mt pc arr (st.map (eb_cn φ))) := by
        intro hm1 hm2
        obtain ⟨g1, g2, a, hrun⟩ := h l d p e R s mt args below meth c φ ls st M arr H locs q (M.1 - kc) (M.2.1 - ks) hSd hC hA hn hcat hq hm2.1 hm2.2
        rcases hrt with ⟨rfl, rfl⟩ | ⟨rfl, t, rfl⟩
        · simp only [if_true, e2] at hs
          cases hs
          refine er_run hC hA g1 g2 hk1 hk2 hd hrun (st1 := st.drop n) (fun φ' hφ => ?_) (fun v hv => Or.inl hv) kk
          rw [eb_map_ok hφ (fun v hv => hA.2.2.2.2.2.1 v (hd v hv))]
          rfl
        · simp only [Bool.false_eq_true, if_false, e1] at hs
          cases hs
          refine er_run hC hA g1 g2 hk1 hk2 hd hrun (st1 := q.1 :: st.drop n) (fun φ' hφ => ?_) (fun v hv => ?_) kk
          · rw [List.map_cons, eb_map_ok hφ (fun v hv => hA.2.2.2.2.2.1 v (hd v hv))]
            rfl
          · rcases List.mem_cons.mp hv with rfl | hv
            · exact Or.inr rfl
            · exact Or.inl hv
      have hmono : M.1 ≤ q.2.1 ∧ M.2.1 ≤ q.2.2.1 := by
        obtain ⟨g1, g2, -⟩ := h l d p e { frames := R.frames, cells := (M.1 - kc) + (q.2.1 - M.1), slots := (M.2.1 - ks) + (q.2.2.1 - M.2.1), locals := R.locals } s mt args below meth c φ ls st M arr H locs q (M.1 - kc) (M.2.1 - ks) hSd hC hA hn hcat hq (Nat.le_refl _) (Nat.le_refl _)
        exact ⟨g1, g2⟩
      have hs2 : s'.2.2.2 = q.2 := by
        cases vd
        · simp only [Bool.false_eq_true, if_false, e1] at hs
          cases hs; rfl
        · simp only [if_true, e2] at hs
          cases hs; rfl
      rw [hs2] at hk3 hk4
      exact key hmono ⟨by omega, by omega⟩
    · cases vd
      · simp only [Bool.false_eq_true, if_false, e1] at hs
        cases hs
      · simp only [if_true, e2] at hs
        cases hs
end

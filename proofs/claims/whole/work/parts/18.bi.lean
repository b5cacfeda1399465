/-! the operations are sound: the JDK's own (all but texts) -/
section
variable {L q0 m pc : Nat} {lg : Nat → Bool}
theorem sn_bi {o : eb_O} {m1 n : Nat} (vd : Bool) (ho : o = if vd = true then op_callv m1 n (pc + 3) else op_call m1 n (pc + 3))
    (h : ∀ (l : Launch) (d : Nat) (p : Program) (e : Env) (R : Room) (s : State) (mt : MethodId) (args : Array Value) (below : List Frame) (meth : Method) (c : Code) (Q : State → Prop) (φ : eb_A → Nat) (ls : List (Option eb_V)) (st : List eb_V) (M : eb_M) (arr : Array Slot) (H : Heap) (locs : List Loc) (r : eb_R) (cells slots : Nat), eb_Cx q0 d p R s mt args meth c m → eb_At L q0 φ s (eb_ml m) lg ls st M arr H locs → n ≤ st.length → eb_cats (st.drop n) ≤ 8 → eb_ev L d m1 (st.take n).reverse M = some r →
      r.2.1 = M.1 ∧ r.2.2.1 = M.2.1 ∧ (cells ≤ R.cells → slots ≤ R.slots → (∀ (H1 : Heap) (locs1 : List Loc), eb_At L q0 φ s (eb_ml m) lg ls (if vd = true then st.drop n else r.1 :: st.drop n) r.2 arr H1 locs1 → W p l e R s mt args below meth c H1 locs1 cells slots Q (F0 mt (pc + 3) arr ((if vd = true then st.drop n else r.1 :: st.drop n).map (eb_cn φ)))) → W p l e R s mt args below meth c H locs cells slots Q (F0 mt pc arr (st.map (eb_cn φ))))) : eb_Snd L q0 m pc lg o := by
  subst ho
  refine ⟨fun cl ls st M hm => ?_, fun cl ls st M r hr => ?_, fun l d ls st M s' hs hSd => ?_⟩
  · rcases eb_call_s (m1 := m1) (n := n) (nx := pc + 3) (cl := cl) (ls := ls) (st := st) (M := M) with ⟨q, -, -, hq, e1, e2⟩ | ⟨e1, e2⟩ <;> cases vd <;> simp only [if_true, if_false, Bool.false_eq_true, e1, e2]
    · exact hm _ _ _ _ hq
    · exact hm _ _ _ _ hq
    · trivial
    · trivial
  · rcases eb_call_s (m1 := m1) (n := n) (nx := pc + 3) (cl := cl) (ls := ls) (st := st) (M := M) with ⟨q, -, -, hq, e1, e2⟩ | ⟨e1, e2⟩ <;> cases vd <;> simp only [if_true, if_false, Bool.false_eq_true, e1, e2] at hr <;> cases hr
  · rcases eb_call_s (m1 := m1) (n := n) (nx := pc + 3) (cl := eb_ev L d) (ls := ls) (st := st) (M := M) with ⟨q, hn, hcat, hq, e1, e2⟩ | ⟨e1, e2⟩
    · have hs1 : s' = (pc + 3, ls, (if vd = true then st.drop n else q.1 :: st.drop n), q.2) := by
        cases vd
        · simp only [Bool.false_eq_true, if_false, e1] at hs
          cases hs; rfl
        · simp only [if_true, e2] at hs
          cases hs; rfl
      subst hs1
      intro p e R s mt args below meth c Q kc ks φ hC hk1 hk2 hk3 hk4 kk arr H locs hA
      obtain ⟨g1, g2, g3⟩ := h l d p e R s mt args below meth c Q φ ls st M arr H locs q (M.1 - kc) (M.2.1 - ks) hC hA hn hcat hq
      dsimp only at hk3 hk4
      refine g3 (by omega) (by omega) fun H1 locs1 hA1 => ?_
      have hk := kk φ (fun _ _ => rfl) arr H1 locs1 hA1
      dsimp only at hk
      rw [g1, g2] at hk
      exact hk
    · cases vd
      · simp only [Bool.false_eq_true, if_false, e1] at hs
        cases hs
      · simp only [if_true, e2] at hs
        cases hs
theorem eb_ev_bi {d m1 : Nat} {as : List eb_V} {M : eb_M} {r : eb_R} (h9 : Nat.ble 900 m1 = true) (h : eb_ev L d m1 as M = some r) : ∃ k, d = k + 1 ∧ eb_bi L k m1 as M = some r := by
  cases d with
  | zero => cases h
  | succ d =>
    unfold eb_ev at h
    simp only [h9] at h
    exact ⟨d, rfl, h⟩
theorem eb_take2 {st : List eb_V} {x y : eb_V} (hn : 2 ≤ st.length) (h : (st.take 2).reverse = [x, y]) : st = y :: x :: st.drop 2 := by
  rcases st with _ | ⟨a, _ | ⟨b, r⟩⟩
  · simp at hn
  · simp at hn
  · simp at h
    obtain ⟨h1, h2⟩ := h
    simp [h1, h2]
theorem eb_take1 {st : List eb_V} {x : eb_V} (hn : 1 ≤ st.length) (h : (st.take 1).reverse = [x]) : st = x :: st.drop 1 := by
  rcases st with _ | ⟨a, r⟩
  · simp at hn
  · simp at h
    simp [h]
theorem eb_At_st {φ : eb_A → Nat} {s : State} {nL : Nat} {ls : List (Option eb_V)} {st st1 : List eb_V} {M : eb_M} {arr : Array Slot} {H : Heap} {locs : List Loc} (hA : eb_At L q0 φ s nL lg ls st M arr H locs) (h : ∀ v ∈ st1, v ∈ st ∨ ∃ x, v = .inl x) : eb_At L q0 φ s nL lg ls st1 M arr H locs := by
  obtain ⟨a1, a2, a3, a4, a5, a6, a7⟩ := hA
  refine ⟨a1, a2, a3, a4, a5, fun v hv => ?_, a7⟩
  rcases h v hv with g | ⟨x, rfl⟩
  · exact a6 v g
  · exact fun a ha => by cases ha
theorem eb_mthw : Cond.initialized "java/lang/Math" ∈ eb_LT ∧ (Cond.static Lib.Math.max.name ∈ eb_LT ∧ Cond.code Lib.Math.max.name Lib.Math.max.code 2 (some .int) ∈ eb_LT) ∧ (Cond.static Lib.Math.min.name ∈ eb_LT ∧ Cond.code Lib.Math.min.name Lib.Math.min.code 2 (some .int) ∈ eb_LT) ∧ (Cond.static Lib.Math.abs.name ∈ eb_LT ∧ Cond.code Lib.Math.abs.name Lib.Math.abs.code 1 (some .int) ∈ eb_LT) := by
  have key : (decide (Cond.initialized "java/lang/Math" ∈ lw_tbl) && decide (Cond.static Lib.Math.max.name ∈ lw_tbl) && decide (Cond.code Lib.Math.max.name Lib.Math.max.code 2 (some .int) ∈ lw_tbl) && decide (Cond.static Lib.Math.min.name ∈ lw_tbl) && decide (Cond.code Lib.Math.min.name Lib.Math.min.code 2 (some .int) ∈ lw_tbl) && decide (Cond.static Lib.Math.abs.name ∈ lw_tbl) && decide (Cond.code Lib.Math.abs.name Lib.Math.abs.code 1 (some .int) ∈ lw_tbl)) = true := by decide +kernel
  simp only [Bool.and_eq_true, decide_eq_true_eq] at key
  obtain ⟨⟨⟨⟨⟨⟨h1, h2⟩, h3⟩, h4⟩, h5⟩, h6⟩, h7⟩ := key
  exact ⟨List.mem_filter.mpr ⟨h1, rfl⟩, ⟨List.mem_filter.mpr ⟨h2, rfl⟩, List.mem_filter.mpr ⟨h3, rfl⟩⟩, ⟨List.mem_filter.mpr ⟨h4, rfl⟩, List.mem_filter.mpr ⟨h5, rfl⟩⟩, ⟨List.mem_filter.mpr ⟨h6, rfl⟩, List.mem_filter.mpr ⟨h7, rfl⟩⟩⟩
theorem sn_max {ix : Nat} (hw : Cond.methodLink (eb_own m) ix Lib.Math.max.name ∈ eb_LT) (hd : decode (eb_b m) pc = .ok (.invokestatic ix, 3)) : eb_Snd L q0 m pc lg (op_call 900 2 (pc + 3)) := by
  refine sn_bi false rfl fun l d p e R s mt args below meth c Q φ ls st M arr H locs r cells slots hC hA hn hcat hev => ?_
  obtain ⟨k, rfl, hb⟩ := eb_ev_bi rfl hev
  generalize eAs : (st.take 2).reverse = as at hb
  rcases as with _ | ⟨(x | x) | x, _ | ⟨(y | y) | y, _ | ⟨z, r1⟩⟩⟩ <;> try (cases hb; done)
  cases hb
  have e0 := eb_take2 hn eAs
  refine ⟨rfl, rfl, fun hc hsl kk => ?_⟩
  have hts := hC.2.2.2.2.1
  rw [e0, List.map_cons, List.map_cons]
  have hcx := hC.2.2.2.2.2.2.2
  refine va_mmax hC.1 hC.2.1 (hC.2.2.1.trans hA.2.2.1.1.1.symm) hC.2.2.2.1 (hts _ hw) (hts _ eb_mthw.2.1.1) (hts _ eb_mthw.1) (hts _ eb_mthw.2.1.2) (by omega) (by rw [eb_cats_sum]; omega) hc hsl hd ?_
  refine kk H locs (eb_At_st hA fun v hv => ?_)
  simp only [Bool.false_eq_true, if_false] at hv
  rcases List.mem_cons.mp hv with rfl | hv
  · exact Or.inr ⟨_, rfl⟩
  · exact Or.inl (List.mem_of_mem_drop hv)
theorem sn_min {ix : Nat} (hw : Cond.methodLink (eb_own m) ix Lib.Math.min.name ∈ eb_LT) (hd : decode (eb_b m) pc = .ok (.invokestatic ix, 3)) : eb_Snd L q0 m pc lg (op_call 901 2 (pc + 3)) := by
  refine sn_bi false rfl fun l d p e R s mt args below meth c Q φ ls st M arr H locs r cells slots hC hA hn hcat hev => ?_
  obtain ⟨k, rfl, hb⟩ := eb_ev_bi rfl hev
  generalize eAs : (st.take 2).reverse = as at hb
  rcases as with _ | ⟨(x | x) | x, _ | ⟨(y | y) | y, _ | ⟨z, r1⟩⟩⟩ <;> try (cases hb; done)
  cases hb
  have e0 := eb_take2 hn eAs
  refine ⟨rfl, rfl, fun hc hsl kk => ?_⟩
  have hts := hC.2.2.2.2.1
  rw [e0, List.map_cons, List.map_cons]
  have hcx := hC.2.2.2.2.2.2.2
  refine va_mmin hC.1 hC.2.1 (hC.2.2.1.trans hA.2.2.1.1.1.symm) hC.2.2.2.1 (hts _ hw) (hts _ eb_mthw.2.2.1.1) (hts _ eb_mthw.1) (hts _ eb_mthw.2.2.1.2) (by omega) (by rw [eb_cats_sum]; omega) hc hsl hd ?_
  refine kk H locs (eb_At_st hA fun v hv => ?_)
  simp only [Bool.false_eq_true, if_false] at hv
  rcases List.mem_cons.mp hv with rfl | hv
  · exact Or.inr ⟨_, rfl⟩
  · exact Or.inl (List.mem_of_mem_drop hv)
theorem sn_abs {ix : Nat} (hw : Cond.methodLink (eb_own m) ix Lib.Math.abs.name ∈ eb_LT) (hd : decode (eb_b m) pc = .ok (.invokestatic ix, 3)) : eb_Snd L q0 m pc lg (op_call 902 1 (pc + 3)) := by
  refine sn_bi false rfl fun l d p e R s mt args below meth c Q φ ls st M arr H locs r cells slots hC hA hn hcat hev => ?_
  obtain ⟨k, rfl, hb⟩ := eb_ev_bi rfl hev
  generalize eAs : (st.take 1).reverse = as at hb
  rcases as with _ | ⟨(x | x) | x, _ | ⟨z, r1⟩⟩ <;> try (cases hb; done)
  cases hb
  have e0 := eb_take1 hn eAs
  refine ⟨rfl, rfl, fun hc hsl kk => ?_⟩
  have hts := hC.2.2.2.2.1
  rw [e0, List.map_cons]
  have hcx := hC.2.2.2.2.2.2.2
  refine va_mabs hC.1 hC.2.1 (hC.2.2.1.trans hA.2.2.1.1.1.symm) hC.2.2.2.1 (hts _ hw) (hts _ eb_mthw.2.2.2.1) (hts _ eb_mthw.1) (hts _ eb_mthw.2.2.2.2) (by omega) (by rw [eb_cats_sum]; omega) hc hsl hd ?_
  refine kk H locs (eb_At_st hA fun v hv => ?_)
  simp only [Bool.false_eq_true, if_false] at hv
  rcases List.mem_cons.mp hv with rfl | hv
  · exact Or.inr ⟨_, rfl⟩
  · exact Or.inl (List.mem_of_mem_drop hv)
theorem eb_objw : Cond.instanceMethod objectInit ∈ eb_LT ∧ Cond.code objectInit ⟨#[0xb1]⟩ 1 none ∈ eb_LT := by
  have key : (decide (Cond.instanceMethod objectInit ∈ lw_tbl) && decide (Cond.code objectInit ⟨#[0xb1]⟩ 1 none ∈ lw_tbl)) = true := by decide +kernel
  simp only [Bool.and_eq_true, decide_eq_true_eq] at key
  exact ⟨List.mem_filter.mpr ⟨key.1, rfl⟩, List.mem_filter.mpr ⟨key.2, rfl⟩⟩
theorem sn_obj {ix : Nat} (hw : Cond.methodLink (eb_own m) ix objectInit ∈ eb_LT) (hd : decode (eb_b m) pc = .ok (.invokespecial ix, 3)) : eb_Snd L q0 m pc lg (op_callv 903 1 (pc + 3)) := by
  refine sn_bi true rfl fun l d p e R s mt args below meth c Q φ ls st M arr H locs r cells slots hC hA hn hcat hev => ?_
  obtain ⟨k, rfl, hb⟩ := eb_ev_bi rfl hev
  generalize eAs : (st.take 1).reverse = as at hb
  rcases as with _ | ⟨(x | x) | (_ | x), _ | ⟨z, r1⟩⟩ <;> try (cases hb; done)
  cases hb
  have e0 := eb_take1 hn eAs
  refine ⟨rfl, rfl, fun hc hsl kk => ?_⟩
  have hts := hC.2.2.2.2.1
  rw [e0, List.map_cons]
  have hcx := hC.2.2.2.2.2.2.2
  refine W.objInit hC.1 hC.2.1 hC.2.2.2.1 (hts _ hw) (hts _ eb_objw.1) (hts _ eb_objw.2) rfl (hA.2.2.1.1.1.trans hC.2.2.1.symm) rfl hd (by omega) (by rw [eb_cats_sum]; show 2 * 0 + _ + 12 ≤ _; omega) ?_
  refine kk H locs (eb_At_st hA fun v hv => Or.inl ?_)
  simp only [if_true] at hv
  exact List.mem_of_mem_drop hv
end

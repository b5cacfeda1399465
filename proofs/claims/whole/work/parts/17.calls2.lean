/-! the operations are sound: the kinds of calls -/
section
variable {L q0 m pc : Nat} {lg : Nat → Bool}
theorem eb_chk_o {c : Nat} {as : List eb_V} {ts : List Nat} (h : eb_chk L c as (3 :: ts) = true) : ∃ a r, as = zr a :: r ∧ (eb_ty L a.1).1 = c := by
  rcases as with _ | ⟨(x | x) | (_ | a), r⟩ <;> try (cases h; done)
  have h : (Nat.beq (eb_ty L a.1).1 c && eb_chk L c r ts) = true := h
  simp only [Bool.and_eq_true] at h
  exact ⟨a, r, rfl, Nat.eq_of_beq_eq_true h.1⟩
theorem eb_ev_chk {d m1 : Nat} {as : List eb_V} {M : eb_M} {r : eb_R} (h9 : m1 < 900) (h : eb_ev L d m1 as M = some r) : 1 ≤ d ∧ eb_chk L (eb_rc m1) as (eb_sg m1) = true := by
  cases d with
  | zero => cases h
  | succ d =>
    refine ⟨by omega, ?_⟩
    unfold eb_ev at h
    have hb : Nat.ble 900 m1 = false := by
      cases hq : Nat.ble 900 m1 with
      | false => rfl
      | true => rw [Nat.ble_eq] at hq; omega
    simp only [hb] at h
    cases hc : eb_chk L (eb_rc m1) as (eb_sg m1) with
    | true => rfl
    | false => rw [hc] at h; cases h
theorem eb_room {d m1 mc ms : Nat} {R : Room} (hd : 1 ≤ d) (h : d ≤ R.frames ∧ 36 * d ≤ R.locals) : (eb_rm d mc ms).frames + 1 ≤ R.frames ∧ 8 + (eb_ml m1 + 11) + (eb_rm d mc ms).locals ≤ R.locals := by
  have h1 := eb_ml_le m1
  show d - 1 + 1 ≤ R.frames ∧ 8 + (eb_ml m1 + 11) + 36 * (d - 1) ≤ R.locals
  omega
theorem eb_take {st : List eb_V} {n : Nat} {a : eb_A} {As : List eb_V} (hn : n ≤ st.length) (h : (st.take n).reverse = zr a :: As) (φ : eb_A → Nat) : st.map (eb_cn φ) = (As.map (eb_cn φ)).reverse ++ .ref (φ a) :: (st.drop n).map (eb_cn φ) ∧ As.length + 1 = n := by
  have h1 : st.take n = As.reverse ++ [zr a] := by rw [← List.reverse_reverse (st.take n), h, List.reverse_cons]
  have h2 : (st.take n).length = n := by rw [List.length_take]; omega
  rw [h1] at h2
  refine ⟨?_, by simpa using h2⟩
  conv => lhs; rw [← List.take_append_drop n st, h1]
  simp [List.map_reverse]
  rfl
theorem eb_take_s {st : List eb_V} {n : Nat} (hn : n ≤ st.length) (φ : eb_A → Nat) : st.map (eb_cn φ) = (((st.take n).reverse).map (eb_cn φ)).reverse ++ (st.drop n).map (eb_cn φ) ∧ ((st.take n).reverse).length = n := by
  refine ⟨?_, by rw [List.length_reverse, List.length_take]; omega⟩
  conv => lhs; rw [← List.take_append_drop n st]
  simp [List.map_reverse]
/-- the object of a call stands in the heap -/
theorem eb_recv {φ : eb_A → Nat} {s : State} {ls : List (Option eb_V)} {st : List eb_V} {M : eb_M} {arr : Array Slot} {H : Heap} {locs : List Loc} {nL cc : Nat} {a : eb_A} (hA : eb_At L q0 φ s nL lg ls st M arr H locs) (ha : zr a ∈ st) (hc : cc < 7) (ht : (eb_ty L a.1).1 = cc) : ∃ cellB : Cell, H[φ a]? = some cellB ∧ cellB.vm.isStatics = false ∧ s.vm.findClass (eb_cN cc) = some cellB.cls := by
  obtain ⟨n, hn, rfl⟩ := eb_ok_dom (hA.2.2.2.2.2.1 _ ha a rfl) (L := L) (by omega)
  have hcell := hA.1.1 n hn
  rw [ht, eb_cell_obj hc] at hcell
  obtain ⟨cC, iS, ⟨-, hfc, -⟩, cell, h1, h2, h3, -⟩ := hcell
  exact ⟨cell, h1, by rw [h3]; rfl, by rw [h2]; exact hfc⟩
theorem sn_callV {o : eb_O} {m1 n ix : Nat} {ts : List Nat} (vd : Bool) (ho : o = if vd = true then op_callv m1 n (pc + 3) else op_call m1 n (pc + 3)) (hrt : (vd = true ∧ eb_rt m1 = none) ∨ (vd = false ∧ ∃ t, eb_rt m1 = some t)) (hm : m1 < 254) (hsg : eb_sg m1 = 3 :: ts) (hcc : eb_rc m1 < 7)
    (hw : (Cond.methodLink (eb_own m) ix (eb_y m1) ∈ eb_LT ∧ Cond.instanceMethod (eb_y m1) ∈ eb_LT ∧ Cond.selects (eb_cN (eb_rc m1)) (eb_y m1) (eb_y m1) ∈ eb_LT) ∧ Cond.code (eb_y m1) (eb_b m1) (eb_ml m1) (eb_rt m1) ∈ eb_LT)
    (hy : (eb_y m1).cls = eb_cN (eb_rc m1) ∧ (eb_y m1).cls ≠ "java/lang/invoke/MethodHandle" ∧ (eb_y m1).cls ≠ "java/lang/invoke/VarHandle" ∧ (parseMethodDescriptor (eb_y m1).desc).map (fun d => d.parameters.length) = some (n - 1)) (hd : decode (eb_b m) pc = .ok (.invokevirtual ix, 3)) : eb_Snd L q0 m pc lg o := by
  refine sn_call' vd ho hrt fun l d p e R s mt args below meth c φ ls st M arr H locs r cells slots hSd hC hA hn hcat hev hk1 hk2 => ?_
  obtain ⟨g1, g2, hM⟩ := hSd m1 _ M r φ hm hev
  refine ⟨g1, g2, ?_⟩
  obtain ⟨hd1, hchk⟩ := eb_ev_chk (by omega) hev
  rw [hsg] at hchk
  obtain ⟨a, As, eAs, hta⟩ := eb_chk_o hchk
  obtain ⟨e1, e2⟩ := eb_take hn eAs φ
  have hmem : ∀ v ∈ (st.take n).reverse, v ∈ st := fun v hv => List.mem_of_mem_take (List.mem_reverse.mp hv)
  have hin : ∀ w ∈ wsV (eb_own m) ix (eb_cN (eb_rc m1)) (eb_y m1) (eb_ws m1), w ∈ eb_LT := by
    intro w hw1
    rcases List.mem_append.mp hw1 with h | h
    · simp only [List.mem_cons, List.not_mem_nil, or_false] at h
      rcases h with rfl | rfl | rfl | rfl
      · exact hw.1.1
      · exact hw.1.2.1
      · exact hw.1.2.2
      · exact eb_init _ hcc
    · exact (eb_ws_good hw.2 w h).1
  have hrun := va_runV (e := e) (g := F0 mt pc arr (st.map (eb_cn φ))) (locs := locs) (cells := cells) (slots := slots) (below := below) (meth := meth) (As := As.map (eb_cn φ)) (b := φ a) (rest := (st.drop n).map (eb_cn φ)) (Ts := eb_LT) (own := eb_own m) (nL := eb_ml m) (cc := eb_b m) (index := ix) (H := H) ⟨hC.1, hC.2.1, hC.2.2.1, hC.2.2.2.1, hC.2.2.2.2.1⟩ hM
    (cwV (n - 1) hC.2.2.2.2.1 (fun w h => eb_LTg w (hin w h)) rfl rfl rfl hy (eb_room hd1 hC.2.2.2.2.2.2.2))
    ⟨eb_Pc_blind, eb_recv hA (hmem _ (by rw [eAs]; exact List.mem_cons_self)) hcc hta, fun U hU hW => by
      have h := eb_pre hC hA hmem U hU hW
      rw [eAs] at h ⊢
      exact h⟩ rfl (by rw [List.length_map]; omega) hA.2.2.1.1.1 e1 (lv_room (by rw [eb_cats_sum]; exact hcat)) hd ⟨hk1, hk2⟩
  exact ⟨_, hrun⟩
theorem sn_callS {o : eb_O} {m1 n ix : Nat} (vd : Bool) (ho : o = if vd = true then op_callv m1 n (pc + 3) else op_call m1 n (pc + 3)) (hrt : (vd = true ∧ eb_rt m1 = none) ∨ (vd = false ∧ ∃ t, eb_rt m1 = some t)) (hm : m1 < 254)
    (hw : (Cond.methodLink (eb_own m) ix (eb_y m1) ∈ eb_LT ∧ Cond.static (eb_y m1) ∈ eb_LT ∧ Cond.initialized (eb_y m1).cls ∈ eb_LT) ∧ Cond.code (eb_y m1) (eb_b m1) (eb_ml m1) (eb_rt m1) ∈ eb_LT)
    (hy : (eb_y m1).cls ≠ "java/lang/invoke/MethodHandle" ∧ (eb_y m1).cls ≠ "java/lang/invoke/VarHandle" ∧ (parseMethodDescriptor (eb_y m1).desc).map (fun d => d.parameters.length) = some n) (hd : decode (eb_b m) pc = .ok (.invokestatic ix, 3)) : eb_Snd L q0 m pc lg o := by
  refine sn_call' vd ho hrt fun l d p e R s mt args below meth c φ ls st M arr H locs r cells slots hSd hC hA hn hcat hev hk1 hk2 => ?_
  obtain ⟨g1, g2, hM⟩ := hSd m1 _ M r φ hm hev
  refine ⟨g1, g2, ?_⟩
  obtain ⟨hd1, hchk⟩ := eb_ev_chk (by omega) hev
  obtain ⟨e1, e2⟩ := eb_take_s hn φ
  have hmem : ∀ v ∈ (st.take n).reverse, v ∈ st := fun v hv => List.mem_of_mem_take (List.mem_reverse.mp hv)
  have hin : ∀ w ∈ va_wsS (eb_own m) ix (eb_y m1) (eb_ws m1), w ∈ eb_LT := by
    intro w hw1
    rcases List.mem_append.mp hw1 with h | h
    · simp only [List.mem_cons, List.not_mem_nil, or_false] at h
      rcases h with rfl | rfl | rfl
      · exact hw.1.1
      · exact hw.1.2.1
      · exact hw.1.2.2
    · exact (eb_ws_good hw.2 w h).1
  have hrun := va_runS (e := e) (g := F0 mt pc arr (st.map (eb_cn φ))) (locs := locs) (cells := cells) (slots := slots) (below := below) (meth := meth) (As := ((st.take n).reverse).map (eb_cn φ)) (rest := (st.drop n).map (eb_cn φ)) (Ts := eb_LT) (own := eb_own m) (nL := eb_ml m) (cc := eb_b m) (index := ix) (H := H) ⟨hC.1, hC.2.1, hC.2.2.1, hC.2.2.2.1, hC.2.2.2.2.1⟩ hM
    (va_cwS n hC.2.2.2.2.1 (fun w h => eb_LTg w (hin w h)) rfl rfl rfl hy (eb_room hd1 hC.2.2.2.2.2.2.2))
    ⟨eb_Pc_blind, fun U hU hW => eb_pre hC hA hmem U hU hW⟩ rfl (by rw [List.length_map]; exact e2) hA.2.2.1.1.1 e1 (lv_room (by rw [eb_cats_sum]; exact hcat)) hd ⟨hk1, hk2⟩
  exact ⟨_, hrun⟩
theorem sn_callI {m1 n ix : Nat} {ts : List Nat} (hrt : eb_rt m1 = none) (hm : m1 < 254) (hsg : eb_sg m1 = 3 :: ts)
    (hw : (Cond.methodLink (eb_own m) ix (eb_y m1) ∈ eb_LT ∧ Cond.instanceMethod (eb_y m1) ∈ eb_LT ∧ Cond.initialized (eb_y m1).cls ∈ eb_LT) ∧ Cond.code (eb_y m1) (eb_b m1) (eb_ml m1) (eb_rt m1) ∈ eb_LT) (hy1 : (eb_y m1).name = "<init>")
    (hy : (eb_y m1).cls ≠ "java/lang/invoke/MethodHandle" ∧ (eb_y m1).cls ≠ "java/lang/invoke/VarHandle" ∧ (parseMethodDescriptor (eb_y m1).desc).map (fun d => d.parameters.length) = some (n - 1)) (hd : decode (eb_b m) pc = .ok (.invokespecial ix, 3)) : eb_Snd L q0 m pc lg (op_callv m1 n (pc + 3)) := by
  refine sn_call' (rt := eb_rt m1) true rfl (Or.inl ⟨rfl, hrt⟩) fun l d p e R s mt args below meth c φ ls st M arr H locs r cells slots hSd hC hA hn hcat hev hk1 hk2 => ?_
  obtain ⟨g1, g2, hM⟩ := hSd m1 _ M r φ hm hev
  refine ⟨g1, g2, ?_⟩
  obtain ⟨hd1, hchk⟩ := eb_ev_chk (by omega) hev
  rw [hsg] at hchk
  obtain ⟨a, As, eAs, hta⟩ := eb_chk_o hchk
  obtain ⟨e1, e2⟩ := eb_take hn eAs φ
  have hmem : ∀ v ∈ (st.take n).reverse, v ∈ st := fun v hv => List.mem_of_mem_take (List.mem_reverse.mp hv)
  have hts := hC.2.2.2.2.1
  have hcw := cwI (s := s) (R := R) (args := args) (own := eb_own m) (index := ix) (n - 1) hts (eb_ws_good hw.2) (show eb_ws m1 = Cond.code (eb_y m1) (eb_b m1) (eb_ml m1) none :: eb_LT by unfold eb_ws; rw [hrt]) rfl rfl (hts _ hw.1.2.2) (hts _ hw.1.1) (hts _ hw.1.2.1) hy1 hy (eb_room (mc := r.2.1 - M.1) (ms := r.2.2.1 - M.2.1) hd1 hC.2.2.2.2.2.2.2)
  have hrun := va_runI (e := e) (g := F0 mt pc arr (st.map (eb_cn φ))) (locs := locs) (cells := cells) (slots := slots) (below := below) (meth := meth) (As := As.map (eb_cn φ)) (b := φ a) (rest := (st.drop n).map (eb_cn φ)) (Ts := eb_LT) (own := eb_own m) (nL := eb_ml m) (cc := eb_b m) (index := ix) (H := H) ⟨hC.1, hC.2.1, hC.2.2.1, hC.2.2.2.1, hts⟩ hM hcw
    ⟨eb_Pc_blind, fun U hU hW => by
      have h := eb_pre hC hA hmem U hU hW
      rw [eAs] at h ⊢
      exact h⟩ rfl (by rw [List.length_map]; omega) hA.2.2.1.1.1 e1 (lv_room (by rw [eb_cats_sum]; exact hcat)) hd ⟨hk1, hk2⟩
  exact ⟨_, hrun⟩
theorem sn_callIN {m1 n ix : Nat} {host : String} {ts : List Nat} (hrt : eb_rt m1 = none) (hm : m1 < 254) (hsg : eb_sg m1 = 3 :: ts)
    (hw : (Cond.methodLinkNest (eb_own m) ix (eb_y m1) host ∈ eb_nest ∧ Cond.instanceMethod (eb_y m1) ∈ eb_LT ∧ Cond.initialized (eb_y m1).cls ∈ eb_LT) ∧ Cond.code (eb_y m1) (eb_b m1) (eb_ml m1) (eb_rt m1) ∈ eb_LT) (hy1 : (eb_y m1).name = "<init>")
    (hy : (eb_y m1).cls ≠ "java/lang/invoke/MethodHandle" ∧ (eb_y m1).cls ≠ "java/lang/invoke/VarHandle" ∧ (parseMethodDescriptor (eb_y m1).desc).map (fun d => d.parameters.length) = some (n - 1)) (hd : decode (eb_b m) pc = .ok (.invokespecial ix, 3)) : eb_Snd L q0 m pc lg (op_callv m1 n (pc + 3)) := by
  refine sn_call' (rt := eb_rt m1) true rfl (Or.inl ⟨rfl, hrt⟩) fun l d p e R s mt args below meth c φ ls st M arr H locs r cells slots hSd hC hA hn hcat hev hk1 hk2 => ?_
  obtain ⟨g1, g2, hM⟩ := hSd m1 _ M r φ hm hev
  refine ⟨g1, g2, ?_⟩
  obtain ⟨hd1, hchk⟩ := eb_ev_chk (by omega) hev
  rw [hsg] at hchk
  obtain ⟨a, As, eAs, hta⟩ := eb_chk_o hchk
  obtain ⟨e1, e2⟩ := eb_take hn eAs φ
  have hmem : ∀ v ∈ (st.take n).reverse, v ∈ st := fun v hv => List.mem_of_mem_take (List.mem_reverse.mp hv)
  have hts := hC.2.2.2.2.1
  have hcw := va_cnB (R := R) (args := args) (s := s) (own := eb_own m) (index := ix) (host := host) (n - 1) hts (eb_ws_good hw.2) (show eb_ws m1 = Cond.code (eb_y m1) (eb_b m1) (eb_ml m1) none :: eb_LT by unfold eb_ws; rw [hrt]) rfl rfl (hA.2.1.1 _ hw.1.1) (hts _ hw.1.2.2) hy (eb_room (mc := r.2.1 - M.1) (ms := r.2.2.1 - M.2.1) hd1 hC.2.2.2.2.2.2.2)
  have hrun := va_runIN (e := e) (g := F0 mt pc arr (st.map (eb_cn φ))) (locs := locs) (cells := cells) (slots := slots) (below := below) (meth := meth) (As := As.map (eb_cn φ)) (b := φ a) (rest := (st.drop n).map (eb_cn φ)) (Ts := eb_LT) (own := eb_own m) (nL := eb_ml m) (cc := eb_b m) (index := ix) (H := H) ⟨hC.1, hC.2.1, hC.2.2.1, hC.2.2.2.1, hts⟩ hM ⟨hcw, hy1, hts _ hw.1.2.1⟩
    ⟨eb_Pc_blind, fun U hU hW => by
      have h := eb_pre hC hA hmem U hU hW
      rw [eAs] at h ⊢
      exact h⟩ rfl (by rw [List.length_map]; omega) hA.2.2.1.1.1 e1 (lv_room (by rw [eb_cats_sum]; exact hcat)) hd ⟨hk1, hk2⟩
  exact ⟨_, hrun⟩
theorem sn_callSN {o : eb_O} {m1 n ix : Nat} {host : String} (vd : Bool) (ho : o = if vd = true then op_callv m1 n (pc + 3) else op_call m1 n (pc + 3)) (hrt : (vd = true ∧ eb_rt m1 = none) ∨ (vd = false ∧ ∃ t, eb_rt m1 = some t)) (hm : m1 < 254)
    (hw : (Cond.methodLinkNest (eb_own m) ix (eb_y m1) host ∈ eb_nest ∧ Cond.static (eb_y m1) ∈ eb_LT ∧ Cond.initialized (eb_y m1).cls ∈ eb_LT) ∧ Cond.code (eb_y m1) (eb_b m1) (eb_ml m1) (eb_rt m1) ∈ eb_LT)
    (hy : (eb_y m1).cls ≠ "java/lang/invoke/MethodHandle" ∧ (eb_y m1).cls ≠ "java/lang/invoke/VarHandle" ∧ (parseMethodDescriptor (eb_y m1).desc).map (fun d => d.parameters.length) = some n) (hd : decode (eb_b m) pc = .ok (.invokestatic ix, 3)) : eb_Snd L q0 m pc lg o := by
  refine sn_call' vd ho hrt fun l d p e R s mt args below meth c φ ls st M arr H locs r cells slots hSd hC hA hn hcat hev hk1 hk2 => ?_
  obtain ⟨g1, g2, hM⟩ := hSd m1 _ M r φ hm hev
  refine ⟨g1, g2, ?_⟩
  obtain ⟨hd1, hchk⟩ := eb_ev_chk (by omega) hev
  obtain ⟨e1, e2⟩ := eb_take_s hn φ
  have hmem : ∀ v ∈ (st.take n).reverse, v ∈ st := fun v hv => List.mem_of_mem_take (List.mem_reverse.mp hv)
  have hts := hC.2.2.2.2.1
  have hcw := va_cnB (R := R) (args := args) (s := s) (own := eb_own m) (index := ix) (host := host) n hts (eb_ws_good hw.2) rfl rfl rfl (hA.2.1.1 _ hw.1.1) (hts _ hw.1.2.2) hy (eb_room (mc := r.2.1 - M.1) (ms := r.2.2.1 - M.2.1) hd1 hC.2.2.2.2.2.2.2)
  have hrun := va_runSN (e := e) (g := F0 mt pc arr (st.map (eb_cn φ))) (locs := locs) (cells := cells) (slots := slots) (below := below) (meth := meth) (As := ((st.take n).reverse).map (eb_cn φ)) (rest := (st.drop n).map (eb_cn φ)) (Ts := eb_LT) (own := eb_own m) (nL := eb_ml m) (cc := eb_b m) (index := ix) (H := H) ⟨hC.1, hC.2.1, hC.2.2.1, hC.2.2.2.1, hts⟩ hM ⟨hcw, hts _ hw.1.2.1, trivial⟩
    ⟨eb_Pc_blind, fun U hU hW => eb_pre hC hA hmem U hU hW⟩ rfl (by rw [List.length_map]; exact e2) hA.2.2.1.1.1 e1 (lv_room (by rw [eb_cats_sum]; exact hcat)) hd ⟨hk1, hk2⟩
  exact ⟨_, hrun⟩
end

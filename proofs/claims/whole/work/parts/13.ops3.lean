/-! the operations are sound: fields and rows -/
theorem eb_hin : ∀ c, c < 7 → ∀ w ∈ u_ws (eb_cN c) (eb_tT c) (eb_nf c), w ∈ eb_LT := by
  have key : ∀ c, c < 7 → (u_ws (eb_cN c) (eb_tT c) (eb_nf c)).all (fun w => decide (w ∈ lw_tbl) && goodWord w) = true := by decide +kernel
  intro c hc w hw
  have h := List.all_eq_true.mp (key c hc) w hw
  simp only [Bool.and_eq_true, decide_eq_true_eq] at h
  exact List.mem_filter.mpr h
theorem eb_hty : ∀ c, c < 7 → ∀ k, k < eb_nf c → parseFieldDescriptor (eb_tT c k).2.2.1 = some (eb_tt c k) := by
  intro c hc
  rcases (show c = 0 ∨ c = 1 ∨ c = 2 ∨ c = 3 ∨ c = 4 ∨ c = 5 ∨ c = 6 by omega) with rfl | rfl | rfl | rfl | rfl | rfl | rfl
  · exact tyX0_ok
  · exact tyX1_ok
  · exact tyX2_ok
  · exact tyX3_ok
  · exact tyX4_ok
  · exact tyX5_ok
  · exact tyX6_ok
theorem eb_hnm : ∀ c, c < 7 → ∀ a, a < eb_nf c → ∀ b, b < eb_nf c → a ≠ b → (eb_tT c a).2.1 ≠ (eb_tT c b).2.1 := by
  intro c hc
  rcases (show c = 0 ∨ c = 1 ∨ c = 2 ∨ c = 3 ∨ c = 4 ∨ c = 5 ∨ c = 6 by omega) with rfl | rfl | rfl | rfl | rfl | rfl | rfl
  · exact nmX0
  · exact nmX1
  · exact nmX2
  · exact nmX3
  · exact nmX4
  · exact nmX5
  · exact nmX6
section
variable {L q0 m pc : Nat} {lg : Nat → Bool} {s : State} {φ : eb_A → Nat} {M : eb_M} {n : Nat} {a : eb_A} {H : Heap}
theorem eb_cell_obj {t : Nat} (h : t < 7) : eb_cell s φ M t n a H = ∃ (cC : ClassId) (iS : Nat → Nat), u_Kn s (eb_cN t) (eb_tT t) (eb_nf t) cC iS ∧ t_OB (φ a) cC (eb_nf t) iS H (eb_fv t φ M.2.2.1 M.2.2.2.2 a) := if_pos h
theorem eb_cell_I : eb_cell s φ M 10 n a H = ∃ cA, ArrOfT s cA .int ∧ H[φ a]? = some (arrV cA n (fun j => .int (M.2.2.1 a j))) := rfl
theorem eb_cell_J : eb_cell s φ M 11 n a H = ∃ cA, ArrOfT s cA .long ∧ H[φ a]? = some (arrV cA n (fun j => .long (M.2.2.2.1 a j))) := rfl
theorem eb_cell_S : eb_cell s φ M 17 n a H = va_X (φ a) n (fun j => M.2.2.1 a j) s H := rfl
theorem eb_cell_R {t : Nat} (h : 12 ≤ t ∧ t ≤ 16) : eb_cell s φ M t n a H = ∃ cA, ArrOfT s cA (eb_et t) ∧ va_RA s cA (eb_et t) ∧ H[φ a]? = some (arrV cA n (fun j => va_rf ((M.2.2.2.2 a j).map φ))) := by
  unfold eb_cell
  rw [if_neg (by omega), if_neg (by omega), if_neg (by omega), if_neg (by omega), if_pos h]
theorem eb_fv_ref {c j : Nat} {I : eb_A → Nat → Int32} {R : eb_A → Nat → Option eb_A} (h : (eb_tt c j).isReference = true) : eb_fv c φ I R a j = eb_cn φ (.inr (R a j)) := by
  unfold eb_fv
  rw [if_pos h]
  cases R a j <;> rfl
theorem eb_fv_int {c j : Nat} {I : eb_A → Nat → Int32} {R : eb_A → Nat → Option eb_A} (h : (eb_tt c j).isReference = false) : eb_fv c φ I R a j = .int (I a j) := by
  unfold eb_fv
  rw [if_neg (by rw [h]; decide)]
/-- reading a field -/
theorem ew_get {p : Program} {l : Launch} {e : Env} {R : Room} {mt : MethodId} {args : Array Value} {below : List Frame} {meth : Method} {c : Code} {locs : List Loc} {cells slots : Nat} {Q : State → Prop} {d ix ci j : Nat} {arr : Array Slot} {rest : List Value} (hC : eb_Cx q0 d p R s mt args meth c m) (hci : ci < 7) (hj : j < eb_nf ci) (hcell : eb_cell s φ M ci n a H)
    (hw : Cond.fieldLink (eb_own m) ix (eb_tT ci j).1 (eb_tT ci j).2.1 (eb_tT ci j).2.2.1 ∈ eb_LT) (hd : decode (eb_b m) pc = .ok (.getfield ix, 3))
    (kk : W p l e R s mt args below meth c H locs cells slots Q (F0 mt (pc + 3) arr (eb_fv ci φ M.2.2.1 M.2.2.2.2 a j :: rest))) : W p l e R s mt args below meth c H locs cells slots Q (F0 mt pc arr (.ref (φ a) :: rest)) := by
  rw [eb_cell_obj hci] at hcell
  obtain ⟨cC, iS, ⟨hS, hfc, kC, hkC, hkind⟩, cell, q1, q2, q3, q4⟩ := hcell
  obtain ⟨cf, kf, fi, f, hi, hsl⟩ := hS j hj
  refine W.getf hC.1 hC.2.1 hC.2.2.2.1 (hC.2.2.2.2.1 _ hw) hi (u_facts hfc hkC (u_lays hC.2.2.2.2.1 (eb_hin ci hci) hj) hi).1 q1 (by rw [q3]; exact fun h => by cases h) (v := eb_fv ci φ M.2.2.1 M.2.2.2.2 a j) ?_ rfl rfl hd kk
  rw [hsl, q4 j hj]
/-- writing a field -/
theorem ew_put {p : Program} {l : Launch} {e : Env} {R : Room} {mt : MethodId} {args : Array Value} {below : List Frame} {meth : Method} {c : Code} {locs : List Loc} {cells slots : Nat} {Q : State → Prop} {d ix ci j : Nat} {arr : Array Slot} {rest : List Value} {v : Value} (hC : eb_Cx q0 d p R s mt args meth c m) (hci : ci < 7) (hj : j < eb_nf ci) (hcell : eb_cell s φ M ci n a H)
    (hw : Cond.fieldLink (eb_own m) ix (eb_tT ci j).1 (eb_tT ci j).2.1 (eb_tT ci j).2.2.1 ∈ eb_LT) (hfin : (eb_tT ci j).2.2.2 = false ∨ ((eb_y m).name = "<init>" ∧ (eb_tT ci j).1 = eb_own m)) (hn : narrow (eb_tt ci j) v = v) (hf : fits (eb_tt ci j) v = true) (hd : decode (eb_b m) pc = .ok (.putfield ix, 3))
    (kk : ∀ (H1 : Heap) (k : Nat), (∃ (cC : ClassId) (iS : Nat → Nat), u_Kn s (eb_cN ci) (eb_tT ci) (eb_nf ci) cC iS ∧ t_OB (φ a) cC (eb_nf ci) iS H1 (updV (eb_fv ci φ M.2.2.1 M.2.2.2.2 a) j v)) → H1.size = H.size → (∀ q : Nat, q ≠ φ a → H1[q]? = H[q]?) → W p l e R s mt args below meth c H1 (locs ++ [⟨φ a, k⟩]) cells slots Q (F0 mt (pc + 3) arr rest)) : W p l e R s mt args below meth c H locs cells slots Q (F0 mt pc arr (v :: .ref (φ a) :: rest)) := by
  rw [eb_cell_obj hci] at hcell
  obtain ⟨cC, iS, hKn, cell, q1, q2, q3, q4⟩ := hcell
  obtain ⟨hS, hfc, kC, hkC, hkind⟩ := id hKn
  have hts := hC.2.2.2.2.1
  have hin := eb_hin ci hci
  have hap : ∀ x y, x < eb_nf ci → y < eb_nf ci → x ≠ y → iS x ≠ iS y := by
    intro x y hx hy hne
    obtain ⟨_, _, _, fa, hia, ea⟩ := hS x hx
    obtain ⟨_, _, _, fb, hib, eb⟩ := hS y hy
    rw [← ea, ← eb]
    refine u_apart (u_lays hts hin hx) (u_lays hts hin hy) hia hib ?_
    rw [(State.fieldFound?_type hia (eb_hty ci hci x hx)).1, (State.fieldFound?_type hib (eb_hty ci hci y hy)).1]
    exact eb_hnm ci hci x hx y hy hne
  obtain ⟨cf, kf, fi, f, hi, hsl⟩ := hS j hj
  have hlay := hts _ (hin _ (u_in_lay hj))
  have hst := (u_facts hfc hkC (u_lays hts hin hj) hi).1
  cases hb : (eb_tT ci j).2.2.2 with
  | false =>
    unfold u_lay at hlay
    rw [if_neg (by rw [hb]; decide)] at hlay
    have h6 := u_store hfc hkC hkind hlay hi (eb_hty ci hci j hj) hn hf
    refine W.putK hC.1 hC.2.1 (f := f) ⟨hC.2.2.2.1, hts _ hw, ⟨_, _, _, hi⟩, hst⟩ (by rw [q2]; exact h6) q1 q3 (by rw [hsl]; exact k2_hasslot (q4 j hj)) rfl rfl hd fun H' e1 e2 e3 => ?_
    rw [hsl] at e1 ⊢
    exact kk H' _ ⟨cC, iS, hKn, _, e1, q2, q3, t_set q4 hap hj v⟩ e2 e3
  | true =>
    have hfin : (eb_y m).name = "<init>" ∧ (eb_tT ci j).1 = eb_own m := by
      rcases hfin with h | h
      · rw [hb] at h; cases h
      · exact h
    unfold u_lay at hlay
    rw [if_pos hb] at hlay
    have hcf : mt.cls = cf := by
      obtain ⟨_, _, c', _, _, _, -, -, hf', -, -, -, hown2, -⟩ := Cond.laysFinal_spec hlay
      have e1 : c' = cf := by have := hi.symm.trans hf'; simp at this; exact this.1.symm
      rw [hfin.2] at hown2
      rw [← e1]; exact Option.some.inj (hC.2.2.2.1.symm.trans hown2)
    have h6 := u_fits hfc hkC hkind (Or.inr hlay) hi (eb_hty ci hci j hj) hn hf
    refine W.putFinK hC.1 hC.2.1 hC.2.2.2.1 (hts _ hw) hi hst hcf (hC.2.2.2.2.2.1 hfin.1) (by rw [q2]; exact h6) q1 q3 (by rw [hsl]; exact k2_hasslot (q4 j hj)) rfl rfl hd fun H' e1 e2 e3 => ?_
    rw [hsl] at e1 ⊢
    exact kk H' _ ⟨cC, iS, hKn, _, e1, q2, q3, t_set q4 hap hj v⟩ e2 e3
end
section
variable {L q0 m pc : Nat} {lg : Nat → Bool}
theorem sn_getI {ix ci j : Nat} (hci : ci < 7) (hj : j < eb_nf ci) (hr : (eb_tt ci j).isReference = false) (hw : Cond.fieldLink (eb_own m) ix (eb_tT ci j).1 (eb_tT ci j).2.1 (eb_tT ci j).2.2.1 ∈ eb_LT) (hd : decode (eb_b m) pc = .ok (.getfield ix, 3)) : eb_Snd L q0 m pc lg (op_getI L ci j (pc + 3)) := by
  refine eb_Snd_of (fun cl ls st M _ => ?_) (fun cl ls st M r h => ?_) (fun l d ls st M s' hs _ => ?_)
  · rcases st with _ | ⟨(x | x) | (_ | a), r⟩ <;> try trivial
    by_cases h : (eb_ty L a.1).1 = ci
    · simp [op_getI, h, eb_mT]
    · simp [op_getI, h, eb_mT]
  · rcases st with _ | ⟨(x | x) | (_ | a), r1⟩ <;> try (cases h; done)
    by_cases h1 : (eb_ty L a.1).1 = ci <;> simp [op_getI, h1] at h
  · rcases st with _ | ⟨(x | x) | (_ | a), r1⟩ <;> try (cases hs; done)
    by_cases h1 : (eb_ty L a.1).1 = ci
    · simp only [op_getI, h1, if_true] at hs
      cases hs
      refine er_st (fun w hw => ?_) (fun p e R s mt args below meth c Q cells slots φ arr H locs hC hA k => ?_)
      · rcases List.mem_cons.mp hw with rfl | hw
        · exact Or.inr (Or.inr (Or.inl ⟨_, rfl⟩))
        · exact Or.inl (List.mem_cons_of_mem _ hw)
      · obtain ⟨n, hn, rfl⟩ := eb_ok_dom (hA.2.2.2.2.2.1 _ List.mem_cons_self a rfl) (L := L) (by omega)
        have hcell := hA.1.1 n hn
        rw [h1] at hcell
        refine ew_get hC hci hj hcell hw hd ?_
        rw [eb_fv_int hr]
        exact k
    · simp [op_getI, h1] at hs
theorem sn_getR {ix ci j : Nat} (hci : ci < 7) (hj : j < eb_nf ci) (hr : (eb_tt ci j).isReference = true) (hw : Cond.fieldLink (eb_own m) ix (eb_tT ci j).1 (eb_tT ci j).2.1 (eb_tT ci j).2.2.1 ∈ eb_LT) (hd : decode (eb_b m) pc = .ok (.getfield ix, 3)) : eb_Snd L q0 m pc lg (op_getR L ci j (pc + 3)) := by
  refine eb_Snd_of (fun cl ls st M _ => ?_) (fun cl ls st M r h => ?_) (fun l d ls st M s' hs _ => ?_)
  · rcases st with _ | ⟨(x | x) | (_ | a), r⟩ <;> try trivial
    by_cases h : (eb_ty L a.1).1 = ci
    · simp [op_getR, h, eb_mT]
    · simp [op_getR, h, eb_mT]
  · rcases st with _ | ⟨(x | x) | (_ | a), r1⟩ <;> try (cases h; done)
    by_cases h1 : (eb_ty L a.1).1 = ci <;> simp [op_getR, h1] at h
  · rcases st with _ | ⟨(x | x) | (_ | a), r1⟩ <;> try (cases hs; done)
    by_cases h1 : (eb_ty L a.1).1 = ci
    · simp only [op_getR, h1, if_true] at hs
      cases hs
      intro p e R s mt args below meth c Q kc ks φ hC _ _ _ _ kk arr H locs hA
      obtain ⟨n, hn, rfl⟩ := eb_ok_dom (hA.2.2.2.2.2.1 _ List.mem_cons_self a rfl) (L := L) (by omega)
      have hcell := hA.1.1 n hn
      rw [h1] at hcell
      refine ew_get hC hci hj hcell hw hd ?_
      rw [eb_fv_ref hr]
      refine kk φ (fun _ _ => rfl) arr H locs ⟨hA.1, hA.2.1, hA.2.2.1, hA.2.2.2.1, hA.2.2.2.2.1, fun v hv => ?_, hA.2.2.2.2.2.2⟩
      rcases List.mem_cons.mp hv with rfl | hv
      · intro b hb
        have hb : M.2.2.2.2 (eb_nm n) j = some b := by cases hq : M.2.2.2.2 (eb_nm n) j with | none => rw [hq] at hb; cases hb | some z => rw [hq] at hb; cases hb; rfl
        exact hA.1.2.2.1 n j b hn (Or.inl (by rw [h1]; exact ⟨hci, hj, hr⟩)) hb
      · exact hA.2.2.2.2.2.1 v (List.mem_cons_of_mem _ hv)
    · simp [op_getR, h1] at hs
/-- a state behind a write -/
theorem er_wr {φ : eb_A → Nat} {s : State} {nL : Nat} {ls : List (Option eb_V)} {st st1 : List eb_V} {M M1 : eb_M} {arr : Array Slot} {H H1 : Heap} {locs : List Loc} {k : Nat} {a : eb_A} (hA : eb_At L q0 φ s nL lg ls st M arr H locs) (hst : ∀ w ∈ st1, w ∈ st) (hc : M1.1 = M.1) (hW : eb_Wd L q0 φ M1 s H1) (hz : H1.size = H.size) (ho : ∀ q : Nat, q ≠ φ a → H1[q]? = H[q]?) (hq : q0 ≤ φ a) : eb_At L q0 φ s nL lg ls st1 M1 arr H1 (locs ++ [⟨φ a, k⟩]) := by
  obtain ⟨a1, a2, a3, a4, a5, a6, a7⟩ := hA
  refine ⟨hW, eb_Kn_kept (fun _ _ => rfl) (fun q _ hn => ho q (fun e => hn (by rw [e]; exact hq))) a2, a3, a4, fun v hv => ?_, fun v hv => ?_, a7.put hz ho hq⟩
  · rw [hc]; exact a5 v hv
  · rw [hc]; exact a6 v (hst v hv)
theorem eb_u_ne {α : Type} {I : eb_A → Nat → α} {a b : eb_A} {j l : Nat} {x : α} (h : ¬ b = a) : eb_u I a j x b l = I b l := if_neg fun q => h q.1
theorem sn_putI' {o : eb_O} {ix ci j : Nat} {P : Int32 → Prop} (ho : ∀ cl ls st M, (∃ x a r, st = zi x :: zr a :: r ∧ (eb_ty L a.1).1 = ci ∧ P x ∧ o cl ls st M = eb_go (pc + 3) ls r (M.1, M.2.1, eb_u M.2.2.1 a j x, M.2.2.2.1, M.2.2.2.2)) ∨ o cl ls st M = none)
    (hci : ci < 7) (hj : j < eb_nf ci) (hr : (eb_tt ci j).isReference = false) (hw : Cond.fieldLink (eb_own m) ix (eb_tT ci j).1 (eb_tT ci j).2.1 (eb_tT ci j).2.2.1 ∈ eb_LT) (hfin : (eb_tT ci j).2.2.2 = false ∨ ((eb_y m).name = "<init>" ∧ (eb_tT ci j).1 = eb_own m)) (hn : ∀ x : Int32, P x → narrow (eb_tt ci j) (.int x) = .int x ∧ fits (eb_tt ci j) (.int x) = true) (hd : decode (eb_b m) pc = .ok (.putfield ix, 3)) : eb_Snd L q0 m pc lg o := by
  refine eb_Snd_of (fun cl ls st M _ => ?_) (fun cl ls st M r h => ?_) (fun l d ls st M s' hs _ => ?_)
  · rcases ho cl ls st M with ⟨x, a, r, -, -, -, e⟩ | e <;> rw [e]
    · exact ⟨Nat.le_refl _, Nat.le_refl _⟩
    · trivial
  · rcases ho cl ls st M with ⟨x, a, r, -, -, -, e⟩ | e <;> rw [e] at h <;> cases h
  · rcases ho (eb_ev L d) ls st M with ⟨x, a, r, rfl, h1, hP, e⟩ | e <;> rw [e] at hs <;> cases hs
    intro p e R s mt args below meth c Q kc ks φ hC _ _ _ _ kk arr H locs hA
    obtain ⟨n, hnn, rfl⟩ := eb_ok_dom (hA.2.2.2.2.2.1 _ (List.mem_cons_of_mem _ List.mem_cons_self) a rfl) (L := L) (by omega)
    have hcell := hA.1.1 n hnn
    rw [h1] at hcell
    refine ew_put hC hci hj hcell hw hfin (hn x hP).1 (hn x hP).2 hd fun H1 k ⟨cC, iS, hKn, hOB⟩ hz hq => ?_
    refine kk φ (fun _ _ => rfl) arr H1 _ (er_wr hA (fun w hw => List.mem_cons_of_mem _ (List.mem_cons_of_mem _ hw)) rfl ?_ hz hq (hA.1.2.2.2.1 n hnn (by omega)))
    refine eb_Wd_put hA.1 hnn rfl (fun b l hb => eb_u_ne hb) (fun b l hb => rfl) (fun b l hb => rfl) hz hq ?_ (fun l b hb e => hA.1.2.2.1 n l b hnn hb e)
    rw [h1, eb_cell_obj hci]
    refine ⟨cC, iS, hKn, hOB.to fun l hl => ?_⟩
    by_cases e : l = j
    · subst e
      rw [eb_fv_int hr]
      simp [updV, eb_u]
      rfl
    · simp [updV, e, eb_fv, eb_u]
theorem sn_putI {ix ci j : Nat} (hci : ci < 7) (hj : j < eb_nf ci) (hr : (eb_tt ci j).isReference = false) (hw : Cond.fieldLink (eb_own m) ix (eb_tT ci j).1 (eb_tT ci j).2.1 (eb_tT ci j).2.2.1 ∈ eb_LT) (hfin : (eb_tT ci j).2.2.2 = false ∨ ((eb_y m).name = "<init>" ∧ (eb_tT ci j).1 = eb_own m)) (hn : ∀ x : Int32, narrow (eb_tt ci j) (.int x) = .int x ∧ fits (eb_tt ci j) (.int x) = true) (hd : decode (eb_b m) pc = .ok (.putfield ix, 3)) : eb_Snd L q0 m pc lg (op_putI L ci j (pc + 3)) := by
  refine sn_putI' (P := fun _ => True) (fun cl ls st M => ?_) hci hj hr hw hfin (fun x _ => hn x) hd
  rcases st with _ | ⟨(x | x) | x, _ | ⟨y | (_ | a), r⟩⟩ <;> try exact Or.inr rfl
  by_cases h : (eb_ty L a.1).1 = ci
  · exact Or.inl ⟨x, a, r, rfl, h, trivial, by simp [op_putI, h]⟩
  · exact Or.inr (by simp [op_putI, h])
theorem sn_putZ {ix ci j : Nat} (hci : ci < 7) (hj : j < eb_nf ci) (hr : (eb_tt ci j).isReference = false) (hw : Cond.fieldLink (eb_own m) ix (eb_tT ci j).1 (eb_tT ci j).2.1 (eb_tT ci j).2.2.1 ∈ eb_LT) (hfin : (eb_tT ci j).2.2.2 = false ∨ ((eb_y m).name = "<init>" ∧ (eb_tT ci j).1 = eb_own m)) (hn : ∀ x : Int32, x = 0 ∨ x = 1 → narrow (eb_tt ci j) (.int x) = .int x ∧ fits (eb_tt ci j) (.int x) = true) (hd : decode (eb_b m) pc = .ok (.putfield ix, 3)) : eb_Snd L q0 m pc lg (op_putZ L ci j (pc + 3)) := by
  refine sn_putI' (P := fun x => x = 0 ∨ x = 1) (fun cl ls st M => ?_) hci hj hr hw hfin hn hd
  rcases st with _ | ⟨(x | x) | x, _ | ⟨y | (_ | a), r⟩⟩ <;> try exact Or.inr rfl
  by_cases h : (eb_ty L a.1).1 = ci
  · by_cases h2 : x = 0 ∨ x = 1
    · exact Or.inl ⟨x, a, r, rfl, h, h2, by simp only [op_putZ, h, h2, and_self, if_true]⟩
    · exact Or.inr (by simp only [op_putZ, h2, and_false, if_false])
  · exact Or.inr (by simp only [op_putZ, h, false_and, if_false])
theorem sn_putR {ix ci j : Nat} (hci : ci < 7) (hj : j < eb_nf ci) (hr : (eb_tt ci j).isReference = true) (hw : Cond.fieldLink (eb_own m) ix (eb_tT ci j).1 (eb_tT ci j).2.1 (eb_tT ci j).2.2.1 ∈ eb_LT) (hfin : (eb_tT ci j).2.2.2 = false ∨ ((eb_y m).name = "<init>" ∧ (eb_tT ci j).1 = eb_own m)) (hn : ∀ x : Option Nat, narrow (eb_tt ci j) (va_rf x) = va_rf x ∧ fits (eb_tt ci j) (va_rf x) = true) (hd : decode (eb_b m) pc = .ok (.putfield ix, 3)) : eb_Snd L q0 m pc lg (op_putR L ci j (pc + 3)) := by
  have ho : ∀ cl ls st M, (∃ x a r, st = .inr x :: zr a :: r ∧ (eb_ty L a.1).1 = ci ∧ op_putR L ci j (pc + 3) cl ls st M = eb_go (pc + 3) ls r (M.1, M.2.1, M.2.2.1, M.2.2.2.1, eb_u M.2.2.2.2 a j x)) ∨ op_putR L ci j (pc + 3) cl ls st M = none := by
    intro cl ls st M
    rcases st with _ | ⟨(x | x) | x, _ | ⟨y | (_ | a), r⟩⟩ <;> try exact Or.inr rfl
    by_cases h : (eb_ty L a.1).1 = ci
    · exact Or.inl ⟨x, a, r, rfl, h, by simp [op_putR, h]⟩
    · exact Or.inr (by simp [op_putR, h])
  refine eb_Snd_of (fun cl ls st M _ => ?_) (fun cl ls st M r h => ?_) (fun l d ls st M s' hs _ => ?_)
  · rcases ho cl ls st M with ⟨x, a, r, -, -, e⟩ | e <;> rw [e]
    · exact ⟨Nat.le_refl _, Nat.le_refl _⟩
    · trivial
  · rcases ho cl ls st M with ⟨x, a, r, -, -, e⟩ | e <;> rw [e] at h <;> cases h
  · rcases ho (eb_ev L d) ls st M with ⟨x, a, r, rfl, h1, e⟩ | e <;> rw [e] at hs <;> cases hs
    intro p e R s mt args below meth c Q kc ks φ hC _ _ _ _ kk arr H locs hA
    have hx := hA.2.2.2.2.2.1 (.inr x) List.mem_cons_self
    obtain ⟨n, hnn, rfl⟩ := eb_ok_dom (hA.2.2.2.2.2.1 _ (List.mem_cons_of_mem _ List.mem_cons_self) a rfl) (L := L) (by omega)
    have hcell := hA.1.1 n hnn
    rw [h1] at hcell
    have hv : eb_cn φ (.inr x) = va_rf (x.map φ) := by cases x <;> rfl
    rw [List.map_cons, List.map_cons, hv]
    refine ew_put hC hci hj hcell hw hfin (hn _).1 (hn _).2 hd fun H1 k ⟨cC, iS, hKn, hOB⟩ hz hq => ?_
    refine kk φ (fun _ _ => rfl) arr H1 _ (er_wr hA (fun w hw => List.mem_cons_of_mem _ (List.mem_cons_of_mem _ hw)) rfl ?_ hz hq (hA.1.2.2.2.1 n hnn (by omega)))
    refine eb_Wd_put hA.1 hnn rfl (fun b l hb => rfl) (fun b l hb => rfl) (fun b l hb => eb_u_ne hb) hz hq ?_ (fun l b hb e => ?_)
    · rw [h1, eb_cell_obj hci]
      refine ⟨cC, iS, hKn, hOB.to fun l hl => ?_⟩
      by_cases e : l = j
      · subst e
        rw [eb_fv_ref hr]
        simp [updV, eb_u]
        exact hv.symm
      · simp [updV, e, eb_fv, eb_u]
    · by_cases e1 : l = j
      · subst e1
        have e2 : x = some b := by rw [← e]; simp [eb_u]
        exact hx b (by rw [e2])
      · refine hA.1.2.2.1 n l b hnn hb ?_
        rw [← e]
        simp [eb_u, e1]
end

/-! the operations are sound: rows -/
section
variable {L q0 m pc : Nat} {lg : Nat → Bool}
theorem eb_in_v {x : Int32} {n : Nat} (h : eb_in x n = true) : ¬ (x < 0 ∨ n ≤ x.toNatClampNeg) := eb_in_iff.mp h
theorem eb_in_lt {x : Int32} {n : Nat} (h : eb_in x n = true) : x.toNatClampNeg < n := Nat.not_le.mp fun q => eb_in_v h (Or.inr q)
/-- reading an int or a long out of a row -/
theorem sn_ald {o : eb_O} {w : eb_M → eb_A → Nat → eb_V} (P : eb_A → Int32 → Prop) (ho : ∀ cl ls st M, (∃ x a r, st = zi x :: zr a :: r ∧ P a x ∧ o cl ls st M = eb_go (pc + 1) ls (w M a x.toNatClampNeg :: r) M) ∨ o cl ls st M = none) (hv : ∀ M a k, ∃ x, w M a k = .inl x) (hP : ∀ a x, P a x → ¬ (eb_ty L a.1).1 = 50)
    (h : ∀ (p : Program) (l : Launch) (e : Env) (R : Room) (s : State) (mt : MethodId) (args : Array Value) (below : List Frame) (meth : Method) (c : Code) (Q : State → Prop) (cells slots : Nat) (arr : Array Slot) (H : Heap) (locs : List Loc) (rest : List Value) (φ : eb_A → Nat) (M : eb_M) (a : eb_A) (x : Int32), p.tables.exec = Jvm.exec → c.code = eb_b m → P a x → eb_cell s φ M (eb_ty L a.1).1 (eb_ty L a.1).2 a H → W p l e R s mt args below meth c H locs cells slots Q (F0 mt (pc + 1) arr (eb_cn φ (w M a x.toNatClampNeg) :: rest)) → W p l e R s mt args below meth c H locs cells slots Q (F0 mt pc arr (.int x :: .ref (φ a) :: rest))) : eb_Snd L q0 m pc lg o := by
  refine eb_Snd_of (fun cl ls st M _ => ?_) (fun cl ls st M r hr => ?_) (fun l d ls st M s' hs _ => ?_)
  · rcases ho cl ls st M with ⟨x, a, r, -, -, e⟩ | e <;> rw [e]
    · exact ⟨Nat.le_refl _, Nat.le_refl _⟩
    · trivial
  · rcases ho cl ls st M with ⟨x, a, r, -, -, e⟩ | e <;> rw [e] at hr <;> cases hr
  · rcases ho (eb_ev L d) ls st M with ⟨x, a, r, rfl, h1, ee⟩ | ee <;> rw [ee] at hs <;> cases hs
    refine er_st (fun z hz => ?_) (fun p e R s mt args below meth c Q cells slots φ arr H locs hC hA k => ?_)
    · rcases List.mem_cons.mp hz with rfl | hz
      · exact Or.inr (Or.inr (Or.inl (hv _ _ _)))
      · exact Or.inl (List.mem_cons_of_mem _ (List.mem_cons_of_mem _ hz))
    · obtain ⟨n, hn, rfl⟩ := eb_ok_dom (hA.2.2.2.2.2.1 _ (List.mem_cons_of_mem _ List.mem_cons_self) a rfl) (hP a x h1)
      exact h p l e R s mt args below meth c Q cells slots arr H locs _ φ M _ x hC.1 hC.2.1 h1 (hA.1.1 n hn) k
theorem sn_iald (hd : decode (eb_b m) pc = .ok (.iaload, 1)) : eb_Snd L q0 m pc lg (op_iald L (pc + 1)) := by
  refine sn_ald (w := fun M a k => zi (M.2.2.1 a k)) (fun a x => (eb_ty L a.1).1 = 10 ∧ eb_in x (eb_ty L a.1).2 = true) (fun cl ls st M => ?_) (fun M a k => ⟨_, rfl⟩) (fun a x h => by omega) (fun p l e R s mt args below meth c Q cells slots arr H locs rest φ M a x hx hb hP hcell k => ?_)
  · rcases st with _ | ⟨(x | x) | x, _ | ⟨y | (_ | a), r⟩⟩ <;> try exact Or.inr rfl
    by_cases h : (eb_ty L a.1).1 = 10 ∧ eb_in x (eb_ty L a.1).2 = true
    · exact Or.inl ⟨x, a, r, rfl, h, by simp only [op_iald, h, and_self, if_true]⟩
    · exact Or.inr (by simp only [op_iald, h, if_false])
  · rw [hP.1, eb_cell_I] at hcell
    obtain ⟨cA, h1, h2⟩ := hcell
    refine W.iald hx hb h2 (h1 _ _) (fun q => by cases q) ?_ (v := .int (M.2.2.1 a x.toNatClampNeg)) ?_ rfl rfl hd k
    · rw [arrV_size]; exact eb_in_v hP.2
    · rw [arrV_read _ _ (eb_in_lt hP.2)]
theorem sn_sald (hd : decode (eb_b m) pc = .ok (.iaload, 1)) : eb_Snd L q0 m pc lg (op_sald L (pc + 1)) := by
  refine sn_ald (w := fun M a k => zi (M.2.2.1 a k)) (fun a x => (eb_ty L a.1).1 = 17 ∧ eb_in x (eb_ty L a.1).2 = true) (fun cl ls st M => ?_) (fun M a k => ⟨_, rfl⟩) (fun a x h => by omega) (fun p l e R s mt args below meth c Q cells slots arr H locs rest φ M a x hx hb hP hcell k => ?_)
  · rcases st with _ | ⟨(x | x) | x, _ | ⟨y | (_ | a), r⟩⟩ <;> try exact Or.inr rfl
    by_cases h : (eb_ty L a.1).1 = 17 ∧ eb_in x (eb_ty L a.1).2 = true
    · exact Or.inl ⟨x, a, r, rfl, h, by simp only [op_sald, h, and_self, if_true]⟩
    · exact Or.inr (by simp only [op_sald, h, if_false])
  · rw [hP.1, eb_cell_S] at hcell
    obtain ⟨scr, h1, h2, h3, h4, h5⟩ := hcell
    refine W.iald hx hb h1 h2 h3 ?_ (v := .int (M.2.2.1 a x.toNatClampNeg)) ?_ rfl rfl hd k
    · rw [h4]; exact eb_in_v hP.2
    · exact h5 _ (eb_in_lt hP.2)
theorem sn_lald (hd : decode (eb_b m) pc = .ok (.laload, 1)) : eb_Snd L q0 m pc lg (op_lald L (pc + 1)) := by
  refine sn_ald (w := fun M a k => zl (M.2.2.2.1 a k)) (fun a x => (eb_ty L a.1).1 = 11 ∧ eb_in x (eb_ty L a.1).2 = true) (fun cl ls st M => ?_) (fun M a k => ⟨_, rfl⟩) (fun a x h => by omega) (fun p l e R s mt args below meth c Q cells slots arr H locs rest φ M a x hx hb hP hcell k => ?_)
  · rcases st with _ | ⟨(x | x) | x, _ | ⟨y | (_ | a), r⟩⟩ <;> try exact Or.inr rfl
    by_cases h : (eb_ty L a.1).1 = 11 ∧ eb_in x (eb_ty L a.1).2 = true
    · exact Or.inl ⟨x, a, r, rfl, h, by simp only [op_lald, h, and_self, if_true]⟩
    · exact Or.inr (by simp only [op_lald, h, if_false])
  · rw [hP.1, eb_cell_J] at hcell
    obtain ⟨cA, h1, h2⟩ := hcell
    refine W.lald hx hb h2 (h1 _ _) (fun q => by cases q) ?_ (v := .long (M.2.2.2.1 a x.toNatClampNeg)) ?_ rfl rfl hd k
    · rw [arrV_size]; exact eb_in_v hP.2
    · rw [arrV_read _ _ (eb_in_lt hP.2)]
theorem eb_et_ref {t : Nat} : (eb_et t).isReference = true := by
  unfold eb_et
  split <;> rfl
theorem sn_aald (hd : decode (eb_b m) pc = .ok (.aaload, 1)) : eb_Snd L q0 m pc lg (op_aald L (pc + 1)) := by
  have ho : ∀ cl ls st M, (∃ x a r, st = zi x :: zr a :: r ∧ (12 ≤ (eb_ty L a.1).1 ∧ (eb_ty L a.1).1 ≤ 16) ∧ eb_in x (eb_ty L a.1).2 = true ∧ op_aald L (pc + 1) cl ls st M = eb_go (pc + 1) ls (.inr (M.2.2.2.2 a x.toNatClampNeg) :: r) M) ∨ op_aald L (pc + 1) cl ls st M = none := by
    intro cl ls st M
    rcases st with _ | ⟨(x | x) | x, _ | ⟨y | (_ | a), r⟩⟩ <;> try exact Or.inr rfl
    by_cases h : (12 ≤ (eb_ty L a.1).1 ∧ (eb_ty L a.1).1 ≤ 16) ∧ eb_in x (eb_ty L a.1).2 = true
    · exact Or.inl ⟨x, a, r, rfl, h.1, h.2, by simp only [op_aald, h, and_self, if_true]⟩
    · exact Or.inr (by simp only [op_aald, h, if_false])
  refine eb_Snd_of (fun cl ls st M _ => ?_) (fun cl ls st M r h => ?_) (fun l d ls st M s' hs _ => ?_)
  · rcases ho cl ls st M with ⟨x, a, r, -, -, -, e⟩ | e <;> rw [e]
    · exact ⟨Nat.le_refl _, Nat.le_refl _⟩
    · trivial
  · rcases ho cl ls st M with ⟨x, a, r, -, -, -, e⟩ | e <;> rw [e] at h <;> cases h
  · rcases ho (eb_ev L d) ls st M with ⟨x, a, r, rfl, h1, h2, e⟩ | e <;> rw [e] at hs <;> cases hs
    intro p e R s mt args below meth c Q kc ks φ hC _ _ _ _ kk arr H locs hA
    obtain ⟨n, hn, rfl⟩ := eb_ok_dom (hA.2.2.2.2.2.1 _ (List.mem_cons_of_mem _ List.mem_cons_self) a rfl) (L := L) (by omega)
    have hcell := hA.1.1 n hn
    rw [eb_cell_R h1] at hcell
    obtain ⟨cA, g1, g2, g3⟩ := hcell
    have hv : va_rf ((M.2.2.2.2 (eb_nm n) x.toNatClampNeg).map φ) = eb_cn φ (.inr (M.2.2.2.2 (eb_nm n) x.toNatClampNeg)) := by cases M.2.2.2.2 (eb_nm n) x.toNatClampNeg <;> rfl
    refine W.aald hC.1 hC.2.1 g3 (g1 _ _) eb_et_ref (fun q => by cases q) ?_ (v := eb_cn φ (.inr (M.2.2.2.2 (eb_nm n) x.toNatClampNeg))) ?_ rfl rfl hd ?_
    · rw [arrV_size]; exact eb_in_v h2
    · rw [arrV_read _ _ (eb_in_lt h2), hv]
    · refine kk φ (fun _ _ => rfl) arr H locs ⟨hA.1, hA.2.1, hA.2.2.1, hA.2.2.2.1, hA.2.2.2.2.1, fun v hz => ?_, hA.2.2.2.2.2.2⟩
      rcases List.mem_cons.mp hz with rfl | hz
      · intro b hb
        have hb : M.2.2.2.2 (eb_nm n) x.toNatClampNeg = some b := by cases hq : M.2.2.2.2 (eb_nm n) x.toNatClampNeg with | none => rw [hq] at hb; cases hb | some z => rw [hq] at hb; cases hb; rfl
        exact hA.1.2.2.1 n _ b hn (Or.inr ⟨h1.1, h1.2, eb_in_lt h2⟩) hb
      · exact hA.2.2.2.2.2.1 v (List.mem_cons_of_mem _ (List.mem_cons_of_mem _ hz))
theorem sn_alen' {o : eb_O} {t : Nat} (ht : t = 10 ∨ t = 17) (ho : ∀ cl ls st M, (∃ a r, st = zr a :: r ∧ (eb_ty L a.1).1 = t ∧ o cl ls st M = eb_go (pc + 1) ls (zi (nI (eb_ty L a.1).2) :: r) M) ∨ o cl ls st M = none) (hd : decode (eb_b m) pc = .ok (.arraylength, 1)) : eb_Snd L q0 m pc lg o := by
  refine eb_Snd_of (fun cl ls st M _ => ?_) (fun cl ls st M r hr => ?_) (fun l d ls st M s' hs _ => ?_)
  · rcases ho cl ls st M with ⟨a, r, -, -, e⟩ | e <;> rw [e]
    · exact ⟨Nat.le_refl _, Nat.le_refl _⟩
    · trivial
  · rcases ho cl ls st M with ⟨a, r, -, -, e⟩ | e <;> rw [e] at hr <;> cases hr
  · rcases ho (eb_ev L d) ls st M with ⟨a, r, rfl, h1, e⟩ | e <;> rw [e] at hs <;> cases hs
    refine er_st (fun z hz => ?_) (fun p e R s mt args below meth c Q cells slots φ arr H locs hC hA k => ?_)
    · rcases List.mem_cons.mp hz with rfl | hz
      · exact Or.inr (Or.inr (Or.inl ⟨_, rfl⟩))
      · exact Or.inl (List.mem_cons_of_mem _ hz)
    · obtain ⟨n, hn, rfl⟩ := eb_ok_dom (hA.2.2.2.2.2.1 _ List.mem_cons_self a rfl) (L := L) (by omega)
      have hcell := hA.1.1 n hn
      rcases ht with rfl | rfl
      · rw [h1, eb_cell_I] at hcell
        obtain ⟨cA, g1, g2⟩ := hcell
        refine W.alen hC.1 hC.2.1 g2 (g1 _ _) (n := nI (eb_ty L (eb_nm n).1).2) ?_ rfl rfl hd k
        rw [arrV_size]
        rfl
      · rw [h1, eb_cell_S] at hcell
        obtain ⟨scr, g1, g2, g3, g4, g5⟩ := hcell
        refine W.alen hC.1 hC.2.1 g1 g2 (n := nI (eb_ty L (eb_nm n).1).2) ?_ rfl rfl hd k
        rw [g4]
        rfl
theorem sn_alen (hd : decode (eb_b m) pc = .ok (.arraylength, 1)) : eb_Snd L q0 m pc lg (op_alen L (pc + 1)) := by
  refine sn_alen' (t := 10) (Or.inl rfl) (fun cl ls st M => ?_) hd
  rcases st with _ | ⟨(x | x) | (_ | a), r⟩ <;> try exact Or.inr rfl
  by_cases h : (eb_ty L a.1).1 = 10
  · exact Or.inl ⟨a, r, rfl, h, by simp only [op_alen, h, if_true]⟩
  · exact Or.inr (by simp only [op_alen, h, if_false])
theorem sn_slen (hd : decode (eb_b m) pc = .ok (.arraylength, 1)) : eb_Snd L q0 m pc lg (op_slen L (pc + 1)) := by
  refine sn_alen' (t := 17) (Or.inr rfl) (fun cl ls st M => ?_) hd
  rcases st with _ | ⟨(x | x) | (_ | a), r⟩ <;> try exact Or.inr rfl
  by_cases h : (eb_ty L a.1).1 = 17
  · exact Or.inl ⟨a, r, rfl, h, by simp only [op_slen, h, if_true]⟩
  · exact Or.inr (by simp only [op_slen, h, if_false])
theorem sn_iast (hd : decode (eb_b m) pc = .ok (.iastore, 1)) : eb_Snd L q0 m pc lg (op_iast L (pc + 1)) := by
  have ho : ∀ cl ls st M, (∃ v x a r, st = zi v :: zi x :: zr a :: r ∧ (eb_ty L a.1).1 = 10 ∧ eb_in x (eb_ty L a.1).2 = true ∧ op_iast L (pc + 1) cl ls st M = eb_go (pc + 1) ls r (M.1, M.2.1, eb_u M.2.2.1 a x.toNatClampNeg v, M.2.2.2.1, M.2.2.2.2)) ∨ op_iast L (pc + 1) cl ls st M = none := by
    intro cl ls st M
    rcases st with _ | ⟨(v | v) | v, _ | ⟨(x | x) | x, _ | ⟨y | (_ | a), r⟩⟩⟩ <;> try exact Or.inr rfl
    by_cases h : (eb_ty L a.1).1 = 10 ∧ eb_in x (eb_ty L a.1).2 = true
    · exact Or.inl ⟨v, x, a, r, rfl, h.1, h.2, by simp only [op_iast, h, and_self, if_true]⟩
    · exact Or.inr (by simp only [op_iast, h, if_false])
  refine eb_Snd_of (fun cl ls st M _ => ?_) (fun cl ls st M r h => ?_) (fun l d ls st M s' hs _ => ?_)
  · rcases ho cl ls st M with ⟨v, x, a, r, -, -, -, e⟩ | e <;> rw [e]
    · exact ⟨Nat.le_refl _, Nat.le_refl _⟩
    · trivial
  · rcases ho cl ls st M with ⟨v, x, a, r, -, -, -, e⟩ | e <;> rw [e] at h <;> cases h
  · rcases ho (eb_ev L d) ls st M with ⟨v, x, a, r, rfl, h1, h2, e⟩ | e <;> rw [e] at hs <;> cases hs
    intro p e R s mt args below meth c Q kc ks φ hC _ _ _ _ kk arr H locs hA
    obtain ⟨n, hn, rfl⟩ := eb_ok_dom (hA.2.2.2.2.2.1 _ (List.mem_cons_of_mem _ (List.mem_cons_of_mem _ List.mem_cons_self)) a rfl) (L := L) (by omega)
    have hcell := hA.1.1 n hn
    rw [h1, eb_cell_I] at hcell
    obtain ⟨cA, g1, g2⟩ := hcell
    refine W.iast hC.1 hC.2.1 g2 (g1 _ _) (fun q => by cases q) (by rw [arrV_size]; exact eb_in_v h2) rfl rfl hd fun H1 e1 hz hq => ?_
    refine kk φ (fun _ _ => rfl) arr H1 _ (er_wr hA (fun w hw => List.mem_cons_of_mem _ (List.mem_cons_of_mem _ (List.mem_cons_of_mem _ hw))) rfl ?_ hz hq (hA.1.2.2.2.1 n hn (by omega)))
    refine eb_Wd_put hA.1 hn rfl (fun b l hb => eb_u_ne hb) (fun b l hb => rfl) (fun b l hb => rfl) hz hq ?_ (fun l b hb e => hA.1.2.2.1 n l b hn hb e)
    rw [h1, eb_cell_I]
    refine ⟨cA, g1, ?_⟩
    rw [e1, arrV_store]
    refine congrArg some (arrV_congr fun k _ => ?_)
    by_cases e : k = x.toNatClampNeg <;> simp [updV, eb_u, e]
theorem sn_last (hd : decode (eb_b m) pc = .ok (.lastore, 1)) : eb_Snd L q0 m pc lg (op_last L (pc + 1)) := by
  have ho : ∀ cl ls st M, (∃ v x a r, st = zl v :: zi x :: zr a :: r ∧ (eb_ty L a.1).1 = 11 ∧ eb_in x (eb_ty L a.1).2 = true ∧ op_last L (pc + 1) cl ls st M = eb_go (pc + 1) ls r (M.1, M.2.1, M.2.2.1, eb_u M.2.2.2.1 a x.toNatClampNeg v, M.2.2.2.2)) ∨ op_last L (pc + 1) cl ls st M = none := by
    intro cl ls st M
    rcases st with _ | ⟨(v | v) | v, _ | ⟨(x | x) | x, _ | ⟨y | (_ | a), r⟩⟩⟩ <;> try exact Or.inr rfl
    by_cases h : (eb_ty L a.1).1 = 11 ∧ eb_in x (eb_ty L a.1).2 = true
    · exact Or.inl ⟨v, x, a, r, rfl, h.1, h.2, by simp only [op_last, h, and_self, if_true]⟩
    · exact Or.inr (by simp only [op_last, h, if_false])
  refine eb_Snd_of (fun cl ls st M _ => ?_) (fun cl ls st M r h => ?_) (fun l d ls st M s' hs _ => ?_)
  · rcases ho cl ls st M with ⟨v, x, a, r, -, -, -, e⟩ | e <;> rw [e]
    · exact ⟨Nat.le_refl _, Nat.le_refl _⟩
    · trivial
  · rcases ho cl ls st M with ⟨v, x, a, r, -, -, -, e⟩ | e <;> rw [e] at h <;> cases h
  · rcases ho (eb_ev L d) ls st M with ⟨v, x, a, r, rfl, h1, h2, e⟩ | e <;> rw [e] at hs <;> cases hs
    intro p e R s mt args below meth c Q kc ks φ hC _ _ _ _ kk arr H locs hA
    obtain ⟨n, hn, rfl⟩ := eb_ok_dom (hA.2.2.2.2.2.1 _ (List.mem_cons_of_mem _ (List.mem_cons_of_mem _ List.mem_cons_self)) a rfl) (L := L) (by omega)
    have hcell := hA.1.1 n hn
    rw [h1, eb_cell_J] at hcell
    obtain ⟨cA, g1, g2⟩ := hcell
    refine W.last hC.1 hC.2.1 g2 (g1 _ _) (fun q => by cases q) (by rw [arrV_size]; exact eb_in_v h2) rfl rfl hd fun H1 e1 hz hq => ?_
    refine kk φ (fun _ _ => rfl) arr H1 _ (er_wr hA (fun w hw => List.mem_cons_of_mem _ (List.mem_cons_of_mem _ (List.mem_cons_of_mem _ hw))) rfl ?_ hz hq (hA.1.2.2.2.1 n hn (by omega)))
    refine eb_Wd_put hA.1 hn rfl (fun b l hb => rfl) (fun b l hb => eb_u_ne hb) (fun b l hb => rfl) hz hq ?_ (fun l b hb e => hA.1.2.2.1 n l b hn hb e)
    rw [h1, eb_cell_J]
    refine ⟨cA, g1, ?_⟩
    rw [e1, arrV_store]
    refine congrArg some (arrV_congr fun k _ => ?_)
    by_cases e : k = x.toNatClampNeg <;> simp [updV, eb_u, e]
theorem sn_aast (hd : decode (eb_b m) pc = .ok (.aastore, 1)) : eb_Snd L q0 m pc lg (op_aast L (pc + 1)) := by
  have ho : ∀ cl ls st M, (∃ b x a r, st = zr b :: zi x :: zr a :: r ∧ (eb_ty L b.1).1 = eb_el (eb_ty L a.1).1 ∧ eb_in x (eb_ty L a.1).2 = true ∧ op_aast L (pc + 1) cl ls st M = eb_go (pc + 1) ls r (M.1, M.2.1, M.2.2.1, M.2.2.2.1, eb_u M.2.2.2.2 a x.toNatClampNeg (some b))) ∨ op_aast L (pc + 1) cl ls st M = none := by
    intro cl ls st M
    rcases st with _ | ⟨v | (_ | b), _ | ⟨(x | x) | x, _ | ⟨y | (_ | a), r⟩⟩⟩ <;> try exact Or.inr rfl
    by_cases h : (eb_ty L b.1).1 = eb_el (eb_ty L a.1).1 ∧ eb_in x (eb_ty L a.1).2 = true
    · exact Or.inl ⟨b, x, a, r, rfl, h.1, h.2, by simp only [op_aast, h, and_self, if_true]⟩
    · exact Or.inr (by simp only [op_aast, h, if_false])
  refine eb_Snd_of (fun cl ls st M _ => ?_) (fun cl ls st M r h => ?_) (fun l d ls st M s' hs _ => ?_)
  · rcases ho cl ls st M with ⟨b, x, a, r, -, -, -, e⟩ | e <;> rw [e]
    · exact ⟨Nat.le_refl _, Nat.le_refl _⟩
    · trivial
  · rcases ho cl ls st M with ⟨b, x, a, r, -, -, -, e⟩ | e <;> rw [e] at h <;> cases h
  · rcases ho (eb_ev L d) ls st M with ⟨b, x, a, r, rfl, h1, h2, e⟩ | e <;> rw [e] at hs <;> cases hs
    intro p e R s mt args below meth c Q kc ks φ hC _ _ _ _ kk arr H locs hA
    have hbk := hA.2.2.2.2.2.1 (zr b) List.mem_cons_self
    have hel : ∀ t, eb_el t < 7 ∨ eb_el t = 98 := by intro t; unfold eb_el; split <;> simp
    have hel2 : ∀ t, eb_el t < 7 → 12 ≤ t ∧ t ≤ 16 ∧ eb_et t = .object (eb_cN (eb_el t)) := by
      intro t ht
      unfold eb_el at ht
      split at ht
      · exact ⟨by omega, by omega, rfl⟩
      · exact ⟨by omega, by omega, rfl⟩
      · exact ⟨by omega, by omega, rfl⟩
      · omega
    obtain ⟨nb, hnb, rfl⟩ := eb_ok_dom (hbk b rfl) (L := L) (by rcases hel (eb_ty L a.1).1 with q | q <;> omega)
    have hcb := hA.1.1 nb hnb
    rw [h1] at hcb
    rcases hel (eb_ty L a.1).1 with h7 | h7
    · obtain ⟨t1, t2, t3⟩ := hel2 _ h7
      obtain ⟨n, hn, rfl⟩ := eb_ok_dom (hA.2.2.2.2.2.1 _ (List.mem_cons_of_mem _ (List.mem_cons_of_mem _ List.mem_cons_self)) a rfl) (L := L) (by omega)
      have hcell := hA.1.1 n hn
      rw [eb_cell_R ⟨t1, t2⟩] at hcell
      obtain ⟨cA, g1, g2, g3⟩ := hcell
      rw [eb_cell_obj h7] at hcb
      obtain ⟨cC, iS, ⟨-, hcls⟩, cellV, v1, v2, v3, -⟩ := hcb
      rw [t3] at g2
      obtain ⟨kA, comp, k1, k2, k3, k4⟩ := g2
      have hcomp : comp = cC := Option.some.inj (k3.symm.trans hcls.1)
      subst hcomp
      obtain ⟨kC, hkC, -⟩ := hcls.2
      refine W.aast hC.1 hC.2.1 g3 (fun q h => by cases h) (fun h => by cases h) k1 k2 rfl hkC ⟨fun q => eb_in_v h2 (Or.inl q), by rw [arrV_size]; exact eb_in_lt h2⟩ v1 (fun q h => by rw [v3] at h; cases h) (by rw [v2]; exact hkC) (by rw [v2]; exact va_assign hcls) rfl rfl hd fun H1 e1 hz hq => ?_
      refine kk φ (fun _ _ => rfl) arr H1 _ (er_wr hA (fun w hw => List.mem_cons_of_mem _ (List.mem_cons_of_mem _ (List.mem_cons_of_mem _ hw))) rfl ?_ hz hq (hA.1.2.2.2.1 n hn (by omega)))
      refine eb_Wd_put hA.1 hn rfl (fun b l hb => rfl) (fun b l hb => rfl) (fun b l hb => eb_u_ne hb) hz hq ?_ (fun l b hb e => ?_)
      · rw [eb_cell_R ⟨t1, t2⟩]
        refine ⟨cA, g1, by rw [t3]; exact ⟨kA, comp, k1, k2, k3, k4⟩, ?_⟩
        rw [e1, arrV_store]
        refine congrArg some (arrV_congr fun k _ => ?_)
        by_cases e : k = x.toNatClampNeg <;> simp [updV, eb_u, e, va_rf]
      · by_cases e2 : l = x.toNatClampNeg
        · subst e2
          have e3 : some (eb_nm nb) = some b := by rw [← e]; simp [eb_u]
          exact hbk b (by rw [← Option.some.inj e3])
        · refine hA.1.2.2.1 n l b hn hb ?_
          rw [← e]
          simp [eb_u, e2]
    · exfalso
      rw [h7] at hcb
      exact hcb.elim
end

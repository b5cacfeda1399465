/-! the operations are sound: what is made -/
section
variable {L q0 m pc : Nat} {lg : Nat → Bool}
theorem eb_cn_ok {φ φ' : eb_A → Nat} {nc : Nat} (h : ∀ a, eb_ok nc a → φ' a = φ a) {v : eb_V} (hv : eb_okV nc v) : eb_cn φ' v = eb_cn φ v := by
  rcases v with (x | x) | (_ | a)
  · rfl
  · rfl
  · rfl
  · show Value.ref (φ' a) = Value.ref (φ a)
    rw [h a (hv a rfl)]
theorem eb_map_ok {φ φ' : eb_A → Nat} {nc : Nat} (h : ∀ a, eb_ok nc a → φ' a = φ a) {vs : List eb_V} (hv : ∀ v ∈ vs, eb_okV nc v) : vs.map (eb_cn φ') = vs.map (eb_cn φ) := List.map_congr_left fun v hm => eb_cn_ok h (hv v hm)
/-- the names grow: the rest of a state goes along -/
theorem er_grow {φ φ' : eb_A → Nat} {s : State} {nL : Nat} {ls : List (Option eb_V)} {st st1 : List eb_V} {M M1 : eb_M} {arr : Array Slot} {H H1 : Heap} {locs : List Loc} (hA : eb_At L q0 φ s nL lg ls st M arr H locs) (hφ : ∀ a, eb_ok M.1 a → φ' a = φ a) (hc : M.1 ≤ M1.1) (hW : eb_Wd L q0 φ' M1 s H1) (hz : H.size ≤ H1.size) (ho : ∀ q : Nat, q < H.size → H1[q]? = H[q]?) (hst : ∀ w ∈ st1, eb_okV M1.1 w) : eb_At L q0 φ' s nL lg ls st1 M1 arr H1 locs := by
  obtain ⟨a1, a2, a3, a4, a5, a6, a7⟩ := hA
  refine ⟨hW, eb_Kn_kept (fun i hi => hφ _ (Or.inr ⟨rfl, hi, rfl⟩)) (fun q hq _ => ho q hq) a2, ⟨a3.1, fun i v hv => ?_⟩, a4, fun v hv => eb_okV_mono hc (a5 v hv), hst, ⟨Nat.le_trans a7.1 hz, fun q h1 h2 => (ho q (Nat.lt_of_lt_of_le h1 a7.1)).trans (a7.2.1 q h1 h2), a7.2.2⟩⟩
  rw [eb_cn_ok hφ (a5 v (List.mem_of_getElem? hv))]
  exact a3.2 i v hv
def eb_ph (φ : eb_A → Nat) (a : eb_A) (q : Nat) : eb_A → Nat := fun b => if b = a then q else φ b
theorem eb_ph_ok {φ : eb_A → Nat} {nc q : Nat} : ∀ a, eb_ok nc a → eb_ph φ (eb_nm nc) q a = φ a := by
  intro a ha
  unfold eb_ph
  rw [if_neg fun e => eb_ok_new (Nat.le_refl nc) (by rw [← e]; exact ha)]
/-- one new cell -/
theorem er_one {φ : eb_A → Nat} {s : State} {nL : Nat} {ls : List (Option eb_V)} {st r : List eb_V} {M M1 : eb_M} {arr : Array Slot} {H H1 : Heap} {locs : List Loc} (hA : eb_At L q0 φ s nL lg ls st M arr H locs) (hr : ∀ v ∈ r, v ∈ st) (hc : M1.1 = M.1 + 1)
    (hI : ∀ b j, ¬ b = eb_nm M.1 → M1.2.2.1 b j = M.2.2.1 b j) (hJ : ∀ b j, ¬ b = eb_nm M.1 → M1.2.2.2.1 b j = M.2.2.2.1 b j) (hR : ∀ b j, ¬ b = eb_nm M.1 → M1.2.2.2.2 b j = M.2.2.2.2 b j)
    (hz : H1.size = H.size + 1) (ho : ∀ q : Nat, q < H.size → H1[q]? = H[q]?) (hcell : eb_cell s (eb_ph φ (eb_nm M.1) H.size) M1 (eb_ty L (eb_nm M.1).1).1 (eb_ty L (eb_nm M.1).1).2 (eb_nm M.1) H1)
    (hn : ∀ j, eb_rw (eb_ty L (eb_nm M.1).1).1 (eb_ty L (eb_nm M.1).1).2 j → M1.2.2.2.2 (eb_nm M.1) j = none) : eb_At L q0 (eb_ph φ (eb_nm M.1) H.size) s nL lg ls (zr (eb_nm M.1) :: r) M1 arr H1 locs ∧ (zr (eb_nm M.1) :: r).map (eb_cn (eb_ph φ (eb_nm M.1) H.size)) = .ref H.size :: r.map (eb_cn φ) := by
  have hne : ∀ n, n < M.1 → ¬ eb_nm n = eb_nm M.1 := fun n hn e => by have := eb_nm_inj e; omega
  have hps : eb_ph φ (eb_nm M.1) H.size (eb_nm M.1) = H.size := if_pos rfl
  refine ⟨er_grow hA eb_ph_ok (by omega) (eb_Wd_grow hA.1 (by omega) eb_ph_ok (fun n j hn => hI _ j (hne n hn)) (fun n j hn => hJ _ j (hne n hn)) (fun n j hn => hR _ j (hne n hn)) (by omega) ho fun n h1 h2 => ?_) (by omega) ho fun w hw => ?_, ?_⟩
  · have e : n = M.1 := by omega
    subst e
    refine ⟨hcell, by rw [hps]; omega, fun j b hw e => ?_⟩
    rw [hn j hw] at e
    cases e
  · rcases List.mem_cons.mp hw with rfl | hw
    · intro a ha
      cases ha
      exact Or.inl ⟨M.1, by omega, rfl⟩
    · exact eb_okV_mono (by omega) (hA.2.2.2.2.2.1 w (hr w hw))
  · rw [List.map_cons, eb_map_ok eb_ph_ok (fun v hv => hA.2.2.2.2.2.1 v (hr v hv))]
    show Value.ref _ :: _ = _
    rw [hps]
theorem eb_inst : ∀ c, c < 7 → Cond.instantiable (eb_cN c) (eb_nf c) ∈ eb_LT := by
  have key : ∀ c, c < 7 → (decide (Cond.instantiable (eb_cN c) (eb_nf c) ∈ lw_tbl) && goodWord (Cond.instantiable (eb_cN c) (eb_nf c))) = true := by decide +kernel
  intro c hc
  have h := key c hc
  simp only [Bool.and_eq_true, decide_eq_true_eq] at h
  exact List.mem_filter.mpr h
theorem eb_init : ∀ c, c < 7 → Cond.initialized (eb_cN c) ∈ eb_LT := by
  have key : ∀ c, c < 7 → (decide (Cond.initialized (eb_cN c) ∈ lw_tbl) && goodWord (Cond.initialized (eb_cN c))) = true := by decide +kernel
  intro c hc
  have h := key c hc
  simp only [Bool.and_eq_true, decide_eq_true_eq] at h
  exact List.mem_filter.mpr h
/-- the fields of a new object: each int 0, each reference null -/
theorem eb_dflt : ∀ c, c < 7 → ∀ j, j < eb_nf c → defaultValue (eb_tt c j) = if (eb_tt c j).isReference = true then .null else .int 0 := by decide +kernel
theorem sn_new {ix ci n : Nat} (hci : ci < 7) (hnf : n = eb_nf ci) (hw : Cond.classLink (eb_own m) ix (eb_cN ci) ∈ eb_LT) (hd : decode (eb_b m) pc = .ok (.new ix, 3)) : eb_Snd L q0 m pc lg (op_new L ci n (pc + 3)) := by
  subst hnf
  have ho : ∀ cl ls st M, ((eb_ty L (eb_nm M.1).1).1 = ci ∧ op_new L ci (eb_nf ci) (pc + 3) cl ls st M = eb_go (pc + 3) ls (zr (eb_nm M.1) :: st) (M.1 + 1, M.2.1 + eb_nf ci, eb_zI M.2.2.1 (eb_nm M.1), M.2.2.2.1, eb_zR M.2.2.2.2 (eb_nm M.1) (eb_nf ci))) ∨ op_new L ci (eb_nf ci) (pc + 3) cl ls st M = none := by
    intro cl ls st M
    by_cases h : (eb_ty L (eb_nm M.1).1).1 = ci
    · exact Or.inl ⟨h, by simp only [op_new, h, if_true]⟩
    · exact Or.inr (by simp only [op_new, h, if_false])
  refine eb_Snd_of (fun cl ls st M _ => ?_) (fun cl ls st M r h => ?_) (fun l d ls st M s' hs _ => ?_)
  · rcases ho cl ls st M with ⟨-, e⟩ | e <;> rw [e]
    · exact ⟨Nat.le_add_right _ _, Nat.le_add_right _ _⟩
    · trivial
  · rcases ho cl ls st M with ⟨-, e⟩ | e <;> rw [e] at h <;> cases h
  · rcases ho (eb_ev L d) ls st M with ⟨h1, ee⟩ | ee <;> rw [ee] at hs <;> cases hs
    intro p e R s mt args below meth c Q kc ks φ hC hk1 hk2 hk3 hk4 kk arr H locs hA
    have hts := hC.2.2.2.2.1
    obtain ⟨cC, iS, hKn⟩ := u_known hts (eb_hin ci hci) (hts _ (eb_inst ci hci))
    dsimp only at hk3 hk4
    refine W.newcK hC.1 hC.2.1 hC.2.2.2.1 (hts _ hw) (hts _ (eb_inst ci hci)) (hts _ (eb_init ci hci)) rfl hd (by omega) (by omega) hKn.2.1 rfl fun H1 kC hkC e1 z1 o1 => ?_
    have hOB := u_born (eb_tt ci) hts (eb_hin ci hci) hKn hkC e1 (eb_hty ci hci)
    obtain ⟨g1, g2⟩ := er_one (M1 := (M.1 + 1, M.2.1 + eb_nf ci, eb_zI M.2.2.1 (eb_nm M.1), M.2.2.2.1, eb_zR M.2.2.2.2 (eb_nm M.1) (eb_nf ci))) (H1 := H1) hA (fun v hv => hv) rfl (fun b j hb => if_neg hb) (fun b j hb => rfl) (fun b j hb => if_neg fun q => hb q.1) z1 o1 (by
      rw [h1, eb_cell_obj hci]
      refine ⟨cC, iS, hKn, ?_⟩
      have hps : eb_ph φ (eb_nm M.1) H.size (eb_nm M.1) = H.size := if_pos rfl
      rw [hps]
      refine hOB.to fun j hj => ?_
      rw [eb_dflt ci hci j hj]
      unfold eb_fv
      split
      · simp [eb_zR, hj, va_rf]
      · simp [eb_zI]) (fun j hw => by
      rw [h1] at hw
      rcases hw with ⟨-, hj, -⟩ | ⟨h12, -⟩
      · simp [eb_zR, hj]
      · omega)
    have hk := kk _ (fun a ha => eb_ph_ok a ha) arr H1 locs g1
    rw [g2] at hk
    dsimp only at hk
    rw [show M.1 - kc + 1 = M.1 + 1 - kc by omega, show M.2.1 - ks + eb_nf ci = M.2.1 + eb_nf ci - ks by omega]
    exact hk
/-- a new row -/
theorem er_row {l : Launch} {d : Nat} {x : Int32} {ls : List (Option eb_V)} {r : List eb_V} {M M1 : eb_M} {nx : Nat} (hc : M1.1 = M.1 + 1) (hs : M1.2.1 = M.2.1 + x.toNatClampNeg) (hx : ¬ x < 0) (hx2 : x.toNatClampNeg ≤ 1000)
    (hI : ∀ b j, ¬ b = eb_nm M.1 → M1.2.2.1 b j = M.2.2.1 b j) (hJ : ∀ b j, ¬ b = eb_nm M.1 → M1.2.2.2.1 b j = M.2.2.2.1 b j) (hR : ∀ b j, ¬ b = eb_nm M.1 → M1.2.2.2.2 b j = M.2.2.2.2 b j) (hn : ∀ j, eb_rw (eb_ty L (eb_nm M.1).1).1 (eb_ty L (eb_nm M.1).1).2 j → M1.2.2.2.2 (eb_nm M.1) j = none)
    (h : ∀ (p : Program) (e : Env) (R : Room) (s : State) (mt : MethodId) (args : Array Value) (below : List Frame) (meth : Method) (c : Code) (Q : State → Prop) (cells slots : Nat) (φ : eb_A → Nat) (arr : Array Slot) (H : Heap) (locs : List Loc) (rest : List Value), eb_Cx q0 d p R s mt args meth c m → eb_Kn q0 φ s H → cells + 1 ≤ R.cells → slots + x.toNatClampNeg ≤ R.slots →
      (∀ H1 : Heap, H1.size = H.size + 1 → (∀ q : Nat, q < H.size → H1[q]? = H[q]?) → (∀ φ', φ' (eb_nm M.1) = H.size → eb_cell s φ' M1 (eb_ty L (eb_nm M.1).1).1 (eb_ty L (eb_nm M.1).1).2 (eb_nm M.1) H1) → W p l e R s mt args below meth c H1 locs (cells + 1) (slots + x.toNatClampNeg) Q (F0 mt nx arr (.ref H.size :: rest))) → W p l e R s mt args below meth c H locs cells slots Q (F0 mt pc arr (.int x :: rest))) : eb_Nx L q0 m pc lg l d ls (zi x :: r) M (nx, ls, zr (eb_nm M.1) :: r, M1) := by
  intro p e R s mt args below meth c Q kc ks φ hC hk1 hk2 hk3 hk4 kk arr H locs hA
  dsimp only at hk3 hk4
  refine h p e R s mt args below meth c Q _ _ φ arr H locs _ hC hA.2.1 (by omega) (by omega) fun H1 z1 o1 hcell => ?_
  obtain ⟨g1, g2⟩ := er_one (M1 := M1) (H1 := H1) hA (r := r) (fun v hv => List.mem_cons_of_mem _ hv) hc hI hJ hR z1 o1 (hcell _ (if_pos rfl)) hn
  have hk := kk _ (fun a ha => eb_ph_ok a ha) arr H1 locs g1
  rw [g2] at hk
  dsimp only at hk
  rw [hc, hs] at hk
  rw [show M.1 - kc + 1 = M.1 + 1 - kc by omega, show M.2.1 - ks + x.toNatClampNeg = M.2.1 + x.toNatClampNeg - ks by omega]
  exact hk
theorem eb_aI : Cond.arrayClass .int ∈ eb_LT := List.mem_filter.mpr ⟨by decide +kernel, rfl⟩
theorem eb_aJ : Cond.arrayClass .long ∈ eb_LT := List.mem_filter.mpr ⟨by decide +kernel, rfl⟩
theorem sn_newI (hd : decode (eb_b m) pc = .ok (.newarray .int, 2)) : eb_Snd L q0 m pc lg (op_newI L (pc + 2)) := by
  have ho : ∀ cl ls st M, (∃ x r, st = zi x :: r ∧ (eb_ty L (eb_nm M.1).1 = (10, x.toNatClampNeg) ∧ ¬ x < 0 ∧ x.toNatClampNeg ≤ 1000) ∧ op_newI L (pc + 2) cl ls st M = eb_go (pc + 2) ls (zr (eb_nm M.1) :: r) (M.1 + 1, M.2.1 + x.toNatClampNeg, eb_zI M.2.2.1 (eb_nm M.1), M.2.2.2.1, M.2.2.2.2)) ∨ op_newI L (pc + 2) cl ls st M = none := by
    intro cl ls st M
    rcases st with _ | ⟨(x | x) | x, r⟩ <;> try exact Or.inr rfl
    by_cases h : eb_ty L (eb_nm M.1).1 = (10, x.toNatClampNeg) ∧ ¬ x < 0 ∧ x.toNatClampNeg ≤ 1000
    · exact Or.inl ⟨x, r, rfl, h, by simp only [op_newI, h, and_self, if_true, not_false_eq_true]⟩
    · exact Or.inr (by simp only [op_newI, h, if_false])
  refine eb_Snd_of (fun cl ls st M _ => ?_) (fun cl ls st M r h => ?_) (fun l d ls st M s' hs _ => ?_)
  · rcases ho cl ls st M with ⟨x, r, -, -, e⟩ | e <;> rw [e]
    · exact ⟨Nat.le_add_right _ _, Nat.le_add_right _ _⟩
    · trivial
  · rcases ho cl ls st M with ⟨x, r, -, -, e⟩ | e <;> rw [e] at h <;> cases h
  · rcases ho (eb_ev L d) ls st M with ⟨x, r, rfl, ⟨h1, h2, h3⟩, ee⟩ | ee <;> rw [ee] at hs <;> cases hs
    refine er_row rfl rfl h2 h3 (fun b j hb => if_neg hb) (fun b j hb => rfl) (fun b j hb => rfl) (fun j hw => ?_) (fun p e R s mt args below meth c Q cells slots φ arr H locs rest hC hK hc hsl k => ?_)
    · rw [h1] at hw
      rcases hw with ⟨q, -⟩ | ⟨q, -⟩ <;> dsimp only at q <;> omega
    · refine va_newaK hC.1 hC.2.1 (atype := .int) (hC.2.2.2.2.1 _ eb_aI) rfl hd rfl h2 rfl ?_ hc hsl rfl fun H1 cA e1 z1 o1 hAr _ => k H1 z1 o1 fun φ' hφ => ?_
      · show x.toNatClampNeg * 4 ≤ 536870912
        omega
      · rw [h1, eb_cell_I]
        refine ⟨cA, hAr, ?_⟩
        rw [hφ, e1]
        exact congrArg some (arrV_congr fun j _ => by simp [eb_zI, newarray.typeOf, defaultValue])
theorem sn_newJ (hd : decode (eb_b m) pc = .ok (.newarray .long, 2)) : eb_Snd L q0 m pc lg (op_newJ L (pc + 2)) := by
  have ho : ∀ cl ls st M, (∃ x r, st = zi x :: r ∧ (eb_ty L (eb_nm M.1).1 = (11, x.toNatClampNeg) ∧ ¬ x < 0 ∧ x.toNatClampNeg ≤ 1000) ∧ op_newJ L (pc + 2) cl ls st M = eb_go (pc + 2) ls (zr (eb_nm M.1) :: r) (M.1 + 1, M.2.1 + x.toNatClampNeg, M.2.2.1, eb_zJ M.2.2.2.1 (eb_nm M.1), M.2.2.2.2)) ∨ op_newJ L (pc + 2) cl ls st M = none := by
    intro cl ls st M
    rcases st with _ | ⟨(x | x) | x, r⟩ <;> try exact Or.inr rfl
    by_cases h : eb_ty L (eb_nm M.1).1 = (11, x.toNatClampNeg) ∧ ¬ x < 0 ∧ x.toNatClampNeg ≤ 1000
    · exact Or.inl ⟨x, r, rfl, h, by simp only [op_newJ, h, and_self, if_true, not_false_eq_true]⟩
    · exact Or.inr (by simp only [op_newJ, h, if_false])
  refine eb_Snd_of (fun cl ls st M _ => ?_) (fun cl ls st M r h => ?_) (fun l d ls st M s' hs _ => ?_)
  · rcases ho cl ls st M with ⟨x, r, -, -, e⟩ | e <;> rw [e]
    · exact ⟨Nat.le_add_right _ _, Nat.le_add_right _ _⟩
    · trivial
  · rcases ho cl ls st M with ⟨x, r, -, -, e⟩ | e <;> rw [e] at h <;> cases h
  · rcases ho (eb_ev L d) ls st M with ⟨x, r, rfl, ⟨h1, h2, h3⟩, ee⟩ | ee <;> rw [ee] at hs <;> cases hs
    refine er_row rfl rfl h2 h3 (fun b j hb => rfl) (fun b j hb => if_neg hb) (fun b j hb => rfl) (fun j hw => ?_) (fun p e R s mt args below meth c Q cells slots φ arr H locs rest hC hK hc hsl k => ?_)
    · rw [h1] at hw
      rcases hw with ⟨q, -⟩ | ⟨q, -⟩ <;> dsimp only at q <;> omega
    · refine va_newaK hC.1 hC.2.1 (atype := .long) (hC.2.2.2.2.1 _ eb_aJ) rfl hd rfl h2 rfl ?_ hc hsl rfl fun H1 cA e1 z1 o1 hAr _ => k H1 z1 o1 fun φ' hφ => ?_
      · show x.toNatClampNeg * 8 ≤ 536870912
        omega
      · rw [h1, eb_cell_J]
        refine ⟨cA, hAr, ?_⟩
        rw [hφ, e1]
        exact congrArg some (arrV_congr fun j _ => by simp [eb_zJ, newarray.typeOf, defaultValue])
theorem sn_newA {t ix : Nat} (ht : t = 12 ∨ t = 13 ∨ t = 14) (hw : Cond.classLink (eb_own m) ix (eb_cN (eb_el t)) ∈ eb_LT) (hd : decode (eb_b m) pc = .ok (.anewarray ix, 3)) : eb_Snd L q0 m pc lg (op_newA L t (pc + 3)) := by
  have ho : ∀ cl ls st M, (∃ x r, st = zi x :: r ∧ (eb_ty L (eb_nm M.1).1 = (t, x.toNatClampNeg) ∧ ¬ x < 0 ∧ x.toNatClampNeg ≤ 1000) ∧ op_newA L t (pc + 3) cl ls st M = eb_go (pc + 3) ls (zr (eb_nm M.1) :: r) (M.1 + 1, M.2.1 + x.toNatClampNeg, M.2.2.1, M.2.2.2.1, eb_zR M.2.2.2.2 (eb_nm M.1) x.toNatClampNeg)) ∨ op_newA L t (pc + 3) cl ls st M = none := by
    intro cl ls st M
    rcases st with _ | ⟨(x | x) | x, r⟩ <;> try exact Or.inr rfl
    by_cases h : eb_ty L (eb_nm M.1).1 = (t, x.toNatClampNeg) ∧ ¬ x < 0 ∧ x.toNatClampNeg ≤ 1000
    · exact Or.inl ⟨x, r, rfl, h, by simp only [op_newA, h, and_self, if_true, not_false_eq_true]⟩
    · exact Or.inr (by simp only [op_newA, h, if_false])
  refine eb_Snd_of (fun cl ls st M _ => ?_) (fun cl ls st M r h => ?_) (fun l d ls st M s' hs _ => ?_)
  · rcases ho cl ls st M with ⟨x, r, -, -, e⟩ | e <;> rw [e]
    · exact ⟨Nat.le_add_right _ _, Nat.le_add_right _ _⟩
    · trivial
  · rcases ho cl ls st M with ⟨x, r, -, -, e⟩ | e <;> rw [e] at h <;> cases h
  · rcases ho (eb_ev L d) ls st M with ⟨x, r, rfl, ⟨h1, h2, h3⟩, ee⟩ | ee <;> rw [ee] at hs <;> cases hs
    refine er_row rfl rfl h2 h3 (fun b j hb => rfl) (fun b j hb => rfl) (fun b j hb => if_neg fun q => hb q.1) (fun j hw => ?_) (fun p e R s mt args below meth c Q cells slots φ arr H locs rest hC hK hc hsl k => ?_)
    · rw [h1] at hw
      rcases hw with ⟨q, -⟩ | ⟨-, -, q⟩
      · dsimp only at q; omega
      · dsimp only at q
        show eb_zR _ _ _ _ _ = _
        unfold eb_zR
        rw [if_pos ⟨rfl, q⟩]
    · have hov : (Cond.arrayOver (.object (eb_cN (eb_el t)))).before args s = true := by
        rcases ht with rfl | rfl | rfl
        · exact va_AO.use hK.2.1.1
        · exact va_AO.use hK.2.1.2.1
        · exact va_AO.use hK.2.1.2.2
      have het : eb_et t = .object (eb_cN (eb_el t)) := by rcases ht with rfl | rfl | rfl <;> rfl
      refine W.anew hC.1 hC.2.1 hC.2.2.2.1 (hC.2.2.2.2.1 _ hw) hov rfl hd rfl h2 (by omega) hc hsl fun cA kA comp f1 f2 f3 f4 => k _ (by simp) (fun q hq => by rw [Array.getElem?_push, if_neg (Nat.ne_of_lt hq)]) fun φ' hφ => ?_
      rw [h1, eb_cell_R (by omega), het]
      refine ⟨cA, fun n z => ⟨fun k h => (by cases h), kA, f2, comp, f3⟩, ⟨kA, comp, f2, f3, f4, f1⟩, ?_⟩
      rw [hφ, arrV_new]
      have hg : (Array.push H (arrV cA x.toNatClampNeg (fun _ => Value.null)))[H.size]? = some (arrV cA x.toNatClampNeg (fun _ => Value.null)) := by simp
      refine hg.trans (congrArg some (arrV_congr fun j hj => ?_))
      show Value.null = _
      simp [eb_zR, hj, va_rf]
end

/-! THE CLAIM OUT OF ONE WALK OF THE LAW'S BODY. Your part is whole_start (and what it stands on); all else here is the same for every law, but numbers. -/
def R_law : String := "EverybodyHasTheBookLaw"
def lw_P (b : Addr) (xs : List Int32) (args : Array Value) (s : State) : Prop := args = #[.ref b] ∧ s.IntsAt b xs ∧ xs.length ≤ 384 ∧ (Jvm.Cond.and given_1 narrow_1).before args s = true
def lw_Q (_ : Array Value) (s : State) (o : Outcome) (t : State) : Prop := o = .returned (some (.int 1)) ∧ Framed s o t [] 600000 7302250
def lw_Z (below : List Frame) (a : Array Value) (s : State) : State → Prop := fun t => ∃ o, t.status = .running ∧ Ended t below o ∧ lw_Q a s o t
/-- the law's own end, with 1 on the stack, nothing written that was there before, its room as the claim has it -/
theorem lw_ret {p : Program} {l : Launch} {e : Env} {s : State} {m : MethodId} {below : List Frame} {meth : Method} {c : Code} {b : Nat} (hx : p.tables.exec = Jvm.exec) (hb : c.code = code) (hr : meth.sig.returnType = ret) (hlocks : meth.locks = false) {pc : Nat} {H : Heap} {ls : Array Slot} (hdg : decode code pc = .ok (.ireturn, 1)) : W p l e room_1 s m #[Value.ref b] below meth c H [] 600000 7302250 (lw_Z below #[Value.ref b] s) (F0 m pc ls [.int 1]) := by
  intro T hT X
  obtain ⟨fs, hret, hrun, hended, hW, hframe⟩ := X.leave (v := some (.int 1)) (hlocks := hlocks) (fun h => by rw [hr] at h; cases h)
  have hmeth' : T.vm.method? m = some meth := X.method'
  refine ⟨T.setFrames fs, ?_, .returned (some (.int 1)), hrun, hended, rfl, ⟨_, rfl⟩, hW, hframe⟩
  jvm_step X.here [X.here.top, hx, hb, hdg, hmeth', hr, ret, narrow_b1]
  (try refine ⟨rfl, ?_⟩); (try refine ⟨rfl, ?_⟩)
  first | (intro acts; rw [hret _ acts rfl rfl rfl]) | rw [hret _ _ rfl rfl rfl]
  exact Steps.refl _
/-- what holds at the law's entry: the machine, the code, the tables' words (any of lw_tbl by 'hts w (by decide +kernel)'), the script of L ints xs at the cell b, what the Statement gives of the start (any of its parts by flat_of_before) -/
def lw_At (p : Program) (s : State) (m : MethodId) (meth : Method) (c : Code) (b L : Nat) (xs : Nat → Int32) : Prop :=
  p.tables.exec = Jvm.exec ∧ c.code = code ∧ meth.sig.returnType = ret ∧ c.maxLocals = 4 ∧ s.vm.findClass R_law = some m.cls ∧ (∀ w ∈ lw_tbl, w.before #[Value.ref b] s = true) ∧ va_X b L xs s s.heap ∧ b < s.heap.size ∧ meth.locks = false ∧ (Jvm.Cond.and given_1 narrow_1).before #[Value.ref b] s = true
/-! what the Statement gives of the start: the texts, the statics -/
def ws_fl : List Cond := flatC (Jvm.Cond.and given_1 narrow_1)
def ws_t (i : Nat) : Term := Term.string (eb_sR i).1 (eb_sR i).2.1
def ws_ok (i : Nat) : Bool :=
  decide (Cond.exactly (ws_t i) "java/lang/String" ∈ ws_fl) && (decide (Cond.eq (.field (ws_t i) "java/lang/String" "coder" "B") (.int 0) ∈ ws_fl) && (decide (Cond.arrayOf (.field (ws_t i) "java/lang/String" "value" "[B") .byte ∈ ws_fl) && (decide (Cond.eq (.length (.field (ws_t i) "java/lang/String" "value" "[B")) (.int (Int32.ofNat (eb_sL.getD i 0))) ∈ ws_fl) &&
    ((List.range (eb_sL.getD i 0)).all (fun j => decide (Cond.eq (.elem (.field (ws_t i) "java/lang/String" "value" "[B") (.int (Int32.ofNat j))) (.int ((eb_sB.getD i []).getD j 0)) ∈ ws_fl)) && decide (Cond.stringRef (eb_sR i).1 (eb_sR i).2.1 (eb_sR i).2.2 ∈ lw_tbl)))))
theorem ws_all : ∀ i, i < 12 → ws_ok i = true := by decide +kernel
theorem ws_len : ∀ i, i < 12 → eb_sL.getD i 0 ≤ 6 := fun i hi => (tx_all i hi).1
theorem ws_k1 : (decide (Cond.eq (Term.static "java/lang/String" "COMPACT_STRINGS" "Z") (.int 1) ∈ ws_fl) && (decide (Cond.isRef (Term.static "jdk/internal/util/Preconditions" "SIOOBE_FORMATTER" "Ljava/util/function/BiFunction;") ∈ ws_fl) && (decide (Cond.laysStatic "java/lang/String" "COMPACT_STRINGS" "Z" ∈ lw_tbl) && (decide (Cond.laysStatic "jdk/internal/util/Preconditions" "SIOOBE_FORMATTER" "Ljava/util/function/BiFunction;" ∈ lw_tbl) && (decide (Cond.initialized "java/lang/String" ∈ lw_tbl) && decide (Cond.initialized "jdk/internal/util/Preconditions" ∈ lw_tbl)))))) = true := by decide +kernel
theorem ws_k2 : eb_nest.all (fun w => decide (w ∈ lw_tbl) && w.onTables) = true := by decide +kernel
theorem ws_k3 : (decide (Cond.arrayOver (.object RX1) ∈ lw_tbl) && (decide (Cond.arrayOver (.object RX0) ∈ lw_tbl) && (decide (Cond.arrayOver (.object RX2) ∈ lw_tbl) && (decide (Cond.arrayOver (.array .int) ∈ lw_tbl) && decide (Cond.arrayOver (.array .long) ∈ lw_tbl))))) = true := by decide +kernel
/-- a text at the start -/
theorem ws_text {s : State} {args : Array Value} (hf : ∀ w ∈ ws_fl, w.before args s = true) (hts : ∀ w ∈ lw_tbl, w.before args s = true) {i : Nat} (hi : i < 12) : ∃ q v, vk_S 1 [eb_sL.getD i 0] [eb_sB.getD i []] (fun _ => q) (fun _ => v) (fun q => s.heap.size ≤ q) s s.heap ∧ vk_R (eb_sR i).1 (eb_sR i).2.1 (eb_sR i).2.2 q s := by
  have h := ws_all i hi
  simp only [ws_ok, Bool.and_eq_true, decide_eq_true_eq, List.all_eq_true, List.mem_range] at h
  obtain ⟨h1, h2, h3, h4, h5, h6⟩ := h
  have hl := ws_len i hi
  obtain ⟨adK, adV, g1, g2⟩ := vk_Sof (args := args) (s := s) (N := 1) (tm := fun _ => ws_t i) (len := [eb_sL.getD i 0]) (byt := [eb_sB.getD i []]) (A := fun q => s.heap.size ≤ q)
    (fun j hj => by
      obtain rfl : j = 0 := by omega
      show eb_sL.getD i 0 < 2 ^ 31
      omega) (fun j hj => hf _ h1) (fun j hj => hf _ h2) (fun j hj => hf _ h3)
    (fun j hj => by
      obtain rfl : j = 0 := by omega
      exact hf _ h4)
    (fun j hj k hk => by
      obtain rfl : j = 0 := by omega
      exact hf _ (h5 k hk))
    (fun a b ha hb hab => absurd (show a = b by omega) hab) (fun a ha => Nat.not_le.mpr ha)
  refine ⟨adK 0, adV 0, ⟨fun j hj => ?_, fun a b ha hb _ => by omega⟩, vk_R.of (hts _ h6) (g2 0 Nat.zero_lt_one)⟩
  obtain rfl : j = 0 := by omega
  exact g1.1 0 Nat.zero_lt_one
theorem ws_Kn {s : State} {args : Array Value} (hf : ∀ w ∈ ws_fl, w.before args s = true) (hts : ∀ w ∈ lw_tbl, w.before args s = true) (b : Nat) : ∃ φ : eb_A → Nat, φ (0, 0, 0) = b ∧ eb_Kn s.heap.size φ s s.heap := by
  have h0 : ∀ i : Nat, ∃ q : Nat × Nat, i < 12 → vk_S 1 [eb_sL.getD i 0] [eb_sB.getD i []] (fun _ => q.1) (fun _ => q.2) (fun q => s.heap.size ≤ q) s s.heap ∧ vk_R (eb_sR i).1 (eb_sR i).2.1 (eb_sR i).2.2 q.1 s := by
    intro i
    by_cases hi : i < 12
    · obtain ⟨q, v, h⟩ := ws_text hf hts hi
      exact ⟨(q, v), fun _ => h⟩
    · exact ⟨(0, 0), fun h => absurd h hi⟩
  obtain ⟨ad, had⟩ := Classical.axiomOfChoice h0
  have k1 := ws_k1
  simp only [Bool.and_eq_true, decide_eq_true_eq] at k1
  obtain ⟨c1, c2, c3, c4, c5, c6⟩ := k1
  have k3 := ws_k3
  simp only [Bool.and_eq_true, decide_eq_true_eq] at k3
  obtain ⟨d1, d2, d3, d4, d5⟩ := k3
  have hA : ∀ a : Nat, a < s.heap.size → ¬ s.heap.size ≤ a := fun a ha => Nat.not_le.mpr ha
  refine ⟨fun a => if a.1 = 50 then (ad a.2.1).1 else b, rfl, fun w hw => ?_, ⟨va_AO.of (hts _ d1), va_AO.of (hts _ d2), va_AO.of (hts _ d3)⟩, ⟨hts _ d4, hts _ d5⟩, fun i hi => (had i hi).2, ⟨fun i => (ad i).2, fun i hi => (had i hi).1⟩, va_Zof (hts _ c3) (hts _ c5) (va_eqt (hf _ c1)) hA, va_Zqof (hts _ c4) (hts _ c6) (hf _ c2) hA⟩
  have k2 := List.all_eq_true.mp ws_k2 w hw
  simp only [Bool.and_eq_true, decide_eq_true_eq] at k2
  exact va_Nw.of k2.2 (hts _ k2.1)

theorem whole_start {p : Program} {e : Env} {s : State} {m : MethodId} {below : List Frame} {meth : Method} {c : Code} (l : Launch) (hflags : l.flags = flags0) {b L : Nat} {xs : Nat → Int32} (hL : L ≤ 384) (C0 : lw_At p s m meth c b L xs) : W p l e room_1 s m #[Value.ref b] below meth c s.heap [] 0 0 (lw_Z below #[Value.ref b] s) (entryFrame m ([Value.ref b] : List Value).toArray 4) := by
  obtain ⟨hx, hb, hr, hml, hown, hts, hX, hbl, hlocks, hgv⟩ := C0
  have hf : ∀ w ∈ ws_fl, w.before #[Value.ref b] s = true := flat_of_before _ hgv
  obtain ⟨φ, hφ, hK⟩ := ws_Kn hf hts b
  obtain ⟨M', hev, hm1, hm2⟩ := lw_all hL xs
  rw [eb_ev_s (d := 11) (m := 253) rfl rfl] at hev
  obtain ⟨n, hn⟩ := eb_lim_some hev
  have hm0 := (sd_Sd (L := L) (q0 := s.heap.size) (l := l) 12 253 [zr (0, 0, 0)] (lw_M xs) (zi 1, M') φ (by decide) ((eb_ev_s (d := 11) (m := 253) rfl rfl).trans hev))
  have hg1 : 1 ≤ M'.1 := hm0.1
  have hg2 : 0 ≤ M'.2.1 := Nat.zero_le _
  have hC : eb_Cx s.heap.size 11 p room_1 s m #[Value.ref b] meth c 253 := by
    refine ⟨hx, hb, hml, hown, fun w hw => hts w (List.mem_filter.mp hw).1, fun h => ?_, Nat.le_refl _, by decide, by decide⟩
    exact absurd h (by decide +kernel)
  have hW : eb_Wd L s.heap.size φ (lw_M xs) s s.heap := by
    refine ⟨fun n hn => ?_, fun n k hn hk _ => ?_, fun n j x hn hw _ => ?_, fun n hn ht => ?_, Nat.le_refl _⟩
    · have hn : n < 1 := hn
      obtain rfl : n = 0 := by omega
      show va_X (φ (0, 0, 0)) L (fun j => (lw_M xs).2.2.1 (0, 0, 0) j) s s.heap
      rw [hφ]
      exact va_X_congr (fun j _ => (show (if ((0, 0, 0) : eb_A) = (0, 0, 0) then xs j else 0) = xs j from if_pos rfl).symm) hX
    · have hn : n < 1 := hn
      have hk : k < 1 := hk
      omega
    · have hn : n < 1 := hn
      obtain rfl : n = 0 := by omega
      rcases hw with ⟨q, -⟩ | ⟨q1, q2, -⟩
      · exact absurd (show (17 : Nat) < 7 from q) (by decide)
      · exact absurd (show (17 : Nat) ≤ 16 from q2) (by decide)
    · have hn : n < 1 := hn
      obtain rfl : n = 0 := by omega
      exact absurd rfl ht
  have hl := lv_entry ([Value.ref b]) (n := 4) (Nat.le_of_ble_eq_true rfl)
  rw [lg_entry_eq]
  have key := eb_walk (Q := lw_Z below #[Value.ref b] s) (below := below) (e := e) (kc := 1) (ks := 0) (fun pc => sd_all (show 253 < 254 by decide) pc) (sd_Sd (l := l) 11) hC n (0, eb_entry 253 [zr (0, 0, 0)], [], lw_M xs) (zi 1, M') hn (Nat.le_refl _) (Nat.zero_le _) (by show M'.1 - 1 ≤ 600000; omega) (by show M'.2.1 - 0 ≤ 7302250; omega) φ ?_
  · refine key _ s.heap [] ⟨hW, hK, ⟨⟨hl.1, hl.2.1, fun q hq => by cases hq⟩, fun i v hi => ?_⟩, fun i x hi => ?_, fun v hv => ?_, fun v hv => (by cases hv), va_S.rf⟩
    · have h1 := eb_args_in (φ := φ) [zr (0, 0, 0)] 0 i v (eb_entry_get hi)
      have h2 : (0 + i, eb_cn φ v) ∈ lv_args 0 [Value.ref b] := by rw [← hφ]; exact h1
      exact hl.2.2 (i, eb_cn φ v) (by rw [Nat.zero_add] at h2; exact h2)
    · have h1 := eb_entry_get hi
      rcases i with _ | i
      · cases h1
      · cases h1
    · obtain ⟨i, hi⟩ := List.getElem?_of_mem hv
      have h1 := eb_args_ok [zr (0, 0, 0)] v (List.mem_of_getElem? (eb_entry_get hi))
      rcases List.mem_cons.mp h1 with rfl | h1
      · intro a ha
        cases ha
        exact Or.inl ⟨0, Nat.zero_lt_one, rfl⟩
      · cases h1
  · intro φ' pc ls st _ hR arr H locs hA
    have hlo := hA.2.2.2.2.2.2.2.2
    rcases hR with ⟨h1, -⟩ | ⟨-, h2, x, -, h4, rfl⟩ | ⟨h1, -⟩ | ⟨⟨C, h1⟩, -⟩ | ⟨h1, -⟩
    · exact absurd (show (some FieldType.boolean : Option FieldType) = some .int from h1) (by decide)
    · have h5 : x = 1 := (Sum.inl.inj (Sum.inl.inj h4)).symm
      subst h5
      refine va_forget hlo (W.widen (k := 600000) (n := 7302250) (by show M'.1 - 1 ≤ _; omega) (by show M'.2.1 - 0 ≤ _; omega) ?_)
      exact lw_ret hx hb hr hlocks h2
    · exact absurd (show (some FieldType.boolean : Option FieldType) = some .long from h1) (by decide)
    · exact absurd (show (some FieldType.boolean : Option FieldType) = some (.object C) from h1) (by intro q; cases q)
    · exact absurd (show (some FieldType.boolean : Option FieldType) = none from h1) (by decide)


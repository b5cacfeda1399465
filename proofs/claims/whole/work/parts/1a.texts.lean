/-! the JDK's String.length, String.charAt over the texts; System.arraycopy over longs: their operations are sound -/
abbrev tx_F : Nat → Prop := fun _ => False
def tx_P (adK adV : Nat → Nat) (U : State) (H : Heap) : Prop := eb_Sx adK adV tx_F U H ∧ va_Z "java/lang/String" "COMPACT_STRINGS" "Z" (.int 1) tx_F U H ∧ va_Zq "jdk/internal/util/Preconditions" "SIOOBE_FORMATTER" "Ljava/util/function/BiFunction;" tx_F U H
def tx_w (y : MethodName) (b : ByteArray) (n : Nat) (rt : Option FieldType) : List Cond := Cond.code y b n rt :: eb_LT
theorem tx_w_good {y : MethodName} {b : ByteArray} {n : Nat} {rt : Option FieldType} (h : Cond.code y b n rt ∈ eb_LT) : GoodIn eb_LT (tx_w y b n rt) := by
  intro w hw
  rcases List.mem_cons.mp hw with rfl | hw
  · exact eb_LTg _ h
  · exact eb_LTg _ hw
theorem tx_P.moved {adK adV : Nat → Nat} {u U : State} {H : Heap} (hal : u.vm.Alike U.vm) (h : tx_P adK adV u H) : tx_P adK adV U H := ⟨fun i hi => vk_S.moved hal (h.1 i hi), va_Z.moved hal h.2.1, va_Zq.moved hal h.2.2⟩
theorem tx_P.kept {adK adV : Nat → Nat} {U : State} {H H1 : Heap} (hH : ∀ a : Nat, a < H.size → ¬ tx_F a → H1[a]? = H[a]?) (h : tx_P adK adV U H) : tx_P adK adV U H1 := ⟨fun i hi => vk_S.kept (h.1 i hi) hH, va_Z.kept h.2.1 hH, va_Zq.kept h.2.2 hH⟩
theorem tx_P.at {adK adV : Nat → Nat} {U : State} {H : Heap} (h : tx_P adK adV U H) {i : Nat} (hi : i < 12) : va_O "java/lang/String" (adK i) tx_F U H ∧ va_OF "java/lang/String" "coder" "B" (.int 0) (adK i) tx_F U H ∧ va_OF "java/lang/String" "value" "[B" (.ref (adV i)) (adK i) tx_F U H ∧ va_T .byte (adV i) (eb_sL.getD i 0) (fun j => .int ((eb_sB.getD i []).getD j 0)) tx_F U H := (h.1 i hi).1 0 Nat.zero_lt_one
theorem tx_blind {av : List Value} {adK adV : Nat → Nat} : FrameBlind (va_Pc av (fun U => tx_P adK adV U U.heap)) := fun a U g mk q => ⟨q.1, tx_P.moved (u := U) (U := U.calling g mk a) (Vm.Alike.refl U.vm) q.2⟩
theorem tx_blindT {av : List Value} : FrameBlind (va_Pc av (fun _ => True)) := fun _ _ _ _ q => ⟨q.1, trivial⟩
def tx_lt (w : Cond) : Prop := w ∈ lw_tbl ∧ goodWord w = true
theorem tx_lt.m {w : Cond} (h : tx_lt w) : w ∈ eb_LT := List.mem_filter.mpr h
theorem tx_k1 : (decide (Cond.fieldLink RJ0 38 "java/lang/String" "COMPACT_STRINGS" "Z" ∈ lw_tbl) && decide (Cond.fieldLink RJ0 15 "java/lang/String" "coder" "B" ∈ lw_tbl) && decide (Cond.fieldLink RJ0 9 "java/lang/String" "value" "[B" ∈ lw_tbl) && decide (Cond.fieldLink RJ0 1053 "jdk/internal/util/Preconditions" "SIOOBE_FORMATTER" "Ljava/util/function/BiFunction;" ∈ lw_tbl)) = true := by decide +kernel
theorem tx_f38 : Cond.fieldLink RJ0 38 "java/lang/String" "COMPACT_STRINGS" "Z" ∈ eb_LT := List.mem_filter.mpr ⟨by have h := tx_k1; simp only [Bool.and_eq_true, decide_eq_true_eq] at h; exact h.1.1.1, rfl⟩
theorem tx_f15 : Cond.fieldLink RJ0 15 "java/lang/String" "coder" "B" ∈ eb_LT := List.mem_filter.mpr ⟨by have h := tx_k1; simp only [Bool.and_eq_true, decide_eq_true_eq] at h; exact h.1.1.2, rfl⟩
theorem tx_f9 : Cond.fieldLink RJ0 9 "java/lang/String" "value" "[B" ∈ eb_LT := List.mem_filter.mpr ⟨by have h := tx_k1; simp only [Bool.and_eq_true, decide_eq_true_eq] at h; exact h.1.2, rfl⟩
theorem tx_f1053 : Cond.fieldLink RJ0 1053 "jdk/internal/util/Preconditions" "SIOOBE_FORMATTER" "Ljava/util/function/BiFunction;" ∈ eb_LT := List.mem_filter.mpr ⟨by have h := tx_k1; simp only [Bool.and_eq_true, decide_eq_true_eq] at h; exact h.2, rfl⟩
/-- the words of a call of an object's method, of a static one -/
theorem tx_k2 : (decide (Cond.methodLink RJ0 335 yJ0_coder_7d493 ∈ lw_tbl) && decide (Cond.instanceMethod yJ0_coder_7d493 ∈ lw_tbl) && decide (Cond.selects RJ0 yJ0_coder_7d493 yJ0_coder_7d493 ∈ lw_tbl) && decide (Cond.initialized RJ0 ∈ lw_tbl) && decide (Cond.code yJ0_coder_7d493 cJ0_coder_7d493 1 (some .byte) ∈ lw_tbl)) = true := by decide +kernel
theorem tx_k3 : (decide (Cond.methodLink RJ0 492 yJ0_isLatin1_aae02 ∈ lw_tbl) && decide (Cond.instanceMethod yJ0_isLatin1_aae02 ∈ lw_tbl) && decide (Cond.selects RJ0 yJ0_isLatin1_aae02 yJ0_isLatin1_aae02 ∈ lw_tbl) && decide (Cond.initialized RJ0 ∈ lw_tbl) && decide (Cond.code yJ0_isLatin1_aae02 cJ0_isLatin1_aae02 1 (some .boolean) ∈ lw_tbl)) = true := by decide +kernel
theorem tx_k4 : (decide (Cond.methodLink RJ0 1059 yJ3_checkIndex_8e157 ∈ lw_tbl) && decide (Cond.static yJ3_checkIndex_8e157 ∈ lw_tbl) && decide (Cond.initialized RJ3 ∈ lw_tbl) && decide (Cond.code yJ3_checkIndex_8e157 cJ3_checkIndex_8e157 3 (some .int) ∈ lw_tbl)) = true := by decide +kernel
theorem tx_k5 : (decide (Cond.methodLink RJ1 9 yJ0_checkIndex_df160 ∈ lw_tbl) && decide (Cond.static yJ0_checkIndex_df160 ∈ lw_tbl) && decide (Cond.initialized RJ0 ∈ lw_tbl) && decide (Cond.code yJ0_checkIndex_df160 cJ0_checkIndex_df160 2 none ∈ lw_tbl)) = true := by decide +kernel
theorem tx_k6 : (decide (Cond.methodLink RJ0 495 yJ1_charAt_3b067 ∈ lw_tbl) && decide (Cond.static yJ1_charAt_3b067 ∈ lw_tbl) && decide (Cond.initialized RJ1 ∈ lw_tbl) && decide (Cond.code yJ1_charAt_3b067 cJ1_charAt_3b067 2 (some .char) ∈ lw_tbl)) = true := by decide +kernel
theorem tx_k7 : (decide (Cond.instanceMethod yJ0_length_8abf5 ∈ lw_tbl) && decide (Cond.selects RJ0 yJ0_length_8abf5 yJ0_length_8abf5 ∈ lw_tbl) && decide (Cond.initialized RJ0 ∈ lw_tbl) && decide (Cond.code yJ0_length_8abf5 cJ0_length_8abf5 1 (some .int) ∈ lw_tbl)) = true := by decide +kernel
theorem tx_k8 : (decide (Cond.instanceMethod yJ0_charAt_5068e ∈ lw_tbl) && decide (Cond.selects RJ0 yJ0_charAt_5068e yJ0_charAt_5068e ∈ lw_tbl) && decide (Cond.initialized RJ0 ∈ lw_tbl) && decide (Cond.code yJ0_charAt_5068e cJ0_charAt_5068e 2 (some .char) ∈ lw_tbl)) = true := by decide +kernel
theorem tx_V {own C : String} {ix : Nat} {y : MethodName} {b : ByteArray} {n : Nat} {rt : Option FieldType} (h0 : Cond.methodLink own ix y ∈ eb_LT) (h1 : Cond.instanceMethod y ∈ eb_LT) (h2 : Cond.selects C y y ∈ eb_LT) (h3 : Cond.initialized C ∈ eb_LT) (h4 : Cond.code y b n rt ∈ eb_LT) : ∀ w ∈ wsV own ix C y (tx_w y b n rt), w ∈ eb_LT := by
  intro w hw
  rcases List.mem_append.mp hw with h | h
  · simp only [List.mem_cons, List.not_mem_nil, or_false] at h
    rcases h with rfl | rfl | rfl | rfl
    · exact h0
    · exact h1
    · exact h2
    · exact h3
  · exact (tx_w_good h4 w h).1
theorem tx_S {own : String} {ix : Nat} {y : MethodName} {b : ByteArray} {n : Nat} {rt : Option FieldType} (h0 : Cond.methodLink own ix y ∈ eb_LT) (h1 : Cond.static y ∈ eb_LT) (h3 : Cond.initialized y.cls ∈ eb_LT) (h4 : Cond.code y b n rt ∈ eb_LT) : ∀ w ∈ va_wsS own ix y (tx_w y b n rt), w ∈ eb_LT := by
  intro w hw
  rcases List.mem_append.mp hw with h | h
  · simp only [List.mem_cons, List.not_mem_nil, or_false] at h
    rcases h with rfl | rfl | rfl
    · exact h0
    · exact h1
    · exact h3
  · exact (tx_w_good h4 w h).1
theorem tx_w2 : ∀ w ∈ wsV RJ0 335 RJ0 yJ0_coder_7d493 (tx_w yJ0_coder_7d493 cJ0_coder_7d493 1 (some .byte)), w ∈ eb_LT := by
  have h := tx_k2
  simp only [Bool.and_eq_true, decide_eq_true_eq] at h
  obtain ⟨⟨⟨⟨h1, h2⟩, h3⟩, h4⟩, h5⟩ := h
  exact tx_V (List.mem_filter.mpr ⟨h1, rfl⟩) (List.mem_filter.mpr ⟨h2, rfl⟩) (List.mem_filter.mpr ⟨h3, rfl⟩) (List.mem_filter.mpr ⟨h4, rfl⟩) (List.mem_filter.mpr ⟨h5, rfl⟩)
theorem tx_w3 : ∀ w ∈ wsV RJ0 492 RJ0 yJ0_isLatin1_aae02 (tx_w yJ0_isLatin1_aae02 cJ0_isLatin1_aae02 1 (some .boolean)), w ∈ eb_LT := by
  have h := tx_k3
  simp only [Bool.and_eq_true, decide_eq_true_eq] at h
  obtain ⟨⟨⟨⟨h1, h2⟩, h3⟩, h4⟩, h5⟩ := h
  exact tx_V (List.mem_filter.mpr ⟨h1, rfl⟩) (List.mem_filter.mpr ⟨h2, rfl⟩) (List.mem_filter.mpr ⟨h3, rfl⟩) (List.mem_filter.mpr ⟨h4, rfl⟩) (List.mem_filter.mpr ⟨h5, rfl⟩)
theorem tx_w4 : ∀ w ∈ va_wsS RJ0 1059 yJ3_checkIndex_8e157 (tx_w yJ3_checkIndex_8e157 cJ3_checkIndex_8e157 3 (some .int)), w ∈ eb_LT := by
  have h := tx_k4
  simp only [Bool.and_eq_true, decide_eq_true_eq] at h
  obtain ⟨⟨⟨h1, h2⟩, h3⟩, h4⟩ := h
  exact tx_S (List.mem_filter.mpr ⟨h1, rfl⟩) (List.mem_filter.mpr ⟨h2, rfl⟩) (List.mem_filter.mpr ⟨h3, rfl⟩) (List.mem_filter.mpr ⟨h4, rfl⟩)
theorem tx_w5 : ∀ w ∈ va_wsS RJ1 9 yJ0_checkIndex_df160 (tx_w yJ0_checkIndex_df160 cJ0_checkIndex_df160 2 none), w ∈ eb_LT := by
  have h := tx_k5
  simp only [Bool.and_eq_true, decide_eq_true_eq] at h
  obtain ⟨⟨⟨h1, h2⟩, h3⟩, h4⟩ := h
  exact tx_S (List.mem_filter.mpr ⟨h1, rfl⟩) (List.mem_filter.mpr ⟨h2, rfl⟩) (List.mem_filter.mpr ⟨h3, rfl⟩) (List.mem_filter.mpr ⟨h4, rfl⟩)
theorem tx_w6 : ∀ w ∈ va_wsS RJ0 495 yJ1_charAt_3b067 (tx_w yJ1_charAt_3b067 cJ1_charAt_3b067 2 (some .char)), w ∈ eb_LT := by
  have h := tx_k6
  simp only [Bool.and_eq_true, decide_eq_true_eq] at h
  obtain ⟨⟨⟨h1, h2⟩, h3⟩, h4⟩ := h
  exact tx_S (List.mem_filter.mpr ⟨h1, rfl⟩) (List.mem_filter.mpr ⟨h2, rfl⟩) (List.mem_filter.mpr ⟨h3, rfl⟩) (List.mem_filter.mpr ⟨h4, rfl⟩)
theorem tx_w7 {own : String} {ix : Nat} (h0 : Cond.methodLink own ix yJ0_length_8abf5 ∈ eb_LT) : ∀ w ∈ wsV own ix RJ0 yJ0_length_8abf5 (tx_w yJ0_length_8abf5 cJ0_length_8abf5 1 (some .int)), w ∈ eb_LT := by
  have h := tx_k7
  simp only [Bool.and_eq_true, decide_eq_true_eq] at h
  obtain ⟨⟨⟨h2, h3⟩, h4⟩, h5⟩ := h
  exact tx_V h0 (List.mem_filter.mpr ⟨h2, rfl⟩) (List.mem_filter.mpr ⟨h3, rfl⟩) (List.mem_filter.mpr ⟨h4, rfl⟩) (List.mem_filter.mpr ⟨h5, rfl⟩)
theorem tx_w8 {own : String} {ix : Nat} (h0 : Cond.methodLink own ix yJ0_charAt_5068e ∈ eb_LT) : ∀ w ∈ wsV own ix RJ0 yJ0_charAt_5068e (tx_w yJ0_charAt_5068e cJ0_charAt_5068e 2 (some .char)), w ∈ eb_LT := by
  have h := tx_k8
  simp only [Bool.and_eq_true, decide_eq_true_eq] at h
  obtain ⟨⟨⟨h2, h3⟩, h4⟩, h5⟩ := h
  exact tx_V h0 (List.mem_filter.mpr ⟨h2, rfl⟩) (List.mem_filter.mpr ⟨h3, rfl⟩) (List.mem_filter.mpr ⟨h4, rfl⟩) (List.mem_filter.mpr ⟨h5, rfl⟩)
-- the instructions
theorem dT_coder_0 : decode cJ0_coder_7d493 0 = .ok (.getstatic 38, 3) := by decide +kernel
theorem dT_coder_3 : decode cJ0_coder_7d493 3 = .ok (.ifCond .eq 10, 3) := by decide +kernel
theorem dT_coder_6 : decode cJ0_coder_7d493 6 = .ok (.aload_n 0, 1) := by decide +kernel
theorem dT_coder_7 : decode cJ0_coder_7d493 7 = .ok (.getfield 15, 3) := by decide +kernel
theorem dT_coder_10 : decode cJ0_coder_7d493 10 = .ok (.goto 4, 3) := by decide +kernel
theorem dT_coder_14 : decode cJ0_coder_7d493 14 = .ok (.ireturn, 1) := by decide +kernel
theorem dT_lat_0 : decode cJ0_isLatin1_aae02 0 = .ok (.getstatic 38, 3) := by decide +kernel
theorem dT_lat_3 : decode cJ0_isLatin1_aae02 3 = .ok (.ifCond .eq 14, 3) := by decide +kernel
theorem dT_lat_6 : decode cJ0_isLatin1_aae02 6 = .ok (.aload_n 0, 1) := by decide +kernel
theorem dT_lat_7 : decode cJ0_isLatin1_aae02 7 = .ok (.getfield 15, 3) := by decide +kernel
theorem dT_lat_10 : decode cJ0_isLatin1_aae02 10 = .ok (.ifCond .ne 7, 3) := by decide +kernel
theorem dT_lat_13 : decode cJ0_isLatin1_aae02 13 = .ok (.iconst 1, 1) := by decide +kernel
theorem dT_lat_14 : decode cJ0_isLatin1_aae02 14 = .ok (.goto 4, 3) := by decide +kernel
theorem dT_lat_18 : decode cJ0_isLatin1_aae02 18 = .ok (.ireturn, 1) := by decide +kernel
theorem dT_c3_0 : decode cJ3_checkIndex_8e157 0 = .ok (.iload_n 0, 1) := by decide +kernel
theorem dT_c3_1 : decode cJ3_checkIndex_8e157 1 = .ok (.ifCond .lt 8, 3) := by decide +kernel
theorem dT_c3_4 : decode cJ3_checkIndex_8e157 4 = .ok (.iload_n 0, 1) := by decide +kernel
theorem dT_c3_5 : decode cJ3_checkIndex_8e157 5 = .ok (.iload_n 1, 1) := by decide +kernel
theorem dT_c3_6 : decode cJ3_checkIndex_8e157 6 = .ok (.if_icmp .lt 10, 3) := by decide +kernel
theorem dT_c3_16 : decode cJ3_checkIndex_8e157 16 = .ok (.iload_n 0, 1) := by decide +kernel
theorem dT_c3_17 : decode cJ3_checkIndex_8e157 17 = .ok (.ireturn, 1) := by decide +kernel
theorem dT_c0_0 : decode cJ0_checkIndex_df160 0 = .ok (.iload_n 0, 1) := by decide +kernel
theorem dT_c0_1 : decode cJ0_checkIndex_df160 1 = .ok (.iload_n 1, 1) := by decide +kernel
theorem dT_c0_2 : decode cJ0_checkIndex_df160 2 = .ok (.getstatic 1053, 3) := by decide +kernel
theorem dT_c0_5 : decode cJ0_checkIndex_df160 5 = .ok (.invokestatic 1059, 3) := by decide +kernel
theorem dT_c0_8 : decode cJ0_checkIndex_df160 8 = .ok (.pop, 1) := by decide +kernel
theorem dT_c0_9 : decode cJ0_checkIndex_df160 9 = .ok (.return_, 1) := by decide +kernel
theorem dT_at1_0 : decode cJ1_charAt_3b067 0 = .ok (.iload_n 1, 1) := by decide +kernel
theorem dT_at1_1 : decode cJ1_charAt_3b067 1 = .ok (.aload_n 0, 1) := by decide +kernel
theorem dT_at1_2 : decode cJ1_charAt_3b067 2 = .ok (.arraylength, 1) := by decide +kernel
theorem dT_at1_3 : decode cJ1_charAt_3b067 3 = .ok (.invokestatic 9, 3) := by decide +kernel
theorem dT_at1_6 : decode cJ1_charAt_3b067 6 = .ok (.aload_n 0, 1) := by decide +kernel
theorem dT_at1_7 : decode cJ1_charAt_3b067 7 = .ok (.iload_n 1, 1) := by decide +kernel
theorem dT_at1_8 : decode cJ1_charAt_3b067 8 = .ok (.baload, 1) := by decide +kernel
theorem dT_at1_9 : decode cJ1_charAt_3b067 9 = .ok (.sipush 255, 3) := by decide +kernel
theorem dT_at1_12 : decode cJ1_charAt_3b067 12 = .ok (.iand, 1) := by decide +kernel
theorem dT_at1_13 : decode cJ1_charAt_3b067 13 = .ok (.i2c, 1) := by decide +kernel
theorem dT_at1_14 : decode cJ1_charAt_3b067 14 = .ok (.ireturn, 1) := by decide +kernel
theorem dT_at_0 : decode cJ0_charAt_5068e 0 = .ok (.aload_n 0, 1) := by decide +kernel
theorem dT_at_1 : decode cJ0_charAt_5068e 1 = .ok (.invokevirtual 492, 3) := by decide +kernel
theorem dT_at_4 : decode cJ0_charAt_5068e 4 = .ok (.ifCond .eq 12, 3) := by decide +kernel
theorem dT_at_7 : decode cJ0_charAt_5068e 7 = .ok (.aload_n 0, 1) := by decide +kernel
theorem dT_at_8 : decode cJ0_charAt_5068e 8 = .ok (.getfield 9, 3) := by decide +kernel
theorem dT_at_11 : decode cJ0_charAt_5068e 11 = .ok (.iload_n 1, 1) := by decide +kernel
theorem dT_at_12 : decode cJ0_charAt_5068e 12 = .ok (.invokestatic 495, 3) := by decide +kernel
theorem dT_at_15 : decode cJ0_charAt_5068e 15 = .ok (.ireturn, 1) := by decide +kernel
theorem dT_len_0 : decode cJ0_length_8abf5 0 = .ok (.aload_n 0, 1) := by decide +kernel
theorem dT_len_1 : decode cJ0_length_8abf5 1 = .ok (.getfield 9, 3) := by decide +kernel
theorem dT_len_4 : decode cJ0_length_8abf5 4 = .ok (.arraylength, 1) := by decide +kernel
theorem dT_len_5 : decode cJ0_length_8abf5 5 = .ok (.aload_n 0, 1) := by decide +kernel
theorem dT_len_6 : decode cJ0_length_8abf5 6 = .ok (.invokevirtual 335, 3) := by decide +kernel
theorem dT_len_9 : decode cJ0_length_8abf5 9 = .ok (.ishr, 1) := by decide +kernel
theorem dT_len_10 : decode cJ0_length_8abf5 10 = .ok (.ireturn, 1) := by decide +kernel
set_option maxHeartbeats 4000000 in
theorem tx_coder (l : Launch) (adK adV : Nat → Nat) {i : Nat} (hi : i < 12) : Met l yJ0_coder_7d493 (tx_w yJ0_coder_7d493 cJ0_coder_7d493 1 (some .byte)) { frames := 0, cells := 0, slots := 0, locals := 0 } (va_Pc [.ref (adK i)] (fun U => tx_P adK adV U U.heap)) (va_Qi (fun (r : Int32) (_ : Unit) => r = 0) (fun _ _ => True) tx_F) 0 0 tx_F := by
  refine Met.ofW (cc := cJ0_coder_7d493) (maxL := 1) (ret := some .byte) (by decide) (ws' := eb_LT) rfl ?_
  intro p e s m args below meth c s₁ B hml hv
  obtain ⟨rfl, hP⟩ := hv
  have hx := B.exec
  have hb := B.bytes
  have hr := B.returns
  have hts := fun w hw => atoms_spec (ws := tx_w yJ0_coder_7d493 cJ0_coder_7d493 1 (some .byte)) B.pre w (List.mem_cons_of_mem _ hw)
  have hown : s.vm.findClass RJ0 = some m.cls := findClass_of_methodNamed B.named
  have hlocks := B.notSynchronized
  have hS : va_S tx_F s.heap s.heap [] := va_S.rf
  have hl := lv_entry ([.ref (adK i)]) (n := 1) (Nat.le_of_ble_eq_true rfl)
  rw [lg_entry_eq]
  generalize (lg_sl ([.ref (adK i)]) ++ List.replicate (1 - (lg_sl ([.ref (adK i)])).length) Slot.unset).toArray = ls at hl ⊢
  have hl : lv_has ls 1 [(0, .ref (adK i))] := hl
  refine va_gets hx hb hP.2.1 hS hown (hts _ tx_f38) (fun x h => h) dT_coder_0 ?_
  refine lv_if_eq hx hb dT_coder_3 rfl (fun h => absurd h (by decide)) (fun _ => ?_)
  refine lv_aload_n hx hb dT_coder_6 rfl (lv_at hl 0 rfl) ?_
  refine vk_getf hx hb (tx_P.at hP hi).2.1 hS hown (hts _ tx_f15) (fun x h => h) dT_coder_7 ?_
  refine lv_goto hx hb dT_coder_10 rfl ?_
  exact W.zret (v := 0) hx hb hr rfl (fun t ht hW => ⟨⟨0, (), rfl, rfl, trivial⟩, hS.F ht⟩) hS.2.2 dT_coder_14
set_option maxHeartbeats 4000000 in
theorem tx_latin (l : Launch) (adK adV : Nat → Nat) {i : Nat} (hi : i < 12) : Met l yJ0_isLatin1_aae02 (tx_w yJ0_isLatin1_aae02 cJ0_isLatin1_aae02 1 (some .boolean)) { frames := 0, cells := 0, slots := 0, locals := 0 } (va_Pc [.ref (adK i)] (fun U => tx_P adK adV U U.heap)) (va_Qi (fun (r : Int32) (_ : Unit) => r = 1) (fun _ _ => True) tx_F) 0 0 tx_F := by
  refine Met.ofW (cc := cJ0_isLatin1_aae02) (maxL := 1) (ret := some .boolean) (by decide) (ws' := eb_LT) rfl ?_
  intro p e s m args below meth c s₁ B hml hv
  obtain ⟨rfl, hP⟩ := hv
  have hx := B.exec
  have hb := B.bytes
  have hr := B.returns
  have hts := fun w hw => atoms_spec (ws := tx_w yJ0_isLatin1_aae02 cJ0_isLatin1_aae02 1 (some .boolean)) B.pre w (List.mem_cons_of_mem _ hw)
  have hown : s.vm.findClass RJ0 = some m.cls := findClass_of_methodNamed B.named
  have hlocks := B.notSynchronized
  have hS : va_S tx_F s.heap s.heap [] := va_S.rf
  have hl := lv_entry ([.ref (adK i)]) (n := 1) (Nat.le_of_ble_eq_true rfl)
  rw [lg_entry_eq]
  generalize (lg_sl ([.ref (adK i)]) ++ List.replicate (1 - (lg_sl ([.ref (adK i)])).length) Slot.unset).toArray = ls at hl ⊢
  have hl : lv_has ls 1 [(0, .ref (adK i))] := hl
  refine va_gets hx hb hP.2.1 hS hown (hts _ tx_f38) (fun x h => h) dT_lat_0 ?_
  refine lv_if_eq hx hb dT_lat_3 rfl (fun h => absurd h (by decide)) (fun _ => ?_)
  refine lv_aload_n hx hb dT_lat_6 rfl (lv_at hl 0 rfl) ?_
  refine vk_getf hx hb (tx_P.at hP hi).2.1 hS hown (hts _ tx_f15) (fun x h => h) dT_lat_7 ?_
  refine lv_if_ne hx hb dT_lat_10 rfl (fun h => absurd rfl h) (fun _ => ?_)
  refine lv_iconst hx hb dT_lat_13 rfl ?_
  refine lv_goto hx hb dT_lat_14 rfl ?_
  exact W.zret (v := 1) hx hb hr rfl (fun t ht hW => ⟨⟨1, (), rfl, rfl, trivial⟩, hS.F ht⟩) hS.2.2 dT_lat_18
set_option maxHeartbeats 4000000 in
theorem tx_chk3 (l : Launch) {i n : Int32} (o : Option Nat) (h0 : ¬ i < 0) (h1 : i < n) : Met l yJ3_checkIndex_8e157 (tx_w yJ3_checkIndex_8e157 cJ3_checkIndex_8e157 3 (some .int)) { frames := 0, cells := 0, slots := 0, locals := 0 } (va_Pc [.int i, .int n, va_rf o] (fun _ => True)) (va_Qi (fun (r : Int32) (_ : Unit) => r = i) (fun _ _ => True) tx_F) 0 0 tx_F := by
  refine Met.ofW (cc := cJ3_checkIndex_8e157) (maxL := 3) (ret := some .int) (by decide) (ws' := eb_LT) rfl ?_
  intro p e s m args below meth c s₁ B hml hv
  obtain ⟨rfl, -⟩ := hv
  have hx := B.exec
  have hb := B.bytes
  have hr := B.returns
  have hlocks := B.notSynchronized
  have hS : va_S tx_F s.heap s.heap [] := va_S.rf
  have hll : (lg_sl ([.int i, .int n, va_rf o])).length ≤ 3 := by cases o <;> exact Nat.le_of_ble_eq_true rfl
  have hl := lv_entry ([.int i, .int n, va_rf o]) (n := 3) hll
  rw [lg_entry_eq]
  generalize (lg_sl ([.int i, .int n, va_rf o]) ++ List.replicate (3 - (lg_sl ([.int i, .int n, va_rf o])).length) Slot.unset).toArray = ls at hl ⊢
  have hl : lv_has ls 3 [(0, .int i), (1, .int n), (2, va_rf o)] := by cases o <;> exact hl
  refine lv_iload_n hx hb dT_c3_0 rfl (lv_at hl 0 rfl) ?_
  refine lv_if_lt hx hb dT_c3_1 rfl (fun h => absurd h h0) (fun _ => ?_)
  refine lv_iload_n hx hb dT_c3_4 rfl (lv_at hl 0 rfl) ?_
  refine lv_iload_n hx hb dT_c3_5 rfl (lv_at hl 1 rfl) ?_
  refine lv_icmp_lt hx hb dT_c3_6 rfl (fun _ => ?_) (fun h => absurd h1 h)
  refine lv_iload_n hx hb dT_c3_16 rfl (lv_at hl 0 rfl) ?_
  exact W.iret (v := i) hx hb hr (fun t ht hW => ⟨⟨i, (), rfl, rfl, trivial⟩, hS.F ht⟩) hS.2.2 dT_c3_17
set_option maxHeartbeats 4000000 in
theorem tx_chk0 (l : Launch) (adK adV : Nat → Nat) {i n : Int32} (h0 : ¬ i < 0) (h1 : i < n) : Met l yJ0_checkIndex_df160 (tx_w yJ0_checkIndex_df160 cJ0_checkIndex_df160 2 none) { frames := 1, cells := 0, slots := 0, locals := 22 } (va_Pc [.int i, .int n] (fun U => tx_P adK adV U U.heap)) (va_Qv (fun _ : Unit => True) (fun _ _ => True) tx_F) 0 0 tx_F := by
  refine Met.ofW (cc := cJ0_checkIndex_df160) (maxL := 2) (ret := none) (by decide) (ws' := eb_LT) rfl ?_
  intro p e s m args below meth c s₁ B hml hv
  obtain ⟨rfl, hP⟩ := hv
  have hx := B.exec
  have hb := B.bytes
  have hr := B.returns
  have hts := fun w hw => atoms_spec (ws := tx_w yJ0_checkIndex_df160 cJ0_checkIndex_df160 2 none) B.pre w (List.mem_cons_of_mem _ hw)
  have hown : s.vm.findClass RJ0 = some m.cls := findClass_of_methodNamed B.named
  have hlocks := B.notSynchronized
  have hS : va_S tx_F s.heap s.heap [] := va_S.rf
  have hl := lv_entry ([.int i, .int n]) (n := 2) (Nat.le_of_ble_eq_true rfl)
  rw [lg_entry_eq]
  generalize (lg_sl ([.int i, .int n]) ++ List.replicate (2 - (lg_sl ([.int i, .int n])).length) Slot.unset).toArray = ls at hl ⊢
  have hl : lv_has ls 2 [(0, .int i), (1, .int n)] := hl
  have hZ : ∃ o, va_Z "jdk/internal/util/Preconditions" "SIOOBE_FORMATTER" "Ljava/util/function/BiFunction;" (va_rf o) tx_F s s.heap := by
    rcases hP.2.2 with h | ⟨t, h⟩
    · exact ⟨none, h⟩
    · exact ⟨some t, h⟩
  obtain ⟨o, hZ⟩ := hZ
  refine lv_iload_n hx hb dT_c0_0 rfl (lv_at hl 0 rfl) ?_
  refine lv_iload_n hx hb dT_c0_1 rfl (lv_at hl 1 rfl) ?_
  refine va_gets hx hb hZ hS hown (hts _ tx_f1053) (fun x h => h) dT_c0_2 ?_
  have hrun := va_runS (e := e) (g := F0 m 5 ls [va_rf o, .int n, .int i]) (locs := []) (cells := 0) (slots := 0) (below := below) (meth := meth) (As := [.int i, .int n, va_rf o]) (rest := []) (Ts := eb_LT) (own := RJ0) (nL := 2) (cc := cJ0_checkIndex_df160) (index := 1059) (H := s.heap) (R := { frames := 1, cells := 0, slots := 0, locals := 22 }) (s := s) (args := #[.int i, .int n]) (m := m) (c := c) (p := p) ⟨hx, hb, hml, hown, hts⟩ (tx_chk3 l o h0 h1)
    (va_cwS 3 hts (fun w h => eb_LTg w (tx_w4 w h)) rfl rfl rfl (by decide +kernel) ⟨Nat.le_of_ble_eq_true rfl, Nat.le_of_ble_eq_true rfl⟩)
    ⟨tx_blindT, fun U hU hW => ⟨rfl, trivial⟩⟩ rfl rfl hl.1 rfl (Nat.le_of_ble_eq_true rfl) dT_c0_5 ⟨Nat.le_refl _, Nat.le_refl _⟩
  refine va_calli hrun hS (fun q _ h => h) (fun q h => h) fun r u t H1 locs1 ht hal hr1 _ hz hH hS1 => ?_
  refine lv_pop hx hb dT_c0_8 rfl ?_
  exact W.vret hx hb hr (fun t ht hW => ⟨⟨(), rfl, trivial, trivial⟩, hS1.F ht⟩) hS1.2.2 dT_c0_9
/-- the texts' signs -/
def tx_c (i k : Nat) : Int32 := (eb_sB.getD i []).getD k 0
theorem tx_all : ∀ i, i < 12 → eb_sL.getD i 0 ≤ 6 ∧ eb_sL.getD i 0 = (eb_tx (i % 6)).length ∧ ∀ k, k < 6 → (((tx_c i k &&& 255).toUInt32 % 65536).toInt32 = tx_c i k ∧ tx_c i k = (eb_tx (i % 6)).getD k 0 ∧ narrow .char (.int (tx_c i k)) = .int (tx_c i k)) := by decide +kernel
set_option maxHeartbeats 4000000 in
theorem tx_at1 (l : Launch) (adK adV : Nat → Nat) {i : Nat} (hi : i < 12) {k : Int32} (hk : vp_in k (eb_sL.getD i 0)) : Met l yJ1_charAt_3b067 (tx_w yJ1_charAt_3b067 cJ1_charAt_3b067 2 (some .char)) { frames := 2, cells := 0, slots := 0, locals := 43 } (va_Pc [.ref (adV i), .int k] (fun U => tx_P adK adV U U.heap)) (va_Qi (fun (r : Int32) (_ : Unit) => r = tx_c i k.toNatClampNeg) (fun _ _ => True) tx_F) 0 0 tx_F := by
  refine Met.ofW (cc := cJ1_charAt_3b067) (maxL := 2) (ret := some .char) (by decide) (ws' := eb_LT) rfl ?_
  intro p e s m args below meth c s₁ B hml hv
  obtain ⟨rfl, hP⟩ := hv
  have hx := B.exec
  have hb := B.bytes
  have hr := B.returns
  have hts := fun w hw => atoms_spec (ws := tx_w yJ1_charAt_3b067 cJ1_charAt_3b067 2 (some .char)) B.pre w (List.mem_cons_of_mem _ hw)
  have hown : s.vm.findClass RJ1 = some m.cls := findClass_of_methodNamed B.named
  have hlocks := B.notSynchronized
  have hS : va_S tx_F s.heap s.heap [] := va_S.rf
  have hl := lv_entry ([.ref (adV i), .int k]) (n := 2) (Nat.le_of_ble_eq_true rfl)
  rw [lg_entry_eq]
  generalize (lg_sl ([.ref (adV i), .int k]) ++ List.replicate (2 - (lg_sl ([.ref (adV i), .int k])).length) Slot.unset).toArray = ls at hl ⊢
  have hl : lv_has ls 2 [(0, .ref (adV i)), (1, .int k)] := hl
  obtain ⟨h6, -, hc⟩ := tx_all i hi
  have hk0 : ¬ k < 0 := fun q => hk (Or.inl q)
  have hk1 : k.toNatClampNeg < eb_sL.getD i 0 := Nat.not_le.mp fun q => hk (Or.inr q)
  obtain ⟨kn, hkn, rfl⟩ := nI_of hk0
  have hkc : (nI kn).toNatClampNeg = kn := nI_clamp hkn
  rw [hkc] at hk1 ⊢
  obtain ⟨c1, -, c3⟩ := hc kn (by omega)
  have hlt : nI kn < Int32.ofNat (eb_sL.getD i 0) := by
    show nI kn < nI (eb_sL.getD i 0)
    exact nI_lt hk1 (by omega)
  have hT := (tx_P.at hP hi).2.2.2
  refine lv_iload_n hx hb dT_at1_0 rfl (lv_at hl 1 rfl) ?_
  refine lv_aload_n hx hb dT_at1_1 rfl (lv_at hl 0 rfl) ?_
  refine va_tlen hx hb hT hS rfl dT_at1_2 ?_
  have hrun := va_runS (e := e) (g := F0 m 3 ls [.int (Int32.ofNat (eb_sL.getD i 0)), .int (nI kn)]) (locs := []) (cells := 0) (slots := 0) (below := below) (meth := meth) (As := [.int (nI kn), .int (Int32.ofNat (eb_sL.getD i 0))]) (rest := []) (Ts := eb_LT) (own := RJ1) (nL := 2) (cc := cJ1_charAt_3b067) (index := 9) (H := s.heap) (R := { frames := 2, cells := 0, slots := 0, locals := 43 }) (s := s) (args := #[.ref (adV i), .int (nI kn)]) (m := m) (c := c) (p := p) ⟨hx, hb, hml, hown, hts⟩ (tx_chk0 l adK adV hk0 hlt)
    (va_cwS 2 hts (fun w h => eb_LTg w (tx_w5 w h)) rfl rfl rfl (by decide +kernel) ⟨Nat.le_of_ble_eq_true rfl, Nat.le_of_ble_eq_true rfl⟩)
    ⟨tx_blind, fun U hU hW => ⟨rfl, (show tx_P _ _ U U.heap by rw [hU]; exact tx_P.moved hW.alike hP)⟩⟩ rfl rfl hl.1 rfl (Nat.le_of_ble_eq_true rfl) dT_at1_3 ⟨Nat.le_refl _, Nat.le_refl _⟩
  refine va_callv hrun hS (fun q _ h => h) (fun q h => h) fun u t H1 locs1 ht hal _ _ hz hH hS1 => ?_
  refine lv_aload_n hx hb dT_at1_6 rfl (lv_at hl 0 rfl) ?_
  refine lv_iload_n hx hb dT_at1_7 rfl (lv_at hl 1 rfl) ?_
  refine va_tb hx hb hT hS1 (i := nI kn) hk (v := .int (tx_c i kn)) (by rw [hkc]; rfl) dT_at1_8 ?_
  refine lv_sipush hx hb dT_at1_9 (show (Int16.ofInt 255).toInt32 = (255 : Int32) by decide) ?_
  refine lv_iand hx hb dT_at1_12 ?_
  refine lv_i2c hx hb dT_at1_13 c1 ?_
  exact W.zret (v := tx_c i kn) hx hb hr c3 (fun t ht hW => ⟨⟨_, (), rfl, rfl, trivial⟩, hS1.F ht⟩) hS1.2.2 dT_at1_14
set_option maxHeartbeats 4000000 in
theorem tx_at (l : Launch) (adK adV : Nat → Nat) {i : Nat} (hi : i < 12) {k : Int32} (hk : vp_in k (eb_sL.getD i 0)) : Met l yJ0_charAt_5068e (tx_w yJ0_charAt_5068e cJ0_charAt_5068e 2 (some .char)) { frames := 3, cells := 0, slots := 0, locals := 64 } (va_Pc [.ref (adK i), .int k] (fun U => tx_P adK adV U U.heap)) (va_Qi (fun (r : Int32) (_ : Unit) => r = tx_c i k.toNatClampNeg) (fun _ _ => True) tx_F) 0 0 tx_F := by
  refine Met.ofW (cc := cJ0_charAt_5068e) (maxL := 2) (ret := some .char) (by decide) (ws' := eb_LT) rfl ?_
  intro p e s m args below meth c s₁ B hml hv
  obtain ⟨rfl, hP⟩ := hv
  have hx := B.exec
  have hb := B.bytes
  have hr := B.returns
  have hts := fun w hw => atoms_spec (ws := tx_w yJ0_charAt_5068e cJ0_charAt_5068e 2 (some .char)) B.pre w (List.mem_cons_of_mem _ hw)
  have hown : s.vm.findClass RJ0 = some m.cls := findClass_of_methodNamed B.named
  have hlocks := B.notSynchronized
  have hS : va_S tx_F s.heap s.heap [] := va_S.rf
  have hl := lv_entry ([.ref (adK i), .int k]) (n := 2) (Nat.le_of_ble_eq_true rfl)
  rw [lg_entry_eq]
  generalize (lg_sl ([.ref (adK i), .int k]) ++ List.replicate (2 - (lg_sl ([.ref (adK i), .int k])).length) Slot.unset).toArray = ls at hl ⊢
  have hl : lv_has ls 2 [(0, .ref (adK i)), (1, .int k)] := hl
  obtain ⟨h6, -, hc⟩ := tx_all i hi
  have hk0 : ¬ k < 0 := fun q => hk (Or.inl q)
  have hk1 : k.toNatClampNeg < eb_sL.getD i 0 := Nat.not_le.mp fun q => hk (Or.inr q)
  obtain ⟨-, -, c3⟩ := hc k.toNatClampNeg (by omega)
  have hpre : ∀ (H1 : Heap), (∀ q : Nat, q < s.heap.size → ¬ tx_F q → H1[q]? = s.heap[q]?) → ∀ U : State, U.heap = H1 → s.WarmedH U.vm → tx_P adK adV U U.heap := fun H1 hH U hU hW => by
    rw [hU]; exact tx_P.kept hH (tx_P.moved hW.alike hP)
  refine lv_aload_n hx hb dT_at_0 rfl (lv_at hl 0 rfl) ?_
  have hrun := va_runV (e := e) (g := F0 m 1 ls [.ref (adK i)]) (locs := []) (cells := 0) (slots := 0) (below := below) (meth := meth) (As := []) (b := adK i) (rest := []) (Ts := eb_LT) (own := RJ0) (nL := 2) (cc := cJ0_charAt_5068e) (index := 492) (H := s.heap) (R := { frames := 3, cells := 0, slots := 0, locals := 64 }) (s := s) (args := #[.ref (adK i), .int k]) (m := m) (c := c) (p := p) ⟨hx, hb, hml, hown, hts⟩ (tx_latin l adK adV hi)
    (cwV 0 hts (fun w h => eb_LTg w (tx_w3 w h)) rfl rfl rfl (by decide +kernel) ⟨Nat.le_of_ble_eq_true rfl, Nat.le_of_ble_eq_true rfl⟩)
    ⟨tx_blind, vk_recv (adK := fun _ => adK i) (i := 0) (hP.1 i hi) Nat.zero_lt_one hS, fun U hU hW => ⟨rfl, hpre s.heap (fun _ _ _ => rfl) U hU hW⟩⟩ rfl rfl hl.1 rfl (Nat.le_of_ble_eq_true rfl) dT_at_1 ⟨Nat.le_refl _, Nat.le_refl _⟩
  refine va_calli hrun hS (fun q _ h => h) (fun q h => h) fun r u t H1 locs1 ht hal hr1 _ hz hH hS1 => ?_
  subst hr1
  refine lv_if_eq hx hb dT_at_4 rfl (fun h => absurd h (by decide)) (fun _ => ?_)
  refine lv_aload_n hx hb dT_at_7 rfl (lv_at hl 0 rfl) ?_
  refine vk_getf hx hb (tx_P.at hP hi).2.2.1 hS1 hown (hts _ tx_f9) (fun x h => h) dT_at_8 ?_
  refine lv_iload_n hx hb dT_at_11 rfl (lv_at hl 1 rfl) ?_
  have hrun2 := va_runS (e := e) (g := F0 m 12 ls [.int k, .ref (adV i)]) (locs := locs1) (cells := 0) (slots := 0) (below := below) (meth := meth) (As := [.ref (adV i), .int k]) (rest := []) (Ts := eb_LT) (own := RJ0) (nL := 2) (cc := cJ0_charAt_5068e) (index := 495) (H := H1) (R := { frames := 3, cells := 0, slots := 0, locals := 64 }) (s := s) (args := #[.ref (adK i), .int k]) (m := m) (c := c) (p := p) ⟨hx, hb, hml, hown, hts⟩ (tx_at1 l adK adV hi hk)
    (va_cwS 2 hts (fun w h => eb_LTg w (tx_w6 w h)) rfl rfl rfl (by decide +kernel) ⟨Nat.le_of_ble_eq_true rfl, Nat.le_of_ble_eq_true rfl⟩)
    ⟨tx_blind, fun U hU hW => ⟨rfl, hpre H1 (fun q h1 h2 => hS1.2.1 q h1 h2) U hU hW⟩⟩ rfl rfl hl.1 rfl (Nat.le_of_ble_eq_true rfl) dT_at_12 ⟨Nat.le_refl _, Nat.le_refl _⟩
  refine va_calli hrun2 hS1 (fun q _ h => h) (fun q h => h) fun r u t H2 locs2 ht hal hr2 _ hz hH hS2 => ?_
  subst hr2
  exact W.zret (v := tx_c i k.toNatClampNeg) hx hb hr c3 (fun t ht hW => ⟨⟨_, (), rfl, rfl, trivial⟩, hS2.F ht⟩) hS2.2.2 dT_at_15
theorem tx_shr : ∀ i, i < 12 → Int32.ofNat (eb_sL.getD i 0) >>> ((0 : Int32) &&& 31) = nI (eb_sL.getD i 0) := by decide +kernel
set_option maxHeartbeats 4000000 in
theorem tx_len (l : Launch) (adK adV : Nat → Nat) {i : Nat} (hi : i < 12) : Met l yJ0_length_8abf5 (tx_w yJ0_length_8abf5 cJ0_length_8abf5 1 (some .int)) { frames := 1, cells := 0, slots := 0, locals := 20 } (va_Pc [.ref (adK i)] (fun U => tx_P adK adV U U.heap)) (va_Qi (fun (r : Int32) (_ : Unit) => r = nI (eb_sL.getD i 0)) (fun _ _ => True) tx_F) 0 0 tx_F := by
  refine Met.ofW (cc := cJ0_length_8abf5) (maxL := 1) (ret := some .int) (by decide) (ws' := eb_LT) rfl ?_
  intro p e s m args below meth c s₁ B hml hv
  obtain ⟨rfl, hP⟩ := hv
  have hx := B.exec
  have hb := B.bytes
  have hr := B.returns
  have hts := fun w hw => atoms_spec (ws := tx_w yJ0_length_8abf5 cJ0_length_8abf5 1 (some .int)) B.pre w (List.mem_cons_of_mem _ hw)
  have hown : s.vm.findClass RJ0 = some m.cls := findClass_of_methodNamed B.named
  have hlocks := B.notSynchronized
  have hS : va_S tx_F s.heap s.heap [] := va_S.rf
  have hl := lv_entry ([.ref (adK i)]) (n := 1) (Nat.le_of_ble_eq_true rfl)
  rw [lg_entry_eq]
  generalize (lg_sl ([.ref (adK i)]) ++ List.replicate (1 - (lg_sl ([.ref (adK i)])).length) Slot.unset).toArray = ls at hl ⊢
  have hl : lv_has ls 1 [(0, .ref (adK i))] := hl
  refine lv_aload_n hx hb dT_len_0 rfl (lv_at hl 0 rfl) ?_
  refine vk_getf hx hb (tx_P.at hP hi).2.2.1 hS hown (hts _ tx_f9) (fun x h => h) dT_len_1 ?_
  refine va_tlen hx hb (tx_P.at hP hi).2.2.2 hS rfl dT_len_4 ?_
  refine lv_aload_n hx hb dT_len_5 rfl (lv_at hl 0 rfl) ?_
  have hrun := va_runV (e := e) (g := F0 m 6 ls [.ref (adK i), .int (Int32.ofNat (eb_sL.getD i 0))]) (locs := []) (cells := 0) (slots := 0) (below := below) (meth := meth) (As := []) (b := adK i) (rest := [.int (Int32.ofNat (eb_sL.getD i 0))]) (Ts := eb_LT) (own := RJ0) (nL := 1) (cc := cJ0_length_8abf5) (index := 335) (H := s.heap) (R := { frames := 1, cells := 0, slots := 0, locals := 20 }) (s := s) (args := #[.ref (adK i)]) (m := m) (c := c) (p := p) ⟨hx, hb, hml, hown, hts⟩ (tx_coder l adK adV hi)
    (cwV 0 hts (fun w h => eb_LTg w (tx_w2 w h)) rfl rfl rfl (by decide +kernel) ⟨Nat.le_of_ble_eq_true rfl, Nat.le_of_ble_eq_true rfl⟩)
    ⟨tx_blind, vk_recv (adK := fun _ => adK i) (i := 0) (hP.1 i hi) Nat.zero_lt_one hS, fun U hU hW => ⟨rfl, (show tx_P _ _ U U.heap by rw [hU]; exact tx_P.moved hW.alike hP)⟩⟩ rfl rfl hl.1 rfl (Nat.le_of_ble_eq_true rfl) dT_len_6 ⟨Nat.le_refl _, Nat.le_refl _⟩
  refine va_calli hrun hS (fun q _ h => h) (fun q h => h) fun r u t H1 locs1 ht hal hr1 _ hz hH hS1 => ?_
  subst hr1
  refine lv_ishr hx hb dT_len_9 ?_
  rw [tx_shr i hi]
  exact W.iret (v := nI (eb_sL.getD i 0)) hx hb hr (fun t ht hW => ⟨⟨_, (), rfl, rfl, trivial⟩, hS1.F ht⟩) hS1.2.2 dT_len_10
theorem ty50 {L k : Nat} (h : (eb_ty L k).1 = 50) : k = 50 := by
  unfold eb_ty at h
  split at h <;> first | rfl | (simp at h)
section
variable {L q0 m pc : Nat} {lg : Nat → Bool}
theorem tx_conv {p : Program} {l : Launch} {e : Env} {R : Room} {s : State} {mt : MethodId} {args : Array Value} {below : List Frame} {meth : Method} {c : Code} {φ : eb_A → Nat} {ls : List (Option eb_V)} {st : List eb_V} {M : eb_M} {arr : Array Slot} {H : Heap} {locs : List Loc} {nL cells slots : Nat} {g : JFrame} {rest : List Value} {a : Array Value} {v : Int32} {ft : FieldType} (hA : eb_At L q0 φ s nL lg ls st M arr H locs)
    (hr : va_Run p l e R s mt args below meth c H locs cells slots 0 0 g rest (va_Qi (fun (r : Int32) (_ : Unit) => r = v) (fun _ _ => True) tx_F a) tx_F) : va_Run p l e R s mt args below meth c H locs cells slots (M.1 - M.1) (M.2.1 - M.2.1) g rest (eb_Qc L q0 φ M (zi v, M) (some ft) a) (fun q => q0 ≤ q) := by
  intro T hT X
  obtain ⟨w, st₀, t, T', Lc, h0, X', hL, e1, e2, ⟨⟨r, u, hoc, hrv, -⟩, hF⟩, stp⟩ := hr T hT X
  rw [Nat.sub_self, Nat.sub_self]
  subst hrv
  have hal : s.vm.Alike t.vm := by rw [← e2]; exact X'.warmed.alike
  refine ⟨w, st₀, t, T', Lc, h0, X', fun q hq => (hL q hq).elim, e1, e2, ⟨⟨φ, fun _ _ => rfl, hoc, ?_, fun a ha => by cases ha⟩, hF.1, fun q h1 _ => hF.2 q h1 (fun z => z)⟩, stp⟩
  have hF1 : H.size ≤ t.heap.size := by rw [← h0]; exact hF.1
  have hF2 : ∀ q : Nat, q < H.size → t.heap[q]? = H[q]? := fun q hq => by rw [← h0]; exact hF.2 q (by rw [h0]; exact hq) (fun z => z)
  exact eb_Wd_moved hal (eb_Wd_grow hA.1 (Nat.le_refl _) (fun _ _ => rfl) (fun _ _ _ => rfl) (fun _ _ _ => rfl) (fun _ _ _ => rfl) hF1 hF2 (fun n h1 h2 => absurd h2 (Nat.not_lt.mpr h1)))
theorem tx_pre {p : Program} {R : Room} {d : Nat} {s : State} {mt : MethodId} {args : Array Value} {meth : Method} {c : Code} {φ : eb_A → Nat} {ls : List (Option eb_V)} {st : List eb_V} {M : eb_M} {arr : Array Slot} {H : Heap} {locs : List Loc} (hA : eb_At L q0 φ s (eb_ml m) lg ls st M arr H locs) : ∃ adV, tx_P (fun i => φ (50, i, 0)) adV s H := by
  obtain ⟨-, -, -, -, ⟨adV, h⟩, z1, z2⟩ := hA.2.1
  exact ⟨adV, fun i hi => vk_S.narrow (h i hi) (fun q z => z.elim), va_Z.narrow z1 (fun q z => z.elim), va_Zq.narrow z2 (fun q z => z.elim)⟩
theorem tx_arg {s : State} {φ : eb_A → Nat} {ls : List (Option eb_V)} {st : List eb_V} {M : eb_M} {arr : Array Slot} {H : Heap} {locs : List Loc} {nL : Nat} {x : eb_A} (hA : eb_At L q0 φ s nL lg ls st M arr H locs) (hx : zr x ∈ st) (h : (eb_ty L x.1).1 = 50 ∧ (x.2.1 < 12 ∧ x.2.2 = 0)) : ∃ i, i < 12 ∧ x = (50, i, 0) := by
  obtain ⟨h1, h2, h3⟩ := h
  obtain ⟨a, i, z⟩ := x
  have h1 := ty50 h1
  dsimp only at h1 h2 h3
  subst h1; subst h3
  exact ⟨i, h2, rfl⟩
theorem sn_len {ix : Nat} (hw : Cond.methodLink (eb_own m) ix yJ0_length_8abf5 ∈ eb_LT) (hd : decode (eb_b m) pc = .ok (.invokevirtual ix, 3)) : eb_Snd L q0 m pc lg (op_call 905 1 (pc + 3)) := by
  refine sn_call' (rt := some .int) false rfl (Or.inr ⟨rfl, _, rfl⟩) fun l d p e R s mt args below meth c φ ls st M arr H locs r cells slots hSd hC hA hn hcat hev hk1 hk2 => ?_
  obtain ⟨k, rfl, hb⟩ := eb_ev_bi rfl hev
  generalize eAs : (st.take 1).reverse = as at hb
  rcases as with _ | ⟨(x | x) | (_ | x), _ | ⟨z, r1⟩⟩ <;> try (cases hb; done)
  have hb : (if (eb_ty L x.1).1 = 50 ∧ (x.2.1 < 12 ∧ x.2.2 = 0) ∧ 1 ≤ k then some (zi (nI (eb_tx (x.2.1 % 6)).length), M) else none) = some r := hb
  split at hb
  · next hq =>
    have e0 := eb_take1 hn eAs
    have hm : zr x ∈ st := by rw [e0]; exact List.mem_cons_self
    obtain ⟨i, hi, rfl⟩ := tx_arg hA hm ⟨hq.1, hq.2.1⟩
    obtain rfl := (Option.some.inj hb).symm
    refine ⟨Nat.le_refl _, Nat.le_refl _, (Value.ref (φ (50, i, 0)) :: []).toArray, ?_⟩
    obtain ⟨adV, hP⟩ := tx_pre (p := p) (R := R) (d := k) (mt := mt) (args := args) (meth := meth) (c := c) hA
    obtain ⟨-, h6, -⟩ := tx_all i hi
    have h6 : (eb_tx (i % 6)).length = eb_sL.getD i 0 := h6.symm
    show va_Run _ _ _ _ _ _ _ _ _ _ _ _ _ _ _ _ _ _ (eb_Qc L q0 φ M (zi (nI (eb_tx (i % 6)).length), M) (some .int) _) _
    rw [h6]
    have hcx := hC.2.2.2.2.2.2.2
    obtain ⟨cell, c1, c2, c3, -⟩ := (tx_P.at hP hi).1
    have hstk : st.map (eb_cn φ) = .ref (φ (50, i, 0)) :: (st.drop 1).map (eb_cn φ) := (congrArg (List.map (eb_cn φ)) e0).trans rfl
    exact tx_conv hA (va_runV (e := e) (g := F0 mt pc arr (st.map (eb_cn φ))) (locs := locs) (cells := cells) (slots := slots) (below := below) (meth := meth) (As := []) (b := φ (50, i, 0)) (rest := (st.drop 1).map (eb_cn φ)) (Ts := eb_LT) (own := eb_own m) (nL := eb_ml m) (cc := eb_b m) (index := ix) (H := H) ⟨hC.1, hC.2.1, hC.2.2.1, hC.2.2.2.1, hC.2.2.2.2.1⟩ (tx_len l (fun i => φ (50, i, 0)) adV hi)
      (cwV 0 hC.2.2.2.2.1 (fun w h => eb_LTg w (tx_w7 hw w h)) rfl rfl rfl (by decide +kernel) ⟨by show 1 + 1 ≤ _; omega, by show 8 + (1 + 11) + 20 ≤ _; omega⟩)
      ⟨tx_blind, ⟨cell, c1, c2, c3⟩, fun U hU hW => ⟨rfl, (show tx_P _ _ U U.heap by rw [hU]; exact tx_P.moved hW.alike hP)⟩⟩ rfl rfl hA.2.2.1.1.1 hstk (lv_room (by rw [eb_cats_sum]; exact hcat)) hd ⟨by simpa using hk1, by simpa using hk2⟩)
  · cases hb
theorem sn_at {ix : Nat} (hw : Cond.methodLink (eb_own m) ix yJ0_charAt_5068e ∈ eb_LT) (hd : decode (eb_b m) pc = .ok (.invokevirtual ix, 3)) : eb_Snd L q0 m pc lg (op_call 906 2 (pc + 3)) := by
  refine sn_call' (rt := some .char) false rfl (Or.inr ⟨rfl, _, rfl⟩) fun l d p e R s mt args below meth c φ ls st M arr H locs r cells slots hSd hC hA hn hcat hev hk1 hk2 => ?_
  obtain ⟨k, rfl, hb⟩ := eb_ev_bi rfl hev
  generalize eAs : (st.take 2).reverse = as at hb
  rcases as with _ | ⟨(x | x) | (_ | x), _ | ⟨(y | y) | y, _ | ⟨z, r1⟩⟩⟩ <;> try (cases hb; done)
  have hb : (if (eb_ty L x.1).1 = 50 ∧ (x.2.1 < 12 ∧ x.2.2 = 0) ∧ eb_in y (eb_tx (x.2.1 % 6)).length = true ∧ 4 ≤ k then some (zi ((eb_tx (x.2.1 % 6)).getD y.toNatClampNeg 0), M) else none) = some r := hb
  split at hb
  · next hq =>
    have e0 := eb_take2 hn eAs
    have hm : zr x ∈ st := by rw [e0]; exact List.mem_cons_of_mem _ List.mem_cons_self
    obtain ⟨i, hi, rfl⟩ := tx_arg hA hm ⟨hq.1, hq.2.1⟩
    obtain rfl := (Option.some.inj hb).symm
    refine ⟨Nat.le_refl _, Nat.le_refl _, (Value.ref (φ (50, i, 0)) :: [.int y]).toArray, ?_⟩
    obtain ⟨adV, hP⟩ := tx_pre (p := p) (R := R) (d := k) (mt := mt) (args := args) (meth := meth) (c := c) hA
    obtain ⟨h5, h6, h7⟩ := tx_all i hi
    have h8 : vp_in y (eb_sL.getD i 0) := by rw [h6]; exact eb_in_iff.mp hq.2.2.1
    have h9 : y.toNatClampNeg < eb_sL.getD i 0 := Nat.not_le.mp fun q => h8 (Or.inr q)
    obtain ⟨-, h10, -⟩ := h7 y.toNatClampNeg (by omega)
    show va_Run _ _ _ _ _ _ _ _ _ _ _ _ _ _ _ _ _ _ (eb_Qc L q0 φ M (zi ((eb_tx (i % 6)).getD y.toNatClampNeg 0), M) (some .char) _) _
    rw [← h10]
    have hcx := hC.2.2.2.2.2.2.2
    obtain ⟨cell, c1, c2, c3, -⟩ := (tx_P.at hP hi).1
    have hk4 := hq.2.2.2
    have hstk : st.map (eb_cn φ) = .int y :: .ref (φ (50, i, 0)) :: (st.drop 2).map (eb_cn φ) := (congrArg (List.map (eb_cn φ)) e0).trans rfl
    exact tx_conv hA (va_runV (e := e) (g := F0 mt pc arr (st.map (eb_cn φ))) (locs := locs) (cells := cells) (slots := slots) (below := below) (meth := meth) (As := [.int y]) (b := φ (50, i, 0)) (rest := (st.drop 2).map (eb_cn φ)) (Ts := eb_LT) (own := eb_own m) (nL := eb_ml m) (cc := eb_b m) (index := ix) (H := H) ⟨hC.1, hC.2.1, hC.2.2.1, hC.2.2.2.1, hC.2.2.2.2.1⟩ (tx_at l (fun i => φ (50, i, 0)) adV hi h8)
      (cwV 1 hC.2.2.2.2.1 (fun w h => eb_LTg w (tx_w8 hw w h)) rfl rfl rfl (by decide +kernel) ⟨by show 3 + 1 ≤ _; omega, by show 8 + (2 + 11) + 64 ≤ _; omega⟩)
      ⟨tx_blind, ⟨cell, c1, c2, c3⟩, fun U hU hW => ⟨rfl, (show tx_P _ _ U U.heap by rw [hU]; exact tx_P.moved hW.alike hP)⟩⟩ rfl rfl hA.2.2.1.1.1 hstk (lv_room (by rw [eb_cats_sum]; exact hcat)) hd ⟨by simpa using hk1, by simpa using hk2⟩)
  · cases hb
theorem eb_take5 {st : List eb_V} {a b c d e : eb_V} (hn : 5 ≤ st.length) (h : (st.take 5).reverse = [a, b, c, d, e]) : st = e :: d :: c :: b :: a :: st.drop 5 := by
  rcases st with _ | ⟨x1, _ | ⟨x2, _ | ⟨x3, _ | ⟨x4, _ | ⟨x5, r⟩⟩⟩⟩⟩
  · simp at hn
  · simp at hn
  · simp at hn
  · simp at hn
  · simp at hn
  · simp at h
    obtain ⟨h1, h2, h3, h4, h5⟩ := h
    simp [h1, h2, h3, h4, h5]
theorem tx_nn {z : Int32} (hz : ¬ z < 0) : z.toInt = (z.toNatClampNeg : Int) := by
  have hz0 : (0 : Int) ≤ z.toInt := by
    have := Int32.not_lt.mp hz
    simpa using Int32.le_iff_toInt_le.mp this
  show z.toInt = ((z.toInt.toNat : Nat) : Int)
  omega
theorem tx_k9 : (decide (Cond.native arraycopyName ∈ lw_tbl) && decide (Cond.static arraycopyName ∈ lw_tbl) && decide (Cond.initialized "java/lang/System" ∈ lw_tbl)) = true := by decide +kernel
theorem tx_w9 : Cond.native arraycopyName ∈ eb_LT ∧ Cond.static arraycopyName ∈ eb_LT ∧ Cond.initialized "java/lang/System" ∈ eb_LT := by
  have h := tx_k9
  simp only [Bool.and_eq_true, decide_eq_true_eq] at h
  obtain ⟨⟨h1, h2⟩, h3⟩ := h
  exact ⟨List.mem_filter.mpr ⟨h1, rfl⟩, List.mem_filter.mpr ⟨h2, rfl⟩, List.mem_filter.mpr ⟨h3, rfl⟩⟩
theorem tx_nfw : nativeFrameWords "java/lang/System" "arraycopy" 5 ≤ 12 := by decide +kernel
set_option maxHeartbeats 4000000 in
theorem sn_cp {ix : Nat} (hw : Cond.methodLink (eb_own m) ix arraycopyName ∈ eb_LT) (hd : decode (eb_b m) pc = .ok (.invokestatic ix, 3)) : eb_Snd L q0 m pc lg (op_callv 904 5 (pc + 3)) := by
  refine sn_bi true rfl fun l d p e R s mt args below meth c Q φ ls st M arr H locs r cells slots hC hA hn hcat hev => ?_
  obtain ⟨k, rfl, hb⟩ := eb_ev_bi rfl hev
  generalize eAs : (st.take 5).reverse = as at hb
  rcases as with _ | ⟨(x | x) | (_ | a), _ | ⟨(i | i) | i, _ | ⟨(y | y) | (_ | b), _ | ⟨(j | j) | j, _ | ⟨(n | n) | n, _ | ⟨z, r1⟩⟩⟩⟩⟩⟩ <;> try (cases hb; done)
  have hb : (if ((eb_ty L a.1).1 = 11 ∧ (eb_ty L b.1).1 = 11) ∧ (¬ n < 0 ∧ ¬ i < 0 ∧ ¬ j < 0) ∧ i.toNatClampNeg + n.toNatClampNeg ≤ (eb_ty L a.1).2 ∧ j.toNatClampNeg + n.toNatClampNeg ≤ (eb_ty L b.1).2 then some (zn, (M.1, M.2.1, M.2.2.1, eb_cp M.2.2.2.1 a b i.toNatClampNeg j.toNatClampNeg n.toNatClampNeg, M.2.2.2.2)) else none) = some r := hb
  split at hb
  · next hq =>
    obtain ⟨⟨ha, hb1⟩, ⟨hn0, hi0, hj0⟩, h4, h5⟩ := hq
    have e0 := eb_take5 hn eAs
    obtain rfl := (Option.some.inj hb).symm
    refine ⟨rfl, rfl, fun hc hsl kk => ?_⟩
    have hts := hC.2.2.2.2.1
    have hcx := hC.2.2.2.2.2.2.2
    have ma : zr a ∈ st := by rw [e0]; simp
    have mb : zr b ∈ st := by rw [e0]; simp
    obtain ⟨na, hna, rfl⟩ := eb_ok_dom (hA.2.2.2.2.2.1 _ ma a rfl) (L := L) (by omega)
    obtain ⟨nb, hnb, rfl⟩ := eb_ok_dom (hA.2.2.2.2.2.1 _ mb b rfl) (L := L) (by omega)
    have ca := hA.1.1 na hna
    rw [ha, eb_cell_J] at ca
    obtain ⟨cA, g1, g2⟩ := ca
    have cb := hA.1.1 nb hnb
    rw [hb1, eb_cell_J] at cb
    obtain ⟨cB, f1, f2⟩ := cb
    obtain ⟨-, k0, hk0, cm0, hkk0⟩ := g1 0 (fun _ => .null)
    obtain ⟨-, k1, hk1, cm1, hkk1⟩ := f1 0 (fun _ => .null)
    intro T hT X
    have hstk : st.map (eb_cn φ) = .int n :: .int j :: .ref (φ (eb_nm nb)) :: .int i :: .ref (φ (eb_nm na)) :: (st.drop 5).map (eb_cn φ) := by
      exact (congrArg (List.map (eb_cn φ)) e0).trans rfl
    obtain ⟨vm', X', step⟩ := X.arraycopy hC.1 hC.2.2.2.1 (hts _ hw) (hts _ tx_w9.1) (hts _ tx_w9.2.1) (hts _ tx_w9.2.2) (src := φ (eb_nm na)) (dst := φ (eb_nm nb)) (cs := arrV cA (eb_ty L (eb_nm na).1).2 (fun j => .long (M.2.2.2.1 (eb_nm na) j))) (cd := arrV cB (eb_ty L (eb_nm nb).1).2 (fun j => .long (M.2.2.2.1 (eb_nm nb) j))) (srcPos := i) (destPos := j) (n := n) (by rw [hT]; exact g2) (by rw [hT]; exact f2)
      (fun _ h => by cases h) (fun _ h => by cases h) (fun h => by cases h) (fun h => by cases h) hk0 hk1 hkk0 hkk1 (by simp [refKind]) hi0 hj0 hn0
      (by rw [tx_nn hi0, tx_nn hn0, arrV_size]; omega)
      (by rw [tx_nn hj0, tx_nn hn0, arrV_size]; omega)
      (fun vm₁ _ t ht => by
        have e : (arrV cA (eb_ty L (eb_nm na).1).2 (fun j => .long (M.2.2.2.1 (eb_nm na) j))).slots.getD (i.toNatClampNeg + t) .null = .long (M.2.2.2.1 (eb_nm na) (i.toNatClampNeg + t)) := by
          rw [Array.getD_eq_getD_getElem?, arrV_read _ _ (by omega)]
          rfl
        rw [e]
        exact ⟨rfl, trivial⟩)
      (g := F0 mt pc arr (st.map (eb_cn φ))) rfl (hA.2.2.1.1.1.trans hC.2.2.1.symm) (rest := (st.drop 5).map (eb_cn φ)) hstk (by rw [hC.2.1]; exact hd) (by omega) (by rw [eb_cats_sum]; show 2 * 0 + _ + (nativeFrameWords "java/lang/System" "arraycopy" 5 + 11) ≤ _; have := tx_nfw; omega)
    have e1 : copied (arrV cA (eb_ty L (eb_nm na).1).2 (fun j => .long (M.2.2.2.1 (eb_nm na) j))) (arrV cB (eb_ty L (eb_nm nb).1).2 (fun j => .long (M.2.2.2.1 (eb_nm nb) j))) i j n = arrV cB (eb_ty L (eb_nm nb).1).2 (fun l => .long (va_cpy (M.2.2.2.1 (eb_nm na)) (M.2.2.2.1 (eb_nm nb)) i.toNatClampNeg j.toNatClampNeg n.toNatClampNeg l)) := va_copied (fun z => .long z) cA cB (M.2.2.2.1 (eb_nm na)) (M.2.2.2.1 (eb_nm nb)) h4
    rw [e1] at X' step
    generalize hcl : arrV cB (eb_ty L (eb_nm nb).1).2 (fun l => .long (va_cpy (M.2.2.2.1 (eb_nm na)) (M.2.2.2.1 (eb_nm nb)) i.toNatClampNeg j.toNatClampNeg n.toNatClampNeg l)) = cl at X' step
    have hl : φ (eb_nm nb) < H.size := (Array.getElem?_eq_some_iff.mp f2).1
    have hheap : ((T.setVm vm').setCell (φ (eb_nm nb)) cl).heap = H.setIfInBounds (φ (eb_nm nb)) cl := by rw [← hT]; rfl
    have oq : ∀ q : Nat, q ≠ φ (eb_nm nb) → (H.setIfInBounds (φ (eb_nm nb)) cl)[q]? = H[q]? := fun q hq => by simp [Array.getElem?_setIfInBounds, Ne.symm hq]
    have hz : (H.setIfInBounds (φ (eb_nm nb)) cl).size = H.size := by simp
    have hq0 : q0 ≤ φ (eb_nm nb) := hA.1.2.2.2.1 nb hnb (by omega)
    obtain ⟨a1, a2, a3, a4, a5, a6, a7⟩ := hA
    have hWd : eb_Wd L q0 φ (M.1, M.2.1, M.2.2.1, eb_cp M.2.2.2.1 (eb_nm na) (eb_nm nb) i.toNatClampNeg j.toNatClampNeg n.toNatClampNeg, M.2.2.2.2) s (H.setIfInBounds (φ (eb_nm nb)) cl) := by
      refine eb_Wd_put a1 hnb rfl (fun b l hb => rfl) (fun b l hb => if_neg fun z => hb z.1) (fun b l hb => rfl) hz oq ?_ (fun l b hb e => a1.2.2.1 nb l b hnb hb e)
      rw [hb1, eb_cell_J]
      refine ⟨cB, f1, ?_⟩
      rw [show (H.setIfInBounds (φ (eb_nm nb)) cl)[φ (eb_nm nb)]? = some cl by simp [Array.getElem?_setIfInBounds, hl], ← hcl]
      refine congrArg some (arrV_congr fun l _ => ?_)
      show Value.long (if _ then _ else _) = Value.long (if _ then _ else _)
      by_cases z : j.toNatClampNeg ≤ l ∧ l < j.toNatClampNeg + n.toNatClampNeg
      · rw [if_pos z, if_pos ⟨rfl, z⟩]
      · rw [if_neg z, if_neg (fun w => z w.2)]
    obtain ⟨t, b1, b2⟩ := kk (H.setIfInBounds (φ (eb_nm nb)) cl) _ ⟨hWd, eb_Kn_kept (fun _ _ => rfl) (fun q _ hn => oq q (fun e => hn (by rw [e]; exact hq0))) a2, a3, a4, a5, fun v hv => a6 v (by simp only [if_true] at hv; exact List.mem_of_mem_drop hv), ⟨by rw [hz]; exact a7.1, fun q g1 g2 => (oq q (fun e => g2 (by rw [e]; exact hq0))).trans (a7.2.1 q g1 g2), fun q hq => by
        rcases List.mem_append.mp hq with h | h
        · exact a7.2.2 q h
        · obtain ⟨z, -, hz⟩ := List.mem_map.mp h
          rw [← hz]
          exact hq0⟩⟩ _ hheap X'
    exact ⟨t, step t b1, b2⟩
  · cases hb
end

/-! every row of these methods is sound: by program -/
def eb_AS (L q0 m : Nat) (lg : Nat → Bool) : List (Nat × eb_O) → Prop
  | [] => True
  | q :: r => eb_Snd L q0 m q.1 lg q.2 ∧ eb_AS L q0 m lg r
theorem eb_AS_app {L q0 m : Nat} {lg : Nat → Bool} {a b : List (Nat × eb_O)} (ha : eb_AS L q0 m lg a) (hb : eb_AS L q0 m lg b) : eb_AS L q0 m lg (a ++ b) := by
  induction a with
  | nil => exact hb
  | cons q r ih => exact ⟨ha.1, ih ha.2⟩
theorem eb_AS_look {L q0 m : Nat} {lg : Nat → Bool} {kt : List (Nat × eb_O)} (h : eb_AS L q0 m lg kt) (pc : Nat) : eb_Snd L q0 m pc lg (eb_look kt pc) := by
  induction kt with
  | nil =>
    show eb_Snd L q0 m pc lg op_stuck
    refine ⟨fun cl ls st M _ => trivial, fun cl ls st M r h => ?_, fun l d ls st M s' h _ => ?_⟩
    · cases h
    · cases h
  | cons q r ih =>
    show eb_Snd L q0 m pc lg (match Nat.beq q.1 pc with | true => q.2 | false => eb_look r pc)
    cases hq : Nat.beq q.1 pc with
    | true => rw [← Nat.eq_of_beq_eq_true hq]; exact h.1
    | false => exact ih h.2
theorem eb_AS_all {L q0 m : Nat} {lg : Nat → Bool} {kt : List (Nat × eb_O)} (hk : eb_cd L m = eb_look kt) (h : eb_AS L q0 m lg kt) : ∀ pc, eb_Snd L q0 m pc lg (eb_cd L m pc) := fun pc => by
  rw [hk]; exact eb_AS_look h pc
set_option maxRecDepth 100000
theorem d0_0 : decode (eb_b 0) 0 = .ok (.aload_n 0, 1) := by decide +kernel
theorem d0_1 : decode (eb_b 0) 1 = .ok (.invokespecial 3, 3) := by decide +kernel
theorem wm_0_3 : Cond.methodLink (eb_cN 0) 3 objectInit ∈ eb_LT := eb_lt 165 (by decide +kernel)
theorem d0_4 : decode (eb_b 0) 4 = .ok (.aload_n 0, 1) := by decide +kernel
theorem d0_5 : decode (eb_b 0) 5 = .ok (.bipush 6, 2) := by decide +kernel
theorem d0_7 : decode (eb_b 0) 7 = .ok (.newarray .int, 2) := by decide +kernel
theorem d0_9 : decode (eb_b 0) 9 = .ok (.putfield 9, 3) := by decide +kernel
theorem wf_0_9 : Cond.fieldLink (eb_cN 0) 9 (eb_tT 0 3).1 (eb_tT 0 3).2.1 (eb_tT 0 3).2.2.1 ∈ eb_LT := eb_lt 175 (by decide +kernel)
theorem fi_0_3 : 3 < eb_nf 0 ∧ (eb_tt 0 3).isReference = true := ⟨by decide, rfl⟩
theorem fp_0_3 : ∀ x : Option Nat, narrow (eb_tt 0 3) (va_rf x) = va_rf x ∧ fits (eb_tt 0 3) (va_rf x) = true := fun x => by cases x <;> exact ⟨rfl, rfl⟩
theorem d0_12 : decode (eb_b 0) 12 = .ok (.return_, 1) := by decide +kernel
theorem d1_0 : decode (eb_b 1) 0 = .ok (.aload_n 0, 1) := by decide +kernel
theorem d1_1 : decode (eb_b 1) 1 = .ok (.iload_n 1, 1) := by decide +kernel
theorem d1_2 : decode (eb_b 1) 2 = .ok (.putfield 15, 3) := by decide +kernel
theorem wf_0_15 : Cond.fieldLink (eb_cN 0) 15 (eb_tT 0 0).1 (eb_tT 0 0).2.1 (eb_tT 0 0).2.2.1 ∈ eb_LT := eb_lt 166 (by decide +kernel)
theorem fi_0_0 : 0 < eb_nf 0 ∧ (eb_tt 0 0).isReference = false := ⟨by decide, rfl⟩
theorem fp_0_0 : ∀ x : Int32, narrow (eb_tt 0 0) (.int x) = .int x ∧ fits (eb_tt 0 0) (.int x) = true := fun x => ⟨rfl, rfl⟩
theorem d1_5 : decode (eb_b 1) 5 = .ok (.aload_n 0, 1) := by decide +kernel
theorem d1_6 : decode (eb_b 1) 6 = .ok (.iload_n 2, 1) := by decide +kernel
theorem d1_7 : decode (eb_b 1) 7 = .ok (.putfield 19, 3) := by decide +kernel
theorem wf_0_19 : Cond.fieldLink (eb_cN 0) 19 (eb_tT 0 1).1 (eb_tT 0 1).2.1 (eb_tT 0 1).2.2.1 ∈ eb_LT := eb_lt 169 (by decide +kernel)
theorem fi_0_1 : 1 < eb_nf 0 ∧ (eb_tt 0 1).isReference = false := ⟨by decide, rfl⟩
theorem fp_0_1 : ∀ x : Int32, narrow (eb_tt 0 1) (.int x) = .int x ∧ fits (eb_tt 0 1) (.int x) = true := fun x => ⟨rfl, rfl⟩
theorem d1_10 : decode (eb_b 1) 10 = .ok (.aload_n 0, 1) := by decide +kernel
theorem d1_11 : decode (eb_b 1) 11 = .ok (.iload_n 3, 1) := by decide +kernel
theorem d1_12 : decode (eb_b 1) 12 = .ok (.putfield 22, 3) := by decide +kernel
theorem wf_0_22 : Cond.fieldLink (eb_cN 0) 22 (eb_tT 0 2).1 (eb_tT 0 2).2.1 (eb_tT 0 2).2.2.1 ∈ eb_LT := eb_lt 172 (by decide +kernel)
theorem fi_0_2 : 2 < eb_nf 0 ∧ (eb_tt 0 2).isReference = false := ⟨by decide, rfl⟩
theorem fp_0_2 : ∀ x : Int32, narrow (eb_tt 0 2) (.int x) = .int x ∧ fits (eb_tt 0 2) (.int x) = true := fun x => ⟨rfl, rfl⟩
theorem d1_15 : decode (eb_b 1) 15 = .ok (.return_, 1) := by decide +kernel
theorem d2_0 : decode (eb_b 2) 0 = .ok (.iload_n 1, 1) := by decide +kernel
theorem d2_1 : decode (eb_b 2) 1 = .ok (.ifCond .eq 23, 3) := by decide +kernel
theorem d2_4 : decode (eb_b 2) 4 = .ok (.iload_n 1, 1) := by decide +kernel
theorem d2_5 : decode (eb_b 2) 5 = .ok (.aload_n 0, 1) := by decide +kernel
theorem d2_6 : decode (eb_b 2) 6 = .ok (.getfield 15, 3) := by decide +kernel
theorem d2_9 : decode (eb_b 2) 9 = .ok (.if_icmp .eq 15, 3) := by decide +kernel
theorem d2_12 : decode (eb_b 2) 12 = .ok (.iload_n 1, 1) := by decide +kernel
theorem d2_13 : decode (eb_b 2) 13 = .ok (.iconst 1, 1) := by decide +kernel
theorem d2_14 : decode (eb_b 2) 14 = .ok (.if_icmp .ne 14, 3) := by decide +kernel
theorem d2_17 : decode (eb_b 2) 17 = .ok (.aload_n 0, 1) := by decide +kernel
theorem d2_18 : decode (eb_b 2) 18 = .ok (.invokevirtual 25, 3) := by decide +kernel
theorem wc_4 : Cond.code (eb_y 4) (eb_b 4) (eb_ml 4) (eb_rt 4) ∈ eb_LT := eb_lt 387 (by decide +kernel)
theorem cy_4 : (eb_y 4).cls = eb_cN (eb_rc 4) ∧ (eb_y 4).cls ≠ "java/lang/invoke/MethodHandle" ∧ (eb_y 4).cls ≠ "java/lang/invoke/VarHandle" ∧ (parseMethodDescriptor (eb_y 4).desc).map (fun d => d.parameters.length) = some 0 := by decide +kernel
theorem wi_4 : Cond.instanceMethod (eb_y 4) ∈ eb_LT := eb_lt 385 (by decide +kernel)
theorem wse_4 : Cond.selects (eb_cN (eb_rc 4)) (eb_y 4) (eb_y 4) ∈ eb_LT := eb_lt 386 (by decide +kernel)
theorem kV_4 {L q0 m pc : Nat} {lg : Nat → Bool} {ix : Nat} (hw : Cond.methodLink (eb_own m) ix (eb_y 4) ∈ eb_LT) (hd : decode (eb_b m) pc = .ok (.invokevirtual ix, 3)) : eb_Snd L q0 m pc lg (op_call 4 1 (pc + 3)) := sn_callV false rfl (Or.inr ⟨rfl, _, rfl⟩) (by decide) rfl (by decide) ⟨⟨hw, wi_4, wse_4⟩, wc_4⟩ cy_4 hd
theorem wm_0_25 : Cond.methodLink (eb_cN 0) 25 (eb_y 4) ∈ eb_LT := eb_lt 384 (by decide +kernel)
theorem d2_21 : decode (eb_b 2) 21 = .ok (.ifCond .eq 7, 3) := by decide +kernel
theorem d2_24 : decode (eb_b 2) 24 = .ok (.iconst 1, 1) := by decide +kernel
theorem d2_25 : decode (eb_b 2) 25 = .ok (.goto 4, 3) := by decide +kernel
theorem d2_28 : decode (eb_b 2) 28 = .ok (.iconst 0, 1) := by decide +kernel
theorem d2_29 : decode (eb_b 2) 29 = .ok (.ireturn, 1) := by decide +kernel
theorem d3_0 : decode (eb_b 3) 0 = .ok (.aload_n 0, 1) := by decide +kernel
theorem d3_1 : decode (eb_b 3) 1 = .ok (.iconst 0, 1) := by decide +kernel
theorem d3_2 : decode (eb_b 3) 2 = .ok (.putfield 29, 3) := by decide +kernel
theorem wf_0_29 : Cond.fieldLink (eb_cN 0) 29 (eb_tT 0 4).1 (eb_tT 0 4).2.1 (eb_tT 0 4).2.2.1 ∈ eb_LT := eb_lt 178 (by decide +kernel)
theorem fi_0_4 : 4 < eb_nf 0 ∧ (eb_tt 0 4).isReference = false := ⟨by decide, rfl⟩
theorem fp_0_4 : ∀ x : Int32, narrow (eb_tt 0 4) (.int x) = .int x ∧ fits (eb_tt 0 4) (.int x) = true := fun x => ⟨rfl, rfl⟩
theorem d3_5 : decode (eb_b 3) 5 = .ok (.iconst 0, 1) := by decide +kernel
theorem d3_6 : decode (eb_b 3) 6 = .ok (.istore_n 1, 1) := by decide +kernel
theorem hn3_1 : 1 < eb_ml 3 := by decide
theorem d3_7 : decode (eb_b 3) 7 = .ok (.iload_n 1, 1) := by decide +kernel
theorem d3_8 : decode (eb_b 3) 8 = .ok (.bipush 6, 2) := by decide +kernel
theorem d3_10 : decode (eb_b 3) 10 = .ok (.if_icmp .ge 16, 3) := by decide +kernel
theorem d3_13 : decode (eb_b 3) 13 = .ok (.aload_n 0, 1) := by decide +kernel
theorem d3_14 : decode (eb_b 3) 14 = .ok (.getfield 9, 3) := by decide +kernel
theorem d3_17 : decode (eb_b 3) 17 = .ok (.iload_n 1, 1) := by decide +kernel
theorem d3_18 : decode (eb_b 3) 18 = .ok (.iconst 0, 1) := by decide +kernel
theorem d3_19 : decode (eb_b 3) 19 = .ok (.iastore, 1) := by decide +kernel
theorem d3_20 : decode (eb_b 3) 20 = .ok (.iinc 1 1, 3) := by decide +kernel
theorem d3_23 : decode (eb_b 3) 23 = .ok (.goto (-16), 3) := by decide +kernel
theorem d3_26 : decode (eb_b 3) 26 = .ok (.return_, 1) := by decide +kernel
theorem d4_0 : decode (eb_b 4) 0 = .ok (.aload_n 0, 1) := by decide +kernel
theorem d4_1 : decode (eb_b 4) 1 = .ok (.getfield 15, 3) := by decide +kernel
theorem d4_4 : decode (eb_b 4) 4 = .ok (.ifCond .eq 15, 3) := by decide +kernel
theorem d4_7 : decode (eb_b 4) 7 = .ok (.aload_n 0, 1) := by decide +kernel
theorem d4_8 : decode (eb_b 4) 8 = .ok (.getfield 15, 3) := by decide +kernel
theorem d4_11 : decode (eb_b 4) 11 = .ok (.iconst 3, 1) := by decide +kernel
theorem d4_12 : decode (eb_b 4) 12 = .ok (.if_icmp .eq 7, 3) := by decide +kernel
theorem d4_15 : decode (eb_b 4) 15 = .ok (.iconst 1, 1) := by decide +kernel
theorem d4_16 : decode (eb_b 4) 16 = .ok (.goto 4, 3) := by decide +kernel
theorem d4_19 : decode (eb_b 4) 19 = .ok (.iconst 0, 1) := by decide +kernel
theorem d4_20 : decode (eb_b 4) 20 = .ok (.ireturn, 1) := by decide +kernel
theorem d5_0 : decode (eb_b 5) 0 = .ok (.aload_n 0, 1) := by decide +kernel
theorem d5_1 : decode (eb_b 5) 1 = .ok (.getfield 15, 3) := by decide +kernel
theorem d5_4 : decode (eb_b 5) 4 = .ok (.iconst 5, 1) := by decide +kernel
theorem d5_5 : decode (eb_b 5) 5 = .ok (.if_icmp .ne 7, 3) := by decide +kernel
theorem d5_8 : decode (eb_b 5) 8 = .ok (.iconst 1, 1) := by decide +kernel
theorem d5_9 : decode (eb_b 5) 9 = .ok (.goto 4, 3) := by decide +kernel
theorem d5_12 : decode (eb_b 5) 12 = .ok (.iconst 0, 1) := by decide +kernel
theorem d5_13 : decode (eb_b 5) 13 = .ok (.ireturn, 1) := by decide +kernel
theorem d6_0 : decode (eb_b 6) 0 = .ok (.aload_n 0, 1) := by decide +kernel
theorem d6_1 : decode (eb_b 6) 1 = .ok (.invokespecial 3, 3) := by decide +kernel
theorem wm_1_3 : Cond.methodLink (eb_cN 1) 3 objectInit ∈ eb_LT := eb_lt 113 (by decide +kernel)
theorem d6_4 : decode (eb_b 6) 4 = .ok (.return_, 1) := by decide +kernel
theorem d7_0 : decode (eb_b 7) 0 = .ok (.aload_n 0, 1) := by decide +kernel
theorem d7_1 : decode (eb_b 7) 1 = .ok (.iload_n 1, 1) := by decide +kernel
theorem d7_2 : decode (eb_b 7) 2 = .ok (.putfield 9, 3) := by decide +kernel
theorem wf_1_9 : Cond.fieldLink (eb_cN 1) 9 (eb_tT 1 0).1 (eb_tT 1 0).2.1 (eb_tT 1 0).2.2.1 ∈ eb_LT := eb_lt 114 (by decide +kernel)
theorem fi_1_0 : 0 < eb_nf 1 ∧ (eb_tt 1 0).isReference = false := ⟨by decide, rfl⟩
theorem fp_1_0 : ∀ x : Int32, narrow (eb_tt 1 0) (.int x) = .int x ∧ fits (eb_tt 1 0) (.int x) = true := fun x => ⟨rfl, rfl⟩
theorem d7_5 : decode (eb_b 7) 5 = .ok (.aload_n 0, 1) := by decide +kernel
theorem d7_6 : decode (eb_b 7) 6 = .ok (.iload_n 1, 1) := by decide +kernel
theorem d7_7 : decode (eb_b 7) 7 = .ok (.putfield 15, 3) := by decide +kernel
theorem wf_1_15 : Cond.fieldLink (eb_cN 1) 15 (eb_tT 1 1).1 (eb_tT 1 1).2.1 (eb_tT 1 1).2.2.1 ∈ eb_LT := eb_lt 117 (by decide +kernel)
theorem fi_1_1 : 1 < eb_nf 1 ∧ (eb_tt 1 1).isReference = false := ⟨by decide, rfl⟩
theorem fp_1_1 : ∀ x : Int32, narrow (eb_tt 1 1) (.int x) = .int x ∧ fits (eb_tt 1 1) (.int x) = true := fun x => ⟨rfl, rfl⟩
theorem d7_10 : decode (eb_b 7) 10 = .ok (.aload_n 0, 1) := by decide +kernel
theorem d7_11 : decode (eb_b 7) 11 = .ok (.iload_n 2, 1) := by decide +kernel
theorem d7_12 : decode (eb_b 7) 12 = .ok (.putfield 18, 3) := by decide +kernel
theorem wf_1_18 : Cond.fieldLink (eb_cN 1) 18 (eb_tT 1 2).1 (eb_tT 1 2).2.1 (eb_tT 1 2).2.2.1 ∈ eb_LT := eb_lt 119 (by decide +kernel)
theorem fi_1_2 : 2 < eb_nf 1 ∧ (eb_tt 1 2).isReference = false := ⟨by decide, rfl⟩
theorem fp_1_2 : ∀ x : Int32, narrow (eb_tt 1 2) (.int x) = .int x ∧ fits (eb_tt 1 2) (.int x) = true := fun x => ⟨rfl, rfl⟩
theorem d7_15 : decode (eb_b 7) 15 = .ok (.aload_n 0, 1) := by decide +kernel
theorem d7_16 : decode (eb_b 7) 16 = .ok (.iload_n 3, 1) := by decide +kernel
theorem d7_17 : decode (eb_b 7) 17 = .ok (.putfield 21, 3) := by decide +kernel
theorem wf_1_21 : Cond.fieldLink (eb_cN 1) 21 (eb_tT 1 3).1 (eb_tT 1 3).2.1 (eb_tT 1 3).2.2.1 ∈ eb_LT := eb_lt 122 (by decide +kernel)
theorem fi_1_3 : 3 < eb_nf 1 ∧ (eb_tt 1 3).isReference = false := ⟨by decide, rfl⟩
theorem fp_1_3 : ∀ x : Int32, narrow (eb_tt 1 3) (.int x) = .int x ∧ fits (eb_tt 1 3) (.int x) = true := fun x => ⟨rfl, rfl⟩
theorem d7_20 : decode (eb_b 7) 20 = .ok (.aload_n 0, 1) := by decide +kernel
theorem d7_21 : decode (eb_b 7) 21 = .ok (.iconst (-1), 1) := by decide +kernel
theorem d7_22 : decode (eb_b 7) 22 = .ok (.putfield 24, 3) := by decide +kernel
theorem wf_1_24 : Cond.fieldLink (eb_cN 1) 24 (eb_tT 1 4).1 (eb_tT 1 4).2.1 (eb_tT 1 4).2.2.1 ∈ eb_LT := eb_lt 125 (by decide +kernel)
theorem fi_1_4 : 4 < eb_nf 1 ∧ (eb_tt 1 4).isReference = false := ⟨by decide, rfl⟩
theorem fp_1_4 : ∀ x : Int32, narrow (eb_tt 1 4) (.int x) = .int x ∧ fits (eb_tt 1 4) (.int x) = true := fun x => ⟨rfl, rfl⟩
theorem d7_25 : decode (eb_b 7) 25 = .ok (.aload_n 0, 1) := by decide +kernel
theorem d7_26 : decode (eb_b 7) 26 = .ok (.iconst 0, 1) := by decide +kernel
theorem d7_27 : decode (eb_b 7) 27 = .ok (.putfield 27, 3) := by decide +kernel
theorem wf_1_27 : Cond.fieldLink (eb_cN 1) 27 (eb_tT 1 5).1 (eb_tT 1 5).2.1 (eb_tT 1 5).2.2.1 ∈ eb_LT := eb_lt 129 (by decide +kernel)
theorem fi_1_5 : 5 < eb_nf 1 ∧ (eb_tt 1 5).isReference = false := ⟨by decide, rfl⟩
theorem fp_1_5 : ∀ x : Int32, narrow (eb_tt 1 5) (.int x) = .int x ∧ fits (eb_tt 1 5) (.int x) = true := fun x => ⟨rfl, rfl⟩
theorem d7_30 : decode (eb_b 7) 30 = .ok (.aload_n 0, 1) := by decide +kernel
theorem d7_31 : decode (eb_b 7) 31 = .ok (.iconst 0, 1) := by decide +kernel
theorem d7_32 : decode (eb_b 7) 32 = .ok (.putfield 30, 3) := by decide +kernel
theorem wf_1_30 : Cond.fieldLink (eb_cN 1) 30 (eb_tT 1 6).1 (eb_tT 1 6).2.1 (eb_tT 1 6).2.2.1 ∈ eb_LT := eb_lt 132 (by decide +kernel)
theorem fi_1_6 : 6 < eb_nf 1 ∧ (eb_tt 1 6).isReference = false := ⟨by decide, rfl⟩
theorem fp_1_6 : ∀ x : Int32, narrow (eb_tt 1 6) (.int x) = .int x ∧ fits (eb_tt 1 6) (.int x) = true := fun x => ⟨rfl, rfl⟩
theorem d7_35 : decode (eb_b 7) 35 = .ok (.return_, 1) := by decide +kernel
theorem d8_0 : decode (eb_b 8) 0 = .ok (.aload_n 0, 1) := by decide +kernel
theorem d8_1 : decode (eb_b 8) 1 = .ok (.aload_n 1, 1) := by decide +kernel
theorem d8_2 : decode (eb_b 8) 2 = .ok (.getfield 9, 3) := by decide +kernel
theorem d8_5 : decode (eb_b 8) 5 = .ok (.putfield 9, 3) := by decide +kernel
theorem d8_8 : decode (eb_b 8) 8 = .ok (.aload_n 0, 1) := by decide +kernel
theorem d8_9 : decode (eb_b 8) 9 = .ok (.aload_n 1, 1) := by decide +kernel
theorem d8_10 : decode (eb_b 8) 10 = .ok (.getfield 15, 3) := by decide +kernel
theorem d8_13 : decode (eb_b 8) 13 = .ok (.putfield 15, 3) := by decide +kernel
theorem d8_16 : decode (eb_b 8) 16 = .ok (.aload_n 0, 1) := by decide +kernel
theorem d8_17 : decode (eb_b 8) 17 = .ok (.aload_n 1, 1) := by decide +kernel
theorem d8_18 : decode (eb_b 8) 18 = .ok (.getfield 18, 3) := by decide +kernel
theorem d8_21 : decode (eb_b 8) 21 = .ok (.putfield 18, 3) := by decide +kernel
theorem d8_24 : decode (eb_b 8) 24 = .ok (.aload_n 0, 1) := by decide +kernel
theorem d8_25 : decode (eb_b 8) 25 = .ok (.aload_n 1, 1) := by decide +kernel
theorem d8_26 : decode (eb_b 8) 26 = .ok (.getfield 21, 3) := by decide +kernel
theorem d8_29 : decode (eb_b 8) 29 = .ok (.putfield 21, 3) := by decide +kernel
theorem d8_32 : decode (eb_b 8) 32 = .ok (.aload_n 0, 1) := by decide +kernel
theorem d8_33 : decode (eb_b 8) 33 = .ok (.aload_n 1, 1) := by decide +kernel
theorem d8_34 : decode (eb_b 8) 34 = .ok (.getfield 24, 3) := by decide +kernel
theorem d8_37 : decode (eb_b 8) 37 = .ok (.putfield 24, 3) := by decide +kernel
theorem d8_40 : decode (eb_b 8) 40 = .ok (.aload_n 0, 1) := by decide +kernel
theorem d8_41 : decode (eb_b 8) 41 = .ok (.aload_n 1, 1) := by decide +kernel
theorem d8_42 : decode (eb_b 8) 42 = .ok (.getfield 27, 3) := by decide +kernel
theorem d8_45 : decode (eb_b 8) 45 = .ok (.putfield 27, 3) := by decide +kernel
theorem d8_48 : decode (eb_b 8) 48 = .ok (.aload_n 0, 1) := by decide +kernel
theorem d8_49 : decode (eb_b 8) 49 = .ok (.aload_n 1, 1) := by decide +kernel
theorem d8_50 : decode (eb_b 8) 50 = .ok (.getfield 30, 3) := by decide +kernel
theorem d8_53 : decode (eb_b 8) 53 = .ok (.putfield 30, 3) := by decide +kernel
theorem d8_56 : decode (eb_b 8) 56 = .ok (.return_, 1) := by decide +kernel
theorem d9_0 : decode (eb_b 9) 0 = .ok (.aload_n 0, 1) := by decide +kernel
theorem d9_1 : decode (eb_b 9) 1 = .ok (.getfield 27, 3) := by decide +kernel
theorem d9_4 : decode (eb_b 9) 4 = .ok (.bipush 99, 2) := by decide +kernel
theorem d9_6 : decode (eb_b 9) 6 = .ok (.if_icmp .ge 7, 3) := by decide +kernel
theorem d9_9 : decode (eb_b 9) 9 = .ok (.iconst 1, 1) := by decide +kernel
theorem d9_10 : decode (eb_b 9) 10 = .ok (.goto 4, 3) := by decide +kernel
theorem d9_13 : decode (eb_b 9) 13 = .ok (.iconst 0, 1) := by decide +kernel
theorem d9_14 : decode (eb_b 9) 14 = .ok (.ireturn, 1) := by decide +kernel
theorem d10_0 : decode (eb_b 10) 0 = .ok (.aload_n 0, 1) := by decide +kernel
theorem d10_1 : decode (eb_b 10) 1 = .ok (.invokevirtual 33, 3) := by decide +kernel
theorem wc_9 : Cond.code (eb_y 9) (eb_b 9) (eb_ml 9) (eb_rt 9) ∈ eb_LT := eb_lt 461 (by decide +kernel)
theorem cy_9 : (eb_y 9).cls = eb_cN (eb_rc 9) ∧ (eb_y 9).cls ≠ "java/lang/invoke/MethodHandle" ∧ (eb_y 9).cls ≠ "java/lang/invoke/VarHandle" ∧ (parseMethodDescriptor (eb_y 9).desc).map (fun d => d.parameters.length) = some 0 := by decide +kernel
theorem wi_9 : Cond.instanceMethod (eb_y 9) ∈ eb_LT := eb_lt 459 (by decide +kernel)
theorem wse_9 : Cond.selects (eb_cN (eb_rc 9)) (eb_y 9) (eb_y 9) ∈ eb_LT := eb_lt 460 (by decide +kernel)
theorem kV_9 {L q0 m pc : Nat} {lg : Nat → Bool} {ix : Nat} (hw : Cond.methodLink (eb_own m) ix (eb_y 9) ∈ eb_LT) (hd : decode (eb_b m) pc = .ok (.invokevirtual ix, 3)) : eb_Snd L q0 m pc lg (op_call 9 1 (pc + 3)) := sn_callV false rfl (Or.inr ⟨rfl, _, rfl⟩) (by decide) rfl (by decide) ⟨⟨hw, wi_9, wse_9⟩, wc_9⟩ cy_9 hd
theorem wm_1_33 : Cond.methodLink (eb_cN 1) 33 (eb_y 9) ∈ eb_LT := eb_lt 458 (by decide +kernel)
theorem d10_4 : decode (eb_b 10) 4 = .ok (.ifCond .ne 5, 3) := by decide +kernel
theorem d10_7 : decode (eb_b 10) 7 = .ok (.iconst 0, 1) := by decide +kernel
theorem d10_8 : decode (eb_b 10) 8 = .ok (.ireturn, 1) := by decide +kernel
theorem d10_9 : decode (eb_b 10) 9 = .ok (.aload_n 0, 1) := by decide +kernel
theorem d10_10 : decode (eb_b 10) 10 = .ok (.dup, 1) := by decide +kernel
theorem d10_11 : decode (eb_b 10) 11 = .ok (.getfield 27, 3) := by decide +kernel
theorem d10_14 : decode (eb_b 10) 14 = .ok (.iconst 1, 1) := by decide +kernel
theorem d10_15 : decode (eb_b 10) 15 = .ok (.iadd, 1) := by decide +kernel
theorem d10_16 : decode (eb_b 10) 16 = .ok (.putfield 27, 3) := by decide +kernel
theorem d10_19 : decode (eb_b 10) 19 = .ok (.aload_n 0, 1) := by decide +kernel
theorem d10_20 : decode (eb_b 10) 20 = .ok (.dup, 1) := by decide +kernel
theorem d10_21 : decode (eb_b 10) 21 = .ok (.getfield 30, 3) := by decide +kernel
theorem d10_24 : decode (eb_b 10) 24 = .ok (.iload_n 1, 1) := by decide +kernel
theorem d10_25 : decode (eb_b 10) 25 = .ok (.iadd, 1) := by decide +kernel
theorem d10_26 : decode (eb_b 10) 26 = .ok (.putfield 30, 3) := by decide +kernel
theorem d10_29 : decode (eb_b 10) 29 = .ok (.iconst 1, 1) := by decide +kernel
theorem d10_30 : decode (eb_b 10) 30 = .ok (.ireturn, 1) := by decide +kernel
theorem d11_0 : decode (eb_b 11) 0 = .ok (.aload_n 0, 1) := by decide +kernel
theorem d11_1 : decode (eb_b 11) 1 = .ok (.getfield 27, 3) := by decide +kernel
theorem d11_4 : decode (eb_b 11) 4 = .ok (.iload_n 1, 1) := by decide +kernel
theorem d11_5 : decode (eb_b 11) 5 = .ok (.iadd, 1) := by decide +kernel
theorem d11_6 : decode (eb_b 11) 6 = .ok (.istore_n 3, 1) := by decide +kernel
theorem hn11_3 : 3 < eb_ml 11 := by decide
theorem d11_7 : decode (eb_b 11) 7 = .ok (.iload_n 3, 1) := by decide +kernel
theorem d11_8 : decode (eb_b 11) 8 = .ok (.iconst 1, 1) := by decide +kernel
theorem d11_9 : decode (eb_b 11) 9 = .ok (.if_icmp .ge 7, 3) := by decide +kernel
theorem d11_12 : decode (eb_b 11) 12 = .ok (.iconst 0, 1) := by decide +kernel
theorem d11_13 : decode (eb_b 11) 13 = .ok (.goto 18, 3) := by decide +kernel
theorem d11_16 : decode (eb_b 11) 16 = .ok (.aload_n 0, 1) := by decide +kernel
theorem d11_17 : decode (eb_b 11) 17 = .ok (.getfield 30, 3) := by decide +kernel
theorem d11_20 : decode (eb_b 11) 20 = .ok (.iload_n 1, 1) := by decide +kernel
theorem d11_21 : decode (eb_b 11) 21 = .ok (.iload_n 2, 1) := by decide +kernel
theorem d11_22 : decode (eb_b 11) 22 = .ok (.imul, 1) := by decide +kernel
theorem d11_23 : decode (eb_b 11) 23 = .ok (.iadd, 1) := by decide +kernel
theorem d11_24 : decode (eb_b 11) 24 = .ok (.iload_n 3, 1) := by decide +kernel
theorem d11_25 : decode (eb_b 11) 25 = .ok (.idiv, 1) := by decide +kernel
theorem d11_26 : decode (eb_b 11) 26 = .ok (.aload_n 0, 1) := by decide +kernel
theorem d11_27 : decode (eb_b 11) 27 = .ok (.getfield 9, 3) := by decide +kernel
theorem d11_30 : decode (eb_b 11) 30 = .ok (.isub, 1) := by decide +kernel
theorem d11_31 : decode (eb_b 11) 31 = .ok (.ireturn, 1) := by decide +kernel
theorem d12_0 : decode (eb_b 12) 0 = .ok (.aload_n 0, 1) := by decide +kernel
theorem d12_1 : decode (eb_b 12) 1 = .ok (.getfield 37, 3) := by decide +kernel
theorem wf_1_37 : Cond.fieldLink (eb_cN 1) 37 (eb_tT 1 7).1 (eb_tT 1 7).2.1 (eb_tT 1 7).2.2.1 ∈ eb_LT := eb_lt 135 (by decide +kernel)
theorem fi_1_7 : 7 < eb_nf 1 ∧ (eb_tt 1 7).isReference = false := ⟨by decide, rfl⟩
theorem d12_4 : decode (eb_b 12) 4 = .ok (.aload_n 0, 1) := by decide +kernel
theorem d12_5 : decode (eb_b 12) 5 = .ok (.getfield 18, 3) := by decide +kernel
theorem d12_8 : decode (eb_b 12) 8 = .ok (.if_icmp .lt 7, 3) := by decide +kernel
theorem d12_11 : decode (eb_b 12) 11 = .ok (.iconst 1, 1) := by decide +kernel
theorem d12_12 : decode (eb_b 12) 12 = .ok (.goto 4, 3) := by decide +kernel
theorem d12_15 : decode (eb_b 12) 15 = .ok (.iconst 0, 1) := by decide +kernel
theorem d12_16 : decode (eb_b 12) 16 = .ok (.ireturn, 1) := by decide +kernel
theorem d13_0 : decode (eb_b 13) 0 = .ok (.aload_n 0, 1) := by decide +kernel
theorem d13_1 : decode (eb_b 13) 1 = .ok (.getfield 9, 3) := by decide +kernel
theorem d13_4 : decode (eb_b 13) 4 = .ok (.aload_n 0, 1) := by decide +kernel
theorem d13_5 : decode (eb_b 13) 5 = .ok (.getfield 21, 3) := by decide +kernel
theorem d13_8 : decode (eb_b 13) 8 = .ok (.isub, 1) := by decide +kernel
theorem d13_9 : decode (eb_b 13) 9 = .ok (.aload_n 0, 1) := by decide +kernel
theorem d13_10 : decode (eb_b 13) 10 = .ok (.invokevirtual 40, 3) := by decide +kernel
theorem wc_12 : Cond.code (eb_y 12) (eb_b 12) (eb_ml 12) (eb_rt 12) ∈ eb_LT := eb_lt 673 (by decide +kernel)
theorem cy_12 : (eb_y 12).cls = eb_cN (eb_rc 12) ∧ (eb_y 12).cls ≠ "java/lang/invoke/MethodHandle" ∧ (eb_y 12).cls ≠ "java/lang/invoke/VarHandle" ∧ (parseMethodDescriptor (eb_y 12).desc).map (fun d => d.parameters.length) = some 0 := by decide +kernel
theorem wi_12 : Cond.instanceMethod (eb_y 12) ∈ eb_LT := eb_lt 671 (by decide +kernel)
theorem wse_12 : Cond.selects (eb_cN (eb_rc 12)) (eb_y 12) (eb_y 12) ∈ eb_LT := eb_lt 672 (by decide +kernel)
theorem kV_12 {L q0 m pc : Nat} {lg : Nat → Bool} {ix : Nat} (hw : Cond.methodLink (eb_own m) ix (eb_y 12) ∈ eb_LT) (hd : decode (eb_b m) pc = .ok (.invokevirtual ix, 3)) : eb_Snd L q0 m pc lg (op_call 12 1 (pc + 3)) := sn_callV false rfl (Or.inr ⟨rfl, _, rfl⟩) (by decide) rfl (by decide) ⟨⟨hw, wi_12, wse_12⟩, wc_12⟩ cy_12 hd
theorem wm_1_40 : Cond.methodLink (eb_cN 1) 40 (eb_y 12) ∈ eb_LT := eb_lt 713 (by decide +kernel)
theorem d13_13 : decode (eb_b 13) 13 = .ok (.ifCond .eq 8, 3) := by decide +kernel
theorem d13_16 : decode (eb_b 13) 16 = .ok (.bipush 20, 2) := by decide +kernel
theorem d13_18 : decode (eb_b 13) 18 = .ok (.goto 4, 3) := by decide +kernel
theorem d13_21 : decode (eb_b 13) 21 = .ok (.iconst 0, 1) := by decide +kernel
theorem d13_22 : decode (eb_b 13) 22 = .ok (.isub, 1) := by decide +kernel
theorem d13_23 : decode (eb_b 13) 23 = .ok (.ireturn, 1) := by decide +kernel
theorem d14_0 : decode (eb_b 14) 0 = .ok (.aload_n 0, 1) := by decide +kernel
theorem d14_1 : decode (eb_b 14) 1 = .ok (.getfield 21, 3) := by decide +kernel
theorem d14_4 : decode (eb_b 14) 4 = .ok (.aload_n 0, 1) := by decide +kernel
theorem d14_5 : decode (eb_b 14) 5 = .ok (.getfield 37, 3) := by decide +kernel
theorem d14_8 : decode (eb_b 14) 8 = .ok (.imul, 1) := by decide +kernel
theorem d14_9 : decode (eb_b 14) 9 = .ok (.ireturn, 1) := by decide +kernel
theorem d15_0 : decode (eb_b 15) 0 = .ok (.aload_n 0, 1) := by decide +kernel
theorem d15_1 : decode (eb_b 15) 1 = .ok (.dup, 1) := by decide +kernel
theorem d15_2 : decode (eb_b 15) 2 = .ok (.getfield 43, 3) := by decide +kernel
theorem wf_1_43 : Cond.fieldLink (eb_cN 1) 43 (eb_tT 1 8).1 (eb_tT 1 8).2.1 (eb_tT 1 8).2.2.1 ∈ eb_LT := eb_lt 138 (by decide +kernel)
theorem fi_1_8 : 8 < eb_nf 1 ∧ (eb_tt 1 8).isReference = false := ⟨by decide, rfl⟩
theorem d15_5 : decode (eb_b 15) 5 = .ok (.aload_n 0, 1) := by decide +kernel
theorem d15_6 : decode (eb_b 15) 6 = .ok (.invokevirtual 46, 3) := by decide +kernel
theorem wc_14 : Cond.code (eb_y 14) (eb_b 14) (eb_ml 14) (eb_rt 14) ∈ eb_LT := eb_lt 722 (by decide +kernel)
theorem cy_14 : (eb_y 14).cls = eb_cN (eb_rc 14) ∧ (eb_y 14).cls ≠ "java/lang/invoke/MethodHandle" ∧ (eb_y 14).cls ≠ "java/lang/invoke/VarHandle" ∧ (parseMethodDescriptor (eb_y 14).desc).map (fun d => d.parameters.length) = some 0 := by decide +kernel
theorem wi_14 : Cond.instanceMethod (eb_y 14) ∈ eb_LT := eb_lt 720 (by decide +kernel)
theorem wse_14 : Cond.selects (eb_cN (eb_rc 14)) (eb_y 14) (eb_y 14) ∈ eb_LT := eb_lt 721 (by decide +kernel)
theorem kV_14 {L q0 m pc : Nat} {lg : Nat → Bool} {ix : Nat} (hw : Cond.methodLink (eb_own m) ix (eb_y 14) ∈ eb_LT) (hd : decode (eb_b m) pc = .ok (.invokevirtual ix, 3)) : eb_Snd L q0 m pc lg (op_call 14 1 (pc + 3)) := sn_callV false rfl (Or.inr ⟨rfl, _, rfl⟩) (by decide) rfl (by decide) ⟨⟨hw, wi_14, wse_14⟩, wc_14⟩ cy_14 hd
theorem wm_1_46 : Cond.methodLink (eb_cN 1) 46 (eb_y 14) ∈ eb_LT := eb_lt 810 (by decide +kernel)
theorem d15_9 : decode (eb_b 15) 9 = .ok (.iadd, 1) := by decide +kernel
theorem d15_10 : decode (eb_b 15) 10 = .ok (.putfield 43, 3) := by decide +kernel
theorem fp_1_8 : ∀ x : Int32, narrow (eb_tt 1 8) (.int x) = .int x ∧ fits (eb_tt 1 8) (.int x) = true := fun x => ⟨rfl, rfl⟩
theorem d15_13 : decode (eb_b 15) 13 = .ok (.aload_n 0, 1) := by decide +kernel
theorem d15_14 : decode (eb_b 15) 14 = .ok (.getfield 37, 3) := by decide +kernel
theorem d15_17 : decode (eb_b 15) 17 = .ok (.ifCond .le 55, 3) := by decide +kernel
theorem d15_20 : decode (eb_b 15) 20 = .ok (.aload_n 0, 1) := by decide +kernel
theorem d15_21 : decode (eb_b 15) 21 = .ok (.getfield 24, 3) := by decide +kernel
theorem d15_24 : decode (eb_b 15) 24 = .ok (.iconst (-1), 1) := by decide +kernel
theorem d15_25 : decode (eb_b 15) 25 = .ok (.if_icmp .eq 18, 3) := by decide +kernel
theorem d15_28 : decode (eb_b 15) 28 = .ok (.aload_n 0, 1) := by decide +kernel
theorem d15_29 : decode (eb_b 15) 29 = .ok (.getfield 9, 3) := by decide +kernel
theorem d15_32 : decode (eb_b 15) 32 = .ok (.aload_n 0, 1) := by decide +kernel
theorem d15_33 : decode (eb_b 15) 33 = .ok (.getfield 24, 3) := by decide +kernel
theorem d15_36 : decode (eb_b 15) 36 = .ok (.if_icmp .ge 7, 3) := by decide +kernel
theorem d15_39 : decode (eb_b 15) 39 = .ok (.iconst 1, 1) := by decide +kernel
theorem d15_40 : decode (eb_b 15) 40 = .ok (.goto 4, 3) := by decide +kernel
theorem d15_43 : decode (eb_b 15) 43 = .ok (.iconst 0, 1) := by decide +kernel
theorem d15_44 : decode (eb_b 15) 44 = .ok (.istore_n 1, 1) := by decide +kernel
theorem hn15_1 : 1 < eb_ml 15 := by decide
theorem d15_45 : decode (eb_b 15) 45 = .ok (.aload_n 0, 1) := by decide +kernel
theorem d15_46 : decode (eb_b 15) 46 = .ok (.iload_n 1, 1) := by decide +kernel
theorem d15_47 : decode (eb_b 15) 47 = .ok (.ifCond .eq 17, 3) := by decide +kernel
theorem d15_50 : decode (eb_b 15) 50 = .ok (.iconst 0, 1) := by decide +kernel
theorem d15_51 : decode (eb_b 15) 51 = .ok (.aload_n 0, 1) := by decide +kernel
theorem d15_52 : decode (eb_b 15) 52 = .ok (.getfield 9, 3) := by decide +kernel
theorem d15_55 : decode (eb_b 15) 55 = .ok (.bipush 10, 2) := by decide +kernel
theorem d15_57 : decode (eb_b 15) 57 = .ok (.isub, 1) := by decide +kernel
theorem d15_58 : decode (eb_b 15) 58 = .ok (.invokestatic 50, 3) := by decide +kernel
theorem wm_1_50 : Cond.methodLink (eb_cN 1) 50 Lib.Math.max.name ∈ eb_LT := eb_lt 811 (by decide +kernel)
theorem d15_61 : decode (eb_b 15) 61 = .ok (.goto 7, 3) := by decide +kernel
theorem d15_64 : decode (eb_b 15) 64 = .ok (.aload_n 0, 1) := by decide +kernel
theorem d15_65 : decode (eb_b 15) 65 = .ok (.getfield 9, 3) := by decide +kernel
theorem d15_68 : decode (eb_b 15) 68 = .ok (.invokevirtual 56, 3) := by decide +kernel
theorem wc_10 : Cond.code (eb_y 10) (eb_b 10) (eb_ml 10) (eb_rt 10) ∈ eb_LT := eb_lt 457 (by decide +kernel)
theorem cy_10 : (eb_y 10).cls = eb_cN (eb_rc 10) ∧ (eb_y 10).cls ≠ "java/lang/invoke/MethodHandle" ∧ (eb_y 10).cls ≠ "java/lang/invoke/VarHandle" ∧ (parseMethodDescriptor (eb_y 10).desc).map (fun d => d.parameters.length) = some 1 := by decide +kernel
theorem wi_10 : Cond.instanceMethod (eb_y 10) ∈ eb_LT := eb_lt 455 (by decide +kernel)
theorem wse_10 : Cond.selects (eb_cN (eb_rc 10)) (eb_y 10) (eb_y 10) ∈ eb_LT := eb_lt 456 (by decide +kernel)
theorem kV_10 {L q0 m pc : Nat} {lg : Nat → Bool} {ix : Nat} (hw : Cond.methodLink (eb_own m) ix (eb_y 10) ∈ eb_LT) (hd : decode (eb_b m) pc = .ok (.invokevirtual ix, 3)) : eb_Snd L q0 m pc lg (op_call 10 2 (pc + 3)) := sn_callV false rfl (Or.inr ⟨rfl, _, rfl⟩) (by decide) rfl (by decide) ⟨⟨hw, wi_10, wse_10⟩, wc_10⟩ cy_10 hd
theorem wm_1_56 : Cond.methodLink (eb_cN 1) 56 (eb_y 10) ∈ eb_LT := eb_lt 812 (by decide +kernel)
theorem d15_71 : decode (eb_b 15) 71 = .ok (.pop, 1) := by decide +kernel
theorem d15_72 : decode (eb_b 15) 72 = .ok (.aload_n 0, 1) := by decide +kernel
theorem d15_73 : decode (eb_b 15) 73 = .ok (.invokevirtual 40, 3) := by decide +kernel
theorem d15_76 : decode (eb_b 15) 76 = .ok (.ifCond .eq 43, 3) := by decide +kernel
theorem d15_79 : decode (eb_b 15) 79 = .ok (.aload_n 0, 1) := by decide +kernel
theorem d15_80 : decode (eb_b 15) 80 = .ok (.iconst 0, 1) := by decide +kernel
theorem d15_81 : decode (eb_b 15) 81 = .ok (.aload_n 0, 1) := by decide +kernel
theorem d15_82 : decode (eb_b 15) 82 = .ok (.getfield 9, 3) := by decide +kernel
theorem d15_85 : decode (eb_b 15) 85 = .ok (.bipush 6, 2) := by decide +kernel
theorem d15_87 : decode (eb_b 15) 87 = .ok (.isub, 1) := by decide +kernel
theorem d15_88 : decode (eb_b 15) 88 = .ok (.invokestatic 50, 3) := by decide +kernel
theorem d15_91 : decode (eb_b 15) 91 = .ok (.putfield 9, 3) := by decide +kernel
theorem d15_94 : decode (eb_b 15) 94 = .ok (.aload_n 0, 1) := by decide +kernel
theorem d15_95 : decode (eb_b 15) 95 = .ok (.bipush 99, 2) := by decide +kernel
theorem d15_97 : decode (eb_b 15) 97 = .ok (.aload_n 0, 1) := by decide +kernel
theorem d15_98 : decode (eb_b 15) 98 = .ok (.getfield 21, 3) := by decide +kernel
theorem d15_101 : decode (eb_b 15) 101 = .ok (.aload_n 0, 1) := by decide +kernel
theorem d15_102 : decode (eb_b 15) 102 = .ok (.getfield 21, 3) := by decide +kernel
theorem d15_105 : decode (eb_b 15) 105 = .ok (.iconst 4, 1) := by decide +kernel
theorem d15_106 : decode (eb_b 15) 106 = .ok (.idiv, 1) := by decide +kernel
theorem d15_107 : decode (eb_b 15) 107 = .ok (.iadd, 1) := by decide +kernel
theorem d15_108 : decode (eb_b 15) 108 = .ok (.iconst 1, 1) := by decide +kernel
theorem d15_109 : decode (eb_b 15) 109 = .ok (.iadd, 1) := by decide +kernel
theorem d15_110 : decode (eb_b 15) 110 = .ok (.invokestatic 60, 3) := by decide +kernel
theorem wm_1_60 : Cond.methodLink (eb_cN 1) 60 Lib.Math.min.name ∈ eb_LT := eb_lt 813 (by decide +kernel)
theorem d15_113 : decode (eb_b 15) 113 = .ok (.putfield 21, 3) := by decide +kernel
theorem d15_116 : decode (eb_b 15) 116 = .ok (.goto 65, 3) := by decide +kernel
theorem d15_119 : decode (eb_b 15) 119 = .ok (.iconst 2, 1) := by decide +kernel
theorem d15_120 : decode (eb_b 15) 120 = .ok (.aload_n 0, 1) := by decide +kernel
theorem d15_121 : decode (eb_b 15) 121 = .ok (.getfield 37, 3) := by decide +kernel
theorem d15_124 : decode (eb_b 15) 124 = .ok (.imul, 1) := by decide +kernel
theorem d15_125 : decode (eb_b 15) 125 = .ok (.aload_n 0, 1) := by decide +kernel
theorem d15_126 : decode (eb_b 15) 126 = .ok (.getfield 18, 3) := by decide +kernel
theorem d15_129 : decode (eb_b 15) 129 = .ok (.if_icmp .ge 52, 3) := by decide +kernel
theorem d15_132 : decode (eb_b 15) 132 = .ok (.aload_n 0, 1) := by decide +kernel
theorem d15_133 : decode (eb_b 15) 133 = .ok (.aload_n 0, 1) := by decide +kernel
theorem d15_134 : decode (eb_b 15) 134 = .ok (.getfield 9, 3) := by decide +kernel
theorem d15_137 : decode (eb_b 15) 137 = .ok (.aload_n 0, 1) := by decide +kernel
theorem d15_138 : decode (eb_b 15) 138 = .ok (.getfield 15, 3) := by decide +kernel
theorem d15_141 : decode (eb_b 15) 141 = .ok (.if_icmp .ge 19, 3) := by decide +kernel
theorem d15_144 : decode (eb_b 15) 144 = .ok (.aload_n 0, 1) := by decide +kernel
theorem d15_145 : decode (eb_b 15) 145 = .ok (.getfield 15, 3) := by decide +kernel
theorem d15_148 : decode (eb_b 15) 148 = .ok (.aload_n 0, 1) := by decide +kernel
theorem d15_149 : decode (eb_b 15) 149 = .ok (.getfield 9, 3) := by decide +kernel
theorem d15_152 : decode (eb_b 15) 152 = .ok (.iconst 3, 1) := by decide +kernel
theorem d15_153 : decode (eb_b 15) 153 = .ok (.iadd, 1) := by decide +kernel
theorem d15_154 : decode (eb_b 15) 154 = .ok (.invokestatic 60, 3) := by decide +kernel
theorem d15_157 : decode (eb_b 15) 157 = .ok (.goto 7, 3) := by decide +kernel
theorem d15_160 : decode (eb_b 15) 160 = .ok (.aload_n 0, 1) := by decide +kernel
theorem d15_161 : decode (eb_b 15) 161 = .ok (.getfield 9, 3) := by decide +kernel
theorem d15_164 : decode (eb_b 15) 164 = .ok (.putfield 9, 3) := by decide +kernel
theorem d15_167 : decode (eb_b 15) 167 = .ok (.aload_n 0, 1) := by decide +kernel
theorem d15_168 : decode (eb_b 15) 168 = .ok (.iconst 0, 1) := by decide +kernel
theorem d15_169 : decode (eb_b 15) 169 = .ok (.aload_n 0, 1) := by decide +kernel
theorem d15_170 : decode (eb_b 15) 170 = .ok (.getfield 21, 3) := by decide +kernel
theorem d15_173 : decode (eb_b 15) 173 = .ok (.iconst 1, 1) := by decide +kernel
theorem d15_174 : decode (eb_b 15) 174 = .ok (.isub, 1) := by decide +kernel
theorem d15_175 : decode (eb_b 15) 175 = .ok (.invokestatic 50, 3) := by decide +kernel
theorem d15_178 : decode (eb_b 15) 178 = .ok (.putfield 21, 3) := by decide +kernel
theorem d15_181 : decode (eb_b 15) 181 = .ok (.return_, 1) := by decide +kernel
theorem d16_0 : decode (eb_b 16) 0 = .ok (.aload_n 0, 1) := by decide +kernel
theorem d16_1 : decode (eb_b 16) 1 = .ok (.invokespecial 3, 3) := by decide +kernel
theorem wm_2_3 : Cond.methodLink (eb_cN 2) 3 objectInit ∈ eb_LT := eb_lt 265 (by decide +kernel)
theorem d16_4 : decode (eb_b 16) 4 = .ok (.aload_n 0, 1) := by decide +kernel
theorem d16_5 : decode (eb_b 16) 5 = .ok (.iconst (-1), 1) := by decide +kernel
theorem d16_6 : decode (eb_b 16) 6 = .ok (.putfield 9, 3) := by decide +kernel
theorem wf_2_9 : Cond.fieldLink (eb_cN 2) 9 (eb_tT 2 0).1 (eb_tT 2 0).2.1 (eb_tT 2 0).2.2.1 ∈ eb_LT := eb_lt 266 (by decide +kernel)
theorem fi_2_0 : 0 < eb_nf 2 ∧ (eb_tt 2 0).isReference = false := ⟨by decide, rfl⟩
theorem fp_2_0 : ∀ x : Int32, narrow (eb_tt 2 0) (.int x) = .int x ∧ fits (eb_tt 2 0) (.int x) = true := fun x => ⟨rfl, rfl⟩
theorem d16_9 : decode (eb_b 16) 9 = .ok (.aload_n 0, 1) := by decide +kernel
theorem d16_10 : decode (eb_b 16) 10 = .ok (.bipush 40, 2) := by decide +kernel
theorem d16_12 : decode (eb_b 16) 12 = .ok (.newarray .long, 2) := by decide +kernel
theorem d16_14 : decode (eb_b 16) 14 = .ok (.putfield 15, 3) := by decide +kernel
theorem wf_2_15 : Cond.fieldLink (eb_cN 2) 15 (eb_tT 2 2).1 (eb_tT 2 2).2.1 (eb_tT 2 2).2.2.1 ∈ eb_LT := eb_lt 270 (by decide +kernel)
theorem fi_2_2 : 2 < eb_nf 2 ∧ (eb_tt 2 2).isReference = true := ⟨by decide, rfl⟩
theorem fp_2_2 : ∀ x : Option Nat, narrow (eb_tt 2 2) (va_rf x) = va_rf x ∧ fits (eb_tt 2 2) (va_rf x) = true := fun x => by cases x <;> exact ⟨rfl, rfl⟩
theorem d16_17 : decode (eb_b 16) 17 = .ok (.return_, 1) := by decide +kernel
theorem d17_0 : decode (eb_b 17) 0 = .ok (.aload_n 0, 1) := by decide +kernel
theorem d17_1 : decode (eb_b 17) 1 = .ok (.getfield 9, 3) := by decide +kernel
theorem d17_4 : decode (eb_b 17) 4 = .ok (.iconst 0, 1) := by decide +kernel
theorem d17_5 : decode (eb_b 17) 5 = .ok (.iconst 4, 1) := by decide +kernel
theorem d17_6 : decode (eb_b 17) 6 = .ok (.invokestatic 19, 3) := by decide +kernel
theorem wc_127 : Cond.code (eb_y 127) (eb_b 127) (eb_ml 127) (eb_rt 127) ∈ eb_LT := eb_lt 311 (by decide +kernel)
theorem cy_127 : (eb_y 127).cls ≠ "java/lang/invoke/MethodHandle" ∧ (eb_y 127).cls ≠ "java/lang/invoke/VarHandle" ∧ (parseMethodDescriptor (eb_y 127).desc).map (fun d => d.parameters.length) = some 3 := by decide +kernel
theorem wst_127 : Cond.static (eb_y 127) ∈ eb_LT := eb_lt 310 (by decide +kernel)
theorem wn_127 : Cond.initialized (eb_y 127).cls ∈ eb_LT := eb_lt 77 (by decide +kernel)
theorem kSN_127 {L q0 m pc : Nat} {lg : Nat → Bool} {ix : Nat} (hw : Cond.methodLinkNest (eb_own m) ix (eb_y 127) "EverybodyHasTheBook" ∈ eb_nest) (hd : decode (eb_b m) pc = .ok (.invokestatic ix, 3)) : eb_Snd L q0 m pc lg (op_call 127 3 (pc + 3)) := sn_callSN false rfl (Or.inr ⟨rfl, _, rfl⟩) (by decide) ⟨⟨hw, wst_127, wn_127⟩, wc_127⟩ cy_127 hd
theorem wm_2_19 : Cond.methodLinkNest (eb_cN 2) 19 (eb_y 127) "EverybodyHasTheBook" ∈ eb_nest := by decide +kernel
theorem d17_9 : decode (eb_b 17) 9 = .ok (.ireturn, 1) := by decide +kernel
theorem d18_0 : decode (eb_b 18) 0 = .ok (.aload_n 0, 1) := by decide +kernel
theorem d18_1 : decode (eb_b 18) 1 = .ok (.getfield 9, 3) := by decide +kernel
theorem d18_4 : decode (eb_b 18) 4 = .ok (.bipush 10, 2) := by decide +kernel
theorem d18_6 : decode (eb_b 18) 6 = .ok (.if_icmp .lt 7, 3) := by decide +kernel
theorem d18_9 : decode (eb_b 18) 9 = .ok (.iconst 1, 1) := by decide +kernel
theorem d18_10 : decode (eb_b 18) 10 = .ok (.goto 4, 3) := by decide +kernel
theorem d18_13 : decode (eb_b 18) 13 = .ok (.iconst 0, 1) := by decide +kernel
theorem d18_14 : decode (eb_b 18) 14 = .ok (.ireturn, 1) := by decide +kernel
theorem d19_0 : decode (eb_b 19) 0 = .ok (.aload_n 0, 1) := by decide +kernel
theorem d19_1 : decode (eb_b 19) 1 = .ok (.iload_n 1, 1) := by decide +kernel
theorem d19_2 : decode (eb_b 19) 2 = .ok (.putfield 9, 3) := by decide +kernel
theorem d19_5 : decode (eb_b 19) 5 = .ok (.aload_n 0, 1) := by decide +kernel
theorem d19_6 : decode (eb_b 19) 6 = .ok (.iload_n 2, 1) := by decide +kernel
theorem d19_7 : decode (eb_b 19) 7 = .ok (.putfield 23, 3) := by decide +kernel
theorem wf_2_23 : Cond.fieldLink (eb_cN 2) 23 (eb_tT 2 1).1 (eb_tT 2 1).2.1 (eb_tT 2 1).2.2.1 ∈ eb_LT := eb_lt 269 (by decide +kernel)
theorem fi_2_1 : 1 < eb_nf 2 ∧ (eb_tt 2 1).isReference = false := ⟨by decide, rfl⟩
theorem fp_2_1 : ∀ x : Int32, narrow (eb_tt 2 1) (.int x) = .int x ∧ fits (eb_tt 2 1) (.int x) = true := fun x => ⟨rfl, rfl⟩
theorem d19_10 : decode (eb_b 19) 10 = .ok (.iconst 0, 1) := by decide +kernel
theorem d19_11 : decode (eb_b 19) 11 = .ok (.istore_n 3, 1) := by decide +kernel
theorem hn19_3 : 3 < eb_ml 19 := by decide
theorem d19_12 : decode (eb_b 19) 12 = .ok (.iload_n 3, 1) := by decide +kernel
theorem d19_13 : decode (eb_b 19) 13 = .ok (.bipush 40, 2) := by decide +kernel
theorem d19_15 : decode (eb_b 19) 15 = .ok (.if_icmp .ge 16, 3) := by decide +kernel
theorem d19_18 : decode (eb_b 19) 18 = .ok (.aload_n 0, 1) := by decide +kernel
theorem d19_19 : decode (eb_b 19) 19 = .ok (.getfield 15, 3) := by decide +kernel
theorem d19_22 : decode (eb_b 19) 22 = .ok (.iload_n 3, 1) := by decide +kernel
theorem d19_23 : decode (eb_b 19) 23 = .ok (.lconst 0, 1) := by decide +kernel
theorem d19_24 : decode (eb_b 19) 24 = .ok (.lastore, 1) := by decide +kernel
theorem d19_25 : decode (eb_b 19) 25 = .ok (.iinc 3 1, 3) := by decide +kernel
theorem d19_28 : decode (eb_b 19) 28 = .ok (.goto (-16), 3) := by decide +kernel
theorem d19_31 : decode (eb_b 19) 31 = .ok (.return_, 1) := by decide +kernel
theorem d20_0 : decode (eb_b 20) 0 = .ok (.iload_n 2, 1) := by decide +kernel
theorem d20_1 : decode (eb_b 20) 1 = .ok (.ifCond .lt 21, 3) := by decide +kernel
theorem d20_4 : decode (eb_b 20) 4 = .ok (.iload_n 1, 1) := by decide +kernel
theorem d20_5 : decode (eb_b 20) 5 = .ok (.iconst 0, 1) := by decide +kernel
theorem d20_6 : decode (eb_b 20) 6 = .ok (.aload_n 0, 1) := by decide +kernel
theorem d20_7 : decode (eb_b 20) 7 = .ok (.getfield 23, 3) := by decide +kernel
theorem d20_10 : decode (eb_b 20) 10 = .ok (.iload_n 2, 1) := by decide +kernel
theorem d20_11 : decode (eb_b 20) 11 = .ok (.isub, 1) := by decide +kernel
theorem d20_12 : decode (eb_b 20) 12 = .ok (.invokestatic 19, 3) := by decide +kernel
theorem d20_15 : decode (eb_b 20) 15 = .ok (.ifCond .eq 7, 3) := by decide +kernel
theorem d20_18 : decode (eb_b 20) 18 = .ok (.iconst 1, 1) := by decide +kernel
theorem d20_19 : decode (eb_b 20) 19 = .ok (.goto 4, 3) := by decide +kernel
theorem d20_22 : decode (eb_b 20) 22 = .ok (.iconst 0, 1) := by decide +kernel
theorem d20_23 : decode (eb_b 20) 23 = .ok (.ireturn, 1) := by decide +kernel
theorem d21_0 : decode (eb_b 21) 0 = .ok (.aload_n 0, 1) := by decide +kernel
theorem d21_1 : decode (eb_b 21) 1 = .ok (.getfield 15, 3) := by decide +kernel
theorem d21_4 : decode (eb_b 21) 4 = .ok (.iload_n 1, 1) := by decide +kernel
theorem d21_5 : decode (eb_b 21) 5 = .ok (.aload_n 0, 1) := by decide +kernel
theorem d21_6 : decode (eb_b 21) 6 = .ok (.lload_n 2, 1) := by decide +kernel
theorem d21_7 : decode (eb_b 21) 7 = .ok (.invokevirtual 26, 3) := by decide +kernel
theorem wc_22 : Cond.code (eb_y 22) (eb_b 22) (eb_ml 22) (eb_rt 22) ∈ eb_LT := eb_lt 344 (by decide +kernel)
theorem cy_22 : (eb_y 22).cls = eb_cN (eb_rc 22) ∧ (eb_y 22).cls ≠ "java/lang/invoke/MethodHandle" ∧ (eb_y 22).cls ≠ "java/lang/invoke/VarHandle" ∧ (parseMethodDescriptor (eb_y 22).desc).map (fun d => d.parameters.length) = some 1 := by decide +kernel
theorem wi_22 : Cond.instanceMethod (eb_y 22) ∈ eb_LT := eb_lt 343 (by decide +kernel)
theorem wse_22 : Cond.selects (eb_cN (eb_rc 22)) (eb_y 22) (eb_y 22) ∈ eb_LT := eb_lt 2 (by decide +kernel)
theorem kV_22 {L q0 m pc : Nat} {lg : Nat → Bool} {ix : Nat} (hw : Cond.methodLink (eb_own m) ix (eb_y 22) ∈ eb_LT) (hd : decode (eb_b m) pc = .ok (.invokevirtual ix, 3)) : eb_Snd L q0 m pc lg (op_call 22 2 (pc + 3)) := sn_callV false rfl (Or.inr ⟨rfl, _, rfl⟩) (by decide) rfl (by decide) ⟨⟨hw, wi_22, wse_22⟩, wc_22⟩ cy_22 hd
theorem wm_2_26 : Cond.methodLink (eb_cN 2) 26 (eb_y 22) ∈ eb_LT := eb_lt 341 (by decide +kernel)
theorem d21_10 : decode (eb_b 21) 10 = .ok (.lastore, 1) := by decide +kernel
theorem d21_11 : decode (eb_b 21) 11 = .ok (.return_, 1) := by decide +kernel
theorem d22_0 : decode (eb_b 22) 0 = .ok (.aload_n 0, 1) := by decide +kernel
theorem d22_1 : decode (eb_b 22) 1 = .ok (.getfield 9, 3) := by decide +kernel
theorem d22_4 : decode (eb_b 22) 4 = .ok (.tableswitch 62 0 4 #[36, 41, 46, 62, 50], 36) := by decide +kernel
theorem d22_40 : decode (eb_b 22) 40 = .ok (.lload_n 1, 1) := by decide +kernel
theorem d22_41 : decode (eb_b 22) 41 = .ok (.l2i, 1) := by decide +kernel
theorem d22_42 : decode (eb_b 22) 42 = .ok (.i2b, 1) := by decide +kernel
theorem d22_43 : decode (eb_b 22) 43 = .ok (.i2l, 1) := by decide +kernel
theorem d22_44 : decode (eb_b 22) 44 = .ok (.lreturn, 1) := by decide +kernel
theorem d22_45 : decode (eb_b 22) 45 = .ok (.lload_n 1, 1) := by decide +kernel
theorem d22_46 : decode (eb_b 22) 46 = .ok (.l2i, 1) := by decide +kernel
theorem d22_47 : decode (eb_b 22) 47 = .ok (.i2s, 1) := by decide +kernel
theorem d22_48 : decode (eb_b 22) 48 = .ok (.i2l, 1) := by decide +kernel
theorem d22_49 : decode (eb_b 22) 49 = .ok (.lreturn, 1) := by decide +kernel
theorem d22_50 : decode (eb_b 22) 50 = .ok (.lload_n 1, 1) := by decide +kernel
theorem d22_51 : decode (eb_b 22) 51 = .ok (.l2i, 1) := by decide +kernel
theorem d22_52 : decode (eb_b 22) 52 = .ok (.i2l, 1) := by decide +kernel
theorem d22_53 : decode (eb_b 22) 53 = .ok (.lreturn, 1) := by decide +kernel
theorem d22_54 : decode (eb_b 22) 54 = .ok (.lload_n 1, 1) := by decide +kernel
theorem d22_55 : decode (eb_b 22) 55 = .ok (.lconst 0, 1) := by decide +kernel
theorem d22_56 : decode (eb_b 22) 56 = .ok (.lcmp, 1) := by decide +kernel
theorem d22_57 : decode (eb_b 22) 57 = .ok (.ifCond .eq 7, 3) := by decide +kernel
theorem d22_60 : decode (eb_b 22) 60 = .ok (.lconst 1, 1) := by decide +kernel
theorem d22_61 : decode (eb_b 22) 61 = .ok (.goto 4, 3) := by decide +kernel
theorem d22_64 : decode (eb_b 22) 64 = .ok (.lconst 0, 1) := by decide +kernel
theorem d22_65 : decode (eb_b 22) 65 = .ok (.lreturn, 1) := by decide +kernel
theorem d22_66 : decode (eb_b 22) 66 = .ok (.lload_n 1, 1) := by decide +kernel
theorem d22_67 : decode (eb_b 22) 67 = .ok (.lreturn, 1) := by decide +kernel
theorem d23_0 : decode (eb_b 23) 0 = .ok (.aload_n 0, 1) := by decide +kernel
theorem d23_1 : decode (eb_b 23) 1 = .ok (.invokespecial 3, 3) := by decide +kernel
theorem wm_3_3 : Cond.methodLink (eb_cN 3) 3 objectInit ∈ eb_LT := eb_lt 242 (by decide +kernel)
theorem d23_4 : decode (eb_b 23) 4 = .ok (.aload_n 0, 1) := by decide +kernel
theorem d23_5 : decode (eb_b 23) 5 = .ok (.sipush 250, 3) := by decide +kernel
theorem d23_8 : decode (eb_b 23) 8 = .ok (.newarray .int, 2) := by decide +kernel
theorem d23_10 : decode (eb_b 23) 10 = .ok (.putfield 9, 3) := by decide +kernel
theorem wf_3_9 : Cond.fieldLink (eb_cN 3) 9 (eb_tT 3 0).1 (eb_tT 3 0).2.1 (eb_tT 3 0).2.2.1 ∈ eb_LT := eb_lt 243 (by decide +kernel)
theorem fi_3_0 : 0 < eb_nf 3 ∧ (eb_tt 3 0).isReference = true := ⟨by decide, rfl⟩
theorem fp_3_0 : ∀ x : Option Nat, narrow (eb_tt 3 0) (va_rf x) = va_rf x ∧ fits (eb_tt 3 0) (va_rf x) = true := fun x => by cases x <;> exact ⟨rfl, rfl⟩
theorem d23_13 : decode (eb_b 23) 13 = .ok (.return_, 1) := by decide +kernel
theorem d24_0 : decode (eb_b 24) 0 = .ok (.aload_n 0, 1) := by decide +kernel
theorem d24_1 : decode (eb_b 24) 1 = .ok (.getfield 15, 3) := by decide +kernel
theorem wf_3_15 : Cond.fieldLink (eb_cN 3) 15 (eb_tT 3 1).1 (eb_tT 3 1).2.1 (eb_tT 3 1).2.2.1 ∈ eb_LT := eb_lt 244 (by decide +kernel)
theorem fi_3_1 : 1 < eb_nf 3 ∧ (eb_tt 3 1).isReference = false := ⟨by decide, rfl⟩
theorem d24_4 : decode (eb_b 24) 4 = .ok (.sipush 250, 3) := by decide +kernel
theorem d24_7 : decode (eb_b 24) 7 = .ok (.if_icmp .lt 5, 3) := by decide +kernel
theorem d24_10 : decode (eb_b 24) 10 = .ok (.iconst 0, 1) := by decide +kernel
theorem d24_11 : decode (eb_b 24) 11 = .ok (.ireturn, 1) := by decide +kernel
theorem d24_12 : decode (eb_b 24) 12 = .ok (.aload_n 0, 1) := by decide +kernel
theorem d24_13 : decode (eb_b 24) 13 = .ok (.getfield 9, 3) := by decide +kernel
theorem d24_16 : decode (eb_b 24) 16 = .ok (.aload_n 0, 1) := by decide +kernel
theorem d24_17 : decode (eb_b 24) 17 = .ok (.getfield 15, 3) := by decide +kernel
theorem d24_20 : decode (eb_b 24) 20 = .ok (.iload_n 1, 1) := by decide +kernel
theorem d24_21 : decode (eb_b 24) 21 = .ok (.iastore, 1) := by decide +kernel
theorem d24_22 : decode (eb_b 24) 22 = .ok (.aload_n 0, 1) := by decide +kernel
theorem d24_23 : decode (eb_b 24) 23 = .ok (.dup, 1) := by decide +kernel
theorem d24_24 : decode (eb_b 24) 24 = .ok (.getfield 15, 3) := by decide +kernel
theorem d24_27 : decode (eb_b 24) 27 = .ok (.iconst 1, 1) := by decide +kernel
theorem d24_28 : decode (eb_b 24) 28 = .ok (.iadd, 1) := by decide +kernel
theorem d24_29 : decode (eb_b 24) 29 = .ok (.putfield 15, 3) := by decide +kernel
theorem fp_3_1 : ∀ x : Int32, narrow (eb_tt 3 1) (.int x) = .int x ∧ fits (eb_tt 3 1) (.int x) = true := fun x => ⟨rfl, rfl⟩
theorem d24_32 : decode (eb_b 24) 32 = .ok (.iconst 1, 1) := by decide +kernel
theorem d24_33 : decode (eb_b 24) 33 = .ok (.ireturn, 1) := by decide +kernel
theorem d25_0 : decode (eb_b 25) 0 = .ok (.aload_n 0, 1) := by decide +kernel
theorem d25_1 : decode (eb_b 25) 1 = .ok (.iconst 0, 1) := by decide +kernel
theorem d25_2 : decode (eb_b 25) 2 = .ok (.putfield 19, 3) := by decide +kernel
theorem wf_3_19 : Cond.fieldLink (eb_cN 3) 19 (eb_tT 3 3).1 (eb_tT 3 3).2.1 (eb_tT 3 3).2.2.1 ∈ eb_LT := eb_lt 248 (by decide +kernel)
theorem fi_3_3 : 3 < eb_nf 3 ∧ (eb_tt 3 3).isReference = false := ⟨by decide, rfl⟩
theorem fp_3_3 : ∀ x : Int32, narrow (eb_tt 3 3) (.int x) = .int x ∧ fits (eb_tt 3 3) (.int x) = true := fun x => ⟨rfl, rfl⟩
theorem d25_5 : decode (eb_b 25) 5 = .ok (.aload_n 0, 1) := by decide +kernel
theorem d25_6 : decode (eb_b 25) 6 = .ok (.invokevirtual 22, 3) := by decide +kernel
theorem wc_35 : Cond.code (eb_y 35) (eb_b 35) (eb_ml 35) (eb_rt 35) ∈ eb_LT := eb_lt 505 (by decide +kernel)
theorem cy_35 : (eb_y 35).cls = eb_cN (eb_rc 35) ∧ (eb_y 35).cls ≠ "java/lang/invoke/MethodHandle" ∧ (eb_y 35).cls ≠ "java/lang/invoke/VarHandle" ∧ (parseMethodDescriptor (eb_y 35).desc).map (fun d => d.parameters.length) = some 0 := by decide +kernel
theorem wi_35 : Cond.instanceMethod (eb_y 35) ∈ eb_LT := eb_lt 504 (by decide +kernel)
theorem wse_35 : Cond.selects (eb_cN (eb_rc 35)) (eb_y 35) (eb_y 35) ∈ eb_LT := eb_lt 8 (by decide +kernel)
theorem kV_35 {L q0 m pc : Nat} {lg : Nat → Bool} {ix : Nat} (hw : Cond.methodLink (eb_own m) ix (eb_y 35) ∈ eb_LT) (hd : decode (eb_b m) pc = .ok (.invokevirtual ix, 3)) : eb_Snd L q0 m pc lg (op_callv 35 1 (pc + 3)) := sn_callV true rfl (Or.inl ⟨rfl, rfl⟩) (by decide) rfl (by decide) ⟨⟨hw, wi_35, wse_35⟩, wc_35⟩ cy_35 hd
theorem wm_3_22 : Cond.methodLink (eb_cN 3) 22 (eb_y 35) ∈ eb_LT := eb_lt 502 (by decide +kernel)
theorem d25_9 : decode (eb_b 25) 9 = .ok (.iconst 1, 1) := by decide +kernel
theorem d25_10 : decode (eb_b 25) 10 = .ok (.istore_n 2, 1) := by decide +kernel
theorem hn25_2 : 2 < eb_ml 25 := by decide
theorem d25_11 : decode (eb_b 25) 11 = .ok (.iload_n 2, 1) := by decide +kernel
theorem d25_12 : decode (eb_b 25) 12 = .ok (.sipush 250, 3) := by decide +kernel
theorem d25_15 : decode (eb_b 25) 15 = .ok (.if_icmp .gt 42, 3) := by decide +kernel
theorem d25_18 : decode (eb_b 25) 18 = .ok (.aload_n 0, 1) := by decide +kernel
theorem d25_19 : decode (eb_b 25) 19 = .ok (.aload_n 1, 1) := by decide +kernel
theorem d25_20 : decode (eb_b 25) 20 = .ok (.invokevirtual 25, 3) := by decide +kernel
theorem wc_26 : Cond.code (eb_y 26) (eb_b 26) (eb_ml 26) (eb_rt 26) ∈ eb_LT := eb_lt 517 (by decide +kernel)
theorem cy_26 : (eb_y 26).cls = eb_cN (eb_rc 26) ∧ (eb_y 26).cls ≠ "java/lang/invoke/MethodHandle" ∧ (eb_y 26).cls ≠ "java/lang/invoke/VarHandle" ∧ (parseMethodDescriptor (eb_y 26).desc).map (fun d => d.parameters.length) = some 1 := by decide +kernel
theorem wi_26 : Cond.instanceMethod (eb_y 26) ∈ eb_LT := eb_lt 516 (by decide +kernel)
theorem wse_26 : Cond.selects (eb_cN (eb_rc 26)) (eb_y 26) (eb_y 26) ∈ eb_LT := eb_lt 11 (by decide +kernel)
theorem kV_26 {L q0 m pc : Nat} {lg : Nat → Bool} {ix : Nat} (hw : Cond.methodLink (eb_own m) ix (eb_y 26) ∈ eb_LT) (hd : decode (eb_b m) pc = .ok (.invokevirtual ix, 3)) : eb_Snd L q0 m pc lg (op_call 26 2 (pc + 3)) := sn_callV false rfl (Or.inr ⟨rfl, _, rfl⟩) (by decide) rfl (by decide) ⟨⟨hw, wi_26, wse_26⟩, wc_26⟩ cy_26 hd
theorem wm_3_25 : Cond.methodLink (eb_cN 3) 25 (eb_y 26) ∈ eb_LT := eb_lt 514 (by decide +kernel)
theorem d25_23 : decode (eb_b 25) 23 = .ok (.ifCond .ne 5, 3) := by decide +kernel
theorem d25_26 : decode (eb_b 25) 26 = .ok (.iconst (-1), 1) := by decide +kernel
theorem d25_27 : decode (eb_b 25) 27 = .ok (.ireturn, 1) := by decide +kernel
theorem d25_28 : decode (eb_b 25) 28 = .ok (.aload_n 0, 1) := by decide +kernel
theorem d25_29 : decode (eb_b 25) 29 = .ok (.getfield 29, 3) := by decide +kernel
theorem wf_3_29 : Cond.fieldLink (eb_cN 3) 29 (eb_tT 3 4).1 (eb_tT 3 4).2.1 (eb_tT 3 4).2.2.1 ∈ eb_LT := eb_lt 249 (by decide +kernel)
theorem fi_3_4 : 4 < eb_nf 3 ∧ (eb_tt 3 4).isReference = false := ⟨by decide, rfl⟩
theorem d25_32 : decode (eb_b 25) 32 = .ok (.ifCond .ne 5, 3) := by decide +kernel
theorem d25_35 : decode (eb_b 25) 35 = .ok (.iload_n 2, 1) := by decide +kernel
theorem d25_36 : decode (eb_b 25) 36 = .ok (.ireturn, 1) := by decide +kernel
theorem d25_37 : decode (eb_b 25) 37 = .ok (.aload_n 0, 1) := by decide +kernel
theorem d25_38 : decode (eb_b 25) 38 = .ok (.getfield 29, 3) := by decide +kernel
theorem d25_41 : decode (eb_b 25) 41 = .ok (.iconst 3, 1) := by decide +kernel
theorem d25_42 : decode (eb_b 25) 42 = .ok (.if_icmp .eq 5, 3) := by decide +kernel
theorem d25_45 : decode (eb_b 25) 45 = .ok (.iconst (-1), 1) := by decide +kernel
theorem d25_46 : decode (eb_b 25) 46 = .ok (.ireturn, 1) := by decide +kernel
theorem d25_47 : decode (eb_b 25) 47 = .ok (.aload_n 0, 1) := by decide +kernel
theorem d25_48 : decode (eb_b 25) 48 = .ok (.invokevirtual 22, 3) := by decide +kernel
theorem d25_51 : decode (eb_b 25) 51 = .ok (.iinc 2 1, 3) := by decide +kernel
theorem d25_54 : decode (eb_b 25) 54 = .ok (.goto (-43), 3) := by decide +kernel
theorem d25_57 : decode (eb_b 25) 57 = .ok (.iconst (-1), 1) := by decide +kernel
theorem d25_58 : decode (eb_b 25) 58 = .ok (.ireturn, 1) := by decide +kernel
theorem d26_0 : decode (eb_b 26) 0 = .ok (.aload_n 0, 1) := by decide +kernel
theorem d26_1 : decode (eb_b 26) 1 = .ok (.ldc 32, 2) := by decide +kernel
theorem d26_3 : decode (eb_b 26) 3 = .ok (.invokevirtual 34, 3) := by decide +kernel
theorem wc_34 : Cond.code (eb_y 34) (eb_b 34) (eb_ml 34) (eb_rt 34) ∈ eb_LT := eb_lt 522 (by decide +kernel)
theorem cy_34 : (eb_y 34).cls = eb_cN (eb_rc 34) ∧ (eb_y 34).cls ≠ "java/lang/invoke/MethodHandle" ∧ (eb_y 34).cls ≠ "java/lang/invoke/VarHandle" ∧ (parseMethodDescriptor (eb_y 34).desc).map (fun d => d.parameters.length) = some 1 := by decide +kernel
theorem wi_34 : Cond.instanceMethod (eb_y 34) ∈ eb_LT := eb_lt 521 (by decide +kernel)
theorem wse_34 : Cond.selects (eb_cN (eb_rc 34)) (eb_y 34) (eb_y 34) ∈ eb_LT := eb_lt 12 (by decide +kernel)
theorem kV_34 {L q0 m pc : Nat} {lg : Nat → Bool} {ix : Nat} (hw : Cond.methodLink (eb_own m) ix (eb_y 34) ∈ eb_LT) (hd : decode (eb_b m) pc = .ok (.invokevirtual ix, 3)) : eb_Snd L q0 m pc lg (op_call 34 2 (pc + 3)) := sn_callV false rfl (Or.inr ⟨rfl, _, rfl⟩) (by decide) rfl (by decide) ⟨⟨hw, wi_34, wse_34⟩, wc_34⟩ cy_34 hd
theorem wm_3_34 : Cond.methodLink (eb_cN 3) 34 (eb_y 34) ∈ eb_LT := eb_lt 519 (by decide +kernel)
theorem d26_6 : decode (eb_b 26) 6 = .ok (.ifCond .eq 9, 3) := by decide +kernel
theorem d26_9 : decode (eb_b 26) 9 = .ok (.aload_n 0, 1) := by decide +kernel
theorem d26_10 : decode (eb_b 26) 10 = .ok (.aload_n 1, 1) := by decide +kernel
theorem d26_11 : decode (eb_b 26) 11 = .ok (.invokevirtual 38, 3) := by decide +kernel
theorem wc_27 : Cond.code (eb_y 27) (eb_b 27) (eb_ml 27) (eb_rt 27) ∈ eb_LT := eb_lt 574 (by decide +kernel)
theorem cy_27 : (eb_y 27).cls = eb_cN (eb_rc 27) ∧ (eb_y 27).cls ≠ "java/lang/invoke/MethodHandle" ∧ (eb_y 27).cls ≠ "java/lang/invoke/VarHandle" ∧ (parseMethodDescriptor (eb_y 27).desc).map (fun d => d.parameters.length) = some 1 := by decide +kernel
theorem wi_27 : Cond.instanceMethod (eb_y 27) ∈ eb_LT := eb_lt 573 (by decide +kernel)
theorem wse_27 : Cond.selects (eb_cN (eb_rc 27)) (eb_y 27) (eb_y 27) ∈ eb_LT := eb_lt 13 (by decide +kernel)
theorem kV_27 {L q0 m pc : Nat} {lg : Nat → Bool} {ix : Nat} (hw : Cond.methodLink (eb_own m) ix (eb_y 27) ∈ eb_LT) (hd : decode (eb_b m) pc = .ok (.invokevirtual ix, 3)) : eb_Snd L q0 m pc lg (op_call 27 2 (pc + 3)) := sn_callV false rfl (Or.inr ⟨rfl, _, rfl⟩) (by decide) rfl (by decide) ⟨⟨hw, wi_27, wse_27⟩, wc_27⟩ cy_27 hd
theorem wm_3_38 : Cond.methodLink (eb_cN 3) 38 (eb_y 27) ∈ eb_LT := eb_lt 571 (by decide +kernel)
theorem d26_14 : decode (eb_b 26) 14 = .ok (.ireturn, 1) := by decide +kernel
theorem d26_15 : decode (eb_b 26) 15 = .ok (.aload_n 0, 1) := by decide +kernel
theorem d26_16 : decode (eb_b 26) 16 = .ok (.ldc 41, 2) := by decide +kernel
theorem d26_18 : decode (eb_b 26) 18 = .ok (.invokevirtual 34, 3) := by decide +kernel
theorem d26_21 : decode (eb_b 26) 21 = .ok (.ifCond .eq 9, 3) := by decide +kernel
theorem d26_24 : decode (eb_b 26) 24 = .ok (.aload_n 0, 1) := by decide +kernel
theorem d26_25 : decode (eb_b 26) 25 = .ok (.aload_n 1, 1) := by decide +kernel
theorem d26_26 : decode (eb_b 26) 26 = .ok (.invokevirtual 43, 3) := by decide +kernel
theorem wc_28 : Cond.code (eb_y 28) (eb_b 28) (eb_ml 28) (eb_rt 28) ∈ eb_LT := eb_lt 590 (by decide +kernel)
theorem cy_28 : (eb_y 28).cls = eb_cN (eb_rc 28) ∧ (eb_y 28).cls ≠ "java/lang/invoke/MethodHandle" ∧ (eb_y 28).cls ≠ "java/lang/invoke/VarHandle" ∧ (parseMethodDescriptor (eb_y 28).desc).map (fun d => d.parameters.length) = some 1 := by decide +kernel
theorem wi_28 : Cond.instanceMethod (eb_y 28) ∈ eb_LT := eb_lt 589 (by decide +kernel)
theorem wse_28 : Cond.selects (eb_cN (eb_rc 28)) (eb_y 28) (eb_y 28) ∈ eb_LT := eb_lt 16 (by decide +kernel)
theorem kV_28 {L q0 m pc : Nat} {lg : Nat → Bool} {ix : Nat} (hw : Cond.methodLink (eb_own m) ix (eb_y 28) ∈ eb_LT) (hd : decode (eb_b m) pc = .ok (.invokevirtual ix, 3)) : eb_Snd L q0 m pc lg (op_call 28 2 (pc + 3)) := sn_callV false rfl (Or.inr ⟨rfl, _, rfl⟩) (by decide) rfl (by decide) ⟨⟨hw, wi_28, wse_28⟩, wc_28⟩ cy_28 hd
theorem wm_3_43 : Cond.methodLink (eb_cN 3) 43 (eb_y 28) ∈ eb_LT := eb_lt 587 (by decide +kernel)
theorem d26_29 : decode (eb_b 26) 29 = .ok (.ireturn, 1) := by decide +kernel
theorem d26_30 : decode (eb_b 26) 30 = .ok (.aload_n 0, 1) := by decide +kernel
theorem d26_31 : decode (eb_b 26) 31 = .ok (.ldc 46, 2) := by decide +kernel
theorem d26_33 : decode (eb_b 26) 33 = .ok (.invokevirtual 34, 3) := by decide +kernel
theorem d26_36 : decode (eb_b 26) 36 = .ok (.ifCond .eq 9, 3) := by decide +kernel
theorem d26_39 : decode (eb_b 26) 39 = .ok (.aload_n 0, 1) := by decide +kernel
theorem d26_40 : decode (eb_b 26) 40 = .ok (.aload_n 1, 1) := by decide +kernel
theorem d26_41 : decode (eb_b 26) 41 = .ok (.invokevirtual 48, 3) := by decide +kernel
theorem wc_29 : Cond.code (eb_y 29) (eb_b 29) (eb_ml 29) (eb_rt 29) ∈ eb_LT := eb_lt 596 (by decide +kernel)
theorem cy_29 : (eb_y 29).cls = eb_cN (eb_rc 29) ∧ (eb_y 29).cls ≠ "java/lang/invoke/MethodHandle" ∧ (eb_y 29).cls ≠ "java/lang/invoke/VarHandle" ∧ (parseMethodDescriptor (eb_y 29).desc).map (fun d => d.parameters.length) = some 1 := by decide +kernel
theorem wi_29 : Cond.instanceMethod (eb_y 29) ∈ eb_LT := eb_lt 595 (by decide +kernel)
theorem wse_29 : Cond.selects (eb_cN (eb_rc 29)) (eb_y 29) (eb_y 29) ∈ eb_LT := eb_lt 17 (by decide +kernel)
theorem kV_29 {L q0 m pc : Nat} {lg : Nat → Bool} {ix : Nat} (hw : Cond.methodLink (eb_own m) ix (eb_y 29) ∈ eb_LT) (hd : decode (eb_b m) pc = .ok (.invokevirtual ix, 3)) : eb_Snd L q0 m pc lg (op_call 29 2 (pc + 3)) := sn_callV false rfl (Or.inr ⟨rfl, _, rfl⟩) (by decide) rfl (by decide) ⟨⟨hw, wi_29, wse_29⟩, wc_29⟩ cy_29 hd
theorem wm_3_48 : Cond.methodLink (eb_cN 3) 48 (eb_y 29) ∈ eb_LT := eb_lt 593 (by decide +kernel)
theorem d26_44 : decode (eb_b 26) 44 = .ok (.ireturn, 1) := by decide +kernel
theorem d26_45 : decode (eb_b 26) 45 = .ok (.aload_n 0, 1) := by decide +kernel
theorem d26_46 : decode (eb_b 26) 46 = .ok (.ldc 51, 2) := by decide +kernel
theorem d26_48 : decode (eb_b 26) 48 = .ok (.invokevirtual 34, 3) := by decide +kernel
theorem d26_51 : decode (eb_b 26) 51 = .ok (.ifCond .eq 9, 3) := by decide +kernel
theorem d26_54 : decode (eb_b 26) 54 = .ok (.aload_n 0, 1) := by decide +kernel
theorem d26_55 : decode (eb_b 26) 55 = .ok (.aload_n 1, 1) := by decide +kernel
theorem d26_56 : decode (eb_b 26) 56 = .ok (.invokevirtual 53, 3) := by decide +kernel
theorem wc_30 : Cond.code (eb_y 30) (eb_b 30) (eb_ml 30) (eb_rt 30) ∈ eb_LT := eb_lt 603 (by decide +kernel)
theorem cy_30 : (eb_y 30).cls = eb_cN (eb_rc 30) ∧ (eb_y 30).cls ≠ "java/lang/invoke/MethodHandle" ∧ (eb_y 30).cls ≠ "java/lang/invoke/VarHandle" ∧ (parseMethodDescriptor (eb_y 30).desc).map (fun d => d.parameters.length) = some 1 := by decide +kernel
theorem wi_30 : Cond.instanceMethod (eb_y 30) ∈ eb_LT := eb_lt 602 (by decide +kernel)
theorem wse_30 : Cond.selects (eb_cN (eb_rc 30)) (eb_y 30) (eb_y 30) ∈ eb_LT := eb_lt 18 (by decide +kernel)
theorem kV_30 {L q0 m pc : Nat} {lg : Nat → Bool} {ix : Nat} (hw : Cond.methodLink (eb_own m) ix (eb_y 30) ∈ eb_LT) (hd : decode (eb_b m) pc = .ok (.invokevirtual ix, 3)) : eb_Snd L q0 m pc lg (op_call 30 2 (pc + 3)) := sn_callV false rfl (Or.inr ⟨rfl, _, rfl⟩) (by decide) rfl (by decide) ⟨⟨hw, wi_30, wse_30⟩, wc_30⟩ cy_30 hd
theorem wm_3_53 : Cond.methodLink (eb_cN 3) 53 (eb_y 30) ∈ eb_LT := eb_lt 600 (by decide +kernel)
theorem d26_59 : decode (eb_b 26) 59 = .ok (.ireturn, 1) := by decide +kernel
theorem d26_60 : decode (eb_b 26) 60 = .ok (.aload_n 0, 1) := by decide +kernel
theorem d26_61 : decode (eb_b 26) 61 = .ok (.ldc 56, 2) := by decide +kernel
theorem d26_63 : decode (eb_b 26) 63 = .ok (.invokevirtual 34, 3) := by decide +kernel
theorem d26_66 : decode (eb_b 26) 66 = .ok (.ifCond .eq 15, 3) := by decide +kernel
theorem d26_69 : decode (eb_b 26) 69 = .ok (.aload_n 0, 1) := by decide +kernel
theorem d26_70 : decode (eb_b 26) 70 = .ok (.aload_n 1, 1) := by decide +kernel
theorem d26_71 : decode (eb_b 26) 71 = .ok (.invokevirtual 58, 3) := by decide +kernel
theorem wc_31 : Cond.code (eb_y 31) (eb_b 31) (eb_ml 31) (eb_rt 31) ∈ eb_LT := eb_lt 608 (by decide +kernel)
theorem cy_31 : (eb_y 31).cls = eb_cN (eb_rc 31) ∧ (eb_y 31).cls ≠ "java/lang/invoke/MethodHandle" ∧ (eb_y 31).cls ≠ "java/lang/invoke/VarHandle" ∧ (parseMethodDescriptor (eb_y 31).desc).map (fun d => d.parameters.length) = some 1 := by decide +kernel
theorem wi_31 : Cond.instanceMethod (eb_y 31) ∈ eb_LT := eb_lt 607 (by decide +kernel)
theorem wse_31 : Cond.selects (eb_cN (eb_rc 31)) (eb_y 31) (eb_y 31) ∈ eb_LT := eb_lt 19 (by decide +kernel)
theorem kV_31 {L q0 m pc : Nat} {lg : Nat → Bool} {ix : Nat} (hw : Cond.methodLink (eb_own m) ix (eb_y 31) ∈ eb_LT) (hd : decode (eb_b m) pc = .ok (.invokevirtual ix, 3)) : eb_Snd L q0 m pc lg (op_call 31 2 (pc + 3)) := sn_callV false rfl (Or.inr ⟨rfl, _, rfl⟩) (by decide) rfl (by decide) ⟨⟨hw, wi_31, wse_31⟩, wc_31⟩ cy_31 hd
theorem wm_3_58 : Cond.methodLink (eb_cN 3) 58 (eb_y 31) ∈ eb_LT := eb_lt 605 (by decide +kernel)
theorem d26_74 : decode (eb_b 26) 74 = .ok (.ifCond .eq 7, 3) := by decide +kernel
theorem d26_77 : decode (eb_b 26) 77 = .ok (.iconst 1, 1) := by decide +kernel
theorem d26_78 : decode (eb_b 26) 78 = .ok (.goto 4, 3) := by decide +kernel
theorem d26_81 : decode (eb_b 26) 81 = .ok (.iconst 0, 1) := by decide +kernel
theorem d26_82 : decode (eb_b 26) 82 = .ok (.ireturn, 1) := by decide +kernel
theorem d27_0 : decode (eb_b 27) 0 = .ok (.aload_n 1, 1) := by decide +kernel
theorem d27_1 : decode (eb_b 27) 1 = .ok (.getfield 61, 3) := by decide +kernel
theorem wf_3_61 : Cond.fieldLink (eb_cN 3) 61 (eb_tT 4 2).1 (eb_tT 4 2).2.1 (eb_tT 4 2).2.2.1 ∈ eb_LT := eb_lt 202 (by decide +kernel)
theorem fi_4_2 : 2 < eb_nf 4 ∧ (eb_tt 4 2).isReference = false := ⟨by decide, rfl⟩
theorem d27_4 : decode (eb_b 27) 4 = .ok (.bipush 6, 2) := by decide +kernel
theorem d27_6 : decode (eb_b 27) 6 = .ok (.if_icmp .lt 5, 3) := by decide +kernel
theorem d27_9 : decode (eb_b 27) 9 = .ok (.iconst 0, 1) := by decide +kernel
theorem d27_10 : decode (eb_b 27) 10 = .ok (.ireturn, 1) := by decide +kernel
theorem d27_11 : decode (eb_b 27) 11 = .ok (.aload_n 0, 1) := by decide +kernel
theorem d27_12 : decode (eb_b 27) 12 = .ok (.invokevirtual 22, 3) := by decide +kernel
theorem d27_15 : decode (eb_b 27) 15 = .ok (.aload_n 0, 1) := by decide +kernel
theorem d27_16 : decode (eb_b 27) 16 = .ok (.iconst 0, 1) := by decide +kernel
theorem d27_17 : decode (eb_b 27) 17 = .ok (.bipush 100, 2) := by decide +kernel
theorem d27_19 : decode (eb_b 27) 19 = .ok (.invokevirtual 66, 3) := by decide +kernel
theorem wc_32 : Cond.code (eb_y 32) (eb_b 32) (eb_ml 32) (eb_rt 32) ∈ eb_LT := eb_lt 578 (by decide +kernel)
theorem cy_32 : (eb_y 32).cls = eb_cN (eb_rc 32) ∧ (eb_y 32).cls ≠ "java/lang/invoke/MethodHandle" ∧ (eb_y 32).cls ≠ "java/lang/invoke/VarHandle" ∧ (parseMethodDescriptor (eb_y 32).desc).map (fun d => d.parameters.length) = some 2 := by decide +kernel
theorem wi_32 : Cond.instanceMethod (eb_y 32) ∈ eb_LT := eb_lt 577 (by decide +kernel)
theorem wse_32 : Cond.selects (eb_cN (eb_rc 32)) (eb_y 32) (eb_y 32) ∈ eb_LT := eb_lt 14 (by decide +kernel)
theorem kV_32 {L q0 m pc : Nat} {lg : Nat → Bool} {ix : Nat} (hw : Cond.methodLink (eb_own m) ix (eb_y 32) ∈ eb_LT) (hd : decode (eb_b m) pc = .ok (.invokevirtual ix, 3)) : eb_Snd L q0 m pc lg (op_call 32 3 (pc + 3)) := sn_callV false rfl (Or.inr ⟨rfl, _, rfl⟩) (by decide) rfl (by decide) ⟨⟨hw, wi_32, wse_32⟩, wc_32⟩ cy_32 hd
theorem wm_3_66 : Cond.methodLink (eb_cN 3) 66 (eb_y 32) ∈ eb_LT := eb_lt 575 (by decide +kernel)
theorem d27_22 : decode (eb_b 27) 22 = .ok (.istore_n 2, 1) := by decide +kernel
theorem hn27_2 : 2 < eb_ml 27 := by decide
theorem d27_23 : decode (eb_b 27) 23 = .ok (.iload_n 2, 1) := by decide +kernel
theorem d27_24 : decode (eb_b 27) 24 = .ok (.iconst (-1), 1) := by decide +kernel
theorem d27_25 : decode (eb_b 27) 25 = .ok (.if_icmp .ne 7, 3) := by decide +kernel
theorem d27_28 : decode (eb_b 27) 28 = .ok (.iconst (-1), 1) := by decide +kernel
theorem d27_29 : decode (eb_b 27) 29 = .ok (.goto 10, 3) := by decide +kernel
theorem d27_32 : decode (eb_b 27) 32 = .ok (.aload_n 0, 1) := by decide +kernel
theorem d27_33 : decode (eb_b 27) 33 = .ok (.iconst 1, 1) := by decide +kernel
theorem d27_34 : decode (eb_b 27) 34 = .ok (.bipush 20, 2) := by decide +kernel
theorem d27_36 : decode (eb_b 27) 36 = .ok (.invokevirtual 66, 3) := by decide +kernel
theorem d27_39 : decode (eb_b 27) 39 = .ok (.istore_n 3, 1) := by decide +kernel
theorem hn27_3 : 3 < eb_ml 27 := by decide
theorem d27_40 : decode (eb_b 27) 40 = .ok (.iload_n 3, 1) := by decide +kernel
theorem d27_41 : decode (eb_b 27) 41 = .ok (.iconst (-1), 1) := by decide +kernel
theorem d27_42 : decode (eb_b 27) 42 = .ok (.if_icmp .ne 7, 3) := by decide +kernel
theorem d27_45 : decode (eb_b 27) 45 = .ok (.iconst (-1), 1) := by decide +kernel
theorem d27_46 : decode (eb_b 27) 46 = .ok (.goto 10, 3) := by decide +kernel
theorem d27_49 : decode (eb_b 27) 49 = .ok (.aload_n 0, 1) := by decide +kernel
theorem d27_50 : decode (eb_b 27) 50 = .ok (.iconst 0, 1) := by decide +kernel
theorem d27_51 : decode (eb_b 27) 51 = .ok (.bipush 99, 2) := by decide +kernel
theorem d27_53 : decode (eb_b 27) 53 = .ok (.invokevirtual 66, 3) := by decide +kernel
theorem d27_56 : decode (eb_b 27) 56 = .ok (.istore 4, 2) := by decide +kernel
theorem hn27_4 : 4 < eb_ml 27 := by decide
theorem d27_58 : decode (eb_b 27) 58 = .ok (.iload 4, 2) := by decide +kernel
theorem d27_60 : decode (eb_b 27) 60 = .ok (.iconst (-1), 1) := by decide +kernel
theorem d27_61 : decode (eb_b 27) 61 = .ok (.if_icmp .ne 5, 3) := by decide +kernel
theorem d27_64 : decode (eb_b 27) 64 = .ok (.iconst 0, 1) := by decide +kernel
theorem d27_65 : decode (eb_b 27) 65 = .ok (.ireturn, 1) := by decide +kernel
theorem d27_66 : decode (eb_b 27) 66 = .ok (.aload_n 1, 1) := by decide +kernel
theorem d27_67 : decode (eb_b 27) 67 = .ok (.iload_n 2, 1) := by decide +kernel
theorem d27_68 : decode (eb_b 27) 68 = .ok (.iload_n 3, 1) := by decide +kernel
theorem d27_69 : decode (eb_b 27) 69 = .ok (.iload 4, 2) := by decide +kernel
theorem d27_71 : decode (eb_b 27) 71 = .ok (.invokevirtual 70, 3) := by decide +kernel
theorem wc_40 : Cond.code (eb_y 40) (eb_b 40) (eb_ml 40) (eb_rt 40) ∈ eb_LT := eb_lt 409 (by decide +kernel)
theorem cy_40 : (eb_y 40).cls = eb_cN (eb_rc 40) ∧ (eb_y 40).cls ≠ "java/lang/invoke/MethodHandle" ∧ (eb_y 40).cls ≠ "java/lang/invoke/VarHandle" ∧ (parseMethodDescriptor (eb_y 40).desc).map (fun d => d.parameters.length) = some 3 := by decide +kernel
theorem wi_40 : Cond.instanceMethod (eb_y 40) ∈ eb_LT := eb_lt 407 (by decide +kernel)
theorem wse_40 : Cond.selects (eb_cN (eb_rc 40)) (eb_y 40) (eb_y 40) ∈ eb_LT := eb_lt 408 (by decide +kernel)
theorem kV_40 {L q0 m pc : Nat} {lg : Nat → Bool} {ix : Nat} (hw : Cond.methodLink (eb_own m) ix (eb_y 40) ∈ eb_LT) (hd : decode (eb_b m) pc = .ok (.invokevirtual ix, 3)) : eb_Snd L q0 m pc lg (op_call 40 4 (pc + 3)) := sn_callV false rfl (Or.inr ⟨rfl, _, rfl⟩) (by decide) rfl (by decide) ⟨⟨hw, wi_40, wse_40⟩, wc_40⟩ cy_40 hd
theorem wm_3_70 : Cond.methodLink (eb_cN 3) 70 (eb_y 40) ∈ eb_LT := eb_lt 584 (by decide +kernel)
theorem d27_74 : decode (eb_b 27) 74 = .ok (.istore 5, 2) := by decide +kernel
theorem hn27_5 : 5 < eb_ml 27 := by decide
theorem d27_76 : decode (eb_b 27) 76 = .ok (.iload 5, 2) := by decide +kernel
theorem d27_78 : decode (eb_b 27) 78 = .ok (.iconst (-1), 1) := by decide +kernel
theorem d27_79 : decode (eb_b 27) 79 = .ok (.if_icmp .eq 12, 3) := by decide +kernel
theorem d27_82 : decode (eb_b 27) 82 = .ok (.aload_n 0, 1) := by decide +kernel
theorem d27_83 : decode (eb_b 27) 83 = .ok (.ldc 74, 2) := by decide +kernel
theorem d27_85 : decode (eb_b 27) 85 = .ok (.invokevirtual 34, 3) := by decide +kernel
theorem d27_88 : decode (eb_b 27) 88 = .ok (.ifCond .ne 15, 3) := by decide +kernel
theorem d27_91 : decode (eb_b 27) 91 = .ok (.iload 5, 2) := by decide +kernel
theorem d27_93 : decode (eb_b 27) 93 = .ok (.iconst (-1), 1) := by decide +kernel
theorem d27_94 : decode (eb_b 27) 94 = .ok (.if_icmp .eq 7, 3) := by decide +kernel
theorem d27_97 : decode (eb_b 27) 97 = .ok (.iconst 1, 1) := by decide +kernel
theorem d27_98 : decode (eb_b 27) 98 = .ok (.goto 4, 3) := by decide +kernel
theorem d27_101 : decode (eb_b 27) 101 = .ok (.iconst 0, 1) := by decide +kernel
theorem d27_102 : decode (eb_b 27) 102 = .ok (.ireturn, 1) := by decide +kernel
theorem d27_103 : decode (eb_b 27) 103 = .ok (.aload_n 0, 1) := by decide +kernel
theorem d27_104 : decode (eb_b 27) 104 = .ok (.invokevirtual 22, 3) := by decide +kernel
theorem d27_107 : decode (eb_b 27) 107 = .ok (.aload_n 1, 1) := by decide +kernel
theorem d27_108 : decode (eb_b 27) 108 = .ok (.getfield 76, 3) := by decide +kernel
theorem wf_3_76 : Cond.fieldLink (eb_cN 3) 76 (eb_tT 4 0).1 (eb_tT 4 0).2.1 (eb_tT 4 0).2.2.1 ∈ eb_LT := eb_lt 197 (by decide +kernel)
theorem fi_4_0 : 0 < eb_nf 4 ∧ (eb_tt 4 0).isReference = true := ⟨by decide, rfl⟩
theorem d27_111 : decode (eb_b 27) 111 = .ok (.iload 5, 2) := by decide +kernel
theorem d27_113 : decode (eb_b 27) 113 = .ok (.aaload, 1) := by decide +kernel
theorem d27_114 : decode (eb_b 27) 114 = .ok (.aload_n 0, 1) := by decide +kernel
theorem d27_115 : decode (eb_b 27) 115 = .ok (.iconst 0, 1) := by decide +kernel
theorem d27_116 : decode (eb_b 27) 116 = .ok (.bipush 100, 2) := by decide +kernel
theorem d27_118 : decode (eb_b 27) 118 = .ok (.invokevirtual 66, 3) := by decide +kernel
theorem d27_121 : decode (eb_b 27) 121 = .ok (.putfield 80, 3) := by decide +kernel
theorem wf_3_80 : Cond.fieldLink (eb_cN 3) 80 (eb_tT 1 4).1 (eb_tT 1 4).2.1 (eb_tT 1 4).2.2.1 ∈ eb_LT := eb_lt 127 (by decide +kernel)
theorem d27_124 : decode (eb_b 27) 124 = .ok (.aload_n 1, 1) := by decide +kernel
theorem d27_125 : decode (eb_b 27) 125 = .ok (.getfield 76, 3) := by decide +kernel
theorem d27_128 : decode (eb_b 27) 128 = .ok (.iload 5, 2) := by decide +kernel
theorem d27_130 : decode (eb_b 27) 130 = .ok (.aaload, 1) := by decide +kernel
theorem d27_131 : decode (eb_b 27) 131 = .ok (.getfield 80, 3) := by decide +kernel
theorem d27_134 : decode (eb_b 27) 134 = .ok (.iconst (-1), 1) := by decide +kernel
theorem d27_135 : decode (eb_b 27) 135 = .ok (.if_icmp .eq 7, 3) := by decide +kernel
theorem d27_138 : decode (eb_b 27) 138 = .ok (.iconst 1, 1) := by decide +kernel
theorem d27_139 : decode (eb_b 27) 139 = .ok (.goto 4, 3) := by decide +kernel
theorem d27_142 : decode (eb_b 27) 142 = .ok (.iconst 0, 1) := by decide +kernel
theorem d27_143 : decode (eb_b 27) 143 = .ok (.ireturn, 1) := by decide +kernel
theorem d28_0 : decode (eb_b 28) 0 = .ok (.aload_n 1, 1) := by decide +kernel
theorem d28_1 : decode (eb_b 28) 1 = .ok (.getfield 84, 3) := by decide +kernel
theorem wf_3_84 : Cond.fieldLink (eb_cN 3) 84 (eb_tT 4 3).1 (eb_tT 4 3).2.1 (eb_tT 4 3).2.2.1 ∈ eb_LT := eb_lt 205 (by decide +kernel)
theorem fi_4_3 : 3 < eb_nf 4 ∧ (eb_tt 4 3).isReference = false := ⟨by decide, rfl⟩
theorem d28_4 : decode (eb_b 28) 4 = .ok (.bipush 6, 2) := by decide +kernel
theorem d28_6 : decode (eb_b 28) 6 = .ok (.if_icmp .lt 5, 3) := by decide +kernel
theorem d28_9 : decode (eb_b 28) 9 = .ok (.iconst 0, 1) := by decide +kernel
theorem d28_10 : decode (eb_b 28) 10 = .ok (.ireturn, 1) := by decide +kernel
theorem d28_11 : decode (eb_b 28) 11 = .ok (.aload_n 0, 1) := by decide +kernel
theorem d28_12 : decode (eb_b 28) 12 = .ok (.invokevirtual 22, 3) := by decide +kernel
theorem d28_15 : decode (eb_b 28) 15 = .ok (.aload_n 0, 1) := by decide +kernel
theorem d28_16 : decode (eb_b 28) 16 = .ok (.iconst 0, 1) := by decide +kernel
theorem d28_17 : decode (eb_b 28) 17 = .ok (.iconst 5, 1) := by decide +kernel
theorem d28_18 : decode (eb_b 28) 18 = .ok (.invokevirtual 66, 3) := by decide +kernel
theorem d28_21 : decode (eb_b 28) 21 = .ok (.istore_n 2, 1) := by decide +kernel
theorem hn28_2 : 2 < eb_ml 28 := by decide
theorem d28_22 : decode (eb_b 28) 22 = .ok (.iload_n 2, 1) := by decide +kernel
theorem d28_23 : decode (eb_b 28) 23 = .ok (.iconst (-1), 1) := by decide +kernel
theorem d28_24 : decode (eb_b 28) 24 = .ok (.if_icmp .ne 7, 3) := by decide +kernel
theorem d28_27 : decode (eb_b 28) 27 = .ok (.iconst (-1), 1) := by decide +kernel
theorem d28_28 : decode (eb_b 28) 28 = .ok (.goto 10, 3) := by decide +kernel
theorem d28_31 : decode (eb_b 28) 31 = .ok (.aload_n 0, 1) := by decide +kernel
theorem d28_32 : decode (eb_b 28) 32 = .ok (.iconst 1, 1) := by decide +kernel
theorem d28_33 : decode (eb_b 28) 33 = .ok (.bipush 30, 2) := by decide +kernel
theorem d28_35 : decode (eb_b 28) 35 = .ok (.invokevirtual 66, 3) := by decide +kernel
theorem d28_38 : decode (eb_b 28) 38 = .ok (.istore_n 3, 1) := by decide +kernel
theorem hn28_3 : 3 < eb_ml 28 := by decide
theorem d28_39 : decode (eb_b 28) 39 = .ok (.iload_n 3, 1) := by decide +kernel
theorem d28_40 : decode (eb_b 28) 40 = .ok (.iconst (-1), 1) := by decide +kernel
theorem d28_41 : decode (eb_b 28) 41 = .ok (.if_icmp .ne 7, 3) := by decide +kernel
theorem d28_44 : decode (eb_b 28) 44 = .ok (.iconst (-1), 1) := by decide +kernel
theorem d28_45 : decode (eb_b 28) 45 = .ok (.goto 10, 3) := by decide +kernel
theorem d28_48 : decode (eb_b 28) 48 = .ok (.aload_n 0, 1) := by decide +kernel
theorem d28_49 : decode (eb_b 28) 49 = .ok (.iconst 0, 1) := by decide +kernel
theorem d28_50 : decode (eb_b 28) 50 = .ok (.bipush 99, 2) := by decide +kernel
theorem d28_52 : decode (eb_b 28) 52 = .ok (.invokevirtual 66, 3) := by decide +kernel
theorem d28_55 : decode (eb_b 28) 55 = .ok (.istore 4, 2) := by decide +kernel
theorem hn28_4 : 4 < eb_ml 28 := by decide
theorem d28_57 : decode (eb_b 28) 57 = .ok (.iload 4, 2) := by decide +kernel
theorem d28_59 : decode (eb_b 28) 59 = .ok (.iconst (-1), 1) := by decide +kernel
theorem d28_60 : decode (eb_b 28) 60 = .ok (.if_icmp .eq 19, 3) := by decide +kernel
theorem d28_63 : decode (eb_b 28) 63 = .ok (.aload_n 1, 1) := by decide +kernel
theorem d28_64 : decode (eb_b 28) 64 = .ok (.iload_n 2, 1) := by decide +kernel
theorem d28_65 : decode (eb_b 28) 65 = .ok (.iload_n 3, 1) := by decide +kernel
theorem d28_66 : decode (eb_b 28) 66 = .ok (.iload 4, 2) := by decide +kernel
theorem d28_68 : decode (eb_b 28) 68 = .ok (.invokevirtual 87, 3) := by decide +kernel
theorem wc_41 : Cond.code (eb_y 41) (eb_b 41) (eb_ml 41) (eb_rt 41) ∈ eb_LT := eb_lt 421 (by decide +kernel)
theorem cy_41 : (eb_y 41).cls = eb_cN (eb_rc 41) ∧ (eb_y 41).cls ≠ "java/lang/invoke/MethodHandle" ∧ (eb_y 41).cls ≠ "java/lang/invoke/VarHandle" ∧ (parseMethodDescriptor (eb_y 41).desc).map (fun d => d.parameters.length) = some 3 := by decide +kernel
theorem wi_41 : Cond.instanceMethod (eb_y 41) ∈ eb_LT := eb_lt 419 (by decide +kernel)
theorem wse_41 : Cond.selects (eb_cN (eb_rc 41)) (eb_y 41) (eb_y 41) ∈ eb_LT := eb_lt 420 (by decide +kernel)
theorem kV_41 {L q0 m pc : Nat} {lg : Nat → Bool} {ix : Nat} (hw : Cond.methodLink (eb_own m) ix (eb_y 41) ∈ eb_LT) (hd : decode (eb_b m) pc = .ok (.invokevirtual ix, 3)) : eb_Snd L q0 m pc lg (op_call 41 4 (pc + 3)) := sn_callV false rfl (Or.inr ⟨rfl, _, rfl⟩) (by decide) rfl (by decide) ⟨⟨hw, wi_41, wse_41⟩, wc_41⟩ cy_41 hd
theorem wm_3_87 : Cond.methodLink (eb_cN 3) 87 (eb_y 41) ∈ eb_LT := eb_lt 591 (by decide +kernel)
theorem d28_71 : decode (eb_b 28) 71 = .ok (.iconst (-1), 1) := by decide +kernel
theorem d28_72 : decode (eb_b 28) 72 = .ok (.if_icmp .eq 7, 3) := by decide +kernel
theorem d28_75 : decode (eb_b 28) 75 = .ok (.iconst 1, 1) := by decide +kernel
theorem d28_76 : decode (eb_b 28) 76 = .ok (.goto 4, 3) := by decide +kernel
theorem d28_79 : decode (eb_b 28) 79 = .ok (.iconst 0, 1) := by decide +kernel
theorem d28_80 : decode (eb_b 28) 80 = .ok (.ireturn, 1) := by decide +kernel
theorem d29_0 : decode (eb_b 29) 0 = .ok (.aload_n 0, 1) := by decide +kernel
theorem d29_1 : decode (eb_b 29) 1 = .ok (.invokevirtual 22, 3) := by decide +kernel
theorem d29_4 : decode (eb_b 29) 4 = .ok (.aload_n 0, 1) := by decide +kernel
theorem d29_5 : decode (eb_b 29) 5 = .ok (.iconst 0, 1) := by decide +kernel
theorem d29_6 : decode (eb_b 29) 6 = .ok (.aload_n 1, 1) := by decide +kernel
theorem d29_7 : decode (eb_b 29) 7 = .ok (.getfield 61, 3) := by decide +kernel
theorem d29_10 : decode (eb_b 29) 10 = .ok (.iconst 1, 1) := by decide +kernel
theorem d29_11 : decode (eb_b 29) 11 = .ok (.isub, 1) := by decide +kernel
theorem d29_12 : decode (eb_b 29) 12 = .ok (.invokevirtual 90, 3) := by decide +kernel
theorem wc_33 : Cond.code (eb_y 33) (eb_b 33) (eb_ml 33) (eb_rt 33) ∈ eb_LT := eb_lt 582 (by decide +kernel)
theorem cy_33 : (eb_y 33).cls = eb_cN (eb_rc 33) ∧ (eb_y 33).cls ≠ "java/lang/invoke/MethodHandle" ∧ (eb_y 33).cls ≠ "java/lang/invoke/VarHandle" ∧ (parseMethodDescriptor (eb_y 33).desc).map (fun d => d.parameters.length) = some 2 := by decide +kernel
theorem wi_33 : Cond.instanceMethod (eb_y 33) ∈ eb_LT := eb_lt 581 (by decide +kernel)
theorem wse_33 : Cond.selects (eb_cN (eb_rc 33)) (eb_y 33) (eb_y 33) ∈ eb_LT := eb_lt 15 (by decide +kernel)
theorem kV_33 {L q0 m pc : Nat} {lg : Nat → Bool} {ix : Nat} (hw : Cond.methodLink (eb_own m) ix (eb_y 33) ∈ eb_LT) (hd : decode (eb_b m) pc = .ok (.invokevirtual ix, 3)) : eb_Snd L q0 m pc lg (op_call 33 3 (pc + 3)) := sn_callV false rfl (Or.inr ⟨rfl, _, rfl⟩) (by decide) rfl (by decide) ⟨⟨hw, wi_33, wse_33⟩, wc_33⟩ cy_33 hd
theorem wm_3_90 : Cond.methodLink (eb_cN 3) 90 (eb_y 33) ∈ eb_LT := eb_lt 579 (by decide +kernel)
theorem d29_15 : decode (eb_b 29) 15 = .ok (.istore_n 2, 1) := by decide +kernel
theorem hn29_2 : 2 < eb_ml 29 := by decide
theorem d29_16 : decode (eb_b 29) 16 = .ok (.iload_n 2, 1) := by decide +kernel
theorem d29_17 : decode (eb_b 29) 17 = .ok (.iconst (-1), 1) := by decide +kernel
theorem d29_18 : decode (eb_b 29) 18 = .ok (.if_icmp .eq 15, 3) := by decide +kernel
theorem d29_21 : decode (eb_b 29) 21 = .ok (.aload_n 1, 1) := by decide +kernel
theorem d29_22 : decode (eb_b 29) 22 = .ok (.getfield 76, 3) := by decide +kernel
theorem d29_25 : decode (eb_b 29) 25 = .ok (.iload_n 2, 1) := by decide +kernel
theorem d29_26 : decode (eb_b 29) 26 = .ok (.aaload, 1) := by decide +kernel
theorem d29_27 : decode (eb_b 29) 27 = .ok (.invokevirtual 93, 3) := by decide +kernel
theorem wm_3_93 : Cond.methodLink (eb_cN 3) 93 (eb_y 9) ∈ eb_LT := eb_lt 597 (by decide +kernel)
theorem d29_30 : decode (eb_b 29) 30 = .ok (.ifCond .ne 5, 3) := by decide +kernel
theorem d29_33 : decode (eb_b 29) 33 = .ok (.iconst 0, 1) := by decide +kernel
theorem d29_34 : decode (eb_b 29) 34 = .ok (.ireturn, 1) := by decide +kernel
theorem d29_35 : decode (eb_b 29) 35 = .ok (.aload_n 0, 1) := by decide +kernel
theorem d29_36 : decode (eb_b 29) 36 = .ok (.invokevirtual 22, 3) := by decide +kernel
theorem d29_39 : decode (eb_b 29) 39 = .ok (.aload_n 0, 1) := by decide +kernel
theorem d29_40 : decode (eb_b 29) 40 = .ok (.iconst 0, 1) := by decide +kernel
theorem d29_41 : decode (eb_b 29) 41 = .ok (.bipush 100, 2) := by decide +kernel
theorem d29_43 : decode (eb_b 29) 43 = .ok (.invokevirtual 66, 3) := by decide +kernel
theorem d29_46 : decode (eb_b 29) 46 = .ok (.istore_n 3, 1) := by decide +kernel
theorem hn29_3 : 3 < eb_ml 29 := by decide
theorem d29_47 : decode (eb_b 29) 47 = .ok (.iload_n 3, 1) := by decide +kernel
theorem d29_48 : decode (eb_b 29) 48 = .ok (.iconst (-1), 1) := by decide +kernel
theorem d29_49 : decode (eb_b 29) 49 = .ok (.if_icmp .eq 20, 3) := by decide +kernel
theorem d29_52 : decode (eb_b 29) 52 = .ok (.aload_n 1, 1) := by decide +kernel
theorem d29_53 : decode (eb_b 29) 53 = .ok (.getfield 76, 3) := by decide +kernel
theorem d29_56 : decode (eb_b 29) 56 = .ok (.iload_n 2, 1) := by decide +kernel
theorem d29_57 : decode (eb_b 29) 57 = .ok (.aaload, 1) := by decide +kernel
theorem d29_58 : decode (eb_b 29) 58 = .ok (.iload_n 3, 1) := by decide +kernel
theorem d29_59 : decode (eb_b 29) 59 = .ok (.invokevirtual 97, 3) := by decide +kernel
theorem wm_3_97 : Cond.methodLink (eb_cN 3) 97 (eb_y 10) ∈ eb_LT := eb_lt 598 (by decide +kernel)
theorem d29_62 : decode (eb_b 29) 62 = .ok (.ifCond .eq 7, 3) := by decide +kernel
theorem d29_65 : decode (eb_b 29) 65 = .ok (.iconst 1, 1) := by decide +kernel
theorem d29_66 : decode (eb_b 29) 66 = .ok (.goto 4, 3) := by decide +kernel
theorem d29_69 : decode (eb_b 29) 69 = .ok (.iconst 0, 1) := by decide +kernel
theorem d29_70 : decode (eb_b 29) 70 = .ok (.ireturn, 1) := by decide +kernel
theorem d30_0 : decode (eb_b 30) 0 = .ok (.aload_n 0, 1) := by decide +kernel
theorem d30_1 : decode (eb_b 30) 1 = .ok (.invokevirtual 22, 3) := by decide +kernel
theorem d30_4 : decode (eb_b 30) 4 = .ok (.aload_n 0, 1) := by decide +kernel
theorem d30_5 : decode (eb_b 30) 5 = .ok (.iconst 0, 1) := by decide +kernel
theorem d30_6 : decode (eb_b 30) 6 = .ok (.bipush 99, 2) := by decide +kernel
theorem d30_8 : decode (eb_b 30) 8 = .ok (.invokevirtual 66, 3) := by decide +kernel
theorem d30_11 : decode (eb_b 30) 11 = .ok (.istore_n 2, 1) := by decide +kernel
theorem hn30_2 : 2 < eb_ml 30 := by decide
theorem d30_12 : decode (eb_b 30) 12 = .ok (.iload_n 2, 1) := by decide +kernel
theorem d30_13 : decode (eb_b 30) 13 = .ok (.iconst (-1), 1) := by decide +kernel
theorem d30_14 : decode (eb_b 30) 14 = .ok (.if_icmp .ne 5, 3) := by decide +kernel
theorem d30_17 : decode (eb_b 30) 17 = .ok (.iconst 0, 1) := by decide +kernel
theorem d30_18 : decode (eb_b 30) 18 = .ok (.ireturn, 1) := by decide +kernel
theorem d30_19 : decode (eb_b 30) 19 = .ok (.aload_n 1, 1) := by decide +kernel
theorem d30_20 : decode (eb_b 30) 20 = .ok (.iload_n 2, 1) := by decide +kernel
theorem d30_21 : decode (eb_b 30) 21 = .ok (.putfield 101, 3) := by decide +kernel
theorem wf_3_101 : Cond.fieldLink (eb_cN 3) 101 (eb_tT 4 4).1 (eb_tT 4 4).2.1 (eb_tT 4 4).2.2.1 ∈ eb_LT := eb_lt 208 (by decide +kernel)
theorem fi_4_4 : 4 < eb_nf 4 ∧ (eb_tt 4 4).isReference = false := ⟨by decide, rfl⟩
theorem fp_4_4 : ∀ x : Int32, narrow (eb_tt 4 4) (.int x) = .int x ∧ fits (eb_tt 4 4) (.int x) = true := fun x => ⟨rfl, rfl⟩
theorem d30_24 : decode (eb_b 30) 24 = .ok (.iconst 1, 1) := by decide +kernel
theorem d30_25 : decode (eb_b 30) 25 = .ok (.ireturn, 1) := by decide +kernel
theorem d31_0 : decode (eb_b 31) 0 = .ok (.iconst 0, 1) := by decide +kernel
theorem d31_1 : decode (eb_b 31) 1 = .ok (.istore_n 2, 1) := by decide +kernel
theorem hn31_2 : 2 < eb_ml 31 := by decide
theorem d31_2 : decode (eb_b 31) 2 = .ok (.aload_n 0, 1) := by decide +kernel
theorem d31_3 : decode (eb_b 31) 3 = .ok (.invokevirtual 22, 3) := by decide +kernel
theorem d31_6 : decode (eb_b 31) 6 = .ok (.iconst 0, 1) := by decide +kernel
theorem d31_7 : decode (eb_b 31) 7 = .ok (.istore_n 3, 1) := by decide +kernel
theorem hn31_3 : 3 < eb_ml 31 := by decide
theorem d31_8 : decode (eb_b 31) 8 = .ok (.iload_n 3, 1) := by decide +kernel
theorem d31_9 : decode (eb_b 31) 9 = .ok (.bipush 6, 2) := by decide +kernel
theorem d31_11 : decode (eb_b 31) 11 = .ok (.if_icmp .gt 63, 3) := by decide +kernel
theorem d31_14 : decode (eb_b 31) 14 = .ok (.iload_n 3, 1) := by decide +kernel
theorem d31_15 : decode (eb_b 31) 15 = .ok (.ifCond .eq 11, 3) := by decide +kernel
theorem d31_18 : decode (eb_b 31) 18 = .ok (.aload_n 0, 1) := by decide +kernel
theorem d31_19 : decode (eb_b 31) 19 = .ok (.getfield 29, 3) := by decide +kernel
theorem d31_22 : decode (eb_b 31) 22 = .ok (.iconst 2, 1) := by decide +kernel
theorem d31_23 : decode (eb_b 31) 23 = .ok (.if_icmp .ne 51, 3) := by decide +kernel
theorem d31_26 : decode (eb_b 31) 26 = .ok (.aload_n 0, 1) := by decide +kernel
theorem d31_27 : decode (eb_b 31) 27 = .ok (.iconst 0, 1) := by decide +kernel
theorem d31_28 : decode (eb_b 31) 28 = .ok (.aload_n 1, 1) := by decide +kernel
theorem d31_29 : decode (eb_b 31) 29 = .ok (.getfield 61, 3) := by decide +kernel
theorem d31_32 : decode (eb_b 31) 32 = .ok (.iconst 1, 1) := by decide +kernel
theorem d31_33 : decode (eb_b 31) 33 = .ok (.isub, 1) := by decide +kernel
theorem d31_34 : decode (eb_b 31) 34 = .ok (.invokevirtual 90, 3) := by decide +kernel
theorem d31_37 : decode (eb_b 31) 37 = .ok (.istore 4, 2) := by decide +kernel
theorem hn31_4 : 4 < eb_ml 31 := by decide
theorem d31_39 : decode (eb_b 31) 39 = .ok (.iload 4, 2) := by decide +kernel
theorem d31_41 : decode (eb_b 31) 41 = .ok (.iconst (-1), 1) := by decide +kernel
theorem d31_42 : decode (eb_b 31) 42 = .ok (.if_icmp .eq 13, 3) := by decide +kernel
theorem d31_45 : decode (eb_b 31) 45 = .ok (.iload_n 2, 1) := by decide +kernel
theorem d31_46 : decode (eb_b 31) 46 = .ok (.iload 4, 2) := by decide +kernel
theorem d31_48 : decode (eb_b 31) 48 = .ok (.ishr, 1) := by decide +kernel
theorem d31_49 : decode (eb_b 31) 49 = .ok (.iconst 1, 1) := by decide +kernel
theorem d31_50 : decode (eb_b 31) 50 = .ok (.iand, 1) := by decide +kernel
theorem d31_51 : decode (eb_b 31) 51 = .ok (.iconst 1, 1) := by decide +kernel
theorem d31_52 : decode (eb_b 31) 52 = .ok (.if_icmp .ne 5, 3) := by decide +kernel
theorem d31_55 : decode (eb_b 31) 55 = .ok (.iconst 0, 1) := by decide +kernel
theorem d31_56 : decode (eb_b 31) 56 = .ok (.ireturn, 1) := by decide +kernel
theorem d31_57 : decode (eb_b 31) 57 = .ok (.iload_n 2, 1) := by decide +kernel
theorem d31_58 : decode (eb_b 31) 58 = .ok (.iconst 1, 1) := by decide +kernel
theorem d31_59 : decode (eb_b 31) 59 = .ok (.iload 4, 2) := by decide +kernel
theorem d31_61 : decode (eb_b 31) 61 = .ok (.ishl, 1) := by decide +kernel
theorem d31_62 : decode (eb_b 31) 62 = .ok (.ior, 1) := by decide +kernel
theorem d31_63 : decode (eb_b 31) 63 = .ok (.istore_n 2, 1) := by decide +kernel
theorem d31_64 : decode (eb_b 31) 64 = .ok (.aload_n 0, 1) := by decide +kernel
theorem d31_65 : decode (eb_b 31) 65 = .ok (.invokevirtual 22, 3) := by decide +kernel
theorem d31_68 : decode (eb_b 31) 68 = .ok (.iinc 3 1, 3) := by decide +kernel
theorem d31_71 : decode (eb_b 31) 71 = .ok (.goto (-63), 3) := by decide +kernel
theorem d31_74 : decode (eb_b 31) 74 = .ok (.aload_n 1, 1) := by decide +kernel
theorem d31_75 : decode (eb_b 31) 75 = .ok (.iload_n 2, 1) := by decide +kernel
theorem d31_76 : decode (eb_b 31) 76 = .ok (.invokevirtual 103, 3) := by decide +kernel
theorem wc_42 : Cond.code (eb_y 42) (eb_b 42) (eb_ml 42) (eb_rt 42) ∈ eb_LT := eb_lt 449 (by decide +kernel)
theorem cy_42 : (eb_y 42).cls = eb_cN (eb_rc 42) ∧ (eb_y 42).cls ≠ "java/lang/invoke/MethodHandle" ∧ (eb_y 42).cls ≠ "java/lang/invoke/VarHandle" ∧ (parseMethodDescriptor (eb_y 42).desc).map (fun d => d.parameters.length) = some 1 := by decide +kernel
theorem wi_42 : Cond.instanceMethod (eb_y 42) ∈ eb_LT := eb_lt 447 (by decide +kernel)
theorem wse_42 : Cond.selects (eb_cN (eb_rc 42)) (eb_y 42) (eb_y 42) ∈ eb_LT := eb_lt 448 (by decide +kernel)
theorem kV_42 {L q0 m pc : Nat} {lg : Nat → Bool} {ix : Nat} (hw : Cond.methodLink (eb_own m) ix (eb_y 42) ∈ eb_LT) (hd : decode (eb_b m) pc = .ok (.invokevirtual ix, 3)) : eb_Snd L q0 m pc lg (op_call 42 2 (pc + 3)) := sn_callV false rfl (Or.inr ⟨rfl, _, rfl⟩) (by decide) rfl (by decide) ⟨⟨hw, wi_42, wse_42⟩, wc_42⟩ cy_42 hd
theorem wm_3_103 : Cond.methodLink (eb_cN 3) 103 (eb_y 42) ∈ eb_LT := eb_lt 609 (by decide +kernel)
theorem d31_79 : decode (eb_b 31) 79 = .ok (.pop, 1) := by decide +kernel
theorem d31_80 : decode (eb_b 31) 80 = .ok (.iconst 1, 1) := by decide +kernel
theorem d31_81 : decode (eb_b 31) 81 = .ok (.ireturn, 1) := by decide +kernel
theorem d32_0 : decode (eb_b 32) 0 = .ok (.aload_n 0, 1) := by decide +kernel
theorem d32_1 : decode (eb_b 32) 1 = .ok (.iload_n 1, 1) := by decide +kernel
theorem d32_2 : decode (eb_b 32) 2 = .ok (.iload_n 2, 1) := by decide +kernel
theorem d32_3 : decode (eb_b 32) 3 = .ok (.invokevirtual 90, 3) := by decide +kernel
theorem d32_6 : decode (eb_b 32) 6 = .ok (.istore_n 3, 1) := by decide +kernel
theorem hn32_3 : 3 < eb_ml 32 := by decide
theorem d32_7 : decode (eb_b 32) 7 = .ok (.iload_n 3, 1) := by decide +kernel
theorem d32_8 : decode (eb_b 32) 8 = .ok (.iconst (-1), 1) := by decide +kernel
theorem d32_9 : decode (eb_b 32) 9 = .ok (.if_icmp .eq 7, 3) := by decide +kernel
theorem d32_12 : decode (eb_b 32) 12 = .ok (.aload_n 0, 1) := by decide +kernel
theorem d32_13 : decode (eb_b 32) 13 = .ok (.invokevirtual 22, 3) := by decide +kernel
theorem d32_16 : decode (eb_b 32) 16 = .ok (.iload_n 3, 1) := by decide +kernel
theorem d32_17 : decode (eb_b 32) 17 = .ok (.ireturn, 1) := by decide +kernel
theorem d33_0 : decode (eb_b 33) 0 = .ok (.aload_n 0, 1) := by decide +kernel
theorem d33_1 : decode (eb_b 33) 1 = .ok (.getfield 29, 3) := by decide +kernel
theorem d33_4 : decode (eb_b 33) 4 = .ok (.iconst 2, 1) := by decide +kernel
theorem d33_5 : decode (eb_b 33) 5 = .ok (.if_icmp .ne 16, 3) := by decide +kernel
theorem d33_8 : decode (eb_b 33) 8 = .ok (.aload_n 0, 1) := by decide +kernel
theorem d33_9 : decode (eb_b 33) 9 = .ok (.getfield 19, 3) := by decide +kernel
theorem d33_12 : decode (eb_b 33) 12 = .ok (.aload_n 0, 1) := by decide +kernel
theorem d33_13 : decode (eb_b 33) 13 = .ok (.getfield 107, 3) := by decide +kernel
theorem wf_3_107 : Cond.fieldLink (eb_cN 3) 107 (eb_tT 3 2).1 (eb_tT 3 2).2.1 (eb_tT 3 2).2.2.1 ∈ eb_LT := eb_lt 246 (by decide +kernel)
theorem fi_3_2 : 2 < eb_nf 3 ∧ (eb_tt 3 2).isReference = false := ⟨by decide, rfl⟩
theorem d33_16 : decode (eb_b 33) 16 = .ok (.isub, 1) := by decide +kernel
theorem d33_17 : decode (eb_b 33) 17 = .ok (.iconst 3, 1) := by decide +kernel
theorem d33_18 : decode (eb_b 33) 18 = .ok (.if_icmp .le 5, 3) := by decide +kernel
theorem d33_21 : decode (eb_b 33) 21 = .ok (.iconst (-1), 1) := by decide +kernel
theorem d33_22 : decode (eb_b 33) 22 = .ok (.ireturn, 1) := by decide +kernel
theorem d33_23 : decode (eb_b 33) 23 = .ok (.iconst 0, 1) := by decide +kernel
theorem d33_24 : decode (eb_b 33) 24 = .ok (.istore_n 3, 1) := by decide +kernel
theorem hn33_3 : 3 < eb_ml 33 := by decide
theorem d33_25 : decode (eb_b 33) 25 = .ok (.aload_n 0, 1) := by decide +kernel
theorem d33_26 : decode (eb_b 33) 26 = .ok (.getfield 107, 3) := by decide +kernel
theorem d33_29 : decode (eb_b 33) 29 = .ok (.istore 4, 2) := by decide +kernel
theorem hn33_4 : 4 < eb_ml 33 := by decide
theorem d33_31 : decode (eb_b 33) 31 = .ok (.iload 4, 2) := by decide +kernel
theorem d33_33 : decode (eb_b 33) 33 = .ok (.aload_n 0, 1) := by decide +kernel
theorem d33_34 : decode (eb_b 33) 34 = .ok (.getfield 19, 3) := by decide +kernel
theorem d33_37 : decode (eb_b 33) 37 = .ok (.if_icmp .ge 24, 3) := by decide +kernel
theorem d33_40 : decode (eb_b 33) 40 = .ok (.bipush 10, 2) := by decide +kernel
theorem d33_42 : decode (eb_b 33) 42 = .ok (.iload_n 3, 1) := by decide +kernel
theorem d33_43 : decode (eb_b 33) 43 = .ok (.imul, 1) := by decide +kernel
theorem d33_44 : decode (eb_b 33) 44 = .ok (.aload_n 0, 1) := by decide +kernel
theorem d33_45 : decode (eb_b 33) 45 = .ok (.iload 4, 2) := by decide +kernel
theorem d33_47 : decode (eb_b 33) 47 = .ok (.invokevirtual 110, 3) := by decide +kernel
theorem wc_37 : Cond.code (eb_y 37) (eb_b 37) (eb_ml 37) (eb_rt 37) ∈ eb_LT := eb_lt 509 (by decide +kernel)
theorem cy_37 : (eb_y 37).cls = eb_cN (eb_rc 37) ∧ (eb_y 37).cls ≠ "java/lang/invoke/MethodHandle" ∧ (eb_y 37).cls ≠ "java/lang/invoke/VarHandle" ∧ (parseMethodDescriptor (eb_y 37).desc).map (fun d => d.parameters.length) = some 1 := by decide +kernel
theorem wi_37 : Cond.instanceMethod (eb_y 37) ∈ eb_LT := eb_lt 508 (by decide +kernel)
theorem wse_37 : Cond.selects (eb_cN (eb_rc 37)) (eb_y 37) (eb_y 37) ∈ eb_LT := eb_lt 9 (by decide +kernel)
theorem kV_37 {L q0 m pc : Nat} {lg : Nat → Bool} {ix : Nat} (hw : Cond.methodLink (eb_own m) ix (eb_y 37) ∈ eb_LT) (hd : decode (eb_b m) pc = .ok (.invokevirtual ix, 3)) : eb_Snd L q0 m pc lg (op_call 37 2 (pc + 3)) := sn_callV false rfl (Or.inr ⟨rfl, _, rfl⟩) (by decide) rfl (by decide) ⟨⟨hw, wi_37, wse_37⟩, wc_37⟩ cy_37 hd
theorem wm_3_110 : Cond.methodLink (eb_cN 3) 110 (eb_y 37) ∈ eb_LT := eb_lt 506 (by decide +kernel)
theorem d33_50 : decode (eb_b 33) 50 = .ok (.iadd, 1) := by decide +kernel
theorem d33_51 : decode (eb_b 33) 51 = .ok (.bipush 48, 2) := by decide +kernel
theorem d33_53 : decode (eb_b 33) 53 = .ok (.isub, 1) := by decide +kernel
theorem d33_54 : decode (eb_b 33) 54 = .ok (.istore_n 3, 1) := by decide +kernel
theorem d33_55 : decode (eb_b 33) 55 = .ok (.iinc 4 1, 3) := by decide +kernel
theorem d33_58 : decode (eb_b 33) 58 = .ok (.goto (-27), 3) := by decide +kernel
theorem d33_61 : decode (eb_b 33) 61 = .ok (.iload_n 3, 1) := by decide +kernel
theorem d33_62 : decode (eb_b 33) 62 = .ok (.iload_n 1, 1) := by decide +kernel
theorem d33_63 : decode (eb_b 33) 63 = .ok (.iload_n 2, 1) := by decide +kernel
theorem d33_64 : decode (eb_b 33) 64 = .ok (.invokestatic 113, 3) := by decide +kernel
theorem wm_3_113 : Cond.methodLinkNest (eb_cN 3) 113 (eb_y 127) "EverybodyHasTheBook" ∈ eb_nest := by decide +kernel
theorem d33_67 : decode (eb_b 33) 67 = .ok (.ifCond .eq 7, 3) := by decide +kernel
theorem d33_70 : decode (eb_b 33) 70 = .ok (.iload_n 3, 1) := by decide +kernel
theorem d33_71 : decode (eb_b 33) 71 = .ok (.goto 4, 3) := by decide +kernel
theorem d33_74 : decode (eb_b 33) 74 = .ok (.iconst (-1), 1) := by decide +kernel
theorem d33_75 : decode (eb_b 33) 75 = .ok (.ireturn, 1) := by decide +kernel
theorem d34_0 : decode (eb_b 34) 0 = .ok (.aload_n 0, 1) := by decide +kernel
theorem d34_1 : decode (eb_b 34) 1 = .ok (.getfield 29, 3) := by decide +kernel
theorem d34_4 : decode (eb_b 34) 4 = .ok (.iconst 1, 1) := by decide +kernel
theorem d34_5 : decode (eb_b 34) 5 = .ok (.if_icmp .ne 19, 3) := by decide +kernel
theorem d34_8 : decode (eb_b 34) 8 = .ok (.aload_n 0, 1) := by decide +kernel
theorem d34_9 : decode (eb_b 34) 9 = .ok (.getfield 19, 3) := by decide +kernel
theorem d34_12 : decode (eb_b 34) 12 = .ok (.aload_n 0, 1) := by decide +kernel
theorem d34_13 : decode (eb_b 34) 13 = .ok (.getfield 107, 3) := by decide +kernel
theorem d34_16 : decode (eb_b 34) 16 = .ok (.isub, 1) := by decide +kernel
theorem d34_17 : decode (eb_b 34) 17 = .ok (.aload_n 1, 1) := by decide +kernel
theorem d34_18 : decode (eb_b 34) 18 = .ok (.invokevirtual 117, 3) := by decide +kernel
theorem wm_3_117 : Cond.methodLink (eb_cN 3) 117 yJ0_length_8abf5 ∈ eb_LT := eb_lt 523 (by decide +kernel)
theorem d34_21 : decode (eb_b 34) 21 = .ok (.if_icmp .eq 5, 3) := by decide +kernel
theorem d34_24 : decode (eb_b 34) 24 = .ok (.iconst 0, 1) := by decide +kernel
theorem d34_25 : decode (eb_b 34) 25 = .ok (.ireturn, 1) := by decide +kernel
theorem d34_26 : decode (eb_b 34) 26 = .ok (.iconst 0, 1) := by decide +kernel
theorem d34_27 : decode (eb_b 34) 27 = .ok (.istore_n 2, 1) := by decide +kernel
theorem hn34_2 : 2 < eb_ml 34 := by decide
theorem d34_28 : decode (eb_b 34) 28 = .ok (.iload_n 2, 1) := by decide +kernel
theorem d34_29 : decode (eb_b 34) 29 = .ok (.aload_n 1, 1) := by decide +kernel
theorem d34_30 : decode (eb_b 34) 30 = .ok (.invokevirtual 117, 3) := by decide +kernel
theorem d34_33 : decode (eb_b 34) 33 = .ok (.if_icmp .ge 29, 3) := by decide +kernel
theorem d34_36 : decode (eb_b 34) 36 = .ok (.aload_n 0, 1) := by decide +kernel
theorem d34_37 : decode (eb_b 34) 37 = .ok (.aload_n 0, 1) := by decide +kernel
theorem d34_38 : decode (eb_b 34) 38 = .ok (.getfield 107, 3) := by decide +kernel
theorem d34_41 : decode (eb_b 34) 41 = .ok (.iload_n 2, 1) := by decide +kernel
theorem d34_42 : decode (eb_b 34) 42 = .ok (.iadd, 1) := by decide +kernel
theorem d34_43 : decode (eb_b 34) 43 = .ok (.invokevirtual 110, 3) := by decide +kernel
theorem d34_46 : decode (eb_b 34) 46 = .ok (.aload_n 1, 1) := by decide +kernel
theorem d34_47 : decode (eb_b 34) 47 = .ok (.iload_n 2, 1) := by decide +kernel
theorem d34_48 : decode (eb_b 34) 48 = .ok (.invokevirtual 123, 3) := by decide +kernel
theorem wm_3_123 : Cond.methodLink (eb_cN 3) 123 yJ0_charAt_5068e ∈ eb_LT := eb_lt 533 (by decide +kernel)
theorem d34_51 : decode (eb_b 34) 51 = .ok (.if_icmp .eq 5, 3) := by decide +kernel
theorem d34_54 : decode (eb_b 34) 54 = .ok (.iconst 0, 1) := by decide +kernel
theorem d34_55 : decode (eb_b 34) 55 = .ok (.ireturn, 1) := by decide +kernel
theorem d34_56 : decode (eb_b 34) 56 = .ok (.iinc 2 1, 3) := by decide +kernel
theorem d34_59 : decode (eb_b 34) 59 = .ok (.goto (-31), 3) := by decide +kernel
theorem d34_62 : decode (eb_b 34) 62 = .ok (.iconst 1, 1) := by decide +kernel
theorem d34_63 : decode (eb_b 34) 63 = .ok (.ireturn, 1) := by decide +kernel
theorem d35_0 : decode (eb_b 35) 0 = .ok (.aload_n 0, 1) := by decide +kernel
theorem d35_1 : decode (eb_b 35) 1 = .ok (.getfield 19, 3) := by decide +kernel
theorem d35_4 : decode (eb_b 35) 4 = .ok (.istore_n 1, 1) := by decide +kernel
theorem hn35_1 : 1 < eb_ml 35 := by decide
theorem d35_5 : decode (eb_b 35) 5 = .ok (.iload_n 1, 1) := by decide +kernel
theorem d35_6 : decode (eb_b 35) 6 = .ok (.aload_n 0, 1) := by decide +kernel
theorem d35_7 : decode (eb_b 35) 7 = .ok (.getfield 15, 3) := by decide +kernel
theorem d35_10 : decode (eb_b 35) 10 = .ok (.if_icmp .ge 19, 3) := by decide +kernel
theorem d35_13 : decode (eb_b 35) 13 = .ok (.aload_n 0, 1) := by decide +kernel
theorem d35_14 : decode (eb_b 35) 14 = .ok (.iload_n 1, 1) := by decide +kernel
theorem d35_15 : decode (eb_b 35) 15 = .ok (.invokevirtual 110, 3) := by decide +kernel
theorem d35_18 : decode (eb_b 35) 18 = .ok (.bipush 32, 2) := by decide +kernel
theorem d35_20 : decode (eb_b 35) 20 = .ok (.if_icmp .ne 9, 3) := by decide +kernel
theorem d35_23 : decode (eb_b 35) 23 = .ok (.iinc 1 1, 3) := by decide +kernel
theorem d35_26 : decode (eb_b 35) 26 = .ok (.goto (-21), 3) := by decide +kernel
theorem d35_29 : decode (eb_b 35) 29 = .ok (.aload_n 0, 1) := by decide +kernel
theorem d35_30 : decode (eb_b 35) 30 = .ok (.iload_n 1, 1) := by decide +kernel
theorem d35_31 : decode (eb_b 35) 31 = .ok (.putfield 107, 3) := by decide +kernel
theorem fp_3_2 : ∀ x : Int32, narrow (eb_tt 3 2) (.int x) = .int x ∧ fits (eb_tt 3 2) (.int x) = true := fun x => ⟨rfl, rfl⟩
theorem d35_34 : decode (eb_b 35) 34 = .ok (.aload_n 0, 1) := by decide +kernel
theorem d35_35 : decode (eb_b 35) 35 = .ok (.aload_n 0, 1) := by decide +kernel
theorem d35_36 : decode (eb_b 35) 36 = .ok (.iload_n 1, 1) := by decide +kernel
theorem d35_37 : decode (eb_b 35) 37 = .ok (.invokevirtual 127, 3) := by decide +kernel
theorem wc_36 : Cond.code (eb_y 36) (eb_b 36) (eb_ml 36) (eb_rt 36) ∈ eb_LT := eb_lt 513 (by decide +kernel)
theorem cy_36 : (eb_y 36).cls = eb_cN (eb_rc 36) ∧ (eb_y 36).cls ≠ "java/lang/invoke/MethodHandle" ∧ (eb_y 36).cls ≠ "java/lang/invoke/VarHandle" ∧ (parseMethodDescriptor (eb_y 36).desc).map (fun d => d.parameters.length) = some 1 := by decide +kernel
theorem wi_36 : Cond.instanceMethod (eb_y 36) ∈ eb_LT := eb_lt 512 (by decide +kernel)
theorem wse_36 : Cond.selects (eb_cN (eb_rc 36)) (eb_y 36) (eb_y 36) ∈ eb_LT := eb_lt 10 (by decide +kernel)
theorem kV_36 {L q0 m pc : Nat} {lg : Nat → Bool} {ix : Nat} (hw : Cond.methodLink (eb_own m) ix (eb_y 36) ∈ eb_LT) (hd : decode (eb_b m) pc = .ok (.invokevirtual ix, 3)) : eb_Snd L q0 m pc lg (op_call 36 2 (pc + 3)) := sn_callV false rfl (Or.inr ⟨rfl, _, rfl⟩) (by decide) rfl (by decide) ⟨⟨hw, wi_36, wse_36⟩, wc_36⟩ cy_36 hd
theorem wm_3_127 : Cond.methodLink (eb_cN 3) 127 (eb_y 36) ∈ eb_LT := eb_lt 510 (by decide +kernel)
theorem d35_40 : decode (eb_b 35) 40 = .ok (.putfield 29, 3) := by decide +kernel
theorem fp_3_4 : ∀ x : Int32, narrow (eb_tt 3 4) (.int x) = .int x ∧ fits (eb_tt 3 4) (.int x) = true := fun x => ⟨rfl, rfl⟩
theorem d35_43 : decode (eb_b 35) 43 = .ok (.iload_n 1, 1) := by decide +kernel
theorem d35_44 : decode (eb_b 35) 44 = .ok (.aload_n 0, 1) := by decide +kernel
theorem d35_45 : decode (eb_b 35) 45 = .ok (.getfield 15, 3) := by decide +kernel
theorem d35_48 : decode (eb_b 35) 48 = .ok (.if_icmp .ge 6, 3) := by decide +kernel
theorem d35_51 : decode (eb_b 35) 51 = .ok (.iinc 1 1, 3) := by decide +kernel
theorem d35_54 : decode (eb_b 35) 54 = .ok (.iload_n 1, 1) := by decide +kernel
theorem d35_55 : decode (eb_b 35) 55 = .ok (.aload_n 0, 1) := by decide +kernel
theorem d35_56 : decode (eb_b 35) 56 = .ok (.getfield 15, 3) := by decide +kernel
theorem d35_59 : decode (eb_b 35) 59 = .ok (.if_icmp .ge 37, 3) := by decide +kernel
theorem d35_62 : decode (eb_b 35) 62 = .ok (.aload_n 0, 1) := by decide +kernel
theorem d35_63 : decode (eb_b 35) 63 = .ok (.getfield 29, 3) := by decide +kernel
theorem d35_66 : decode (eb_b 35) 66 = .ok (.iconst 1, 1) := by decide +kernel
theorem d35_67 : decode (eb_b 35) 67 = .ok (.if_icmp .eq 11, 3) := by decide +kernel
theorem d35_70 : decode (eb_b 35) 70 = .ok (.aload_n 0, 1) := by decide +kernel
theorem d35_71 : decode (eb_b 35) 71 = .ok (.getfield 29, 3) := by decide +kernel
theorem d35_74 : decode (eb_b 35) 74 = .ok (.iconst 2, 1) := by decide +kernel
theorem d35_75 : decode (eb_b 35) 75 = .ok (.if_icmp .ne 21, 3) := by decide +kernel
theorem d35_78 : decode (eb_b 35) 78 = .ok (.aload_n 0, 1) := by decide +kernel
theorem d35_79 : decode (eb_b 35) 79 = .ok (.iload_n 1, 1) := by decide +kernel
theorem d35_80 : decode (eb_b 35) 80 = .ok (.invokevirtual 127, 3) := by decide +kernel
theorem d35_83 : decode (eb_b 35) 83 = .ok (.aload_n 0, 1) := by decide +kernel
theorem d35_84 : decode (eb_b 35) 84 = .ok (.getfield 29, 3) := by decide +kernel
theorem d35_87 : decode (eb_b 35) 87 = .ok (.if_icmp .ne 9, 3) := by decide +kernel
theorem d35_90 : decode (eb_b 35) 90 = .ok (.iinc 1 1, 3) := by decide +kernel
theorem d35_93 : decode (eb_b 35) 93 = .ok (.goto (-39), 3) := by decide +kernel
theorem d35_96 : decode (eb_b 35) 96 = .ok (.aload_n 0, 1) := by decide +kernel
theorem d35_97 : decode (eb_b 35) 97 = .ok (.iload_n 1, 1) := by decide +kernel
theorem d35_98 : decode (eb_b 35) 98 = .ok (.putfield 19, 3) := by decide +kernel
theorem d35_101 : decode (eb_b 35) 101 = .ok (.return_, 1) := by decide +kernel
theorem d36_0 : decode (eb_b 36) 0 = .ok (.aload_n 0, 1) := by decide +kernel
theorem d36_1 : decode (eb_b 36) 1 = .ok (.iload_n 1, 1) := by decide +kernel
theorem d36_2 : decode (eb_b 36) 2 = .ok (.invokevirtual 110, 3) := by decide +kernel
theorem d36_5 : decode (eb_b 36) 5 = .ok (.istore_n 2, 1) := by decide +kernel
theorem hn36_2 : 2 < eb_ml 36 := by decide
theorem d36_6 : decode (eb_b 36) 6 = .ok (.iload_n 2, 1) := by decide +kernel
theorem d36_7 : decode (eb_b 36) 7 = .ok (.iconst (-1), 1) := by decide +kernel
theorem d36_8 : decode (eb_b 36) 8 = .ok (.if_icmp .ne 5, 3) := by decide +kernel
theorem d36_11 : decode (eb_b 36) 11 = .ok (.iconst 0, 1) := by decide +kernel
theorem d36_12 : decode (eb_b 36) 12 = .ok (.ireturn, 1) := by decide +kernel
theorem d36_13 : decode (eb_b 36) 13 = .ok (.iload_n 2, 1) := by decide +kernel
theorem d36_14 : decode (eb_b 36) 14 = .ok (.bipush 97, 2) := by decide +kernel
theorem d36_16 : decode (eb_b 36) 16 = .ok (.if_icmp .lt 11, 3) := by decide +kernel
theorem d36_19 : decode (eb_b 36) 19 = .ok (.iload_n 2, 1) := by decide +kernel
theorem d36_20 : decode (eb_b 36) 20 = .ok (.bipush 122, 2) := by decide +kernel
theorem d36_22 : decode (eb_b 36) 22 = .ok (.if_icmp .gt 5, 3) := by decide +kernel
theorem d36_25 : decode (eb_b 36) 25 = .ok (.iconst 1, 1) := by decide +kernel
theorem d36_26 : decode (eb_b 36) 26 = .ok (.ireturn, 1) := by decide +kernel
theorem d36_27 : decode (eb_b 36) 27 = .ok (.iload_n 2, 1) := by decide +kernel
theorem d36_28 : decode (eb_b 36) 28 = .ok (.bipush 48, 2) := by decide +kernel
theorem d36_30 : decode (eb_b 36) 30 = .ok (.if_icmp .lt 11, 3) := by decide +kernel
theorem d36_33 : decode (eb_b 36) 33 = .ok (.iload_n 2, 1) := by decide +kernel
theorem d36_34 : decode (eb_b 36) 34 = .ok (.bipush 57, 2) := by decide +kernel
theorem d36_36 : decode (eb_b 36) 36 = .ok (.if_icmp .gt 5, 3) := by decide +kernel
theorem d36_39 : decode (eb_b 36) 39 = .ok (.iconst 2, 1) := by decide +kernel
theorem d36_40 : decode (eb_b 36) 40 = .ok (.ireturn, 1) := by decide +kernel
theorem d36_41 : decode (eb_b 36) 41 = .ok (.iload_n 2, 1) := by decide +kernel
theorem d36_42 : decode (eb_b 36) 42 = .ok (.bipush 59, 2) := by decide +kernel
theorem d36_44 : decode (eb_b 36) 44 = .ok (.if_icmp .ne 7, 3) := by decide +kernel
theorem d36_47 : decode (eb_b 36) 47 = .ok (.iconst 3, 1) := by decide +kernel
theorem d36_48 : decode (eb_b 36) 48 = .ok (.goto 4, 3) := by decide +kernel
theorem d36_51 : decode (eb_b 36) 51 = .ok (.iconst 4, 1) := by decide +kernel
theorem d36_52 : decode (eb_b 36) 52 = .ok (.ireturn, 1) := by decide +kernel
section
variable {L q0 : Nat}
theorem sc0_0 : eb_AS L q0 0 (eb_lg 0) [(0, op_aload 0 1), (1, op_callv 903 1 4), (4, op_aload 0 5), (5, op_push (zi 6) 7), (7, op_newI L 9), (9, op_putR L 0 3 12), (12, op_vret)] := ⟨sn_aload_n d0_0 rfl, sn_obj wm_0_3 d0_1, sn_aload_n d0_4 rfl, sn_bipush d0_5 (by decide), sn_newI d0_7, sn_putR (by decide) fi_0_3.1 fi_0_3.2 wf_0_9 (Or.inr ⟨rfl, rfl⟩) fp_0_3 d0_9, sn_vret d0_12 rfl, trivial⟩
theorem sd0 : ∀ pc, eb_Snd L q0 0 pc (eb_lg 0) (eb_cd L 0 pc) := eb_AS_all (hk0 (L := L)) (sc0_0)
theorem sc1_0 : eb_AS L q0 1 (eb_lg 1) [(0, op_aload 0 1), (1, op_iload 1 2), (2, op_putI L 0 0 5), (5, op_aload 0 6), (6, op_iload 2 7), (7, op_putI L 0 1 10), (10, op_aload 0 11), (11, op_iload 3 12), (12, op_putI L 0 2 15), (15, op_vret)] := ⟨sn_aload_n d1_0 rfl, sn_iload_n d1_1 rfl, sn_putI (by decide) fi_0_0.1 fi_0_0.2 wf_0_15 (Or.inl rfl) fp_0_0 d1_2, sn_aload_n d1_5 rfl, sn_iload_n d1_6 rfl, sn_putI (by decide) fi_0_1.1 fi_0_1.2 wf_0_19 (Or.inl rfl) fp_0_1 d1_7, sn_aload_n d1_10 rfl, sn_iload_n d1_11 rfl, sn_putI (by decide) fi_0_2.1 fi_0_2.2 wf_0_22 (Or.inl rfl) fp_0_2 d1_12, sn_vret d1_15 rfl, trivial⟩
theorem sd1 : ∀ pc, eb_Snd L q0 1 pc (eb_lg 1) (eb_cd L 1 pc) := eb_AS_all (hk1 (L := L)) (sc1_0)
theorem sc2_0 : eb_AS L q0 2 (eb_lg 2) [(0, op_iload 1 1), (1, op_ifeq 24 4), (4, op_iload 1 5), (5, op_aload 0 6), (6, op_getI L 0 0 9), (9, op_iceq 24 12), (12, op_iload 1 13), (13, op_push (zi 1) 14), (14, op_icne 28 17), (17, op_aload 0 18), (18, op_call 4 1 21), (21, op_ifeq 28 24), (24, op_push (zi 1) 25), (25, op_goto 29), (28, op_push (zi 0) 29), (29, op_zret)] := ⟨sn_iload_n d2_0 rfl, sn_ifeq d2_1 (by decide), sn_iload_n d2_4 rfl, sn_aload_n d2_5 rfl, sn_getI (by decide) fi_0_0.1 fi_0_0.2 wf_0_15 d2_6, sn_iceq d2_9 (by decide), sn_iload_n d2_12 rfl, sn_iconst d2_13 (by decide), sn_icne d2_14 (by decide), sn_aload_n d2_17 rfl, kV_4 wm_0_25 d2_18, sn_ifeq d2_21 (by decide), sn_iconst d2_24 (by decide), sn_goto d2_25 (by decide), sn_iconst d2_28 (by decide), sn_zret d2_29 rfl, trivial⟩
theorem sd2 : ∀ pc, eb_Snd L q0 2 pc (eb_lg 2) (eb_cd L 2 pc) := eb_AS_all (hk2 (L := L)) (sc2_0)
theorem sc3_0 : eb_AS L q0 3 (eb_lg 3) [(0, op_aload 0 1), (1, op_push (zi 0) 2), (2, op_putI L 0 4 5), (5, op_push (zi 0) 6), (6, op_istore 1 7), (7, op_iload 1 8), (8, op_push (zi 6) 10), (10, op_icge 26 13), (13, op_aload 0 14), (14, op_getR L 0 3 17), (17, op_iload 1 18), (18, op_push (zi 0) 19), (19, op_iast L 20), (20, op_iinc 1 1 23), (23, op_goto 7), (26, op_vret)] := ⟨sn_aload_n d3_0 rfl, sn_iconst d3_1 (by decide), sn_putI (by decide) fi_0_4.1 fi_0_4.2 wf_0_29 (Or.inl rfl) fp_0_4 d3_2, sn_iconst d3_5 (by decide), sn_istore_n (eb_hlg (Or.inl rfl)) hn3_1 d3_6 rfl, sn_iload_n d3_7 rfl, sn_bipush d3_8 (by decide), sn_icge d3_10 (by decide), sn_aload_n d3_13 rfl, sn_getR (by decide) fi_0_3.1 fi_0_3.2 wf_0_9 d3_14, sn_iload_n d3_17 rfl, sn_iconst d3_18 (by decide), sn_iast d3_19, sn_iinc (eb_hlg (Or.inl rfl)) hn3_1 d3_20 (by decide), sn_goto d3_23 (by decide), sn_vret d3_26 rfl, trivial⟩
theorem sd3 : ∀ pc, eb_Snd L q0 3 pc (eb_lg 3) (eb_cd L 3 pc) := eb_AS_all (hk3 (L := L)) (sc3_0)
theorem sc4_0 : eb_AS L q0 4 (eb_lg 4) [(0, op_aload 0 1), (1, op_getI L 0 0 4), (4, op_ifeq 19 7), (7, op_aload 0 8), (8, op_getI L 0 0 11), (11, op_push (zi 3) 12), (12, op_iceq 19 15), (15, op_push (zi 1) 16), (16, op_goto 20), (19, op_push (zi 0) 20), (20, op_zret)] := ⟨sn_aload_n d4_0 rfl, sn_getI (by decide) fi_0_0.1 fi_0_0.2 wf_0_15 d4_1, sn_ifeq d4_4 (by decide), sn_aload_n d4_7 rfl, sn_getI (by decide) fi_0_0.1 fi_0_0.2 wf_0_15 d4_8, sn_iconst d4_11 (by decide), sn_iceq d4_12 (by decide), sn_iconst d4_15 (by decide), sn_goto d4_16 (by decide), sn_iconst d4_19 (by decide), sn_zret d4_20 rfl, trivial⟩
theorem sd4 : ∀ pc, eb_Snd L q0 4 pc (eb_lg 4) (eb_cd L 4 pc) := eb_AS_all (hk4 (L := L)) (sc4_0)
theorem sc5_0 : eb_AS L q0 5 (eb_lg 5) [(0, op_aload 0 1), (1, op_getI L 0 0 4), (4, op_push (zi 5) 5), (5, op_icne 12 8), (8, op_push (zi 1) 9), (9, op_goto 13), (12, op_push (zi 0) 13), (13, op_zret)] := ⟨sn_aload_n d5_0 rfl, sn_getI (by decide) fi_0_0.1 fi_0_0.2 wf_0_15 d5_1, sn_iconst d5_4 (by decide), sn_icne d5_5 (by decide), sn_iconst d5_8 (by decide), sn_goto d5_9 (by decide), sn_iconst d5_12 (by decide), sn_zret d5_13 rfl, trivial⟩
theorem sd5 : ∀ pc, eb_Snd L q0 5 pc (eb_lg 5) (eb_cd L 5 pc) := eb_AS_all (hk5 (L := L)) (sc5_0)
theorem sc6_0 : eb_AS L q0 6 (eb_lg 6) [(0, op_aload 0 1), (1, op_callv 903 1 4), (4, op_vret)] := ⟨sn_aload_n d6_0 rfl, sn_obj wm_1_3 d6_1, sn_vret d6_4 rfl, trivial⟩
theorem sd6 : ∀ pc, eb_Snd L q0 6 pc (eb_lg 6) (eb_cd L 6 pc) := eb_AS_all (hk6 (L := L)) (sc6_0)
theorem sc7_0 : eb_AS L q0 7 (eb_lg 7) [(0, op_aload 0 1), (1, op_iload 1 2), (2, op_putI L 1 0 5), (5, op_aload 0 6), (6, op_iload 1 7), (7, op_putI L 1 1 10), (10, op_aload 0 11), (11, op_iload 2 12), (12, op_putI L 1 2 15), (15, op_aload 0 16), (16, op_iload 3 17), (17, op_putI L 1 3 20), (20, op_aload 0 21), (21, op_push (zi (-1)) 22), (22, op_putI L 1 4 25), (25, op_aload 0 26), (26, op_push (zi 0) 27), (27, op_putI L 1 5 30), (30, op_aload 0 31), (31, op_push (zi 0) 32), (32, op_putI L 1 6 35), (35, op_vret)] := ⟨sn_aload_n d7_0 rfl, sn_iload_n d7_1 rfl, sn_putI (by decide) fi_1_0.1 fi_1_0.2 wf_1_9 (Or.inl rfl) fp_1_0 d7_2, sn_aload_n d7_5 rfl, sn_iload_n d7_6 rfl, sn_putI (by decide) fi_1_1.1 fi_1_1.2 wf_1_15 (Or.inl rfl) fp_1_1 d7_7, sn_aload_n d7_10 rfl, sn_iload_n d7_11 rfl, sn_putI (by decide) fi_1_2.1 fi_1_2.2 wf_1_18 (Or.inl rfl) fp_1_2 d7_12, sn_aload_n d7_15 rfl, sn_iload_n d7_16 rfl, sn_putI (by decide) fi_1_3.1 fi_1_3.2 wf_1_21 (Or.inl rfl) fp_1_3 d7_17, sn_aload_n d7_20 rfl, sn_iconst d7_21 (by decide), sn_putI (by decide) fi_1_4.1 fi_1_4.2 wf_1_24 (Or.inl rfl) fp_1_4 d7_22, sn_aload_n d7_25 rfl, sn_iconst d7_26 (by decide), sn_putI (by decide) fi_1_5.1 fi_1_5.2 wf_1_27 (Or.inl rfl) fp_1_5 d7_27, sn_aload_n d7_30 rfl, sn_iconst d7_31 (by decide), sn_putI (by decide) fi_1_6.1 fi_1_6.2 wf_1_30 (Or.inl rfl) fp_1_6 d7_32, sn_vret d7_35 rfl, trivial⟩
theorem sd7 : ∀ pc, eb_Snd L q0 7 pc (eb_lg 7) (eb_cd L 7 pc) := eb_AS_all (hk7 (L := L)) (sc7_0)
theorem sc8_0 : eb_AS L q0 8 (eb_lg 8) [(0, op_aload 0 1), (1, op_aload 1 2), (2, op_getI L 1 0 5), (5, op_putI L 1 0 8), (8, op_aload 0 9), (9, op_aload 1 10), (10, op_getI L 1 1 13), (13, op_putI L 1 1 16), (16, op_aload 0 17), (17, op_aload 1 18), (18, op_getI L 1 2 21), (21, op_putI L 1 2 24), (24, op_aload 0 25), (25, op_aload 1 26), (26, op_getI L 1 3 29), (29, op_putI L 1 3 32), (32, op_aload 0 33), (33, op_aload 1 34), (34, op_getI L 1 4 37), (37, op_putI L 1 4 40), (40, op_aload 0 41), (41, op_aload 1 42), (42, op_getI L 1 5 45), (45, op_putI L 1 5 48), (48, op_aload 0 49), (49, op_aload 1 50), (50, op_getI L 1 6 53), (53, op_putI L 1 6 56), (56, op_vret)] := ⟨sn_aload_n d8_0 rfl, sn_aload_n d8_1 rfl, sn_getI (by decide) fi_1_0.1 fi_1_0.2 wf_1_9 d8_2, sn_putI (by decide) fi_1_0.1 fi_1_0.2 wf_1_9 (Or.inl rfl) fp_1_0 d8_5, sn_aload_n d8_8 rfl, sn_aload_n d8_9 rfl, sn_getI (by decide) fi_1_1.1 fi_1_1.2 wf_1_15 d8_10, sn_putI (by decide) fi_1_1.1 fi_1_1.2 wf_1_15 (Or.inl rfl) fp_1_1 d8_13, sn_aload_n d8_16 rfl, sn_aload_n d8_17 rfl, sn_getI (by decide) fi_1_2.1 fi_1_2.2 wf_1_18 d8_18, sn_putI (by decide) fi_1_2.1 fi_1_2.2 wf_1_18 (Or.inl rfl) fp_1_2 d8_21, sn_aload_n d8_24 rfl, sn_aload_n d8_25 rfl, sn_getI (by decide) fi_1_3.1 fi_1_3.2 wf_1_21 d8_26, sn_putI (by decide) fi_1_3.1 fi_1_3.2 wf_1_21 (Or.inl rfl) fp_1_3 d8_29, sn_aload_n d8_32 rfl, sn_aload_n d8_33 rfl, sn_getI (by decide) fi_1_4.1 fi_1_4.2 wf_1_24 d8_34, sn_putI (by decide) fi_1_4.1 fi_1_4.2 wf_1_24 (Or.inl rfl) fp_1_4 d8_37, sn_aload_n d8_40 rfl, sn_aload_n d8_41 rfl, sn_getI (by decide) fi_1_5.1 fi_1_5.2 wf_1_27 d8_42, sn_putI (by decide) fi_1_5.1 fi_1_5.2 wf_1_27 (Or.inl rfl) fp_1_5 d8_45, sn_aload_n d8_48 rfl, sn_aload_n d8_49 rfl, sn_getI (by decide) fi_1_6.1 fi_1_6.2 wf_1_30 d8_50, sn_putI (by decide) fi_1_6.1 fi_1_6.2 wf_1_30 (Or.inl rfl) fp_1_6 d8_53, sn_vret d8_56 rfl, trivial⟩
theorem sd8 : ∀ pc, eb_Snd L q0 8 pc (eb_lg 8) (eb_cd L 8 pc) := eb_AS_all (hk8 (L := L)) (sc8_0)
theorem sc9_0 : eb_AS L q0 9 (eb_lg 9) [(0, op_aload 0 1), (1, op_getI L 1 5 4), (4, op_push (zi 99) 6), (6, op_icge 13 9), (9, op_push (zi 1) 10), (10, op_goto 14), (13, op_push (zi 0) 14), (14, op_zret)] := ⟨sn_aload_n d9_0 rfl, sn_getI (by decide) fi_1_5.1 fi_1_5.2 wf_1_27 d9_1, sn_bipush d9_4 (by decide), sn_icge d9_6 (by decide), sn_iconst d9_9 (by decide), sn_goto d9_10 (by decide), sn_iconst d9_13 (by decide), sn_zret d9_14 rfl, trivial⟩
theorem sd9 : ∀ pc, eb_Snd L q0 9 pc (eb_lg 9) (eb_cd L 9 pc) := eb_AS_all (hk9 (L := L)) (sc9_0)
theorem sc10_0 : eb_AS L q0 10 (eb_lg 10) [(0, op_aload 0 1), (1, op_call 9 1 4), (4, op_ifne 9 7), (7, op_push (zi 0) 8), (8, op_zret), (9, op_aload 0 10), (10, op_dup 11), (11, op_getI L 1 5 14), (14, op_push (zi 1) 15), (15, op_ii (· + ·) 16), (16, op_putI L 1 5 19), (19, op_aload 0 20), (20, op_dup 21), (21, op_getI L 1 6 24), (24, op_iload 1 25), (25, op_ii (· + ·) 26), (26, op_putI L 1 6 29), (29, op_push (zi 1) 30), (30, op_zret)] := ⟨sn_aload_n d10_0 rfl, kV_9 wm_1_33 d10_1, sn_ifne d10_4 (by decide), sn_iconst d10_7 (by decide), sn_zret d10_8 rfl, sn_aload_n d10_9 rfl, sn_dup d10_10, sn_getI (by decide) fi_1_5.1 fi_1_5.2 wf_1_27 d10_11, sn_iconst d10_14 (by decide), sn_iadd d10_15, sn_putI (by decide) fi_1_5.1 fi_1_5.2 wf_1_27 (Or.inl rfl) fp_1_5 d10_16, sn_aload_n d10_19 rfl, sn_dup d10_20, sn_getI (by decide) fi_1_6.1 fi_1_6.2 wf_1_30 d10_21, sn_iload_n d10_24 rfl, sn_iadd d10_25, sn_putI (by decide) fi_1_6.1 fi_1_6.2 wf_1_30 (Or.inl rfl) fp_1_6 d10_26, sn_iconst d10_29 (by decide), sn_zret d10_30 rfl, trivial⟩
theorem sd10 : ∀ pc, eb_Snd L q0 10 pc (eb_lg 10) (eb_cd L 10 pc) := eb_AS_all (hk10 (L := L)) (sc10_0)
theorem sc11_0 : eb_AS L q0 11 (eb_lg 11) [(0, op_aload 0 1), (1, op_getI L 1 5 4), (4, op_iload 1 5), (5, op_ii (· + ·) 6), (6, op_istore 3 7), (7, op_iload 3 8), (8, op_push (zi 1) 9), (9, op_icge 16 12), (12, op_push (zi 0) 13), (13, op_goto 31), (16, op_aload 0 17), (17, op_getI L 1 6 20), (20, op_iload 1 21), (21, op_iload 2 22), (22, op_ii (· * ·) 23), (23, op_ii (· + ·) 24), (24, op_iload 3 25), (25, op_iid (· / ·) 26), (26, op_aload 0 27), (27, op_getI L 1 0 30), (30, op_ii (· - ·) 31), (31, op_iret)] := ⟨sn_aload_n d11_0 rfl, sn_getI (by decide) fi_1_5.1 fi_1_5.2 wf_1_27 d11_1, sn_iload_n d11_4 rfl, sn_iadd d11_5, sn_istore_n (eb_hlg (Or.inl rfl)) hn11_3 d11_6 rfl, sn_iload_n d11_7 rfl, sn_iconst d11_8 (by decide), sn_icge d11_9 (by decide), sn_iconst d11_12 (by decide), sn_goto d11_13 (by decide), sn_aload_n d11_16 rfl, sn_getI (by decide) fi_1_6.1 fi_1_6.2 wf_1_30 d11_17, sn_iload_n d11_20 rfl, sn_iload_n d11_21 rfl, sn_imul d11_22, sn_iadd d11_23, sn_iload_n d11_24 rfl, sn_idiv d11_25, sn_aload_n d11_26 rfl, sn_getI (by decide) fi_1_0.1 fi_1_0.2 wf_1_9 d11_27, sn_isub d11_30, sn_iret d11_31 rfl, trivial⟩
theorem sd11 : ∀ pc, eb_Snd L q0 11 pc (eb_lg 11) (eb_cd L 11 pc) := eb_AS_all (hk11 (L := L)) (sc11_0)
theorem sc12_0 : eb_AS L q0 12 (eb_lg 12) [(0, op_aload 0 1), (1, op_getI L 1 7 4), (4, op_aload 0 5), (5, op_getI L 1 2 8), (8, op_iclt 15 11), (11, op_push (zi 1) 12), (12, op_goto 16), (15, op_push (zi 0) 16), (16, op_zret)] := ⟨sn_aload_n d12_0 rfl, sn_getI (by decide) fi_1_7.1 fi_1_7.2 wf_1_37 d12_1, sn_aload_n d12_4 rfl, sn_getI (by decide) fi_1_2.1 fi_1_2.2 wf_1_18 d12_5, sn_iclt d12_8 (by decide), sn_iconst d12_11 (by decide), sn_goto d12_12 (by decide), sn_iconst d12_15 (by decide), sn_zret d12_16 rfl, trivial⟩
theorem sd12 : ∀ pc, eb_Snd L q0 12 pc (eb_lg 12) (eb_cd L 12 pc) := eb_AS_all (hk12 (L := L)) (sc12_0)
theorem sc13_0 : eb_AS L q0 13 (eb_lg 13) [(0, op_aload 0 1), (1, op_getI L 1 0 4), (4, op_aload 0 5), (5, op_getI L 1 3 8), (8, op_ii (· - ·) 9), (9, op_aload 0 10), (10, op_call 12 1 13), (13, op_ifeq 21 16), (16, op_push (zi 20) 18), (18, op_goto 22), (21, op_push (zi 0) 22), (22, op_ii (· - ·) 23), (23, op_iret)] := ⟨sn_aload_n d13_0 rfl, sn_getI (by decide) fi_1_0.1 fi_1_0.2 wf_1_9 d13_1, sn_aload_n d13_4 rfl, sn_getI (by decide) fi_1_3.1 fi_1_3.2 wf_1_21 d13_5, sn_isub d13_8, sn_aload_n d13_9 rfl, kV_12 wm_1_40 d13_10, sn_ifeq d13_13 (by decide), sn_bipush d13_16 (by decide), sn_goto d13_18 (by decide), sn_iconst d13_21 (by decide), sn_isub d13_22, sn_iret d13_23 rfl, trivial⟩
theorem sd13 : ∀ pc, eb_Snd L q0 13 pc (eb_lg 13) (eb_cd L 13 pc) := eb_AS_all (hk13 (L := L)) (sc13_0)
theorem sc14_0 : eb_AS L q0 14 (eb_lg 14) [(0, op_aload 0 1), (1, op_getI L 1 3 4), (4, op_aload 0 5), (5, op_getI L 1 7 8), (8, op_ii (· * ·) 9), (9, op_iret)] := ⟨sn_aload_n d14_0 rfl, sn_getI (by decide) fi_1_3.1 fi_1_3.2 wf_1_21 d14_1, sn_aload_n d14_4 rfl, sn_getI (by decide) fi_1_7.1 fi_1_7.2 wf_1_37 d14_5, sn_imul d14_8, sn_iret d14_9 rfl, trivial⟩
theorem sd14 : ∀ pc, eb_Snd L q0 14 pc (eb_lg 14) (eb_cd L 14 pc) := eb_AS_all (hk14 (L := L)) (sc14_0)
theorem sc15_0 : eb_AS L q0 15 (eb_lg 15) [(0, op_aload 0 1), (1, op_dup 2), (2, op_getI L 1 8 5), (5, op_aload 0 6), (6, op_call 14 1 9), (9, op_ii (· + ·) 10), (10, op_putI L 1 8 13), (13, op_aload 0 14), (14, op_getI L 1 7 17), (17, op_ifle 72 20), (20, op_aload 0 21), (21, op_getI L 1 4 24), (24, op_push (zi (-1)) 25), (25, op_iceq 43 28), (28, op_aload 0 29), (29, op_getI L 1 0 32), (32, op_aload 0 33), (33, op_getI L 1 4 36), (36, op_icge 43 39), (39, op_push (zi 1) 40), (40, op_goto 44), (43, op_push (zi 0) 44), (44, op_istore 1 45), (45, op_aload 0 46), (46, op_iload 1 47), (47, op_ifeq 64 50), (50, op_push (zi 0) 51), (51, op_aload 0 52), (52, op_getI L 1 0 55), (55, op_push (zi 10) 57), (57, op_ii (· - ·) 58), (58, op_call 900 2 61), (61, op_goto 68), (64, op_aload 0 65), (65, op_getI L 1 0 68), (68, op_call 10 2 71), (71, op_pop 72), (72, op_aload 0 73), (73, op_call 12 1 76), (76, op_ifeq 119 79)] := ⟨sn_aload_n d15_0 rfl, sn_dup d15_1, sn_getI (by decide) fi_1_8.1 fi_1_8.2 wf_1_43 d15_2, sn_aload_n d15_5 rfl, kV_14 wm_1_46 d15_6, sn_iadd d15_9, sn_putI (by decide) fi_1_8.1 fi_1_8.2 wf_1_43 (Or.inl rfl) fp_1_8 d15_10, sn_aload_n d15_13 rfl, sn_getI (by decide) fi_1_7.1 fi_1_7.2 wf_1_37 d15_14, sn_ifle d15_17 (by decide), sn_aload_n d15_20 rfl, sn_getI (by decide) fi_1_4.1 fi_1_4.2 wf_1_24 d15_21, sn_iconst d15_24 (by decide), sn_iceq d15_25 (by decide), sn_aload_n d15_28 rfl, sn_getI (by decide) fi_1_0.1 fi_1_0.2 wf_1_9 d15_29, sn_aload_n d15_32 rfl, sn_getI (by decide) fi_1_4.1 fi_1_4.2 wf_1_24 d15_33, sn_icge d15_36 (by decide), sn_iconst d15_39 (by decide), sn_goto d15_40 (by decide), sn_iconst d15_43 (by decide), sn_istore_n (eb_hlg (Or.inl rfl)) hn15_1 d15_44 rfl, sn_aload_n d15_45 rfl, sn_iload_n d15_46 rfl, sn_ifeq d15_47 (by decide), sn_iconst d15_50 (by decide), sn_aload_n d15_51 rfl, sn_getI (by decide) fi_1_0.1 fi_1_0.2 wf_1_9 d15_52, sn_bipush d15_55 (by decide), sn_isub d15_57, sn_max wm_1_50 d15_58, sn_goto d15_61 (by decide), sn_aload_n d15_64 rfl, sn_getI (by decide) fi_1_0.1 fi_1_0.2 wf_1_9 d15_65, kV_10 wm_1_56 d15_68, sn_pop d15_71, sn_aload_n d15_72 rfl, kV_12 wm_1_40 d15_73, sn_ifeq d15_76 (by decide), trivial⟩
theorem sc15_1 : eb_AS L q0 15 (eb_lg 15) [(79, op_aload 0 80), (80, op_push (zi 0) 81), (81, op_aload 0 82), (82, op_getI L 1 0 85), (85, op_push (zi 6) 87), (87, op_ii (· - ·) 88), (88, op_call 900 2 91), (91, op_putI L 1 0 94), (94, op_aload 0 95), (95, op_push (zi 99) 97), (97, op_aload 0 98), (98, op_getI L 1 3 101), (101, op_aload 0 102), (102, op_getI L 1 3 105), (105, op_push (zi 4) 106), (106, op_iid (· / ·) 107), (107, op_ii (· + ·) 108), (108, op_push (zi 1) 109), (109, op_ii (· + ·) 110), (110, op_call 901 2 113), (113, op_putI L 1 3 116), (116, op_goto 181), (119, op_push (zi 2) 120), (120, op_aload 0 121), (121, op_getI L 1 7 124), (124, op_ii (· * ·) 125), (125, op_aload 0 126), (126, op_getI L 1 2 129), (129, op_icge 181 132), (132, op_aload 0 133), (133, op_aload 0 134), (134, op_getI L 1 0 137), (137, op_aload 0 138), (138, op_getI L 1 1 141), (141, op_icge 160 144), (144, op_aload 0 145), (145, op_getI L 1 1 148), (148, op_aload 0 149), (149, op_getI L 1 0 152), (152, op_push (zi 3) 153)] := ⟨sn_aload_n d15_79 rfl, sn_iconst d15_80 (by decide), sn_aload_n d15_81 rfl, sn_getI (by decide) fi_1_0.1 fi_1_0.2 wf_1_9 d15_82, sn_bipush d15_85 (by decide), sn_isub d15_87, sn_max wm_1_50 d15_88, sn_putI (by decide) fi_1_0.1 fi_1_0.2 wf_1_9 (Or.inl rfl) fp_1_0 d15_91, sn_aload_n d15_94 rfl, sn_bipush d15_95 (by decide), sn_aload_n d15_97 rfl, sn_getI (by decide) fi_1_3.1 fi_1_3.2 wf_1_21 d15_98, sn_aload_n d15_101 rfl, sn_getI (by decide) fi_1_3.1 fi_1_3.2 wf_1_21 d15_102, sn_iconst d15_105 (by decide), sn_idiv d15_106, sn_iadd d15_107, sn_iconst d15_108 (by decide), sn_iadd d15_109, sn_min wm_1_60 d15_110, sn_putI (by decide) fi_1_3.1 fi_1_3.2 wf_1_21 (Or.inl rfl) fp_1_3 d15_113, sn_goto d15_116 (by decide), sn_iconst d15_119 (by decide), sn_aload_n d15_120 rfl, sn_getI (by decide) fi_1_7.1 fi_1_7.2 wf_1_37 d15_121, sn_imul d15_124, sn_aload_n d15_125 rfl, sn_getI (by decide) fi_1_2.1 fi_1_2.2 wf_1_18 d15_126, sn_icge d15_129 (by decide), sn_aload_n d15_132 rfl, sn_aload_n d15_133 rfl, sn_getI (by decide) fi_1_0.1 fi_1_0.2 wf_1_9 d15_134, sn_aload_n d15_137 rfl, sn_getI (by decide) fi_1_1.1 fi_1_1.2 wf_1_15 d15_138, sn_icge d15_141 (by decide), sn_aload_n d15_144 rfl, sn_getI (by decide) fi_1_1.1 fi_1_1.2 wf_1_15 d15_145, sn_aload_n d15_148 rfl, sn_getI (by decide) fi_1_0.1 fi_1_0.2 wf_1_9 d15_149, sn_iconst d15_152 (by decide), trivial⟩
theorem sc15_2 : eb_AS L q0 15 (eb_lg 15) [(153, op_ii (· + ·) 154), (154, op_call 901 2 157), (157, op_goto 164), (160, op_aload 0 161), (161, op_getI L 1 0 164), (164, op_putI L 1 0 167), (167, op_aload 0 168), (168, op_push (zi 0) 169), (169, op_aload 0 170), (170, op_getI L 1 3 173), (173, op_push (zi 1) 174), (174, op_ii (· - ·) 175), (175, op_call 900 2 178), (178, op_putI L 1 3 181), (181, op_vret)] := ⟨sn_iadd d15_153, sn_min wm_1_60 d15_154, sn_goto d15_157 (by decide), sn_aload_n d15_160 rfl, sn_getI (by decide) fi_1_0.1 fi_1_0.2 wf_1_9 d15_161, sn_putI (by decide) fi_1_0.1 fi_1_0.2 wf_1_9 (Or.inl rfl) fp_1_0 d15_164, sn_aload_n d15_167 rfl, sn_iconst d15_168 (by decide), sn_aload_n d15_169 rfl, sn_getI (by decide) fi_1_3.1 fi_1_3.2 wf_1_21 d15_170, sn_iconst d15_173 (by decide), sn_isub d15_174, sn_max wm_1_50 d15_175, sn_putI (by decide) fi_1_3.1 fi_1_3.2 wf_1_21 (Or.inl rfl) fp_1_3 d15_178, sn_vret d15_181 rfl, trivial⟩
theorem sd15 : ∀ pc, eb_Snd L q0 15 pc (eb_lg 15) (eb_cd L 15 pc) := eb_AS_all (hk15 (L := L)) (eb_AS_app sc15_0 (eb_AS_app sc15_1 (sc15_2)))
theorem sc16_0 : eb_AS L q0 16 (eb_lg 16) [(0, op_aload 0 1), (1, op_callv 903 1 4), (4, op_aload 0 5), (5, op_push (zi (-1)) 6), (6, op_putI L 2 0 9), (9, op_aload 0 10), (10, op_push (zi 40) 12), (12, op_newJ L 14), (14, op_putR L 2 2 17), (17, op_vret)] := ⟨sn_aload_n d16_0 rfl, sn_obj wm_2_3 d16_1, sn_aload_n d16_4 rfl, sn_iconst d16_5 (by decide), sn_putI (by decide) fi_2_0.1 fi_2_0.2 wf_2_9 (Or.inl rfl) fp_2_0 d16_6, sn_aload_n d16_9 rfl, sn_bipush d16_10 (by decide), sn_newJ d16_12, sn_putR (by decide) fi_2_2.1 fi_2_2.2 wf_2_15 (Or.inr ⟨rfl, rfl⟩) fp_2_2 d16_14, sn_vret d16_17 rfl, trivial⟩
theorem sd16 : ∀ pc, eb_Snd L q0 16 pc (eb_lg 16) (eb_cd L 16 pc) := eb_AS_all (hk16 (L := L)) (sc16_0)
theorem sc17_0 : eb_AS L q0 17 (eb_lg 17) [(0, op_aload 0 1), (1, op_getI L 2 0 4), (4, op_push (zi 0) 5), (5, op_push (zi 4) 6), (6, op_call 127 3 9), (9, op_zret)] := ⟨sn_aload_n d17_0 rfl, sn_getI (by decide) fi_2_0.1 fi_2_0.2 wf_2_9 d17_1, sn_iconst d17_4 (by decide), sn_iconst d17_5 (by decide), kSN_127 wm_2_19 d17_6, sn_zret d17_9 rfl, trivial⟩
theorem sd17 : ∀ pc, eb_Snd L q0 17 pc (eb_lg 17) (eb_cd L 17 pc) := eb_AS_all (hk17 (L := L)) (sc17_0)
theorem sc18_0 : eb_AS L q0 18 (eb_lg 18) [(0, op_aload 0 1), (1, op_getI L 2 0 4), (4, op_push (zi 10) 6), (6, op_iclt 13 9), (9, op_push (zi 1) 10), (10, op_goto 14), (13, op_push (zi 0) 14), (14, op_zret)] := ⟨sn_aload_n d18_0 rfl, sn_getI (by decide) fi_2_0.1 fi_2_0.2 wf_2_9 d18_1, sn_bipush d18_4 (by decide), sn_iclt d18_6 (by decide), sn_iconst d18_9 (by decide), sn_goto d18_10 (by decide), sn_iconst d18_13 (by decide), sn_zret d18_14 rfl, trivial⟩
theorem sd18 : ∀ pc, eb_Snd L q0 18 pc (eb_lg 18) (eb_cd L 18 pc) := eb_AS_all (hk18 (L := L)) (sc18_0)
theorem sc19_0 : eb_AS L q0 19 (eb_lg 19) [(0, op_aload 0 1), (1, op_iload 1 2), (2, op_putI L 2 0 5), (5, op_aload 0 6), (6, op_iload 2 7), (7, op_putI L 2 1 10), (10, op_push (zi 0) 11), (11, op_istore 3 12), (12, op_iload 3 13), (13, op_push (zi 40) 15), (15, op_icge 31 18), (18, op_aload 0 19), (19, op_getR L 2 2 22), (22, op_iload 3 23), (23, op_push (zl 0) 24), (24, op_last L 25), (25, op_iinc 3 1 28), (28, op_goto 12), (31, op_vret)] := ⟨sn_aload_n d19_0 rfl, sn_iload_n d19_1 rfl, sn_putI (by decide) fi_2_0.1 fi_2_0.2 wf_2_9 (Or.inl rfl) fp_2_0 d19_2, sn_aload_n d19_5 rfl, sn_iload_n d19_6 rfl, sn_putI (by decide) fi_2_1.1 fi_2_1.2 wf_2_23 (Or.inl rfl) fp_2_1 d19_7, sn_iconst d19_10 (by decide), sn_istore_n (eb_hlg (Or.inl rfl)) hn19_3 d19_11 rfl, sn_iload_n d19_12 rfl, sn_bipush d19_13 (by decide), sn_icge d19_15 (by decide), sn_aload_n d19_18 rfl, sn_getR (by decide) fi_2_2.1 fi_2_2.2 wf_2_15 d19_19, sn_iload_n d19_22 rfl, sn_lconst d19_23 (by decide), sn_last d19_24, sn_iinc (eb_hlg (Or.inl rfl)) hn19_3 d19_25 (by decide), sn_goto d19_28 (by decide), sn_vret d19_31 rfl, trivial⟩
theorem sd19 : ∀ pc, eb_Snd L q0 19 pc (eb_lg 19) (eb_cd L 19 pc) := eb_AS_all (hk19 (L := L)) (sc19_0)
theorem sc20_0 : eb_AS L q0 20 (eb_lg 20) [(0, op_iload 2 1), (1, op_iflt 22 4), (4, op_iload 1 5), (5, op_push (zi 0) 6), (6, op_aload 0 7), (7, op_getI L 2 1 10), (10, op_iload 2 11), (11, op_ii (· - ·) 12), (12, op_call 127 3 15), (15, op_ifeq 22 18), (18, op_push (zi 1) 19), (19, op_goto 23), (22, op_push (zi 0) 23), (23, op_zret)] := ⟨sn_iload_n d20_0 rfl, sn_iflt d20_1 (by decide), sn_iload_n d20_4 rfl, sn_iconst d20_5 (by decide), sn_aload_n d20_6 rfl, sn_getI (by decide) fi_2_1.1 fi_2_1.2 wf_2_23 d20_7, sn_iload_n d20_10 rfl, sn_isub d20_11, kSN_127 wm_2_19 d20_12, sn_ifeq d20_15 (by decide), sn_iconst d20_18 (by decide), sn_goto d20_19 (by decide), sn_iconst d20_22 (by decide), sn_zret d20_23 rfl, trivial⟩
theorem sd20 : ∀ pc, eb_Snd L q0 20 pc (eb_lg 20) (eb_cd L 20 pc) := eb_AS_all (hk20 (L := L)) (sc20_0)
theorem sc21_0 : eb_AS L q0 21 (eb_lg 21) [(0, op_aload 0 1), (1, op_getR L 2 2 4), (4, op_iload 1 5), (5, op_aload 0 6), (6, op_lload 2 7), (7, op_call 22 2 10), (10, op_last L 11), (11, op_vret)] := ⟨sn_aload_n d21_0 rfl, sn_getR (by decide) fi_2_2.1 fi_2_2.2 wf_2_15 d21_1, sn_iload_n d21_4 rfl, sn_aload_n d21_5 rfl, sn_lload_n d21_6 rfl, kV_22 wm_2_26 d21_7, sn_last d21_10, sn_vret d21_11 rfl, trivial⟩
theorem sd21 : ∀ pc, eb_Snd L q0 21 pc (eb_lg 21) (eb_cd L 21 pc) := eb_AS_all (hk21 (L := L)) (sc21_0)
theorem sc22_0 : eb_AS L q0 22 (eb_lg 22) [(0, op_aload 0 1), (1, op_getI L 2 0 4), (4, op_sw [(0, 40), (1, 45), (2, 50), (3, 66), (4, 54)] 66), (40, op_lload 1 41), (41, op_l2i 42), (42, op_i (fun x => x.toInt8.toInt32) 43), (43, op_i2l 44), (44, op_lret), (45, op_lload 1 46), (46, op_l2i 47), (47, op_i (fun x => x.toInt16.toInt32) 48), (48, op_i2l 49), (49, op_lret), (50, op_lload 1 51), (51, op_l2i 52), (52, op_i2l 53), (53, op_lret), (54, op_lload 1 55), (55, op_push (zl 0) 56), (56, op_lcmp 57), (57, op_ifeq 64 60), (60, op_push (zl 1) 61), (61, op_goto 65), (64, op_push (zl 0) 65), (65, op_lret), (66, op_lload 1 67), (67, op_lret)] := ⟨sn_aload_n d22_0 rfl, sn_getI (by decide) fi_2_0.1 fi_2_0.2 wf_2_9 d22_1, sn_sw d22_4 (by decide) (by decide +kernel) (by decide), sn_lload_n d22_40 rfl, sn_l2i d22_41, sn_i2b d22_42, sn_i2l d22_43, sn_lret d22_44 rfl, sn_lload_n d22_45 rfl, sn_l2i d22_46, sn_i2s d22_47, sn_i2l d22_48, sn_lret d22_49 rfl, sn_lload_n d22_50 rfl, sn_l2i d22_51, sn_i2l d22_52, sn_lret d22_53 rfl, sn_lload_n d22_54 rfl, sn_lconst d22_55 (by decide), sn_lcmp d22_56, sn_ifeq d22_57 (by decide), sn_lconst d22_60 (by decide), sn_goto d22_61 (by decide), sn_lconst d22_64 (by decide), sn_lret d22_65 rfl, sn_lload_n d22_66 rfl, sn_lret d22_67 rfl, trivial⟩
theorem sd22 : ∀ pc, eb_Snd L q0 22 pc (eb_lg 22) (eb_cd L 22 pc) := eb_AS_all (hk22 (L := L)) (sc22_0)
theorem sc23_0 : eb_AS L q0 23 (eb_lg 23) [(0, op_aload 0 1), (1, op_callv 903 1 4), (4, op_aload 0 5), (5, op_push (zi 250) 8), (8, op_newI L 10), (10, op_putR L 3 0 13), (13, op_vret)] := ⟨sn_aload_n d23_0 rfl, sn_obj wm_3_3 d23_1, sn_aload_n d23_4 rfl, sn_sipush d23_5 (by decide), sn_newI d23_8, sn_putR (by decide) fi_3_0.1 fi_3_0.2 wf_3_9 (Or.inr ⟨rfl, rfl⟩) fp_3_0 d23_10, sn_vret d23_13 rfl, trivial⟩
theorem sd23 : ∀ pc, eb_Snd L q0 23 pc (eb_lg 23) (eb_cd L 23 pc) := eb_AS_all (hk23 (L := L)) (sc23_0)
theorem sc24_0 : eb_AS L q0 24 (eb_lg 24) [(0, op_aload 0 1), (1, op_getI L 3 1 4), (4, op_push (zi 250) 7), (7, op_iclt 12 10), (10, op_push (zi 0) 11), (11, op_zret), (12, op_aload 0 13), (13, op_getR L 3 0 16), (16, op_aload 0 17), (17, op_getI L 3 1 20), (20, op_iload 1 21), (21, op_iast L 22), (22, op_aload 0 23), (23, op_dup 24), (24, op_getI L 3 1 27), (27, op_push (zi 1) 28), (28, op_ii (· + ·) 29), (29, op_putI L 3 1 32), (32, op_push (zi 1) 33), (33, op_zret)] := ⟨sn_aload_n d24_0 rfl, sn_getI (by decide) fi_3_1.1 fi_3_1.2 wf_3_15 d24_1, sn_sipush d24_4 (by decide), sn_iclt d24_7 (by decide), sn_iconst d24_10 (by decide), sn_zret d24_11 rfl, sn_aload_n d24_12 rfl, sn_getR (by decide) fi_3_0.1 fi_3_0.2 wf_3_9 d24_13, sn_aload_n d24_16 rfl, sn_getI (by decide) fi_3_1.1 fi_3_1.2 wf_3_15 d24_17, sn_iload_n d24_20 rfl, sn_iast d24_21, sn_aload_n d24_22 rfl, sn_dup d24_23, sn_getI (by decide) fi_3_1.1 fi_3_1.2 wf_3_15 d24_24, sn_iconst d24_27 (by decide), sn_iadd d24_28, sn_putI (by decide) fi_3_1.1 fi_3_1.2 wf_3_15 (Or.inl rfl) fp_3_1 d24_29, sn_iconst d24_32 (by decide), sn_zret d24_33 rfl, trivial⟩
theorem sd24 : ∀ pc, eb_Snd L q0 24 pc (eb_lg 24) (eb_cd L 24 pc) := eb_AS_all (hk24 (L := L)) (sc24_0)
theorem sc25_0 : eb_AS L q0 25 (eb_lg 25) [(0, op_aload 0 1), (1, op_push (zi 0) 2), (2, op_putI L 3 3 5), (5, op_aload 0 6), (6, op_callv 35 1 9), (9, op_push (zi 1) 10), (10, op_istore 2 11), (11, op_iload 2 12), (12, op_push (zi 250) 15), (15, op_icgt 57 18), (18, op_aload 0 19), (19, op_aload 1 20), (20, op_call 26 2 23), (23, op_ifne 28 26), (26, op_push (zi (-1)) 27), (27, op_iret), (28, op_aload 0 29), (29, op_getI L 3 4 32), (32, op_ifne 37 35), (35, op_iload 2 36), (36, op_iret), (37, op_aload 0 38), (38, op_getI L 3 4 41), (41, op_push (zi 3) 42), (42, op_iceq 47 45), (45, op_push (zi (-1)) 46), (46, op_iret), (47, op_aload 0 48), (48, op_callv 35 1 51), (51, op_iinc 2 1 54), (54, op_goto 11), (57, op_push (zi (-1)) 58), (58, op_iret)] := ⟨sn_aload_n d25_0 rfl, sn_iconst d25_1 (by decide), sn_putI (by decide) fi_3_3.1 fi_3_3.2 wf_3_19 (Or.inl rfl) fp_3_3 d25_2, sn_aload_n d25_5 rfl, kV_35 wm_3_22 d25_6, sn_iconst d25_9 (by decide), sn_istore_n (eb_hlg (Or.inl rfl)) hn25_2 d25_10 rfl, sn_iload_n d25_11 rfl, sn_sipush d25_12 (by decide), sn_icgt d25_15 (by decide), sn_aload_n d25_18 rfl, sn_aload_n d25_19 rfl, kV_26 wm_3_25 d25_20, sn_ifne d25_23 (by decide), sn_iconst d25_26 (by decide), sn_iret d25_27 rfl, sn_aload_n d25_28 rfl, sn_getI (by decide) fi_3_4.1 fi_3_4.2 wf_3_29 d25_29, sn_ifne d25_32 (by decide), sn_iload_n d25_35 rfl, sn_iret d25_36 rfl, sn_aload_n d25_37 rfl, sn_getI (by decide) fi_3_4.1 fi_3_4.2 wf_3_29 d25_38, sn_iconst d25_41 (by decide), sn_iceq d25_42 (by decide), sn_iconst d25_45 (by decide), sn_iret d25_46 rfl, sn_aload_n d25_47 rfl, kV_35 wm_3_22 d25_48, sn_iinc (eb_hlg (Or.inl rfl)) hn25_2 d25_51 (by decide), sn_goto d25_54 (by decide), sn_iconst d25_57 (by decide), sn_iret d25_58 rfl, trivial⟩
theorem sd25 : ∀ pc, eb_Snd L q0 25 pc (eb_lg 25) (eb_cd L 25 pc) := eb_AS_all (hk25 (L := L)) (sc25_0)
theorem sc26_0 : eb_AS L q0 26 (eb_lg 26) [(0, op_aload 0 1), (1, op_push (zr (50, 0, 0)) 3), (3, op_call 34 2 6), (6, op_ifeq 15 9), (9, op_aload 0 10), (10, op_aload 1 11), (11, op_call 27 2 14), (14, op_zret), (15, op_aload 0 16), (16, op_push (zr (50, 1, 0)) 18), (18, op_call 34 2 21), (21, op_ifeq 30 24), (24, op_aload 0 25), (25, op_aload 1 26), (26, op_call 28 2 29), (29, op_zret), (30, op_aload 0 31), (31, op_push (zr (50, 2, 0)) 33), (33, op_call 34 2 36), (36, op_ifeq 45 39), (39, op_aload 0 40), (40, op_aload 1 41), (41, op_call 29 2 44), (44, op_zret), (45, op_aload 0 46), (46, op_push (zr (50, 3, 0)) 48), (48, op_call 34 2 51), (51, op_ifeq 60 54), (54, op_aload 0 55), (55, op_aload 1 56), (56, op_call 30 2 59), (59, op_zret), (60, op_aload 0 61), (61, op_push (zr (50, 4, 0)) 63), (63, op_call 34 2 66), (66, op_ifeq 81 69), (69, op_aload 0 70), (70, op_aload 1 71), (71, op_call 31 2 74), (74, op_ifeq 81 77)] := ⟨sn_aload_n d26_0 rfl, sn_ldcS (i := 0) (by decide) d26_1 ⟨rfl, rfl⟩, kV_34 wm_3_34 d26_3, sn_ifeq d26_6 (by decide), sn_aload_n d26_9 rfl, sn_aload_n d26_10 rfl, kV_27 wm_3_38 d26_11, sn_zret d26_14 rfl, sn_aload_n d26_15 rfl, sn_ldcS (i := 1) (by decide) d26_16 ⟨rfl, rfl⟩, kV_34 wm_3_34 d26_18, sn_ifeq d26_21 (by decide), sn_aload_n d26_24 rfl, sn_aload_n d26_25 rfl, kV_28 wm_3_43 d26_26, sn_zret d26_29 rfl, sn_aload_n d26_30 rfl, sn_ldcS (i := 2) (by decide) d26_31 ⟨rfl, rfl⟩, kV_34 wm_3_34 d26_33, sn_ifeq d26_36 (by decide), sn_aload_n d26_39 rfl, sn_aload_n d26_40 rfl, kV_29 wm_3_48 d26_41, sn_zret d26_44 rfl, sn_aload_n d26_45 rfl, sn_ldcS (i := 3) (by decide) d26_46 ⟨rfl, rfl⟩, kV_34 wm_3_34 d26_48, sn_ifeq d26_51 (by decide), sn_aload_n d26_54 rfl, sn_aload_n d26_55 rfl, kV_30 wm_3_53 d26_56, sn_zret d26_59 rfl, sn_aload_n d26_60 rfl, sn_ldcS (i := 4) (by decide) d26_61 ⟨rfl, rfl⟩, kV_34 wm_3_34 d26_63, sn_ifeq d26_66 (by decide), sn_aload_n d26_69 rfl, sn_aload_n d26_70 rfl, kV_31 wm_3_58 d26_71, sn_ifeq d26_74 (by decide), trivial⟩
theorem sc26_1 : eb_AS L q0 26 (eb_lg 26) [(77, op_push (zi 1) 78), (78, op_goto 82), (81, op_push (zi 0) 82), (82, op_zret)] := ⟨sn_iconst d26_77 (by decide), sn_goto d26_78 (by decide), sn_iconst d26_81 (by decide), sn_zret d26_82 rfl, trivial⟩
theorem sd26 : ∀ pc, eb_Snd L q0 26 pc (eb_lg 26) (eb_cd L 26 pc) := eb_AS_all (hk26 (L := L)) (eb_AS_app sc26_0 (sc26_1))
theorem sc27_0 : eb_AS L q0 27 (eb_lg 27) [(0, op_aload 1 1), (1, op_getI L 4 2 4), (4, op_push (zi 6) 6), (6, op_iclt 11 9), (9, op_push (zi 0) 10), (10, op_zret), (11, op_aload 0 12), (12, op_callv 35 1 15), (15, op_aload 0 16), (16, op_push (zi 0) 17), (17, op_push (zi 100) 19), (19, op_call 32 3 22), (22, op_istore 2 23), (23, op_iload 2 24), (24, op_push (zi (-1)) 25), (25, op_icne 32 28), (28, op_push (zi (-1)) 29), (29, op_goto 39), (32, op_aload 0 33), (33, op_push (zi 1) 34), (34, op_push (zi 20) 36), (36, op_call 32 3 39), (39, op_istore 3 40), (40, op_iload 3 41), (41, op_push (zi (-1)) 42), (42, op_icne 49 45), (45, op_push (zi (-1)) 46), (46, op_goto 56), (49, op_aload 0 50), (50, op_push (zi 0) 51), (51, op_push (zi 99) 53), (53, op_call 32 3 56), (56, op_istore 4 58), (58, op_iload 4 60), (60, op_push (zi (-1)) 61), (61, op_icne 66 64), (64, op_push (zi 0) 65), (65, op_zret), (66, op_aload 1 67), (67, op_iload 2 68)] := ⟨sn_aload_n d27_0 rfl, sn_getI (by decide) fi_4_2.1 fi_4_2.2 wf_3_61 d27_1, sn_bipush d27_4 (by decide), sn_iclt d27_6 (by decide), sn_iconst d27_9 (by decide), sn_zret d27_10 rfl, sn_aload_n d27_11 rfl, kV_35 wm_3_22 d27_12, sn_aload_n d27_15 rfl, sn_iconst d27_16 (by decide), sn_bipush d27_17 (by decide), kV_32 wm_3_66 d27_19, sn_istore_n (eb_hlg (Or.inl rfl)) hn27_2 d27_22 rfl, sn_iload_n d27_23 rfl, sn_iconst d27_24 (by decide), sn_icne d27_25 (by decide), sn_iconst d27_28 (by decide), sn_goto d27_29 (by decide), sn_aload_n d27_32 rfl, sn_iconst d27_33 (by decide), sn_bipush d27_34 (by decide), kV_32 wm_3_66 d27_36, sn_istore_n (eb_hlg (Or.inl rfl)) hn27_3 d27_39 rfl, sn_iload_n d27_40 rfl, sn_iconst d27_41 (by decide), sn_icne d27_42 (by decide), sn_iconst d27_45 (by decide), sn_goto d27_46 (by decide), sn_aload_n d27_49 rfl, sn_iconst d27_50 (by decide), sn_bipush d27_51 (by decide), kV_32 wm_3_66 d27_53, sn_istore (eb_hlg (Or.inl rfl)) hn27_4 d27_56, sn_iload d27_58, sn_iconst d27_60 (by decide), sn_icne d27_61 (by decide), sn_iconst d27_64 (by decide), sn_zret d27_65 rfl, sn_aload_n d27_66 rfl, sn_iload_n d27_67 rfl, trivial⟩
theorem sc27_1 : eb_AS L q0 27 (eb_lg 27) [(68, op_iload 3 69), (69, op_iload 4 71), (71, op_call 40 4 74), (74, op_istore 5 76), (76, op_iload 5 78), (78, op_push (zi (-1)) 79), (79, op_iceq 91 82), (82, op_aload 0 83), (83, op_push (zr (50, 5, 0)) 85), (85, op_call 34 2 88), (88, op_ifne 103 91), (91, op_iload 5 93), (93, op_push (zi (-1)) 94), (94, op_iceq 101 97), (97, op_push (zi 1) 98), (98, op_goto 102), (101, op_push (zi 0) 102), (102, op_zret), (103, op_aload 0 104), (104, op_callv 35 1 107), (107, op_aload 1 108), (108, op_getR L 4 0 111), (111, op_iload 5 113), (113, op_aald L 114), (114, op_aload 0 115), (115, op_push (zi 0) 116), (116, op_push (zi 100) 118), (118, op_call 32 3 121), (121, op_putI L 1 4 124), (124, op_aload 1 125), (125, op_getR L 4 0 128), (128, op_iload 5 130), (130, op_aald L 131), (131, op_getI L 1 4 134), (134, op_push (zi (-1)) 135), (135, op_iceq 142 138), (138, op_push (zi 1) 139), (139, op_goto 143), (142, op_push (zi 0) 143), (143, op_zret)] := ⟨sn_iload_n d27_68 rfl, sn_iload d27_69, kV_40 wm_3_70 d27_71, sn_istore (eb_hlg (Or.inl rfl)) hn27_5 d27_74, sn_iload d27_76, sn_iconst d27_78 (by decide), sn_iceq d27_79 (by decide), sn_aload_n d27_82 rfl, sn_ldcS (i := 5) (by decide) d27_83 ⟨rfl, rfl⟩, kV_34 wm_3_34 d27_85, sn_ifne d27_88 (by decide), sn_iload d27_91, sn_iconst d27_93 (by decide), sn_iceq d27_94 (by decide), sn_iconst d27_97 (by decide), sn_goto d27_98 (by decide), sn_iconst d27_101 (by decide), sn_zret d27_102 rfl, sn_aload_n d27_103 rfl, kV_35 wm_3_22 d27_104, sn_aload_n d27_107 rfl, sn_getR (by decide) fi_4_0.1 fi_4_0.2 wf_3_76 d27_108, sn_iload d27_111, sn_aald d27_113, sn_aload_n d27_114 rfl, sn_iconst d27_115 (by decide), sn_bipush d27_116 (by decide), kV_32 wm_3_66 d27_118, sn_putI (by decide) fi_1_4.1 fi_1_4.2 wf_3_80 (Or.inl rfl) fp_1_4 d27_121, sn_aload_n d27_124 rfl, sn_getR (by decide) fi_4_0.1 fi_4_0.2 wf_3_76 d27_125, sn_iload d27_128, sn_aald d27_130, sn_getI (by decide) fi_1_4.1 fi_1_4.2 wf_3_80 d27_131, sn_iconst d27_134 (by decide), sn_iceq d27_135 (by decide), sn_iconst d27_138 (by decide), sn_goto d27_139 (by decide), sn_iconst d27_142 (by decide), sn_zret d27_143 rfl, trivial⟩
theorem sd27 : ∀ pc, eb_Snd L q0 27 pc (eb_lg 27) (eb_cd L 27 pc) := eb_AS_all (hk27 (L := L)) (eb_AS_app sc27_0 (sc27_1))
theorem sc28_0 : eb_AS L q0 28 (eb_lg 28) [(0, op_aload 1 1), (1, op_getI L 4 3 4), (4, op_push (zi 6) 6), (6, op_iclt 11 9), (9, op_push (zi 0) 10), (10, op_zret), (11, op_aload 0 12), (12, op_callv 35 1 15), (15, op_aload 0 16), (16, op_push (zi 0) 17), (17, op_push (zi 5) 18), (18, op_call 32 3 21), (21, op_istore 2 22), (22, op_iload 2 23), (23, op_push (zi (-1)) 24), (24, op_icne 31 27), (27, op_push (zi (-1)) 28), (28, op_goto 38), (31, op_aload 0 32), (32, op_push (zi 1) 33), (33, op_push (zi 30) 35), (35, op_call 32 3 38), (38, op_istore 3 39), (39, op_iload 3 40), (40, op_push (zi (-1)) 41), (41, op_icne 48 44), (44, op_push (zi (-1)) 45), (45, op_goto 55), (48, op_aload 0 49), (49, op_push (zi 0) 50), (50, op_push (zi 99) 52), (52, op_call 32 3 55), (55, op_istore 4 57), (57, op_iload 4 59), (59, op_push (zi (-1)) 60), (60, op_iceq 79 63), (63, op_aload 1 64), (64, op_iload 2 65), (65, op_iload 3 66), (66, op_iload 4 68)] := ⟨sn_aload_n d28_0 rfl, sn_getI (by decide) fi_4_3.1 fi_4_3.2 wf_3_84 d28_1, sn_bipush d28_4 (by decide), sn_iclt d28_6 (by decide), sn_iconst d28_9 (by decide), sn_zret d28_10 rfl, sn_aload_n d28_11 rfl, kV_35 wm_3_22 d28_12, sn_aload_n d28_15 rfl, sn_iconst d28_16 (by decide), sn_iconst d28_17 (by decide), kV_32 wm_3_66 d28_18, sn_istore_n (eb_hlg (Or.inl rfl)) hn28_2 d28_21 rfl, sn_iload_n d28_22 rfl, sn_iconst d28_23 (by decide), sn_icne d28_24 (by decide), sn_iconst d28_27 (by decide), sn_goto d28_28 (by decide), sn_aload_n d28_31 rfl, sn_iconst d28_32 (by decide), sn_bipush d28_33 (by decide), kV_32 wm_3_66 d28_35, sn_istore_n (eb_hlg (Or.inl rfl)) hn28_3 d28_38 rfl, sn_iload_n d28_39 rfl, sn_iconst d28_40 (by decide), sn_icne d28_41 (by decide), sn_iconst d28_44 (by decide), sn_goto d28_45 (by decide), sn_aload_n d28_48 rfl, sn_iconst d28_49 (by decide), sn_bipush d28_50 (by decide), kV_32 wm_3_66 d28_52, sn_istore (eb_hlg (Or.inl rfl)) hn28_4 d28_55, sn_iload d28_57, sn_iconst d28_59 (by decide), sn_iceq d28_60 (by decide), sn_aload_n d28_63 rfl, sn_iload_n d28_64 rfl, sn_iload_n d28_65 rfl, sn_iload d28_66, trivial⟩
theorem sc28_1 : eb_AS L q0 28 (eb_lg 28) [(68, op_call 41 4 71), (71, op_push (zi (-1)) 72), (72, op_iceq 79 75), (75, op_push (zi 1) 76), (76, op_goto 80), (79, op_push (zi 0) 80), (80, op_zret)] := ⟨kV_41 wm_3_87 d28_68, sn_iconst d28_71 (by decide), sn_iceq d28_72 (by decide), sn_iconst d28_75 (by decide), sn_goto d28_76 (by decide), sn_iconst d28_79 (by decide), sn_zret d28_80 rfl, trivial⟩
theorem sd28 : ∀ pc, eb_Snd L q0 28 pc (eb_lg 28) (eb_cd L 28 pc) := eb_AS_all (hk28 (L := L)) (eb_AS_app sc28_0 (sc28_1))
theorem sc29_0 : eb_AS L q0 29 (eb_lg 29) [(0, op_aload 0 1), (1, op_callv 35 1 4), (4, op_aload 0 5), (5, op_push (zi 0) 6), (6, op_aload 1 7), (7, op_getI L 4 2 10), (10, op_push (zi 1) 11), (11, op_ii (· - ·) 12), (12, op_call 33 3 15), (15, op_istore 2 16), (16, op_iload 2 17), (17, op_push (zi (-1)) 18), (18, op_iceq 33 21), (21, op_aload 1 22), (22, op_getR L 4 0 25), (25, op_iload 2 26), (26, op_aald L 27), (27, op_call 9 1 30), (30, op_ifne 35 33), (33, op_push (zi 0) 34), (34, op_zret), (35, op_aload 0 36), (36, op_callv 35 1 39), (39, op_aload 0 40), (40, op_push (zi 0) 41), (41, op_push (zi 100) 43), (43, op_call 32 3 46), (46, op_istore 3 47), (47, op_iload 3 48), (48, op_push (zi (-1)) 49), (49, op_iceq 69 52), (52, op_aload 1 53), (53, op_getR L 4 0 56), (56, op_iload 2 57), (57, op_aald L 58), (58, op_iload 3 59), (59, op_call 10 2 62), (62, op_ifeq 69 65), (65, op_push (zi 1) 66), (66, op_goto 70)] := ⟨sn_aload_n d29_0 rfl, kV_35 wm_3_22 d29_1, sn_aload_n d29_4 rfl, sn_iconst d29_5 (by decide), sn_aload_n d29_6 rfl, sn_getI (by decide) fi_4_2.1 fi_4_2.2 wf_3_61 d29_7, sn_iconst d29_10 (by decide), sn_isub d29_11, kV_33 wm_3_90 d29_12, sn_istore_n (eb_hlg (Or.inl rfl)) hn29_2 d29_15 rfl, sn_iload_n d29_16 rfl, sn_iconst d29_17 (by decide), sn_iceq d29_18 (by decide), sn_aload_n d29_21 rfl, sn_getR (by decide) fi_4_0.1 fi_4_0.2 wf_3_76 d29_22, sn_iload_n d29_25 rfl, sn_aald d29_26, kV_9 wm_3_93 d29_27, sn_ifne d29_30 (by decide), sn_iconst d29_33 (by decide), sn_zret d29_34 rfl, sn_aload_n d29_35 rfl, kV_35 wm_3_22 d29_36, sn_aload_n d29_39 rfl, sn_iconst d29_40 (by decide), sn_bipush d29_41 (by decide), kV_32 wm_3_66 d29_43, sn_istore_n (eb_hlg (Or.inl rfl)) hn29_3 d29_46 rfl, sn_iload_n d29_47 rfl, sn_iconst d29_48 (by decide), sn_iceq d29_49 (by decide), sn_aload_n d29_52 rfl, sn_getR (by decide) fi_4_0.1 fi_4_0.2 wf_3_76 d29_53, sn_iload_n d29_56 rfl, sn_aald d29_57, sn_iload_n d29_58 rfl, kV_10 wm_3_97 d29_59, sn_ifeq d29_62 (by decide), sn_iconst d29_65 (by decide), sn_goto d29_66 (by decide), trivial⟩
theorem sc29_1 : eb_AS L q0 29 (eb_lg 29) [(69, op_push (zi 0) 70), (70, op_zret)] := ⟨sn_iconst d29_69 (by decide), sn_zret d29_70 rfl, trivial⟩
theorem sd29 : ∀ pc, eb_Snd L q0 29 pc (eb_lg 29) (eb_cd L 29 pc) := eb_AS_all (hk29 (L := L)) (eb_AS_app sc29_0 (sc29_1))
theorem sc30_0 : eb_AS L q0 30 (eb_lg 30) [(0, op_aload 0 1), (1, op_callv 35 1 4), (4, op_aload 0 5), (5, op_push (zi 0) 6), (6, op_push (zi 99) 8), (8, op_call 32 3 11), (11, op_istore 2 12), (12, op_iload 2 13), (13, op_push (zi (-1)) 14), (14, op_icne 19 17), (17, op_push (zi 0) 18), (18, op_zret), (19, op_aload 1 20), (20, op_iload 2 21), (21, op_putI L 4 4 24), (24, op_push (zi 1) 25), (25, op_zret)] := ⟨sn_aload_n d30_0 rfl, kV_35 wm_3_22 d30_1, sn_aload_n d30_4 rfl, sn_iconst d30_5 (by decide), sn_bipush d30_6 (by decide), kV_32 wm_3_66 d30_8, sn_istore_n (eb_hlg (Or.inl rfl)) hn30_2 d30_11 rfl, sn_iload_n d30_12 rfl, sn_iconst d30_13 (by decide), sn_icne d30_14 (by decide), sn_iconst d30_17 (by decide), sn_zret d30_18 rfl, sn_aload_n d30_19 rfl, sn_iload_n d30_20 rfl, sn_putI (by decide) fi_4_4.1 fi_4_4.2 wf_3_101 (Or.inl rfl) fp_4_4 d30_21, sn_iconst d30_24 (by decide), sn_zret d30_25 rfl, trivial⟩
theorem sd30 : ∀ pc, eb_Snd L q0 30 pc (eb_lg 30) (eb_cd L 30 pc) := eb_AS_all (hk30 (L := L)) (sc30_0)
theorem sc31_0 : eb_AS L q0 31 (eb_lg 31) [(0, op_push (zi 0) 1), (1, op_istore 2 2), (2, op_aload 0 3), (3, op_callv 35 1 6), (6, op_push (zi 0) 7), (7, op_istore 3 8), (8, op_iload 3 9), (9, op_push (zi 6) 11), (11, op_icgt 74 14), (14, op_iload 3 15), (15, op_ifeq 26 18), (18, op_aload 0 19), (19, op_getI L 3 4 22), (22, op_push (zi 2) 23), (23, op_icne 74 26), (26, op_aload 0 27), (27, op_push (zi 0) 28), (28, op_aload 1 29), (29, op_getI L 4 2 32), (32, op_push (zi 1) 33), (33, op_ii (· - ·) 34), (34, op_call 33 3 37), (37, op_istore 4 39), (39, op_iload 4 41), (41, op_push (zi (-1)) 42), (42, op_iceq 55 45), (45, op_iload 2 46), (46, op_iload 4 48), (48, op_ii (fun x y => x >>> (y &&& 31)) 49), (49, op_push (zi 1) 50), (50, op_ii (· &&& ·) 51), (51, op_push (zi 1) 52), (52, op_icne 57 55), (55, op_push (zi 0) 56), (56, op_zret), (57, op_iload 2 58), (58, op_push (zi 1) 59), (59, op_iload 4 61), (61, op_ii (fun x y => x <<< (y &&& 31)) 62), (62, op_ii (· ||| ·) 63)] := ⟨sn_iconst d31_0 (by decide), sn_istore_n (eb_hlg (Or.inl rfl)) hn31_2 d31_1 rfl, sn_aload_n d31_2 rfl, kV_35 wm_3_22 d31_3, sn_iconst d31_6 (by decide), sn_istore_n (eb_hlg (Or.inl rfl)) hn31_3 d31_7 rfl, sn_iload_n d31_8 rfl, sn_bipush d31_9 (by decide), sn_icgt d31_11 (by decide), sn_iload_n d31_14 rfl, sn_ifeq d31_15 (by decide), sn_aload_n d31_18 rfl, sn_getI (by decide) fi_3_4.1 fi_3_4.2 wf_3_29 d31_19, sn_iconst d31_22 (by decide), sn_icne d31_23 (by decide), sn_aload_n d31_26 rfl, sn_iconst d31_27 (by decide), sn_aload_n d31_28 rfl, sn_getI (by decide) fi_4_2.1 fi_4_2.2 wf_3_61 d31_29, sn_iconst d31_32 (by decide), sn_isub d31_33, kV_33 wm_3_90 d31_34, sn_istore (eb_hlg (Or.inl rfl)) hn31_4 d31_37, sn_iload d31_39, sn_iconst d31_41 (by decide), sn_iceq d31_42 (by decide), sn_iload_n d31_45 rfl, sn_iload d31_46, sn_ishr d31_48, sn_iconst d31_49 (by decide), sn_iand d31_50, sn_iconst d31_51 (by decide), sn_icne d31_52 (by decide), sn_iconst d31_55 (by decide), sn_zret d31_56 rfl, sn_iload_n d31_57 rfl, sn_iconst d31_58 (by decide), sn_iload d31_59, sn_ishl d31_61, sn_ior d31_62, trivial⟩
theorem sc31_1 : eb_AS L q0 31 (eb_lg 31) [(63, op_istore 2 64), (64, op_aload 0 65), (65, op_callv 35 1 68), (68, op_iinc 3 1 71), (71, op_goto 8), (74, op_aload 1 75), (75, op_iload 2 76), (76, op_call 42 2 79), (79, op_pop 80), (80, op_push (zi 1) 81), (81, op_zret)] := ⟨sn_istore_n (eb_hlg (Or.inl rfl)) hn31_2 d31_63 rfl, sn_aload_n d31_64 rfl, kV_35 wm_3_22 d31_65, sn_iinc (eb_hlg (Or.inl rfl)) hn31_3 d31_68 (by decide), sn_goto d31_71 (by decide), sn_aload_n d31_74 rfl, sn_iload_n d31_75 rfl, kV_42 wm_3_103 d31_76, sn_pop d31_79, sn_iconst d31_80 (by decide), sn_zret d31_81 rfl, trivial⟩
theorem sd31 : ∀ pc, eb_Snd L q0 31 pc (eb_lg 31) (eb_cd L 31 pc) := eb_AS_all (hk31 (L := L)) (eb_AS_app sc31_0 (sc31_1))
theorem sc32_0 : eb_AS L q0 32 (eb_lg 32) [(0, op_aload 0 1), (1, op_iload 1 2), (2, op_iload 2 3), (3, op_call 33 3 6), (6, op_istore 3 7), (7, op_iload 3 8), (8, op_push (zi (-1)) 9), (9, op_iceq 16 12), (12, op_aload 0 13), (13, op_callv 35 1 16), (16, op_iload 3 17), (17, op_iret)] := ⟨sn_aload_n d32_0 rfl, sn_iload_n d32_1 rfl, sn_iload_n d32_2 rfl, kV_33 wm_3_90 d32_3, sn_istore_n (eb_hlg (Or.inl rfl)) hn32_3 d32_6 rfl, sn_iload_n d32_7 rfl, sn_iconst d32_8 (by decide), sn_iceq d32_9 (by decide), sn_aload_n d32_12 rfl, kV_35 wm_3_22 d32_13, sn_iload_n d32_16 rfl, sn_iret d32_17 rfl, trivial⟩
theorem sd32 : ∀ pc, eb_Snd L q0 32 pc (eb_lg 32) (eb_cd L 32 pc) := eb_AS_all (hk32 (L := L)) (sc32_0)
theorem sc33_0 : eb_AS L q0 33 (eb_lg 33) [(0, op_aload 0 1), (1, op_getI L 3 4 4), (4, op_push (zi 2) 5), (5, op_icne 21 8), (8, op_aload 0 9), (9, op_getI L 3 3 12), (12, op_aload 0 13), (13, op_getI L 3 2 16), (16, op_ii (· - ·) 17), (17, op_push (zi 3) 18), (18, op_icle 23 21), (21, op_push (zi (-1)) 22), (22, op_iret), (23, op_push (zi 0) 24), (24, op_istore 3 25), (25, op_aload 0 26), (26, op_getI L 3 2 29), (29, op_istore 4 31), (31, op_iload 4 33), (33, op_aload 0 34), (34, op_getI L 3 3 37), (37, op_icge 61 40), (40, op_push (zi 10) 42), (42, op_iload 3 43), (43, op_ii (· * ·) 44), (44, op_aload 0 45), (45, op_iload 4 47), (47, op_call 37 2 50), (50, op_ii (· + ·) 51), (51, op_push (zi 48) 53), (53, op_ii (· - ·) 54), (54, op_istore 3 55), (55, op_iinc 4 1 58), (58, op_goto 31), (61, op_iload 3 62), (62, op_iload 1 63), (63, op_iload 2 64), (64, op_call 127 3 67), (67, op_ifeq 74 70), (70, op_iload 3 71)] := ⟨sn_aload_n d33_0 rfl, sn_getI (by decide) fi_3_4.1 fi_3_4.2 wf_3_29 d33_1, sn_iconst d33_4 (by decide), sn_icne d33_5 (by decide), sn_aload_n d33_8 rfl, sn_getI (by decide) fi_3_3.1 fi_3_3.2 wf_3_19 d33_9, sn_aload_n d33_12 rfl, sn_getI (by decide) fi_3_2.1 fi_3_2.2 wf_3_107 d33_13, sn_isub d33_16, sn_iconst d33_17 (by decide), sn_icle d33_18 (by decide), sn_iconst d33_21 (by decide), sn_iret d33_22 rfl, sn_iconst d33_23 (by decide), sn_istore_n (eb_hlg (Or.inl rfl)) hn33_3 d33_24 rfl, sn_aload_n d33_25 rfl, sn_getI (by decide) fi_3_2.1 fi_3_2.2 wf_3_107 d33_26, sn_istore (eb_hlg (Or.inl rfl)) hn33_4 d33_29, sn_iload d33_31, sn_aload_n d33_33 rfl, sn_getI (by decide) fi_3_3.1 fi_3_3.2 wf_3_19 d33_34, sn_icge d33_37 (by decide), sn_bipush d33_40 (by decide), sn_iload_n d33_42 rfl, sn_imul d33_43, sn_aload_n d33_44 rfl, sn_iload d33_45, kV_37 wm_3_110 d33_47, sn_iadd d33_50, sn_bipush d33_51 (by decide), sn_isub d33_53, sn_istore_n (eb_hlg (Or.inl rfl)) hn33_3 d33_54 rfl, sn_iinc (eb_hlg (Or.inl rfl)) hn33_4 d33_55 (by decide), sn_goto d33_58 (by decide), sn_iload_n d33_61 rfl, sn_iload_n d33_62 rfl, sn_iload_n d33_63 rfl, kSN_127 wm_3_113 d33_64, sn_ifeq d33_67 (by decide), sn_iload_n d33_70 rfl, trivial⟩
theorem sc33_1 : eb_AS L q0 33 (eb_lg 33) [(71, op_goto 75), (74, op_push (zi (-1)) 75), (75, op_iret)] := ⟨sn_goto d33_71 (by decide), sn_iconst d33_74 (by decide), sn_iret d33_75 rfl, trivial⟩
theorem sd33 : ∀ pc, eb_Snd L q0 33 pc (eb_lg 33) (eb_cd L 33 pc) := eb_AS_all (hk33 (L := L)) (eb_AS_app sc33_0 (sc33_1))
theorem sc34_0 : eb_AS L q0 34 (eb_lg 34) [(0, op_aload 0 1), (1, op_getI L 3 4 4), (4, op_push (zi 1) 5), (5, op_icne 24 8), (8, op_aload 0 9), (9, op_getI L 3 3 12), (12, op_aload 0 13), (13, op_getI L 3 2 16), (16, op_ii (· - ·) 17), (17, op_aload 1 18), (18, op_call 905 1 21), (21, op_iceq 26 24), (24, op_push (zi 0) 25), (25, op_zret), (26, op_push (zi 0) 27), (27, op_istore 2 28), (28, op_iload 2 29), (29, op_aload 1 30), (30, op_call 905 1 33), (33, op_icge 62 36), (36, op_aload 0 37), (37, op_aload 0 38), (38, op_getI L 3 2 41), (41, op_iload 2 42), (42, op_ii (· + ·) 43), (43, op_call 37 2 46), (46, op_aload 1 47), (47, op_iload 2 48), (48, op_call 906 2 51), (51, op_iceq 56 54), (54, op_push (zi 0) 55), (55, op_zret), (56, op_iinc 2 1 59), (59, op_goto 28), (62, op_push (zi 1) 63), (63, op_zret)] := ⟨sn_aload_n d34_0 rfl, sn_getI (by decide) fi_3_4.1 fi_3_4.2 wf_3_29 d34_1, sn_iconst d34_4 (by decide), sn_icne d34_5 (by decide), sn_aload_n d34_8 rfl, sn_getI (by decide) fi_3_3.1 fi_3_3.2 wf_3_19 d34_9, sn_aload_n d34_12 rfl, sn_getI (by decide) fi_3_2.1 fi_3_2.2 wf_3_107 d34_13, sn_isub d34_16, sn_aload_n d34_17 rfl, sn_len wm_3_117 d34_18, sn_iceq d34_21 (by decide), sn_iconst d34_24 (by decide), sn_zret d34_25 rfl, sn_iconst d34_26 (by decide), sn_istore_n (eb_hlg (Or.inl rfl)) hn34_2 d34_27 rfl, sn_iload_n d34_28 rfl, sn_aload_n d34_29 rfl, sn_len wm_3_117 d34_30, sn_icge d34_33 (by decide), sn_aload_n d34_36 rfl, sn_aload_n d34_37 rfl, sn_getI (by decide) fi_3_2.1 fi_3_2.2 wf_3_107 d34_38, sn_iload_n d34_41 rfl, sn_iadd d34_42, kV_37 wm_3_110 d34_43, sn_aload_n d34_46 rfl, sn_iload_n d34_47 rfl, sn_at wm_3_123 d34_48, sn_iceq d34_51 (by decide), sn_iconst d34_54 (by decide), sn_zret d34_55 rfl, sn_iinc (eb_hlg (Or.inl rfl)) hn34_2 d34_56 (by decide), sn_goto d34_59 (by decide), sn_iconst d34_62 (by decide), sn_zret d34_63 rfl, trivial⟩
theorem sd34 : ∀ pc, eb_Snd L q0 34 pc (eb_lg 34) (eb_cd L 34 pc) := eb_AS_all (hk34 (L := L)) (sc34_0)
theorem sc35_0 : eb_AS L q0 35 (eb_lg 35) [(0, op_aload 0 1), (1, op_getI L 3 3 4), (4, op_istore 1 5), (5, op_iload 1 6), (6, op_aload 0 7), (7, op_getI L 3 1 10), (10, op_icge 29 13), (13, op_aload 0 14), (14, op_iload 1 15), (15, op_call 37 2 18), (18, op_push (zi 32) 20), (20, op_icne 29 23), (23, op_iinc 1 1 26), (26, op_goto 5), (29, op_aload 0 30), (30, op_iload 1 31), (31, op_putI L 3 2 34), (34, op_aload 0 35), (35, op_aload 0 36), (36, op_iload 1 37), (37, op_call 36 2 40), (40, op_putI L 3 4 43), (43, op_iload 1 44), (44, op_aload 0 45), (45, op_getI L 3 1 48), (48, op_icge 54 51), (51, op_iinc 1 1 54), (54, op_iload 1 55), (55, op_aload 0 56), (56, op_getI L 3 1 59), (59, op_icge 96 62), (62, op_aload 0 63), (63, op_getI L 3 4 66), (66, op_push (zi 1) 67), (67, op_iceq 78 70), (70, op_aload 0 71), (71, op_getI L 3 4 74), (74, op_push (zi 2) 75), (75, op_icne 96 78), (78, op_aload 0 79)] := ⟨sn_aload_n d35_0 rfl, sn_getI (by decide) fi_3_3.1 fi_3_3.2 wf_3_19 d35_1, sn_istore_n (eb_hlg (Or.inl rfl)) hn35_1 d35_4 rfl, sn_iload_n d35_5 rfl, sn_aload_n d35_6 rfl, sn_getI (by decide) fi_3_1.1 fi_3_1.2 wf_3_15 d35_7, sn_icge d35_10 (by decide), sn_aload_n d35_13 rfl, sn_iload_n d35_14 rfl, kV_37 wm_3_110 d35_15, sn_bipush d35_18 (by decide), sn_icne d35_20 (by decide), sn_iinc (eb_hlg (Or.inl rfl)) hn35_1 d35_23 (by decide), sn_goto d35_26 (by decide), sn_aload_n d35_29 rfl, sn_iload_n d35_30 rfl, sn_putI (by decide) fi_3_2.1 fi_3_2.2 wf_3_107 (Or.inl rfl) fp_3_2 d35_31, sn_aload_n d35_34 rfl, sn_aload_n d35_35 rfl, sn_iload_n d35_36 rfl, kV_36 wm_3_127 d35_37, sn_putI (by decide) fi_3_4.1 fi_3_4.2 wf_3_29 (Or.inl rfl) fp_3_4 d35_40, sn_iload_n d35_43 rfl, sn_aload_n d35_44 rfl, sn_getI (by decide) fi_3_1.1 fi_3_1.2 wf_3_15 d35_45, sn_icge d35_48 (by decide), sn_iinc (eb_hlg (Or.inl rfl)) hn35_1 d35_51 (by decide), sn_iload_n d35_54 rfl, sn_aload_n d35_55 rfl, sn_getI (by decide) fi_3_1.1 fi_3_1.2 wf_3_15 d35_56, sn_icge d35_59 (by decide), sn_aload_n d35_62 rfl, sn_getI (by decide) fi_3_4.1 fi_3_4.2 wf_3_29 d35_63, sn_iconst d35_66 (by decide), sn_iceq d35_67 (by decide), sn_aload_n d35_70 rfl, sn_getI (by decide) fi_3_4.1 fi_3_4.2 wf_3_29 d35_71, sn_iconst d35_74 (by decide), sn_icne d35_75 (by decide), sn_aload_n d35_78 rfl, trivial⟩
theorem sc35_1 : eb_AS L q0 35 (eb_lg 35) [(79, op_iload 1 80), (80, op_call 36 2 83), (83, op_aload 0 84), (84, op_getI L 3 4 87), (87, op_icne 96 90), (90, op_iinc 1 1 93), (93, op_goto 54), (96, op_aload 0 97), (97, op_iload 1 98), (98, op_putI L 3 3 101), (101, op_vret)] := ⟨sn_iload_n d35_79 rfl, kV_36 wm_3_127 d35_80, sn_aload_n d35_83 rfl, sn_getI (by decide) fi_3_4.1 fi_3_4.2 wf_3_29 d35_84, sn_icne d35_87 (by decide), sn_iinc (eb_hlg (Or.inl rfl)) hn35_1 d35_90 (by decide), sn_goto d35_93 (by decide), sn_aload_n d35_96 rfl, sn_iload_n d35_97 rfl, sn_putI (by decide) fi_3_3.1 fi_3_3.2 wf_3_19 (Or.inl rfl) fp_3_3 d35_98, sn_vret d35_101 rfl, trivial⟩
theorem sd35 : ∀ pc, eb_Snd L q0 35 pc (eb_lg 35) (eb_cd L 35 pc) := eb_AS_all (hk35 (L := L)) (eb_AS_app sc35_0 (sc35_1))
theorem sc36_0 : eb_AS L q0 36 (eb_lg 36) [(0, op_aload 0 1), (1, op_iload 1 2), (2, op_call 37 2 5), (5, op_istore 2 6), (6, op_iload 2 7), (7, op_push (zi (-1)) 8), (8, op_icne 13 11), (11, op_push (zi 0) 12), (12, op_iret), (13, op_iload 2 14), (14, op_push (zi 97) 16), (16, op_iclt 27 19), (19, op_iload 2 20), (20, op_push (zi 122) 22), (22, op_icgt 27 25), (25, op_push (zi 1) 26), (26, op_iret), (27, op_iload 2 28), (28, op_push (zi 48) 30), (30, op_iclt 41 33), (33, op_iload 2 34), (34, op_push (zi 57) 36), (36, op_icgt 41 39), (39, op_push (zi 2) 40), (40, op_iret), (41, op_iload 2 42), (42, op_push (zi 59) 44), (44, op_icne 51 47), (47, op_push (zi 3) 48), (48, op_goto 52), (51, op_push (zi 4) 52), (52, op_iret)] := ⟨sn_aload_n d36_0 rfl, sn_iload_n d36_1 rfl, kV_37 wm_3_110 d36_2, sn_istore_n (eb_hlg (Or.inl rfl)) hn36_2 d36_5 rfl, sn_iload_n d36_6 rfl, sn_iconst d36_7 (by decide), sn_icne d36_8 (by decide), sn_iconst d36_11 (by decide), sn_iret d36_12 rfl, sn_iload_n d36_13 rfl, sn_bipush d36_14 (by decide), sn_iclt d36_16 (by decide), sn_iload_n d36_19 rfl, sn_bipush d36_20 (by decide), sn_icgt d36_22 (by decide), sn_iconst d36_25 (by decide), sn_iret d36_26 rfl, sn_iload_n d36_27 rfl, sn_bipush d36_28 (by decide), sn_iclt d36_30 (by decide), sn_iload_n d36_33 rfl, sn_bipush d36_34 (by decide), sn_icgt d36_36 (by decide), sn_iconst d36_39 (by decide), sn_iret d36_40 rfl, sn_iload_n d36_41 rfl, sn_bipush d36_42 (by decide), sn_icne d36_44 (by decide), sn_iconst d36_47 (by decide), sn_goto d36_48 (by decide), sn_iconst d36_51 (by decide), sn_iret d36_52 rfl, trivial⟩
theorem sd36 : ∀ pc, eb_Snd L q0 36 pc (eb_lg 36) (eb_cd L 36 pc) := eb_AS_all (hk36 (L := L)) (sc36_0)
end

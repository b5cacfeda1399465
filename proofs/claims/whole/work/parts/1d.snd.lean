/-! every row of these methods is sound: by program -/
set_option maxRecDepth 100000
theorem d63_0 : decode (eb_b 63) 0 = .ok (.iconst 0, 1) := by decide +kernel
theorem d63_1 : decode (eb_b 63) 1 = .ok (.istore_n 1, 1) := by decide +kernel
theorem hn63_1 : 1 < eb_ml 63 := by decide
theorem d63_2 : decode (eb_b 63) 2 = .ok (.iconst 0, 1) := by decide +kernel
theorem d63_3 : decode (eb_b 63) 3 = .ok (.istore_n 2, 1) := by decide +kernel
theorem hn63_2 : 2 < eb_ml 63 := by decide
theorem d63_4 : decode (eb_b 63) 4 = .ok (.iload_n 2, 1) := by decide +kernel
theorem d63_5 : decode (eb_b 63) 5 = .ok (.aload_n 0, 1) := by decide +kernel
theorem d63_6 : decode (eb_b 63) 6 = .ok (.getfield 39, 3) := by decide +kernel
theorem d63_9 : decode (eb_b 63) 9 = .ok (.if_icmp .ge 38, 3) := by decide +kernel
theorem d63_12 : decode (eb_b 63) 12 = .ok (.iload_n 1, 1) := by decide +kernel
theorem d63_13 : decode (eb_b 63) 13 = .ok (.aload_n 0, 1) := by decide +kernel
theorem d63_14 : decode (eb_b 63) 14 = .ok (.getfield 19, 3) := by decide +kernel
theorem d63_17 : decode (eb_b 63) 17 = .ok (.iload_n 2, 1) := by decide +kernel
theorem d63_18 : decode (eb_b 63) 18 = .ok (.aaload, 1) := by decide +kernel
theorem d63_19 : decode (eb_b 63) 19 = .ok (.getfield 52, 3) := by decide +kernel
theorem d63_22 : decode (eb_b 63) 22 = .ok (.iconst 3, 1) := by decide +kernel
theorem d63_23 : decode (eb_b 63) 23 = .ok (.if_icmp .ne 15, 3) := by decide +kernel
theorem d63_26 : decode (eb_b 63) 26 = .ok (.aload_n 0, 1) := by decide +kernel
theorem d63_27 : decode (eb_b 63) 27 = .ok (.getfield 19, 3) := by decide +kernel
theorem d63_30 : decode (eb_b 63) 30 = .ok (.iload_n 2, 1) := by decide +kernel
theorem d63_31 : decode (eb_b 63) 31 = .ok (.aaload, 1) := by decide +kernel
theorem d63_32 : decode (eb_b 63) 32 = .ok (.getfield 160, 3) := by decide +kernel
theorem d63_35 : decode (eb_b 63) 35 = .ok (.goto 4, 3) := by decide +kernel
theorem d63_38 : decode (eb_b 63) 38 = .ok (.iconst 0, 1) := by decide +kernel
theorem d63_39 : decode (eb_b 63) 39 = .ok (.iadd, 1) := by decide +kernel
theorem d63_40 : decode (eb_b 63) 40 = .ok (.istore_n 1, 1) := by decide +kernel
theorem d63_41 : decode (eb_b 63) 41 = .ok (.iinc 2 1, 3) := by decide +kernel
theorem d63_44 : decode (eb_b 63) 44 = .ok (.goto (-40), 3) := by decide +kernel
theorem d63_47 : decode (eb_b 63) 47 = .ok (.iload_n 1, 1) := by decide +kernel
theorem d63_48 : decode (eb_b 63) 48 = .ok (.ireturn, 1) := by decide +kernel
theorem d64_0 : decode (eb_b 64) 0 = .ok (.iconst 0, 1) := by decide +kernel
theorem d64_1 : decode (eb_b 64) 1 = .ok (.istore 4, 2) := by decide +kernel
theorem hn64_4 : 4 < eb_ml 64 := by decide
theorem d64_3 : decode (eb_b 64) 3 = .ok (.iload 4, 2) := by decide +kernel
theorem d64_5 : decode (eb_b 64) 5 = .ok (.iload_n 2, 1) := by decide +kernel
theorem d64_6 : decode (eb_b 64) 6 = .ok (.if_icmp .ge 30, 3) := by decide +kernel
theorem d64_9 : decode (eb_b 64) 9 = .ok (.aload_n 0, 1) := by decide +kernel
theorem d64_10 : decode (eb_b 64) 10 = .ok (.iconst 1, 1) := by decide +kernel
theorem d64_11 : decode (eb_b 64) 11 = .ok (.invokevirtual 172, 3) := by decide +kernel
theorem wc_61 : Cond.code (eb_y 61) (eb_b 61) (eb_ml 61) (eb_rt 61) ∈ eb_LT := eb_lt 800 (by decide +kernel)
theorem cy_61 : (eb_y 61).cls = eb_cN (eb_rc 61) ∧ (eb_y 61).cls ≠ "java/lang/invoke/MethodHandle" ∧ (eb_y 61).cls ≠ "java/lang/invoke/VarHandle" ∧ (parseMethodDescriptor (eb_y 61).desc).map (fun d => d.parameters.length) = some 1 := by decide +kernel
theorem wi_61 : Cond.instanceMethod (eb_y 61) ∈ eb_LT := eb_lt 798 (by decide +kernel)
theorem wse_61 : Cond.selects (eb_cN (eb_rc 61)) (eb_y 61) (eb_y 61) ∈ eb_LT := eb_lt 799 (by decide +kernel)
theorem kV_61 {L q0 m pc : Nat} {lg : Nat → Bool} {ix : Nat} (hw : Cond.methodLink (eb_own m) ix (eb_y 61) ∈ eb_LT) (hd : decode (eb_b m) pc = .ok (.invokevirtual ix, 3)) : eb_Snd L q0 m pc lg (op_call 61 2 (pc + 3)) := sn_callV false rfl (Or.inr ⟨rfl, _, rfl⟩) (by decide) rfl (by decide) ⟨⟨hw, wi_61, wse_61⟩, wc_61⟩ cy_61 hd
theorem wm_4_172 : Cond.methodLink (eb_cN 4) 172 (eb_y 61) ∈ eb_LT := eb_lt 883 (by decide +kernel)
theorem d64_14 : decode (eb_b 64) 14 = .ok (.pop, 1) := by decide +kernel
theorem d64_15 : decode (eb_b 64) 15 = .ok (.aload_n 0, 1) := by decide +kernel
theorem d64_16 : decode (eb_b 64) 16 = .ok (.getfield 11, 3) := by decide +kernel
theorem d64_19 : decode (eb_b 64) 19 = .ok (.iload_n 1, 1) := by decide +kernel
theorem d64_20 : decode (eb_b 64) 20 = .ok (.aaload, 1) := by decide +kernel
theorem d64_21 : decode (eb_b 64) 21 = .ok (.getfield 68, 3) := by decide +kernel
theorem d64_24 : decode (eb_b 64) 24 = .ok (.iload_n 3, 1) := by decide +kernel
theorem d64_25 : decode (eb_b 64) 25 = .ok (.if_icmp .ge 5, 3) := by decide +kernel
theorem d64_28 : decode (eb_b 64) 28 = .ok (.iconst 0, 1) := by decide +kernel
theorem d64_29 : decode (eb_b 64) 29 = .ok (.ireturn, 1) := by decide +kernel
theorem d64_30 : decode (eb_b 64) 30 = .ok (.iinc 4 1, 3) := by decide +kernel
theorem d64_33 : decode (eb_b 64) 33 = .ok (.goto (-30), 3) := by decide +kernel
theorem d64_36 : decode (eb_b 64) 36 = .ok (.iconst 1, 1) := by decide +kernel
theorem d64_37 : decode (eb_b 64) 37 = .ok (.ireturn, 1) := by decide +kernel
theorem d65_0 : decode (eb_b 65) 0 = .ok (.aload_n 0, 1) := by decide +kernel
theorem d65_1 : decode (eb_b 65) 1 = .ok (.aload_n 0, 1) := by decide +kernel
theorem d65_2 : decode (eb_b 65) 2 = .ok (.getfield 36, 3) := by decide +kernel
theorem d65_5 : decode (eb_b 65) 5 = .ok (.invokevirtual 175, 3) := by decide +kernel
theorem wc_66 : Cond.code (eb_y 66) (eb_b 66) (eb_ml 66) (eb_rt 66) ∈ eb_LT := eb_lt 911 (by decide +kernel)
theorem cy_66 : (eb_y 66).cls = eb_cN (eb_rc 66) ∧ (eb_y 66).cls ≠ "java/lang/invoke/MethodHandle" ∧ (eb_y 66).cls ≠ "java/lang/invoke/VarHandle" ∧ (parseMethodDescriptor (eb_y 66).desc).map (fun d => d.parameters.length) = some 1 := by decide +kernel
theorem wi_66 : Cond.instanceMethod (eb_y 66) ∈ eb_LT := eb_lt 910 (by decide +kernel)
theorem wse_66 : Cond.selects (eb_cN (eb_rc 66)) (eb_y 66) (eb_y 66) ∈ eb_LT := eb_lt 32 (by decide +kernel)
theorem kV_66 {L q0 m pc : Nat} {lg : Nat → Bool} {ix : Nat} (hw : Cond.methodLink (eb_own m) ix (eb_y 66) ∈ eb_LT) (hd : decode (eb_b m) pc = .ok (.invokevirtual ix, 3)) : eb_Snd L q0 m pc lg (op_call 66 2 (pc + 3)) := sn_callV false rfl (Or.inr ⟨rfl, _, rfl⟩) (by decide) rfl (by decide) ⟨⟨hw, wi_66, wse_66⟩, wc_66⟩ cy_66 hd
theorem wm_4_175 : Cond.methodLink (eb_cN 4) 175 (eb_y 66) ∈ eb_LT := eb_lt 908 (by decide +kernel)
theorem d65_8 : decode (eb_b 65) 8 = .ok (.istore_n 1, 1) := by decide +kernel
theorem hn65_1 : 1 < eb_ml 65 := by decide
theorem d65_9 : decode (eb_b 65) 9 = .ok (.aload_n 0, 1) := by decide +kernel
theorem d65_10 : decode (eb_b 65) 10 = .ok (.getfield 11, 3) := by decide +kernel
theorem d65_13 : decode (eb_b 65) 13 = .ok (.iload_n 1, 1) := by decide +kernel
theorem d65_14 : decode (eb_b 65) 14 = .ok (.aaload, 1) := by decide +kernel
theorem d65_15 : decode (eb_b 65) 15 = .ok (.getfield 68, 3) := by decide +kernel
theorem d65_18 : decode (eb_b 65) 18 = .ok (.aload_n 0, 1) := by decide +kernel
theorem d65_19 : decode (eb_b 65) 19 = .ok (.bipush 21, 2) := by decide +kernel
theorem d65_21 : decode (eb_b 65) 21 = .ok (.invokevirtual 175, 3) := by decide +kernel
theorem d65_24 : decode (eb_b 65) 24 = .ok (.iadd, 1) := by decide +kernel
theorem d65_25 : decode (eb_b 65) 25 = .ok (.bipush 10, 2) := by decide +kernel
theorem d65_27 : decode (eb_b 65) 27 = .ok (.isub, 1) := by decide +kernel
theorem d65_28 : decode (eb_b 65) 28 = .ok (.istore_n 2, 1) := by decide +kernel
theorem hn65_2 : 2 < eb_ml 65 := by decide
theorem d65_29 : decode (eb_b 65) 29 = .ok (.aload_n 0, 1) := by decide +kernel
theorem d65_30 : decode (eb_b 65) 30 = .ok (.getfield 11, 3) := by decide +kernel
theorem d65_33 : decode (eb_b 65) 33 = .ok (.iload_n 1, 1) := by decide +kernel
theorem d65_34 : decode (eb_b 65) 34 = .ok (.aaload, 1) := by decide +kernel
theorem d65_35 : decode (eb_b 65) 35 = .ok (.iconst 0, 1) := by decide +kernel
theorem d65_36 : decode (eb_b 65) 36 = .ok (.bipush 100, 2) := by decide +kernel
theorem d65_38 : decode (eb_b 65) 38 = .ok (.iload_n 2, 1) := by decide +kernel
theorem d65_39 : decode (eb_b 65) 39 = .ok (.invokestatic 139, 3) := by decide +kernel
theorem d65_42 : decode (eb_b 65) 42 = .ok (.invokestatic 80, 3) := by decide +kernel
theorem d65_45 : decode (eb_b 65) 45 = .ok (.invokevirtual 178, 3) := by decide +kernel
theorem wm_4_178 : Cond.methodLink (eb_cN 4) 178 (eb_y 10) ∈ eb_LT := eb_lt 913 (by decide +kernel)
theorem d65_48 : decode (eb_b 65) 48 = .ok (.ireturn, 1) := by decide +kernel
theorem d66_0 : decode (eb_b 66) 0 = .ok (.aload_n 0, 1) := by decide +kernel
theorem d66_1 : decode (eb_b 66) 1 = .ok (.aload_n 0, 1) := by decide +kernel
theorem d66_2 : decode (eb_b 66) 2 = .ok (.getfield 23, 3) := by decide +kernel
theorem d66_5 : decode (eb_b 66) 5 = .ok (.ldc 182, 2) := by decide +kernel
theorem wk_4_182 : Cond.constant (eb_cN 4) 182 1103515245 ∈ eb_LT := eb_lt 912 (by decide +kernel)
theorem d66_7 : decode (eb_b 66) 7 = .ok (.imul, 1) := by decide +kernel
theorem d66_8 : decode (eb_b 66) 8 = .ok (.sipush 12345, 3) := by decide +kernel
theorem d66_11 : decode (eb_b 66) 11 = .ok (.iadd, 1) := by decide +kernel
theorem d66_12 : decode (eb_b 66) 12 = .ok (.putfield 23, 3) := by decide +kernel
theorem d66_15 : decode (eb_b 66) 15 = .ok (.iload_n 1, 1) := by decide +kernel
theorem d66_16 : decode (eb_b 66) 16 = .ok (.iconst 1, 1) := by decide +kernel
theorem d66_17 : decode (eb_b 66) 17 = .ok (.if_icmp .ge 7, 3) := by decide +kernel
theorem d66_20 : decode (eb_b 66) 20 = .ok (.iconst 0, 1) := by decide +kernel
theorem d66_21 : decode (eb_b 66) 21 = .ok (.goto 12, 3) := by decide +kernel
theorem d66_24 : decode (eb_b 66) 24 = .ok (.aload_n 0, 1) := by decide +kernel
theorem d66_25 : decode (eb_b 66) 25 = .ok (.getfield 23, 3) := by decide +kernel
theorem d66_28 : decode (eb_b 66) 28 = .ok (.bipush 16, 2) := by decide +kernel
theorem d66_30 : decode (eb_b 66) 30 = .ok (.iushr, 1) := by decide +kernel
theorem d66_31 : decode (eb_b 66) 31 = .ok (.iload_n 1, 1) := by decide +kernel
theorem d66_32 : decode (eb_b 66) 32 = .ok (.irem, 1) := by decide +kernel
theorem d66_33 : decode (eb_b 66) 33 = .ok (.ireturn, 1) := by decide +kernel
theorem d67_0 : decode (eb_b 67) 0 = .ok (.aload_n 0, 1) := by decide +kernel
theorem d67_1 : decode (eb_b 67) 1 = .ok (.invokespecial 1, 3) := by decide +kernel
theorem wm_5_1 : Cond.methodLink (eb_cN 5) 1 objectInit ∈ eb_LT := eb_lt 96 (by decide +kernel)
theorem d67_4 : decode (eb_b 67) 4 = .ok (.aload_n 0, 1) := by decide +kernel
theorem d67_5 : decode (eb_b 67) 5 = .ok (.new 7, 3) := by decide +kernel
theorem wq_5_7 : Cond.classLink (eb_cN 5) 7 (eb_cN 4) ∈ eb_LT := eb_lt 99 (by decide +kernel)
theorem d67_8 : decode (eb_b 67) 8 = .ok (.dup, 1) := by decide +kernel
theorem d67_9 : decode (eb_b 67) 9 = .ok (.invokespecial 9, 3) := by decide +kernel
theorem wc_38 : Cond.code (eb_y 38) (eb_b 38) (eb_ml 38) (eb_rt 38) ∈ eb_LT := eb_lt 103 (by decide +kernel)
theorem cy_38 : (eb_y 38).cls ≠ "java/lang/invoke/MethodHandle" ∧ (eb_y 38).cls ≠ "java/lang/invoke/VarHandle" ∧ (parseMethodDescriptor (eb_y 38).desc).map (fun d => d.parameters.length) = some 0 := by decide +kernel
theorem wi_38 : Cond.instanceMethod (eb_y 38) ∈ eb_LT := eb_lt 102 (by decide +kernel)
theorem wn_38 : Cond.initialized (eb_y 38).cls ∈ eb_LT := eb_lt 78 (by decide +kernel)
theorem kI_38 {L q0 m pc : Nat} {lg : Nat → Bool} {ix : Nat} (hw : Cond.methodLink (eb_own m) ix (eb_y 38) ∈ eb_LT) (hd : decode (eb_b m) pc = .ok (.invokespecial ix, 3)) : eb_Snd L q0 m pc lg (op_callv 38 1 (pc + 3)) := sn_callI rfl (by decide) rfl ⟨⟨hw, wi_38, wn_38⟩, wc_38⟩ rfl cy_38 hd
theorem wm_5_9 : Cond.methodLink (eb_cN 5) 9 (eb_y 38) ∈ eb_LT := eb_lt 101 (by decide +kernel)
theorem d67_12 : decode (eb_b 67) 12 = .ok (.putfield 10, 3) := by decide +kernel
theorem wf_5_10 : Cond.fieldLink (eb_cN 5) 10 (eb_tT 5 0).1 (eb_tT 5 0).2.1 (eb_tT 5 0).2.2.1 ∈ eb_LT := eb_lt 280 (by decide +kernel)
theorem fi_5_0 : 0 < eb_nf 5 ∧ (eb_tt 5 0).isReference = true := ⟨by decide, rfl⟩
theorem fp_5_0 : ∀ x : Option Nat, narrow (eb_tt 5 0) (va_rf x) = va_rf x ∧ fits (eb_tt 5 0) (va_rf x) = true := fun x => by cases x <;> exact ⟨rfl, rfl⟩
theorem d67_15 : decode (eb_b 67) 15 = .ok (.aload_n 0, 1) := by decide +kernel
theorem d67_16 : decode (eb_b 67) 16 = .ok (.new 7, 3) := by decide +kernel
theorem d67_19 : decode (eb_b 67) 19 = .ok (.dup, 1) := by decide +kernel
theorem d67_20 : decode (eb_b 67) 20 = .ok (.invokespecial 9, 3) := by decide +kernel
theorem d67_23 : decode (eb_b 67) 23 = .ok (.putfield 16, 3) := by decide +kernel
theorem wf_5_16 : Cond.fieldLink (eb_cN 5) 16 (eb_tT 5 1).1 (eb_tT 5 1).2.1 (eb_tT 5 1).2.2.1 ∈ eb_LT := eb_lt 281 (by decide +kernel)
theorem fi_5_1 : 1 < eb_nf 5 ∧ (eb_tt 5 1).isReference = true := ⟨by decide, rfl⟩
theorem fp_5_1 : ∀ x : Option Nat, narrow (eb_tt 5 1) (va_rf x) = va_rf x ∧ fits (eb_tt 5 1) (va_rf x) = true := fun x => by cases x <;> exact ⟨rfl, rfl⟩
theorem d67_26 : decode (eb_b 67) 26 = .ok (.aload_n 0, 1) := by decide +kernel
theorem d67_27 : decode (eb_b 67) 27 = .ok (.new 7, 3) := by decide +kernel
theorem d67_30 : decode (eb_b 67) 30 = .ok (.dup, 1) := by decide +kernel
theorem d67_31 : decode (eb_b 67) 31 = .ok (.invokespecial 9, 3) := by decide +kernel
theorem d67_34 : decode (eb_b 67) 34 = .ok (.putfield 19, 3) := by decide +kernel
theorem wf_5_19 : Cond.fieldLink (eb_cN 5) 19 (eb_tT 5 2).1 (eb_tT 5 2).2.1 (eb_tT 5 2).2.2.1 ∈ eb_LT := eb_lt 282 (by decide +kernel)
theorem fi_5_2 : 2 < eb_nf 5 ∧ (eb_tt 5 2).isReference = true := ⟨by decide, rfl⟩
theorem fp_5_2 : ∀ x : Option Nat, narrow (eb_tt 5 2) (va_rf x) = va_rf x ∧ fits (eb_tt 5 2) (va_rf x) = true := fun x => by cases x <;> exact ⟨rfl, rfl⟩
theorem d67_37 : decode (eb_b 67) 37 = .ok (.aload_n 0, 1) := by decide +kernel
theorem d67_38 : decode (eb_b 67) 38 = .ok (.bipush 8, 2) := by decide +kernel
theorem d67_40 : decode (eb_b 67) 40 = .ok (.anewarray 22, 3) := by decide +kernel
theorem wr_5_22 : Cond.classLink (eb_cN 5) 22 (eb_cN (eb_el 14)) ∈ eb_LT := eb_lt 235 (by decide +kernel)
theorem d67_43 : decode (eb_b 67) 43 = .ok (.putfield 24, 3) := by decide +kernel
theorem wf_5_24 : Cond.fieldLink (eb_cN 5) 24 (eb_tT 5 4).1 (eb_tT 5 4).2.1 (eb_tT 5 4).2.2.1 ∈ eb_LT := eb_lt 284 (by decide +kernel)
theorem fi_5_4 : 4 < eb_nf 5 ∧ (eb_tt 5 4).isReference = true := ⟨by decide, rfl⟩
theorem fp_5_4 : ∀ x : Option Nat, narrow (eb_tt 5 4) (va_rf x) = va_rf x ∧ fits (eb_tt 5 4) (va_rf x) = true := fun x => by cases x <;> exact ⟨rfl, rfl⟩
theorem d67_46 : decode (eb_b 67) 46 = .ok (.aload_n 0, 1) := by decide +kernel
theorem d67_47 : decode (eb_b 67) 47 = .ok (.new 28, 3) := by decide +kernel
theorem wq_5_28 : Cond.classLink (eb_cN 5) 28 (eb_cN 3) ∈ eb_LT := eb_lt 237 (by decide +kernel)
theorem d67_50 : decode (eb_b 67) 50 = .ok (.dup, 1) := by decide +kernel
theorem d67_51 : decode (eb_b 67) 51 = .ok (.invokespecial 30, 3) := by decide +kernel
theorem wc_23 : Cond.code (eb_y 23) (eb_b 23) (eb_ml 23) (eb_rt 23) ∈ eb_LT := eb_lt 241 (by decide +kernel)
theorem cy_23 : (eb_y 23).cls ≠ "java/lang/invoke/MethodHandle" ∧ (eb_y 23).cls ≠ "java/lang/invoke/VarHandle" ∧ (parseMethodDescriptor (eb_y 23).desc).map (fun d => d.parameters.length) = some 0 := by decide +kernel
theorem wi_23 : Cond.instanceMethod (eb_y 23) ∈ eb_LT := eb_lt 240 (by decide +kernel)
theorem wn_23 : Cond.initialized (eb_y 23).cls ∈ eb_LT := eb_lt 81 (by decide +kernel)
theorem kIN_23 {L q0 m pc : Nat} {lg : Nat → Bool} {ix : Nat} (hw : Cond.methodLinkNest (eb_own m) ix (eb_y 23) "EverybodyHasTheBook" ∈ eb_nest) (hd : decode (eb_b m) pc = .ok (.invokespecial ix, 3)) : eb_Snd L q0 m pc lg (op_callv 23 1 (pc + 3)) := sn_callIN rfl (by decide) rfl ⟨⟨hw, wi_23, wn_23⟩, wc_23⟩ rfl cy_23 hd
theorem wm_5_30 : Cond.methodLinkNest (eb_cN 5) 30 (eb_y 23) "EverybodyHasTheBook" ∈ eb_nest := by decide +kernel
theorem d67_54 : decode (eb_b 67) 54 = .ok (.putfield 31, 3) := by decide +kernel
theorem wf_5_31 : Cond.fieldLink (eb_cN 5) 31 (eb_tT 5 5).1 (eb_tT 5 5).2.1 (eb_tT 5 5).2.2.1 ∈ eb_LT := eb_lt 285 (by decide +kernel)
theorem fi_5_5 : 5 < eb_nf 5 ∧ (eb_tt 5 5).isReference = true := ⟨by decide, rfl⟩
theorem fp_5_5 : ∀ x : Option Nat, narrow (eb_tt 5 5) (va_rf x) = va_rf x ∧ fits (eb_tt 5 5) (va_rf x) = true := fun x => by cases x <;> exact ⟨rfl, rfl⟩
theorem d67_57 : decode (eb_b 67) 57 = .ok (.aload_n 0, 1) := by decide +kernel
theorem d67_58 : decode (eb_b 67) 58 = .ok (.iconst 5, 1) := by decide +kernel
theorem d67_59 : decode (eb_b 67) 59 = .ok (.newarray .int, 2) := by decide +kernel
theorem d67_61 : decode (eb_b 67) 61 = .ok (.putfield 35, 3) := by decide +kernel
theorem wf_5_35 : Cond.fieldLink (eb_cN 5) 35 (eb_tT 5 6).1 (eb_tT 5 6).2.1 (eb_tT 5 6).2.2.1 ∈ eb_LT := eb_lt 286 (by decide +kernel)
theorem fi_5_6 : 6 < eb_nf 5 ∧ (eb_tt 5 6).isReference = true := ⟨by decide, rfl⟩
theorem fp_5_6 : ∀ x : Option Nat, narrow (eb_tt 5 6) (va_rf x) = va_rf x ∧ fits (eb_tt 5 6) (va_rf x) = true := fun x => by cases x <;> exact ⟨rfl, rfl⟩
theorem d67_64 : decode (eb_b 67) 64 = .ok (.iconst 0, 1) := by decide +kernel
theorem d67_65 : decode (eb_b 67) 65 = .ok (.istore_n 1, 1) := by decide +kernel
theorem hn67_1 : 1 < eb_ml 67 := by decide
theorem d67_66 : decode (eb_b 67) 66 = .ok (.iload_n 1, 1) := by decide +kernel
theorem d67_67 : decode (eb_b 67) 67 = .ok (.bipush 8, 2) := by decide +kernel
theorem d67_69 : decode (eb_b 67) 69 = .ok (.if_icmp .ge 22, 3) := by decide +kernel
theorem d67_72 : decode (eb_b 67) 72 = .ok (.aload_n 0, 1) := by decide +kernel
theorem d67_73 : decode (eb_b 67) 73 = .ok (.getfield 24, 3) := by decide +kernel
theorem d67_76 : decode (eb_b 67) 76 = .ok (.iload_n 1, 1) := by decide +kernel
theorem d67_77 : decode (eb_b 67) 77 = .ok (.new 22, 3) := by decide +kernel
theorem wq_5_22 : Cond.classLink (eb_cN 5) 22 (eb_cN 2) ∈ eb_LT := eb_lt 235 (by decide +kernel)
theorem d67_80 : decode (eb_b 67) 80 = .ok (.dup, 1) := by decide +kernel
theorem d67_81 : decode (eb_b 67) 81 = .ok (.invokespecial 39, 3) := by decide +kernel
theorem wc_16 : Cond.code (eb_y 16) (eb_b 16) (eb_ml 16) (eb_rt 16) ∈ eb_LT := eb_lt 264 (by decide +kernel)
theorem cy_16 : (eb_y 16).cls ≠ "java/lang/invoke/MethodHandle" ∧ (eb_y 16).cls ≠ "java/lang/invoke/VarHandle" ∧ (parseMethodDescriptor (eb_y 16).desc).map (fun d => d.parameters.length) = some 0 := by decide +kernel
theorem wi_16 : Cond.instanceMethod (eb_y 16) ∈ eb_LT := eb_lt 263 (by decide +kernel)
theorem wn_16 : Cond.initialized (eb_y 16).cls ∈ eb_LT := eb_lt 82 (by decide +kernel)
theorem kIN_16 {L q0 m pc : Nat} {lg : Nat → Bool} {ix : Nat} (hw : Cond.methodLinkNest (eb_own m) ix (eb_y 16) "EverybodyHasTheBook" ∈ eb_nest) (hd : decode (eb_b m) pc = .ok (.invokespecial ix, 3)) : eb_Snd L q0 m pc lg (op_callv 16 1 (pc + 3)) := sn_callIN rfl (by decide) rfl ⟨⟨hw, wi_16, wn_16⟩, wc_16⟩ rfl cy_16 hd
theorem wm_5_39 : Cond.methodLinkNest (eb_cN 5) 39 (eb_y 16) "EverybodyHasTheBook" ∈ eb_nest := by decide +kernel
theorem d67_84 : decode (eb_b 67) 84 = .ok (.aastore, 1) := by decide +kernel
theorem d67_85 : decode (eb_b 67) 85 = .ok (.iinc 1 1, 3) := by decide +kernel
theorem d67_88 : decode (eb_b 67) 88 = .ok (.goto (-22), 3) := by decide +kernel
theorem d67_91 : decode (eb_b 67) 91 = .ok (.return_, 1) := by decide +kernel
theorem d68_0 : decode (eb_b 68) 0 = .ok (.iload_n 1, 1) := by decide +kernel
theorem d68_1 : decode (eb_b 68) 1 = .ok (.invokestatic 40, 3) := by decide +kernel
theorem wc_128 : Cond.code (eb_y 128) (eb_b 128) (eb_ml 128) (eb_rt 128) ∈ eb_LT := eb_lt 308 (by decide +kernel)
theorem cy_128 : (eb_y 128).cls ≠ "java/lang/invoke/MethodHandle" ∧ (eb_y 128).cls ≠ "java/lang/invoke/VarHandle" ∧ (parseMethodDescriptor (eb_y 128).desc).map (fun d => d.parameters.length) = some 1 := by decide +kernel
theorem wst_128 : Cond.static (eb_y 128) ∈ eb_LT := eb_lt 307 (by decide +kernel)
theorem wn_128 : Cond.initialized (eb_y 128).cls ∈ eb_LT := eb_lt 77 (by decide +kernel)
theorem kS_128 {L q0 m pc : Nat} {lg : Nat → Bool} {ix : Nat} (hw : Cond.methodLink (eb_own m) ix (eb_y 128) ∈ eb_LT) (hd : decode (eb_b m) pc = .ok (.invokestatic ix, 3)) : eb_Snd L q0 m pc lg (op_call 128 1 (pc + 3)) := sn_callS false rfl (Or.inr ⟨rfl, _, rfl⟩) (by decide) ⟨⟨hw, wst_128, wn_128⟩, wc_128⟩ cy_128 hd
theorem wm_5_40 : Cond.methodLink (eb_cN 5) 40 (eb_y 128) ∈ eb_LT := eb_lt 306 (by decide +kernel)
theorem d68_4 : decode (eb_b 68) 4 = .ok (.ifCond .eq 22, 3) := by decide +kernel
theorem d68_7 : decode (eb_b 68) 7 = .ok (.iload_n 2, 1) := by decide +kernel
theorem d68_8 : decode (eb_b 68) 8 = .ok (.iconst 0, 1) := by decide +kernel
theorem d68_9 : decode (eb_b 68) 9 = .ok (.iconst 4, 1) := by decide +kernel
theorem d68_10 : decode (eb_b 68) 10 = .ok (.invokestatic 44, 3) := by decide +kernel
theorem kS_127 {L q0 m pc : Nat} {lg : Nat → Bool} {ix : Nat} (hw : Cond.methodLink (eb_own m) ix (eb_y 127) ∈ eb_LT) (hd : decode (eb_b m) pc = .ok (.invokestatic ix, 3)) : eb_Snd L q0 m pc lg (op_call 127 3 (pc + 3)) := sn_callS false rfl (Or.inr ⟨rfl, _, rfl⟩) (by decide) ⟨⟨hw, wst_127, wn_127⟩, wc_127⟩ cy_127 hd
theorem wm_5_44 : Cond.methodLink (eb_cN 5) 44 (eb_y 127) ∈ eb_LT := eb_lt 309 (by decide +kernel)
theorem d68_13 : decode (eb_b 68) 13 = .ok (.ifCond .eq 13, 3) := by decide +kernel
theorem d68_16 : decode (eb_b 68) 16 = .ok (.iload_n 3, 1) := by decide +kernel
theorem d68_17 : decode (eb_b 68) 17 = .ok (.iconst 0, 1) := by decide +kernel
theorem d68_18 : decode (eb_b 68) 18 = .ok (.bipush 40, 2) := by decide +kernel
theorem d68_20 : decode (eb_b 68) 20 = .ok (.invokestatic 44, 3) := by decide +kernel
theorem d68_23 : decode (eb_b 68) 23 = .ok (.ifCond .ne 10, 3) := by decide +kernel
theorem d68_26 : decode (eb_b 68) 26 = .ok (.aload_n 0, 1) := by decide +kernel
theorem d68_27 : decode (eb_b 68) 27 = .ok (.bipush (-2), 2) := by decide +kernel
theorem d68_29 : decode (eb_b 68) 29 = .ok (.invokevirtual 48, 3) := by decide +kernel
theorem wc_125 : Cond.code (eb_y 125) (eb_b 125) (eb_ml 125) (eb_rt 125) ∈ eb_LT := eb_lt 315 (by decide +kernel)
theorem cy_125 : (eb_y 125).cls = eb_cN (eb_rc 125) ∧ (eb_y 125).cls ≠ "java/lang/invoke/MethodHandle" ∧ (eb_y 125).cls ≠ "java/lang/invoke/VarHandle" ∧ (parseMethodDescriptor (eb_y 125).desc).map (fun d => d.parameters.length) = some 1 := by decide +kernel
theorem wi_125 : Cond.instanceMethod (eb_y 125) ∈ eb_LT := eb_lt 314 (by decide +kernel)
theorem wse_125 : Cond.selects (eb_cN (eb_rc 125)) (eb_y 125) (eb_y 125) ∈ eb_LT := eb_lt 0 (by decide +kernel)
theorem kV_125 {L q0 m pc : Nat} {lg : Nat → Bool} {ix : Nat} (hw : Cond.methodLink (eb_own m) ix (eb_y 125) ∈ eb_LT) (hd : decode (eb_b m) pc = .ok (.invokevirtual ix, 3)) : eb_Snd L q0 m pc lg (op_call 125 2 (pc + 3)) := sn_callV false rfl (Or.inr ⟨rfl, _, rfl⟩) (by decide) rfl (by decide) ⟨⟨hw, wi_125, wse_125⟩, wc_125⟩ cy_125 hd
theorem wm_5_48 : Cond.methodLink (eb_cN 5) 48 (eb_y 125) ∈ eb_LT := eb_lt 312 (by decide +kernel)
theorem d68_32 : decode (eb_b 68) 32 = .ok (.ireturn, 1) := by decide +kernel
theorem d68_33 : decode (eb_b 68) 33 = .ok (.aload_n 0, 1) := by decide +kernel
theorem d68_34 : decode (eb_b 68) 34 = .ok (.getfield 24, 3) := by decide +kernel
theorem d68_37 : decode (eb_b 68) 37 = .ok (.iload_n 1, 1) := by decide +kernel
theorem d68_38 : decode (eb_b 68) 38 = .ok (.aaload, 1) := by decide +kernel
theorem d68_39 : decode (eb_b 68) 39 = .ok (.iload_n 2, 1) := by decide +kernel
theorem d68_40 : decode (eb_b 68) 40 = .ok (.iload_n 3, 1) := by decide +kernel
theorem d68_41 : decode (eb_b 68) 41 = .ok (.invokevirtual 52, 3) := by decide +kernel
theorem wc_19 : Cond.code (eb_y 19) (eb_b 19) (eb_ml 19) (eb_rt 19) ∈ eb_LT := eb_lt 319 (by decide +kernel)
theorem cy_19 : (eb_y 19).cls = eb_cN (eb_rc 19) ∧ (eb_y 19).cls ≠ "java/lang/invoke/MethodHandle" ∧ (eb_y 19).cls ≠ "java/lang/invoke/VarHandle" ∧ (parseMethodDescriptor (eb_y 19).desc).map (fun d => d.parameters.length) = some 2 := by decide +kernel
theorem wi_19 : Cond.instanceMethod (eb_y 19) ∈ eb_LT := eb_lt 317 (by decide +kernel)
theorem wse_19 : Cond.selects (eb_cN (eb_rc 19)) (eb_y 19) (eb_y 19) ∈ eb_LT := eb_lt 318 (by decide +kernel)
theorem kV_19 {L q0 m pc : Nat} {lg : Nat → Bool} {ix : Nat} (hw : Cond.methodLink (eb_own m) ix (eb_y 19) ∈ eb_LT) (hd : decode (eb_b m) pc = .ok (.invokevirtual ix, 3)) : eb_Snd L q0 m pc lg (op_callv 19 3 (pc + 3)) := sn_callV true rfl (Or.inl ⟨rfl, rfl⟩) (by decide) rfl (by decide) ⟨⟨hw, wi_19, wse_19⟩, wc_19⟩ cy_19 hd
theorem wm_5_52 : Cond.methodLink (eb_cN 5) 52 (eb_y 19) ∈ eb_LT := eb_lt 316 (by decide +kernel)
theorem d68_44 : decode (eb_b 68) 44 = .ok (.iconst 1, 1) := by decide +kernel
theorem d68_45 : decode (eb_b 68) 45 = .ok (.ireturn, 1) := by decide +kernel
theorem d69_0 : decode (eb_b 69) 0 = .ok (.aload_n 0, 1) := by decide +kernel
theorem d69_1 : decode (eb_b 69) 1 = .ok (.iload_n 1, 1) := by decide +kernel
theorem d69_2 : decode (eb_b 69) 2 = .ok (.invokevirtual 56, 3) := by decide +kernel
theorem wc_135 : Cond.code (eb_y 135) (eb_b 135) (eb_ml 135) (eb_rt 135) ∈ eb_LT := eb_lt 327 (by decide +kernel)
theorem cy_135 : (eb_y 135).cls = eb_cN (eb_rc 135) ∧ (eb_y 135).cls ≠ "java/lang/invoke/MethodHandle" ∧ (eb_y 135).cls ≠ "java/lang/invoke/VarHandle" ∧ (parseMethodDescriptor (eb_y 135).desc).map (fun d => d.parameters.length) = some 1 := by decide +kernel
theorem wi_135 : Cond.instanceMethod (eb_y 135) ∈ eb_LT := eb_lt 326 (by decide +kernel)
theorem wse_135 : Cond.selects (eb_cN (eb_rc 135)) (eb_y 135) (eb_y 135) ∈ eb_LT := eb_lt 1 (by decide +kernel)
theorem kV_135 {L q0 m pc : Nat} {lg : Nat → Bool} {ix : Nat} (hw : Cond.methodLink (eb_own m) ix (eb_y 135) ∈ eb_LT) (hd : decode (eb_b m) pc = .ok (.invokevirtual ix, 3)) : eb_Snd L q0 m pc lg (op_call 135 2 (pc + 3)) := sn_callV false rfl (Or.inr ⟨rfl, _, rfl⟩) (by decide) rfl (by decide) ⟨⟨hw, wi_135, wse_135⟩, wc_135⟩ cy_135 hd
theorem wm_5_56 : Cond.methodLink (eb_cN 5) 56 (eb_y 135) ∈ eb_LT := eb_lt 324 (by decide +kernel)
theorem d69_5 : decode (eb_b 69) 5 = .ok (.istore 5, 2) := by decide +kernel
theorem hn69_5 : 5 < eb_ml 69 := by decide
theorem d69_7 : decode (eb_b 69) 7 = .ok (.iload 5, 2) := by decide +kernel
theorem d69_9 : decode (eb_b 69) 9 = .ok (.ifCond .eq 10, 3) := by decide +kernel
theorem d69_12 : decode (eb_b 69) 12 = .ok (.aload_n 0, 1) := by decide +kernel
theorem d69_13 : decode (eb_b 69) 13 = .ok (.iload 5, 2) := by decide +kernel
theorem d69_15 : decode (eb_b 69) 15 = .ok (.invokevirtual 48, 3) := by decide +kernel
theorem d69_18 : decode (eb_b 69) 18 = .ok (.ireturn, 1) := by decide +kernel
theorem d69_19 : decode (eb_b 69) 19 = .ok (.iload_n 2, 1) := by decide +kernel
theorem d69_20 : decode (eb_b 69) 20 = .ok (.iconst 0, 1) := by decide +kernel
theorem d69_21 : decode (eb_b 69) 21 = .ok (.aload_n 0, 1) := by decide +kernel
theorem d69_22 : decode (eb_b 69) 22 = .ok (.getfield 24, 3) := by decide +kernel
theorem d69_25 : decode (eb_b 69) 25 = .ok (.iload_n 1, 1) := by decide +kernel
theorem d69_26 : decode (eb_b 69) 26 = .ok (.aaload, 1) := by decide +kernel
theorem d69_27 : decode (eb_b 69) 27 = .ok (.getfield 59, 3) := by decide +kernel
theorem wf_5_59 : Cond.fieldLink (eb_cN 5) 59 (eb_tT 2 1).1 (eb_tT 2 1).2.1 (eb_tT 2 1).2.2.1 ∈ eb_LT := eb_lt 268 (by decide +kernel)
theorem d69_30 : decode (eb_b 69) 30 = .ok (.iconst 1, 1) := by decide +kernel
theorem d69_31 : decode (eb_b 69) 31 = .ok (.isub, 1) := by decide +kernel
theorem d69_32 : decode (eb_b 69) 32 = .ok (.invokestatic 44, 3) := by decide +kernel
theorem d69_35 : decode (eb_b 69) 35 = .ok (.ifCond .ne 10, 3) := by decide +kernel
theorem d69_38 : decode (eb_b 69) 38 = .ok (.aload_n 0, 1) := by decide +kernel
theorem d69_39 : decode (eb_b 69) 39 = .ok (.bipush (-2), 2) := by decide +kernel
theorem d69_41 : decode (eb_b 69) 41 = .ok (.invokevirtual 48, 3) := by decide +kernel
theorem d69_44 : decode (eb_b 69) 44 = .ok (.ireturn, 1) := by decide +kernel
theorem d69_45 : decode (eb_b 69) 45 = .ok (.aload_n 0, 1) := by decide +kernel
theorem d69_46 : decode (eb_b 69) 46 = .ok (.getfield 24, 3) := by decide +kernel
theorem d69_49 : decode (eb_b 69) 49 = .ok (.iload_n 1, 1) := by decide +kernel
theorem d69_50 : decode (eb_b 69) 50 = .ok (.aaload, 1) := by decide +kernel
theorem d69_51 : decode (eb_b 69) 51 = .ok (.iload_n 2, 1) := by decide +kernel
theorem d69_52 : decode (eb_b 69) 52 = .ok (.lload_n 3, 1) := by decide +kernel
theorem d69_53 : decode (eb_b 69) 53 = .ok (.invokevirtual 63, 3) := by decide +kernel
theorem wc_21 : Cond.code (eb_y 21) (eb_b 21) (eb_ml 21) (eb_rt 21) ∈ eb_LT := eb_lt 340 (by decide +kernel)
theorem cy_21 : (eb_y 21).cls = eb_cN (eb_rc 21) ∧ (eb_y 21).cls ≠ "java/lang/invoke/MethodHandle" ∧ (eb_y 21).cls ≠ "java/lang/invoke/VarHandle" ∧ (parseMethodDescriptor (eb_y 21).desc).map (fun d => d.parameters.length) = some 2 := by decide +kernel
theorem wi_21 : Cond.instanceMethod (eb_y 21) ∈ eb_LT := eb_lt 338 (by decide +kernel)
theorem wse_21 : Cond.selects (eb_cN (eb_rc 21)) (eb_y 21) (eb_y 21) ∈ eb_LT := eb_lt 339 (by decide +kernel)
theorem kV_21 {L q0 m pc : Nat} {lg : Nat → Bool} {ix : Nat} (hw : Cond.methodLink (eb_own m) ix (eb_y 21) ∈ eb_LT) (hd : decode (eb_b m) pc = .ok (.invokevirtual ix, 3)) : eb_Snd L q0 m pc lg (op_callv 21 3 (pc + 3)) := sn_callV true rfl (Or.inl ⟨rfl, rfl⟩) (by decide) rfl (by decide) ⟨⟨hw, wi_21, wse_21⟩, wc_21⟩ cy_21 hd
theorem wm_5_63 : Cond.methodLink (eb_cN 5) 63 (eb_y 21) ∈ eb_LT := eb_lt 337 (by decide +kernel)
theorem d69_56 : decode (eb_b 69) 56 = .ok (.iconst 1, 1) := by decide +kernel
theorem d69_57 : decode (eb_b 69) 57 = .ok (.ireturn, 1) := by decide +kernel
theorem d70_0 : decode (eb_b 70) 0 = .ok (.iload_n 1, 1) := by decide +kernel
theorem d70_1 : decode (eb_b 70) 1 = .ok (.invokestatic 40, 3) := by decide +kernel
theorem d70_4 : decode (eb_b 70) 4 = .ok (.ifCond .eq 10, 3) := by decide +kernel
theorem d70_7 : decode (eb_b 70) 7 = .ok (.iload_n 2, 1) := by decide +kernel
theorem d70_8 : decode (eb_b 70) 8 = .ok (.invokestatic 40, 3) := by decide +kernel
theorem d70_11 : decode (eb_b 70) 11 = .ok (.ifCond .ne 10, 3) := by decide +kernel
theorem d70_14 : decode (eb_b 70) 14 = .ok (.aload_n 0, 1) := by decide +kernel
theorem d70_15 : decode (eb_b 70) 15 = .ok (.bipush (-2), 2) := by decide +kernel
theorem d70_17 : decode (eb_b 70) 17 = .ok (.invokevirtual 48, 3) := by decide +kernel
theorem d70_20 : decode (eb_b 70) 20 = .ok (.ireturn, 1) := by decide +kernel
theorem d70_21 : decode (eb_b 70) 21 = .ok (.aload_n 0, 1) := by decide +kernel
theorem d70_22 : decode (eb_b 70) 22 = .ok (.getfield 24, 3) := by decide +kernel
theorem d70_25 : decode (eb_b 70) 25 = .ok (.iload_n 1, 1) := by decide +kernel
theorem d70_26 : decode (eb_b 70) 26 = .ok (.aaload, 1) := by decide +kernel
theorem d70_27 : decode (eb_b 70) 27 = .ok (.astore 6, 2) := by decide +kernel
theorem hn70_6 : 6 < eb_ml 70 := by decide
theorem d70_29 : decode (eb_b 70) 29 = .ok (.aload_n 0, 1) := by decide +kernel
theorem d70_30 : decode (eb_b 70) 30 = .ok (.getfield 24, 3) := by decide +kernel
theorem d70_33 : decode (eb_b 70) 33 = .ok (.iload_n 2, 1) := by decide +kernel
theorem d70_34 : decode (eb_b 70) 34 = .ok (.aaload, 1) := by decide +kernel
theorem d70_35 : decode (eb_b 70) 35 = .ok (.astore 7, 2) := by decide +kernel
theorem hn70_7 : 7 < eb_ml 70 := by decide
theorem d70_37 : decode (eb_b 70) 37 = .ok (.aload 6, 2) := by decide +kernel
theorem d70_39 : decode (eb_b 70) 39 = .ok (.getfield 67, 3) := by decide +kernel
theorem wf_5_67 : Cond.fieldLink (eb_cN 5) 67 (eb_tT 2 0).1 (eb_tT 2 0).2.1 (eb_tT 2 0).2.2.1 ∈ eb_LT := eb_lt 267 (by decide +kernel)
theorem d70_42 : decode (eb_b 70) 42 = .ok (.iconst (-1), 1) := by decide +kernel
theorem d70_43 : decode (eb_b 70) 43 = .ok (.if_icmp .eq 16, 3) := by decide +kernel
theorem d70_46 : decode (eb_b 70) 46 = .ok (.aload 7, 2) := by decide +kernel
theorem d70_48 : decode (eb_b 70) 48 = .ok (.getfield 67, 3) := by decide +kernel
theorem d70_51 : decode (eb_b 70) 51 = .ok (.iconst (-1), 1) := by decide +kernel
theorem d70_52 : decode (eb_b 70) 52 = .ok (.if_icmp .eq 7, 3) := by decide +kernel
theorem d70_55 : decode (eb_b 70) 55 = .ok (.iconst 1, 1) := by decide +kernel
theorem d70_56 : decode (eb_b 70) 56 = .ok (.goto 4, 3) := by decide +kernel
theorem d70_59 : decode (eb_b 70) 59 = .ok (.iconst 0, 1) := by decide +kernel
theorem d70_60 : decode (eb_b 70) 60 = .ok (.istore 8, 2) := by decide +kernel
theorem hn70_8 : 8 < eb_ml 70 := by decide
theorem d70_62 : decode (eb_b 70) 62 = .ok (.aload 6, 2) := by decide +kernel
theorem d70_64 : decode (eb_b 70) 64 = .ok (.invokevirtual 70, 3) := by decide +kernel
theorem wc_18 : Cond.code (eb_y 18) (eb_b 18) (eb_ml 18) (eb_rt 18) ∈ eb_LT := eb_lt 331 (by decide +kernel)
theorem cy_18 : (eb_y 18).cls = eb_cN (eb_rc 18) ∧ (eb_y 18).cls ≠ "java/lang/invoke/MethodHandle" ∧ (eb_y 18).cls ≠ "java/lang/invoke/VarHandle" ∧ (parseMethodDescriptor (eb_y 18).desc).map (fun d => d.parameters.length) = some 0 := by decide +kernel
theorem wi_18 : Cond.instanceMethod (eb_y 18) ∈ eb_LT := eb_lt 329 (by decide +kernel)
theorem wse_18 : Cond.selects (eb_cN (eb_rc 18)) (eb_y 18) (eb_y 18) ∈ eb_LT := eb_lt 330 (by decide +kernel)
theorem kV_18 {L q0 m pc : Nat} {lg : Nat → Bool} {ix : Nat} (hw : Cond.methodLink (eb_own m) ix (eb_y 18) ∈ eb_LT) (hd : decode (eb_b m) pc = .ok (.invokevirtual ix, 3)) : eb_Snd L q0 m pc lg (op_call 18 1 (pc + 3)) := sn_callV false rfl (Or.inr ⟨rfl, _, rfl⟩) (by decide) rfl (by decide) ⟨⟨hw, wi_18, wse_18⟩, wc_18⟩ cy_18 hd
theorem wm_5_70 : Cond.methodLink (eb_cN 5) 70 (eb_y 18) ∈ eb_LT := eb_lt 328 (by decide +kernel)
theorem d70_67 : decode (eb_b 70) 67 = .ok (.ifCond .ne 29, 3) := by decide +kernel
theorem d70_70 : decode (eb_b 70) 70 = .ok (.aload 7, 2) := by decide +kernel
theorem d70_72 : decode (eb_b 70) 72 = .ok (.invokevirtual 70, 3) := by decide +kernel
theorem d70_75 : decode (eb_b 70) 75 = .ok (.ifCond .ne 21, 3) := by decide +kernel
theorem d70_78 : decode (eb_b 70) 78 = .ok (.iload 8, 2) := by decide +kernel
theorem d70_80 : decode (eb_b 70) 80 = .ok (.ifCond .eq 23, 3) := by decide +kernel
theorem d70_83 : decode (eb_b 70) 83 = .ok (.aload 6, 2) := by decide +kernel
theorem d70_85 : decode (eb_b 70) 85 = .ok (.getfield 67, 3) := by decide +kernel
theorem d70_88 : decode (eb_b 70) 88 = .ok (.aload 7, 2) := by decide +kernel
theorem d70_90 : decode (eb_b 70) 90 = .ok (.getfield 67, 3) := by decide +kernel
theorem d70_93 : decode (eb_b 70) 93 = .ok (.if_icmp .eq 10, 3) := by decide +kernel
theorem d70_96 : decode (eb_b 70) 96 = .ok (.aload_n 0, 1) := by decide +kernel
theorem d70_97 : decode (eb_b 70) 97 = .ok (.bipush (-3), 2) := by decide +kernel
theorem d70_99 : decode (eb_b 70) 99 = .ok (.invokevirtual 48, 3) := by decide +kernel
theorem d70_102 : decode (eb_b 70) 102 = .ok (.ireturn, 1) := by decide +kernel
theorem d70_103 : decode (eb_b 70) 103 = .ok (.iload 8, 2) := by decide +kernel
theorem d70_105 : decode (eb_b 70) 105 = .ok (.ifCond .ne 10, 3) := by decide +kernel
theorem d70_108 : decode (eb_b 70) 108 = .ok (.aload_n 0, 1) := by decide +kernel
theorem d70_109 : decode (eb_b 70) 109 = .ok (.bipush (-4), 2) := by decide +kernel
theorem d70_111 : decode (eb_b 70) 111 = .ok (.invokevirtual 48, 3) := by decide +kernel
theorem d70_114 : decode (eb_b 70) 114 = .ok (.ireturn, 1) := by decide +kernel
theorem d70_115 : decode (eb_b 70) 115 = .ok (.aload 6, 2) := by decide +kernel
theorem d70_117 : decode (eb_b 70) 117 = .ok (.iload_n 3, 1) := by decide +kernel
theorem d70_118 : decode (eb_b 70) 118 = .ok (.iload 5, 2) := by decide +kernel
theorem d70_120 : decode (eb_b 70) 120 = .ok (.invokevirtual 74, 3) := by decide +kernel
theorem wc_20 : Cond.code (eb_y 20) (eb_b 20) (eb_ml 20) (eb_rt 20) ∈ eb_LT := eb_lt 352 (by decide +kernel)
theorem cy_20 : (eb_y 20).cls = eb_cN (eb_rc 20) ∧ (eb_y 20).cls ≠ "java/lang/invoke/MethodHandle" ∧ (eb_y 20).cls ≠ "java/lang/invoke/VarHandle" ∧ (parseMethodDescriptor (eb_y 20).desc).map (fun d => d.parameters.length) = some 2 := by decide +kernel
theorem wi_20 : Cond.instanceMethod (eb_y 20) ∈ eb_LT := eb_lt 350 (by decide +kernel)
theorem wse_20 : Cond.selects (eb_cN (eb_rc 20)) (eb_y 20) (eb_y 20) ∈ eb_LT := eb_lt 351 (by decide +kernel)
theorem kV_20 {L q0 m pc : Nat} {lg : Nat → Bool} {ix : Nat} (hw : Cond.methodLink (eb_own m) ix (eb_y 20) ∈ eb_LT) (hd : decode (eb_b m) pc = .ok (.invokevirtual ix, 3)) : eb_Snd L q0 m pc lg (op_call 20 3 (pc + 3)) := sn_callV false rfl (Or.inr ⟨rfl, _, rfl⟩) (by decide) rfl (by decide) ⟨⟨hw, wi_20, wse_20⟩, wc_20⟩ cy_20 hd
theorem wm_5_74 : Cond.methodLink (eb_cN 5) 74 (eb_y 20) ∈ eb_LT := eb_lt 349 (by decide +kernel)
theorem d70_123 : decode (eb_b 70) 123 = .ok (.ifCond .eq 15, 3) := by decide +kernel
theorem d70_126 : decode (eb_b 70) 126 = .ok (.aload 7, 2) := by decide +kernel
theorem d70_128 : decode (eb_b 70) 128 = .ok (.iload 4, 2) := by decide +kernel
theorem d70_130 : decode (eb_b 70) 130 = .ok (.iload 5, 2) := by decide +kernel
theorem d70_132 : decode (eb_b 70) 132 = .ok (.invokevirtual 74, 3) := by decide +kernel
theorem d70_135 : decode (eb_b 70) 135 = .ok (.ifCond .ne 10, 3) := by decide +kernel
theorem d70_138 : decode (eb_b 70) 138 = .ok (.aload_n 0, 1) := by decide +kernel
theorem d70_139 : decode (eb_b 70) 139 = .ok (.bipush (-2), 2) := by decide +kernel
theorem d70_141 : decode (eb_b 70) 141 = .ok (.invokevirtual 48, 3) := by decide +kernel
theorem d70_144 : decode (eb_b 70) 144 = .ok (.ireturn, 1) := by decide +kernel
theorem d70_145 : decode (eb_b 70) 145 = .ok (.aload 6, 2) := by decide +kernel
theorem d70_147 : decode (eb_b 70) 147 = .ok (.getfield 78, 3) := by decide +kernel
theorem wf_5_78 : Cond.fieldLink (eb_cN 5) 78 (eb_tT 2 2).1 (eb_tT 2 2).2.1 (eb_tT 2 2).2.2.1 ∈ eb_LT := eb_lt 271 (by decide +kernel)
theorem d70_150 : decode (eb_b 70) 150 = .ok (.iload_n 3, 1) := by decide +kernel
theorem d70_151 : decode (eb_b 70) 151 = .ok (.aload 7, 2) := by decide +kernel
theorem d70_153 : decode (eb_b 70) 153 = .ok (.getfield 78, 3) := by decide +kernel
theorem d70_156 : decode (eb_b 70) 156 = .ok (.iload 4, 2) := by decide +kernel
theorem d70_158 : decode (eb_b 70) 158 = .ok (.iload 5, 2) := by decide +kernel
theorem d70_160 : decode (eb_b 70) 160 = .ok (.invokestatic 82, 3) := by decide +kernel
theorem wm_5_82 : Cond.methodLink (eb_cN 5) 82 arraycopyName ∈ eb_LT := eb_lt 353 (by decide +kernel)
theorem d70_163 : decode (eb_b 70) 163 = .ok (.iload 5, 2) := by decide +kernel
theorem d70_165 : decode (eb_b 70) 165 = .ok (.ireturn, 1) := by decide +kernel
theorem d71_0 : decode (eb_b 71) 0 = .ok (.iload_n 1, 1) := by decide +kernel
theorem d71_1 : decode (eb_b 71) 1 = .ok (.invokestatic 40, 3) := by decide +kernel
theorem d71_4 : decode (eb_b 71) 4 = .ok (.ifCond .eq 34, 3) := by decide +kernel
theorem d71_7 : decode (eb_b 71) 7 = .ok (.aload_n 0, 1) := by decide +kernel
theorem d71_8 : decode (eb_b 71) 8 = .ok (.getfield 24, 3) := by decide +kernel
theorem d71_11 : decode (eb_b 71) 11 = .ok (.iload_n 1, 1) := by decide +kernel
theorem d71_12 : decode (eb_b 71) 12 = .ok (.aaload, 1) := by decide +kernel
theorem d71_13 : decode (eb_b 71) 13 = .ok (.invokevirtual 88, 3) := by decide +kernel
theorem wc_17 : Cond.code (eb_y 17) (eb_b 17) (eb_ml 17) (eb_rt 17) ∈ eb_LT := eb_lt 335 (by decide +kernel)
theorem cy_17 : (eb_y 17).cls = eb_cN (eb_rc 17) ∧ (eb_y 17).cls ≠ "java/lang/invoke/MethodHandle" ∧ (eb_y 17).cls ≠ "java/lang/invoke/VarHandle" ∧ (parseMethodDescriptor (eb_y 17).desc).map (fun d => d.parameters.length) = some 0 := by decide +kernel
theorem wi_17 : Cond.instanceMethod (eb_y 17) ∈ eb_LT := eb_lt 333 (by decide +kernel)
theorem wse_17 : Cond.selects (eb_cN (eb_rc 17)) (eb_y 17) (eb_y 17) ∈ eb_LT := eb_lt 334 (by decide +kernel)
theorem kV_17 {L q0 m pc : Nat} {lg : Nat → Bool} {ix : Nat} (hw : Cond.methodLink (eb_own m) ix (eb_y 17) ∈ eb_LT) (hd : decode (eb_b m) pc = .ok (.invokevirtual ix, 3)) : eb_Snd L q0 m pc lg (op_call 17 1 (pc + 3)) := sn_callV false rfl (Or.inr ⟨rfl, _, rfl⟩) (by decide) rfl (by decide) ⟨⟨hw, wi_17, wse_17⟩, wc_17⟩ cy_17 hd
theorem wm_5_88 : Cond.methodLink (eb_cN 5) 88 (eb_y 17) ∈ eb_LT := eb_lt 332 (by decide +kernel)
theorem d71_16 : decode (eb_b 71) 16 = .ok (.ifCond .eq 22, 3) := by decide +kernel
theorem d71_19 : decode (eb_b 71) 19 = .ok (.iload_n 2, 1) := by decide +kernel
theorem d71_20 : decode (eb_b 71) 20 = .ok (.iconst 0, 1) := by decide +kernel
theorem d71_21 : decode (eb_b 71) 21 = .ok (.aload_n 0, 1) := by decide +kernel
theorem d71_22 : decode (eb_b 71) 22 = .ok (.getfield 24, 3) := by decide +kernel
theorem d71_25 : decode (eb_b 71) 25 = .ok (.iload_n 1, 1) := by decide +kernel
theorem d71_26 : decode (eb_b 71) 26 = .ok (.aaload, 1) := by decide +kernel
theorem d71_27 : decode (eb_b 71) 27 = .ok (.getfield 59, 3) := by decide +kernel
theorem d71_30 : decode (eb_b 71) 30 = .ok (.iconst 1, 1) := by decide +kernel
theorem d71_31 : decode (eb_b 71) 31 = .ok (.isub, 1) := by decide +kernel
theorem d71_32 : decode (eb_b 71) 32 = .ok (.invokestatic 44, 3) := by decide +kernel
theorem d71_35 : decode (eb_b 71) 35 = .ok (.ifCond .ne 5, 3) := by decide +kernel
theorem d71_38 : decode (eb_b 71) 38 = .ok (.lconst 0, 1) := by decide +kernel
theorem d71_39 : decode (eb_b 71) 39 = .ok (.lreturn, 1) := by decide +kernel
theorem d71_40 : decode (eb_b 71) 40 = .ok (.aload_n 0, 1) := by decide +kernel
theorem d71_41 : decode (eb_b 71) 41 = .ok (.getfield 24, 3) := by decide +kernel
theorem d71_44 : decode (eb_b 71) 44 = .ok (.iload_n 1, 1) := by decide +kernel
theorem d71_45 : decode (eb_b 71) 45 = .ok (.aaload, 1) := by decide +kernel
theorem d71_46 : decode (eb_b 71) 46 = .ok (.getfield 78, 3) := by decide +kernel
theorem d71_49 : decode (eb_b 71) 49 = .ok (.iload_n 2, 1) := by decide +kernel
theorem d71_50 : decode (eb_b 71) 50 = .ok (.laload, 1) := by decide +kernel
theorem d71_51 : decode (eb_b 71) 51 = .ok (.lreturn, 1) := by decide +kernel
theorem d72_0 : decode (eb_b 72) 0 = .ok (.iload_n 1, 1) := by decide +kernel
theorem d72_1 : decode (eb_b 72) 1 = .ok (.invokestatic 40, 3) := by decide +kernel
theorem d72_4 : decode (eb_b 72) 4 = .ok (.ifCond .eq 15, 3) := by decide +kernel
theorem d72_7 : decode (eb_b 72) 7 = .ok (.aload_n 0, 1) := by decide +kernel
theorem d72_8 : decode (eb_b 72) 8 = .ok (.getfield 24, 3) := by decide +kernel
theorem d72_11 : decode (eb_b 72) 11 = .ok (.iload_n 1, 1) := by decide +kernel
theorem d72_12 : decode (eb_b 72) 12 = .ok (.aaload, 1) := by decide +kernel
theorem d72_13 : decode (eb_b 72) 13 = .ok (.getfield 67, 3) := by decide +kernel
theorem d72_16 : decode (eb_b 72) 16 = .ok (.goto 4, 3) := by decide +kernel
theorem d72_19 : decode (eb_b 72) 19 = .ok (.iconst (-1), 1) := by decide +kernel
theorem d72_20 : decode (eb_b 72) 20 = .ok (.ireturn, 1) := by decide +kernel
theorem d73_0 : decode (eb_b 73) 0 = .ok (.iload_n 1, 1) := by decide +kernel
theorem d73_1 : decode (eb_b 73) 1 = .ok (.invokestatic 40, 3) := by decide +kernel
theorem d73_4 : decode (eb_b 73) 4 = .ok (.ifCond .eq 11, 3) := by decide +kernel
theorem d73_7 : decode (eb_b 73) 7 = .ok (.aload_n 0, 1) := by decide +kernel
theorem d73_8 : decode (eb_b 73) 8 = .ok (.iload_n 2, 1) := by decide +kernel
theorem d73_9 : decode (eb_b 73) 9 = .ok (.invokevirtual 91, 3) := by decide +kernel
theorem wc_133 : Cond.code (eb_y 133) (eb_b 133) (eb_ml 133) (eb_rt 133) ∈ eb_LT := eb_lt 371 (by decide +kernel)
theorem cy_133 : (eb_y 133).cls = eb_cN (eb_rc 133) ∧ (eb_y 133).cls ≠ "java/lang/invoke/MethodHandle" ∧ (eb_y 133).cls ≠ "java/lang/invoke/VarHandle" ∧ (parseMethodDescriptor (eb_y 133).desc).map (fun d => d.parameters.length) = some 1 := by decide +kernel
theorem wi_133 : Cond.instanceMethod (eb_y 133) ∈ eb_LT := eb_lt 370 (by decide +kernel)
theorem wse_133 : Cond.selects (eb_cN (eb_rc 133)) (eb_y 133) (eb_y 133) ∈ eb_LT := eb_lt 3 (by decide +kernel)
theorem kV_133 {L q0 m pc : Nat} {lg : Nat → Bool} {ix : Nat} (hw : Cond.methodLink (eb_own m) ix (eb_y 133) ∈ eb_LT) (hd : decode (eb_b m) pc = .ok (.invokevirtual ix, 3)) : eb_Snd L q0 m pc lg (op_call 133 2 (pc + 3)) := sn_callV false rfl (Or.inr ⟨rfl, _, rfl⟩) (by decide) rfl (by decide) ⟨⟨hw, wi_133, wse_133⟩, wc_133⟩ cy_133 hd
theorem wm_5_91 : Cond.methodLink (eb_cN 5) 91 (eb_y 133) ∈ eb_LT := eb_lt 368 (by decide +kernel)
theorem d73_12 : decode (eb_b 73) 12 = .ok (.ifCond .ne 10, 3) := by decide +kernel
theorem d73_15 : decode (eb_b 73) 15 = .ok (.aload_n 0, 1) := by decide +kernel
theorem d73_16 : decode (eb_b 73) 16 = .ok (.bipush (-2), 2) := by decide +kernel
theorem d73_18 : decode (eb_b 73) 18 = .ok (.invokevirtual 48, 3) := by decide +kernel
theorem d73_21 : decode (eb_b 73) 21 = .ok (.ireturn, 1) := by decide +kernel
theorem d73_22 : decode (eb_b 73) 22 = .ok (.aload_n 0, 1) := by decide +kernel
theorem d73_23 : decode (eb_b 73) 23 = .ok (.getfield 24, 3) := by decide +kernel
theorem d73_26 : decode (eb_b 73) 26 = .ok (.iload_n 1, 1) := by decide +kernel
theorem d73_27 : decode (eb_b 73) 27 = .ok (.aaload, 1) := by decide +kernel
theorem d73_28 : decode (eb_b 73) 28 = .ok (.iload_n 2, 1) := by decide +kernel
theorem d73_29 : decode (eb_b 73) 29 = .ok (.iconst (-1), 1) := by decide +kernel
theorem d73_30 : decode (eb_b 73) 30 = .ok (.if_icmp .ne 7, 3) := by decide +kernel
theorem d73_33 : decode (eb_b 73) 33 = .ok (.iconst (-1), 1) := by decide +kernel
theorem d73_34 : decode (eb_b 73) 34 = .ok (.goto 7, 3) := by decide +kernel
theorem d73_37 : decode (eb_b 73) 37 = .ok (.bipush 10, 2) := by decide +kernel
theorem d73_39 : decode (eb_b 73) 39 = .ok (.iload_n 2, 1) := by decide +kernel
theorem d73_40 : decode (eb_b 73) 40 = .ok (.iadd, 1) := by decide +kernel
theorem d73_41 : decode (eb_b 73) 41 = .ok (.putfield 67, 3) := by decide +kernel
theorem d73_44 : decode (eb_b 73) 44 = .ok (.iconst 1, 1) := by decide +kernel
theorem d73_45 : decode (eb_b 73) 45 = .ok (.ireturn, 1) := by decide +kernel
theorem d74_0 : decode (eb_b 74) 0 = .ok (.iload_n 1, 1) := by decide +kernel
theorem d74_1 : decode (eb_b 74) 1 = .ok (.invokestatic 40, 3) := by decide +kernel
theorem d74_4 : decode (eb_b 74) 4 = .ok (.ifCond .eq 12, 3) := by decide +kernel
theorem d74_7 : decode (eb_b 74) 7 = .ok (.iload_n 2, 1) := by decide +kernel
theorem d74_8 : decode (eb_b 74) 8 = .ok (.iconst 0, 1) := by decide +kernel
theorem d74_9 : decode (eb_b 74) 9 = .ok (.iconst 5, 1) := by decide +kernel
theorem d74_10 : decode (eb_b 74) 10 = .ok (.invokestatic 44, 3) := by decide +kernel
theorem d74_13 : decode (eb_b 74) 13 = .ok (.ifCond .ne 10, 3) := by decide +kernel
theorem d74_16 : decode (eb_b 74) 16 = .ok (.aload_n 0, 1) := by decide +kernel
theorem d74_17 : decode (eb_b 74) 17 = .ok (.bipush (-2), 2) := by decide +kernel
theorem d74_19 : decode (eb_b 74) 19 = .ok (.invokevirtual 48, 3) := by decide +kernel
theorem d74_22 : decode (eb_b 74) 22 = .ok (.ireturn, 1) := by decide +kernel
theorem d74_23 : decode (eb_b 74) 23 = .ok (.aload_n 0, 1) := by decide +kernel
theorem d74_24 : decode (eb_b 74) 24 = .ok (.getfield 24, 3) := by decide +kernel
theorem d74_27 : decode (eb_b 74) 27 = .ok (.iload_n 1, 1) := by decide +kernel
theorem d74_28 : decode (eb_b 74) 28 = .ok (.aaload, 1) := by decide +kernel
theorem d74_29 : decode (eb_b 74) 29 = .ok (.astore_n 3, 1) := by decide +kernel
theorem hn74_3 : 3 < eb_ml 74 := by decide
theorem d74_30 : decode (eb_b 74) 30 = .ok (.aload_n 3, 1) := by decide +kernel
theorem d74_31 : decode (eb_b 74) 31 = .ok (.invokevirtual 88, 3) := by decide +kernel
theorem d74_34 : decode (eb_b 74) 34 = .ok (.ifCond .eq 10, 3) := by decide +kernel
theorem d74_37 : decode (eb_b 74) 37 = .ok (.aload_n 0, 1) := by decide +kernel
theorem d74_38 : decode (eb_b 74) 38 = .ok (.bipush (-3), 2) := by decide +kernel
theorem d74_40 : decode (eb_b 74) 40 = .ok (.invokevirtual 48, 3) := by decide +kernel
theorem d74_43 : decode (eb_b 74) 43 = .ok (.ireturn, 1) := by decide +kernel
theorem d74_44 : decode (eb_b 74) 44 = .ok (.aload_n 3, 1) := by decide +kernel
theorem d74_45 : decode (eb_b 74) 45 = .ok (.getfield 67, 3) := by decide +kernel
theorem d74_48 : decode (eb_b 74) 48 = .ok (.bipush 10, 2) := by decide +kernel
theorem d74_50 : decode (eb_b 74) 50 = .ok (.isub, 1) := by decide +kernel
theorem d74_51 : decode (eb_b 74) 51 = .ok (.istore 4, 2) := by decide +kernel
theorem hn74_4 : 4 < eb_ml 74 := by decide
theorem d74_53 : decode (eb_b 74) 53 = .ok (.aload_n 0, 1) := by decide +kernel
theorem d74_54 : decode (eb_b 74) 54 = .ok (.iload 4, 2) := by decide +kernel
theorem d74_56 : decode (eb_b 74) 56 = .ok (.invokevirtual 94, 3) := by decide +kernel
theorem wc_132 : Cond.code (eb_y 132) (eb_b 132) (eb_ml 132) (eb_rt 132) ∈ eb_LT := eb_lt 375 (by decide +kernel)
theorem cy_132 : (eb_y 132).cls = eb_cN (eb_rc 132) ∧ (eb_y 132).cls ≠ "java/lang/invoke/MethodHandle" ∧ (eb_y 132).cls ≠ "java/lang/invoke/VarHandle" ∧ (parseMethodDescriptor (eb_y 132).desc).map (fun d => d.parameters.length) = some 1 := by decide +kernel
theorem wi_132 : Cond.instanceMethod (eb_y 132) ∈ eb_LT := eb_lt 374 (by decide +kernel)
theorem wse_132 : Cond.selects (eb_cN (eb_rc 132)) (eb_y 132) (eb_y 132) ∈ eb_LT := eb_lt 4 (by decide +kernel)
theorem kV_132 {L q0 m pc : Nat} {lg : Nat → Bool} {ix : Nat} (hw : Cond.methodLink (eb_own m) ix (eb_y 132) ∈ eb_LT) (hd : decode (eb_b m) pc = .ok (.invokevirtual ix, 3)) : eb_Snd L q0 m pc lg (op_call 132 2 (pc + 3)) := sn_callV false rfl (Or.inr ⟨rfl, _, rfl⟩) (by decide) rfl (by decide) ⟨⟨hw, wi_132, wse_132⟩, wc_132⟩ cy_132 hd
theorem wm_5_94 : Cond.methodLink (eb_cN 5) 94 (eb_y 132) ∈ eb_LT := eb_lt 372 (by decide +kernel)
theorem d74_59 : decode (eb_b 74) 59 = .ok (.ifCond .ne 10, 3) := by decide +kernel
theorem d74_62 : decode (eb_b 74) 62 = .ok (.aload_n 0, 1) := by decide +kernel
theorem d74_63 : decode (eb_b 74) 63 = .ok (.bipush (-4), 2) := by decide +kernel
theorem d74_65 : decode (eb_b 74) 65 = .ok (.invokevirtual 48, 3) := by decide +kernel
theorem d74_68 : decode (eb_b 74) 68 = .ok (.ireturn, 1) := by decide +kernel
theorem d74_69 : decode (eb_b 74) 69 = .ok (.aload_n 0, 1) := by decide +kernel
theorem d74_70 : decode (eb_b 74) 70 = .ok (.getfield 10, 3) := by decide +kernel
theorem d74_73 : decode (eb_b 74) 73 = .ok (.getfield 97, 3) := by decide +kernel
theorem wf_5_97 : Cond.fieldLink (eb_cN 5) 97 (eb_tT 4 1).1 (eb_tT 4 1).2.1 (eb_tT 4 1).2.2.1 ∈ eb_LT := eb_lt 200 (by decide +kernel)
theorem d74_76 : decode (eb_b 74) 76 = .ok (.iload 4, 2) := by decide +kernel
theorem d74_78 : decode (eb_b 74) 78 = .ok (.aaload, 1) := by decide +kernel
theorem d74_79 : decode (eb_b 74) 79 = .ok (.astore 5, 2) := by decide +kernel
theorem hn74_5 : 5 < eb_ml 74 := by decide
theorem d74_81 : decode (eb_b 74) 81 = .ok (.aload 5, 2) := by decide +kernel
theorem d74_83 : decode (eb_b 74) 83 = .ok (.iload_n 2, 1) := by decide +kernel
theorem d74_84 : decode (eb_b 74) 84 = .ok (.invokevirtual 101, 3) := by decide +kernel
theorem wc_2 : Cond.code (eb_y 2) (eb_b 2) (eb_ml 2) (eb_rt 2) ∈ eb_LT := eb_lt 383 (by decide +kernel)
theorem cy_2 : (eb_y 2).cls = eb_cN (eb_rc 2) ∧ (eb_y 2).cls ≠ "java/lang/invoke/MethodHandle" ∧ (eb_y 2).cls ≠ "java/lang/invoke/VarHandle" ∧ (parseMethodDescriptor (eb_y 2).desc).map (fun d => d.parameters.length) = some 1 := by decide +kernel
theorem wi_2 : Cond.instanceMethod (eb_y 2) ∈ eb_LT := eb_lt 381 (by decide +kernel)
theorem wse_2 : Cond.selects (eb_cN (eb_rc 2)) (eb_y 2) (eb_y 2) ∈ eb_LT := eb_lt 382 (by decide +kernel)
theorem kV_2 {L q0 m pc : Nat} {lg : Nat → Bool} {ix : Nat} (hw : Cond.methodLink (eb_own m) ix (eb_y 2) ∈ eb_LT) (hd : decode (eb_b m) pc = .ok (.invokevirtual ix, 3)) : eb_Snd L q0 m pc lg (op_call 2 2 (pc + 3)) := sn_callV false rfl (Or.inr ⟨rfl, _, rfl⟩) (by decide) rfl (by decide) ⟨⟨hw, wi_2, wse_2⟩, wc_2⟩ cy_2 hd
theorem wm_5_101 : Cond.methodLink (eb_cN 5) 101 (eb_y 2) ∈ eb_LT := eb_lt 380 (by decide +kernel)
theorem d74_87 : decode (eb_b 74) 87 = .ok (.ifCond .ne 10, 3) := by decide +kernel
theorem d74_90 : decode (eb_b 74) 90 = .ok (.aload_n 0, 1) := by decide +kernel
theorem d74_91 : decode (eb_b 74) 91 = .ok (.bipush (-3), 2) := by decide +kernel
theorem d74_93 : decode (eb_b 74) 93 = .ok (.invokevirtual 48, 3) := by decide +kernel
theorem d74_96 : decode (eb_b 74) 96 = .ok (.ireturn, 1) := by decide +kernel
theorem d74_97 : decode (eb_b 74) 97 = .ok (.iload_n 2, 1) := by decide +kernel
theorem d74_98 : decode (eb_b 74) 98 = .ok (.ifCond .ne 11, 3) := by decide +kernel
theorem d74_101 : decode (eb_b 74) 101 = .ok (.aload 5, 2) := by decide +kernel
theorem d74_103 : decode (eb_b 74) 103 = .ok (.getfield 106, 3) := by decide +kernel
theorem wf_5_106 : Cond.fieldLink (eb_cN 5) 106 (eb_tT 0 1).1 (eb_tT 0 1).2.1 (eb_tT 0 1).2.2.1 ∈ eb_LT := eb_lt 171 (by decide +kernel)
theorem d74_106 : decode (eb_b 74) 106 = .ok (.goto 12, 3) := by decide +kernel
theorem d74_109 : decode (eb_b 74) 109 = .ok (.aload_n 0, 1) := by decide +kernel
theorem d74_110 : decode (eb_b 74) 110 = .ok (.getfield 10, 3) := by decide +kernel
theorem d74_113 : decode (eb_b 74) 113 = .ok (.aload 5, 2) := by decide +kernel
theorem d74_115 : decode (eb_b 74) 115 = .ok (.invokevirtual 109, 3) := by decide +kernel
theorem wm_5_109 : Cond.methodLink (eb_cN 5) 109 (eb_y 48) ∈ eb_LT := eb_lt 388 (by decide +kernel)
theorem d74_118 : decode (eb_b 74) 118 = .ok (.ireturn, 1) := by decide +kernel
theorem d75_0 : decode (eb_b 75) 0 = .ok (.iload_n 1, 1) := by decide +kernel
theorem d75_1 : decode (eb_b 75) 1 = .ok (.invokestatic 113, 3) := by decide +kernel
theorem wc_129 : Cond.code (eb_y 129) (eb_b 129) (eb_ml 129) (eb_rt 129) ∈ eb_LT := eb_lt 405 (by decide +kernel)
theorem cy_129 : (eb_y 129).cls ≠ "java/lang/invoke/MethodHandle" ∧ (eb_y 129).cls ≠ "java/lang/invoke/VarHandle" ∧ (parseMethodDescriptor (eb_y 129).desc).map (fun d => d.parameters.length) = some 1 := by decide +kernel
theorem wst_129 : Cond.static (eb_y 129) ∈ eb_LT := eb_lt 404 (by decide +kernel)
theorem wn_129 : Cond.initialized (eb_y 129).cls ∈ eb_LT := eb_lt 77 (by decide +kernel)
theorem kS_129 {L q0 m pc : Nat} {lg : Nat → Bool} {ix : Nat} (hw : Cond.methodLink (eb_own m) ix (eb_y 129) ∈ eb_LT) (hd : decode (eb_b m) pc = .ok (.invokestatic ix, 3)) : eb_Snd L q0 m pc lg (op_call 129 1 (pc + 3)) := sn_callS false rfl (Or.inr ⟨rfl, _, rfl⟩) (by decide) ⟨⟨hw, wst_129, wn_129⟩, wc_129⟩ cy_129 hd
theorem wm_5_113 : Cond.methodLink (eb_cN 5) 113 (eb_y 129) ∈ eb_LT := eb_lt 403 (by decide +kernel)
theorem d75_4 : decode (eb_b 75) 4 = .ok (.ifCond .eq 23, 3) := by decide +kernel
theorem d75_7 : decode (eb_b 75) 7 = .ok (.iload_n 2, 1) := by decide +kernel
theorem d75_8 : decode (eb_b 75) 8 = .ok (.iconst 1, 1) := by decide +kernel
theorem d75_9 : decode (eb_b 75) 9 = .ok (.bipush 20, 2) := by decide +kernel
theorem d75_11 : decode (eb_b 75) 11 = .ok (.invokestatic 44, 3) := by decide +kernel
theorem d75_14 : decode (eb_b 75) 14 = .ok (.ifCond .eq 13, 3) := by decide +kernel
theorem d75_17 : decode (eb_b 75) 17 = .ok (.iload_n 3, 1) := by decide +kernel
theorem d75_18 : decode (eb_b 75) 18 = .ok (.iconst 0, 1) := by decide +kernel
theorem d75_19 : decode (eb_b 75) 19 = .ok (.bipush 99, 2) := by decide +kernel
theorem d75_21 : decode (eb_b 75) 21 = .ok (.invokestatic 44, 3) := by decide +kernel
theorem d75_24 : decode (eb_b 75) 24 = .ok (.ifCond .ne 10, 3) := by decide +kernel
theorem d75_27 : decode (eb_b 75) 27 = .ok (.aload_n 0, 1) := by decide +kernel
theorem d75_28 : decode (eb_b 75) 28 = .ok (.bipush (-2), 2) := by decide +kernel
theorem d75_30 : decode (eb_b 75) 30 = .ok (.invokevirtual 48, 3) := by decide +kernel
theorem d75_33 : decode (eb_b 75) 33 = .ok (.ireturn, 1) := by decide +kernel
theorem d75_34 : decode (eb_b 75) 34 = .ok (.aload_n 0, 1) := by decide +kernel
theorem d75_35 : decode (eb_b 75) 35 = .ok (.getfield 10, 3) := by decide +kernel
theorem d75_38 : decode (eb_b 75) 38 = .ok (.iload_n 1, 1) := by decide +kernel
theorem d75_39 : decode (eb_b 75) 39 = .ok (.iload_n 2, 1) := by decide +kernel
theorem d75_40 : decode (eb_b 75) 40 = .ok (.iload_n 3, 1) := by decide +kernel
theorem d75_41 : decode (eb_b 75) 41 = .ok (.invokevirtual 116, 3) := by decide +kernel
theorem wm_5_116 : Cond.methodLink (eb_cN 5) 116 (eb_y 40) ∈ eb_LT := eb_lt 406 (by decide +kernel)
theorem d75_44 : decode (eb_b 75) 44 = .ok (.istore 4, 2) := by decide +kernel
theorem hn75_4 : 4 < eb_ml 75 := by decide
theorem d75_46 : decode (eb_b 75) 46 = .ok (.iload 4, 2) := by decide +kernel
theorem d75_48 : decode (eb_b 75) 48 = .ok (.iconst (-1), 1) := by decide +kernel
theorem d75_49 : decode (eb_b 75) 49 = .ok (.if_icmp .ne 12, 3) := by decide +kernel
theorem d75_52 : decode (eb_b 75) 52 = .ok (.aload_n 0, 1) := by decide +kernel
theorem d75_53 : decode (eb_b 75) 53 = .ok (.bipush (-6), 2) := by decide +kernel
theorem d75_55 : decode (eb_b 75) 55 = .ok (.invokevirtual 48, 3) := by decide +kernel
theorem d75_58 : decode (eb_b 75) 58 = .ok (.goto 5, 3) := by decide +kernel
theorem d75_61 : decode (eb_b 75) 61 = .ok (.iload 4, 2) := by decide +kernel
theorem d75_63 : decode (eb_b 75) 63 = .ok (.ireturn, 1) := by decide +kernel
theorem d76_0 : decode (eb_b 76) 0 = .ok (.iload_n 1, 1) := by decide +kernel
theorem d76_1 : decode (eb_b 76) 1 = .ok (.iconst 0, 1) := by decide +kernel
theorem d76_2 : decode (eb_b 76) 2 = .ok (.iconst 5, 1) := by decide +kernel
theorem d76_3 : decode (eb_b 76) 3 = .ok (.invokestatic 44, 3) := by decide +kernel
theorem d76_6 : decode (eb_b 76) 6 = .ok (.ifCond .eq 23, 3) := by decide +kernel
theorem d76_9 : decode (eb_b 76) 9 = .ok (.iload_n 2, 1) := by decide +kernel
theorem d76_10 : decode (eb_b 76) 10 = .ok (.iconst 1, 1) := by decide +kernel
theorem d76_11 : decode (eb_b 76) 11 = .ok (.bipush 30, 2) := by decide +kernel
theorem d76_13 : decode (eb_b 76) 13 = .ok (.invokestatic 44, 3) := by decide +kernel
theorem d76_16 : decode (eb_b 76) 16 = .ok (.ifCond .eq 13, 3) := by decide +kernel
theorem d76_19 : decode (eb_b 76) 19 = .ok (.iload_n 3, 1) := by decide +kernel
theorem d76_20 : decode (eb_b 76) 20 = .ok (.iconst 0, 1) := by decide +kernel
theorem d76_21 : decode (eb_b 76) 21 = .ok (.bipush 99, 2) := by decide +kernel
theorem d76_23 : decode (eb_b 76) 23 = .ok (.invokestatic 44, 3) := by decide +kernel
theorem d76_26 : decode (eb_b 76) 26 = .ok (.ifCond .ne 10, 3) := by decide +kernel
theorem d76_29 : decode (eb_b 76) 29 = .ok (.aload_n 0, 1) := by decide +kernel
theorem d76_30 : decode (eb_b 76) 30 = .ok (.bipush (-2), 2) := by decide +kernel
theorem d76_32 : decode (eb_b 76) 32 = .ok (.invokevirtual 48, 3) := by decide +kernel
theorem d76_35 : decode (eb_b 76) 35 = .ok (.ireturn, 1) := by decide +kernel
theorem d76_36 : decode (eb_b 76) 36 = .ok (.aload_n 0, 1) := by decide +kernel
theorem d76_37 : decode (eb_b 76) 37 = .ok (.getfield 10, 3) := by decide +kernel
theorem d76_40 : decode (eb_b 76) 40 = .ok (.iload_n 1, 1) := by decide +kernel
theorem d76_41 : decode (eb_b 76) 41 = .ok (.iload_n 2, 1) := by decide +kernel
theorem d76_42 : decode (eb_b 76) 42 = .ok (.iload_n 3, 1) := by decide +kernel
theorem d76_43 : decode (eb_b 76) 43 = .ok (.invokevirtual 120, 3) := by decide +kernel
theorem wm_5_120 : Cond.methodLink (eb_cN 5) 120 (eb_y 41) ∈ eb_LT := eb_lt 418 (by decide +kernel)
theorem d76_46 : decode (eb_b 76) 46 = .ok (.istore 4, 2) := by decide +kernel
theorem hn76_4 : 4 < eb_ml 76 := by decide
theorem d76_48 : decode (eb_b 76) 48 = .ok (.iload 4, 2) := by decide +kernel
theorem d76_50 : decode (eb_b 76) 50 = .ok (.iconst (-1), 1) := by decide +kernel
theorem d76_51 : decode (eb_b 76) 51 = .ok (.if_icmp .ne 12, 3) := by decide +kernel
theorem d76_54 : decode (eb_b 76) 54 = .ok (.aload_n 0, 1) := by decide +kernel
theorem d76_55 : decode (eb_b 76) 55 = .ok (.bipush (-6), 2) := by decide +kernel
theorem d76_57 : decode (eb_b 76) 57 = .ok (.invokevirtual 48, 3) := by decide +kernel
theorem d76_60 : decode (eb_b 76) 60 = .ok (.goto 5, 3) := by decide +kernel
theorem d76_63 : decode (eb_b 76) 63 = .ok (.iload 4, 2) := by decide +kernel
theorem d76_65 : decode (eb_b 76) 65 = .ok (.ireturn, 1) := by decide +kernel
theorem d77_0 : decode (eb_b 77) 0 = .ok (.aload_n 0, 1) := by decide +kernel
theorem d77_1 : decode (eb_b 77) 1 = .ok (.iload_n 1, 1) := by decide +kernel
theorem d77_2 : decode (eb_b 77) 2 = .ok (.invokevirtual 123, 3) := by decide +kernel
theorem wc_131 : Cond.code (eb_y 131) (eb_b 131) (eb_ml 131) (eb_rt 131) ∈ eb_LT := eb_lt 433 (by decide +kernel)
theorem cy_131 : (eb_y 131).cls = eb_cN (eb_rc 131) ∧ (eb_y 131).cls ≠ "java/lang/invoke/MethodHandle" ∧ (eb_y 131).cls ≠ "java/lang/invoke/VarHandle" ∧ (parseMethodDescriptor (eb_y 131).desc).map (fun d => d.parameters.length) = some 1 := by decide +kernel
theorem wi_131 : Cond.instanceMethod (eb_y 131) ∈ eb_LT := eb_lt 432 (by decide +kernel)
theorem wse_131 : Cond.selects (eb_cN (eb_rc 131)) (eb_y 131) (eb_y 131) ∈ eb_LT := eb_lt 5 (by decide +kernel)
theorem kV_131 {L q0 m pc : Nat} {lg : Nat → Bool} {ix : Nat} (hw : Cond.methodLink (eb_own m) ix (eb_y 131) ∈ eb_LT) (hd : decode (eb_b m) pc = .ok (.invokevirtual ix, 3)) : eb_Snd L q0 m pc lg (op_call 131 2 (pc + 3)) := sn_callV false rfl (Or.inr ⟨rfl, _, rfl⟩) (by decide) rfl (by decide) ⟨⟨hw, wi_131, wse_131⟩, wc_131⟩ cy_131 hd
theorem wm_5_123 : Cond.methodLink (eb_cN 5) 123 (eb_y 131) ∈ eb_LT := eb_lt 430 (by decide +kernel)
theorem d77_5 : decode (eb_b 77) 5 = .ok (.ifCond .eq 31, 3) := by decide +kernel
theorem d77_8 : decode (eb_b 77) 8 = .ok (.iload_n 2, 1) := by decide +kernel
theorem d77_9 : decode (eb_b 77) 9 = .ok (.iconst 0, 1) := by decide +kernel
theorem d77_10 : decode (eb_b 77) 10 = .ok (.iconst 1, 1) := by decide +kernel
theorem d77_11 : decode (eb_b 77) 11 = .ok (.invokestatic 44, 3) := by decide +kernel
theorem d77_14 : decode (eb_b 77) 14 = .ok (.ifCond .eq 22, 3) := by decide +kernel
theorem d77_17 : decode (eb_b 77) 17 = .ok (.iload_n 3, 1) := by decide +kernel
theorem d77_18 : decode (eb_b 77) 18 = .ok (.iconst 0, 1) := by decide +kernel
theorem d77_19 : decode (eb_b 77) 19 = .ok (.iload_n 2, 1) := by decide +kernel
theorem d77_20 : decode (eb_b 77) 20 = .ok (.ifCond .ne 8, 3) := by decide +kernel
theorem d77_23 : decode (eb_b 77) 23 = .ok (.bipush 100, 2) := by decide +kernel
theorem d77_25 : decode (eb_b 77) 25 = .ok (.goto 5, 3) := by decide +kernel
theorem d77_28 : decode (eb_b 77) 28 = .ok (.bipush 99, 2) := by decide +kernel
theorem d77_30 : decode (eb_b 77) 30 = .ok (.invokestatic 44, 3) := by decide +kernel
theorem d77_33 : decode (eb_b 77) 33 = .ok (.ifCond .ne 10, 3) := by decide +kernel
theorem d77_36 : decode (eb_b 77) 36 = .ok (.aload_n 0, 1) := by decide +kernel
theorem d77_37 : decode (eb_b 77) 37 = .ok (.bipush (-2), 2) := by decide +kernel
theorem d77_39 : decode (eb_b 77) 39 = .ok (.invokevirtual 48, 3) := by decide +kernel
theorem d77_42 : decode (eb_b 77) 42 = .ok (.ireturn, 1) := by decide +kernel
theorem d77_43 : decode (eb_b 77) 43 = .ok (.aload_n 0, 1) := by decide +kernel
theorem d77_44 : decode (eb_b 77) 44 = .ok (.getfield 10, 3) := by decide +kernel
theorem d77_47 : decode (eb_b 77) 47 = .ok (.getfield 126, 3) := by decide +kernel
theorem wf_5_126 : Cond.fieldLink (eb_cN 5) 126 (eb_tT 4 0).1 (eb_tT 4 0).2.1 (eb_tT 4 0).2.2.1 ∈ eb_LT := eb_lt 198 (by decide +kernel)
theorem d77_50 : decode (eb_b 77) 50 = .ok (.iload_n 1, 1) := by decide +kernel
theorem d77_51 : decode (eb_b 77) 51 = .ok (.aaload, 1) := by decide +kernel
theorem d77_52 : decode (eb_b 77) 52 = .ok (.astore 4, 2) := by decide +kernel
theorem hn77_4 : 4 < eb_ml 77 := by decide
theorem d77_54 : decode (eb_b 77) 54 = .ok (.iload_n 2, 1) := by decide +kernel
theorem d77_55 : decode (eb_b 77) 55 = .ok (.ifCond .ne 11, 3) := by decide +kernel
theorem d77_58 : decode (eb_b 77) 58 = .ok (.aload 4, 2) := by decide +kernel
theorem d77_60 : decode (eb_b 77) 60 = .ok (.getfield 130, 3) := by decide +kernel
theorem wf_5_130 : Cond.fieldLink (eb_cN 5) 130 (eb_tT 1 0).1 (eb_tT 1 0).2.1 (eb_tT 1 0).2.2.1 ∈ eb_LT := eb_lt 116 (by decide +kernel)
theorem d77_63 : decode (eb_b 77) 63 = .ok (.goto 8, 3) := by decide +kernel
theorem d77_66 : decode (eb_b 77) 66 = .ok (.aload 4, 2) := by decide +kernel
theorem d77_68 : decode (eb_b 77) 68 = .ok (.getfield 135, 3) := by decide +kernel
theorem wf_5_135 : Cond.fieldLink (eb_cN 5) 135 (eb_tT 1 3).1 (eb_tT 1 3).2.1 (eb_tT 1 3).2.2.1 ∈ eb_LT := eb_lt 124 (by decide +kernel)
theorem d77_71 : decode (eb_b 77) 71 = .ok (.istore 5, 2) := by decide +kernel
theorem hn77_5 : 5 < eb_ml 77 := by decide
theorem d77_73 : decode (eb_b 77) 73 = .ok (.iload_n 2, 1) := by decide +kernel
theorem d77_74 : decode (eb_b 77) 74 = .ok (.ifCond .ne 12, 3) := by decide +kernel
theorem d77_77 : decode (eb_b 77) 77 = .ok (.aload 4, 2) := by decide +kernel
theorem d77_79 : decode (eb_b 77) 79 = .ok (.iload_n 3, 1) := by decide +kernel
theorem d77_80 : decode (eb_b 77) 80 = .ok (.putfield 130, 3) := by decide +kernel
theorem d77_83 : decode (eb_b 77) 83 = .ok (.goto 9, 3) := by decide +kernel
theorem d77_86 : decode (eb_b 77) 86 = .ok (.aload 4, 2) := by decide +kernel
theorem d77_88 : decode (eb_b 77) 88 = .ok (.iload_n 3, 1) := by decide +kernel
theorem d77_89 : decode (eb_b 77) 89 = .ok (.putfield 135, 3) := by decide +kernel
theorem d77_92 : decode (eb_b 77) 92 = .ok (.iload 5, 2) := by decide +kernel
theorem d77_94 : decode (eb_b 77) 94 = .ok (.ireturn, 1) := by decide +kernel
theorem d78_0 : decode (eb_b 78) 0 = .ok (.aload_n 0, 1) := by decide +kernel
theorem d78_1 : decode (eb_b 78) 1 = .ok (.iload_n 1, 1) := by decide +kernel
theorem d78_2 : decode (eb_b 78) 2 = .ok (.invokevirtual 123, 3) := by decide +kernel
theorem d78_5 : decode (eb_b 78) 5 = .ok (.ifCond .eq 15, 3) := by decide +kernel
theorem d78_8 : decode (eb_b 78) 8 = .ok (.iload_n 2, 1) := by decide +kernel
theorem d78_9 : decode (eb_b 78) 9 = .ok (.iconst (-1), 1) := by decide +kernel
theorem d78_10 : decode (eb_b 78) 10 = .ok (.if_icmp .eq 17, 3) := by decide +kernel
theorem d78_13 : decode (eb_b 78) 13 = .ok (.iload_n 2, 1) := by decide +kernel
theorem d78_14 : decode (eb_b 78) 14 = .ok (.invokestatic 113, 3) := by decide +kernel
theorem d78_17 : decode (eb_b 78) 17 = .ok (.ifCond .ne 10, 3) := by decide +kernel
theorem d78_20 : decode (eb_b 78) 20 = .ok (.aload_n 0, 1) := by decide +kernel
theorem d78_21 : decode (eb_b 78) 21 = .ok (.bipush (-2), 2) := by decide +kernel
theorem d78_23 : decode (eb_b 78) 23 = .ok (.invokevirtual 48, 3) := by decide +kernel
theorem d78_26 : decode (eb_b 78) 26 = .ok (.ireturn, 1) := by decide +kernel
theorem d78_27 : decode (eb_b 78) 27 = .ok (.aload_n 0, 1) := by decide +kernel
theorem d78_28 : decode (eb_b 78) 28 = .ok (.getfield 10, 3) := by decide +kernel
theorem d78_31 : decode (eb_b 78) 31 = .ok (.getfield 126, 3) := by decide +kernel
theorem d78_34 : decode (eb_b 78) 34 = .ok (.iload_n 1, 1) := by decide +kernel
theorem d78_35 : decode (eb_b 78) 35 = .ok (.aaload, 1) := by decide +kernel
theorem d78_36 : decode (eb_b 78) 36 = .ok (.getfield 138, 3) := by decide +kernel
theorem wf_5_138 : Cond.fieldLink (eb_cN 5) 138 (eb_tT 1 4).1 (eb_tT 1 4).2.1 (eb_tT 1 4).2.2.1 ∈ eb_LT := eb_lt 128 (by decide +kernel)
theorem d78_39 : decode (eb_b 78) 39 = .ok (.istore_n 3, 1) := by decide +kernel
theorem hn78_3 : 3 < eb_ml 78 := by decide
theorem d78_40 : decode (eb_b 78) 40 = .ok (.aload_n 0, 1) := by decide +kernel
theorem d78_41 : decode (eb_b 78) 41 = .ok (.getfield 10, 3) := by decide +kernel
theorem d78_44 : decode (eb_b 78) 44 = .ok (.getfield 126, 3) := by decide +kernel
theorem d78_47 : decode (eb_b 78) 47 = .ok (.iload_n 1, 1) := by decide +kernel
theorem d78_48 : decode (eb_b 78) 48 = .ok (.aaload, 1) := by decide +kernel
theorem d78_49 : decode (eb_b 78) 49 = .ok (.iload_n 2, 1) := by decide +kernel
theorem d78_50 : decode (eb_b 78) 50 = .ok (.putfield 138, 3) := by decide +kernel
theorem d78_53 : decode (eb_b 78) 53 = .ok (.iload_n 3, 1) := by decide +kernel
theorem d78_54 : decode (eb_b 78) 54 = .ok (.ireturn, 1) := by decide +kernel
theorem d79_0 : decode (eb_b 79) 0 = .ok (.aload_n 0, 1) := by decide +kernel
theorem d79_1 : decode (eb_b 79) 1 = .ok (.iload_n 1, 1) := by decide +kernel
theorem d79_2 : decode (eb_b 79) 2 = .ok (.invokevirtual 141, 3) := by decide +kernel
theorem wc_134 : Cond.code (eb_y 134) (eb_b 134) (eb_ml 134) (eb_rt 134) ∈ eb_LT := eb_lt 445 (by decide +kernel)
theorem cy_134 : (eb_y 134).cls = eb_cN (eb_rc 134) ∧ (eb_y 134).cls ≠ "java/lang/invoke/MethodHandle" ∧ (eb_y 134).cls ≠ "java/lang/invoke/VarHandle" ∧ (parseMethodDescriptor (eb_y 134).desc).map (fun d => d.parameters.length) = some 1 := by decide +kernel
theorem wi_134 : Cond.instanceMethod (eb_y 134) ∈ eb_LT := eb_lt 444 (by decide +kernel)
theorem wse_134 : Cond.selects (eb_cN (eb_rc 134)) (eb_y 134) (eb_y 134) ∈ eb_LT := eb_lt 6 (by decide +kernel)
theorem kV_134 {L q0 m pc : Nat} {lg : Nat → Bool} {ix : Nat} (hw : Cond.methodLink (eb_own m) ix (eb_y 134) ∈ eb_LT) (hd : decode (eb_b m) pc = .ok (.invokevirtual ix, 3)) : eb_Snd L q0 m pc lg (op_call 134 2 (pc + 3)) := sn_callV false rfl (Or.inr ⟨rfl, _, rfl⟩) (by decide) rfl (by decide) ⟨⟨hw, wi_134, wse_134⟩, wc_134⟩ cy_134 hd
theorem wm_5_141 : Cond.methodLink (eb_cN 5) 141 (eb_y 134) ∈ eb_LT := eb_lt 442 (by decide +kernel)
theorem d79_5 : decode (eb_b 79) 5 = .ok (.ifCond .eq 14, 3) := by decide +kernel
theorem d79_8 : decode (eb_b 79) 8 = .ok (.aload_n 0, 1) := by decide +kernel
theorem d79_9 : decode (eb_b 79) 9 = .ok (.getfield 10, 3) := by decide +kernel
theorem d79_12 : decode (eb_b 79) 12 = .ok (.iload_n 1, 1) := by decide +kernel
theorem d79_13 : decode (eb_b 79) 13 = .ok (.invokevirtual 144, 3) := by decide +kernel
theorem wm_5_144 : Cond.methodLink (eb_cN 5) 144 (eb_y 42) ∈ eb_LT := eb_lt 446 (by decide +kernel)
theorem d79_16 : decode (eb_b 79) 16 = .ok (.goto 9, 3) := by decide +kernel
theorem d79_19 : decode (eb_b 79) 19 = .ok (.aload_n 0, 1) := by decide +kernel
theorem d79_20 : decode (eb_b 79) 20 = .ok (.bipush (-2), 2) := by decide +kernel
theorem d79_22 : decode (eb_b 79) 22 = .ok (.invokevirtual 48, 3) := by decide +kernel
theorem d79_25 : decode (eb_b 79) 25 = .ok (.ireturn, 1) := by decide +kernel
theorem d80_0 : decode (eb_b 80) 0 = .ok (.aload_n 0, 1) := by decide +kernel
theorem d80_1 : decode (eb_b 80) 1 = .ok (.iload_n 1, 1) := by decide +kernel
theorem d80_2 : decode (eb_b 80) 2 = .ok (.invokevirtual 123, 3) := by decide +kernel
theorem d80_5 : decode (eb_b 80) 5 = .ok (.ifCond .eq 10, 3) := by decide +kernel
theorem d80_8 : decode (eb_b 80) 8 = .ok (.iload_n 2, 1) := by decide +kernel
theorem d80_9 : decode (eb_b 80) 9 = .ok (.invokestatic 113, 3) := by decide +kernel
theorem d80_12 : decode (eb_b 80) 12 = .ok (.ifCond .ne 10, 3) := by decide +kernel
theorem d80_15 : decode (eb_b 80) 15 = .ok (.aload_n 0, 1) := by decide +kernel
theorem d80_16 : decode (eb_b 80) 16 = .ok (.bipush (-2), 2) := by decide +kernel
theorem d80_18 : decode (eb_b 80) 18 = .ok (.invokevirtual 48, 3) := by decide +kernel
theorem d80_21 : decode (eb_b 80) 21 = .ok (.ireturn, 1) := by decide +kernel
theorem d80_22 : decode (eb_b 80) 22 = .ok (.aload_n 0, 1) := by decide +kernel
theorem d80_23 : decode (eb_b 80) 23 = .ok (.getfield 10, 3) := by decide +kernel
theorem d80_26 : decode (eb_b 80) 26 = .ok (.getfield 126, 3) := by decide +kernel
theorem d80_29 : decode (eb_b 80) 29 = .ok (.iload_n 1, 1) := by decide +kernel
theorem d80_30 : decode (eb_b 80) 30 = .ok (.aaload, 1) := by decide +kernel
theorem d80_31 : decode (eb_b 80) 31 = .ok (.iload_n 2, 1) := by decide +kernel
theorem d80_32 : decode (eb_b 80) 32 = .ok (.invokevirtual 147, 3) := by decide +kernel
theorem wm_5_147 : Cond.methodLink (eb_cN 5) 147 (eb_y 10) ∈ eb_LT := eb_lt 454 (by decide +kernel)
theorem d80_35 : decode (eb_b 80) 35 = .ok (.ifCond .eq 18, 3) := by decide +kernel
theorem d80_38 : decode (eb_b 80) 38 = .ok (.aload_n 0, 1) := by decide +kernel
theorem d80_39 : decode (eb_b 80) 39 = .ok (.getfield 10, 3) := by decide +kernel
theorem d80_42 : decode (eb_b 80) 42 = .ok (.getfield 126, 3) := by decide +kernel
theorem d80_45 : decode (eb_b 80) 45 = .ok (.iload_n 1, 1) := by decide +kernel
theorem d80_46 : decode (eb_b 80) 46 = .ok (.aaload, 1) := by decide +kernel
theorem d80_47 : decode (eb_b 80) 47 = .ok (.getfield 150, 3) := by decide +kernel
theorem wf_5_150 : Cond.fieldLink (eb_cN 5) 150 (eb_tT 1 5).1 (eb_tT 1 5).2.1 (eb_tT 1 5).2.2.1 ∈ eb_LT := eb_lt 131 (by decide +kernel)
theorem d80_50 : decode (eb_b 80) 50 = .ok (.goto 9, 3) := by decide +kernel
theorem d80_53 : decode (eb_b 80) 53 = .ok (.aload_n 0, 1) := by decide +kernel
theorem d80_54 : decode (eb_b 80) 54 = .ok (.bipush (-6), 2) := by decide +kernel
theorem d80_56 : decode (eb_b 80) 56 = .ok (.invokevirtual 48, 3) := by decide +kernel
theorem d80_59 : decode (eb_b 80) 59 = .ok (.ireturn, 1) := by decide +kernel
theorem d81_0 : decode (eb_b 81) 0 = .ok (.iload_n 1, 1) := by decide +kernel
theorem d81_1 : decode (eb_b 81) 1 = .ok (.iconst 0, 1) := by decide +kernel
theorem d81_2 : decode (eb_b 81) 2 = .ok (.bipush 99, 2) := by decide +kernel
theorem d81_4 : decode (eb_b 81) 4 = .ok (.invokestatic 44, 3) := by decide +kernel
theorem d81_7 : decode (eb_b 81) 7 = .ok (.ifCond .ne 10, 3) := by decide +kernel
theorem d81_10 : decode (eb_b 81) 10 = .ok (.aload_n 0, 1) := by decide +kernel
theorem d81_11 : decode (eb_b 81) 11 = .ok (.bipush (-2), 2) := by decide +kernel
theorem d81_13 : decode (eb_b 81) 13 = .ok (.invokevirtual 48, 3) := by decide +kernel
theorem d81_16 : decode (eb_b 81) 16 = .ok (.ireturn, 1) := by decide +kernel
theorem d81_17 : decode (eb_b 81) 17 = .ok (.aload_n 0, 1) := by decide +kernel
theorem d81_18 : decode (eb_b 81) 18 = .ok (.getfield 10, 3) := by decide +kernel
theorem d81_21 : decode (eb_b 81) 21 = .ok (.getfield 153, 3) := by decide +kernel
theorem wf_5_153 : Cond.fieldLink (eb_cN 5) 153 (eb_tT 4 4).1 (eb_tT 4 4).2.1 (eb_tT 4 4).2.2.1 ∈ eb_LT := eb_lt 209 (by decide +kernel)
theorem d81_24 : decode (eb_b 81) 24 = .ok (.istore_n 2, 1) := by decide +kernel
theorem hn81_2 : 2 < eb_ml 81 := by decide
theorem d81_25 : decode (eb_b 81) 25 = .ok (.aload_n 0, 1) := by decide +kernel
theorem d81_26 : decode (eb_b 81) 26 = .ok (.getfield 10, 3) := by decide +kernel
theorem d81_29 : decode (eb_b 81) 29 = .ok (.iload_n 1, 1) := by decide +kernel
theorem d81_30 : decode (eb_b 81) 30 = .ok (.putfield 153, 3) := by decide +kernel
theorem d81_33 : decode (eb_b 81) 33 = .ok (.iload_n 2, 1) := by decide +kernel
theorem d81_34 : decode (eb_b 81) 34 = .ok (.ireturn, 1) := by decide +kernel
theorem d82_0 : decode (eb_b 82) 0 = .ok (.aload_n 0, 1) := by decide +kernel
theorem d82_1 : decode (eb_b 82) 1 = .ok (.iload_n 1, 1) := by decide +kernel
theorem d82_2 : decode (eb_b 82) 2 = .ok (.invokevirtual 94, 3) := by decide +kernel
theorem d82_5 : decode (eb_b 82) 5 = .ok (.ifCond .eq 13, 3) := by decide +kernel
theorem d82_8 : decode (eb_b 82) 8 = .ok (.iload_n 2, 1) := by decide +kernel
theorem d82_9 : decode (eb_b 82) 9 = .ok (.iconst 1, 1) := by decide +kernel
theorem d82_10 : decode (eb_b 82) 10 = .ok (.bipush 30, 2) := by decide +kernel
theorem d82_12 : decode (eb_b 82) 12 = .ok (.invokestatic 44, 3) := by decide +kernel
theorem d82_15 : decode (eb_b 82) 15 = .ok (.ifCond .ne 10, 3) := by decide +kernel
theorem d82_18 : decode (eb_b 82) 18 = .ok (.aload_n 0, 1) := by decide +kernel
theorem d82_19 : decode (eb_b 82) 19 = .ok (.bipush (-2), 2) := by decide +kernel
theorem d82_21 : decode (eb_b 82) 21 = .ok (.invokevirtual 48, 3) := by decide +kernel
theorem d82_24 : decode (eb_b 82) 24 = .ok (.ireturn, 1) := by decide +kernel
theorem d82_25 : decode (eb_b 82) 25 = .ok (.aload_n 0, 1) := by decide +kernel
theorem d82_26 : decode (eb_b 82) 26 = .ok (.getfield 10, 3) := by decide +kernel
theorem d82_29 : decode (eb_b 82) 29 = .ok (.getfield 97, 3) := by decide +kernel
theorem d82_32 : decode (eb_b 82) 32 = .ok (.iload_n 1, 1) := by decide +kernel
theorem d82_33 : decode (eb_b 82) 33 = .ok (.aaload, 1) := by decide +kernel
theorem d82_34 : decode (eb_b 82) 34 = .ok (.getfield 106, 3) := by decide +kernel
theorem d82_37 : decode (eb_b 82) 37 = .ok (.istore_n 3, 1) := by decide +kernel
theorem hn82_3 : 3 < eb_ml 82 := by decide
theorem d82_38 : decode (eb_b 82) 38 = .ok (.aload_n 0, 1) := by decide +kernel
theorem d82_39 : decode (eb_b 82) 39 = .ok (.getfield 10, 3) := by decide +kernel
theorem d82_42 : decode (eb_b 82) 42 = .ok (.getfield 97, 3) := by decide +kernel
theorem d82_45 : decode (eb_b 82) 45 = .ok (.iload_n 1, 1) := by decide +kernel
theorem d82_46 : decode (eb_b 82) 46 = .ok (.aaload, 1) := by decide +kernel
theorem d82_47 : decode (eb_b 82) 47 = .ok (.iload_n 2, 1) := by decide +kernel
theorem d82_48 : decode (eb_b 82) 48 = .ok (.putfield 106, 3) := by decide +kernel
theorem d82_51 : decode (eb_b 82) 51 = .ok (.iload_n 3, 1) := by decide +kernel
theorem d82_52 : decode (eb_b 82) 52 = .ok (.ireturn, 1) := by decide +kernel
theorem d83_0 : decode (eb_b 83) 0 = .ok (.iload_n 1, 1) := by decide +kernel
theorem d83_1 : decode (eb_b 83) 1 = .ok (.iconst 0, 1) := by decide +kernel
theorem d83_2 : decode (eb_b 83) 2 = .ok (.sipush 255, 3) := by decide +kernel
theorem d83_5 : decode (eb_b 83) 5 = .ok (.invokestatic 44, 3) := by decide +kernel
theorem d83_8 : decode (eb_b 83) 8 = .ok (.ifCond .ne 10, 3) := by decide +kernel
theorem d83_11 : decode (eb_b 83) 11 = .ok (.aload_n 0, 1) := by decide +kernel
theorem d83_12 : decode (eb_b 83) 12 = .ok (.bipush (-2), 2) := by decide +kernel
theorem d83_14 : decode (eb_b 83) 14 = .ok (.invokevirtual 48, 3) := by decide +kernel
theorem d83_17 : decode (eb_b 83) 17 = .ok (.ireturn, 1) := by decide +kernel
theorem d83_18 : decode (eb_b 83) 18 = .ok (.aload_n 0, 1) := by decide +kernel
theorem d83_19 : decode (eb_b 83) 19 = .ok (.getfield 31, 3) := by decide +kernel
theorem d83_22 : decode (eb_b 83) 22 = .ok (.iload_n 1, 1) := by decide +kernel
theorem d83_23 : decode (eb_b 83) 23 = .ok (.invokevirtual 156, 3) := by decide +kernel
theorem wc_24 : Cond.code (eb_y 24) (eb_b 24) (eb_ml 24) (eb_rt 24) ∈ eb_LT := eb_lt 477 (by decide +kernel)
theorem cy_24 : (eb_y 24).cls = eb_cN (eb_rc 24) ∧ (eb_y 24).cls ≠ "java/lang/invoke/MethodHandle" ∧ (eb_y 24).cls ≠ "java/lang/invoke/VarHandle" ∧ (parseMethodDescriptor (eb_y 24).desc).map (fun d => d.parameters.length) = some 1 := by decide +kernel
theorem wi_24 : Cond.instanceMethod (eb_y 24) ∈ eb_LT := eb_lt 475 (by decide +kernel)
theorem wse_24 : Cond.selects (eb_cN (eb_rc 24)) (eb_y 24) (eb_y 24) ∈ eb_LT := eb_lt 476 (by decide +kernel)
theorem kV_24 {L q0 m pc : Nat} {lg : Nat → Bool} {ix : Nat} (hw : Cond.methodLink (eb_own m) ix (eb_y 24) ∈ eb_LT) (hd : decode (eb_b m) pc = .ok (.invokevirtual ix, 3)) : eb_Snd L q0 m pc lg (op_call 24 2 (pc + 3)) := sn_callV false rfl (Or.inr ⟨rfl, _, rfl⟩) (by decide) rfl (by decide) ⟨⟨hw, wi_24, wse_24⟩, wc_24⟩ cy_24 hd
theorem wm_5_156 : Cond.methodLink (eb_cN 5) 156 (eb_y 24) ∈ eb_LT := eb_lt 474 (by decide +kernel)
theorem d83_26 : decode (eb_b 83) 26 = .ok (.ifCond .eq 13, 3) := by decide +kernel
theorem d83_29 : decode (eb_b 83) 29 = .ok (.aload_n 0, 1) := by decide +kernel
theorem d83_30 : decode (eb_b 83) 30 = .ok (.getfield 31, 3) := by decide +kernel
theorem d83_33 : decode (eb_b 83) 33 = .ok (.getfield 159, 3) := by decide +kernel
theorem wf_5_159 : Cond.fieldLink (eb_cN 5) 159 (eb_tT 3 1).1 (eb_tT 3 1).2.1 (eb_tT 3 1).2.2.1 ∈ eb_LT := eb_lt 245 (by decide +kernel)
theorem d83_36 : decode (eb_b 83) 36 = .ok (.goto 9, 3) := by decide +kernel
theorem d83_39 : decode (eb_b 83) 39 = .ok (.aload_n 0, 1) := by decide +kernel
theorem d83_40 : decode (eb_b 83) 40 = .ok (.bipush (-6), 2) := by decide +kernel
theorem d83_42 : decode (eb_b 83) 42 = .ok (.invokevirtual 48, 3) := by decide +kernel
theorem d83_45 : decode (eb_b 83) 45 = .ok (.ireturn, 1) := by decide +kernel
theorem d84_0 : decode (eb_b 84) 0 = .ok (.aload_n 0, 1) := by decide +kernel
theorem d84_1 : decode (eb_b 84) 1 = .ok (.getfield 31, 3) := by decide +kernel
theorem d84_4 : decode (eb_b 84) 4 = .ok (.getfield 159, 3) := by decide +kernel
theorem d84_7 : decode (eb_b 84) 7 = .ok (.istore_n 1, 1) := by decide +kernel
theorem hn84_1 : 1 < eb_ml 84 := by decide
theorem d84_8 : decode (eb_b 84) 8 = .ok (.aload_n 0, 1) := by decide +kernel
theorem d84_9 : decode (eb_b 84) 9 = .ok (.getfield 31, 3) := by decide +kernel
theorem d84_12 : decode (eb_b 84) 12 = .ok (.iconst 0, 1) := by decide +kernel
theorem d84_13 : decode (eb_b 84) 13 = .ok (.putfield 159, 3) := by decide +kernel
theorem d84_16 : decode (eb_b 84) 16 = .ok (.iload_n 1, 1) := by decide +kernel
theorem d84_17 : decode (eb_b 84) 17 = .ok (.ireturn, 1) := by decide +kernel
theorem d85_0 : decode (eb_b 85) 0 = .ok (.aload_n 0, 1) := by decide +kernel
theorem d85_1 : decode (eb_b 85) 1 = .ok (.getfield 31, 3) := by decide +kernel
theorem d85_4 : decode (eb_b 85) 4 = .ok (.aload_n 0, 1) := by decide +kernel
theorem d85_5 : decode (eb_b 85) 5 = .ok (.invokevirtual 160, 3) := by decide +kernel
theorem wc_138 : Cond.code (eb_y 138) (eb_b 138) (eb_ml 138) (eb_rt 138) ∈ eb_LT := eb_lt 489 (by decide +kernel)
theorem cy_138 : (eb_y 138).cls = eb_cN (eb_rc 138) ∧ (eb_y 138).cls ≠ "java/lang/invoke/MethodHandle" ∧ (eb_y 138).cls ≠ "java/lang/invoke/VarHandle" ∧ (parseMethodDescriptor (eb_y 138).desc).map (fun d => d.parameters.length) = some 0 := by decide +kernel
theorem wi_138 : Cond.instanceMethod (eb_y 138) ∈ eb_LT := eb_lt 488 (by decide +kernel)
theorem wse_138 : Cond.selects (eb_cN (eb_rc 138)) (eb_y 138) (eb_y 138) ∈ eb_LT := eb_lt 7 (by decide +kernel)
theorem kV_138 {L q0 m pc : Nat} {lg : Nat → Bool} {ix : Nat} (hw : Cond.methodLink (eb_own m) ix (eb_y 138) ∈ eb_LT) (hd : decode (eb_b m) pc = .ok (.invokevirtual ix, 3)) : eb_Snd L q0 m pc lg (op_call 138 1 (pc + 3)) := sn_callV false rfl (Or.inr ⟨rfl, _, rfl⟩) (by decide) rfl (by decide) ⟨⟨hw, wi_138, wse_138⟩, wc_138⟩ cy_138 hd
theorem wm_5_160 : Cond.methodLink (eb_cN 5) 160 (eb_y 138) ∈ eb_LT := eb_lt 486 (by decide +kernel)
theorem d85_8 : decode (eb_b 85) 8 = .ok (.invokevirtual 164, 3) := by decide +kernel
theorem wc_25 : Cond.code (eb_y 25) (eb_b 25) (eb_ml 25) (eb_rt 25) ∈ eb_LT := eb_lt 501 (by decide +kernel)
theorem cy_25 : (eb_y 25).cls = eb_cN (eb_rc 25) ∧ (eb_y 25).cls ≠ "java/lang/invoke/MethodHandle" ∧ (eb_y 25).cls ≠ "java/lang/invoke/VarHandle" ∧ (parseMethodDescriptor (eb_y 25).desc).map (fun d => d.parameters.length) = some 1 := by decide +kernel
theorem wi_25 : Cond.instanceMethod (eb_y 25) ∈ eb_LT := eb_lt 499 (by decide +kernel)
theorem wse_25 : Cond.selects (eb_cN (eb_rc 25)) (eb_y 25) (eb_y 25) ∈ eb_LT := eb_lt 500 (by decide +kernel)
theorem kV_25 {L q0 m pc : Nat} {lg : Nat → Bool} {ix : Nat} (hw : Cond.methodLink (eb_own m) ix (eb_y 25) ∈ eb_LT) (hd : decode (eb_b m) pc = .ok (.invokevirtual ix, 3)) : eb_Snd L q0 m pc lg (op_call 25 2 (pc + 3)) := sn_callV false rfl (Or.inr ⟨rfl, _, rfl⟩) (by decide) rfl (by decide) ⟨⟨hw, wi_25, wse_25⟩, wc_25⟩ cy_25 hd
theorem wm_5_164 : Cond.methodLink (eb_cN 5) 164 (eb_y 25) ∈ eb_LT := eb_lt 498 (by decide +kernel)
theorem d85_11 : decode (eb_b 85) 11 = .ok (.istore_n 1, 1) := by decide +kernel
theorem hn85_1 : 1 < eb_ml 85 := by decide
theorem d85_12 : decode (eb_b 85) 12 = .ok (.aload_n 0, 1) := by decide +kernel
theorem d85_13 : decode (eb_b 85) 13 = .ok (.getfield 31, 3) := by decide +kernel
theorem d85_16 : decode (eb_b 85) 16 = .ok (.iconst 0, 1) := by decide +kernel
theorem d85_17 : decode (eb_b 85) 17 = .ok (.putfield 159, 3) := by decide +kernel
theorem d85_20 : decode (eb_b 85) 20 = .ok (.iload_n 1, 1) := by decide +kernel
theorem d85_21 : decode (eb_b 85) 21 = .ok (.iconst (-1), 1) := by decide +kernel
theorem d85_22 : decode (eb_b 85) 22 = .ok (.if_icmp .ne 21, 3) := by decide +kernel
theorem d85_25 : decode (eb_b 85) 25 = .ok (.aload_n 0, 1) := by decide +kernel
theorem d85_26 : decode (eb_b 85) 26 = .ok (.bipush (-2), 2) := by decide +kernel
theorem d85_28 : decode (eb_b 85) 28 = .ok (.invokevirtual 48, 3) := by decide +kernel
theorem d85_31 : decode (eb_b 85) 31 = .ok (.pop, 1) := by decide +kernel
theorem d85_32 : decode (eb_b 85) 32 = .ok (.bipush (-20), 2) := by decide +kernel
theorem d85_34 : decode (eb_b 85) 34 = .ok (.aload_n 0, 1) := by decide +kernel
theorem d85_35 : decode (eb_b 85) 35 = .ok (.getfield 31, 3) := by decide +kernel
theorem d85_38 : decode (eb_b 85) 38 = .ok (.getfield 168, 3) := by decide +kernel
theorem wf_5_168 : Cond.fieldLink (eb_cN 5) 168 (eb_tT 3 2).1 (eb_tT 3 2).2.1 (eb_tT 3 2).2.2.1 ∈ eb_LT := eb_lt 247 (by decide +kernel)
theorem d85_41 : decode (eb_b 85) 41 = .ok (.isub, 1) := by decide +kernel
theorem d85_42 : decode (eb_b 85) 42 = .ok (.ireturn, 1) := by decide +kernel
theorem d85_43 : decode (eb_b 85) 43 = .ok (.aload_n 0, 1) := by decide +kernel
theorem d85_44 : decode (eb_b 85) 44 = .ok (.getfield 10, 3) := by decide +kernel
theorem d85_47 : decode (eb_b 85) 47 = .ok (.aload_n 0, 1) := by decide +kernel
theorem d85_48 : decode (eb_b 85) 48 = .ok (.getfield 16, 3) := by decide +kernel
theorem d85_51 : decode (eb_b 85) 51 = .ok (.invokevirtual 171, 3) := by decide +kernel
theorem wc_39 : Cond.code (eb_y 39) (eb_b 39) (eb_ml 39) (eb_rt 39) ∈ eb_LT := eb_lt 493 (by decide +kernel)
theorem cy_39 : (eb_y 39).cls = eb_cN (eb_rc 39) ∧ (eb_y 39).cls ≠ "java/lang/invoke/MethodHandle" ∧ (eb_y 39).cls ≠ "java/lang/invoke/VarHandle" ∧ (parseMethodDescriptor (eb_y 39).desc).map (fun d => d.parameters.length) = some 1 := by decide +kernel
theorem wi_39 : Cond.instanceMethod (eb_y 39) ∈ eb_LT := eb_lt 491 (by decide +kernel)
theorem wse_39 : Cond.selects (eb_cN (eb_rc 39)) (eb_y 39) (eb_y 39) ∈ eb_LT := eb_lt 492 (by decide +kernel)
theorem kV_39 {L q0 m pc : Nat} {lg : Nat → Bool} {ix : Nat} (hw : Cond.methodLink (eb_own m) ix (eb_y 39) ∈ eb_LT) (hd : decode (eb_b m) pc = .ok (.invokevirtual ix, 3)) : eb_Snd L q0 m pc lg (op_callv 39 2 (pc + 3)) := sn_callV true rfl (Or.inl ⟨rfl, rfl⟩) (by decide) rfl (by decide) ⟨⟨hw, wi_39, wse_39⟩, wc_39⟩ cy_39 hd
theorem wm_5_171 : Cond.methodLink (eb_cN 5) 171 (eb_y 39) ∈ eb_LT := eb_lt 490 (by decide +kernel)
theorem d85_54 : decode (eb_b 85) 54 = .ok (.iload_n 1, 1) := by decide +kernel
theorem d85_55 : decode (eb_b 85) 55 = .ok (.ireturn, 1) := by decide +kernel
theorem d86_0 : decode (eb_b 86) 0 = .ok (.aload_n 0, 1) := by decide +kernel
theorem d86_1 : decode (eb_b 86) 1 = .ok (.iload_n 1, 1) := by decide +kernel
theorem d86_2 : decode (eb_b 86) 2 = .ok (.invokevirtual 123, 3) := by decide +kernel
theorem d86_5 : decode (eb_b 86) 5 = .ok (.ifCond .ne 10, 3) := by decide +kernel
theorem d86_8 : decode (eb_b 86) 8 = .ok (.aload_n 0, 1) := by decide +kernel
theorem d86_9 : decode (eb_b 86) 9 = .ok (.bipush (-2), 2) := by decide +kernel
theorem d86_11 : decode (eb_b 86) 11 = .ok (.invokevirtual 48, 3) := by decide +kernel
theorem d86_14 : decode (eb_b 86) 14 = .ok (.ireturn, 1) := by decide +kernel
theorem d86_15 : decode (eb_b 86) 15 = .ok (.aload_n 0, 1) := by decide +kernel
theorem d86_16 : decode (eb_b 86) 16 = .ok (.getfield 10, 3) := by decide +kernel
theorem d86_19 : decode (eb_b 86) 19 = .ok (.getfield 126, 3) := by decide +kernel
theorem d86_22 : decode (eb_b 86) 22 = .ok (.iload_n 1, 1) := by decide +kernel
theorem d86_23 : decode (eb_b 86) 23 = .ok (.aaload, 1) := by decide +kernel
theorem d86_24 : decode (eb_b 86) 24 = .ok (.astore_n 3, 1) := by decide +kernel
theorem hn86_3 : 3 < eb_ml 86 := by decide
theorem d86_25 : decode (eb_b 86) 25 = .ok (.iload_n 2, 1) := by decide +kernel
theorem d86_26 : decode (eb_b 86) 26 = .ok (.tableswitch 77 0 6 #[42, 47, 52, 57, 62, 67, 72], 42) := by decide +kernel
theorem d86_68 : decode (eb_b 86) 68 = .ok (.aload_n 3, 1) := by decide +kernel
theorem d86_69 : decode (eb_b 86) 69 = .ok (.getfield 130, 3) := by decide +kernel
theorem d86_72 : decode (eb_b 86) 72 = .ok (.ireturn, 1) := by decide +kernel
theorem d86_73 : decode (eb_b 86) 73 = .ok (.aload_n 3, 1) := by decide +kernel
theorem d86_74 : decode (eb_b 86) 74 = .ok (.getfield 175, 3) := by decide +kernel
theorem wf_5_175 : Cond.fieldLink (eb_cN 5) 175 (eb_tT 1 1).1 (eb_tT 1 1).2.1 (eb_tT 1 1).2.2.1 ∈ eb_LT := eb_lt 118 (by decide +kernel)
theorem d86_77 : decode (eb_b 86) 77 = .ok (.ireturn, 1) := by decide +kernel
theorem d86_78 : decode (eb_b 86) 78 = .ok (.aload_n 3, 1) := by decide +kernel
theorem d86_79 : decode (eb_b 86) 79 = .ok (.getfield 178, 3) := by decide +kernel
theorem wf_5_178 : Cond.fieldLink (eb_cN 5) 178 (eb_tT 1 2).1 (eb_tT 1 2).2.1 (eb_tT 1 2).2.2.1 ∈ eb_LT := eb_lt 121 (by decide +kernel)
theorem d86_82 : decode (eb_b 86) 82 = .ok (.ireturn, 1) := by decide +kernel
theorem d86_83 : decode (eb_b 86) 83 = .ok (.aload_n 3, 1) := by decide +kernel
theorem d86_84 : decode (eb_b 86) 84 = .ok (.getfield 135, 3) := by decide +kernel
theorem d86_87 : decode (eb_b 86) 87 = .ok (.ireturn, 1) := by decide +kernel
theorem d86_88 : decode (eb_b 86) 88 = .ok (.aload_n 3, 1) := by decide +kernel
theorem d86_89 : decode (eb_b 86) 89 = .ok (.getfield 138, 3) := by decide +kernel
theorem d86_92 : decode (eb_b 86) 92 = .ok (.ireturn, 1) := by decide +kernel
theorem d86_93 : decode (eb_b 86) 93 = .ok (.aload_n 3, 1) := by decide +kernel
theorem d86_94 : decode (eb_b 86) 94 = .ok (.getfield 150, 3) := by decide +kernel
theorem d86_97 : decode (eb_b 86) 97 = .ok (.ireturn, 1) := by decide +kernel
theorem d86_98 : decode (eb_b 86) 98 = .ok (.aload_n 3, 1) := by decide +kernel
theorem d86_99 : decode (eb_b 86) 99 = .ok (.getfield 181, 3) := by decide +kernel
theorem wf_5_181 : Cond.fieldLink (eb_cN 5) 181 (eb_tT 1 6).1 (eb_tT 1 6).2.1 (eb_tT 1 6).2.2.1 ∈ eb_LT := eb_lt 134 (by decide +kernel)
theorem d86_102 : decode (eb_b 86) 102 = .ok (.ireturn, 1) := by decide +kernel
theorem d86_103 : decode (eb_b 86) 103 = .ok (.aload_n 0, 1) := by decide +kernel
theorem d86_104 : decode (eb_b 86) 104 = .ok (.bipush (-2), 2) := by decide +kernel
theorem d86_106 : decode (eb_b 86) 106 = .ok (.invokevirtual 48, 3) := by decide +kernel
theorem d86_109 : decode (eb_b 86) 109 = .ok (.ireturn, 1) := by decide +kernel
theorem d87_0 : decode (eb_b 87) 0 = .ok (.aload_n 0, 1) := by decide +kernel
theorem d87_1 : decode (eb_b 87) 1 = .ok (.iload_n 1, 1) := by decide +kernel
theorem d87_2 : decode (eb_b 87) 2 = .ok (.invokevirtual 94, 3) := by decide +kernel
theorem d87_5 : decode (eb_b 87) 5 = .ok (.ifCond .ne 10, 3) := by decide +kernel
theorem d87_8 : decode (eb_b 87) 8 = .ok (.aload_n 0, 1) := by decide +kernel
theorem d87_9 : decode (eb_b 87) 9 = .ok (.bipush (-2), 2) := by decide +kernel
theorem d87_11 : decode (eb_b 87) 11 = .ok (.invokevirtual 48, 3) := by decide +kernel
theorem d87_14 : decode (eb_b 87) 14 = .ok (.ireturn, 1) := by decide +kernel
theorem d87_15 : decode (eb_b 87) 15 = .ok (.aload_n 0, 1) := by decide +kernel
theorem d87_16 : decode (eb_b 87) 16 = .ok (.getfield 10, 3) := by decide +kernel
theorem d87_19 : decode (eb_b 87) 19 = .ok (.getfield 97, 3) := by decide +kernel
theorem d87_22 : decode (eb_b 87) 22 = .ok (.iload_n 1, 1) := by decide +kernel
theorem d87_23 : decode (eb_b 87) 23 = .ok (.aaload, 1) := by decide +kernel
theorem d87_24 : decode (eb_b 87) 24 = .ok (.astore_n 3, 1) := by decide +kernel
theorem hn87_3 : 3 < eb_ml 87 := by decide
theorem d87_25 : decode (eb_b 87) 25 = .ok (.iload_n 2, 1) := by decide +kernel
theorem d87_26 : decode (eb_b 87) 26 = .ok (.tableswitch 41 0 2 #[26, 31, 36], 26) := by decide +kernel
theorem d87_52 : decode (eb_b 87) 52 = .ok (.aload_n 3, 1) := by decide +kernel
theorem d87_53 : decode (eb_b 87) 53 = .ok (.getfield 184, 3) := by decide +kernel
theorem wf_5_184 : Cond.fieldLink (eb_cN 5) 184 (eb_tT 0 0).1 (eb_tT 0 0).2.1 (eb_tT 0 0).2.2.1 ∈ eb_LT := eb_lt 168 (by decide +kernel)
theorem d87_56 : decode (eb_b 87) 56 = .ok (.ireturn, 1) := by decide +kernel
theorem d87_57 : decode (eb_b 87) 57 = .ok (.aload_n 3, 1) := by decide +kernel
theorem d87_58 : decode (eb_b 87) 58 = .ok (.getfield 106, 3) := by decide +kernel
theorem d87_61 : decode (eb_b 87) 61 = .ok (.ireturn, 1) := by decide +kernel
theorem d87_62 : decode (eb_b 87) 62 = .ok (.aload_n 3, 1) := by decide +kernel
theorem d87_63 : decode (eb_b 87) 63 = .ok (.getfield 187, 3) := by decide +kernel
theorem wf_5_187 : Cond.fieldLink (eb_cN 5) 187 (eb_tT 0 2).1 (eb_tT 0 2).2.1 (eb_tT 0 2).2.2.1 ∈ eb_LT := eb_lt 174 (by decide +kernel)
theorem d87_66 : decode (eb_b 87) 66 = .ok (.ireturn, 1) := by decide +kernel
theorem d87_67 : decode (eb_b 87) 67 = .ok (.aload_n 0, 1) := by decide +kernel
theorem d87_68 : decode (eb_b 87) 68 = .ok (.bipush (-2), 2) := by decide +kernel
theorem d87_70 : decode (eb_b 87) 70 = .ok (.invokevirtual 48, 3) := by decide +kernel
theorem d87_73 : decode (eb_b 87) 73 = .ok (.ireturn, 1) := by decide +kernel
theorem d88_0 : decode (eb_b 88) 0 = .ok (.aload_n 0, 1) := by decide +kernel
theorem d88_1 : decode (eb_b 88) 1 = .ok (.iload_n 1, 1) := by decide +kernel
theorem d88_2 : decode (eb_b 88) 2 = .ok (.invokevirtual 94, 3) := by decide +kernel
theorem d88_5 : decode (eb_b 88) 5 = .ok (.ifCond .eq 11, 3) := by decide +kernel
theorem d88_8 : decode (eb_b 88) 8 = .ok (.aload_n 0, 1) := by decide +kernel
theorem d88_9 : decode (eb_b 88) 9 = .ok (.iload_n 2, 1) := by decide +kernel
theorem d88_10 : decode (eb_b 88) 10 = .ok (.invokevirtual 123, 3) := by decide +kernel
theorem d88_13 : decode (eb_b 88) 13 = .ok (.ifCond .ne 10, 3) := by decide +kernel
theorem d88_16 : decode (eb_b 88) 16 = .ok (.aload_n 0, 1) := by decide +kernel
theorem d88_17 : decode (eb_b 88) 17 = .ok (.bipush (-2), 2) := by decide +kernel
theorem d88_19 : decode (eb_b 88) 19 = .ok (.invokevirtual 190, 3) := by decide +kernel
theorem wc_126 : Cond.code (eb_y 126) (eb_b 126) (eb_ml 126) (eb_rt 126) ∈ eb_LT := eb_lt 626 (by decide +kernel)
theorem cy_126 : (eb_y 126).cls = eb_cN (eb_rc 126) ∧ (eb_y 126).cls ≠ "java/lang/invoke/MethodHandle" ∧ (eb_y 126).cls ≠ "java/lang/invoke/VarHandle" ∧ (parseMethodDescriptor (eb_y 126).desc).map (fun d => d.parameters.length) = some 1 := by decide +kernel
theorem wi_126 : Cond.instanceMethod (eb_y 126) ∈ eb_LT := eb_lt 625 (by decide +kernel)
theorem wse_126 : Cond.selects (eb_cN (eb_rc 126)) (eb_y 126) (eb_y 126) ∈ eb_LT := eb_lt 20 (by decide +kernel)
theorem kV_126 {L q0 m pc : Nat} {lg : Nat → Bool} {ix : Nat} (hw : Cond.methodLink (eb_own m) ix (eb_y 126) ∈ eb_LT) (hd : decode (eb_b m) pc = .ok (.invokevirtual ix, 3)) : eb_Snd L q0 m pc lg (op_call 126 2 (pc + 3)) := sn_callV false rfl (Or.inr ⟨rfl, _, rfl⟩) (by decide) rfl (by decide) ⟨⟨hw, wi_126, wse_126⟩, wc_126⟩ cy_126 hd
theorem wm_5_190 : Cond.methodLink (eb_cN 5) 190 (eb_y 126) ∈ eb_LT := eb_lt 623 (by decide +kernel)
theorem d88_22 : decode (eb_b 88) 22 = .ok (.ireturn, 1) := by decide +kernel
theorem d88_23 : decode (eb_b 88) 23 = .ok (.aload_n 0, 1) := by decide +kernel
theorem d88_24 : decode (eb_b 88) 24 = .ok (.getfield 10, 3) := by decide +kernel
theorem d88_27 : decode (eb_b 88) 27 = .ok (.aload_n 0, 1) := by decide +kernel
theorem d88_28 : decode (eb_b 88) 28 = .ok (.getfield 10, 3) := by decide +kernel
theorem d88_31 : decode (eb_b 88) 31 = .ok (.getfield 97, 3) := by decide +kernel
theorem d88_34 : decode (eb_b 88) 34 = .ok (.iload_n 1, 1) := by decide +kernel
theorem d88_35 : decode (eb_b 88) 35 = .ok (.aaload, 1) := by decide +kernel
theorem d88_36 : decode (eb_b 88) 36 = .ok (.aload_n 0, 1) := by decide +kernel
theorem d88_37 : decode (eb_b 88) 37 = .ok (.getfield 10, 3) := by decide +kernel
theorem d88_40 : decode (eb_b 88) 40 = .ok (.getfield 126, 3) := by decide +kernel
theorem d88_43 : decode (eb_b 88) 43 = .ok (.iload_n 2, 1) := by decide +kernel
theorem d88_44 : decode (eb_b 88) 44 = .ok (.aaload, 1) := by decide +kernel
theorem d88_45 : decode (eb_b 88) 45 = .ok (.invokevirtual 193, 3) := by decide +kernel
theorem wm_5_193 : Cond.methodLink (eb_cN 5) 193 (eb_y 47) ∈ eb_LT := eb_lt 628 (by decide +kernel)
theorem d88_48 : decode (eb_b 88) 48 = .ok (.ireturn, 1) := by decide +kernel
theorem d89_0 : decode (eb_b 89) 0 = .ok (.aload_n 0, 1) := by decide +kernel
theorem d89_1 : decode (eb_b 89) 1 = .ok (.iload_n 1, 1) := by decide +kernel
theorem d89_2 : decode (eb_b 89) 2 = .ok (.invokevirtual 94, 3) := by decide +kernel
theorem d89_5 : decode (eb_b 89) 5 = .ok (.ifCond .eq 11, 3) := by decide +kernel
theorem d89_8 : decode (eb_b 89) 8 = .ok (.aload_n 0, 1) := by decide +kernel
theorem d89_9 : decode (eb_b 89) 9 = .ok (.iload_n 2, 1) := by decide +kernel
theorem d89_10 : decode (eb_b 89) 10 = .ok (.invokevirtual 123, 3) := by decide +kernel
theorem d89_13 : decode (eb_b 89) 13 = .ok (.ifCond .ne 10, 3) := by decide +kernel
theorem d89_16 : decode (eb_b 89) 16 = .ok (.aload_n 0, 1) := by decide +kernel
theorem d89_17 : decode (eb_b 89) 17 = .ok (.bipush (-2), 2) := by decide +kernel
theorem d89_19 : decode (eb_b 89) 19 = .ok (.invokevirtual 48, 3) := by decide +kernel
theorem d89_22 : decode (eb_b 89) 22 = .ok (.ireturn, 1) := by decide +kernel
theorem d89_23 : decode (eb_b 89) 23 = .ok (.aload_n 0, 1) := by decide +kernel
theorem d89_24 : decode (eb_b 89) 24 = .ok (.invokevirtual 197, 3) := by decide +kernel
theorem wc_137 : Cond.code (eb_y 137) (eb_b 137) (eb_ml 137) (eb_rt 137) ∈ eb_LT := eb_lt 636 (by decide +kernel)
theorem cy_137 : (eb_y 137).cls = eb_cN (eb_rc 137) ∧ (eb_y 137).cls ≠ "java/lang/invoke/MethodHandle" ∧ (eb_y 137).cls ≠ "java/lang/invoke/VarHandle" ∧ (parseMethodDescriptor (eb_y 137).desc).map (fun d => d.parameters.length) = some 0 := by decide +kernel
theorem wi_137 : Cond.instanceMethod (eb_y 137) ∈ eb_LT := eb_lt 635 (by decide +kernel)
theorem wse_137 : Cond.selects (eb_cN (eb_rc 137)) (eb_y 137) (eb_y 137) ∈ eb_LT := eb_lt 21 (by decide +kernel)
theorem kV_137 {L q0 m pc : Nat} {lg : Nat → Bool} {ix : Nat} (hw : Cond.methodLink (eb_own m) ix (eb_y 137) ∈ eb_LT) (hd : decode (eb_b m) pc = .ok (.invokevirtual ix, 3)) : eb_Snd L q0 m pc lg (op_call 137 1 (pc + 3)) := sn_callV false rfl (Or.inr ⟨rfl, _, rfl⟩) (by decide) rfl (by decide) ⟨⟨hw, wi_137, wse_137⟩, wc_137⟩ cy_137 hd
theorem wm_5_197 : Cond.methodLink (eb_cN 5) 197 (eb_y 137) ∈ eb_LT := eb_lt 633 (by decide +kernel)
theorem d89_27 : decode (eb_b 89) 27 = .ok (.getfield 97, 3) := by decide +kernel
theorem d89_30 : decode (eb_b 89) 30 = .ok (.iload_n 1, 1) := by decide +kernel
theorem d89_31 : decode (eb_b 89) 31 = .ok (.aaload, 1) := by decide +kernel
theorem d89_32 : decode (eb_b 89) 32 = .ok (.getfield 200, 3) := by decide +kernel
theorem wf_5_200 : Cond.fieldLink (eb_cN 5) 200 (eb_tT 0 3).1 (eb_tT 0 3).2.1 (eb_tT 0 3).2.2.1 ∈ eb_LT := eb_lt 177 (by decide +kernel)
theorem d89_35 : decode (eb_b 89) 35 = .ok (.iload_n 2, 1) := by decide +kernel
theorem d89_36 : decode (eb_b 89) 36 = .ok (.iaload, 1) := by decide +kernel
theorem d89_37 : decode (eb_b 89) 37 = .ok (.ireturn, 1) := by decide +kernel
theorem d90_0 : decode (eb_b 90) 0 = .ok (.aload_n 0, 1) := by decide +kernel
theorem d90_1 : decode (eb_b 90) 1 = .ok (.iload_n 1, 1) := by decide +kernel
theorem d90_2 : decode (eb_b 90) 2 = .ok (.invokevirtual 123, 3) := by decide +kernel
theorem d90_5 : decode (eb_b 90) 5 = .ok (.ifCond .eq 18, 3) := by decide +kernel
theorem d90_8 : decode (eb_b 90) 8 = .ok (.aload_n 0, 1) := by decide +kernel
theorem d90_9 : decode (eb_b 90) 9 = .ok (.invokevirtual 197, 3) := by decide +kernel
theorem d90_12 : decode (eb_b 90) 12 = .ok (.getfield 126, 3) := by decide +kernel
theorem d90_15 : decode (eb_b 90) 15 = .ok (.iload_n 1, 1) := by decide +kernel
theorem d90_16 : decode (eb_b 90) 16 = .ok (.aaload, 1) := by decide +kernel
theorem d90_17 : decode (eb_b 90) 17 = .ok (.getfield 203, 3) := by decide +kernel
theorem wf_5_203 : Cond.fieldLink (eb_cN 5) 203 (eb_tT 1 7).1 (eb_tT 1 7).2.1 (eb_tT 1 7).2.2.1 ∈ eb_LT := eb_lt 137 (by decide +kernel)
theorem d90_20 : decode (eb_b 90) 20 = .ok (.goto 9, 3) := by decide +kernel
theorem d90_23 : decode (eb_b 90) 23 = .ok (.aload_n 0, 1) := by decide +kernel
theorem d90_24 : decode (eb_b 90) 24 = .ok (.bipush (-2), 2) := by decide +kernel
theorem d90_26 : decode (eb_b 90) 26 = .ok (.invokevirtual 48, 3) := by decide +kernel
theorem d90_29 : decode (eb_b 90) 29 = .ok (.ireturn, 1) := by decide +kernel
theorem d91_0 : decode (eb_b 91) 0 = .ok (.aload_n 0, 1) := by decide +kernel
theorem d91_1 : decode (eb_b 91) 1 = .ok (.iload_n 1, 1) := by decide +kernel
theorem d91_2 : decode (eb_b 91) 2 = .ok (.invokevirtual 91, 3) := by decide +kernel
theorem d91_5 : decode (eb_b 91) 5 = .ok (.ifCond .ne 10, 3) := by decide +kernel
theorem d91_8 : decode (eb_b 91) 8 = .ok (.aload_n 0, 1) := by decide +kernel
theorem d91_9 : decode (eb_b 91) 9 = .ok (.bipush (-2), 2) := by decide +kernel
theorem d91_11 : decode (eb_b 91) 11 = .ok (.invokevirtual 48, 3) := by decide +kernel
theorem d91_14 : decode (eb_b 91) 14 = .ok (.ireturn, 1) := by decide +kernel
theorem d91_15 : decode (eb_b 91) 15 = .ok (.iload_n 1, 1) := by decide +kernel
theorem d91_16 : decode (eb_b 91) 16 = .ok (.iconst (-1), 1) := by decide +kernel
theorem d91_17 : decode (eb_b 91) 17 = .ok (.if_icmp .ne 13, 3) := by decide +kernel
theorem d91_20 : decode (eb_b 91) 20 = .ok (.aload_n 0, 1) := by decide +kernel
theorem d91_21 : decode (eb_b 91) 21 = .ok (.invokevirtual 197, 3) := by decide +kernel
theorem d91_24 : decode (eb_b 91) 24 = .ok (.invokevirtual 206, 3) := by decide +kernel
theorem wc_58 : Cond.code (eb_y 58) (eb_b 58) (eb_ml 58) (eb_rt 58) ∈ eb_LT := eb_lt 688 (by decide +kernel)
theorem cy_58 : (eb_y 58).cls = eb_cN (eb_rc 58) ∧ (eb_y 58).cls ≠ "java/lang/invoke/MethodHandle" ∧ (eb_y 58).cls ≠ "java/lang/invoke/VarHandle" ∧ (parseMethodDescriptor (eb_y 58).desc).map (fun d => d.parameters.length) = some 0 := by decide +kernel
theorem wi_58 : Cond.instanceMethod (eb_y 58) ∈ eb_LT := eb_lt 686 (by decide +kernel)
theorem wse_58 : Cond.selects (eb_cN (eb_rc 58)) (eb_y 58) (eb_y 58) ∈ eb_LT := eb_lt 687 (by decide +kernel)
theorem kV_58 {L q0 m pc : Nat} {lg : Nat → Bool} {ix : Nat} (hw : Cond.methodLink (eb_own m) ix (eb_y 58) ∈ eb_LT) (hd : decode (eb_b m) pc = .ok (.invokevirtual ix, 3)) : eb_Snd L q0 m pc lg (op_call 58 1 (pc + 3)) := sn_callV false rfl (Or.inr ⟨rfl, _, rfl⟩) (by decide) rfl (by decide) ⟨⟨hw, wi_58, wse_58⟩, wc_58⟩ cy_58 hd
theorem wm_5_206 : Cond.methodLink (eb_cN 5) 206 (eb_y 58) ∈ eb_LT := eb_lt 685 (by decide +kernel)
theorem d91_27 : decode (eb_b 91) 27 = .ok (.goto 15, 3) := by decide +kernel
theorem d91_30 : decode (eb_b 91) 30 = .ok (.aload_n 0, 1) := by decide +kernel
theorem d91_31 : decode (eb_b 91) 31 = .ok (.invokevirtual 197, 3) := by decide +kernel
theorem d91_34 : decode (eb_b 91) 34 = .ok (.getfield 97, 3) := by decide +kernel
theorem d91_37 : decode (eb_b 91) 37 = .ok (.iload_n 1, 1) := by decide +kernel
theorem d91_38 : decode (eb_b 91) 38 = .ok (.aaload, 1) := by decide +kernel
theorem d91_39 : decode (eb_b 91) 39 = .ok (.getfield 210, 3) := by decide +kernel
theorem wf_5_210 : Cond.fieldLink (eb_cN 5) 210 (eb_tT 0 4).1 (eb_tT 0 4).2.1 (eb_tT 0 4).2.2.1 ∈ eb_LT := eb_lt 180 (by decide +kernel)
theorem d91_42 : decode (eb_b 91) 42 = .ok (.ireturn, 1) := by decide +kernel
theorem d92_0 : decode (eb_b 92) 0 = .ok (.aload_n 0, 1) := by decide +kernel
theorem d92_1 : decode (eb_b 92) 1 = .ok (.invokevirtual 197, 3) := by decide +kernel
theorem d92_4 : decode (eb_b 92) 4 = .ok (.invokevirtual 213, 3) := by decide +kernel
theorem wc_57 : Cond.code (eb_y 57) (eb_b 57) (eb_ml 57) (eb_rt 57) ∈ eb_LT := eb_lt 696 (by decide +kernel)
theorem cy_57 : (eb_y 57).cls = eb_cN (eb_rc 57) ∧ (eb_y 57).cls ≠ "java/lang/invoke/MethodHandle" ∧ (eb_y 57).cls ≠ "java/lang/invoke/VarHandle" ∧ (parseMethodDescriptor (eb_y 57).desc).map (fun d => d.parameters.length) = some 0 := by decide +kernel
theorem wi_57 : Cond.instanceMethod (eb_y 57) ∈ eb_LT := eb_lt 694 (by decide +kernel)
theorem wse_57 : Cond.selects (eb_cN (eb_rc 57)) (eb_y 57) (eb_y 57) ∈ eb_LT := eb_lt 695 (by decide +kernel)
theorem kV_57 {L q0 m pc : Nat} {lg : Nat → Bool} {ix : Nat} (hw : Cond.methodLink (eb_own m) ix (eb_y 57) ∈ eb_LT) (hd : decode (eb_b m) pc = .ok (.invokevirtual ix, 3)) : eb_Snd L q0 m pc lg (op_call 57 1 (pc + 3)) := sn_callV false rfl (Or.inr ⟨rfl, _, rfl⟩) (by decide) rfl (by decide) ⟨⟨hw, wi_57, wse_57⟩, wc_57⟩ cy_57 hd
theorem wm_5_213 : Cond.methodLink (eb_cN 5) 213 (eb_y 57) ∈ eb_LT := eb_lt 693 (by decide +kernel)
theorem d92_7 : decode (eb_b 92) 7 = .ok (.ireturn, 1) := by decide +kernel
theorem d93_0 : decode (eb_b 93) 0 = .ok (.aload_n 0, 1) := by decide +kernel
theorem d93_1 : decode (eb_b 93) 1 = .ok (.iload_n 1, 1) := by decide +kernel
theorem d93_2 : decode (eb_b 93) 2 = .ok (.invokevirtual 91, 3) := by decide +kernel
theorem d93_5 : decode (eb_b 93) 5 = .ok (.ifCond .ne 10, 3) := by decide +kernel
theorem d93_8 : decode (eb_b 93) 8 = .ok (.aload_n 0, 1) := by decide +kernel
theorem d93_9 : decode (eb_b 93) 9 = .ok (.bipush (-2), 2) := by decide +kernel
theorem d93_11 : decode (eb_b 93) 11 = .ok (.invokevirtual 190, 3) := by decide +kernel
theorem d93_14 : decode (eb_b 93) 14 = .ok (.ireturn, 1) := by decide +kernel
theorem d93_15 : decode (eb_b 93) 15 = .ok (.iload_n 1, 1) := by decide +kernel
theorem d93_16 : decode (eb_b 93) 16 = .ok (.iconst (-1), 1) := by decide +kernel
theorem d93_17 : decode (eb_b 93) 17 = .ok (.if_icmp .ne 13, 3) := by decide +kernel
theorem d93_20 : decode (eb_b 93) 20 = .ok (.aload_n 0, 1) := by decide +kernel
theorem d93_21 : decode (eb_b 93) 21 = .ok (.invokevirtual 197, 3) := by decide +kernel
theorem d93_24 : decode (eb_b 93) 24 = .ok (.invokevirtual 216, 3) := by decide +kernel
theorem wc_60 : Cond.code (eb_y 60) (eb_b 60) (eb_ml 60) (eb_rt 60) ∈ eb_LT := eb_lt 704 (by decide +kernel)
theorem cy_60 : (eb_y 60).cls = eb_cN (eb_rc 60) ∧ (eb_y 60).cls ≠ "java/lang/invoke/MethodHandle" ∧ (eb_y 60).cls ≠ "java/lang/invoke/VarHandle" ∧ (parseMethodDescriptor (eb_y 60).desc).map (fun d => d.parameters.length) = some 0 := by decide +kernel
theorem wi_60 : Cond.instanceMethod (eb_y 60) ∈ eb_LT := eb_lt 702 (by decide +kernel)
theorem wse_60 : Cond.selects (eb_cN (eb_rc 60)) (eb_y 60) (eb_y 60) ∈ eb_LT := eb_lt 703 (by decide +kernel)
theorem kV_60 {L q0 m pc : Nat} {lg : Nat → Bool} {ix : Nat} (hw : Cond.methodLink (eb_own m) ix (eb_y 60) ∈ eb_LT) (hd : decode (eb_b m) pc = .ok (.invokevirtual ix, 3)) : eb_Snd L q0 m pc lg (op_call 60 1 (pc + 3)) := sn_callV false rfl (Or.inr ⟨rfl, _, rfl⟩) (by decide) rfl (by decide) ⟨⟨hw, wi_60, wse_60⟩, wc_60⟩ cy_60 hd
theorem wm_5_216 : Cond.methodLink (eb_cN 5) 216 (eb_y 60) ∈ eb_LT := eb_lt 701 (by decide +kernel)
theorem d93_27 : decode (eb_b 93) 27 = .ok (.goto 19, 3) := by decide +kernel
theorem d93_30 : decode (eb_b 93) 30 = .ok (.aload_n 0, 1) := by decide +kernel
theorem d93_31 : decode (eb_b 93) 31 = .ok (.invokevirtual 197, 3) := by decide +kernel
theorem d93_34 : decode (eb_b 93) 34 = .ok (.aload_n 0, 1) := by decide +kernel
theorem d93_35 : decode (eb_b 93) 35 = .ok (.getfield 10, 3) := by decide +kernel
theorem d93_38 : decode (eb_b 93) 38 = .ok (.getfield 97, 3) := by decide +kernel
theorem d93_41 : decode (eb_b 93) 41 = .ok (.iload_n 1, 1) := by decide +kernel
theorem d93_42 : decode (eb_b 93) 42 = .ok (.aaload, 1) := by decide +kernel
theorem d93_43 : decode (eb_b 93) 43 = .ok (.invokevirtual 219, 3) := by decide +kernel
theorem wm_5_219 : Cond.methodLink (eb_cN 5) 219 (eb_y 59) ∈ eb_LT := eb_lt 714 (by decide +kernel)
theorem d93_46 : decode (eb_b 93) 46 = .ok (.ireturn, 1) := by decide +kernel
theorem d94_0 : decode (eb_b 94) 0 = .ok (.aload_n 0, 1) := by decide +kernel
theorem d94_1 : decode (eb_b 94) 1 = .ok (.iload_n 1, 1) := by decide +kernel
theorem d94_2 : decode (eb_b 94) 2 = .ok (.invokevirtual 123, 3) := by decide +kernel
theorem d94_5 : decode (eb_b 94) 5 = .ok (.ifCond .eq 18, 3) := by decide +kernel
theorem d94_8 : decode (eb_b 94) 8 = .ok (.aload_n 0, 1) := by decide +kernel
theorem d94_9 : decode (eb_b 94) 9 = .ok (.invokevirtual 197, 3) := by decide +kernel
theorem d94_12 : decode (eb_b 94) 12 = .ok (.getfield 126, 3) := by decide +kernel
theorem d94_15 : decode (eb_b 94) 15 = .ok (.iload_n 1, 1) := by decide +kernel
theorem d94_16 : decode (eb_b 94) 16 = .ok (.aaload, 1) := by decide +kernel
theorem d94_17 : decode (eb_b 94) 17 = .ok (.invokevirtual 222, 3) := by decide +kernel
theorem wm_5_222 : Cond.methodLink (eb_cN 5) 222 (eb_y 14) ∈ eb_LT := eb_lt 719 (by decide +kernel)
theorem d94_20 : decode (eb_b 94) 20 = .ok (.goto 9, 3) := by decide +kernel
theorem d94_23 : decode (eb_b 94) 23 = .ok (.aload_n 0, 1) := by decide +kernel
theorem d94_24 : decode (eb_b 94) 24 = .ok (.bipush (-2), 2) := by decide +kernel
theorem d94_26 : decode (eb_b 94) 26 = .ok (.invokevirtual 48, 3) := by decide +kernel
theorem d94_29 : decode (eb_b 94) 29 = .ok (.ireturn, 1) := by decide +kernel
section
variable {L q0 : Nat}
theorem sc63_0 : eb_AS L q0 63 (eb_lg 63) [(0, op_push (zi 0) 1), (1, op_istore 1 2), (2, op_push (zi 0) 3), (3, op_istore 2 4), (4, op_iload 2 5), (5, op_aload 0 6), (6, op_getI L 4 3 9), (9, op_icge 47 12), (12, op_iload 1 13), (13, op_aload 0 14), (14, op_getR L 4 1 17), (17, op_iload 2 18), (18, op_aald L 19), (19, op_getI L 0 0 22), (22, op_push (zi 3) 23), (23, op_icne 38 26), (26, op_aload 0 27), (27, op_getR L 4 1 30), (30, op_iload 2 31), (31, op_aald L 32), (32, op_getI L 0 5 35), (35, op_goto 39), (38, op_push (zi 0) 39), (39, op_ii (· + ·) 40), (40, op_istore 1 41), (41, op_iinc 2 1 44), (44, op_goto 4), (47, op_iload 1 48), (48, op_iret)] := ⟨sn_iconst d63_0 (by decide), sn_istore_n (eb_hlg (Or.inl rfl)) hn63_1 d63_1 rfl, sn_iconst d63_2 (by decide), sn_istore_n (eb_hlg (Or.inl rfl)) hn63_2 d63_3 rfl, sn_iload_n d63_4 rfl, sn_aload_n d63_5 rfl, sn_getI (by decide) fi_4_3.1 fi_4_3.2 wf_4_39 d63_6, sn_icge d63_9 (by decide), sn_iload_n d63_12 rfl, sn_aload_n d63_13 rfl, sn_getR (by decide) fi_4_1.1 fi_4_1.2 wf_4_19 d63_14, sn_iload_n d63_17 rfl, sn_aald d63_18, sn_getI (by decide) fi_0_0.1 fi_0_0.2 wf_4_52 d63_19, sn_iconst d63_22 (by decide), sn_icne d63_23 (by decide), sn_aload_n d63_26 rfl, sn_getR (by decide) fi_4_1.1 fi_4_1.2 wf_4_19 d63_27, sn_iload_n d63_30 rfl, sn_aald d63_31, sn_getI (by decide) fi_0_5.1 fi_0_5.2 wf_4_160 d63_32, sn_goto d63_35 (by decide), sn_iconst d63_38 (by decide), sn_iadd d63_39, sn_istore_n (eb_hlg (Or.inl rfl)) hn63_1 d63_40 rfl, sn_iinc (eb_hlg (Or.inl rfl)) hn63_2 d63_41 (by decide), sn_goto d63_44 (by decide), sn_iload_n d63_47 rfl, sn_iret d63_48 rfl, trivial⟩
theorem sd63 : ∀ pc, eb_Snd L q0 63 pc (eb_lg 63) (eb_cd L 63 pc) := eb_AS_all (hk63 (L := L)) (sc63_0)
theorem sc64_0 : eb_AS L q0 64 (eb_lg 64) [(0, op_push (zi 0) 1), (1, op_istore 4 3), (3, op_iload 4 5), (5, op_iload 2 6), (6, op_icge 36 9), (9, op_aload 0 10), (10, op_push (zi 1) 11), (11, op_call 61 2 14), (14, op_pop 15), (15, op_aload 0 16), (16, op_getR L 4 0 19), (19, op_iload 1 20), (20, op_aald L 21), (21, op_getI L 1 0 24), (24, op_iload 3 25), (25, op_icge 30 28), (28, op_push (zi 0) 29), (29, op_zret), (30, op_iinc 4 1 33), (33, op_goto 3), (36, op_push (zi 1) 37), (37, op_zret)] := ⟨sn_iconst d64_0 (by decide), sn_istore (eb_hlg (Or.inl rfl)) hn64_4 d64_1, sn_iload d64_3, sn_iload_n d64_5 rfl, sn_icge d64_6 (by decide), sn_aload_n d64_9 rfl, sn_iconst d64_10 (by decide), kV_61 wm_4_172 d64_11, sn_pop d64_14, sn_aload_n d64_15 rfl, sn_getR (by decide) fi_4_0.1 fi_4_0.2 wf_4_11 d64_16, sn_iload_n d64_19 rfl, sn_aald d64_20, sn_getI (by decide) fi_1_0.1 fi_1_0.2 wf_4_68 d64_21, sn_iload_n d64_24 rfl, sn_icge d64_25 (by decide), sn_iconst d64_28 (by decide), sn_zret d64_29 rfl, sn_iinc (eb_hlg (Or.inl rfl)) hn64_4 d64_30 (by decide), sn_goto d64_33 (by decide), sn_iconst d64_36 (by decide), sn_zret d64_37 rfl, trivial⟩
theorem sd64 : ∀ pc, eb_Snd L q0 64 pc (eb_lg 64) (eb_cd L 64 pc) := eb_AS_all (hk64 (L := L)) (sc64_0)
theorem sc65_0 : eb_AS L q0 65 (eb_lg 65) [(0, op_aload 0 1), (1, op_aload 0 2), (2, op_getI L 4 2 5), (5, op_call 66 2 8), (8, op_istore 1 9), (9, op_aload 0 10), (10, op_getR L 4 0 13), (13, op_iload 1 14), (14, op_aald L 15), (15, op_getI L 1 0 18), (18, op_aload 0 19), (19, op_push (zi 21) 21), (21, op_call 66 2 24), (24, op_ii (· + ·) 25), (25, op_push (zi 10) 27), (27, op_ii (· - ·) 28), (28, op_istore 2 29), (29, op_aload 0 30), (30, op_getR L 4 0 33), (33, op_iload 1 34), (34, op_aald L 35), (35, op_push (zi 0) 36), (36, op_push (zi 100) 38), (38, op_iload 2 39), (39, op_call 901 2 42), (42, op_call 900 2 45), (45, op_call 10 2 48), (48, op_zret)] := ⟨sn_aload_n d65_0 rfl, sn_aload_n d65_1 rfl, sn_getI (by decide) fi_4_2.1 fi_4_2.2 wf_4_36 d65_2, kV_66 wm_4_175 d65_5, sn_istore_n (eb_hlg (Or.inl rfl)) hn65_1 d65_8 rfl, sn_aload_n d65_9 rfl, sn_getR (by decide) fi_4_0.1 fi_4_0.2 wf_4_11 d65_10, sn_iload_n d65_13 rfl, sn_aald d65_14, sn_getI (by decide) fi_1_0.1 fi_1_0.2 wf_4_68 d65_15, sn_aload_n d65_18 rfl, sn_bipush d65_19 (by decide), kV_66 wm_4_175 d65_21, sn_iadd d65_24, sn_bipush d65_25 (by decide), sn_isub d65_27, sn_istore_n (eb_hlg (Or.inl rfl)) hn65_2 d65_28 rfl, sn_aload_n d65_29 rfl, sn_getR (by decide) fi_4_0.1 fi_4_0.2 wf_4_11 d65_30, sn_iload_n d65_33 rfl, sn_aald d65_34, sn_iconst d65_35 (by decide), sn_bipush d65_36 (by decide), sn_iload_n d65_38 rfl, sn_min wm_4_139 d65_39, sn_max wm_4_80 d65_42, kV_10 wm_4_178 d65_45, sn_zret d65_48 rfl, trivial⟩
theorem sd65 : ∀ pc, eb_Snd L q0 65 pc (eb_lg 65) (eb_cd L 65 pc) := eb_AS_all (hk65 (L := L)) (sc65_0)
theorem sc66_0 : eb_AS L q0 66 (eb_lg 66) [(0, op_aload 0 1), (1, op_aload 0 2), (2, op_getI L 4 6 5), (5, op_push (zi 1103515245) 7), (7, op_ii (· * ·) 8), (8, op_push (zi 12345) 11), (11, op_ii (· + ·) 12), (12, op_putI L 4 6 15), (15, op_iload 1 16), (16, op_push (zi 1) 17), (17, op_icge 24 20), (20, op_push (zi 0) 21), (21, op_goto 33), (24, op_aload 0 25), (25, op_getI L 4 6 28), (28, op_push (zi 16) 30), (30, op_ii (fun x y => (x.toUInt32 >>> (y.toUInt32 &&& Int32.toUInt32 31)).toInt32) 31), (31, op_iload 1 32), (32, op_iid (fun x y => x - x / y * y) 33), (33, op_iret)] := ⟨sn_aload_n d66_0 rfl, sn_aload_n d66_1 rfl, sn_getI (by decide) fi_4_6.1 fi_4_6.2 wf_4_23 d66_2, sn_ldc d66_5 wk_4_182, sn_imul d66_7, sn_sipush d66_8 (by decide), sn_iadd d66_11, sn_putI (by decide) fi_4_6.1 fi_4_6.2 wf_4_23 (Or.inl rfl) fp_4_6 d66_12, sn_iload_n d66_15 rfl, sn_iconst d66_16 (by decide), sn_icge d66_17 (by decide), sn_iconst d66_20 (by decide), sn_goto d66_21 (by decide), sn_aload_n d66_24 rfl, sn_getI (by decide) fi_4_6.1 fi_4_6.2 wf_4_23 d66_25, sn_bipush d66_28 (by decide), sn_iushr d66_30, sn_iload_n d66_31 rfl, sn_irem d66_32, sn_iret d66_33 rfl, trivial⟩
theorem sd66 : ∀ pc, eb_Snd L q0 66 pc (eb_lg 66) (eb_cd L 66 pc) := eb_AS_all (hk66 (L := L)) (sc66_0)
theorem sc67_0 : eb_AS L q0 67 (eb_lg 67) [(0, op_aload 0 1), (1, op_callv 903 1 4), (4, op_aload 0 5), (5, op_new L 4 9 8), (8, op_dup 9), (9, op_callv 38 1 12), (12, op_putR L 5 0 15), (15, op_aload 0 16), (16, op_new L 4 9 19), (19, op_dup 20), (20, op_callv 38 1 23), (23, op_putR L 5 1 26), (26, op_aload 0 27), (27, op_new L 4 9 30), (30, op_dup 31), (31, op_callv 38 1 34), (34, op_putR L 5 2 37), (37, op_aload 0 38), (38, op_push (zi 8) 40), (40, op_newA L 14 43), (43, op_putR L 5 4 46), (46, op_aload 0 47), (47, op_new L 3 5 50), (50, op_dup 51), (51, op_callv 23 1 54), (54, op_putR L 5 5 57), (57, op_aload 0 58), (58, op_push (zi 5) 59), (59, op_newI L 61), (61, op_putR L 5 6 64), (64, op_push (zi 0) 65), (65, op_istore 1 66), (66, op_iload 1 67), (67, op_push (zi 8) 69), (69, op_icge 91 72), (72, op_aload 0 73), (73, op_getR L 5 4 76), (76, op_iload 1 77), (77, op_new L 2 3 80), (80, op_dup 81)] := ⟨sn_aload_n d67_0 rfl, sn_obj wm_5_1 d67_1, sn_aload_n d67_4 rfl, sn_new (by decide) rfl wq_5_7 d67_5, sn_dup d67_8, kI_38 wm_5_9 d67_9, sn_putR (by decide) fi_5_0.1 fi_5_0.2 wf_5_10 (Or.inr ⟨rfl, rfl⟩) fp_5_0 d67_12, sn_aload_n d67_15 rfl, sn_new (by decide) rfl wq_5_7 d67_16, sn_dup d67_19, kI_38 wm_5_9 d67_20, sn_putR (by decide) fi_5_1.1 fi_5_1.2 wf_5_16 (Or.inr ⟨rfl, rfl⟩) fp_5_1 d67_23, sn_aload_n d67_26 rfl, sn_new (by decide) rfl wq_5_7 d67_27, sn_dup d67_30, kI_38 wm_5_9 d67_31, sn_putR (by decide) fi_5_2.1 fi_5_2.2 wf_5_19 (Or.inr ⟨rfl, rfl⟩) fp_5_2 d67_34, sn_aload_n d67_37 rfl, sn_bipush d67_38 (by decide), sn_newA (by decide) wr_5_22 d67_40, sn_putR (by decide) fi_5_4.1 fi_5_4.2 wf_5_24 (Or.inr ⟨rfl, rfl⟩) fp_5_4 d67_43, sn_aload_n d67_46 rfl, sn_new (by decide) rfl wq_5_28 d67_47, sn_dup d67_50, kIN_23 wm_5_30 d67_51, sn_putR (by decide) fi_5_5.1 fi_5_5.2 wf_5_31 (Or.inr ⟨rfl, rfl⟩) fp_5_5 d67_54, sn_aload_n d67_57 rfl, sn_iconst d67_58 (by decide), sn_newI d67_59, sn_putR (by decide) fi_5_6.1 fi_5_6.2 wf_5_35 (Or.inr ⟨rfl, rfl⟩) fp_5_6 d67_61, sn_iconst d67_64 (by decide), sn_istore_n (eb_hlg (Or.inl rfl)) hn67_1 d67_65 rfl, sn_iload_n d67_66 rfl, sn_bipush d67_67 (by decide), sn_icge d67_69 (by decide), sn_aload_n d67_72 rfl, sn_getR (by decide) fi_5_4.1 fi_5_4.2 wf_5_24 d67_73, sn_iload_n d67_76 rfl, sn_new (by decide) rfl wq_5_22 d67_77, sn_dup d67_80, trivial⟩
theorem sc67_1 : eb_AS L q0 67 (eb_lg 67) [(81, op_callv 16 1 84), (84, op_aast L 85), (85, op_iinc 1 1 88), (88, op_goto 66), (91, op_vret)] := ⟨kIN_16 wm_5_39 d67_81, sn_aast d67_84, sn_iinc (eb_hlg (Or.inl rfl)) hn67_1 d67_85 (by decide), sn_goto d67_88 (by decide), sn_vret d67_91 rfl, trivial⟩
theorem sd67 : ∀ pc, eb_Snd L q0 67 pc (eb_lg 67) (eb_cd L 67 pc) := eb_AS_all (hk67 (L := L)) (eb_AS_app sc67_0 (sc67_1))
theorem sc68_0 : eb_AS L q0 68 (eb_lg 68) [(0, op_iload 1 1), (1, op_call 128 1 4), (4, op_ifeq 26 7), (7, op_iload 2 8), (8, op_push (zi 0) 9), (9, op_push (zi 4) 10), (10, op_call 127 3 13), (13, op_ifeq 26 16), (16, op_iload 3 17), (17, op_push (zi 0) 18), (18, op_push (zi 40) 20), (20, op_call 127 3 23), (23, op_ifne 33 26), (26, op_aload 0 27), (27, op_push (zi (-2)) 29), (29, op_call 125 2 32), (32, op_iret), (33, op_aload 0 34), (34, op_getR L 5 4 37), (37, op_iload 1 38), (38, op_aald L 39), (39, op_iload 2 40), (40, op_iload 3 41), (41, op_callv 19 3 44), (44, op_push (zi 1) 45), (45, op_iret)] := ⟨sn_iload_n d68_0 rfl, kS_128 wm_5_40 d68_1, sn_ifeq d68_4 (by decide), sn_iload_n d68_7 rfl, sn_iconst d68_8 (by decide), sn_iconst d68_9 (by decide), kS_127 wm_5_44 d68_10, sn_ifeq d68_13 (by decide), sn_iload_n d68_16 rfl, sn_iconst d68_17 (by decide), sn_bipush d68_18 (by decide), kS_127 wm_5_44 d68_20, sn_ifne d68_23 (by decide), sn_aload_n d68_26 rfl, sn_bipush d68_27 (by decide), kV_125 wm_5_48 d68_29, sn_iret d68_32 rfl, sn_aload_n d68_33 rfl, sn_getR (by decide) fi_5_4.1 fi_5_4.2 wf_5_24 d68_34, sn_iload_n d68_37 rfl, sn_aald d68_38, sn_iload_n d68_39 rfl, sn_iload_n d68_40 rfl, kV_19 wm_5_52 d68_41, sn_iconst d68_44 (by decide), sn_iret d68_45 rfl, trivial⟩
theorem sd68 : ∀ pc, eb_Snd L q0 68 pc (eb_lg 68) (eb_cd L 68 pc) := eb_AS_all (hk68 (L := L)) (sc68_0)
theorem sc69_0 : eb_AS L q0 69 (eb_lg 69) [(0, op_aload 0 1), (1, op_iload 1 2), (2, op_call 135 2 5), (5, op_istore 5 7), (7, op_iload 5 9), (9, op_ifeq 19 12), (12, op_aload 0 13), (13, op_iload 5 15), (15, op_call 125 2 18), (18, op_iret), (19, op_iload 2 20), (20, op_push (zi 0) 21), (21, op_aload 0 22), (22, op_getR L 5 4 25), (25, op_iload 1 26), (26, op_aald L 27), (27, op_getI L 2 1 30), (30, op_push (zi 1) 31), (31, op_ii (· - ·) 32), (32, op_call 127 3 35), (35, op_ifne 45 38), (38, op_aload 0 39), (39, op_push (zi (-2)) 41), (41, op_call 125 2 44), (44, op_iret), (45, op_aload 0 46), (46, op_getR L 5 4 49), (49, op_iload 1 50), (50, op_aald L 51), (51, op_iload 2 52), (52, op_lload 3 53), (53, op_callv 21 3 56), (56, op_push (zi 1) 57), (57, op_iret)] := ⟨sn_aload_n d69_0 rfl, sn_iload_n d69_1 rfl, kV_135 wm_5_56 d69_2, sn_istore (eb_hlg (Or.inl rfl)) hn69_5 d69_5, sn_iload d69_7, sn_ifeq d69_9 (by decide), sn_aload_n d69_12 rfl, sn_iload d69_13, kV_125 wm_5_48 d69_15, sn_iret d69_18 rfl, sn_iload_n d69_19 rfl, sn_iconst d69_20 (by decide), sn_aload_n d69_21 rfl, sn_getR (by decide) fi_5_4.1 fi_5_4.2 wf_5_24 d69_22, sn_iload_n d69_25 rfl, sn_aald d69_26, sn_getI (by decide) fi_2_1.1 fi_2_1.2 wf_5_59 d69_27, sn_iconst d69_30 (by decide), sn_isub d69_31, kS_127 wm_5_44 d69_32, sn_ifne d69_35 (by decide), sn_aload_n d69_38 rfl, sn_bipush d69_39 (by decide), kV_125 wm_5_48 d69_41, sn_iret d69_44 rfl, sn_aload_n d69_45 rfl, sn_getR (by decide) fi_5_4.1 fi_5_4.2 wf_5_24 d69_46, sn_iload_n d69_49 rfl, sn_aald d69_50, sn_iload_n d69_51 rfl, sn_lload_n d69_52 rfl, kV_21 wm_5_63 d69_53, sn_iconst d69_56 (by decide), sn_iret d69_57 rfl, trivial⟩
theorem sd69 : ∀ pc, eb_Snd L q0 69 pc (eb_lg 69) (eb_cd L 69 pc) := eb_AS_all (hk69 (L := L)) (sc69_0)
theorem sc70_0 : eb_AS L q0 70 (eb_lg 70) [(0, op_iload 1 1), (1, op_call 128 1 4), (4, op_ifeq 14 7), (7, op_iload 2 8), (8, op_call 128 1 11), (11, op_ifne 21 14), (14, op_aload 0 15), (15, op_push (zi (-2)) 17), (17, op_call 125 2 20), (20, op_iret), (21, op_aload 0 22), (22, op_getR L 5 4 25), (25, op_iload 1 26), (26, op_aald L 27), (27, op_astore 6 29), (29, op_aload 0 30), (30, op_getR L 5 4 33), (33, op_iload 2 34), (34, op_aald L 35), (35, op_astore 7 37), (37, op_aload 6 39), (39, op_getI L 2 0 42), (42, op_push (zi (-1)) 43), (43, op_iceq 59 46), (46, op_aload 7 48), (48, op_getI L 2 0 51), (51, op_push (zi (-1)) 52), (52, op_iceq 59 55), (55, op_push (zi 1) 56), (56, op_goto 60), (59, op_push (zi 0) 60), (60, op_istore 8 62), (62, op_aload 6 64), (64, op_call 18 1 67), (67, op_ifne 96 70), (70, op_aload 7 72), (72, op_call 18 1 75), (75, op_ifne 96 78), (78, op_iload 8 80), (80, op_ifeq 103 83)] := ⟨sn_iload_n d70_0 rfl, kS_128 wm_5_40 d70_1, sn_ifeq d70_4 (by decide), sn_iload_n d70_7 rfl, kS_128 wm_5_40 d70_8, sn_ifne d70_11 (by decide), sn_aload_n d70_14 rfl, sn_bipush d70_15 (by decide), kV_125 wm_5_48 d70_17, sn_iret d70_20 rfl, sn_aload_n d70_21 rfl, sn_getR (by decide) fi_5_4.1 fi_5_4.2 wf_5_24 d70_22, sn_iload_n d70_25 rfl, sn_aald d70_26, sn_astore (eb_hlg (Or.inl rfl)) hn70_6 d70_27, sn_aload_n d70_29 rfl, sn_getR (by decide) fi_5_4.1 fi_5_4.2 wf_5_24 d70_30, sn_iload_n d70_33 rfl, sn_aald d70_34, sn_astore (eb_hlg (Or.inl rfl)) hn70_7 d70_35, sn_aload d70_37, sn_getI (by decide) fi_2_0.1 fi_2_0.2 wf_5_67 d70_39, sn_iconst d70_42 (by decide), sn_iceq d70_43 (by decide), sn_aload d70_46, sn_getI (by decide) fi_2_0.1 fi_2_0.2 wf_5_67 d70_48, sn_iconst d70_51 (by decide), sn_iceq d70_52 (by decide), sn_iconst d70_55 (by decide), sn_goto d70_56 (by decide), sn_iconst d70_59 (by decide), sn_istore (eb_hlg (Or.inl rfl)) hn70_8 d70_60, sn_aload d70_62, kV_18 wm_5_70 d70_64, sn_ifne d70_67 (by decide), sn_aload d70_70, kV_18 wm_5_70 d70_72, sn_ifne d70_75 (by decide), sn_iload d70_78, sn_ifeq d70_80 (by decide), trivial⟩
theorem sc70_1 : eb_AS L q0 70 (eb_lg 70) [(83, op_aload 6 85), (85, op_getI L 2 0 88), (88, op_aload 7 90), (90, op_getI L 2 0 93), (93, op_iceq 103 96), (96, op_aload 0 97), (97, op_push (zi (-3)) 99), (99, op_call 125 2 102), (102, op_iret), (103, op_iload 8 105), (105, op_ifne 115 108), (108, op_aload 0 109), (109, op_push (zi (-4)) 111), (111, op_call 125 2 114), (114, op_iret), (115, op_aload 6 117), (117, op_iload 3 118), (118, op_iload 5 120), (120, op_call 20 3 123), (123, op_ifeq 138 126), (126, op_aload 7 128), (128, op_iload 4 130), (130, op_iload 5 132), (132, op_call 20 3 135), (135, op_ifne 145 138), (138, op_aload 0 139), (139, op_push (zi (-2)) 141), (141, op_call 125 2 144), (144, op_iret), (145, op_aload 6 147), (147, op_getR L 2 2 150), (150, op_iload 3 151), (151, op_aload 7 153), (153, op_getR L 2 2 156), (156, op_iload 4 158), (158, op_iload 5 160), (160, op_callv 904 5 163), (163, op_iload 5 165), (165, op_iret)] := ⟨sn_aload d70_83, sn_getI (by decide) fi_2_0.1 fi_2_0.2 wf_5_67 d70_85, sn_aload d70_88, sn_getI (by decide) fi_2_0.1 fi_2_0.2 wf_5_67 d70_90, sn_iceq d70_93 (by decide), sn_aload_n d70_96 rfl, sn_bipush d70_97 (by decide), kV_125 wm_5_48 d70_99, sn_iret d70_102 rfl, sn_iload d70_103, sn_ifne d70_105 (by decide), sn_aload_n d70_108 rfl, sn_bipush d70_109 (by decide), kV_125 wm_5_48 d70_111, sn_iret d70_114 rfl, sn_aload d70_115, sn_iload_n d70_117 rfl, sn_iload d70_118, kV_20 wm_5_74 d70_120, sn_ifeq d70_123 (by decide), sn_aload d70_126, sn_iload d70_128, sn_iload d70_130, kV_20 wm_5_74 d70_132, sn_ifne d70_135 (by decide), sn_aload_n d70_138 rfl, sn_bipush d70_139 (by decide), kV_125 wm_5_48 d70_141, sn_iret d70_144 rfl, sn_aload d70_145, sn_getR (by decide) fi_2_2.1 fi_2_2.2 wf_5_78 d70_147, sn_iload_n d70_150 rfl, sn_aload d70_151, sn_getR (by decide) fi_2_2.1 fi_2_2.2 wf_5_78 d70_153, sn_iload d70_156, sn_iload d70_158, sn_cp wm_5_82 d70_160, sn_iload d70_163, sn_iret d70_165 rfl, trivial⟩
theorem sd70 : ∀ pc, eb_Snd L q0 70 pc (eb_lg 70) (eb_cd L 70 pc) := eb_AS_all (hk70 (L := L)) (eb_AS_app sc70_0 (sc70_1))
theorem sc71_0 : eb_AS L q0 71 (eb_lg 71) [(0, op_iload 1 1), (1, op_call 128 1 4), (4, op_ifeq 38 7), (7, op_aload 0 8), (8, op_getR L 5 4 11), (11, op_iload 1 12), (12, op_aald L 13), (13, op_call 17 1 16), (16, op_ifeq 38 19), (19, op_iload 2 20), (20, op_push (zi 0) 21), (21, op_aload 0 22), (22, op_getR L 5 4 25), (25, op_iload 1 26), (26, op_aald L 27), (27, op_getI L 2 1 30), (30, op_push (zi 1) 31), (31, op_ii (· - ·) 32), (32, op_call 127 3 35), (35, op_ifne 40 38), (38, op_push (zl 0) 39), (39, op_lret), (40, op_aload 0 41), (41, op_getR L 5 4 44), (44, op_iload 1 45), (45, op_aald L 46), (46, op_getR L 2 2 49), (49, op_iload 2 50), (50, op_lald L 51), (51, op_lret)] := ⟨sn_iload_n d71_0 rfl, kS_128 wm_5_40 d71_1, sn_ifeq d71_4 (by decide), sn_aload_n d71_7 rfl, sn_getR (by decide) fi_5_4.1 fi_5_4.2 wf_5_24 d71_8, sn_iload_n d71_11 rfl, sn_aald d71_12, kV_17 wm_5_88 d71_13, sn_ifeq d71_16 (by decide), sn_iload_n d71_19 rfl, sn_iconst d71_20 (by decide), sn_aload_n d71_21 rfl, sn_getR (by decide) fi_5_4.1 fi_5_4.2 wf_5_24 d71_22, sn_iload_n d71_25 rfl, sn_aald d71_26, sn_getI (by decide) fi_2_1.1 fi_2_1.2 wf_5_59 d71_27, sn_iconst d71_30 (by decide), sn_isub d71_31, kS_127 wm_5_44 d71_32, sn_ifne d71_35 (by decide), sn_lconst d71_38 (by decide), sn_lret d71_39 rfl, sn_aload_n d71_40 rfl, sn_getR (by decide) fi_5_4.1 fi_5_4.2 wf_5_24 d71_41, sn_iload_n d71_44 rfl, sn_aald d71_45, sn_getR (by decide) fi_2_2.1 fi_2_2.2 wf_5_78 d71_46, sn_iload_n d71_49 rfl, sn_lald d71_50, sn_lret d71_51 rfl, trivial⟩
theorem sd71 : ∀ pc, eb_Snd L q0 71 pc (eb_lg 71) (eb_cd L 71 pc) := eb_AS_all (hk71 (L := L)) (sc71_0)
theorem sc72_0 : eb_AS L q0 72 (eb_lg 72) [(0, op_iload 1 1), (1, op_call 128 1 4), (4, op_ifeq 19 7), (7, op_aload 0 8), (8, op_getR L 5 4 11), (11, op_iload 1 12), (12, op_aald L 13), (13, op_getI L 2 0 16), (16, op_goto 20), (19, op_push (zi (-1)) 20), (20, op_iret)] := ⟨sn_iload_n d72_0 rfl, kS_128 wm_5_40 d72_1, sn_ifeq d72_4 (by decide), sn_aload_n d72_7 rfl, sn_getR (by decide) fi_5_4.1 fi_5_4.2 wf_5_24 d72_8, sn_iload_n d72_11 rfl, sn_aald d72_12, sn_getI (by decide) fi_2_0.1 fi_2_0.2 wf_5_67 d72_13, sn_goto d72_16 (by decide), sn_iconst d72_19 (by decide), sn_iret d72_20 rfl, trivial⟩
theorem sd72 : ∀ pc, eb_Snd L q0 72 pc (eb_lg 72) (eb_cd L 72 pc) := eb_AS_all (hk72 (L := L)) (sc72_0)
theorem sc73_0 : eb_AS L q0 73 (eb_lg 73) [(0, op_iload 1 1), (1, op_call 128 1 4), (4, op_ifeq 15 7), (7, op_aload 0 8), (8, op_iload 2 9), (9, op_call 133 2 12), (12, op_ifne 22 15), (15, op_aload 0 16), (16, op_push (zi (-2)) 18), (18, op_call 125 2 21), (21, op_iret), (22, op_aload 0 23), (23, op_getR L 5 4 26), (26, op_iload 1 27), (27, op_aald L 28), (28, op_iload 2 29), (29, op_push (zi (-1)) 30), (30, op_icne 37 33), (33, op_push (zi (-1)) 34), (34, op_goto 41), (37, op_push (zi 10) 39), (39, op_iload 2 40), (40, op_ii (· + ·) 41), (41, op_putI L 2 0 44), (44, op_push (zi 1) 45), (45, op_iret)] := ⟨sn_iload_n d73_0 rfl, kS_128 wm_5_40 d73_1, sn_ifeq d73_4 (by decide), sn_aload_n d73_7 rfl, sn_iload_n d73_8 rfl, kV_133 wm_5_91 d73_9, sn_ifne d73_12 (by decide), sn_aload_n d73_15 rfl, sn_bipush d73_16 (by decide), kV_125 wm_5_48 d73_18, sn_iret d73_21 rfl, sn_aload_n d73_22 rfl, sn_getR (by decide) fi_5_4.1 fi_5_4.2 wf_5_24 d73_23, sn_iload_n d73_26 rfl, sn_aald d73_27, sn_iload_n d73_28 rfl, sn_iconst d73_29 (by decide), sn_icne d73_30 (by decide), sn_iconst d73_33 (by decide), sn_goto d73_34 (by decide), sn_bipush d73_37 (by decide), sn_iload_n d73_39 rfl, sn_iadd d73_40, sn_putI (by decide) fi_2_0.1 fi_2_0.2 wf_5_67 (Or.inl rfl) fp_2_0 d73_41, sn_iconst d73_44 (by decide), sn_iret d73_45 rfl, trivial⟩
theorem sd73 : ∀ pc, eb_Snd L q0 73 pc (eb_lg 73) (eb_cd L 73 pc) := eb_AS_all (hk73 (L := L)) (sc73_0)
theorem sc74_0 : eb_AS L q0 74 (eb_lg 74) [(0, op_iload 1 1), (1, op_call 128 1 4), (4, op_ifeq 16 7), (7, op_iload 2 8), (8, op_push (zi 0) 9), (9, op_push (zi 5) 10), (10, op_call 127 3 13), (13, op_ifne 23 16), (16, op_aload 0 17), (17, op_push (zi (-2)) 19), (19, op_call 125 2 22), (22, op_iret), (23, op_aload 0 24), (24, op_getR L 5 4 27), (27, op_iload 1 28), (28, op_aald L 29), (29, op_astore 3 30), (30, op_aload 3 31), (31, op_call 17 1 34), (34, op_ifeq 44 37), (37, op_aload 0 38), (38, op_push (zi (-3)) 40), (40, op_call 125 2 43), (43, op_iret), (44, op_aload 3 45), (45, op_getI L 2 0 48), (48, op_push (zi 10) 50), (50, op_ii (· - ·) 51), (51, op_istore 4 53), (53, op_aload 0 54), (54, op_iload 4 56), (56, op_call 132 2 59), (59, op_ifne 69 62), (62, op_aload 0 63), (63, op_push (zi (-4)) 65), (65, op_call 125 2 68), (68, op_iret), (69, op_aload 0 70), (70, op_getR L 5 0 73), (73, op_getR L 4 1 76)] := ⟨sn_iload_n d74_0 rfl, kS_128 wm_5_40 d74_1, sn_ifeq d74_4 (by decide), sn_iload_n d74_7 rfl, sn_iconst d74_8 (by decide), sn_iconst d74_9 (by decide), kS_127 wm_5_44 d74_10, sn_ifne d74_13 (by decide), sn_aload_n d74_16 rfl, sn_bipush d74_17 (by decide), kV_125 wm_5_48 d74_19, sn_iret d74_22 rfl, sn_aload_n d74_23 rfl, sn_getR (by decide) fi_5_4.1 fi_5_4.2 wf_5_24 d74_24, sn_iload_n d74_27 rfl, sn_aald d74_28, sn_astore_n (eb_hlg (Or.inl rfl)) hn74_3 d74_29 rfl, sn_aload_n d74_30 rfl, kV_17 wm_5_88 d74_31, sn_ifeq d74_34 (by decide), sn_aload_n d74_37 rfl, sn_bipush d74_38 (by decide), kV_125 wm_5_48 d74_40, sn_iret d74_43 rfl, sn_aload_n d74_44 rfl, sn_getI (by decide) fi_2_0.1 fi_2_0.2 wf_5_67 d74_45, sn_bipush d74_48 (by decide), sn_isub d74_50, sn_istore (eb_hlg (Or.inl rfl)) hn74_4 d74_51, sn_aload_n d74_53 rfl, sn_iload d74_54, kV_132 wm_5_94 d74_56, sn_ifne d74_59 (by decide), sn_aload_n d74_62 rfl, sn_bipush d74_63 (by decide), kV_125 wm_5_48 d74_65, sn_iret d74_68 rfl, sn_aload_n d74_69 rfl, sn_getR (by decide) fi_5_0.1 fi_5_0.2 wf_5_10 d74_70, sn_getR (by decide) fi_4_1.1 fi_4_1.2 wf_5_97 d74_73, trivial⟩
theorem sc74_1 : eb_AS L q0 74 (eb_lg 74) [(76, op_iload 4 78), (78, op_aald L 79), (79, op_astore 5 81), (81, op_aload 5 83), (83, op_iload 2 84), (84, op_call 2 2 87), (87, op_ifne 97 90), (90, op_aload 0 91), (91, op_push (zi (-3)) 93), (93, op_call 125 2 96), (96, op_iret), (97, op_iload 2 98), (98, op_ifne 109 101), (101, op_aload 5 103), (103, op_getI L 0 1 106), (106, op_goto 118), (109, op_aload 0 110), (110, op_getR L 5 0 113), (113, op_aload 5 115), (115, op_call 48 2 118), (118, op_iret)] := ⟨sn_iload d74_76, sn_aald d74_78, sn_astore (eb_hlg (Or.inl rfl)) hn74_5 d74_79, sn_aload d74_81, sn_iload_n d74_83 rfl, kV_2 wm_5_101 d74_84, sn_ifne d74_87 (by decide), sn_aload_n d74_90 rfl, sn_bipush d74_91 (by decide), kV_125 wm_5_48 d74_93, sn_iret d74_96 rfl, sn_iload_n d74_97 rfl, sn_ifne d74_98 (by decide), sn_aload d74_101, sn_getI (by decide) fi_0_1.1 fi_0_1.2 wf_5_106 d74_103, sn_goto d74_106 (by decide), sn_aload_n d74_109 rfl, sn_getR (by decide) fi_5_0.1 fi_5_0.2 wf_5_10 d74_110, sn_aload d74_113, kV_48 wm_5_109 d74_115, sn_iret d74_118 rfl, trivial⟩
theorem sd74 : ∀ pc, eb_Snd L q0 74 pc (eb_lg 74) (eb_cd L 74 pc) := eb_AS_all (hk74 (L := L)) (eb_AS_app sc74_0 (sc74_1))
theorem sc75_0 : eb_AS L q0 75 (eb_lg 75) [(0, op_iload 1 1), (1, op_call 129 1 4), (4, op_ifeq 27 7), (7, op_iload 2 8), (8, op_push (zi 1) 9), (9, op_push (zi 20) 11), (11, op_call 127 3 14), (14, op_ifeq 27 17), (17, op_iload 3 18), (18, op_push (zi 0) 19), (19, op_push (zi 99) 21), (21, op_call 127 3 24), (24, op_ifne 34 27), (27, op_aload 0 28), (28, op_push (zi (-2)) 30), (30, op_call 125 2 33), (33, op_iret), (34, op_aload 0 35), (35, op_getR L 5 0 38), (38, op_iload 1 39), (39, op_iload 2 40), (40, op_iload 3 41), (41, op_call 40 4 44), (44, op_istore 4 46), (46, op_iload 4 48), (48, op_push (zi (-1)) 49), (49, op_icne 61 52), (52, op_aload 0 53), (53, op_push (zi (-6)) 55), (55, op_call 125 2 58), (58, op_goto 63), (61, op_iload 4 63), (63, op_iret)] := ⟨sn_iload_n d75_0 rfl, kS_129 wm_5_113 d75_1, sn_ifeq d75_4 (by decide), sn_iload_n d75_7 rfl, sn_iconst d75_8 (by decide), sn_bipush d75_9 (by decide), kS_127 wm_5_44 d75_11, sn_ifeq d75_14 (by decide), sn_iload_n d75_17 rfl, sn_iconst d75_18 (by decide), sn_bipush d75_19 (by decide), kS_127 wm_5_44 d75_21, sn_ifne d75_24 (by decide), sn_aload_n d75_27 rfl, sn_bipush d75_28 (by decide), kV_125 wm_5_48 d75_30, sn_iret d75_33 rfl, sn_aload_n d75_34 rfl, sn_getR (by decide) fi_5_0.1 fi_5_0.2 wf_5_10 d75_35, sn_iload_n d75_38 rfl, sn_iload_n d75_39 rfl, sn_iload_n d75_40 rfl, kV_40 wm_5_116 d75_41, sn_istore (eb_hlg (Or.inl rfl)) hn75_4 d75_44, sn_iload d75_46, sn_iconst d75_48 (by decide), sn_icne d75_49 (by decide), sn_aload_n d75_52 rfl, sn_bipush d75_53 (by decide), kV_125 wm_5_48 d75_55, sn_goto d75_58 (by decide), sn_iload d75_61, sn_iret d75_63 rfl, trivial⟩
theorem sd75 : ∀ pc, eb_Snd L q0 75 pc (eb_lg 75) (eb_cd L 75 pc) := eb_AS_all (hk75 (L := L)) (sc75_0)
theorem sc76_0 : eb_AS L q0 76 (eb_lg 76) [(0, op_iload 1 1), (1, op_push (zi 0) 2), (2, op_push (zi 5) 3), (3, op_call 127 3 6), (6, op_ifeq 29 9), (9, op_iload 2 10), (10, op_push (zi 1) 11), (11, op_push (zi 30) 13), (13, op_call 127 3 16), (16, op_ifeq 29 19), (19, op_iload 3 20), (20, op_push (zi 0) 21), (21, op_push (zi 99) 23), (23, op_call 127 3 26), (26, op_ifne 36 29), (29, op_aload 0 30), (30, op_push (zi (-2)) 32), (32, op_call 125 2 35), (35, op_iret), (36, op_aload 0 37), (37, op_getR L 5 0 40), (40, op_iload 1 41), (41, op_iload 2 42), (42, op_iload 3 43), (43, op_call 41 4 46), (46, op_istore 4 48), (48, op_iload 4 50), (50, op_push (zi (-1)) 51), (51, op_icne 63 54), (54, op_aload 0 55), (55, op_push (zi (-6)) 57), (57, op_call 125 2 60), (60, op_goto 65), (63, op_iload 4 65), (65, op_iret)] := ⟨sn_iload_n d76_0 rfl, sn_iconst d76_1 (by decide), sn_iconst d76_2 (by decide), kS_127 wm_5_44 d76_3, sn_ifeq d76_6 (by decide), sn_iload_n d76_9 rfl, sn_iconst d76_10 (by decide), sn_bipush d76_11 (by decide), kS_127 wm_5_44 d76_13, sn_ifeq d76_16 (by decide), sn_iload_n d76_19 rfl, sn_iconst d76_20 (by decide), sn_bipush d76_21 (by decide), kS_127 wm_5_44 d76_23, sn_ifne d76_26 (by decide), sn_aload_n d76_29 rfl, sn_bipush d76_30 (by decide), kV_125 wm_5_48 d76_32, sn_iret d76_35 rfl, sn_aload_n d76_36 rfl, sn_getR (by decide) fi_5_0.1 fi_5_0.2 wf_5_10 d76_37, sn_iload_n d76_40 rfl, sn_iload_n d76_41 rfl, sn_iload_n d76_42 rfl, kV_41 wm_5_120 d76_43, sn_istore (eb_hlg (Or.inl rfl)) hn76_4 d76_46, sn_iload d76_48, sn_iconst d76_50 (by decide), sn_icne d76_51 (by decide), sn_aload_n d76_54 rfl, sn_bipush d76_55 (by decide), kV_125 wm_5_48 d76_57, sn_goto d76_60 (by decide), sn_iload d76_63, sn_iret d76_65 rfl, trivial⟩
theorem sd76 : ∀ pc, eb_Snd L q0 76 pc (eb_lg 76) (eb_cd L 76 pc) := eb_AS_all (hk76 (L := L)) (sc76_0)
theorem sc77_0 : eb_AS L q0 77 (eb_lg 77) [(0, op_aload 0 1), (1, op_iload 1 2), (2, op_call 131 2 5), (5, op_ifeq 36 8), (8, op_iload 2 9), (9, op_push (zi 0) 10), (10, op_push (zi 1) 11), (11, op_call 127 3 14), (14, op_ifeq 36 17), (17, op_iload 3 18), (18, op_push (zi 0) 19), (19, op_iload 2 20), (20, op_ifne 28 23), (23, op_push (zi 100) 25), (25, op_goto 30), (28, op_push (zi 99) 30), (30, op_call 127 3 33), (33, op_ifne 43 36), (36, op_aload 0 37), (37, op_push (zi (-2)) 39), (39, op_call 125 2 42), (42, op_iret), (43, op_aload 0 44), (44, op_getR L 5 0 47), (47, op_getR L 4 0 50), (50, op_iload 1 51), (51, op_aald L 52), (52, op_astore 4 54), (54, op_iload 2 55), (55, op_ifne 66 58), (58, op_aload 4 60), (60, op_getI L 1 0 63), (63, op_goto 71), (66, op_aload 4 68), (68, op_getI L 1 3 71), (71, op_istore 5 73), (73, op_iload 2 74), (74, op_ifne 86 77), (77, op_aload 4 79), (79, op_iload 3 80)] := ⟨sn_aload_n d77_0 rfl, sn_iload_n d77_1 rfl, kV_131 wm_5_123 d77_2, sn_ifeq d77_5 (by decide), sn_iload_n d77_8 rfl, sn_iconst d77_9 (by decide), sn_iconst d77_10 (by decide), kS_127 wm_5_44 d77_11, sn_ifeq d77_14 (by decide), sn_iload_n d77_17 rfl, sn_iconst d77_18 (by decide), sn_iload_n d77_19 rfl, sn_ifne d77_20 (by decide), sn_bipush d77_23 (by decide), sn_goto d77_25 (by decide), sn_bipush d77_28 (by decide), kS_127 wm_5_44 d77_30, sn_ifne d77_33 (by decide), sn_aload_n d77_36 rfl, sn_bipush d77_37 (by decide), kV_125 wm_5_48 d77_39, sn_iret d77_42 rfl, sn_aload_n d77_43 rfl, sn_getR (by decide) fi_5_0.1 fi_5_0.2 wf_5_10 d77_44, sn_getR (by decide) fi_4_0.1 fi_4_0.2 wf_5_126 d77_47, sn_iload_n d77_50 rfl, sn_aald d77_51, sn_astore (eb_hlg (Or.inl rfl)) hn77_4 d77_52, sn_iload_n d77_54 rfl, sn_ifne d77_55 (by decide), sn_aload d77_58, sn_getI (by decide) fi_1_0.1 fi_1_0.2 wf_5_130 d77_60, sn_goto d77_63 (by decide), sn_aload d77_66, sn_getI (by decide) fi_1_3.1 fi_1_3.2 wf_5_135 d77_68, sn_istore (eb_hlg (Or.inl rfl)) hn77_5 d77_71, sn_iload_n d77_73 rfl, sn_ifne d77_74 (by decide), sn_aload d77_77, sn_iload_n d77_79 rfl, trivial⟩
theorem sc77_1 : eb_AS L q0 77 (eb_lg 77) [(80, op_putI L 1 0 83), (83, op_goto 92), (86, op_aload 4 88), (88, op_iload 3 89), (89, op_putI L 1 3 92), (92, op_iload 5 94), (94, op_iret)] := ⟨sn_putI (by decide) fi_1_0.1 fi_1_0.2 wf_5_130 (Or.inl rfl) fp_1_0 d77_80, sn_goto d77_83 (by decide), sn_aload d77_86, sn_iload_n d77_88 rfl, sn_putI (by decide) fi_1_3.1 fi_1_3.2 wf_5_135 (Or.inl rfl) fp_1_3 d77_89, sn_iload d77_92, sn_iret d77_94 rfl, trivial⟩
theorem sd77 : ∀ pc, eb_Snd L q0 77 pc (eb_lg 77) (eb_cd L 77 pc) := eb_AS_all (hk77 (L := L)) (eb_AS_app sc77_0 (sc77_1))
theorem sc78_0 : eb_AS L q0 78 (eb_lg 78) [(0, op_aload 0 1), (1, op_iload 1 2), (2, op_call 131 2 5), (5, op_ifeq 20 8), (8, op_iload 2 9), (9, op_push (zi (-1)) 10), (10, op_iceq 27 13), (13, op_iload 2 14), (14, op_call 129 1 17), (17, op_ifne 27 20), (20, op_aload 0 21), (21, op_push (zi (-2)) 23), (23, op_call 125 2 26), (26, op_iret), (27, op_aload 0 28), (28, op_getR L 5 0 31), (31, op_getR L 4 0 34), (34, op_iload 1 35), (35, op_aald L 36), (36, op_getI L 1 4 39), (39, op_istore 3 40), (40, op_aload 0 41), (41, op_getR L 5 0 44), (44, op_getR L 4 0 47), (47, op_iload 1 48), (48, op_aald L 49), (49, op_iload 2 50), (50, op_putI L 1 4 53), (53, op_iload 3 54), (54, op_iret)] := ⟨sn_aload_n d78_0 rfl, sn_iload_n d78_1 rfl, kV_131 wm_5_123 d78_2, sn_ifeq d78_5 (by decide), sn_iload_n d78_8 rfl, sn_iconst d78_9 (by decide), sn_iceq d78_10 (by decide), sn_iload_n d78_13 rfl, kS_129 wm_5_113 d78_14, sn_ifne d78_17 (by decide), sn_aload_n d78_20 rfl, sn_bipush d78_21 (by decide), kV_125 wm_5_48 d78_23, sn_iret d78_26 rfl, sn_aload_n d78_27 rfl, sn_getR (by decide) fi_5_0.1 fi_5_0.2 wf_5_10 d78_28, sn_getR (by decide) fi_4_0.1 fi_4_0.2 wf_5_126 d78_31, sn_iload_n d78_34 rfl, sn_aald d78_35, sn_getI (by decide) fi_1_4.1 fi_1_4.2 wf_5_138 d78_36, sn_istore_n (eb_hlg (Or.inl rfl)) hn78_3 d78_39 rfl, sn_aload_n d78_40 rfl, sn_getR (by decide) fi_5_0.1 fi_5_0.2 wf_5_10 d78_41, sn_getR (by decide) fi_4_0.1 fi_4_0.2 wf_5_126 d78_44, sn_iload_n d78_47 rfl, sn_aald d78_48, sn_iload_n d78_49 rfl, sn_putI (by decide) fi_1_4.1 fi_1_4.2 wf_5_138 (Or.inl rfl) fp_1_4 d78_50, sn_iload_n d78_53 rfl, sn_iret d78_54 rfl, trivial⟩
theorem sd78 : ∀ pc, eb_Snd L q0 78 pc (eb_lg 78) (eb_cd L 78 pc) := eb_AS_all (hk78 (L := L)) (sc78_0)
theorem sc79_0 : eb_AS L q0 79 (eb_lg 79) [(0, op_aload 0 1), (1, op_iload 1 2), (2, op_call 134 2 5), (5, op_ifeq 19 8), (8, op_aload 0 9), (9, op_getR L 5 0 12), (12, op_iload 1 13), (13, op_call 42 2 16), (16, op_goto 25), (19, op_aload 0 20), (20, op_push (zi (-2)) 22), (22, op_call 125 2 25), (25, op_iret)] := ⟨sn_aload_n d79_0 rfl, sn_iload_n d79_1 rfl, kV_134 wm_5_141 d79_2, sn_ifeq d79_5 (by decide), sn_aload_n d79_8 rfl, sn_getR (by decide) fi_5_0.1 fi_5_0.2 wf_5_10 d79_9, sn_iload_n d79_12 rfl, kV_42 wm_5_144 d79_13, sn_goto d79_16 (by decide), sn_aload_n d79_19 rfl, sn_bipush d79_20 (by decide), kV_125 wm_5_48 d79_22, sn_iret d79_25 rfl, trivial⟩
theorem sd79 : ∀ pc, eb_Snd L q0 79 pc (eb_lg 79) (eb_cd L 79 pc) := eb_AS_all (hk79 (L := L)) (sc79_0)
theorem sc80_0 : eb_AS L q0 80 (eb_lg 80) [(0, op_aload 0 1), (1, op_iload 1 2), (2, op_call 131 2 5), (5, op_ifeq 15 8), (8, op_iload 2 9), (9, op_call 129 1 12), (12, op_ifne 22 15), (15, op_aload 0 16), (16, op_push (zi (-2)) 18), (18, op_call 125 2 21), (21, op_iret), (22, op_aload 0 23), (23, op_getR L 5 0 26), (26, op_getR L 4 0 29), (29, op_iload 1 30), (30, op_aald L 31), (31, op_iload 2 32), (32, op_call 10 2 35), (35, op_ifeq 53 38), (38, op_aload 0 39), (39, op_getR L 5 0 42), (42, op_getR L 4 0 45), (45, op_iload 1 46), (46, op_aald L 47), (47, op_getI L 1 5 50), (50, op_goto 59), (53, op_aload 0 54), (54, op_push (zi (-6)) 56), (56, op_call 125 2 59), (59, op_iret)] := ⟨sn_aload_n d80_0 rfl, sn_iload_n d80_1 rfl, kV_131 wm_5_123 d80_2, sn_ifeq d80_5 (by decide), sn_iload_n d80_8 rfl, kS_129 wm_5_113 d80_9, sn_ifne d80_12 (by decide), sn_aload_n d80_15 rfl, sn_bipush d80_16 (by decide), kV_125 wm_5_48 d80_18, sn_iret d80_21 rfl, sn_aload_n d80_22 rfl, sn_getR (by decide) fi_5_0.1 fi_5_0.2 wf_5_10 d80_23, sn_getR (by decide) fi_4_0.1 fi_4_0.2 wf_5_126 d80_26, sn_iload_n d80_29 rfl, sn_aald d80_30, sn_iload_n d80_31 rfl, kV_10 wm_5_147 d80_32, sn_ifeq d80_35 (by decide), sn_aload_n d80_38 rfl, sn_getR (by decide) fi_5_0.1 fi_5_0.2 wf_5_10 d80_39, sn_getR (by decide) fi_4_0.1 fi_4_0.2 wf_5_126 d80_42, sn_iload_n d80_45 rfl, sn_aald d80_46, sn_getI (by decide) fi_1_5.1 fi_1_5.2 wf_5_150 d80_47, sn_goto d80_50 (by decide), sn_aload_n d80_53 rfl, sn_bipush d80_54 (by decide), kV_125 wm_5_48 d80_56, sn_iret d80_59 rfl, trivial⟩
theorem sd80 : ∀ pc, eb_Snd L q0 80 pc (eb_lg 80) (eb_cd L 80 pc) := eb_AS_all (hk80 (L := L)) (sc80_0)
theorem sc81_0 : eb_AS L q0 81 (eb_lg 81) [(0, op_iload 1 1), (1, op_push (zi 0) 2), (2, op_push (zi 99) 4), (4, op_call 127 3 7), (7, op_ifne 17 10), (10, op_aload 0 11), (11, op_push (zi (-2)) 13), (13, op_call 125 2 16), (16, op_iret), (17, op_aload 0 18), (18, op_getR L 5 0 21), (21, op_getI L 4 4 24), (24, op_istore 2 25), (25, op_aload 0 26), (26, op_getR L 5 0 29), (29, op_iload 1 30), (30, op_putI L 4 4 33), (33, op_iload 2 34), (34, op_iret)] := ⟨sn_iload_n d81_0 rfl, sn_iconst d81_1 (by decide), sn_bipush d81_2 (by decide), kS_127 wm_5_44 d81_4, sn_ifne d81_7 (by decide), sn_aload_n d81_10 rfl, sn_bipush d81_11 (by decide), kV_125 wm_5_48 d81_13, sn_iret d81_16 rfl, sn_aload_n d81_17 rfl, sn_getR (by decide) fi_5_0.1 fi_5_0.2 wf_5_10 d81_18, sn_getI (by decide) fi_4_4.1 fi_4_4.2 wf_5_153 d81_21, sn_istore_n (eb_hlg (Or.inl rfl)) hn81_2 d81_24 rfl, sn_aload_n d81_25 rfl, sn_getR (by decide) fi_5_0.1 fi_5_0.2 wf_5_10 d81_26, sn_iload_n d81_29 rfl, sn_putI (by decide) fi_4_4.1 fi_4_4.2 wf_5_153 (Or.inl rfl) fp_4_4 d81_30, sn_iload_n d81_33 rfl, sn_iret d81_34 rfl, trivial⟩
theorem sd81 : ∀ pc, eb_Snd L q0 81 pc (eb_lg 81) (eb_cd L 81 pc) := eb_AS_all (hk81 (L := L)) (sc81_0)
theorem sc82_0 : eb_AS L q0 82 (eb_lg 82) [(0, op_aload 0 1), (1, op_iload 1 2), (2, op_call 132 2 5), (5, op_ifeq 18 8), (8, op_iload 2 9), (9, op_push (zi 1) 10), (10, op_push (zi 30) 12), (12, op_call 127 3 15), (15, op_ifne 25 18), (18, op_aload 0 19), (19, op_push (zi (-2)) 21), (21, op_call 125 2 24), (24, op_iret), (25, op_aload 0 26), (26, op_getR L 5 0 29), (29, op_getR L 4 1 32), (32, op_iload 1 33), (33, op_aald L 34), (34, op_getI L 0 1 37), (37, op_istore 3 38), (38, op_aload 0 39), (39, op_getR L 5 0 42), (42, op_getR L 4 1 45), (45, op_iload 1 46), (46, op_aald L 47), (47, op_iload 2 48), (48, op_putI L 0 1 51), (51, op_iload 3 52), (52, op_iret)] := ⟨sn_aload_n d82_0 rfl, sn_iload_n d82_1 rfl, kV_132 wm_5_94 d82_2, sn_ifeq d82_5 (by decide), sn_iload_n d82_8 rfl, sn_iconst d82_9 (by decide), sn_bipush d82_10 (by decide), kS_127 wm_5_44 d82_12, sn_ifne d82_15 (by decide), sn_aload_n d82_18 rfl, sn_bipush d82_19 (by decide), kV_125 wm_5_48 d82_21, sn_iret d82_24 rfl, sn_aload_n d82_25 rfl, sn_getR (by decide) fi_5_0.1 fi_5_0.2 wf_5_10 d82_26, sn_getR (by decide) fi_4_1.1 fi_4_1.2 wf_5_97 d82_29, sn_iload_n d82_32 rfl, sn_aald d82_33, sn_getI (by decide) fi_0_1.1 fi_0_1.2 wf_5_106 d82_34, sn_istore_n (eb_hlg (Or.inl rfl)) hn82_3 d82_37 rfl, sn_aload_n d82_38 rfl, sn_getR (by decide) fi_5_0.1 fi_5_0.2 wf_5_10 d82_39, sn_getR (by decide) fi_4_1.1 fi_4_1.2 wf_5_97 d82_42, sn_iload_n d82_45 rfl, sn_aald d82_46, sn_iload_n d82_47 rfl, sn_putI (by decide) fi_0_1.1 fi_0_1.2 wf_5_106 (Or.inl rfl) fp_0_1 d82_48, sn_iload_n d82_51 rfl, sn_iret d82_52 rfl, trivial⟩
theorem sd82 : ∀ pc, eb_Snd L q0 82 pc (eb_lg 82) (eb_cd L 82 pc) := eb_AS_all (hk82 (L := L)) (sc82_0)
theorem sc83_0 : eb_AS L q0 83 (eb_lg 83) [(0, op_iload 1 1), (1, op_push (zi 0) 2), (2, op_push (zi 255) 5), (5, op_call 127 3 8), (8, op_ifne 18 11), (11, op_aload 0 12), (12, op_push (zi (-2)) 14), (14, op_call 125 2 17), (17, op_iret), (18, op_aload 0 19), (19, op_getR L 5 5 22), (22, op_iload 1 23), (23, op_call 24 2 26), (26, op_ifeq 39 29), (29, op_aload 0 30), (30, op_getR L 5 5 33), (33, op_getI L 3 1 36), (36, op_goto 45), (39, op_aload 0 40), (40, op_push (zi (-6)) 42), (42, op_call 125 2 45), (45, op_iret)] := ⟨sn_iload_n d83_0 rfl, sn_iconst d83_1 (by decide), sn_sipush d83_2 (by decide), kS_127 wm_5_44 d83_5, sn_ifne d83_8 (by decide), sn_aload_n d83_11 rfl, sn_bipush d83_12 (by decide), kV_125 wm_5_48 d83_14, sn_iret d83_17 rfl, sn_aload_n d83_18 rfl, sn_getR (by decide) fi_5_5.1 fi_5_5.2 wf_5_31 d83_19, sn_iload_n d83_22 rfl, kV_24 wm_5_156 d83_23, sn_ifeq d83_26 (by decide), sn_aload_n d83_29 rfl, sn_getR (by decide) fi_5_5.1 fi_5_5.2 wf_5_31 d83_30, sn_getI (by decide) fi_3_1.1 fi_3_1.2 wf_5_159 d83_33, sn_goto d83_36 (by decide), sn_aload_n d83_39 rfl, sn_bipush d83_40 (by decide), kV_125 wm_5_48 d83_42, sn_iret d83_45 rfl, trivial⟩
theorem sd83 : ∀ pc, eb_Snd L q0 83 pc (eb_lg 83) (eb_cd L 83 pc) := eb_AS_all (hk83 (L := L)) (sc83_0)
theorem sc84_0 : eb_AS L q0 84 (eb_lg 84) [(0, op_aload 0 1), (1, op_getR L 5 5 4), (4, op_getI L 3 1 7), (7, op_istore 1 8), (8, op_aload 0 9), (9, op_getR L 5 5 12), (12, op_push (zi 0) 13), (13, op_putI L 3 1 16), (16, op_iload 1 17), (17, op_iret)] := ⟨sn_aload_n d84_0 rfl, sn_getR (by decide) fi_5_5.1 fi_5_5.2 wf_5_31 d84_1, sn_getI (by decide) fi_3_1.1 fi_3_1.2 wf_5_159 d84_4, sn_istore_n (eb_hlg (Or.inl rfl)) hn84_1 d84_7 rfl, sn_aload_n d84_8 rfl, sn_getR (by decide) fi_5_5.1 fi_5_5.2 wf_5_31 d84_9, sn_iconst d84_12 (by decide), sn_putI (by decide) fi_3_1.1 fi_3_1.2 wf_5_159 (Or.inl rfl) fp_3_1 d84_13, sn_iload_n d84_16 rfl, sn_iret d84_17 rfl, trivial⟩
theorem sd84 : ∀ pc, eb_Snd L q0 84 pc (eb_lg 84) (eb_cd L 84 pc) := eb_AS_all (hk84 (L := L)) (sc84_0)
theorem sc85_0 : eb_AS L q0 85 (eb_lg 85) [(0, op_aload 0 1), (1, op_getR L 5 5 4), (4, op_aload 0 5), (5, op_call 138 1 8), (8, op_call 25 2 11), (11, op_istore 1 12), (12, op_aload 0 13), (13, op_getR L 5 5 16), (16, op_push (zi 0) 17), (17, op_putI L 3 1 20), (20, op_iload 1 21), (21, op_push (zi (-1)) 22), (22, op_icne 43 25), (25, op_aload 0 26), (26, op_push (zi (-2)) 28), (28, op_call 125 2 31), (31, op_pop 32), (32, op_push (zi (-20)) 34), (34, op_aload 0 35), (35, op_getR L 5 5 38), (38, op_getI L 3 2 41), (41, op_ii (· - ·) 42), (42, op_iret), (43, op_aload 0 44), (44, op_getR L 5 0 47), (47, op_aload 0 48), (48, op_getR L 5 1 51), (51, op_callv 39 2 54), (54, op_iload 1 55), (55, op_iret)] := ⟨sn_aload_n d85_0 rfl, sn_getR (by decide) fi_5_5.1 fi_5_5.2 wf_5_31 d85_1, sn_aload_n d85_4 rfl, kV_138 wm_5_160 d85_5, kV_25 wm_5_164 d85_8, sn_istore_n (eb_hlg (Or.inl rfl)) hn85_1 d85_11 rfl, sn_aload_n d85_12 rfl, sn_getR (by decide) fi_5_5.1 fi_5_5.2 wf_5_31 d85_13, sn_iconst d85_16 (by decide), sn_putI (by decide) fi_3_1.1 fi_3_1.2 wf_5_159 (Or.inl rfl) fp_3_1 d85_17, sn_iload_n d85_20 rfl, sn_iconst d85_21 (by decide), sn_icne d85_22 (by decide), sn_aload_n d85_25 rfl, sn_bipush d85_26 (by decide), kV_125 wm_5_48 d85_28, sn_pop d85_31, sn_bipush d85_32 (by decide), sn_aload_n d85_34 rfl, sn_getR (by decide) fi_5_5.1 fi_5_5.2 wf_5_31 d85_35, sn_getI (by decide) fi_3_2.1 fi_3_2.2 wf_5_168 d85_38, sn_isub d85_41, sn_iret d85_42 rfl, sn_aload_n d85_43 rfl, sn_getR (by decide) fi_5_0.1 fi_5_0.2 wf_5_10 d85_44, sn_aload_n d85_47 rfl, sn_getR (by decide) fi_5_1.1 fi_5_1.2 wf_5_16 d85_48, kV_39 wm_5_171 d85_51, sn_iload_n d85_54 rfl, sn_iret d85_55 rfl, trivial⟩
theorem sd85 : ∀ pc, eb_Snd L q0 85 pc (eb_lg 85) (eb_cd L 85 pc) := eb_AS_all (hk85 (L := L)) (sc85_0)
theorem sc86_0 : eb_AS L q0 86 (eb_lg 86) [(0, op_aload 0 1), (1, op_iload 1 2), (2, op_call 131 2 5), (5, op_ifne 15 8), (8, op_aload 0 9), (9, op_push (zi (-2)) 11), (11, op_call 125 2 14), (14, op_iret), (15, op_aload 0 16), (16, op_getR L 5 0 19), (19, op_getR L 4 0 22), (22, op_iload 1 23), (23, op_aald L 24), (24, op_astore 3 25), (25, op_iload 2 26), (26, op_sw [(0, 68), (1, 73), (2, 78), (3, 83), (4, 88), (5, 93), (6, 98)] 103), (68, op_aload 3 69), (69, op_getI L 1 0 72), (72, op_iret), (73, op_aload 3 74), (74, op_getI L 1 1 77), (77, op_iret), (78, op_aload 3 79), (79, op_getI L 1 2 82), (82, op_iret), (83, op_aload 3 84), (84, op_getI L 1 3 87), (87, op_iret), (88, op_aload 3 89), (89, op_getI L 1 4 92), (92, op_iret), (93, op_aload 3 94), (94, op_getI L 1 5 97), (97, op_iret), (98, op_aload 3 99), (99, op_getI L 1 6 102), (102, op_iret), (103, op_aload 0 104), (104, op_push (zi (-2)) 106), (106, op_call 125 2 109)] := ⟨sn_aload_n d86_0 rfl, sn_iload_n d86_1 rfl, kV_131 wm_5_123 d86_2, sn_ifne d86_5 (by decide), sn_aload_n d86_8 rfl, sn_bipush d86_9 (by decide), kV_125 wm_5_48 d86_11, sn_iret d86_14 rfl, sn_aload_n d86_15 rfl, sn_getR (by decide) fi_5_0.1 fi_5_0.2 wf_5_10 d86_16, sn_getR (by decide) fi_4_0.1 fi_4_0.2 wf_5_126 d86_19, sn_iload_n d86_22 rfl, sn_aald d86_23, sn_astore_n (eb_hlg (Or.inl rfl)) hn86_3 d86_24 rfl, sn_iload_n d86_25 rfl, sn_sw d86_26 (by decide) (by decide +kernel) (by decide), sn_aload_n d86_68 rfl, sn_getI (by decide) fi_1_0.1 fi_1_0.2 wf_5_130 d86_69, sn_iret d86_72 rfl, sn_aload_n d86_73 rfl, sn_getI (by decide) fi_1_1.1 fi_1_1.2 wf_5_175 d86_74, sn_iret d86_77 rfl, sn_aload_n d86_78 rfl, sn_getI (by decide) fi_1_2.1 fi_1_2.2 wf_5_178 d86_79, sn_iret d86_82 rfl, sn_aload_n d86_83 rfl, sn_getI (by decide) fi_1_3.1 fi_1_3.2 wf_5_135 d86_84, sn_iret d86_87 rfl, sn_aload_n d86_88 rfl, sn_getI (by decide) fi_1_4.1 fi_1_4.2 wf_5_138 d86_89, sn_iret d86_92 rfl, sn_aload_n d86_93 rfl, sn_getI (by decide) fi_1_5.1 fi_1_5.2 wf_5_150 d86_94, sn_iret d86_97 rfl, sn_aload_n d86_98 rfl, sn_getI (by decide) fi_1_6.1 fi_1_6.2 wf_5_181 d86_99, sn_iret d86_102 rfl, sn_aload_n d86_103 rfl, sn_bipush d86_104 (by decide), kV_125 wm_5_48 d86_106, trivial⟩
theorem sc86_1 : eb_AS L q0 86 (eb_lg 86) [(109, op_iret)] := ⟨sn_iret d86_109 rfl, trivial⟩
theorem sd86 : ∀ pc, eb_Snd L q0 86 pc (eb_lg 86) (eb_cd L 86 pc) := eb_AS_all (hk86 (L := L)) (eb_AS_app sc86_0 (sc86_1))
theorem sc87_0 : eb_AS L q0 87 (eb_lg 87) [(0, op_aload 0 1), (1, op_iload 1 2), (2, op_call 132 2 5), (5, op_ifne 15 8), (8, op_aload 0 9), (9, op_push (zi (-2)) 11), (11, op_call 125 2 14), (14, op_iret), (15, op_aload 0 16), (16, op_getR L 5 0 19), (19, op_getR L 4 1 22), (22, op_iload 1 23), (23, op_aald L 24), (24, op_astore 3 25), (25, op_iload 2 26), (26, op_sw [(0, 52), (1, 57), (2, 62)] 67), (52, op_aload 3 53), (53, op_getI L 0 0 56), (56, op_iret), (57, op_aload 3 58), (58, op_getI L 0 1 61), (61, op_iret), (62, op_aload 3 63), (63, op_getI L 0 2 66), (66, op_iret), (67, op_aload 0 68), (68, op_push (zi (-2)) 70), (70, op_call 125 2 73), (73, op_iret)] := ⟨sn_aload_n d87_0 rfl, sn_iload_n d87_1 rfl, kV_132 wm_5_94 d87_2, sn_ifne d87_5 (by decide), sn_aload_n d87_8 rfl, sn_bipush d87_9 (by decide), kV_125 wm_5_48 d87_11, sn_iret d87_14 rfl, sn_aload_n d87_15 rfl, sn_getR (by decide) fi_5_0.1 fi_5_0.2 wf_5_10 d87_16, sn_getR (by decide) fi_4_1.1 fi_4_1.2 wf_5_97 d87_19, sn_iload_n d87_22 rfl, sn_aald d87_23, sn_astore_n (eb_hlg (Or.inl rfl)) hn87_3 d87_24 rfl, sn_iload_n d87_25 rfl, sn_sw d87_26 (by decide) (by decide +kernel) (by decide), sn_aload_n d87_52 rfl, sn_getI (by decide) fi_0_0.1 fi_0_0.2 wf_5_184 d87_53, sn_iret d87_56 rfl, sn_aload_n d87_57 rfl, sn_getI (by decide) fi_0_1.1 fi_0_1.2 wf_5_106 d87_58, sn_iret d87_61 rfl, sn_aload_n d87_62 rfl, sn_getI (by decide) fi_0_2.1 fi_0_2.2 wf_5_187 d87_63, sn_iret d87_66 rfl, sn_aload_n d87_67 rfl, sn_bipush d87_68 (by decide), kV_125 wm_5_48 d87_70, sn_iret d87_73 rfl, trivial⟩
theorem sd87 : ∀ pc, eb_Snd L q0 87 pc (eb_lg 87) (eb_cd L 87 pc) := eb_AS_all (hk87 (L := L)) (sc87_0)
theorem sc88_0 : eb_AS L q0 88 (eb_lg 88) [(0, op_aload 0 1), (1, op_iload 1 2), (2, op_call 132 2 5), (5, op_ifeq 16 8), (8, op_aload 0 9), (9, op_iload 2 10), (10, op_call 131 2 13), (13, op_ifne 23 16), (16, op_aload 0 17), (17, op_push (zi (-2)) 19), (19, op_call 126 2 22), (22, op_iret), (23, op_aload 0 24), (24, op_getR L 5 0 27), (27, op_aload 0 28), (28, op_getR L 5 0 31), (31, op_getR L 4 1 34), (34, op_iload 1 35), (35, op_aald L 36), (36, op_aload 0 37), (37, op_getR L 5 0 40), (40, op_getR L 4 0 43), (43, op_iload 2 44), (44, op_aald L 45), (45, op_call 47 3 48), (48, op_iret)] := ⟨sn_aload_n d88_0 rfl, sn_iload_n d88_1 rfl, kV_132 wm_5_94 d88_2, sn_ifeq d88_5 (by decide), sn_aload_n d88_8 rfl, sn_iload_n d88_9 rfl, kV_131 wm_5_123 d88_10, sn_ifne d88_13 (by decide), sn_aload_n d88_16 rfl, sn_bipush d88_17 (by decide), kV_126 wm_5_190 d88_19, sn_iret d88_22 rfl, sn_aload_n d88_23 rfl, sn_getR (by decide) fi_5_0.1 fi_5_0.2 wf_5_10 d88_24, sn_aload_n d88_27 rfl, sn_getR (by decide) fi_5_0.1 fi_5_0.2 wf_5_10 d88_28, sn_getR (by decide) fi_4_1.1 fi_4_1.2 wf_5_97 d88_31, sn_iload_n d88_34 rfl, sn_aald d88_35, sn_aload_n d88_36 rfl, sn_getR (by decide) fi_5_0.1 fi_5_0.2 wf_5_10 d88_37, sn_getR (by decide) fi_4_0.1 fi_4_0.2 wf_5_126 d88_40, sn_iload_n d88_43 rfl, sn_aald d88_44, kV_47 wm_5_193 d88_45, sn_iret d88_48 rfl, trivial⟩
theorem sd88 : ∀ pc, eb_Snd L q0 88 pc (eb_lg 88) (eb_cd L 88 pc) := eb_AS_all (hk88 (L := L)) (sc88_0)
theorem sc89_0 : eb_AS L q0 89 (eb_lg 89) [(0, op_aload 0 1), (1, op_iload 1 2), (2, op_call 132 2 5), (5, op_ifeq 16 8), (8, op_aload 0 9), (9, op_iload 2 10), (10, op_call 131 2 13), (13, op_ifne 23 16), (16, op_aload 0 17), (17, op_push (zi (-2)) 19), (19, op_call 125 2 22), (22, op_iret), (23, op_aload 0 24), (24, op_call 137 1 27), (27, op_getR L 4 1 30), (30, op_iload 1 31), (31, op_aald L 32), (32, op_getR L 0 3 35), (35, op_iload 2 36), (36, op_iald L 37), (37, op_iret)] := ⟨sn_aload_n d89_0 rfl, sn_iload_n d89_1 rfl, kV_132 wm_5_94 d89_2, sn_ifeq d89_5 (by decide), sn_aload_n d89_8 rfl, sn_iload_n d89_9 rfl, kV_131 wm_5_123 d89_10, sn_ifne d89_13 (by decide), sn_aload_n d89_16 rfl, sn_bipush d89_17 (by decide), kV_125 wm_5_48 d89_19, sn_iret d89_22 rfl, sn_aload_n d89_23 rfl, kV_137 wm_5_197 d89_24, sn_getR (by decide) fi_4_1.1 fi_4_1.2 wf_5_97 d89_27, sn_iload_n d89_30 rfl, sn_aald d89_31, sn_getR (by decide) fi_0_3.1 fi_0_3.2 wf_5_200 d89_32, sn_iload_n d89_35 rfl, sn_iald d89_36, sn_iret d89_37 rfl, trivial⟩
theorem sd89 : ∀ pc, eb_Snd L q0 89 pc (eb_lg 89) (eb_cd L 89 pc) := eb_AS_all (hk89 (L := L)) (sc89_0)
theorem sc90_0 : eb_AS L q0 90 (eb_lg 90) [(0, op_aload 0 1), (1, op_iload 1 2), (2, op_call 131 2 5), (5, op_ifeq 23 8), (8, op_aload 0 9), (9, op_call 137 1 12), (12, op_getR L 4 0 15), (15, op_iload 1 16), (16, op_aald L 17), (17, op_getI L 1 7 20), (20, op_goto 29), (23, op_aload 0 24), (24, op_push (zi (-2)) 26), (26, op_call 125 2 29), (29, op_iret)] := ⟨sn_aload_n d90_0 rfl, sn_iload_n d90_1 rfl, kV_131 wm_5_123 d90_2, sn_ifeq d90_5 (by decide), sn_aload_n d90_8 rfl, kV_137 wm_5_197 d90_9, sn_getR (by decide) fi_4_0.1 fi_4_0.2 wf_5_126 d90_12, sn_iload_n d90_15 rfl, sn_aald d90_16, sn_getI (by decide) fi_1_7.1 fi_1_7.2 wf_5_203 d90_17, sn_goto d90_20 (by decide), sn_aload_n d90_23 rfl, sn_bipush d90_24 (by decide), kV_125 wm_5_48 d90_26, sn_iret d90_29 rfl, trivial⟩
theorem sd90 : ∀ pc, eb_Snd L q0 90 pc (eb_lg 90) (eb_cd L 90 pc) := eb_AS_all (hk90 (L := L)) (sc90_0)
theorem sc91_0 : eb_AS L q0 91 (eb_lg 91) [(0, op_aload 0 1), (1, op_iload 1 2), (2, op_call 133 2 5), (5, op_ifne 15 8), (8, op_aload 0 9), (9, op_push (zi (-2)) 11), (11, op_call 125 2 14), (14, op_iret), (15, op_iload 1 16), (16, op_push (zi (-1)) 17), (17, op_icne 30 20), (20, op_aload 0 21), (21, op_call 137 1 24), (24, op_call 58 1 27), (27, op_goto 42), (30, op_aload 0 31), (31, op_call 137 1 34), (34, op_getR L 4 1 37), (37, op_iload 1 38), (38, op_aald L 39), (39, op_getI L 0 4 42), (42, op_iret)] := ⟨sn_aload_n d91_0 rfl, sn_iload_n d91_1 rfl, kV_133 wm_5_91 d91_2, sn_ifne d91_5 (by decide), sn_aload_n d91_8 rfl, sn_bipush d91_9 (by decide), kV_125 wm_5_48 d91_11, sn_iret d91_14 rfl, sn_iload_n d91_15 rfl, sn_iconst d91_16 (by decide), sn_icne d91_17 (by decide), sn_aload_n d91_20 rfl, kV_137 wm_5_197 d91_21, kV_58 wm_5_206 d91_24, sn_goto d91_27 (by decide), sn_aload_n d91_30 rfl, kV_137 wm_5_197 d91_31, sn_getR (by decide) fi_4_1.1 fi_4_1.2 wf_5_97 d91_34, sn_iload_n d91_37 rfl, sn_aald d91_38, sn_getI (by decide) fi_0_4.1 fi_0_4.2 wf_5_210 d91_39, sn_iret d91_42 rfl, trivial⟩
theorem sd91 : ∀ pc, eb_Snd L q0 91 pc (eb_lg 91) (eb_cd L 91 pc) := eb_AS_all (hk91 (L := L)) (sc91_0)
theorem sc92_0 : eb_AS L q0 92 (eb_lg 92) [(0, op_aload 0 1), (1, op_call 137 1 4), (4, op_call 57 1 7), (7, op_iret)] := ⟨sn_aload_n d92_0 rfl, kV_137 wm_5_197 d92_1, kV_57 wm_5_213 d92_4, sn_iret d92_7 rfl, trivial⟩
theorem sd92 : ∀ pc, eb_Snd L q0 92 pc (eb_lg 92) (eb_cd L 92 pc) := eb_AS_all (hk92 (L := L)) (sc92_0)
theorem sc93_0 : eb_AS L q0 93 (eb_lg 93) [(0, op_aload 0 1), (1, op_iload 1 2), (2, op_call 133 2 5), (5, op_ifne 15 8), (8, op_aload 0 9), (9, op_push (zi (-2)) 11), (11, op_call 126 2 14), (14, op_iret), (15, op_iload 1 16), (16, op_push (zi (-1)) 17), (17, op_icne 30 20), (20, op_aload 0 21), (21, op_call 137 1 24), (24, op_call 60 1 27), (27, op_goto 46), (30, op_aload 0 31), (31, op_call 137 1 34), (34, op_aload 0 35), (35, op_getR L 5 0 38), (38, op_getR L 4 1 41), (41, op_iload 1 42), (42, op_aald L 43), (43, op_call 59 2 46), (46, op_iret)] := ⟨sn_aload_n d93_0 rfl, sn_iload_n d93_1 rfl, kV_133 wm_5_91 d93_2, sn_ifne d93_5 (by decide), sn_aload_n d93_8 rfl, sn_bipush d93_9 (by decide), kV_126 wm_5_190 d93_11, sn_iret d93_14 rfl, sn_iload_n d93_15 rfl, sn_iconst d93_16 (by decide), sn_icne d93_17 (by decide), sn_aload_n d93_20 rfl, kV_137 wm_5_197 d93_21, kV_60 wm_5_216 d93_24, sn_goto d93_27 (by decide), sn_aload_n d93_30 rfl, kV_137 wm_5_197 d93_31, sn_aload_n d93_34 rfl, sn_getR (by decide) fi_5_0.1 fi_5_0.2 wf_5_10 d93_35, sn_getR (by decide) fi_4_1.1 fi_4_1.2 wf_5_97 d93_38, sn_iload_n d93_41 rfl, sn_aald d93_42, kV_59 wm_5_219 d93_43, sn_iret d93_46 rfl, trivial⟩
theorem sd93 : ∀ pc, eb_Snd L q0 93 pc (eb_lg 93) (eb_cd L 93 pc) := eb_AS_all (hk93 (L := L)) (sc93_0)
theorem sc94_0 : eb_AS L q0 94 (eb_lg 94) [(0, op_aload 0 1), (1, op_iload 1 2), (2, op_call 131 2 5), (5, op_ifeq 23 8), (8, op_aload 0 9), (9, op_call 137 1 12), (12, op_getR L 4 0 15), (15, op_iload 1 16), (16, op_aald L 17), (17, op_call 14 1 20), (20, op_goto 29), (23, op_aload 0 24), (24, op_push (zi (-2)) 26), (26, op_call 125 2 29), (29, op_iret)] := ⟨sn_aload_n d94_0 rfl, sn_iload_n d94_1 rfl, kV_131 wm_5_123 d94_2, sn_ifeq d94_5 (by decide), sn_aload_n d94_8 rfl, kV_137 wm_5_197 d94_9, sn_getR (by decide) fi_4_0.1 fi_4_0.2 wf_5_126 d94_12, sn_iload_n d94_15 rfl, sn_aald d94_16, kV_14 wm_5_222 d94_17, sn_goto d94_20 (by decide), sn_aload_n d94_23 rfl, sn_bipush d94_24 (by decide), kV_125 wm_5_48 d94_26, sn_iret d94_29 rfl, trivial⟩
theorem sd94 : ∀ pc, eb_Snd L q0 94 pc (eb_lg 94) (eb_cd L 94 pc) := eb_AS_all (hk94 (L := L)) (sc94_0)
end

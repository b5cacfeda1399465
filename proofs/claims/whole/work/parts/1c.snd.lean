/-! every row of these methods is sound: by program -/
set_option maxRecDepth 100000
theorem d37_0 : decode (eb_b 37) 0 = .ok (.iload_n 1, 1) := by decide +kernel
theorem d37_1 : decode (eb_b 37) 1 = .ok (.ifCond .lt 27, 3) := by decide +kernel
theorem d37_4 : decode (eb_b 37) 4 = .ok (.iload_n 1, 1) := by decide +kernel
theorem d37_5 : decode (eb_b 37) 5 = .ok (.aload_n 0, 1) := by decide +kernel
theorem d37_6 : decode (eb_b 37) 6 = .ok (.getfield 15, 3) := by decide +kernel
theorem d37_9 : decode (eb_b 37) 9 = .ok (.if_icmp .ge 19, 3) := by decide +kernel
theorem d37_12 : decode (eb_b 37) 12 = .ok (.iload_n 1, 1) := by decide +kernel
theorem d37_13 : decode (eb_b 37) 13 = .ok (.sipush 250, 3) := by decide +kernel
theorem d37_16 : decode (eb_b 37) 16 = .ok (.if_icmp .ge 12, 3) := by decide +kernel
theorem d37_19 : decode (eb_b 37) 19 = .ok (.aload_n 0, 1) := by decide +kernel
theorem d37_20 : decode (eb_b 37) 20 = .ok (.getfield 9, 3) := by decide +kernel
theorem d37_23 : decode (eb_b 37) 23 = .ok (.iload_n 1, 1) := by decide +kernel
theorem d37_24 : decode (eb_b 37) 24 = .ok (.iaload, 1) := by decide +kernel
theorem d37_25 : decode (eb_b 37) 25 = .ok (.goto 4, 3) := by decide +kernel
theorem d37_28 : decode (eb_b 37) 28 = .ok (.iconst (-1), 1) := by decide +kernel
theorem d37_29 : decode (eb_b 37) 29 = .ok (.ireturn, 1) := by decide +kernel
theorem d38_0 : decode (eb_b 38) 0 = .ok (.aload_n 0, 1) := by decide +kernel
theorem d38_1 : decode (eb_b 38) 1 = .ok (.invokespecial 3, 3) := by decide +kernel
theorem wm_4_3 : Cond.methodLink (eb_cN 4) 3 objectInit ∈ eb_LT := eb_lt 104 (by decide +kernel)
theorem d38_4 : decode (eb_b 38) 4 = .ok (.aload_n 0, 1) := by decide +kernel
theorem d38_5 : decode (eb_b 38) 5 = .ok (.bipush 6, 2) := by decide +kernel
theorem d38_7 : decode (eb_b 38) 7 = .ok (.anewarray 9, 3) := by decide +kernel
theorem wr_4_9 : Cond.classLink (eb_cN 4) 9 (eb_cN (eb_el 12)) ∈ eb_LT := eb_lt 105 (by decide +kernel)
theorem d38_10 : decode (eb_b 38) 10 = .ok (.putfield 11, 3) := by decide +kernel
theorem wf_4_11 : Cond.fieldLink (eb_cN 4) 11 (eb_tT 4 0).1 (eb_tT 4 0).2.1 (eb_tT 4 0).2.2.1 ∈ eb_LT := eb_lt 196 (by decide +kernel)
theorem fp_4_0 : ∀ x : Option Nat, narrow (eb_tt 4 0) (va_rf x) = va_rf x ∧ fits (eb_tt 4 0) (va_rf x) = true := fun x => by cases x <;> exact ⟨rfl, rfl⟩
theorem d38_13 : decode (eb_b 38) 13 = .ok (.aload_n 0, 1) := by decide +kernel
theorem d38_14 : decode (eb_b 38) 14 = .ok (.bipush 6, 2) := by decide +kernel
theorem d38_16 : decode (eb_b 38) 16 = .ok (.anewarray 17, 3) := by decide +kernel
theorem wr_4_17 : Cond.classLink (eb_cN 4) 17 (eb_cN (eb_el 13)) ∈ eb_LT := eb_lt 107 (by decide +kernel)
theorem d38_19 : decode (eb_b 38) 19 = .ok (.putfield 19, 3) := by decide +kernel
theorem wf_4_19 : Cond.fieldLink (eb_cN 4) 19 (eb_tT 4 1).1 (eb_tT 4 1).2.1 (eb_tT 4 1).2.2.1 ∈ eb_LT := eb_lt 199 (by decide +kernel)
theorem fi_4_1 : 1 < eb_nf 4 ∧ (eb_tt 4 1).isReference = true := ⟨by decide, rfl⟩
theorem fp_4_1 : ∀ x : Option Nat, narrow (eb_tt 4 1) (va_rf x) = va_rf x ∧ fits (eb_tt 4 1) (va_rf x) = true := fun x => by cases x <;> exact ⟨rfl, rfl⟩
theorem d38_22 : decode (eb_b 38) 22 = .ok (.aload_n 0, 1) := by decide +kernel
theorem d38_23 : decode (eb_b 38) 23 = .ok (.iconst 1, 1) := by decide +kernel
theorem d38_24 : decode (eb_b 38) 24 = .ok (.putfield 23, 3) := by decide +kernel
theorem wf_4_23 : Cond.fieldLink (eb_cN 4) 23 (eb_tT 4 6).1 (eb_tT 4 6).2.1 (eb_tT 4 6).2.2.1 ∈ eb_LT := eb_lt 212 (by decide +kernel)
theorem fi_4_6 : 6 < eb_nf 4 ∧ (eb_tt 4 6).isReference = false := ⟨by decide, rfl⟩
theorem fp_4_6 : ∀ x : Int32, narrow (eb_tt 4 6) (.int x) = .int x ∧ fits (eb_tt 4 6) (.int x) = true := fun x => ⟨rfl, rfl⟩
theorem d38_27 : decode (eb_b 38) 27 = .ok (.aload_n 0, 1) := by decide +kernel
theorem d38_28 : decode (eb_b 38) 28 = .ok (.bipush 6, 2) := by decide +kernel
theorem d38_30 : decode (eb_b 38) 30 = .ok (.newarray .int, 2) := by decide +kernel
theorem d38_32 : decode (eb_b 38) 32 = .ok (.putfield 27, 3) := by decide +kernel
theorem wf_4_27 : Cond.fieldLink (eb_cN 4) 27 (eb_tT 4 7).1 (eb_tT 4 7).2.1 (eb_tT 4 7).2.2.1 ∈ eb_LT := eb_lt 214 (by decide +kernel)
theorem fi_4_7 : 7 < eb_nf 4 ∧ (eb_tt 4 7).isReference = true := ⟨by decide, rfl⟩
theorem fp_4_7 : ∀ x : Option Nat, narrow (eb_tt 4 7) (va_rf x) = va_rf x ∧ fits (eb_tt 4 7) (va_rf x) = true := fun x => by cases x <;> exact ⟨rfl, rfl⟩
theorem d38_35 : decode (eb_b 38) 35 = .ok (.aload_n 0, 1) := by decide +kernel
theorem d38_36 : decode (eb_b 38) 36 = .ok (.bipush 6, 2) := by decide +kernel
theorem d38_38 : decode (eb_b 38) 38 = .ok (.anewarray 17, 3) := by decide +kernel
theorem d38_41 : decode (eb_b 38) 41 = .ok (.putfield 31, 3) := by decide +kernel
theorem wf_4_31 : Cond.fieldLink (eb_cN 4) 31 (eb_tT 4 8).1 (eb_tT 4 8).2.1 (eb_tT 4 8).2.2.1 ∈ eb_LT := eb_lt 215 (by decide +kernel)
theorem fi_4_8 : 8 < eb_nf 4 ∧ (eb_tt 4 8).isReference = true := ⟨by decide, rfl⟩
theorem fp_4_8 : ∀ x : Option Nat, narrow (eb_tt 4 8) (va_rf x) = va_rf x ∧ fits (eb_tt 4 8) (va_rf x) = true := fun x => by cases x <;> exact ⟨rfl, rfl⟩
theorem d38_44 : decode (eb_b 38) 44 = .ok (.iconst 0, 1) := by decide +kernel
theorem d38_45 : decode (eb_b 38) 45 = .ok (.istore_n 1, 1) := by decide +kernel
theorem hn38_1 : 1 < eb_ml 38 := by decide
theorem d38_46 : decode (eb_b 38) 46 = .ok (.iload_n 1, 1) := by decide +kernel
theorem d38_47 : decode (eb_b 38) 47 = .ok (.bipush 6, 2) := by decide +kernel
theorem d38_49 : decode (eb_b 38) 49 = .ok (.if_icmp .ge 22, 3) := by decide +kernel
theorem d38_52 : decode (eb_b 38) 52 = .ok (.aload_n 0, 1) := by decide +kernel
theorem d38_53 : decode (eb_b 38) 53 = .ok (.getfield 11, 3) := by decide +kernel
theorem d38_56 : decode (eb_b 38) 56 = .ok (.iload_n 1, 1) := by decide +kernel
theorem d38_57 : decode (eb_b 38) 57 = .ok (.new 9, 3) := by decide +kernel
theorem wq_4_9 : Cond.classLink (eb_cN 4) 9 (eb_cN 1) ∈ eb_LT := eb_lt 105 (by decide +kernel)
theorem d38_60 : decode (eb_b 38) 60 = .ok (.dup, 1) := by decide +kernel
theorem d38_61 : decode (eb_b 38) 61 = .ok (.invokespecial 34, 3) := by decide +kernel
theorem wc_6 : Cond.code (eb_y 6) (eb_b 6) (eb_ml 6) (eb_rt 6) ∈ eb_LT := eb_lt 112 (by decide +kernel)
theorem cy_6 : (eb_y 6).cls ≠ "java/lang/invoke/MethodHandle" ∧ (eb_y 6).cls ≠ "java/lang/invoke/VarHandle" ∧ (parseMethodDescriptor (eb_y 6).desc).map (fun d => d.parameters.length) = some 0 := by decide +kernel
theorem wi_6 : Cond.instanceMethod (eb_y 6) ∈ eb_LT := eb_lt 111 (by decide +kernel)
theorem wn_6 : Cond.initialized (eb_y 6).cls ∈ eb_LT := eb_lt 79 (by decide +kernel)
theorem kIN_6 {L q0 m pc : Nat} {lg : Nat → Bool} {ix : Nat} (hw : Cond.methodLinkNest (eb_own m) ix (eb_y 6) "EverybodyHasTheBook" ∈ eb_nest) (hd : decode (eb_b m) pc = .ok (.invokespecial ix, 3)) : eb_Snd L q0 m pc lg (op_callv 6 1 (pc + 3)) := sn_callIN rfl (by decide) rfl ⟨⟨hw, wi_6, wn_6⟩, wc_6⟩ rfl cy_6 hd
theorem wm_4_34 : Cond.methodLinkNest (eb_cN 4) 34 (eb_y 6) "EverybodyHasTheBook" ∈ eb_nest := by decide +kernel
theorem d38_64 : decode (eb_b 38) 64 = .ok (.aastore, 1) := by decide +kernel
theorem d38_65 : decode (eb_b 38) 65 = .ok (.iinc 1 1, 3) := by decide +kernel
theorem d38_68 : decode (eb_b 38) 68 = .ok (.goto (-22), 3) := by decide +kernel
theorem d38_71 : decode (eb_b 38) 71 = .ok (.iconst 0, 1) := by decide +kernel
theorem d38_72 : decode (eb_b 38) 72 = .ok (.istore_n 1, 1) := by decide +kernel
theorem d38_73 : decode (eb_b 38) 73 = .ok (.iload_n 1, 1) := by decide +kernel
theorem d38_74 : decode (eb_b 38) 74 = .ok (.bipush 6, 2) := by decide +kernel
theorem d38_76 : decode (eb_b 38) 76 = .ok (.if_icmp .ge 34, 3) := by decide +kernel
theorem d38_79 : decode (eb_b 38) 79 = .ok (.aload_n 0, 1) := by decide +kernel
theorem d38_80 : decode (eb_b 38) 80 = .ok (.getfield 19, 3) := by decide +kernel
theorem d38_83 : decode (eb_b 38) 83 = .ok (.iload_n 1, 1) := by decide +kernel
theorem d38_84 : decode (eb_b 38) 84 = .ok (.new 17, 3) := by decide +kernel
theorem wq_4_17 : Cond.classLink (eb_cN 4) 17 (eb_cN 0) ∈ eb_LT := eb_lt 107 (by decide +kernel)
theorem d38_87 : decode (eb_b 38) 87 = .ok (.dup, 1) := by decide +kernel
theorem d38_88 : decode (eb_b 38) 88 = .ok (.invokespecial 35, 3) := by decide +kernel
theorem wc_0 : Cond.code (eb_y 0) (eb_b 0) (eb_ml 0) (eb_rt 0) ∈ eb_LT := eb_lt 164 (by decide +kernel)
theorem cy_0 : (eb_y 0).cls ≠ "java/lang/invoke/MethodHandle" ∧ (eb_y 0).cls ≠ "java/lang/invoke/VarHandle" ∧ (parseMethodDescriptor (eb_y 0).desc).map (fun d => d.parameters.length) = some 0 := by decide +kernel
theorem wi_0 : Cond.instanceMethod (eb_y 0) ∈ eb_LT := eb_lt 163 (by decide +kernel)
theorem wn_0 : Cond.initialized (eb_y 0).cls ∈ eb_LT := eb_lt 80 (by decide +kernel)
theorem kIN_0 {L q0 m pc : Nat} {lg : Nat → Bool} {ix : Nat} (hw : Cond.methodLinkNest (eb_own m) ix (eb_y 0) "EverybodyHasTheBook" ∈ eb_nest) (hd : decode (eb_b m) pc = .ok (.invokespecial ix, 3)) : eb_Snd L q0 m pc lg (op_callv 0 1 (pc + 3)) := sn_callIN rfl (by decide) rfl ⟨⟨hw, wi_0, wn_0⟩, wc_0⟩ rfl cy_0 hd
theorem wm_4_35 : Cond.methodLinkNest (eb_cN 4) 35 (eb_y 0) "EverybodyHasTheBook" ∈ eb_nest := by decide +kernel
theorem d38_91 : decode (eb_b 38) 91 = .ok (.aastore, 1) := by decide +kernel
theorem d38_92 : decode (eb_b 38) 92 = .ok (.aload_n 0, 1) := by decide +kernel
theorem d38_93 : decode (eb_b 38) 93 = .ok (.getfield 31, 3) := by decide +kernel
theorem d38_96 : decode (eb_b 38) 96 = .ok (.iload_n 1, 1) := by decide +kernel
theorem d38_97 : decode (eb_b 38) 97 = .ok (.aload_n 0, 1) := by decide +kernel
theorem d38_98 : decode (eb_b 38) 98 = .ok (.getfield 19, 3) := by decide +kernel
theorem d38_101 : decode (eb_b 38) 101 = .ok (.iload_n 1, 1) := by decide +kernel
theorem d38_102 : decode (eb_b 38) 102 = .ok (.aaload, 1) := by decide +kernel
theorem d38_103 : decode (eb_b 38) 103 = .ok (.aastore, 1) := by decide +kernel
theorem d38_104 : decode (eb_b 38) 104 = .ok (.iinc 1 1, 3) := by decide +kernel
theorem d38_107 : decode (eb_b 38) 107 = .ok (.goto (-34), 3) := by decide +kernel
theorem d38_110 : decode (eb_b 38) 110 = .ok (.return_, 1) := by decide +kernel
theorem d39_0 : decode (eb_b 39) 0 = .ok (.aload_n 0, 1) := by decide +kernel
theorem d39_1 : decode (eb_b 39) 1 = .ok (.aload_n 1, 1) := by decide +kernel
theorem d39_2 : decode (eb_b 39) 2 = .ok (.getfield 36, 3) := by decide +kernel
theorem wf_4_36 : Cond.fieldLink (eb_cN 4) 36 (eb_tT 4 2).1 (eb_tT 4 2).2.1 (eb_tT 4 2).2.2.1 ∈ eb_LT := eb_lt 201 (by decide +kernel)
theorem d39_5 : decode (eb_b 39) 5 = .ok (.putfield 36, 3) := by decide +kernel
theorem fp_4_2 : ∀ x : Int32, narrow (eb_tt 4 2) (.int x) = .int x ∧ fits (eb_tt 4 2) (.int x) = true := fun x => ⟨rfl, rfl⟩
theorem d39_8 : decode (eb_b 39) 8 = .ok (.aload_n 0, 1) := by decide +kernel
theorem d39_9 : decode (eb_b 39) 9 = .ok (.aload_n 1, 1) := by decide +kernel
theorem d39_10 : decode (eb_b 39) 10 = .ok (.getfield 39, 3) := by decide +kernel
theorem wf_4_39 : Cond.fieldLink (eb_cN 4) 39 (eb_tT 4 3).1 (eb_tT 4 3).2.1 (eb_tT 4 3).2.2.1 ∈ eb_LT := eb_lt 204 (by decide +kernel)
theorem d39_13 : decode (eb_b 39) 13 = .ok (.putfield 39, 3) := by decide +kernel
theorem fp_4_3 : ∀ x : Int32, narrow (eb_tt 4 3) (.int x) = .int x ∧ fits (eb_tt 4 3) (.int x) = true := fun x => ⟨rfl, rfl⟩
theorem d39_16 : decode (eb_b 39) 16 = .ok (.aload_n 0, 1) := by decide +kernel
theorem d39_17 : decode (eb_b 39) 17 = .ok (.aload_n 1, 1) := by decide +kernel
theorem d39_18 : decode (eb_b 39) 18 = .ok (.getfield 42, 3) := by decide +kernel
theorem wf_4_42 : Cond.fieldLink (eb_cN 4) 42 (eb_tT 4 4).1 (eb_tT 4 4).2.1 (eb_tT 4 4).2.2.1 ∈ eb_LT := eb_lt 207 (by decide +kernel)
theorem d39_21 : decode (eb_b 39) 21 = .ok (.putfield 42, 3) := by decide +kernel
theorem d39_24 : decode (eb_b 39) 24 = .ok (.aload_n 0, 1) := by decide +kernel
theorem d39_25 : decode (eb_b 39) 25 = .ok (.aload_n 1, 1) := by decide +kernel
theorem d39_26 : decode (eb_b 39) 26 = .ok (.getfield 45, 3) := by decide +kernel
theorem wf_4_45 : Cond.fieldLink (eb_cN 4) 45 (eb_tT 4 5).1 (eb_tT 4 5).2.1 (eb_tT 4 5).2.2.1 ∈ eb_LT := eb_lt 210 (by decide +kernel)
theorem fi_4_5 : 5 < eb_nf 4 ∧ (eb_tt 4 5).isReference = false := ⟨by decide, rfl⟩
theorem d39_29 : decode (eb_b 39) 29 = .ok (.putfield 45, 3) := by decide +kernel
theorem fp_4_5 : ∀ x : Int32, narrow (eb_tt 4 5) (.int x) = .int x ∧ fits (eb_tt 4 5) (.int x) = true := fun x => ⟨rfl, rfl⟩
theorem d39_32 : decode (eb_b 39) 32 = .ok (.aload_n 0, 1) := by decide +kernel
theorem d39_33 : decode (eb_b 39) 33 = .ok (.aload_n 1, 1) := by decide +kernel
theorem d39_34 : decode (eb_b 39) 34 = .ok (.getfield 23, 3) := by decide +kernel
theorem d39_37 : decode (eb_b 39) 37 = .ok (.putfield 23, 3) := by decide +kernel
theorem d39_40 : decode (eb_b 39) 40 = .ok (.iconst 0, 1) := by decide +kernel
theorem d39_41 : decode (eb_b 39) 41 = .ok (.istore_n 2, 1) := by decide +kernel
theorem hn39_2 : 2 < eb_ml 39 := by decide
theorem d39_42 : decode (eb_b 39) 42 = .ok (.iload_n 2, 1) := by decide +kernel
theorem d39_43 : decode (eb_b 39) 43 = .ok (.aload_n 0, 1) := by decide +kernel
theorem d39_44 : decode (eb_b 39) 44 = .ok (.getfield 36, 3) := by decide +kernel
theorem d39_47 : decode (eb_b 39) 47 = .ok (.if_icmp .ge 24, 3) := by decide +kernel
theorem d39_50 : decode (eb_b 39) 50 = .ok (.aload_n 0, 1) := by decide +kernel
theorem d39_51 : decode (eb_b 39) 51 = .ok (.getfield 11, 3) := by decide +kernel
theorem d39_54 : decode (eb_b 39) 54 = .ok (.iload_n 2, 1) := by decide +kernel
theorem d39_55 : decode (eb_b 39) 55 = .ok (.aaload, 1) := by decide +kernel
theorem d39_56 : decode (eb_b 39) 56 = .ok (.aload_n 1, 1) := by decide +kernel
theorem d39_57 : decode (eb_b 39) 57 = .ok (.getfield 11, 3) := by decide +kernel
theorem d39_60 : decode (eb_b 39) 60 = .ok (.iload_n 2, 1) := by decide +kernel
theorem d39_61 : decode (eb_b 39) 61 = .ok (.aaload, 1) := by decide +kernel
theorem d39_62 : decode (eb_b 39) 62 = .ok (.invokevirtual 48, 3) := by decide +kernel
theorem wc_8 : Cond.code (eb_y 8) (eb_b 8) (eb_ml 8) (eb_rt 8) ∈ eb_LT := eb_lt 497 (by decide +kernel)
theorem cy_8 : (eb_y 8).cls = eb_cN (eb_rc 8) ∧ (eb_y 8).cls ≠ "java/lang/invoke/MethodHandle" ∧ (eb_y 8).cls ≠ "java/lang/invoke/VarHandle" ∧ (parseMethodDescriptor (eb_y 8).desc).map (fun d => d.parameters.length) = some 1 := by decide +kernel
theorem wi_8 : Cond.instanceMethod (eb_y 8) ∈ eb_LT := eb_lt 495 (by decide +kernel)
theorem wse_8 : Cond.selects (eb_cN (eb_rc 8)) (eb_y 8) (eb_y 8) ∈ eb_LT := eb_lt 496 (by decide +kernel)
theorem kV_8 {L q0 m pc : Nat} {lg : Nat → Bool} {ix : Nat} (hw : Cond.methodLink (eb_own m) ix (eb_y 8) ∈ eb_LT) (hd : decode (eb_b m) pc = .ok (.invokevirtual ix, 3)) : eb_Snd L q0 m pc lg (op_callv 8 2 (pc + 3)) := sn_callV true rfl (Or.inl ⟨rfl, rfl⟩) (by decide) rfl (by decide) ⟨⟨hw, wi_8, wse_8⟩, wc_8⟩ cy_8 hd
theorem wm_4_48 : Cond.methodLink (eb_cN 4) 48 (eb_y 8) ∈ eb_LT := eb_lt 494 (by decide +kernel)
theorem d39_65 : decode (eb_b 39) 65 = .ok (.iinc 2 1, 3) := by decide +kernel
theorem d39_68 : decode (eb_b 39) 68 = .ok (.goto (-26), 3) := by decide +kernel
theorem d39_71 : decode (eb_b 39) 71 = .ok (.iconst 0, 1) := by decide +kernel
theorem d39_72 : decode (eb_b 39) 72 = .ok (.istore_n 2, 1) := by decide +kernel
theorem d39_73 : decode (eb_b 39) 73 = .ok (.iload_n 2, 1) := by decide +kernel
theorem d39_74 : decode (eb_b 39) 74 = .ok (.aload_n 0, 1) := by decide +kernel
theorem d39_75 : decode (eb_b 39) 75 = .ok (.getfield 39, 3) := by decide +kernel
theorem d39_78 : decode (eb_b 39) 78 = .ok (.if_icmp .ge 37, 3) := by decide +kernel
theorem d39_81 : decode (eb_b 39) 81 = .ok (.aload_n 1, 1) := by decide +kernel
theorem d39_82 : decode (eb_b 39) 82 = .ok (.getfield 19, 3) := by decide +kernel
theorem d39_85 : decode (eb_b 39) 85 = .ok (.iload_n 2, 1) := by decide +kernel
theorem d39_86 : decode (eb_b 39) 86 = .ok (.aaload, 1) := by decide +kernel
theorem d39_87 : decode (eb_b 39) 87 = .ok (.astore_n 3, 1) := by decide +kernel
theorem hn39_3 : 3 < eb_ml 39 := by decide
theorem d39_88 : decode (eb_b 39) 88 = .ok (.aload_n 0, 1) := by decide +kernel
theorem d39_89 : decode (eb_b 39) 89 = .ok (.getfield 19, 3) := by decide +kernel
theorem d39_92 : decode (eb_b 39) 92 = .ok (.iload_n 2, 1) := by decide +kernel
theorem d39_93 : decode (eb_b 39) 93 = .ok (.aaload, 1) := by decide +kernel
theorem d39_94 : decode (eb_b 39) 94 = .ok (.aload_n 3, 1) := by decide +kernel
theorem d39_95 : decode (eb_b 39) 95 = .ok (.getfield 52, 3) := by decide +kernel
theorem wf_4_52 : Cond.fieldLink (eb_cN 4) 52 (eb_tT 0 0).1 (eb_tT 0 0).2.1 (eb_tT 0 0).2.2.1 ∈ eb_LT := eb_lt 167 (by decide +kernel)
theorem d39_98 : decode (eb_b 39) 98 = .ok (.aload_n 3, 1) := by decide +kernel
theorem d39_99 : decode (eb_b 39) 99 = .ok (.getfield 55, 3) := by decide +kernel
theorem wf_4_55 : Cond.fieldLink (eb_cN 4) 55 (eb_tT 0 1).1 (eb_tT 0 1).2.1 (eb_tT 0 1).2.2.1 ∈ eb_LT := eb_lt 170 (by decide +kernel)
theorem d39_102 : decode (eb_b 39) 102 = .ok (.aload_n 3, 1) := by decide +kernel
theorem d39_103 : decode (eb_b 39) 103 = .ok (.getfield 58, 3) := by decide +kernel
theorem wf_4_58 : Cond.fieldLink (eb_cN 4) 58 (eb_tT 0 2).1 (eb_tT 0 2).2.1 (eb_tT 0 2).2.2.1 ∈ eb_LT := eb_lt 173 (by decide +kernel)
theorem d39_106 : decode (eb_b 39) 106 = .ok (.invokevirtual 61, 3) := by decide +kernel
theorem wc_1 : Cond.code (eb_y 1) (eb_b 1) (eb_ml 1) (eb_rt 1) ∈ eb_LT := eb_lt 425 (by decide +kernel)
theorem cy_1 : (eb_y 1).cls = eb_cN (eb_rc 1) ∧ (eb_y 1).cls ≠ "java/lang/invoke/MethodHandle" ∧ (eb_y 1).cls ≠ "java/lang/invoke/VarHandle" ∧ (parseMethodDescriptor (eb_y 1).desc).map (fun d => d.parameters.length) = some 3 := by decide +kernel
theorem wi_1 : Cond.instanceMethod (eb_y 1) ∈ eb_LT := eb_lt 423 (by decide +kernel)
theorem wse_1 : Cond.selects (eb_cN (eb_rc 1)) (eb_y 1) (eb_y 1) ∈ eb_LT := eb_lt 424 (by decide +kernel)
theorem kV_1 {L q0 m pc : Nat} {lg : Nat → Bool} {ix : Nat} (hw : Cond.methodLink (eb_own m) ix (eb_y 1) ∈ eb_LT) (hd : decode (eb_b m) pc = .ok (.invokevirtual ix, 3)) : eb_Snd L q0 m pc lg (op_callv 1 4 (pc + 3)) := sn_callV true rfl (Or.inl ⟨rfl, rfl⟩) (by decide) rfl (by decide) ⟨⟨hw, wi_1, wse_1⟩, wc_1⟩ cy_1 hd
theorem wm_4_61 : Cond.methodLink (eb_cN 4) 61 (eb_y 1) ∈ eb_LT := eb_lt 422 (by decide +kernel)
theorem d39_109 : decode (eb_b 39) 109 = .ok (.iinc 2 1, 3) := by decide +kernel
theorem d39_112 : decode (eb_b 39) 112 = .ok (.goto (-39), 3) := by decide +kernel
theorem d39_115 : decode (eb_b 39) 115 = .ok (.return_, 1) := by decide +kernel
theorem d40_0 : decode (eb_b 40) 0 = .ok (.aload_n 0, 1) := by decide +kernel
theorem d40_1 : decode (eb_b 40) 1 = .ok (.getfield 36, 3) := by decide +kernel
theorem d40_4 : decode (eb_b 40) 4 = .ok (.bipush 6, 2) := by decide +kernel
theorem d40_6 : decode (eb_b 40) 6 = .ok (.if_icmp .lt 5, 3) := by decide +kernel
theorem d40_9 : decode (eb_b 40) 9 = .ok (.iconst (-1), 1) := by decide +kernel
theorem d40_10 : decode (eb_b 40) 10 = .ok (.ireturn, 1) := by decide +kernel
theorem d40_11 : decode (eb_b 40) 11 = .ok (.aload_n 0, 1) := by decide +kernel
theorem d40_12 : decode (eb_b 40) 12 = .ok (.getfield 11, 3) := by decide +kernel
theorem d40_15 : decode (eb_b 40) 15 = .ok (.aload_n 0, 1) := by decide +kernel
theorem d40_16 : decode (eb_b 40) 16 = .ok (.getfield 36, 3) := by decide +kernel
theorem d40_19 : decode (eb_b 40) 19 = .ok (.aaload, 1) := by decide +kernel
theorem d40_20 : decode (eb_b 40) 20 = .ok (.iload_n 1, 1) := by decide +kernel
theorem d40_21 : decode (eb_b 40) 21 = .ok (.iload_n 2, 1) := by decide +kernel
theorem d40_22 : decode (eb_b 40) 22 = .ok (.iload_n 3, 1) := by decide +kernel
theorem d40_23 : decode (eb_b 40) 23 = .ok (.invokevirtual 65, 3) := by decide +kernel
theorem wc_7 : Cond.code (eb_y 7) (eb_b 7) (eb_ml 7) (eb_rt 7) ∈ eb_LT := eb_lt 413 (by decide +kernel)
theorem cy_7 : (eb_y 7).cls = eb_cN (eb_rc 7) ∧ (eb_y 7).cls ≠ "java/lang/invoke/MethodHandle" ∧ (eb_y 7).cls ≠ "java/lang/invoke/VarHandle" ∧ (parseMethodDescriptor (eb_y 7).desc).map (fun d => d.parameters.length) = some 3 := by decide +kernel
theorem wi_7 : Cond.instanceMethod (eb_y 7) ∈ eb_LT := eb_lt 411 (by decide +kernel)
theorem wse_7 : Cond.selects (eb_cN (eb_rc 7)) (eb_y 7) (eb_y 7) ∈ eb_LT := eb_lt 412 (by decide +kernel)
theorem kV_7 {L q0 m pc : Nat} {lg : Nat → Bool} {ix : Nat} (hw : Cond.methodLink (eb_own m) ix (eb_y 7) ∈ eb_LT) (hd : decode (eb_b m) pc = .ok (.invokevirtual ix, 3)) : eb_Snd L q0 m pc lg (op_callv 7 4 (pc + 3)) := sn_callV true rfl (Or.inl ⟨rfl, rfl⟩) (by decide) rfl (by decide) ⟨⟨hw, wi_7, wse_7⟩, wc_7⟩ cy_7 hd
theorem wm_4_65 : Cond.methodLink (eb_cN 4) 65 (eb_y 7) ∈ eb_LT := eb_lt 410 (by decide +kernel)
theorem d40_26 : decode (eb_b 40) 26 = .ok (.aload_n 0, 1) := by decide +kernel
theorem d40_27 : decode (eb_b 40) 27 = .ok (.dup, 1) := by decide +kernel
theorem d40_28 : decode (eb_b 40) 28 = .ok (.getfield 36, 3) := by decide +kernel
theorem d40_31 : decode (eb_b 40) 31 = .ok (.iconst 1, 1) := by decide +kernel
theorem d40_32 : decode (eb_b 40) 32 = .ok (.iadd, 1) := by decide +kernel
theorem d40_33 : decode (eb_b 40) 33 = .ok (.putfield 36, 3) := by decide +kernel
theorem d40_36 : decode (eb_b 40) 36 = .ok (.aload_n 0, 1) := by decide +kernel
theorem d40_37 : decode (eb_b 40) 37 = .ok (.getfield 36, 3) := by decide +kernel
theorem d40_40 : decode (eb_b 40) 40 = .ok (.iconst 1, 1) := by decide +kernel
theorem d40_41 : decode (eb_b 40) 41 = .ok (.isub, 1) := by decide +kernel
theorem d40_42 : decode (eb_b 40) 42 = .ok (.ireturn, 1) := by decide +kernel
theorem d41_0 : decode (eb_b 41) 0 = .ok (.aload_n 0, 1) := by decide +kernel
theorem d41_1 : decode (eb_b 41) 1 = .ok (.getfield 39, 3) := by decide +kernel
theorem d41_4 : decode (eb_b 41) 4 = .ok (.bipush 6, 2) := by decide +kernel
theorem d41_6 : decode (eb_b 41) 6 = .ok (.if_icmp .lt 5, 3) := by decide +kernel
theorem d41_9 : decode (eb_b 41) 9 = .ok (.iconst (-1), 1) := by decide +kernel
theorem d41_10 : decode (eb_b 41) 10 = .ok (.ireturn, 1) := by decide +kernel
theorem d41_11 : decode (eb_b 41) 11 = .ok (.aload_n 0, 1) := by decide +kernel
theorem d41_12 : decode (eb_b 41) 12 = .ok (.getfield 19, 3) := by decide +kernel
theorem d41_15 : decode (eb_b 41) 15 = .ok (.aload_n 0, 1) := by decide +kernel
theorem d41_16 : decode (eb_b 41) 16 = .ok (.getfield 39, 3) := by decide +kernel
theorem d41_19 : decode (eb_b 41) 19 = .ok (.aaload, 1) := by decide +kernel
theorem d41_20 : decode (eb_b 41) 20 = .ok (.iload_n 1, 1) := by decide +kernel
theorem d41_21 : decode (eb_b 41) 21 = .ok (.iload_n 2, 1) := by decide +kernel
theorem d41_22 : decode (eb_b 41) 22 = .ok (.iload_n 3, 1) := by decide +kernel
theorem d41_23 : decode (eb_b 41) 23 = .ok (.invokevirtual 61, 3) := by decide +kernel
theorem d41_26 : decode (eb_b 41) 26 = .ok (.aload_n 0, 1) := by decide +kernel
theorem d41_27 : decode (eb_b 41) 27 = .ok (.dup, 1) := by decide +kernel
theorem d41_28 : decode (eb_b 41) 28 = .ok (.getfield 39, 3) := by decide +kernel
theorem d41_31 : decode (eb_b 41) 31 = .ok (.iconst 1, 1) := by decide +kernel
theorem d41_32 : decode (eb_b 41) 32 = .ok (.iadd, 1) := by decide +kernel
theorem d41_33 : decode (eb_b 41) 33 = .ok (.putfield 39, 3) := by decide +kernel
theorem d41_36 : decode (eb_b 41) 36 = .ok (.aload_n 0, 1) := by decide +kernel
theorem d41_37 : decode (eb_b 41) 37 = .ok (.getfield 39, 3) := by decide +kernel
theorem d41_40 : decode (eb_b 41) 40 = .ok (.iconst 1, 1) := by decide +kernel
theorem d41_41 : decode (eb_b 41) 41 = .ok (.isub, 1) := by decide +kernel
theorem d41_42 : decode (eb_b 41) 42 = .ok (.ireturn, 1) := by decide +kernel
theorem d42_0 : decode (eb_b 42) 0 = .ok (.iconst 0, 1) := by decide +kernel
theorem d42_1 : decode (eb_b 42) 1 = .ok (.istore_n 2, 1) := by decide +kernel
theorem hn42_2 : 2 < eb_ml 42 := by decide
theorem d42_2 : decode (eb_b 42) 2 = .ok (.iconst 0, 1) := by decide +kernel
theorem d42_3 : decode (eb_b 42) 3 = .ok (.istore_n 3, 1) := by decide +kernel
theorem hn42_3 : 3 < eb_ml 42 := by decide
theorem d42_4 : decode (eb_b 42) 4 = .ok (.iload_n 3, 1) := by decide +kernel
theorem d42_5 : decode (eb_b 42) 5 = .ok (.aload_n 0, 1) := by decide +kernel
theorem d42_6 : decode (eb_b 42) 6 = .ok (.getfield 36, 3) := by decide +kernel
theorem d42_9 : decode (eb_b 42) 9 = .ok (.if_icmp .ge 65, 3) := by decide +kernel
theorem d42_12 : decode (eb_b 42) 12 = .ok (.iload_n 1, 1) := by decide +kernel
theorem d42_13 : decode (eb_b 42) 13 = .ok (.iload_n 3, 1) := by decide +kernel
theorem d42_14 : decode (eb_b 42) 14 = .ok (.ishr, 1) := by decide +kernel
theorem d42_15 : decode (eb_b 42) 15 = .ok (.iconst 1, 1) := by decide +kernel
theorem d42_16 : decode (eb_b 42) 16 = .ok (.iand, 1) := by decide +kernel
theorem d42_17 : decode (eb_b 42) 17 = .ok (.iconst 1, 1) := by decide +kernel
theorem d42_18 : decode (eb_b 42) 18 = .ok (.if_icmp .ne 7, 3) := by decide +kernel
theorem d42_21 : decode (eb_b 42) 21 = .ok (.iconst 1, 1) := by decide +kernel
theorem d42_22 : decode (eb_b 42) 22 = .ok (.goto 4, 3) := by decide +kernel
theorem d42_25 : decode (eb_b 42) 25 = .ok (.iconst 0, 1) := by decide +kernel
theorem d42_26 : decode (eb_b 42) 26 = .ok (.istore 4, 2) := by decide +kernel
theorem hn42_4 : 4 < eb_ml 42 := by decide
theorem d42_28 : decode (eb_b 42) 28 = .ok (.aload_n 0, 1) := by decide +kernel
theorem d42_29 : decode (eb_b 42) 29 = .ok (.getfield 11, 3) := by decide +kernel
theorem d42_32 : decode (eb_b 42) 32 = .ok (.iload_n 3, 1) := by decide +kernel
theorem d42_33 : decode (eb_b 42) 33 = .ok (.aaload, 1) := by decide +kernel
theorem d42_34 : decode (eb_b 42) 34 = .ok (.iload 4, 2) := by decide +kernel
theorem d42_36 : decode (eb_b 42) 36 = .ok (.ifCond .eq 15, 3) := by decide +kernel
theorem d42_39 : decode (eb_b 42) 39 = .ok (.aload_n 0, 1) := by decide +kernel
theorem d42_40 : decode (eb_b 42) 40 = .ok (.getfield 11, 3) := by decide +kernel
theorem d42_43 : decode (eb_b 42) 43 = .ok (.iload_n 3, 1) := by decide +kernel
theorem d42_44 : decode (eb_b 42) 44 = .ok (.aaload, 1) := by decide +kernel
theorem d42_45 : decode (eb_b 42) 45 = .ok (.getfield 68, 3) := by decide +kernel
theorem wf_4_68 : Cond.fieldLink (eb_cN 4) 68 (eb_tT 1 0).1 (eb_tT 1 0).2.1 (eb_tT 1 0).2.2.1 ∈ eb_LT := eb_lt 115 (by decide +kernel)
theorem d42_48 : decode (eb_b 42) 48 = .ok (.goto 4, 3) := by decide +kernel
theorem d42_51 : decode (eb_b 42) 51 = .ok (.iconst (-1), 1) := by decide +kernel
theorem d42_52 : decode (eb_b 42) 52 = .ok (.putfield 71, 3) := by decide +kernel
theorem wf_4_71 : Cond.fieldLink (eb_cN 4) 71 (eb_tT 1 4).1 (eb_tT 1 4).2.1 (eb_tT 1 4).2.2.1 ∈ eb_LT := eb_lt 126 (by decide +kernel)
theorem d42_55 : decode (eb_b 42) 55 = .ok (.iload_n 2, 1) := by decide +kernel
theorem d42_56 : decode (eb_b 42) 56 = .ok (.iload 4, 2) := by decide +kernel
theorem d42_58 : decode (eb_b 42) 58 = .ok (.ifCond .eq 7, 3) := by decide +kernel
theorem d42_61 : decode (eb_b 42) 61 = .ok (.iconst 1, 1) := by decide +kernel
theorem d42_62 : decode (eb_b 42) 62 = .ok (.goto 4, 3) := by decide +kernel
theorem d42_65 : decode (eb_b 42) 65 = .ok (.iconst 0, 1) := by decide +kernel
theorem d42_66 : decode (eb_b 42) 66 = .ok (.iadd, 1) := by decide +kernel
theorem d42_67 : decode (eb_b 42) 67 = .ok (.istore_n 2, 1) := by decide +kernel
theorem d42_68 : decode (eb_b 42) 68 = .ok (.iinc 3 1, 3) := by decide +kernel
theorem d42_71 : decode (eb_b 42) 71 = .ok (.goto (-67), 3) := by decide +kernel
theorem d42_74 : decode (eb_b 42) 74 = .ok (.aload_n 0, 1) := by decide +kernel
theorem d42_75 : decode (eb_b 42) 75 = .ok (.iconst 0, 1) := by decide +kernel
theorem d42_76 : decode (eb_b 42) 76 = .ok (.putfield 42, 3) := by decide +kernel
theorem d42_79 : decode (eb_b 42) 79 = .ok (.iload_n 2, 1) := by decide +kernel
theorem d42_80 : decode (eb_b 42) 80 = .ok (.ireturn, 1) := by decide +kernel
theorem d43_0 : decode (eb_b 43) 0 = .ok (.iconst 0, 1) := by decide +kernel
theorem d43_1 : decode (eb_b 43) 1 = .ok (.istore_n 1, 1) := by decide +kernel
theorem hn43_1 : 1 < eb_ml 43 := by decide
theorem d43_2 : decode (eb_b 43) 2 = .ok (.iconst 0, 1) := by decide +kernel
theorem d43_3 : decode (eb_b 43) 3 = .ok (.istore_n 2, 1) := by decide +kernel
theorem hn43_2 : 2 < eb_ml 43 := by decide
theorem d43_4 : decode (eb_b 43) 4 = .ok (.iload_n 2, 1) := by decide +kernel
theorem d43_5 : decode (eb_b 43) 5 = .ok (.aload_n 0, 1) := by decide +kernel
theorem d43_6 : decode (eb_b 43) 6 = .ok (.getfield 36, 3) := by decide +kernel
theorem d43_9 : decode (eb_b 43) 9 = .ok (.if_icmp .ge 32, 3) := by decide +kernel
theorem d43_12 : decode (eb_b 43) 12 = .ok (.iload_n 1, 1) := by decide +kernel
theorem d43_13 : decode (eb_b 43) 13 = .ok (.aload_n 0, 1) := by decide +kernel
theorem d43_14 : decode (eb_b 43) 14 = .ok (.getfield 11, 3) := by decide +kernel
theorem d43_17 : decode (eb_b 43) 17 = .ok (.iload_n 2, 1) := by decide +kernel
theorem d43_18 : decode (eb_b 43) 18 = .ok (.aaload, 1) := by decide +kernel
theorem d43_19 : decode (eb_b 43) 19 = .ok (.getfield 71, 3) := by decide +kernel
theorem d43_22 : decode (eb_b 43) 22 = .ok (.iconst (-1), 1) := by decide +kernel
theorem d43_23 : decode (eb_b 43) 23 = .ok (.if_icmp .ne 7, 3) := by decide +kernel
theorem d43_26 : decode (eb_b 43) 26 = .ok (.iconst 0, 1) := by decide +kernel
theorem d43_27 : decode (eb_b 43) 27 = .ok (.goto 6, 3) := by decide +kernel
theorem d43_30 : decode (eb_b 43) 30 = .ok (.iconst 1, 1) := by decide +kernel
theorem d43_31 : decode (eb_b 43) 31 = .ok (.iload_n 2, 1) := by decide +kernel
theorem d43_32 : decode (eb_b 43) 32 = .ok (.ishl, 1) := by decide +kernel
theorem d43_33 : decode (eb_b 43) 33 = .ok (.ior, 1) := by decide +kernel
theorem d43_34 : decode (eb_b 43) 34 = .ok (.istore_n 1, 1) := by decide +kernel
theorem d43_35 : decode (eb_b 43) 35 = .ok (.iinc 2 1, 3) := by decide +kernel
theorem d43_38 : decode (eb_b 43) 38 = .ok (.goto (-34), 3) := by decide +kernel
theorem d43_41 : decode (eb_b 43) 41 = .ok (.iload_n 1, 1) := by decide +kernel
theorem d43_42 : decode (eb_b 43) 42 = .ok (.ireturn, 1) := by decide +kernel
theorem d44_0 : decode (eb_b 44) 0 = .ok (.iconst 0, 1) := by decide +kernel
theorem d44_1 : decode (eb_b 44) 1 = .ok (.istore_n 1, 1) := by decide +kernel
theorem hn44_1 : 1 < eb_ml 44 := by decide
theorem d44_2 : decode (eb_b 44) 2 = .ok (.iconst 0, 1) := by decide +kernel
theorem d44_3 : decode (eb_b 44) 3 = .ok (.istore_n 2, 1) := by decide +kernel
theorem hn44_2 : 2 < eb_ml 44 := by decide
theorem d44_4 : decode (eb_b 44) 4 = .ok (.iload_n 2, 1) := by decide +kernel
theorem d44_5 : decode (eb_b 44) 5 = .ok (.aload_n 0, 1) := by decide +kernel
theorem d44_6 : decode (eb_b 44) 6 = .ok (.getfield 36, 3) := by decide +kernel
theorem d44_9 : decode (eb_b 44) 9 = .ok (.if_icmp .ge 21, 3) := by decide +kernel
theorem d44_12 : decode (eb_b 44) 12 = .ok (.iload_n 1, 1) := by decide +kernel
theorem d44_13 : decode (eb_b 44) 13 = .ok (.aload_n 0, 1) := by decide +kernel
theorem d44_14 : decode (eb_b 44) 14 = .ok (.getfield 11, 3) := by decide +kernel
theorem d44_17 : decode (eb_b 44) 17 = .ok (.iload_n 2, 1) := by decide +kernel
theorem d44_18 : decode (eb_b 44) 18 = .ok (.aaload, 1) := by decide +kernel
theorem d44_19 : decode (eb_b 44) 19 = .ok (.getfield 74, 3) := by decide +kernel
theorem wf_4_74 : Cond.fieldLink (eb_cN 4) 74 (eb_tT 1 2).1 (eb_tT 1 2).2.1 (eb_tT 1 2).2.2.1 ∈ eb_LT := eb_lt 120 (by decide +kernel)
theorem d44_22 : decode (eb_b 44) 22 = .ok (.iadd, 1) := by decide +kernel
theorem d44_23 : decode (eb_b 44) 23 = .ok (.istore_n 1, 1) := by decide +kernel
theorem d44_24 : decode (eb_b 44) 24 = .ok (.iinc 2 1, 3) := by decide +kernel
theorem d44_27 : decode (eb_b 44) 27 = .ok (.goto (-23), 3) := by decide +kernel
theorem d44_30 : decode (eb_b 44) 30 = .ok (.iload_n 1, 1) := by decide +kernel
theorem d44_31 : decode (eb_b 44) 31 = .ok (.ireturn, 1) := by decide +kernel
theorem d45_0 : decode (eb_b 45) 0 = .ok (.iconst 0, 1) := by decide +kernel
theorem d45_1 : decode (eb_b 45) 1 = .ok (.istore_n 1, 1) := by decide +kernel
theorem hn45_1 : 1 < eb_ml 45 := by decide
theorem d45_2 : decode (eb_b 45) 2 = .ok (.iconst 0, 1) := by decide +kernel
theorem d45_3 : decode (eb_b 45) 3 = .ok (.istore_n 2, 1) := by decide +kernel
theorem hn45_2 : 2 < eb_ml 45 := by decide
theorem d45_4 : decode (eb_b 45) 4 = .ok (.iload_n 2, 1) := by decide +kernel
theorem d45_5 : decode (eb_b 45) 5 = .ok (.aload_n 0, 1) := by decide +kernel
theorem d45_6 : decode (eb_b 45) 6 = .ok (.getfield 39, 3) := by decide +kernel
theorem d45_9 : decode (eb_b 45) 9 = .ok (.if_icmp .ge 21, 3) := by decide +kernel
theorem d45_12 : decode (eb_b 45) 12 = .ok (.iload_n 1, 1) := by decide +kernel
theorem d45_13 : decode (eb_b 45) 13 = .ok (.aload_n 0, 1) := by decide +kernel
theorem d45_14 : decode (eb_b 45) 14 = .ok (.getfield 19, 3) := by decide +kernel
theorem d45_17 : decode (eb_b 45) 17 = .ok (.iload_n 2, 1) := by decide +kernel
theorem d45_18 : decode (eb_b 45) 18 = .ok (.aaload, 1) := by decide +kernel
theorem d45_19 : decode (eb_b 45) 19 = .ok (.getfield 55, 3) := by decide +kernel
theorem d45_22 : decode (eb_b 45) 22 = .ok (.iadd, 1) := by decide +kernel
theorem d45_23 : decode (eb_b 45) 23 = .ok (.istore_n 1, 1) := by decide +kernel
theorem d45_24 : decode (eb_b 45) 24 = .ok (.iinc 2 1, 3) := by decide +kernel
theorem d45_27 : decode (eb_b 45) 27 = .ok (.goto (-23), 3) := by decide +kernel
theorem d45_30 : decode (eb_b 45) 30 = .ok (.iload_n 1, 1) := by decide +kernel
theorem d45_31 : decode (eb_b 45) 31 = .ok (.ireturn, 1) := by decide +kernel
theorem d46_0 : decode (eb_b 46) 0 = .ok (.iconst (-1), 1) := by decide +kernel
theorem d46_1 : decode (eb_b 46) 1 = .ok (.istore_n 1, 1) := by decide +kernel
theorem hn46_1 : 1 < eb_ml 46 := by decide
theorem d46_2 : decode (eb_b 46) 2 = .ok (.iconst 0, 1) := by decide +kernel
theorem d46_3 : decode (eb_b 46) 3 = .ok (.istore_n 2, 1) := by decide +kernel
theorem hn46_2 : 2 < eb_ml 46 := by decide
theorem d46_4 : decode (eb_b 46) 4 = .ok (.iload_n 2, 1) := by decide +kernel
theorem d46_5 : decode (eb_b 46) 5 = .ok (.aload_n 0, 1) := by decide +kernel
theorem d46_6 : decode (eb_b 46) 6 = .ok (.getfield 36, 3) := by decide +kernel
theorem d46_9 : decode (eb_b 46) 9 = .ok (.if_icmp .ge 57, 3) := by decide +kernel
theorem d46_12 : decode (eb_b 46) 12 = .ok (.iload_n 1, 1) := by decide +kernel
theorem d46_13 : decode (eb_b 46) 13 = .ok (.iconst (-1), 1) := by decide +kernel
theorem d46_14 : decode (eb_b 46) 14 = .ok (.if_icmp .eq 44, 3) := by decide +kernel
theorem d46_17 : decode (eb_b 46) 17 = .ok (.aload_n 0, 1) := by decide +kernel
theorem d46_18 : decode (eb_b 46) 18 = .ok (.getfield 11, 3) := by decide +kernel
theorem d46_21 : decode (eb_b 46) 21 = .ok (.iload_n 2, 1) := by decide +kernel
theorem d46_22 : decode (eb_b 46) 22 = .ok (.aaload, 1) := by decide +kernel
theorem d46_23 : decode (eb_b 46) 23 = .ok (.getfield 68, 3) := by decide +kernel
theorem d46_26 : decode (eb_b 46) 26 = .ok (.aload_n 0, 1) := by decide +kernel
theorem d46_27 : decode (eb_b 46) 27 = .ok (.getfield 11, 3) := by decide +kernel
theorem d46_30 : decode (eb_b 46) 30 = .ok (.iload_n 2, 1) := by decide +kernel
theorem d46_31 : decode (eb_b 46) 31 = .ok (.aaload, 1) := by decide +kernel
theorem d46_32 : decode (eb_b 46) 32 = .ok (.getfield 77, 3) := by decide +kernel
theorem wf_4_77 : Cond.fieldLink (eb_cN 4) 77 (eb_tT 1 3).1 (eb_tT 1 3).2.1 (eb_tT 1 3).2.2.1 ∈ eb_LT := eb_lt 123 (by decide +kernel)
theorem d46_35 : decode (eb_b 46) 35 = .ok (.isub, 1) := by decide +kernel
theorem d46_36 : decode (eb_b 46) 36 = .ok (.aload_n 0, 1) := by decide +kernel
theorem d46_37 : decode (eb_b 46) 37 = .ok (.getfield 11, 3) := by decide +kernel
theorem d46_40 : decode (eb_b 46) 40 = .ok (.iload_n 1, 1) := by decide +kernel
theorem d46_41 : decode (eb_b 46) 41 = .ok (.aaload, 1) := by decide +kernel
theorem d46_42 : decode (eb_b 46) 42 = .ok (.getfield 68, 3) := by decide +kernel
theorem d46_45 : decode (eb_b 46) 45 = .ok (.aload_n 0, 1) := by decide +kernel
theorem d46_46 : decode (eb_b 46) 46 = .ok (.getfield 11, 3) := by decide +kernel
theorem d46_49 : decode (eb_b 46) 49 = .ok (.iload_n 1, 1) := by decide +kernel
theorem d46_50 : decode (eb_b 46) 50 = .ok (.aaload, 1) := by decide +kernel
theorem d46_51 : decode (eb_b 46) 51 = .ok (.getfield 77, 3) := by decide +kernel
theorem d46_54 : decode (eb_b 46) 54 = .ok (.isub, 1) := by decide +kernel
theorem d46_55 : decode (eb_b 46) 55 = .ok (.if_icmp .le 5, 3) := by decide +kernel
theorem d46_58 : decode (eb_b 46) 58 = .ok (.iload_n 2, 1) := by decide +kernel
theorem d46_59 : decode (eb_b 46) 59 = .ok (.istore_n 1, 1) := by decide +kernel
theorem d46_60 : decode (eb_b 46) 60 = .ok (.iinc 2 1, 3) := by decide +kernel
theorem d46_63 : decode (eb_b 46) 63 = .ok (.goto (-59), 3) := by decide +kernel
theorem d46_66 : decode (eb_b 46) 66 = .ok (.iload_n 1, 1) := by decide +kernel
theorem d46_67 : decode (eb_b 46) 67 = .ok (.ireturn, 1) := by decide +kernel
theorem d47_0 : decode (eb_b 47) 0 = .ok (.bipush 100, 2) := by decide +kernel
theorem d47_2 : decode (eb_b 47) 2 = .ok (.aload_n 2, 1) := by decide +kernel
theorem d47_3 : decode (eb_b 47) 3 = .ok (.getfield 77, 3) := by decide +kernel
theorem d47_6 : decode (eb_b 47) 6 = .ok (.isub, 1) := by decide +kernel
theorem d47_7 : decode (eb_b 47) 7 = .ok (.istore_n 3, 1) := by decide +kernel
theorem hn47_3 : 3 < eb_ml 47 := by decide
theorem d47_8 : decode (eb_b 47) 8 = .ok (.aload_n 2, 1) := by decide +kernel
theorem d47_9 : decode (eb_b 47) 9 = .ok (.getfield 71, 3) := by decide +kernel
theorem d47_12 : decode (eb_b 47) 12 = .ok (.iconst (-1), 1) := by decide +kernel
theorem d47_13 : decode (eb_b 47) 13 = .ok (.if_icmp .ne 7, 3) := by decide +kernel
theorem d47_16 : decode (eb_b 47) 16 = .ok (.iconst 0, 1) := by decide +kernel
theorem d47_17 : decode (eb_b 47) 17 = .ok (.goto 18, 3) := by decide +kernel
theorem d47_20 : decode (eb_b 47) 20 = .ok (.iconst 0, 1) := by decide +kernel
theorem d47_21 : decode (eb_b 47) 21 = .ok (.aload_n 2, 1) := by decide +kernel
theorem d47_22 : decode (eb_b 47) 22 = .ok (.getfield 71, 3) := by decide +kernel
theorem d47_25 : decode (eb_b 47) 25 = .ok (.iconst 2, 1) := by decide +kernel
theorem d47_26 : decode (eb_b 47) 26 = .ok (.aload_n 0, 1) := by decide +kernel
theorem d47_27 : decode (eb_b 47) 27 = .ok (.getfield 42, 3) := by decide +kernel
theorem d47_30 : decode (eb_b 47) 30 = .ok (.imul, 1) := by decide +kernel
theorem d47_31 : decode (eb_b 47) 31 = .ok (.isub, 1) := by decide +kernel
theorem d47_32 : decode (eb_b 47) 32 = .ok (.invokestatic 80, 3) := by decide +kernel
theorem wm_4_80 : Cond.methodLink (eb_cN 4) 80 Lib.Math.max.name ∈ eb_LT := eb_lt 396 (by decide +kernel)
theorem d47_35 : decode (eb_b 47) 35 = .ok (.istore 4, 2) := by decide +kernel
theorem hn47_4 : 4 < eb_ml 47 := by decide
theorem d47_37 : decode (eb_b 47) 37 = .ok (.aload_n 1, 1) := by decide +kernel
theorem d47_38 : decode (eb_b 47) 38 = .ok (.getfield 52, 3) := by decide +kernel
theorem d47_41 : decode (eb_b 47) 41 = .ok (.tableswitch 103 0 4 #[35, 103, 49, 37, 69], 35) := by decide +kernel
theorem d47_76 : decode (eb_b 47) 76 = .ok (.iload_n 3, 1) := by decide +kernel
theorem d47_77 : decode (eb_b 47) 77 = .ok (.ireturn, 1) := by decide +kernel
theorem d47_78 : decode (eb_b 47) 78 = .ok (.aload_n 2, 1) := by decide +kernel
theorem d47_79 : decode (eb_b 47) 79 = .ok (.getfield 68, 3) := by decide +kernel
theorem d47_82 : decode (eb_b 47) 82 = .ok (.aload_n 2, 1) := by decide +kernel
theorem d47_83 : decode (eb_b 47) 83 = .ok (.getfield 77, 3) := by decide +kernel
theorem d47_86 : decode (eb_b 47) 86 = .ok (.iconst 2, 1) := by decide +kernel
theorem d47_87 : decode (eb_b 47) 87 = .ok (.idiv, 1) := by decide +kernel
theorem d47_88 : decode (eb_b 47) 88 = .ok (.isub, 1) := by decide +kernel
theorem d47_89 : decode (eb_b 47) 89 = .ok (.ireturn, 1) := by decide +kernel
theorem d47_90 : decode (eb_b 47) 90 = .ok (.aload_n 2, 1) := by decide +kernel
theorem d47_91 : decode (eb_b 47) 91 = .ok (.getfield 71, 3) := by decide +kernel
theorem d47_94 : decode (eb_b 47) 94 = .ok (.iconst (-1), 1) := by decide +kernel
theorem d47_95 : decode (eb_b 47) 95 = .ok (.if_icmp .ne 7, 3) := by decide +kernel
theorem d47_98 : decode (eb_b 47) 98 = .ok (.iload_n 3, 1) := by decide +kernel
theorem d47_99 : decode (eb_b 47) 99 = .ok (.goto 10, 3) := by decide +kernel
theorem d47_102 : decode (eb_b 47) 102 = .ok (.iload 4, 2) := by decide +kernel
theorem d47_104 : decode (eb_b 47) 104 = .ok (.aload_n 1, 1) := by decide +kernel
theorem d47_105 : decode (eb_b 47) 105 = .ok (.getfield 58, 3) := by decide +kernel
theorem d47_108 : decode (eb_b 47) 108 = .ok (.isub, 1) := by decide +kernel
theorem d47_109 : decode (eb_b 47) 109 = .ok (.ireturn, 1) := by decide +kernel
theorem d47_110 : decode (eb_b 47) 110 = .ok (.aload_n 2, 1) := by decide +kernel
theorem d47_111 : decode (eb_b 47) 111 = .ok (.getfield 86, 3) := by decide +kernel
theorem wf_4_86 : Cond.fieldLink (eb_cN 4) 86 (eb_tT 1 5).1 (eb_tT 1 5).2.1 (eb_tT 1 5).2.2.1 ∈ eb_LT := eb_lt 130 (by decide +kernel)
theorem d47_114 : decode (eb_b 47) 114 = .ok (.iconst 1, 1) := by decide +kernel
theorem d47_115 : decode (eb_b 47) 115 = .ok (.if_icmp .lt 26, 3) := by decide +kernel
theorem d47_118 : decode (eb_b 47) 118 = .ok (.aload_n 2, 1) := by decide +kernel
theorem d47_119 : decode (eb_b 47) 119 = .ok (.getfield 86, 3) := by decide +kernel
theorem d47_122 : decode (eb_b 47) 122 = .ok (.aload_n 1, 1) := by decide +kernel
theorem d47_123 : decode (eb_b 47) 123 = .ok (.getfield 58, 3) := by decide +kernel
theorem d47_126 : decode (eb_b 47) 126 = .ok (.if_icmp .lt 15, 3) := by decide +kernel
theorem d47_129 : decode (eb_b 47) 129 = .ok (.aload_n 2, 1) := by decide +kernel
theorem d47_130 : decode (eb_b 47) 130 = .ok (.getfield 89, 3) := by decide +kernel
theorem wf_4_89 : Cond.fieldLink (eb_cN 4) 89 (eb_tT 1 6).1 (eb_tT 1 6).2.1 (eb_tT 1 6).2.2.1 ∈ eb_LT := eb_lt 133 (by decide +kernel)
theorem d47_133 : decode (eb_b 47) 133 = .ok (.aload_n 2, 1) := by decide +kernel
theorem d47_134 : decode (eb_b 47) 134 = .ok (.getfield 86, 3) := by decide +kernel
theorem d47_137 : decode (eb_b 47) 137 = .ok (.idiv, 1) := by decide +kernel
theorem d47_138 : decode (eb_b 47) 138 = .ok (.goto 5, 3) := by decide +kernel
theorem d47_141 : decode (eb_b 47) 141 = .ok (.iload 4, 2) := by decide +kernel
theorem d47_143 : decode (eb_b 47) 143 = .ok (.ireturn, 1) := by decide +kernel
theorem d47_144 : decode (eb_b 47) 144 = .ok (.iload 4, 2) := by decide +kernel
theorem d47_146 : decode (eb_b 47) 146 = .ok (.ireturn, 1) := by decide +kernel
theorem d48_0 : decode (eb_b 48) 0 = .ok (.iconst (-1), 1) := by decide +kernel
theorem d48_1 : decode (eb_b 48) 1 = .ok (.istore_n 2, 1) := by decide +kernel
theorem hn48_2 : 2 < eb_ml 48 := by decide
theorem d48_2 : decode (eb_b 48) 2 = .ok (.iconst 0, 1) := by decide +kernel
theorem d48_3 : decode (eb_b 48) 3 = .ok (.istore_n 3, 1) := by decide +kernel
theorem hn48_3 : 3 < eb_ml 48 := by decide
theorem d48_4 : decode (eb_b 48) 4 = .ok (.iconst 0, 1) := by decide +kernel
theorem d48_5 : decode (eb_b 48) 5 = .ok (.istore 4, 2) := by decide +kernel
theorem hn48_4 : 4 < eb_ml 48 := by decide
theorem d48_7 : decode (eb_b 48) 7 = .ok (.iload 4, 2) := by decide +kernel
theorem d48_9 : decode (eb_b 48) 9 = .ok (.aload_n 0, 1) := by decide +kernel
theorem d48_10 : decode (eb_b 48) 10 = .ok (.getfield 36, 3) := by decide +kernel
theorem d48_13 : decode (eb_b 48) 13 = .ok (.if_icmp .ge 40, 3) := by decide +kernel
theorem d48_16 : decode (eb_b 48) 16 = .ok (.aload_n 0, 1) := by decide +kernel
theorem d48_17 : decode (eb_b 48) 17 = .ok (.aload_n 1, 1) := by decide +kernel
theorem d48_18 : decode (eb_b 48) 18 = .ok (.aload_n 0, 1) := by decide +kernel
theorem d48_19 : decode (eb_b 48) 19 = .ok (.getfield 11, 3) := by decide +kernel
theorem d48_22 : decode (eb_b 48) 22 = .ok (.iload 4, 2) := by decide +kernel
theorem d48_24 : decode (eb_b 48) 24 = .ok (.aaload, 1) := by decide +kernel
theorem d48_25 : decode (eb_b 48) 25 = .ok (.invokevirtual 92, 3) := by decide +kernel
theorem wc_47 : Cond.code (eb_y 47) (eb_b 47) (eb_ml 47) (eb_rt 47) ∈ eb_LT := eb_lt 395 (by decide +kernel)
theorem cy_47 : (eb_y 47).cls = eb_cN (eb_rc 47) ∧ (eb_y 47).cls ≠ "java/lang/invoke/MethodHandle" ∧ (eb_y 47).cls ≠ "java/lang/invoke/VarHandle" ∧ (parseMethodDescriptor (eb_y 47).desc).map (fun d => d.parameters.length) = some 2 := by decide +kernel
theorem wi_47 : Cond.instanceMethod (eb_y 47) ∈ eb_LT := eb_lt 393 (by decide +kernel)
theorem wse_47 : Cond.selects (eb_cN (eb_rc 47)) (eb_y 47) (eb_y 47) ∈ eb_LT := eb_lt 394 (by decide +kernel)
theorem kV_47 {L q0 m pc : Nat} {lg : Nat → Bool} {ix : Nat} (hw : Cond.methodLink (eb_own m) ix (eb_y 47) ∈ eb_LT) (hd : decode (eb_b m) pc = .ok (.invokevirtual ix, 3)) : eb_Snd L q0 m pc lg (op_call 47 3 (pc + 3)) := sn_callV false rfl (Or.inr ⟨rfl, _, rfl⟩) (by decide) rfl (by decide) ⟨⟨hw, wi_47, wse_47⟩, wc_47⟩ cy_47 hd
theorem wm_4_92 : Cond.methodLink (eb_cN 4) 92 (eb_y 47) ∈ eb_LT := eb_lt 392 (by decide +kernel)
theorem d48_28 : decode (eb_b 48) 28 = .ok (.istore 5, 2) := by decide +kernel
theorem hn48_5 : 5 < eb_ml 48 := by decide
theorem d48_30 : decode (eb_b 48) 30 = .ok (.iload_n 2, 1) := by decide +kernel
theorem d48_31 : decode (eb_b 48) 31 = .ok (.iconst (-1), 1) := by decide +kernel
theorem d48_32 : decode (eb_b 48) 32 = .ok (.if_icmp .eq 9, 3) := by decide +kernel
theorem d48_35 : decode (eb_b 48) 35 = .ok (.iload 5, 2) := by decide +kernel
theorem d48_37 : decode (eb_b 48) 37 = .ok (.iload_n 3, 1) := by decide +kernel
theorem d48_38 : decode (eb_b 48) 38 = .ok (.if_icmp .le 9, 3) := by decide +kernel
theorem d48_41 : decode (eb_b 48) 41 = .ok (.iload 4, 2) := by decide +kernel
theorem d48_43 : decode (eb_b 48) 43 = .ok (.istore_n 2, 1) := by decide +kernel
theorem d48_44 : decode (eb_b 48) 44 = .ok (.iload 5, 2) := by decide +kernel
theorem d48_46 : decode (eb_b 48) 46 = .ok (.istore_n 3, 1) := by decide +kernel
theorem d48_47 : decode (eb_b 48) 47 = .ok (.iinc 4 1, 3) := by decide +kernel
theorem d48_50 : decode (eb_b 48) 50 = .ok (.goto (-43), 3) := by decide +kernel
theorem d48_53 : decode (eb_b 48) 53 = .ok (.iload_n 2, 1) := by decide +kernel
theorem d48_54 : decode (eb_b 48) 54 = .ok (.ireturn, 1) := by decide +kernel
theorem d49_0 : decode (eb_b 49) 0 = .ok (.iconst 0, 1) := by decide +kernel
theorem d49_1 : decode (eb_b 49) 1 = .ok (.istore_n 2, 1) := by decide +kernel
theorem hn49_2 : 2 < eb_ml 49 := by decide
theorem d49_2 : decode (eb_b 49) 2 = .ok (.iconst 0, 1) := by decide +kernel
theorem d49_3 : decode (eb_b 49) 3 = .ok (.istore_n 3, 1) := by decide +kernel
theorem hn49_3 : 3 < eb_ml 49 := by decide
theorem d49_4 : decode (eb_b 49) 4 = .ok (.iload_n 3, 1) := by decide +kernel
theorem d49_5 : decode (eb_b 49) 5 = .ok (.aload_n 0, 1) := by decide +kernel
theorem d49_6 : decode (eb_b 49) 6 = .ok (.getfield 39, 3) := by decide +kernel
theorem d49_9 : decode (eb_b 49) 9 = .ok (.if_icmp .ge 47, 3) := by decide +kernel
theorem d49_12 : decode (eb_b 49) 12 = .ok (.aload_n 0, 1) := by decide +kernel
theorem d49_13 : decode (eb_b 49) 13 = .ok (.getfield 19, 3) := by decide +kernel
theorem d49_16 : decode (eb_b 49) 16 = .ok (.iload_n 3, 1) := by decide +kernel
theorem d49_17 : decode (eb_b 49) 17 = .ok (.aaload, 1) := by decide +kernel
theorem d49_18 : decode (eb_b 49) 18 = .ok (.invokevirtual 96, 3) := by decide +kernel
theorem wm_4_96 : Cond.methodLink (eb_cN 4) 96 (eb_y 4) ∈ eb_LT := eb_lt 731 (by decide +kernel)
theorem d49_21 : decode (eb_b 49) 21 = .ok (.ifCond .eq 29, 3) := by decide +kernel
theorem d49_24 : decode (eb_b 49) 24 = .ok (.aload_n 0, 1) := by decide +kernel
theorem d49_25 : decode (eb_b 49) 25 = .ok (.aload_n 0, 1) := by decide +kernel
theorem d49_26 : decode (eb_b 49) 26 = .ok (.getfield 19, 3) := by decide +kernel
theorem d49_29 : decode (eb_b 49) 29 = .ok (.iload_n 3, 1) := by decide +kernel
theorem d49_30 : decode (eb_b 49) 30 = .ok (.aaload, 1) := by decide +kernel
theorem d49_31 : decode (eb_b 49) 31 = .ok (.invokevirtual 100, 3) := by decide +kernel
theorem wc_48 : Cond.code (eb_y 48) (eb_b 48) (eb_ml 48) (eb_rt 48) ∈ eb_LT := eb_lt 391 (by decide +kernel)
theorem cy_48 : (eb_y 48).cls = eb_cN (eb_rc 48) ∧ (eb_y 48).cls ≠ "java/lang/invoke/MethodHandle" ∧ (eb_y 48).cls ≠ "java/lang/invoke/VarHandle" ∧ (parseMethodDescriptor (eb_y 48).desc).map (fun d => d.parameters.length) = some 1 := by decide +kernel
theorem wi_48 : Cond.instanceMethod (eb_y 48) ∈ eb_LT := eb_lt 389 (by decide +kernel)
theorem wse_48 : Cond.selects (eb_cN (eb_rc 48)) (eb_y 48) (eb_y 48) ∈ eb_LT := eb_lt 390 (by decide +kernel)
theorem kV_48 {L q0 m pc : Nat} {lg : Nat → Bool} {ix : Nat} (hw : Cond.methodLink (eb_own m) ix (eb_y 48) ∈ eb_LT) (hd : decode (eb_b m) pc = .ok (.invokevirtual ix, 3)) : eb_Snd L q0 m pc lg (op_call 48 2 (pc + 3)) := sn_callV false rfl (Or.inr ⟨rfl, _, rfl⟩) (by decide) rfl (by decide) ⟨⟨hw, wi_48, wse_48⟩, wc_48⟩ cy_48 hd
theorem wm_4_100 : Cond.methodLink (eb_cN 4) 100 (eb_y 48) ∈ eb_LT := eb_lt 732 (by decide +kernel)
theorem d49_34 : decode (eb_b 49) 34 = .ok (.iload_n 1, 1) := by decide +kernel
theorem d49_35 : decode (eb_b 49) 35 = .ok (.if_icmp .ne 15, 3) := by decide +kernel
theorem d49_38 : decode (eb_b 49) 38 = .ok (.iload_n 2, 1) := by decide +kernel
theorem d49_39 : decode (eb_b 49) 39 = .ok (.aload_n 0, 1) := by decide +kernel
theorem d49_40 : decode (eb_b 49) 40 = .ok (.getfield 19, 3) := by decide +kernel
theorem d49_43 : decode (eb_b 49) 43 = .ok (.iload_n 3, 1) := by decide +kernel
theorem d49_44 : decode (eb_b 49) 44 = .ok (.aaload, 1) := by decide +kernel
theorem d49_45 : decode (eb_b 49) 45 = .ok (.getfield 55, 3) := by decide +kernel
theorem d49_48 : decode (eb_b 49) 48 = .ok (.iadd, 1) := by decide +kernel
theorem d49_49 : decode (eb_b 49) 49 = .ok (.istore_n 2, 1) := by decide +kernel
theorem d49_50 : decode (eb_b 49) 50 = .ok (.iinc 3 1, 3) := by decide +kernel
theorem d49_53 : decode (eb_b 49) 53 = .ok (.goto (-49), 3) := by decide +kernel
theorem d49_56 : decode (eb_b 49) 56 = .ok (.iload_n 2, 1) := by decide +kernel
theorem d49_57 : decode (eb_b 49) 57 = .ok (.ireturn, 1) := by decide +kernel
theorem d50_0 : decode (eb_b 50) 0 = .ok (.aload_n 0, 1) := by decide +kernel
theorem d50_1 : decode (eb_b 50) 1 = .ok (.invokevirtual 104, 3) := by decide +kernel
theorem wc_52 : Cond.code (eb_y 52) (eb_b 52) (eb_ml 52) (eb_rt 52) ∈ eb_LT := eb_lt 644 (by decide +kernel)
theorem cy_52 : (eb_y 52).cls = eb_cN (eb_rc 52) ∧ (eb_y 52).cls ≠ "java/lang/invoke/MethodHandle" ∧ (eb_y 52).cls ≠ "java/lang/invoke/VarHandle" ∧ (parseMethodDescriptor (eb_y 52).desc).map (fun d => d.parameters.length) = some 0 := by decide +kernel
theorem wi_52 : Cond.instanceMethod (eb_y 52) ∈ eb_LT := eb_lt 643 (by decide +kernel)
theorem wse_52 : Cond.selects (eb_cN (eb_rc 52)) (eb_y 52) (eb_y 52) ∈ eb_LT := eb_lt 22 (by decide +kernel)
theorem kV_52 {L q0 m pc : Nat} {lg : Nat → Bool} {ix : Nat} (hw : Cond.methodLink (eb_own m) ix (eb_y 52) ∈ eb_LT) (hd : decode (eb_b m) pc = .ok (.invokevirtual ix, 3)) : eb_Snd L q0 m pc lg (op_callv 52 1 (pc + 3)) := sn_callV true rfl (Or.inl ⟨rfl, rfl⟩) (by decide) rfl (by decide) ⟨⟨hw, wi_52, wse_52⟩, wc_52⟩ cy_52 hd
theorem wm_4_104 : Cond.methodLink (eb_cN 4) 104 (eb_y 52) ∈ eb_LT := eb_lt 641 (by decide +kernel)
theorem d50_4 : decode (eb_b 50) 4 = .ok (.iconst 0, 1) := by decide +kernel
theorem d50_5 : decode (eb_b 50) 5 = .ok (.istore_n 1, 1) := by decide +kernel
theorem hn50_1 : 1 < eb_ml 50 := by decide
theorem d50_6 : decode (eb_b 50) 6 = .ok (.iload_n 1, 1) := by decide +kernel
theorem d50_7 : decode (eb_b 50) 7 = .ok (.aload_n 0, 1) := by decide +kernel
theorem d50_8 : decode (eb_b 50) 8 = .ok (.getfield 39, 3) := by decide +kernel
theorem d50_11 : decode (eb_b 50) 11 = .ok (.if_icmp .ge 28, 3) := by decide +kernel
theorem d50_14 : decode (eb_b 50) 14 = .ok (.aload_n 0, 1) := by decide +kernel
theorem d50_15 : decode (eb_b 50) 15 = .ok (.aload_n 0, 1) := by decide +kernel
theorem d50_16 : decode (eb_b 50) 16 = .ok (.getfield 31, 3) := by decide +kernel
theorem d50_19 : decode (eb_b 50) 19 = .ok (.iload_n 1, 1) := by decide +kernel
theorem d50_20 : decode (eb_b 50) 20 = .ok (.aaload, 1) := by decide +kernel
theorem d50_21 : decode (eb_b 50) 21 = .ok (.aload_n 0, 1) := by decide +kernel
theorem d50_22 : decode (eb_b 50) 22 = .ok (.getfield 31, 3) := by decide +kernel
theorem d50_25 : decode (eb_b 50) 25 = .ok (.iload_n 1, 1) := by decide +kernel
theorem d50_26 : decode (eb_b 50) 26 = .ok (.aaload, 1) := by decide +kernel
theorem d50_27 : decode (eb_b 50) 27 = .ok (.getfield 55, 3) := by decide +kernel
theorem d50_30 : decode (eb_b 50) 30 = .ok (.invokevirtual 107, 3) := by decide +kernel
theorem wc_55 : Cond.code (eb_y 55) (eb_b 55) (eb_ml 55) (eb_rt 55) ∈ eb_LT := eb_lt 665 (by decide +kernel)
theorem cy_55 : (eb_y 55).cls = eb_cN (eb_rc 55) ∧ (eb_y 55).cls ≠ "java/lang/invoke/MethodHandle" ∧ (eb_y 55).cls ≠ "java/lang/invoke/VarHandle" ∧ (parseMethodDescriptor (eb_y 55).desc).map (fun d => d.parameters.length) = some 2 := by decide +kernel
theorem wi_55 : Cond.instanceMethod (eb_y 55) ∈ eb_LT := eb_lt 664 (by decide +kernel)
theorem wse_55 : Cond.selects (eb_cN (eb_rc 55)) (eb_y 55) (eb_y 55) ∈ eb_LT := eb_lt 25 (by decide +kernel)
theorem kV_55 {L q0 m pc : Nat} {lg : Nat → Bool} {ix : Nat} (hw : Cond.methodLink (eb_own m) ix (eb_y 55) ∈ eb_LT) (hd : decode (eb_b m) pc = .ok (.invokevirtual ix, 3)) : eb_Snd L q0 m pc lg (op_callv 55 3 (pc + 3)) := sn_callV true rfl (Or.inl ⟨rfl, rfl⟩) (by decide) rfl (by decide) ⟨⟨hw, wi_55, wse_55⟩, wc_55⟩ cy_55 hd
theorem wm_4_107 : Cond.methodLink (eb_cN 4) 107 (eb_y 55) ∈ eb_LT := eb_lt 662 (by decide +kernel)
theorem d50_33 : decode (eb_b 50) 33 = .ok (.iinc 1 1, 3) := by decide +kernel
theorem d50_36 : decode (eb_b 50) 36 = .ok (.goto (-30), 3) := by decide +kernel
theorem d50_39 : decode (eb_b 50) 39 = .ok (.return_, 1) := by decide +kernel
theorem d51_0 : decode (eb_b 51) 0 = .ok (.aload_n 0, 1) := by decide +kernel
theorem d51_1 : decode (eb_b 51) 1 = .ok (.invokevirtual 104, 3) := by decide +kernel
theorem d51_4 : decode (eb_b 51) 4 = .ok (.iconst 0, 1) := by decide +kernel
theorem d51_5 : decode (eb_b 51) 5 = .ok (.istore_n 3, 1) := by decide +kernel
theorem hn51_3 : 3 < eb_ml 51 := by decide
theorem d51_6 : decode (eb_b 51) 6 = .ok (.iload_n 3, 1) := by decide +kernel
theorem d51_7 : decode (eb_b 51) 7 = .ok (.aload_n 0, 1) := by decide +kernel
theorem d51_8 : decode (eb_b 51) 8 = .ok (.getfield 39, 3) := by decide +kernel
theorem d51_11 : decode (eb_b 51) 11 = .ok (.if_icmp .ge 72, 3) := by decide +kernel
theorem d51_14 : decode (eb_b 51) 14 = .ok (.aload_n 0, 1) := by decide +kernel
theorem d51_15 : decode (eb_b 51) 15 = .ok (.getfield 31, 3) := by decide +kernel
theorem d51_18 : decode (eb_b 51) 18 = .ok (.iload_n 3, 1) := by decide +kernel
theorem d51_19 : decode (eb_b 51) 19 = .ok (.aaload, 1) := by decide +kernel
theorem d51_20 : decode (eb_b 51) 20 = .ok (.astore 4, 2) := by decide +kernel
theorem hn51_4 : 4 < eb_ml 51 := by decide
theorem d51_22 : decode (eb_b 51) 22 = .ok (.aload 4, 2) := by decide +kernel
theorem d51_24 : decode (eb_b 51) 24 = .ok (.invokevirtual 96, 3) := by decide +kernel
theorem d51_27 : decode (eb_b 51) 27 = .ok (.ifCond .eq 13, 3) := by decide +kernel
theorem d51_30 : decode (eb_b 51) 30 = .ok (.aload 4, 2) := by decide +kernel
theorem d51_32 : decode (eb_b 51) 32 = .ok (.getfield 55, 3) := by decide +kernel
theorem d51_35 : decode (eb_b 51) 35 = .ok (.iconst 2, 1) := by decide +kernel
theorem d51_36 : decode (eb_b 51) 36 = .ok (.idiv, 1) := by decide +kernel
theorem d51_37 : decode (eb_b 51) 37 = .ok (.goto 4, 3) := by decide +kernel
theorem d51_40 : decode (eb_b 51) 40 = .ok (.iconst 0, 1) := by decide +kernel
theorem d51_41 : decode (eb_b 51) 41 = .ok (.istore 5, 2) := by decide +kernel
theorem hn51_5 : 5 < eb_ml 51 := by decide
theorem d51_43 : decode (eb_b 51) 43 = .ok (.aload_n 0, 1) := by decide +kernel
theorem d51_44 : decode (eb_b 51) 44 = .ok (.iload_n 1, 1) := by decide +kernel
theorem d51_45 : decode (eb_b 51) 45 = .ok (.invokevirtual 111, 3) := by decide +kernel
theorem wm_4_111 : Cond.methodLink (eb_cN 4) 111 (eb_y 42) ∈ eb_LT := eb_lt 785 (by decide +kernel)
theorem d51_48 : decode (eb_b 51) 48 = .ok (.pop, 1) := by decide +kernel
theorem d51_49 : decode (eb_b 51) 49 = .ok (.aload_n 0, 1) := by decide +kernel
theorem d51_50 : decode (eb_b 51) 50 = .ok (.aload 4, 2) := by decide +kernel
theorem d51_52 : decode (eb_b 51) 52 = .ok (.aload 4, 2) := by decide +kernel
theorem d51_54 : decode (eb_b 51) 54 = .ok (.getfield 55, 3) := by decide +kernel
theorem d51_57 : decode (eb_b 51) 57 = .ok (.iload 5, 2) := by decide +kernel
theorem d51_59 : decode (eb_b 51) 59 = .ok (.isub, 1) := by decide +kernel
theorem d51_60 : decode (eb_b 51) 60 = .ok (.invokevirtual 107, 3) := by decide +kernel
theorem d51_63 : decode (eb_b 51) 63 = .ok (.aload_n 0, 1) := by decide +kernel
theorem d51_64 : decode (eb_b 51) 64 = .ok (.iload_n 2, 1) := by decide +kernel
theorem d51_65 : decode (eb_b 51) 65 = .ok (.invokevirtual 111, 3) := by decide +kernel
theorem d51_68 : decode (eb_b 51) 68 = .ok (.pop, 1) := by decide +kernel
theorem d51_69 : decode (eb_b 51) 69 = .ok (.aload_n 0, 1) := by decide +kernel
theorem d51_70 : decode (eb_b 51) 70 = .ok (.aload 4, 2) := by decide +kernel
theorem d51_72 : decode (eb_b 51) 72 = .ok (.iload 5, 2) := by decide +kernel
theorem d51_74 : decode (eb_b 51) 74 = .ok (.invokevirtual 107, 3) := by decide +kernel
theorem d51_77 : decode (eb_b 51) 77 = .ok (.iinc 3 1, 3) := by decide +kernel
theorem d51_80 : decode (eb_b 51) 80 = .ok (.goto (-74), 3) := by decide +kernel
theorem d51_83 : decode (eb_b 51) 83 = .ok (.return_, 1) := by decide +kernel
theorem d52_0 : decode (eb_b 52) 0 = .ok (.iconst 0, 1) := by decide +kernel
theorem d52_1 : decode (eb_b 52) 1 = .ok (.istore_n 1, 1) := by decide +kernel
theorem hn52_1 : 1 < eb_ml 52 := by decide
theorem d52_2 : decode (eb_b 52) 2 = .ok (.iload_n 1, 1) := by decide +kernel
theorem d52_3 : decode (eb_b 52) 3 = .ok (.aload_n 0, 1) := by decide +kernel
theorem d52_4 : decode (eb_b 52) 4 = .ok (.getfield 36, 3) := by decide +kernel
theorem d52_7 : decode (eb_b 52) 7 = .ok (.if_icmp .ge 19, 3) := by decide +kernel
theorem d52_10 : decode (eb_b 52) 10 = .ok (.aload_n 0, 1) := by decide +kernel
theorem d52_11 : decode (eb_b 52) 11 = .ok (.getfield 11, 3) := by decide +kernel
theorem d52_14 : decode (eb_b 52) 14 = .ok (.iload_n 1, 1) := by decide +kernel
theorem d52_15 : decode (eb_b 52) 15 = .ok (.aaload, 1) := by decide +kernel
theorem d52_16 : decode (eb_b 52) 16 = .ok (.iconst 0, 1) := by decide +kernel
theorem d52_17 : decode (eb_b 52) 17 = .ok (.putfield 115, 3) := by decide +kernel
theorem wf_4_115 : Cond.fieldLink (eb_cN 4) 115 (eb_tT 1 7).1 (eb_tT 1 7).2.1 (eb_tT 1 7).2.2.1 ∈ eb_LT := eb_lt 136 (by decide +kernel)
theorem fp_1_7 : ∀ x : Int32, narrow (eb_tt 1 7) (.int x) = .int x ∧ fits (eb_tt 1 7) (.int x) = true := fun x => ⟨rfl, rfl⟩
theorem d52_20 : decode (eb_b 52) 20 = .ok (.iinc 1 1, 3) := by decide +kernel
theorem d52_23 : decode (eb_b 52) 23 = .ok (.goto (-21), 3) := by decide +kernel
theorem d52_26 : decode (eb_b 52) 26 = .ok (.iconst 0, 1) := by decide +kernel
theorem d52_27 : decode (eb_b 52) 27 = .ok (.istore_n 1, 1) := by decide +kernel
theorem d52_28 : decode (eb_b 52) 28 = .ok (.iload_n 1, 1) := by decide +kernel
theorem d52_29 : decode (eb_b 52) 29 = .ok (.aload_n 0, 1) := by decide +kernel
theorem d52_30 : decode (eb_b 52) 30 = .ok (.getfield 39, 3) := by decide +kernel
theorem d52_33 : decode (eb_b 52) 33 = .ok (.if_icmp .ge 18, 3) := by decide +kernel
theorem d52_36 : decode (eb_b 52) 36 = .ok (.aload_n 0, 1) := by decide +kernel
theorem d52_37 : decode (eb_b 52) 37 = .ok (.getfield 19, 3) := by decide +kernel
theorem d52_40 : decode (eb_b 52) 40 = .ok (.iload_n 1, 1) := by decide +kernel
theorem d52_41 : decode (eb_b 52) 41 = .ok (.aaload, 1) := by decide +kernel
theorem d52_42 : decode (eb_b 52) 42 = .ok (.invokevirtual 118, 3) := by decide +kernel
theorem wc_3 : Cond.code (eb_y 3) (eb_b 3) (eb_ml 3) (eb_rt 3) ∈ eb_LT := eb_lt 648 (by decide +kernel)
theorem cy_3 : (eb_y 3).cls = eb_cN (eb_rc 3) ∧ (eb_y 3).cls ≠ "java/lang/invoke/MethodHandle" ∧ (eb_y 3).cls ≠ "java/lang/invoke/VarHandle" ∧ (parseMethodDescriptor (eb_y 3).desc).map (fun d => d.parameters.length) = some 0 := by decide +kernel
theorem wi_3 : Cond.instanceMethod (eb_y 3) ∈ eb_LT := eb_lt 646 (by decide +kernel)
theorem wse_3 : Cond.selects (eb_cN (eb_rc 3)) (eb_y 3) (eb_y 3) ∈ eb_LT := eb_lt 647 (by decide +kernel)
theorem kV_3 {L q0 m pc : Nat} {lg : Nat → Bool} {ix : Nat} (hw : Cond.methodLink (eb_own m) ix (eb_y 3) ∈ eb_LT) (hd : decode (eb_b m) pc = .ok (.invokevirtual ix, 3)) : eb_Snd L q0 m pc lg (op_callv 3 1 (pc + 3)) := sn_callV true rfl (Or.inl ⟨rfl, rfl⟩) (by decide) rfl (by decide) ⟨⟨hw, wi_3, wse_3⟩, wc_3⟩ cy_3 hd
theorem wm_4_118 : Cond.methodLink (eb_cN 4) 118 (eb_y 3) ∈ eb_LT := eb_lt 645 (by decide +kernel)
theorem d52_45 : decode (eb_b 52) 45 = .ok (.iinc 1 1, 3) := by decide +kernel
theorem d52_48 : decode (eb_b 52) 48 = .ok (.goto (-20), 3) := by decide +kernel
theorem d52_51 : decode (eb_b 52) 51 = .ok (.aload_n 0, 1) := by decide +kernel
theorem d52_52 : decode (eb_b 52) 52 = .ok (.iconst 0, 1) := by decide +kernel
theorem d52_53 : decode (eb_b 52) 53 = .ok (.iconst 0, 1) := by decide +kernel
theorem d52_54 : decode (eb_b 52) 54 = .ok (.invokevirtual 121, 3) := by decide +kernel
theorem wc_53 : Cond.code (eb_y 53) (eb_b 53) (eb_ml 53) (eb_rt 53) ∈ eb_LT := eb_lt 652 (by decide +kernel)
theorem cy_53 : (eb_y 53).cls = eb_cN (eb_rc 53) ∧ (eb_y 53).cls ≠ "java/lang/invoke/MethodHandle" ∧ (eb_y 53).cls ≠ "java/lang/invoke/VarHandle" ∧ (parseMethodDescriptor (eb_y 53).desc).map (fun d => d.parameters.length) = some 2 := by decide +kernel
theorem wi_53 : Cond.instanceMethod (eb_y 53) ∈ eb_LT := eb_lt 651 (by decide +kernel)
theorem wse_53 : Cond.selects (eb_cN (eb_rc 53)) (eb_y 53) (eb_y 53) ∈ eb_LT := eb_lt 23 (by decide +kernel)
theorem kV_53 {L q0 m pc : Nat} {lg : Nat → Bool} {ix : Nat} (hw : Cond.methodLink (eb_own m) ix (eb_y 53) ∈ eb_LT) (hd : decode (eb_b m) pc = .ok (.invokevirtual ix, 3)) : eb_Snd L q0 m pc lg (op_callv 53 3 (pc + 3)) := sn_callV true rfl (Or.inl ⟨rfl, rfl⟩) (by decide) rfl (by decide) ⟨⟨hw, wi_53, wse_53⟩, wc_53⟩ cy_53 hd
theorem wm_4_121 : Cond.methodLink (eb_cN 4) 121 (eb_y 53) ∈ eb_LT := eb_lt 649 (by decide +kernel)
theorem d52_57 : decode (eb_b 52) 57 = .ok (.aload_n 0, 1) := by decide +kernel
theorem d52_58 : decode (eb_b 52) 58 = .ok (.iconst 1, 1) := by decide +kernel
theorem d52_59 : decode (eb_b 52) 59 = .ok (.aload_n 0, 1) := by decide +kernel
theorem d52_60 : decode (eb_b 52) 60 = .ok (.getfield 39, 3) := by decide +kernel
theorem d52_63 : decode (eb_b 52) 63 = .ok (.aload_n 0, 1) := by decide +kernel
theorem d52_64 : decode (eb_b 52) 64 = .ok (.invokevirtual 125, 3) := by decide +kernel
theorem wc_54 : Cond.code (eb_y 54) (eb_b 54) (eb_ml 54) (eb_rt 54) ∈ eb_LT := eb_lt 661 (by decide +kernel)
theorem cy_54 : (eb_y 54).cls = eb_cN (eb_rc 54) ∧ (eb_y 54).cls ≠ "java/lang/invoke/MethodHandle" ∧ (eb_y 54).cls ≠ "java/lang/invoke/VarHandle" ∧ (parseMethodDescriptor (eb_y 54).desc).map (fun d => d.parameters.length) = some 0 := by decide +kernel
theorem wi_54 : Cond.instanceMethod (eb_y 54) ∈ eb_LT := eb_lt 660 (by decide +kernel)
theorem wse_54 : Cond.selects (eb_cN (eb_rc 54)) (eb_y 54) (eb_y 54) ∈ eb_LT := eb_lt 24 (by decide +kernel)
theorem kV_54 {L q0 m pc : Nat} {lg : Nat → Bool} {ix : Nat} (hw : Cond.methodLink (eb_own m) ix (eb_y 54) ∈ eb_LT) (hd : decode (eb_b m) pc = .ok (.invokevirtual ix, 3)) : eb_Snd L q0 m pc lg (op_call 54 1 (pc + 3)) := sn_callV false rfl (Or.inr ⟨rfl, _, rfl⟩) (by decide) rfl (by decide) ⟨⟨hw, wi_54, wse_54⟩, wc_54⟩ cy_54 hd
theorem wm_4_125 : Cond.methodLink (eb_cN 4) 125 (eb_y 54) ∈ eb_LT := eb_lt 658 (by decide +kernel)
theorem d52_67 : decode (eb_b 52) 67 = .ok (.isub, 1) := by decide +kernel
theorem d52_68 : decode (eb_b 52) 68 = .ok (.invokevirtual 121, 3) := by decide +kernel
theorem d52_71 : decode (eb_b 52) 71 = .ok (.return_, 1) := by decide +kernel
theorem d53_0 : decode (eb_b 53) 0 = .ok (.iload_n 2, 1) := by decide +kernel
theorem d53_1 : decode (eb_b 53) 1 = .ok (.istore_n 3, 1) := by decide +kernel
theorem hn53_3 : 3 < eb_ml 53 := by decide
theorem d53_2 : decode (eb_b 53) 2 = .ok (.iconst 0, 1) := by decide +kernel
theorem d53_3 : decode (eb_b 53) 3 = .ok (.istore 4, 2) := by decide +kernel
theorem hn53_4 : 4 < eb_ml 53 := by decide
theorem d53_5 : decode (eb_b 53) 5 = .ok (.iload 4, 2) := by decide +kernel
theorem d53_7 : decode (eb_b 53) 7 = .ok (.aload_n 0, 1) := by decide +kernel
theorem d53_8 : decode (eb_b 53) 8 = .ok (.getfield 39, 3) := by decide +kernel
theorem d53_11 : decode (eb_b 53) 11 = .ok (.if_icmp .ge 48, 3) := by decide +kernel
theorem d53_14 : decode (eb_b 53) 14 = .ok (.aload_n 0, 1) := by decide +kernel
theorem d53_15 : decode (eb_b 53) 15 = .ok (.getfield 19, 3) := by decide +kernel
theorem d53_18 : decode (eb_b 53) 18 = .ok (.iload 4, 2) := by decide +kernel
theorem d53_20 : decode (eb_b 53) 20 = .ok (.aaload, 1) := by decide +kernel
theorem d53_21 : decode (eb_b 53) 21 = .ok (.invokevirtual 129, 3) := by decide +kernel
theorem wc_5 : Cond.code (eb_y 5) (eb_b 5) (eb_ml 5) (eb_rt 5) ∈ eb_LT := eb_lt 656 (by decide +kernel)
theorem cy_5 : (eb_y 5).cls = eb_cN (eb_rc 5) ∧ (eb_y 5).cls ≠ "java/lang/invoke/MethodHandle" ∧ (eb_y 5).cls ≠ "java/lang/invoke/VarHandle" ∧ (parseMethodDescriptor (eb_y 5).desc).map (fun d => d.parameters.length) = some 0 := by decide +kernel
theorem wi_5 : Cond.instanceMethod (eb_y 5) ∈ eb_LT := eb_lt 654 (by decide +kernel)
theorem wse_5 : Cond.selects (eb_cN (eb_rc 5)) (eb_y 5) (eb_y 5) ∈ eb_LT := eb_lt 655 (by decide +kernel)
theorem kV_5 {L q0 m pc : Nat} {lg : Nat → Bool} {ix : Nat} (hw : Cond.methodLink (eb_own m) ix (eb_y 5) ∈ eb_LT) (hd : decode (eb_b m) pc = .ok (.invokevirtual ix, 3)) : eb_Snd L q0 m pc lg (op_call 5 1 (pc + 3)) := sn_callV false rfl (Or.inr ⟨rfl, _, rfl⟩) (by decide) rfl (by decide) ⟨⟨hw, wi_5, wse_5⟩, wc_5⟩ cy_5 hd
theorem wm_4_129 : Cond.methodLink (eb_cN 4) 129 (eb_y 5) ∈ eb_LT := eb_lt 653 (by decide +kernel)
theorem d53_24 : decode (eb_b 53) 24 = .ok (.iload_n 1, 1) := by decide +kernel
theorem d53_25 : decode (eb_b 53) 25 = .ok (.if_icmp .ne 28, 3) := by decide +kernel
theorem d53_28 : decode (eb_b 53) 28 = .ok (.iload_n 3, 1) := by decide +kernel
theorem d53_29 : decode (eb_b 53) 29 = .ok (.iconst 0, 1) := by decide +kernel
theorem d53_30 : decode (eb_b 53) 30 = .ok (.iconst 5, 1) := by decide +kernel
theorem d53_31 : decode (eb_b 53) 31 = .ok (.invokestatic 132, 3) := by decide +kernel
theorem wm_4_132 : Cond.methodLinkNest (eb_cN 4) 132 (eb_y 127) "EverybodyHasTheBook" ∈ eb_nest := by decide +kernel
theorem d53_34 : decode (eb_b 53) 34 = .ok (.ifCond .eq 19, 3) := by decide +kernel
theorem d53_37 : decode (eb_b 53) 37 = .ok (.aload_n 0, 1) := by decide +kernel
theorem d53_38 : decode (eb_b 53) 38 = .ok (.getfield 31, 3) := by decide +kernel
theorem d53_41 : decode (eb_b 53) 41 = .ok (.iload_n 3, 1) := by decide +kernel
theorem d53_42 : decode (eb_b 53) 42 = .ok (.aload_n 0, 1) := by decide +kernel
theorem d53_43 : decode (eb_b 53) 43 = .ok (.getfield 19, 3) := by decide +kernel
theorem d53_46 : decode (eb_b 53) 46 = .ok (.iload 4, 2) := by decide +kernel
theorem d53_48 : decode (eb_b 53) 48 = .ok (.aaload, 1) := by decide +kernel
theorem d53_49 : decode (eb_b 53) 49 = .ok (.aastore, 1) := by decide +kernel
theorem d53_50 : decode (eb_b 53) 50 = .ok (.iinc 3 1, 3) := by decide +kernel
theorem d53_53 : decode (eb_b 53) 53 = .ok (.iinc 4 1, 3) := by decide +kernel
theorem d53_56 : decode (eb_b 53) 56 = .ok (.goto (-51), 3) := by decide +kernel
theorem d53_59 : decode (eb_b 53) 59 = .ok (.return_, 1) := by decide +kernel
theorem d54_0 : decode (eb_b 54) 0 = .ok (.iconst 0, 1) := by decide +kernel
theorem d54_1 : decode (eb_b 54) 1 = .ok (.istore_n 1, 1) := by decide +kernel
theorem hn54_1 : 1 < eb_ml 54 := by decide
theorem d54_2 : decode (eb_b 54) 2 = .ok (.iconst 0, 1) := by decide +kernel
theorem d54_3 : decode (eb_b 54) 3 = .ok (.istore_n 2, 1) := by decide +kernel
theorem hn54_2 : 2 < eb_ml 54 := by decide
theorem d54_4 : decode (eb_b 54) 4 = .ok (.iload_n 2, 1) := by decide +kernel
theorem d54_5 : decode (eb_b 54) 5 = .ok (.aload_n 0, 1) := by decide +kernel
theorem d54_6 : decode (eb_b 54) 6 = .ok (.getfield 39, 3) := by decide +kernel
theorem d54_9 : decode (eb_b 54) 9 = .ok (.if_icmp .ge 29, 3) := by decide +kernel
theorem d54_12 : decode (eb_b 54) 12 = .ok (.iload_n 1, 1) := by decide +kernel
theorem d54_13 : decode (eb_b 54) 13 = .ok (.aload_n 0, 1) := by decide +kernel
theorem d54_14 : decode (eb_b 54) 14 = .ok (.getfield 19, 3) := by decide +kernel
theorem d54_17 : decode (eb_b 54) 17 = .ok (.iload_n 2, 1) := by decide +kernel
theorem d54_18 : decode (eb_b 54) 18 = .ok (.aaload, 1) := by decide +kernel
theorem d54_19 : decode (eb_b 54) 19 = .ok (.invokevirtual 129, 3) := by decide +kernel
theorem d54_22 : decode (eb_b 54) 22 = .ok (.ifCond .eq 7, 3) := by decide +kernel
theorem d54_25 : decode (eb_b 54) 25 = .ok (.iconst 1, 1) := by decide +kernel
theorem d54_26 : decode (eb_b 54) 26 = .ok (.goto 4, 3) := by decide +kernel
theorem d54_29 : decode (eb_b 54) 29 = .ok (.iconst 0, 1) := by decide +kernel
theorem d54_30 : decode (eb_b 54) 30 = .ok (.iadd, 1) := by decide +kernel
theorem d54_31 : decode (eb_b 54) 31 = .ok (.istore_n 1, 1) := by decide +kernel
theorem d54_32 : decode (eb_b 54) 32 = .ok (.iinc 2 1, 3) := by decide +kernel
theorem d54_35 : decode (eb_b 54) 35 = .ok (.goto (-31), 3) := by decide +kernel
theorem d54_38 : decode (eb_b 54) 38 = .ok (.iload_n 1, 1) := by decide +kernel
theorem d54_39 : decode (eb_b 54) 39 = .ok (.ireturn, 1) := by decide +kernel
theorem d55_0 : decode (eb_b 55) 0 = .ok (.iconst 0, 1) := by decide +kernel
theorem d55_1 : decode (eb_b 55) 1 = .ok (.istore_n 3, 1) := by decide +kernel
theorem hn55_3 : 3 < eb_ml 55 := by decide
theorem d55_2 : decode (eb_b 55) 2 = .ok (.iload_n 3, 1) := by decide +kernel
theorem d55_3 : decode (eb_b 55) 3 = .ok (.aload_n 0, 1) := by decide +kernel
theorem d55_4 : decode (eb_b 55) 4 = .ok (.getfield 36, 3) := by decide +kernel
theorem d55_7 : decode (eb_b 55) 7 = .ok (.if_icmp .ge 26, 3) := by decide +kernel
theorem d55_10 : decode (eb_b 55) 10 = .ok (.aload_n 0, 1) := by decide +kernel
theorem d55_11 : decode (eb_b 55) 11 = .ok (.getfield 27, 3) := by decide +kernel
theorem d55_14 : decode (eb_b 55) 14 = .ok (.iload_n 3, 1) := by decide +kernel
theorem d55_15 : decode (eb_b 55) 15 = .ok (.aload_n 0, 1) := by decide +kernel
theorem d55_16 : decode (eb_b 55) 16 = .ok (.aload_n 1, 1) := by decide +kernel
theorem d55_17 : decode (eb_b 55) 17 = .ok (.aload_n 0, 1) := by decide +kernel
theorem d55_18 : decode (eb_b 55) 18 = .ok (.getfield 11, 3) := by decide +kernel
theorem d55_21 : decode (eb_b 55) 21 = .ok (.iload_n 3, 1) := by decide +kernel
theorem d55_22 : decode (eb_b 55) 22 = .ok (.aaload, 1) := by decide +kernel
theorem d55_23 : decode (eb_b 55) 23 = .ok (.invokevirtual 92, 3) := by decide +kernel
theorem d55_26 : decode (eb_b 55) 26 = .ok (.iastore, 1) := by decide +kernel
theorem d55_27 : decode (eb_b 55) 27 = .ok (.iinc 3 1, 3) := by decide +kernel
theorem d55_30 : decode (eb_b 55) 30 = .ok (.goto (-28), 3) := by decide +kernel
theorem d55_33 : decode (eb_b 55) 33 = .ok (.iload_n 2, 1) := by decide +kernel
theorem d55_34 : decode (eb_b 55) 34 = .ok (.istore_n 3, 1) := by decide +kernel
theorem d55_35 : decode (eb_b 55) 35 = .ok (.iconst 0, 1) := by decide +kernel
theorem d55_36 : decode (eb_b 55) 36 = .ok (.istore 4, 2) := by decide +kernel
theorem hn55_4 : 4 < eb_ml 55 := by decide
theorem d55_38 : decode (eb_b 55) 38 = .ok (.iload 4, 2) := by decide +kernel
theorem d55_40 : decode (eb_b 55) 40 = .ok (.aload_n 0, 1) := by decide +kernel
theorem d55_41 : decode (eb_b 55) 41 = .ok (.getfield 36, 3) := by decide +kernel
theorem d55_44 : decode (eb_b 55) 44 = .ok (.if_icmp .ge 89, 3) := by decide +kernel
theorem d55_47 : decode (eb_b 55) 47 = .ok (.iload_n 3, 1) := by decide +kernel
theorem d55_48 : decode (eb_b 55) 48 = .ok (.ifCond .le 85, 3) := by decide +kernel
theorem d55_51 : decode (eb_b 55) 51 = .ok (.aload_n 0, 1) := by decide +kernel
theorem d55_52 : decode (eb_b 55) 52 = .ok (.invokevirtual 136, 3) := by decide +kernel
theorem wc_56 : Cond.code (eb_y 56) (eb_b 56) (eb_ml 56) (eb_rt 56) ∈ eb_LT := eb_lt 669 (by decide +kernel)
theorem cy_56 : (eb_y 56).cls = eb_cN (eb_rc 56) ∧ (eb_y 56).cls ≠ "java/lang/invoke/MethodHandle" ∧ (eb_y 56).cls ≠ "java/lang/invoke/VarHandle" ∧ (parseMethodDescriptor (eb_y 56).desc).map (fun d => d.parameters.length) = some 0 := by decide +kernel
theorem wi_56 : Cond.instanceMethod (eb_y 56) ∈ eb_LT := eb_lt 668 (by decide +kernel)
theorem wse_56 : Cond.selects (eb_cN (eb_rc 56)) (eb_y 56) (eb_y 56) ∈ eb_LT := eb_lt 26 (by decide +kernel)
theorem kV_56 {L q0 m pc : Nat} {lg : Nat → Bool} {ix : Nat} (hw : Cond.methodLink (eb_own m) ix (eb_y 56) ∈ eb_LT) (hd : decode (eb_b m) pc = .ok (.invokevirtual ix, 3)) : eb_Snd L q0 m pc lg (op_call 56 1 (pc + 3)) := sn_callV false rfl (Or.inr ⟨rfl, _, rfl⟩) (by decide) rfl (by decide) ⟨⟨hw, wi_56, wse_56⟩, wc_56⟩ cy_56 hd
theorem wm_4_136 : Cond.methodLink (eb_cN 4) 136 (eb_y 56) ∈ eb_LT := eb_lt 666 (by decide +kernel)
theorem d55_55 : decode (eb_b 55) 55 = .ok (.istore 5, 2) := by decide +kernel
theorem hn55_5 : 5 < eb_ml 55 := by decide
theorem d55_57 : decode (eb_b 55) 57 = .ok (.iload 5, 2) := by decide +kernel
theorem d55_59 : decode (eb_b 55) 59 = .ok (.iconst (-1), 1) := by decide +kernel
theorem d55_60 : decode (eb_b 55) 60 = .ok (.if_icmp .ne 6, 3) := by decide +kernel
theorem d55_63 : decode (eb_b 55) 63 = .ok (.goto 70, 3) := by decide +kernel
theorem d55_66 : decode (eb_b 55) 66 = .ok (.iload_n 3, 1) := by decide +kernel
theorem d55_67 : decode (eb_b 55) 67 = .ok (.aload_n 0, 1) := by decide +kernel
theorem d55_68 : decode (eb_b 55) 68 = .ok (.getfield 11, 3) := by decide +kernel
theorem d55_71 : decode (eb_b 55) 71 = .ok (.iload 5, 2) := by decide +kernel
theorem d55_73 : decode (eb_b 55) 73 = .ok (.aaload, 1) := by decide +kernel
theorem d55_74 : decode (eb_b 55) 74 = .ok (.getfield 74, 3) := by decide +kernel
theorem d55_77 : decode (eb_b 55) 77 = .ok (.aload_n 0, 1) := by decide +kernel
theorem d55_78 : decode (eb_b 55) 78 = .ok (.getfield 11, 3) := by decide +kernel
theorem d55_81 : decode (eb_b 55) 81 = .ok (.iload 5, 2) := by decide +kernel
theorem d55_83 : decode (eb_b 55) 83 = .ok (.aaload, 1) := by decide +kernel
theorem d55_84 : decode (eb_b 55) 84 = .ok (.getfield 115, 3) := by decide +kernel
theorem d55_87 : decode (eb_b 55) 87 = .ok (.isub, 1) := by decide +kernel
theorem d55_88 : decode (eb_b 55) 88 = .ok (.invokestatic 139, 3) := by decide +kernel
theorem wm_4_139 : Cond.methodLink (eb_cN 4) 139 Lib.Math.min.name ∈ eb_LT := eb_lt 674 (by decide +kernel)
theorem d55_91 : decode (eb_b 55) 91 = .ok (.istore 6, 2) := by decide +kernel
theorem hn55_6 : 6 < eb_ml 55 := by decide
theorem d55_93 : decode (eb_b 55) 93 = .ok (.aload_n 0, 1) := by decide +kernel
theorem d55_94 : decode (eb_b 55) 94 = .ok (.getfield 11, 3) := by decide +kernel
theorem d55_97 : decode (eb_b 55) 97 = .ok (.iload 5, 2) := by decide +kernel
theorem d55_99 : decode (eb_b 55) 99 = .ok (.aaload, 1) := by decide +kernel
theorem d55_100 : decode (eb_b 55) 100 = .ok (.dup, 1) := by decide +kernel
theorem d55_101 : decode (eb_b 55) 101 = .ok (.getfield 115, 3) := by decide +kernel
theorem d55_104 : decode (eb_b 55) 104 = .ok (.iload 6, 2) := by decide +kernel
theorem d55_106 : decode (eb_b 55) 106 = .ok (.iadd, 1) := by decide +kernel
theorem d55_107 : decode (eb_b 55) 107 = .ok (.putfield 115, 3) := by decide +kernel
theorem d55_110 : decode (eb_b 55) 110 = .ok (.aload_n 1, 1) := by decide +kernel
theorem d55_111 : decode (eb_b 55) 111 = .ok (.getfield 142, 3) := by decide +kernel
theorem wf_4_142 : Cond.fieldLink (eb_cN 4) 142 (eb_tT 0 3).1 (eb_tT 0 3).2.1 (eb_tT 0 3).2.2.1 ∈ eb_LT := eb_lt 176 (by decide +kernel)
theorem d55_114 : decode (eb_b 55) 114 = .ok (.iload 5, 2) := by decide +kernel
theorem d55_116 : decode (eb_b 55) 116 = .ok (.dup2, 1) := by decide +kernel
theorem d55_117 : decode (eb_b 55) 117 = .ok (.iaload, 1) := by decide +kernel
theorem d55_118 : decode (eb_b 55) 118 = .ok (.iload 6, 2) := by decide +kernel
theorem d55_120 : decode (eb_b 55) 120 = .ok (.iadd, 1) := by decide +kernel
theorem d55_121 : decode (eb_b 55) 121 = .ok (.iastore, 1) := by decide +kernel
theorem d55_122 : decode (eb_b 55) 122 = .ok (.iload_n 3, 1) := by decide +kernel
theorem d55_123 : decode (eb_b 55) 123 = .ok (.iload 6, 2) := by decide +kernel
theorem d55_125 : decode (eb_b 55) 125 = .ok (.isub, 1) := by decide +kernel
theorem d55_126 : decode (eb_b 55) 126 = .ok (.istore_n 3, 1) := by decide +kernel
theorem d55_127 : decode (eb_b 55) 127 = .ok (.iinc 4 1, 3) := by decide +kernel
theorem d55_130 : decode (eb_b 55) 130 = .ok (.goto (-92), 3) := by decide +kernel
theorem d55_133 : decode (eb_b 55) 133 = .ok (.aload_n 1, 1) := by decide +kernel
theorem d55_134 : decode (eb_b 55) 134 = .ok (.dup, 1) := by decide +kernel
theorem d55_135 : decode (eb_b 55) 135 = .ok (.getfield 145, 3) := by decide +kernel
theorem wf_4_145 : Cond.fieldLink (eb_cN 4) 145 (eb_tT 0 4).1 (eb_tT 0 4).2.1 (eb_tT 0 4).2.2.1 ∈ eb_LT := eb_lt 179 (by decide +kernel)
theorem d55_138 : decode (eb_b 55) 138 = .ok (.iload_n 3, 1) := by decide +kernel
theorem d55_139 : decode (eb_b 55) 139 = .ok (.iadd, 1) := by decide +kernel
theorem d55_140 : decode (eb_b 55) 140 = .ok (.putfield 145, 3) := by decide +kernel
theorem d55_143 : decode (eb_b 55) 143 = .ok (.return_, 1) := by decide +kernel
theorem d56_0 : decode (eb_b 56) 0 = .ok (.iconst (-1), 1) := by decide +kernel
theorem d56_1 : decode (eb_b 56) 1 = .ok (.istore_n 1, 1) := by decide +kernel
theorem hn56_1 : 1 < eb_ml 56 := by decide
theorem d56_2 : decode (eb_b 56) 2 = .ok (.iconst 0, 1) := by decide +kernel
theorem d56_3 : decode (eb_b 56) 3 = .ok (.istore_n 2, 1) := by decide +kernel
theorem hn56_2 : 2 < eb_ml 56 := by decide
theorem d56_4 : decode (eb_b 56) 4 = .ok (.iload_n 2, 1) := by decide +kernel
theorem d56_5 : decode (eb_b 56) 5 = .ok (.aload_n 0, 1) := by decide +kernel
theorem d56_6 : decode (eb_b 56) 6 = .ok (.getfield 36, 3) := by decide +kernel
theorem d56_9 : decode (eb_b 56) 9 = .ok (.if_icmp .ge 43, 3) := by decide +kernel
theorem d56_12 : decode (eb_b 56) 12 = .ok (.aload_n 0, 1) := by decide +kernel
theorem d56_13 : decode (eb_b 56) 13 = .ok (.getfield 11, 3) := by decide +kernel
theorem d56_16 : decode (eb_b 56) 16 = .ok (.iload_n 2, 1) := by decide +kernel
theorem d56_17 : decode (eb_b 56) 17 = .ok (.aaload, 1) := by decide +kernel
theorem d56_18 : decode (eb_b 56) 18 = .ok (.invokevirtual 148, 3) := by decide +kernel
theorem wm_4_148 : Cond.methodLink (eb_cN 4) 148 (eb_y 12) ∈ eb_LT := eb_lt 670 (by decide +kernel)
theorem d56_21 : decode (eb_b 56) 21 = .ok (.ifCond .ne 25, 3) := by decide +kernel
theorem d56_24 : decode (eb_b 56) 24 = .ok (.iload_n 1, 1) := by decide +kernel
theorem d56_25 : decode (eb_b 56) 25 = .ok (.iconst (-1), 1) := by decide +kernel
theorem d56_26 : decode (eb_b 56) 26 = .ok (.if_icmp .eq 18, 3) := by decide +kernel
theorem d56_29 : decode (eb_b 56) 29 = .ok (.aload_n 0, 1) := by decide +kernel
theorem d56_30 : decode (eb_b 56) 30 = .ok (.getfield 27, 3) := by decide +kernel
theorem d56_33 : decode (eb_b 56) 33 = .ok (.iload_n 2, 1) := by decide +kernel
theorem d56_34 : decode (eb_b 56) 34 = .ok (.iaload, 1) := by decide +kernel
theorem d56_35 : decode (eb_b 56) 35 = .ok (.aload_n 0, 1) := by decide +kernel
theorem d56_36 : decode (eb_b 56) 36 = .ok (.getfield 27, 3) := by decide +kernel
theorem d56_39 : decode (eb_b 56) 39 = .ok (.iload_n 1, 1) := by decide +kernel
theorem d56_40 : decode (eb_b 56) 40 = .ok (.iaload, 1) := by decide +kernel
theorem d56_41 : decode (eb_b 56) 41 = .ok (.if_icmp .le 5, 3) := by decide +kernel
theorem d56_44 : decode (eb_b 56) 44 = .ok (.iload_n 2, 1) := by decide +kernel
theorem d56_45 : decode (eb_b 56) 45 = .ok (.istore_n 1, 1) := by decide +kernel
theorem d56_46 : decode (eb_b 56) 46 = .ok (.iinc 2 1, 3) := by decide +kernel
theorem d56_49 : decode (eb_b 56) 49 = .ok (.goto (-45), 3) := by decide +kernel
theorem d56_52 : decode (eb_b 56) 52 = .ok (.iload_n 1, 1) := by decide +kernel
theorem d56_53 : decode (eb_b 56) 53 = .ok (.ireturn, 1) := by decide +kernel
theorem d57_0 : decode (eb_b 57) 0 = .ok (.iconst 0, 1) := by decide +kernel
theorem d57_1 : decode (eb_b 57) 1 = .ok (.istore_n 1, 1) := by decide +kernel
theorem hn57_1 : 1 < eb_ml 57 := by decide
theorem d57_2 : decode (eb_b 57) 2 = .ok (.iconst 0, 1) := by decide +kernel
theorem d57_3 : decode (eb_b 57) 3 = .ok (.istore_n 2, 1) := by decide +kernel
theorem hn57_2 : 2 < eb_ml 57 := by decide
theorem d57_4 : decode (eb_b 57) 4 = .ok (.iload_n 2, 1) := by decide +kernel
theorem d57_5 : decode (eb_b 57) 5 = .ok (.aload_n 0, 1) := by decide +kernel
theorem d57_6 : decode (eb_b 57) 6 = .ok (.getfield 36, 3) := by decide +kernel
theorem d57_9 : decode (eb_b 57) 9 = .ok (.if_icmp .ge 31, 3) := by decide +kernel
theorem d57_12 : decode (eb_b 57) 12 = .ok (.iload_n 1, 1) := by decide +kernel
theorem d57_13 : decode (eb_b 57) 13 = .ok (.aload_n 0, 1) := by decide +kernel
theorem d57_14 : decode (eb_b 57) 14 = .ok (.getfield 11, 3) := by decide +kernel
theorem d57_17 : decode (eb_b 57) 17 = .ok (.iload_n 2, 1) := by decide +kernel
theorem d57_18 : decode (eb_b 57) 18 = .ok (.aaload, 1) := by decide +kernel
theorem d57_19 : decode (eb_b 57) 19 = .ok (.invokevirtual 148, 3) := by decide +kernel
theorem d57_22 : decode (eb_b 57) 22 = .ok (.ifCond .eq 9, 3) := by decide +kernel
theorem d57_25 : decode (eb_b 57) 25 = .ok (.iconst 1, 1) := by decide +kernel
theorem d57_26 : decode (eb_b 57) 26 = .ok (.iload_n 2, 1) := by decide +kernel
theorem d57_27 : decode (eb_b 57) 27 = .ok (.ishl, 1) := by decide +kernel
theorem d57_28 : decode (eb_b 57) 28 = .ok (.goto 4, 3) := by decide +kernel
theorem d57_31 : decode (eb_b 57) 31 = .ok (.iconst 0, 1) := by decide +kernel
theorem d57_32 : decode (eb_b 57) 32 = .ok (.ior, 1) := by decide +kernel
theorem d57_33 : decode (eb_b 57) 33 = .ok (.istore_n 1, 1) := by decide +kernel
theorem d57_34 : decode (eb_b 57) 34 = .ok (.iinc 2 1, 3) := by decide +kernel
theorem d57_37 : decode (eb_b 57) 37 = .ok (.goto (-33), 3) := by decide +kernel
theorem d57_40 : decode (eb_b 57) 40 = .ok (.iload_n 1, 1) := by decide +kernel
theorem d57_41 : decode (eb_b 57) 41 = .ok (.ireturn, 1) := by decide +kernel
theorem d58_0 : decode (eb_b 58) 0 = .ok (.iconst 0, 1) := by decide +kernel
theorem d58_1 : decode (eb_b 58) 1 = .ok (.istore_n 1, 1) := by decide +kernel
theorem hn58_1 : 1 < eb_ml 58 := by decide
theorem d58_2 : decode (eb_b 58) 2 = .ok (.iconst 0, 1) := by decide +kernel
theorem d58_3 : decode (eb_b 58) 3 = .ok (.istore_n 2, 1) := by decide +kernel
theorem hn58_2 : 2 < eb_ml 58 := by decide
theorem d58_4 : decode (eb_b 58) 4 = .ok (.iload_n 2, 1) := by decide +kernel
theorem d58_5 : decode (eb_b 58) 5 = .ok (.aload_n 0, 1) := by decide +kernel
theorem d58_6 : decode (eb_b 58) 6 = .ok (.getfield 39, 3) := by decide +kernel
theorem d58_9 : decode (eb_b 58) 9 = .ok (.if_icmp .ge 21, 3) := by decide +kernel
theorem d58_12 : decode (eb_b 58) 12 = .ok (.iload_n 1, 1) := by decide +kernel
theorem d58_13 : decode (eb_b 58) 13 = .ok (.aload_n 0, 1) := by decide +kernel
theorem d58_14 : decode (eb_b 58) 14 = .ok (.getfield 19, 3) := by decide +kernel
theorem d58_17 : decode (eb_b 58) 17 = .ok (.iload_n 2, 1) := by decide +kernel
theorem d58_18 : decode (eb_b 58) 18 = .ok (.aaload, 1) := by decide +kernel
theorem d58_19 : decode (eb_b 58) 19 = .ok (.getfield 145, 3) := by decide +kernel
theorem d58_22 : decode (eb_b 58) 22 = .ok (.iadd, 1) := by decide +kernel
theorem d58_23 : decode (eb_b 58) 23 = .ok (.istore_n 1, 1) := by decide +kernel
theorem d58_24 : decode (eb_b 58) 24 = .ok (.iinc 2 1, 3) := by decide +kernel
theorem d58_27 : decode (eb_b 58) 27 = .ok (.goto (-23), 3) := by decide +kernel
theorem d58_30 : decode (eb_b 58) 30 = .ok (.iload_n 1, 1) := by decide +kernel
theorem d58_31 : decode (eb_b 58) 31 = .ok (.ireturn, 1) := by decide +kernel
theorem d59_0 : decode (eb_b 59) 0 = .ok (.bipush (-30), 2) := by decide +kernel
theorem d59_2 : decode (eb_b 59) 2 = .ok (.aload_n 1, 1) := by decide +kernel
theorem d59_3 : decode (eb_b 59) 3 = .ok (.getfield 145, 3) := by decide +kernel
theorem d59_6 : decode (eb_b 59) 6 = .ok (.imul, 1) := by decide +kernel
theorem d59_7 : decode (eb_b 59) 7 = .ok (.istore_n 2, 1) := by decide +kernel
theorem hn59_2 : 2 < eb_ml 59 := by decide
theorem d59_8 : decode (eb_b 59) 8 = .ok (.iconst 0, 1) := by decide +kernel
theorem d59_9 : decode (eb_b 59) 9 = .ok (.istore_n 3, 1) := by decide +kernel
theorem hn59_3 : 3 < eb_ml 59 := by decide
theorem d59_10 : decode (eb_b 59) 10 = .ok (.iload_n 3, 1) := by decide +kernel
theorem d59_11 : decode (eb_b 59) 11 = .ok (.aload_n 0, 1) := by decide +kernel
theorem d59_12 : decode (eb_b 59) 12 = .ok (.getfield 36, 3) := by decide +kernel
theorem d59_15 : decode (eb_b 59) 15 = .ok (.if_icmp .ge 28, 3) := by decide +kernel
theorem d59_18 : decode (eb_b 59) 18 = .ok (.iload_n 2, 1) := by decide +kernel
theorem d59_19 : decode (eb_b 59) 19 = .ok (.aload_n 1, 1) := by decide +kernel
theorem d59_20 : decode (eb_b 59) 20 = .ok (.getfield 142, 3) := by decide +kernel
theorem d59_23 : decode (eb_b 59) 23 = .ok (.iload_n 3, 1) := by decide +kernel
theorem d59_24 : decode (eb_b 59) 24 = .ok (.iaload, 1) := by decide +kernel
theorem d59_25 : decode (eb_b 59) 25 = .ok (.aload_n 0, 1) := by decide +kernel
theorem d59_26 : decode (eb_b 59) 26 = .ok (.getfield 11, 3) := by decide +kernel
theorem d59_29 : decode (eb_b 59) 29 = .ok (.iload_n 3, 1) := by decide +kernel
theorem d59_30 : decode (eb_b 59) 30 = .ok (.aaload, 1) := by decide +kernel
theorem d59_31 : decode (eb_b 59) 31 = .ok (.invokevirtual 151, 3) := by decide +kernel
theorem wc_13 : Cond.code (eb_y 13) (eb_b 13) (eb_ml 13) (eb_rt 13) ∈ eb_LT := eb_lt 712 (by decide +kernel)
theorem cy_13 : (eb_y 13).cls = eb_cN (eb_rc 13) ∧ (eb_y 13).cls ≠ "java/lang/invoke/MethodHandle" ∧ (eb_y 13).cls ≠ "java/lang/invoke/VarHandle" ∧ (parseMethodDescriptor (eb_y 13).desc).map (fun d => d.parameters.length) = some 0 := by decide +kernel
theorem wi_13 : Cond.instanceMethod (eb_y 13) ∈ eb_LT := eb_lt 710 (by decide +kernel)
theorem wse_13 : Cond.selects (eb_cN (eb_rc 13)) (eb_y 13) (eb_y 13) ∈ eb_LT := eb_lt 711 (by decide +kernel)
theorem kV_13 {L q0 m pc : Nat} {lg : Nat → Bool} {ix : Nat} (hw : Cond.methodLink (eb_own m) ix (eb_y 13) ∈ eb_LT) (hd : decode (eb_b m) pc = .ok (.invokevirtual ix, 3)) : eb_Snd L q0 m pc lg (op_call 13 1 (pc + 3)) := sn_callV false rfl (Or.inr ⟨rfl, _, rfl⟩) (by decide) rfl (by decide) ⟨⟨hw, wi_13, wse_13⟩, wc_13⟩ cy_13 hd
theorem wm_4_151 : Cond.methodLink (eb_cN 4) 151 (eb_y 13) ∈ eb_LT := eb_lt 709 (by decide +kernel)
theorem d59_34 : decode (eb_b 59) 34 = .ok (.imul, 1) := by decide +kernel
theorem d59_35 : decode (eb_b 59) 35 = .ok (.iadd, 1) := by decide +kernel
theorem d59_36 : decode (eb_b 59) 36 = .ok (.istore_n 2, 1) := by decide +kernel
theorem d59_37 : decode (eb_b 59) 37 = .ok (.iinc 3 1, 3) := by decide +kernel
theorem d59_40 : decode (eb_b 59) 40 = .ok (.goto (-30), 3) := by decide +kernel
theorem d59_43 : decode (eb_b 59) 43 = .ok (.iload_n 2, 1) := by decide +kernel
theorem d59_44 : decode (eb_b 59) 44 = .ok (.ireturn, 1) := by decide +kernel
theorem d60_0 : decode (eb_b 60) 0 = .ok (.iconst 0, 1) := by decide +kernel
theorem d60_1 : decode (eb_b 60) 1 = .ok (.istore_n 1, 1) := by decide +kernel
theorem hn60_1 : 1 < eb_ml 60 := by decide
theorem d60_2 : decode (eb_b 60) 2 = .ok (.iconst 0, 1) := by decide +kernel
theorem d60_3 : decode (eb_b 60) 3 = .ok (.istore_n 2, 1) := by decide +kernel
theorem hn60_2 : 2 < eb_ml 60 := by decide
theorem d60_4 : decode (eb_b 60) 4 = .ok (.iload_n 2, 1) := by decide +kernel
theorem d60_5 : decode (eb_b 60) 5 = .ok (.aload_n 0, 1) := by decide +kernel
theorem d60_6 : decode (eb_b 60) 6 = .ok (.getfield 39, 3) := by decide +kernel
theorem d60_9 : decode (eb_b 60) 9 = .ok (.if_icmp .ge 22, 3) := by decide +kernel
theorem d60_12 : decode (eb_b 60) 12 = .ok (.iload_n 1, 1) := by decide +kernel
theorem d60_13 : decode (eb_b 60) 13 = .ok (.aload_n 0, 1) := by decide +kernel
theorem d60_14 : decode (eb_b 60) 14 = .ok (.aload_n 0, 1) := by decide +kernel
theorem d60_15 : decode (eb_b 60) 15 = .ok (.getfield 19, 3) := by decide +kernel
theorem d60_18 : decode (eb_b 60) 18 = .ok (.iload_n 2, 1) := by decide +kernel
theorem d60_19 : decode (eb_b 60) 19 = .ok (.aaload, 1) := by decide +kernel
theorem d60_20 : decode (eb_b 60) 20 = .ok (.invokevirtual 154, 3) := by decide +kernel
theorem wc_59 : Cond.code (eb_y 59) (eb_b 59) (eb_ml 59) (eb_rt 59) ∈ eb_LT := eb_lt 708 (by decide +kernel)
theorem cy_59 : (eb_y 59).cls = eb_cN (eb_rc 59) ∧ (eb_y 59).cls ≠ "java/lang/invoke/MethodHandle" ∧ (eb_y 59).cls ≠ "java/lang/invoke/VarHandle" ∧ (parseMethodDescriptor (eb_y 59).desc).map (fun d => d.parameters.length) = some 1 := by decide +kernel
theorem wi_59 : Cond.instanceMethod (eb_y 59) ∈ eb_LT := eb_lt 706 (by decide +kernel)
theorem wse_59 : Cond.selects (eb_cN (eb_rc 59)) (eb_y 59) (eb_y 59) ∈ eb_LT := eb_lt 707 (by decide +kernel)
theorem kV_59 {L q0 m pc : Nat} {lg : Nat → Bool} {ix : Nat} (hw : Cond.methodLink (eb_own m) ix (eb_y 59) ∈ eb_LT) (hd : decode (eb_b m) pc = .ok (.invokevirtual ix, 3)) : eb_Snd L q0 m pc lg (op_call 59 2 (pc + 3)) := sn_callV false rfl (Or.inr ⟨rfl, _, rfl⟩) (by decide) rfl (by decide) ⟨⟨hw, wi_59, wse_59⟩, wc_59⟩ cy_59 hd
theorem wm_4_154 : Cond.methodLink (eb_cN 4) 154 (eb_y 59) ∈ eb_LT := eb_lt 705 (by decide +kernel)
theorem d60_23 : decode (eb_b 60) 23 = .ok (.iadd, 1) := by decide +kernel
theorem d60_24 : decode (eb_b 60) 24 = .ok (.istore_n 1, 1) := by decide +kernel
theorem d60_25 : decode (eb_b 60) 25 = .ok (.iinc 2 1, 3) := by decide +kernel
theorem d60_28 : decode (eb_b 60) 28 = .ok (.goto (-24), 3) := by decide +kernel
theorem d60_31 : decode (eb_b 60) 31 = .ok (.iload_n 1, 1) := by decide +kernel
theorem d60_32 : decode (eb_b 60) 32 = .ok (.ireturn, 1) := by decide +kernel
theorem d61_0 : decode (eb_b 61) 0 = .ok (.iconst 0, 1) := by decide +kernel
theorem d61_1 : decode (eb_b 61) 1 = .ok (.istore_n 2, 1) := by decide +kernel
theorem hn61_2 : 2 < eb_ml 61 := by decide
theorem d61_2 : decode (eb_b 61) 2 = .ok (.iload_n 2, 1) := by decide +kernel
theorem d61_3 : decode (eb_b 61) 3 = .ok (.aload_n 0, 1) := by decide +kernel
theorem d61_4 : decode (eb_b 61) 4 = .ok (.getfield 36, 3) := by decide +kernel
theorem d61_7 : decode (eb_b 61) 7 = .ok (.if_icmp .ge 19, 3) := by decide +kernel
theorem d61_10 : decode (eb_b 61) 10 = .ok (.aload_n 0, 1) := by decide +kernel
theorem d61_11 : decode (eb_b 61) 11 = .ok (.getfield 11, 3) := by decide +kernel
theorem d61_14 : decode (eb_b 61) 14 = .ok (.iload_n 2, 1) := by decide +kernel
theorem d61_15 : decode (eb_b 61) 15 = .ok (.aaload, 1) := by decide +kernel
theorem d61_16 : decode (eb_b 61) 16 = .ok (.iconst 0, 1) := by decide +kernel
theorem d61_17 : decode (eb_b 61) 17 = .ok (.putfield 157, 3) := by decide +kernel
theorem wf_4_157 : Cond.fieldLink (eb_cN 4) 157 (eb_tT 1 8).1 (eb_tT 1 8).2.1 (eb_tT 1 8).2.2.1 ∈ eb_LT := eb_lt 139 (by decide +kernel)
theorem d61_20 : decode (eb_b 61) 20 = .ok (.iinc 2 1, 3) := by decide +kernel
theorem d61_23 : decode (eb_b 61) 23 = .ok (.goto (-21), 3) := by decide +kernel
theorem d61_26 : decode (eb_b 61) 26 = .ok (.iconst 0, 1) := by decide +kernel
theorem d61_27 : decode (eb_b 61) 27 = .ok (.istore_n 2, 1) := by decide +kernel
theorem d61_28 : decode (eb_b 61) 28 = .ok (.iload_n 2, 1) := by decide +kernel
theorem d61_29 : decode (eb_b 61) 29 = .ok (.aload_n 0, 1) := by decide +kernel
theorem d61_30 : decode (eb_b 61) 30 = .ok (.getfield 39, 3) := by decide +kernel
theorem d61_33 : decode (eb_b 61) 33 = .ok (.if_icmp .ge 19, 3) := by decide +kernel
theorem d61_36 : decode (eb_b 61) 36 = .ok (.aload_n 0, 1) := by decide +kernel
theorem d61_37 : decode (eb_b 61) 37 = .ok (.getfield 19, 3) := by decide +kernel
theorem d61_40 : decode (eb_b 61) 40 = .ok (.iload_n 2, 1) := by decide +kernel
theorem d61_41 : decode (eb_b 61) 41 = .ok (.aaload, 1) := by decide +kernel
theorem d61_42 : decode (eb_b 61) 42 = .ok (.iconst 0, 1) := by decide +kernel
theorem d61_43 : decode (eb_b 61) 43 = .ok (.putfield 160, 3) := by decide +kernel
theorem wf_4_160 : Cond.fieldLink (eb_cN 4) 160 (eb_tT 0 5).1 (eb_tT 0 5).2.1 (eb_tT 0 5).2.2.1 ∈ eb_LT := eb_lt 181 (by decide +kernel)
theorem fi_0_5 : 5 < eb_nf 0 ∧ (eb_tt 0 5).isReference = false := ⟨by decide, rfl⟩
theorem fp_0_5 : ∀ x : Int32, narrow (eb_tt 0 5) (.int x) = .int x ∧ fits (eb_tt 0 5) (.int x) = true := fun x => ⟨rfl, rfl⟩
theorem d61_46 : decode (eb_b 61) 46 = .ok (.iinc 2 1, 3) := by decide +kernel
theorem d61_49 : decode (eb_b 61) 49 = .ok (.goto (-21), 3) := by decide +kernel
theorem d61_52 : decode (eb_b 61) 52 = .ok (.iconst 0, 1) := by decide +kernel
theorem d61_53 : decode (eb_b 61) 53 = .ok (.istore_n 2, 1) := by decide +kernel
theorem d61_54 : decode (eb_b 61) 54 = .ok (.iconst 0, 1) := by decide +kernel
theorem d61_55 : decode (eb_b 61) 55 = .ok (.istore_n 3, 1) := by decide +kernel
theorem hn61_3 : 3 < eb_ml 61 := by decide
theorem d61_56 : decode (eb_b 61) 56 = .ok (.iload_n 3, 1) := by decide +kernel
theorem d61_57 : decode (eb_b 61) 57 = .ok (.iload_n 1, 1) := by decide +kernel
theorem d61_58 : decode (eb_b 61) 58 = .ok (.if_icmp .ge 20, 3) := by decide +kernel
theorem d61_61 : decode (eb_b 61) 61 = .ok (.aload_n 0, 1) := by decide +kernel
theorem d61_62 : decode (eb_b 61) 62 = .ok (.invokevirtual 163, 3) := by decide +kernel
theorem wc_50 : Cond.code (eb_y 50) (eb_b 50) (eb_ml 50) (eb_rt 50) ∈ eb_LT := eb_lt 640 (by decide +kernel)
theorem cy_50 : (eb_y 50).cls = eb_cN (eb_rc 50) ∧ (eb_y 50).cls ≠ "java/lang/invoke/MethodHandle" ∧ (eb_y 50).cls ≠ "java/lang/invoke/VarHandle" ∧ (parseMethodDescriptor (eb_y 50).desc).map (fun d => d.parameters.length) = some 0 := by decide +kernel
theorem wi_50 : Cond.instanceMethod (eb_y 50) ∈ eb_LT := eb_lt 638 (by decide +kernel)
theorem wse_50 : Cond.selects (eb_cN (eb_rc 50)) (eb_y 50) (eb_y 50) ∈ eb_LT := eb_lt 639 (by decide +kernel)
theorem kV_50 {L q0 m pc : Nat} {lg : Nat → Bool} {ix : Nat} (hw : Cond.methodLink (eb_own m) ix (eb_y 50) ∈ eb_LT) (hd : decode (eb_b m) pc = .ok (.invokevirtual ix, 3)) : eb_Snd L q0 m pc lg (op_callv 50 1 (pc + 3)) := sn_callV true rfl (Or.inl ⟨rfl, rfl⟩) (by decide) rfl (by decide) ⟨⟨hw, wi_50, wse_50⟩, wc_50⟩ cy_50 hd
theorem wm_4_163 : Cond.methodLink (eb_cN 4) 163 (eb_y 50) ∈ eb_LT := eb_lt 801 (by decide +kernel)
theorem d61_65 : decode (eb_b 61) 65 = .ok (.iload_n 2, 1) := by decide +kernel
theorem d61_66 : decode (eb_b 61) 66 = .ok (.aload_n 0, 1) := by decide +kernel
theorem d61_67 : decode (eb_b 61) 67 = .ok (.invokevirtual 166, 3) := by decide +kernel
theorem wc_62 : Cond.code (eb_y 62) (eb_b 62) (eb_ml 62) (eb_rt 62) ∈ eb_LT := eb_lt 805 (by decide +kernel)
theorem cy_62 : (eb_y 62).cls = eb_cN (eb_rc 62) ∧ (eb_y 62).cls ≠ "java/lang/invoke/MethodHandle" ∧ (eb_y 62).cls ≠ "java/lang/invoke/VarHandle" ∧ (parseMethodDescriptor (eb_y 62).desc).map (fun d => d.parameters.length) = some 0 := by decide +kernel
theorem wi_62 : Cond.instanceMethod (eb_y 62) ∈ eb_LT := eb_lt 804 (by decide +kernel)
theorem wse_62 : Cond.selects (eb_cN (eb_rc 62)) (eb_y 62) (eb_y 62) ∈ eb_LT := eb_lt 27 (by decide +kernel)
theorem kV_62 {L q0 m pc : Nat} {lg : Nat → Bool} {ix : Nat} (hw : Cond.methodLink (eb_own m) ix (eb_y 62) ∈ eb_LT) (hd : decode (eb_b m) pc = .ok (.invokevirtual ix, 3)) : eb_Snd L q0 m pc lg (op_call 62 1 (pc + 3)) := sn_callV false rfl (Or.inr ⟨rfl, _, rfl⟩) (by decide) rfl (by decide) ⟨⟨hw, wi_62, wse_62⟩, wc_62⟩ cy_62 hd
theorem wm_4_166 : Cond.methodLink (eb_cN 4) 166 (eb_y 62) ∈ eb_LT := eb_lt 802 (by decide +kernel)
theorem d61_70 : decode (eb_b 61) 70 = .ok (.iadd, 1) := by decide +kernel
theorem d61_71 : decode (eb_b 61) 71 = .ok (.istore_n 2, 1) := by decide +kernel
theorem d61_72 : decode (eb_b 61) 72 = .ok (.iinc 3 1, 3) := by decide +kernel
theorem d61_75 : decode (eb_b 61) 75 = .ok (.goto (-19), 3) := by decide +kernel
theorem d61_78 : decode (eb_b 61) 78 = .ok (.iload_n 2, 1) := by decide +kernel
theorem d61_79 : decode (eb_b 61) 79 = .ok (.ireturn, 1) := by decide +kernel
theorem d62_0 : decode (eb_b 62) 0 = .ok (.iconst 0, 1) := by decide +kernel
theorem d62_1 : decode (eb_b 62) 1 = .ok (.istore_n 1, 1) := by decide +kernel
theorem hn62_1 : 1 < eb_ml 62 := by decide
theorem d62_2 : decode (eb_b 62) 2 = .ok (.iconst 0, 1) := by decide +kernel
theorem d62_3 : decode (eb_b 62) 3 = .ok (.istore_n 2, 1) := by decide +kernel
theorem hn62_2 : 2 < eb_ml 62 := by decide
theorem d62_4 : decode (eb_b 62) 4 = .ok (.iload_n 2, 1) := by decide +kernel
theorem d62_5 : decode (eb_b 62) 5 = .ok (.aload_n 0, 1) := by decide +kernel
theorem d62_6 : decode (eb_b 62) 6 = .ok (.getfield 39, 3) := by decide +kernel
theorem d62_9 : decode (eb_b 62) 9 = .ok (.if_icmp .ge 39, 3) := by decide +kernel
theorem d62_12 : decode (eb_b 62) 12 = .ok (.aload_n 0, 1) := by decide +kernel
theorem d62_13 : decode (eb_b 62) 13 = .ok (.aload_n 0, 1) := by decide +kernel
theorem d62_14 : decode (eb_b 62) 14 = .ok (.getfield 19, 3) := by decide +kernel
theorem d62_17 : decode (eb_b 62) 17 = .ok (.iload_n 2, 1) := by decide +kernel
theorem d62_18 : decode (eb_b 62) 18 = .ok (.aaload, 1) := by decide +kernel
theorem d62_19 : decode (eb_b 62) 19 = .ok (.invokevirtual 154, 3) := by decide +kernel
theorem d62_22 : decode (eb_b 62) 22 = .ok (.istore_n 3, 1) := by decide +kernel
theorem hn62_3 : 3 < eb_ml 62 := by decide
theorem d62_23 : decode (eb_b 62) 23 = .ok (.aload_n 0, 1) := by decide +kernel
theorem d62_24 : decode (eb_b 62) 24 = .ok (.getfield 19, 3) := by decide +kernel
theorem d62_27 : decode (eb_b 62) 27 = .ok (.iload_n 2, 1) := by decide +kernel
theorem d62_28 : decode (eb_b 62) 28 = .ok (.aaload, 1) := by decide +kernel
theorem d62_29 : decode (eb_b 62) 29 = .ok (.dup, 1) := by decide +kernel
theorem d62_30 : decode (eb_b 62) 30 = .ok (.getfield 160, 3) := by decide +kernel
theorem d62_33 : decode (eb_b 62) 33 = .ok (.iload_n 3, 1) := by decide +kernel
theorem d62_34 : decode (eb_b 62) 34 = .ok (.iadd, 1) := by decide +kernel
theorem d62_35 : decode (eb_b 62) 35 = .ok (.putfield 160, 3) := by decide +kernel
theorem d62_38 : decode (eb_b 62) 38 = .ok (.iload_n 1, 1) := by decide +kernel
theorem d62_39 : decode (eb_b 62) 39 = .ok (.iload_n 3, 1) := by decide +kernel
theorem d62_40 : decode (eb_b 62) 40 = .ok (.iadd, 1) := by decide +kernel
theorem d62_41 : decode (eb_b 62) 41 = .ok (.istore_n 1, 1) := by decide +kernel
theorem d62_42 : decode (eb_b 62) 42 = .ok (.iinc 2 1, 3) := by decide +kernel
theorem d62_45 : decode (eb_b 62) 45 = .ok (.goto (-41), 3) := by decide +kernel
theorem d62_48 : decode (eb_b 62) 48 = .ok (.iconst 0, 1) := by decide +kernel
theorem d62_49 : decode (eb_b 62) 49 = .ok (.istore_n 2, 1) := by decide +kernel
theorem d62_50 : decode (eb_b 62) 50 = .ok (.iload_n 2, 1) := by decide +kernel
theorem d62_51 : decode (eb_b 62) 51 = .ok (.aload_n 0, 1) := by decide +kernel
theorem d62_52 : decode (eb_b 62) 52 = .ok (.getfield 36, 3) := by decide +kernel
theorem d62_55 : decode (eb_b 62) 55 = .ok (.if_icmp .ge 18, 3) := by decide +kernel
theorem d62_58 : decode (eb_b 62) 58 = .ok (.aload_n 0, 1) := by decide +kernel
theorem d62_59 : decode (eb_b 62) 59 = .ok (.getfield 11, 3) := by decide +kernel
theorem d62_62 : decode (eb_b 62) 62 = .ok (.iload_n 2, 1) := by decide +kernel
theorem d62_63 : decode (eb_b 62) 63 = .ok (.aaload, 1) := by decide +kernel
theorem d62_64 : decode (eb_b 62) 64 = .ok (.invokevirtual 169, 3) := by decide +kernel
theorem wc_15 : Cond.code (eb_y 15) (eb_b 15) (eb_ml 15) (eb_rt 15) ∈ eb_LT := eb_lt 809 (by decide +kernel)
theorem cy_15 : (eb_y 15).cls = eb_cN (eb_rc 15) ∧ (eb_y 15).cls ≠ "java/lang/invoke/MethodHandle" ∧ (eb_y 15).cls ≠ "java/lang/invoke/VarHandle" ∧ (parseMethodDescriptor (eb_y 15).desc).map (fun d => d.parameters.length) = some 0 := by decide +kernel
theorem wi_15 : Cond.instanceMethod (eb_y 15) ∈ eb_LT := eb_lt 807 (by decide +kernel)
theorem wse_15 : Cond.selects (eb_cN (eb_rc 15)) (eb_y 15) (eb_y 15) ∈ eb_LT := eb_lt 808 (by decide +kernel)
theorem kV_15 {L q0 m pc : Nat} {lg : Nat → Bool} {ix : Nat} (hw : Cond.methodLink (eb_own m) ix (eb_y 15) ∈ eb_LT) (hd : decode (eb_b m) pc = .ok (.invokevirtual ix, 3)) : eb_Snd L q0 m pc lg (op_callv 15 1 (pc + 3)) := sn_callV true rfl (Or.inl ⟨rfl, rfl⟩) (by decide) rfl (by decide) ⟨⟨hw, wi_15, wse_15⟩, wc_15⟩ cy_15 hd
theorem wm_4_169 : Cond.methodLink (eb_cN 4) 169 (eb_y 15) ∈ eb_LT := eb_lt 806 (by decide +kernel)
theorem d62_67 : decode (eb_b 62) 67 = .ok (.iinc 2 1, 3) := by decide +kernel
theorem d62_70 : decode (eb_b 62) 70 = .ok (.goto (-20), 3) := by decide +kernel
theorem d62_73 : decode (eb_b 62) 73 = .ok (.aload_n 0, 1) := by decide +kernel
theorem d62_74 : decode (eb_b 62) 74 = .ok (.bipush 99, 2) := by decide +kernel
theorem d62_76 : decode (eb_b 62) 76 = .ok (.aload_n 0, 1) := by decide +kernel
theorem d62_77 : decode (eb_b 62) 77 = .ok (.getfield 42, 3) := by decide +kernel
theorem d62_80 : decode (eb_b 62) 80 = .ok (.iconst 1, 1) := by decide +kernel
theorem d62_81 : decode (eb_b 62) 81 = .ok (.iadd, 1) := by decide +kernel
theorem d62_82 : decode (eb_b 62) 82 = .ok (.invokestatic 139, 3) := by decide +kernel
theorem d62_85 : decode (eb_b 62) 85 = .ok (.putfield 42, 3) := by decide +kernel
theorem d62_88 : decode (eb_b 62) 88 = .ok (.aload_n 0, 1) := by decide +kernel
theorem d62_89 : decode (eb_b 62) 89 = .ok (.dup, 1) := by decide +kernel
theorem d62_90 : decode (eb_b 62) 90 = .ok (.getfield 45, 3) := by decide +kernel
theorem d62_93 : decode (eb_b 62) 93 = .ok (.iconst 1, 1) := by decide +kernel
theorem d62_94 : decode (eb_b 62) 94 = .ok (.iadd, 1) := by decide +kernel
theorem d62_95 : decode (eb_b 62) 95 = .ok (.putfield 45, 3) := by decide +kernel
theorem d62_98 : decode (eb_b 62) 98 = .ok (.iload_n 1, 1) := by decide +kernel
theorem d62_99 : decode (eb_b 62) 99 = .ok (.ireturn, 1) := by decide +kernel
section
variable {L q0 : Nat}
theorem sc37_0 : eb_AS L q0 37 (eb_lg 37) [(0, op_iload 1 1), (1, op_iflt 28 4), (4, op_iload 1 5), (5, op_aload 0 6), (6, op_getI L 3 1 9), (9, op_icge 28 12), (12, op_iload 1 13), (13, op_push (zi 250) 16), (16, op_icge 28 19), (19, op_aload 0 20), (20, op_getR L 3 0 23), (23, op_iload 1 24), (24, op_iald L 25), (25, op_goto 29), (28, op_push (zi (-1)) 29), (29, op_iret)] := ⟨sn_iload_n d37_0 rfl, sn_iflt d37_1 (by decide), sn_iload_n d37_4 rfl, sn_aload_n d37_5 rfl, sn_getI (by decide) fi_3_1.1 fi_3_1.2 wf_3_15 d37_6, sn_icge d37_9 (by decide), sn_iload_n d37_12 rfl, sn_sipush d37_13 (by decide), sn_icge d37_16 (by decide), sn_aload_n d37_19 rfl, sn_getR (by decide) fi_3_0.1 fi_3_0.2 wf_3_9 d37_20, sn_iload_n d37_23 rfl, sn_iald d37_24, sn_goto d37_25 (by decide), sn_iconst d37_28 (by decide), sn_iret d37_29 rfl, trivial⟩
theorem sd37 : ∀ pc, eb_Snd L q0 37 pc (eb_lg 37) (eb_cd L 37 pc) := eb_AS_all (hk37 (L := L)) (sc37_0)
theorem sc38_0 : eb_AS L q0 38 (eb_lg 38) [(0, op_aload 0 1), (1, op_callv 903 1 4), (4, op_aload 0 5), (5, op_push (zi 6) 7), (7, op_newA L 12 10), (10, op_putR L 4 0 13), (13, op_aload 0 14), (14, op_push (zi 6) 16), (16, op_newA L 13 19), (19, op_putR L 4 1 22), (22, op_aload 0 23), (23, op_push (zi 1) 24), (24, op_putI L 4 6 27), (27, op_aload 0 28), (28, op_push (zi 6) 30), (30, op_newI L 32), (32, op_putR L 4 7 35), (35, op_aload 0 36), (36, op_push (zi 6) 38), (38, op_newA L 13 41), (41, op_putR L 4 8 44), (44, op_push (zi 0) 45), (45, op_istore 1 46), (46, op_iload 1 47), (47, op_push (zi 6) 49), (49, op_icge 71 52), (52, op_aload 0 53), (53, op_getR L 4 0 56), (56, op_iload 1 57), (57, op_new L 1 9 60), (60, op_dup 61), (61, op_callv 6 1 64), (64, op_aast L 65), (65, op_iinc 1 1 68), (68, op_goto 46), (71, op_push (zi 0) 72), (72, op_istore 1 73), (73, op_iload 1 74), (74, op_push (zi 6) 76), (76, op_icge 110 79)] := ⟨sn_aload_n d38_0 rfl, sn_obj wm_4_3 d38_1, sn_aload_n d38_4 rfl, sn_bipush d38_5 (by decide), sn_newA (by decide) wr_4_9 d38_7, sn_putR (by decide) fi_4_0.1 fi_4_0.2 wf_4_11 (Or.inr ⟨rfl, rfl⟩) fp_4_0 d38_10, sn_aload_n d38_13 rfl, sn_bipush d38_14 (by decide), sn_newA (by decide) wr_4_17 d38_16, sn_putR (by decide) fi_4_1.1 fi_4_1.2 wf_4_19 (Or.inr ⟨rfl, rfl⟩) fp_4_1 d38_19, sn_aload_n d38_22 rfl, sn_iconst d38_23 (by decide), sn_putI (by decide) fi_4_6.1 fi_4_6.2 wf_4_23 (Or.inl rfl) fp_4_6 d38_24, sn_aload_n d38_27 rfl, sn_bipush d38_28 (by decide), sn_newI d38_30, sn_putR (by decide) fi_4_7.1 fi_4_7.2 wf_4_27 (Or.inr ⟨rfl, rfl⟩) fp_4_7 d38_32, sn_aload_n d38_35 rfl, sn_bipush d38_36 (by decide), sn_newA (by decide) wr_4_17 d38_38, sn_putR (by decide) fi_4_8.1 fi_4_8.2 wf_4_31 (Or.inr ⟨rfl, rfl⟩) fp_4_8 d38_41, sn_iconst d38_44 (by decide), sn_istore_n (eb_hlg (Or.inl rfl)) hn38_1 d38_45 rfl, sn_iload_n d38_46 rfl, sn_bipush d38_47 (by decide), sn_icge d38_49 (by decide), sn_aload_n d38_52 rfl, sn_getR (by decide) fi_4_0.1 fi_4_0.2 wf_4_11 d38_53, sn_iload_n d38_56 rfl, sn_new (by decide) rfl wq_4_9 d38_57, sn_dup d38_60, kIN_6 wm_4_34 d38_61, sn_aast d38_64, sn_iinc (eb_hlg (Or.inl rfl)) hn38_1 d38_65 (by decide), sn_goto d38_68 (by decide), sn_iconst d38_71 (by decide), sn_istore_n (eb_hlg (Or.inl rfl)) hn38_1 d38_72 rfl, sn_iload_n d38_73 rfl, sn_bipush d38_74 (by decide), sn_icge d38_76 (by decide), trivial⟩
theorem sc38_1 : eb_AS L q0 38 (eb_lg 38) [(79, op_aload 0 80), (80, op_getR L 4 1 83), (83, op_iload 1 84), (84, op_new L 0 6 87), (87, op_dup 88), (88, op_callv 0 1 91), (91, op_aast L 92), (92, op_aload 0 93), (93, op_getR L 4 8 96), (96, op_iload 1 97), (97, op_aload 0 98), (98, op_getR L 4 1 101), (101, op_iload 1 102), (102, op_aald L 103), (103, op_aast L 104), (104, op_iinc 1 1 107), (107, op_goto 73), (110, op_vret)] := ⟨sn_aload_n d38_79 rfl, sn_getR (by decide) fi_4_1.1 fi_4_1.2 wf_4_19 d38_80, sn_iload_n d38_83 rfl, sn_new (by decide) rfl wq_4_17 d38_84, sn_dup d38_87, kIN_0 wm_4_35 d38_88, sn_aast d38_91, sn_aload_n d38_92 rfl, sn_getR (by decide) fi_4_8.1 fi_4_8.2 wf_4_31 d38_93, sn_iload_n d38_96 rfl, sn_aload_n d38_97 rfl, sn_getR (by decide) fi_4_1.1 fi_4_1.2 wf_4_19 d38_98, sn_iload_n d38_101 rfl, sn_aald d38_102, sn_aast d38_103, sn_iinc (eb_hlg (Or.inl rfl)) hn38_1 d38_104 (by decide), sn_goto d38_107 (by decide), sn_vret d38_110 rfl, trivial⟩
theorem sd38 : ∀ pc, eb_Snd L q0 38 pc (eb_lg 38) (eb_cd L 38 pc) := eb_AS_all (hk38 (L := L)) (eb_AS_app sc38_0 (sc38_1))
theorem sc39_0 : eb_AS L q0 39 (eb_lg 39) [(0, op_aload 0 1), (1, op_aload 1 2), (2, op_getI L 4 2 5), (5, op_putI L 4 2 8), (8, op_aload 0 9), (9, op_aload 1 10), (10, op_getI L 4 3 13), (13, op_putI L 4 3 16), (16, op_aload 0 17), (17, op_aload 1 18), (18, op_getI L 4 4 21), (21, op_putI L 4 4 24), (24, op_aload 0 25), (25, op_aload 1 26), (26, op_getI L 4 5 29), (29, op_putI L 4 5 32), (32, op_aload 0 33), (33, op_aload 1 34), (34, op_getI L 4 6 37), (37, op_putI L 4 6 40), (40, op_push (zi 0) 41), (41, op_istore 2 42), (42, op_iload 2 43), (43, op_aload 0 44), (44, op_getI L 4 2 47), (47, op_icge 71 50), (50, op_aload 0 51), (51, op_getR L 4 0 54), (54, op_iload 2 55), (55, op_aald L 56), (56, op_aload 1 57), (57, op_getR L 4 0 60), (60, op_iload 2 61), (61, op_aald L 62), (62, op_callv 8 2 65), (65, op_iinc 2 1 68), (68, op_goto 42), (71, op_push (zi 0) 72), (72, op_istore 2 73), (73, op_iload 2 74)] := ⟨sn_aload_n d39_0 rfl, sn_aload_n d39_1 rfl, sn_getI (by decide) fi_4_2.1 fi_4_2.2 wf_4_36 d39_2, sn_putI (by decide) fi_4_2.1 fi_4_2.2 wf_4_36 (Or.inl rfl) fp_4_2 d39_5, sn_aload_n d39_8 rfl, sn_aload_n d39_9 rfl, sn_getI (by decide) fi_4_3.1 fi_4_3.2 wf_4_39 d39_10, sn_putI (by decide) fi_4_3.1 fi_4_3.2 wf_4_39 (Or.inl rfl) fp_4_3 d39_13, sn_aload_n d39_16 rfl, sn_aload_n d39_17 rfl, sn_getI (by decide) fi_4_4.1 fi_4_4.2 wf_4_42 d39_18, sn_putI (by decide) fi_4_4.1 fi_4_4.2 wf_4_42 (Or.inl rfl) fp_4_4 d39_21, sn_aload_n d39_24 rfl, sn_aload_n d39_25 rfl, sn_getI (by decide) fi_4_5.1 fi_4_5.2 wf_4_45 d39_26, sn_putI (by decide) fi_4_5.1 fi_4_5.2 wf_4_45 (Or.inl rfl) fp_4_5 d39_29, sn_aload_n d39_32 rfl, sn_aload_n d39_33 rfl, sn_getI (by decide) fi_4_6.1 fi_4_6.2 wf_4_23 d39_34, sn_putI (by decide) fi_4_6.1 fi_4_6.2 wf_4_23 (Or.inl rfl) fp_4_6 d39_37, sn_iconst d39_40 (by decide), sn_istore_n (eb_hlg (Or.inl rfl)) hn39_2 d39_41 rfl, sn_iload_n d39_42 rfl, sn_aload_n d39_43 rfl, sn_getI (by decide) fi_4_2.1 fi_4_2.2 wf_4_36 d39_44, sn_icge d39_47 (by decide), sn_aload_n d39_50 rfl, sn_getR (by decide) fi_4_0.1 fi_4_0.2 wf_4_11 d39_51, sn_iload_n d39_54 rfl, sn_aald d39_55, sn_aload_n d39_56 rfl, sn_getR (by decide) fi_4_0.1 fi_4_0.2 wf_4_11 d39_57, sn_iload_n d39_60 rfl, sn_aald d39_61, kV_8 wm_4_48 d39_62, sn_iinc (eb_hlg (Or.inl rfl)) hn39_2 d39_65 (by decide), sn_goto d39_68 (by decide), sn_iconst d39_71 (by decide), sn_istore_n (eb_hlg (Or.inl rfl)) hn39_2 d39_72 rfl, sn_iload_n d39_73 rfl, trivial⟩
theorem sc39_1 : eb_AS L q0 39 (eb_lg 39) [(74, op_aload 0 75), (75, op_getI L 4 3 78), (78, op_icge 115 81), (81, op_aload 1 82), (82, op_getR L 4 1 85), (85, op_iload 2 86), (86, op_aald L 87), (87, op_astore 3 88), (88, op_aload 0 89), (89, op_getR L 4 1 92), (92, op_iload 2 93), (93, op_aald L 94), (94, op_aload 3 95), (95, op_getI L 0 0 98), (98, op_aload 3 99), (99, op_getI L 0 1 102), (102, op_aload 3 103), (103, op_getI L 0 2 106), (106, op_callv 1 4 109), (109, op_iinc 2 1 112), (112, op_goto 73), (115, op_vret)] := ⟨sn_aload_n d39_74 rfl, sn_getI (by decide) fi_4_3.1 fi_4_3.2 wf_4_39 d39_75, sn_icge d39_78 (by decide), sn_aload_n d39_81 rfl, sn_getR (by decide) fi_4_1.1 fi_4_1.2 wf_4_19 d39_82, sn_iload_n d39_85 rfl, sn_aald d39_86, sn_astore_n (eb_hlg (Or.inl rfl)) hn39_3 d39_87 rfl, sn_aload_n d39_88 rfl, sn_getR (by decide) fi_4_1.1 fi_4_1.2 wf_4_19 d39_89, sn_iload_n d39_92 rfl, sn_aald d39_93, sn_aload_n d39_94 rfl, sn_getI (by decide) fi_0_0.1 fi_0_0.2 wf_4_52 d39_95, sn_aload_n d39_98 rfl, sn_getI (by decide) fi_0_1.1 fi_0_1.2 wf_4_55 d39_99, sn_aload_n d39_102 rfl, sn_getI (by decide) fi_0_2.1 fi_0_2.2 wf_4_58 d39_103, kV_1 wm_4_61 d39_106, sn_iinc (eb_hlg (Or.inl rfl)) hn39_2 d39_109 (by decide), sn_goto d39_112 (by decide), sn_vret d39_115 rfl, trivial⟩
theorem sd39 : ∀ pc, eb_Snd L q0 39 pc (eb_lg 39) (eb_cd L 39 pc) := eb_AS_all (hk39 (L := L)) (eb_AS_app sc39_0 (sc39_1))
theorem sc40_0 : eb_AS L q0 40 (eb_lg 40) [(0, op_aload 0 1), (1, op_getI L 4 2 4), (4, op_push (zi 6) 6), (6, op_iclt 11 9), (9, op_push (zi (-1)) 10), (10, op_iret), (11, op_aload 0 12), (12, op_getR L 4 0 15), (15, op_aload 0 16), (16, op_getI L 4 2 19), (19, op_aald L 20), (20, op_iload 1 21), (21, op_iload 2 22), (22, op_iload 3 23), (23, op_callv 7 4 26), (26, op_aload 0 27), (27, op_dup 28), (28, op_getI L 4 2 31), (31, op_push (zi 1) 32), (32, op_ii (· + ·) 33), (33, op_putI L 4 2 36), (36, op_aload 0 37), (37, op_getI L 4 2 40), (40, op_push (zi 1) 41), (41, op_ii (· - ·) 42), (42, op_iret)] := ⟨sn_aload_n d40_0 rfl, sn_getI (by decide) fi_4_2.1 fi_4_2.2 wf_4_36 d40_1, sn_bipush d40_4 (by decide), sn_iclt d40_6 (by decide), sn_iconst d40_9 (by decide), sn_iret d40_10 rfl, sn_aload_n d40_11 rfl, sn_getR (by decide) fi_4_0.1 fi_4_0.2 wf_4_11 d40_12, sn_aload_n d40_15 rfl, sn_getI (by decide) fi_4_2.1 fi_4_2.2 wf_4_36 d40_16, sn_aald d40_19, sn_iload_n d40_20 rfl, sn_iload_n d40_21 rfl, sn_iload_n d40_22 rfl, kV_7 wm_4_65 d40_23, sn_aload_n d40_26 rfl, sn_dup d40_27, sn_getI (by decide) fi_4_2.1 fi_4_2.2 wf_4_36 d40_28, sn_iconst d40_31 (by decide), sn_iadd d40_32, sn_putI (by decide) fi_4_2.1 fi_4_2.2 wf_4_36 (Or.inl rfl) fp_4_2 d40_33, sn_aload_n d40_36 rfl, sn_getI (by decide) fi_4_2.1 fi_4_2.2 wf_4_36 d40_37, sn_iconst d40_40 (by decide), sn_isub d40_41, sn_iret d40_42 rfl, trivial⟩
theorem sd40 : ∀ pc, eb_Snd L q0 40 pc (eb_lg 40) (eb_cd L 40 pc) := eb_AS_all (hk40 (L := L)) (sc40_0)
theorem sc41_0 : eb_AS L q0 41 (eb_lg 41) [(0, op_aload 0 1), (1, op_getI L 4 3 4), (4, op_push (zi 6) 6), (6, op_iclt 11 9), (9, op_push (zi (-1)) 10), (10, op_iret), (11, op_aload 0 12), (12, op_getR L 4 1 15), (15, op_aload 0 16), (16, op_getI L 4 3 19), (19, op_aald L 20), (20, op_iload 1 21), (21, op_iload 2 22), (22, op_iload 3 23), (23, op_callv 1 4 26), (26, op_aload 0 27), (27, op_dup 28), (28, op_getI L 4 3 31), (31, op_push (zi 1) 32), (32, op_ii (· + ·) 33), (33, op_putI L 4 3 36), (36, op_aload 0 37), (37, op_getI L 4 3 40), (40, op_push (zi 1) 41), (41, op_ii (· - ·) 42), (42, op_iret)] := ⟨sn_aload_n d41_0 rfl, sn_getI (by decide) fi_4_3.1 fi_4_3.2 wf_4_39 d41_1, sn_bipush d41_4 (by decide), sn_iclt d41_6 (by decide), sn_iconst d41_9 (by decide), sn_iret d41_10 rfl, sn_aload_n d41_11 rfl, sn_getR (by decide) fi_4_1.1 fi_4_1.2 wf_4_19 d41_12, sn_aload_n d41_15 rfl, sn_getI (by decide) fi_4_3.1 fi_4_3.2 wf_4_39 d41_16, sn_aald d41_19, sn_iload_n d41_20 rfl, sn_iload_n d41_21 rfl, sn_iload_n d41_22 rfl, kV_1 wm_4_61 d41_23, sn_aload_n d41_26 rfl, sn_dup d41_27, sn_getI (by decide) fi_4_3.1 fi_4_3.2 wf_4_39 d41_28, sn_iconst d41_31 (by decide), sn_iadd d41_32, sn_putI (by decide) fi_4_3.1 fi_4_3.2 wf_4_39 (Or.inl rfl) fp_4_3 d41_33, sn_aload_n d41_36 rfl, sn_getI (by decide) fi_4_3.1 fi_4_3.2 wf_4_39 d41_37, sn_iconst d41_40 (by decide), sn_isub d41_41, sn_iret d41_42 rfl, trivial⟩
theorem sd41 : ∀ pc, eb_Snd L q0 41 pc (eb_lg 41) (eb_cd L 41 pc) := eb_AS_all (hk41 (L := L)) (sc41_0)
theorem sc42_0 : eb_AS L q0 42 (eb_lg 42) [(0, op_push (zi 0) 1), (1, op_istore 2 2), (2, op_push (zi 0) 3), (3, op_istore 3 4), (4, op_iload 3 5), (5, op_aload 0 6), (6, op_getI L 4 2 9), (9, op_icge 74 12), (12, op_iload 1 13), (13, op_iload 3 14), (14, op_ii (fun x y => x >>> (y &&& 31)) 15), (15, op_push (zi 1) 16), (16, op_ii (· &&& ·) 17), (17, op_push (zi 1) 18), (18, op_icne 25 21), (21, op_push (zi 1) 22), (22, op_goto 26), (25, op_push (zi 0) 26), (26, op_istore 4 28), (28, op_aload 0 29), (29, op_getR L 4 0 32), (32, op_iload 3 33), (33, op_aald L 34), (34, op_iload 4 36), (36, op_ifeq 51 39), (39, op_aload 0 40), (40, op_getR L 4 0 43), (43, op_iload 3 44), (44, op_aald L 45), (45, op_getI L 1 0 48), (48, op_goto 52), (51, op_push (zi (-1)) 52), (52, op_putI L 1 4 55), (55, op_iload 2 56), (56, op_iload 4 58), (58, op_ifeq 65 61), (61, op_push (zi 1) 62), (62, op_goto 66), (65, op_push (zi 0) 66), (66, op_ii (· + ·) 67)] := ⟨sn_iconst d42_0 (by decide), sn_istore_n (eb_hlg (Or.inl rfl)) hn42_2 d42_1 rfl, sn_iconst d42_2 (by decide), sn_istore_n (eb_hlg (Or.inl rfl)) hn42_3 d42_3 rfl, sn_iload_n d42_4 rfl, sn_aload_n d42_5 rfl, sn_getI (by decide) fi_4_2.1 fi_4_2.2 wf_4_36 d42_6, sn_icge d42_9 (by decide), sn_iload_n d42_12 rfl, sn_iload_n d42_13 rfl, sn_ishr d42_14, sn_iconst d42_15 (by decide), sn_iand d42_16, sn_iconst d42_17 (by decide), sn_icne d42_18 (by decide), sn_iconst d42_21 (by decide), sn_goto d42_22 (by decide), sn_iconst d42_25 (by decide), sn_istore (eb_hlg (Or.inl rfl)) hn42_4 d42_26, sn_aload_n d42_28 rfl, sn_getR (by decide) fi_4_0.1 fi_4_0.2 wf_4_11 d42_29, sn_iload_n d42_32 rfl, sn_aald d42_33, sn_iload d42_34, sn_ifeq d42_36 (by decide), sn_aload_n d42_39 rfl, sn_getR (by decide) fi_4_0.1 fi_4_0.2 wf_4_11 d42_40, sn_iload_n d42_43 rfl, sn_aald d42_44, sn_getI (by decide) fi_1_0.1 fi_1_0.2 wf_4_68 d42_45, sn_goto d42_48 (by decide), sn_iconst d42_51 (by decide), sn_putI (by decide) fi_1_4.1 fi_1_4.2 wf_4_71 (Or.inl rfl) fp_1_4 d42_52, sn_iload_n d42_55 rfl, sn_iload d42_56, sn_ifeq d42_58 (by decide), sn_iconst d42_61 (by decide), sn_goto d42_62 (by decide), sn_iconst d42_65 (by decide), sn_iadd d42_66, trivial⟩
theorem sc42_1 : eb_AS L q0 42 (eb_lg 42) [(67, op_istore 2 68), (68, op_iinc 3 1 71), (71, op_goto 4), (74, op_aload 0 75), (75, op_push (zi 0) 76), (76, op_putI L 4 4 79), (79, op_iload 2 80), (80, op_iret)] := ⟨sn_istore_n (eb_hlg (Or.inl rfl)) hn42_2 d42_67 rfl, sn_iinc (eb_hlg (Or.inl rfl)) hn42_3 d42_68 (by decide), sn_goto d42_71 (by decide), sn_aload_n d42_74 rfl, sn_iconst d42_75 (by decide), sn_putI (by decide) fi_4_4.1 fi_4_4.2 wf_4_42 (Or.inl rfl) fp_4_4 d42_76, sn_iload_n d42_79 rfl, sn_iret d42_80 rfl, trivial⟩
theorem sd42 : ∀ pc, eb_Snd L q0 42 pc (eb_lg 42) (eb_cd L 42 pc) := eb_AS_all (hk42 (L := L)) (eb_AS_app sc42_0 (sc42_1))
theorem sc43_0 : eb_AS L q0 43 (eb_lg 43) [(0, op_push (zi 0) 1), (1, op_istore 1 2), (2, op_push (zi 0) 3), (3, op_istore 2 4), (4, op_iload 2 5), (5, op_aload 0 6), (6, op_getI L 4 2 9), (9, op_icge 41 12), (12, op_iload 1 13), (13, op_aload 0 14), (14, op_getR L 4 0 17), (17, op_iload 2 18), (18, op_aald L 19), (19, op_getI L 1 4 22), (22, op_push (zi (-1)) 23), (23, op_icne 30 26), (26, op_push (zi 0) 27), (27, op_goto 33), (30, op_push (zi 1) 31), (31, op_iload 2 32), (32, op_ii (fun x y => x <<< (y &&& 31)) 33), (33, op_ii (· ||| ·) 34), (34, op_istore 1 35), (35, op_iinc 2 1 38), (38, op_goto 4), (41, op_iload 1 42), (42, op_iret)] := ⟨sn_iconst d43_0 (by decide), sn_istore_n (eb_hlg (Or.inl rfl)) hn43_1 d43_1 rfl, sn_iconst d43_2 (by decide), sn_istore_n (eb_hlg (Or.inl rfl)) hn43_2 d43_3 rfl, sn_iload_n d43_4 rfl, sn_aload_n d43_5 rfl, sn_getI (by decide) fi_4_2.1 fi_4_2.2 wf_4_36 d43_6, sn_icge d43_9 (by decide), sn_iload_n d43_12 rfl, sn_aload_n d43_13 rfl, sn_getR (by decide) fi_4_0.1 fi_4_0.2 wf_4_11 d43_14, sn_iload_n d43_17 rfl, sn_aald d43_18, sn_getI (by decide) fi_1_4.1 fi_1_4.2 wf_4_71 d43_19, sn_iconst d43_22 (by decide), sn_icne d43_23 (by decide), sn_iconst d43_26 (by decide), sn_goto d43_27 (by decide), sn_iconst d43_30 (by decide), sn_iload_n d43_31 rfl, sn_ishl d43_32, sn_ior d43_33, sn_istore_n (eb_hlg (Or.inl rfl)) hn43_1 d43_34 rfl, sn_iinc (eb_hlg (Or.inl rfl)) hn43_2 d43_35 (by decide), sn_goto d43_38 (by decide), sn_iload_n d43_41 rfl, sn_iret d43_42 rfl, trivial⟩
theorem sd43 : ∀ pc, eb_Snd L q0 43 pc (eb_lg 43) (eb_cd L 43 pc) := eb_AS_all (hk43 (L := L)) (sc43_0)
theorem sc44_0 : eb_AS L q0 44 (eb_lg 44) [(0, op_push (zi 0) 1), (1, op_istore 1 2), (2, op_push (zi 0) 3), (3, op_istore 2 4), (4, op_iload 2 5), (5, op_aload 0 6), (6, op_getI L 4 2 9), (9, op_icge 30 12), (12, op_iload 1 13), (13, op_aload 0 14), (14, op_getR L 4 0 17), (17, op_iload 2 18), (18, op_aald L 19), (19, op_getI L 1 2 22), (22, op_ii (· + ·) 23), (23, op_istore 1 24), (24, op_iinc 2 1 27), (27, op_goto 4), (30, op_iload 1 31), (31, op_iret)] := ⟨sn_iconst d44_0 (by decide), sn_istore_n (eb_hlg (Or.inl rfl)) hn44_1 d44_1 rfl, sn_iconst d44_2 (by decide), sn_istore_n (eb_hlg (Or.inl rfl)) hn44_2 d44_3 rfl, sn_iload_n d44_4 rfl, sn_aload_n d44_5 rfl, sn_getI (by decide) fi_4_2.1 fi_4_2.2 wf_4_36 d44_6, sn_icge d44_9 (by decide), sn_iload_n d44_12 rfl, sn_aload_n d44_13 rfl, sn_getR (by decide) fi_4_0.1 fi_4_0.2 wf_4_11 d44_14, sn_iload_n d44_17 rfl, sn_aald d44_18, sn_getI (by decide) fi_1_2.1 fi_1_2.2 wf_4_74 d44_19, sn_iadd d44_22, sn_istore_n (eb_hlg (Or.inl rfl)) hn44_1 d44_23 rfl, sn_iinc (eb_hlg (Or.inl rfl)) hn44_2 d44_24 (by decide), sn_goto d44_27 (by decide), sn_iload_n d44_30 rfl, sn_iret d44_31 rfl, trivial⟩
theorem sd44 : ∀ pc, eb_Snd L q0 44 pc (eb_lg 44) (eb_cd L 44 pc) := eb_AS_all (hk44 (L := L)) (sc44_0)
theorem sc45_0 : eb_AS L q0 45 (eb_lg 45) [(0, op_push (zi 0) 1), (1, op_istore 1 2), (2, op_push (zi 0) 3), (3, op_istore 2 4), (4, op_iload 2 5), (5, op_aload 0 6), (6, op_getI L 4 3 9), (9, op_icge 30 12), (12, op_iload 1 13), (13, op_aload 0 14), (14, op_getR L 4 1 17), (17, op_iload 2 18), (18, op_aald L 19), (19, op_getI L 0 1 22), (22, op_ii (· + ·) 23), (23, op_istore 1 24), (24, op_iinc 2 1 27), (27, op_goto 4), (30, op_iload 1 31), (31, op_iret)] := ⟨sn_iconst d45_0 (by decide), sn_istore_n (eb_hlg (Or.inl rfl)) hn45_1 d45_1 rfl, sn_iconst d45_2 (by decide), sn_istore_n (eb_hlg (Or.inl rfl)) hn45_2 d45_3 rfl, sn_iload_n d45_4 rfl, sn_aload_n d45_5 rfl, sn_getI (by decide) fi_4_3.1 fi_4_3.2 wf_4_39 d45_6, sn_icge d45_9 (by decide), sn_iload_n d45_12 rfl, sn_aload_n d45_13 rfl, sn_getR (by decide) fi_4_1.1 fi_4_1.2 wf_4_19 d45_14, sn_iload_n d45_17 rfl, sn_aald d45_18, sn_getI (by decide) fi_0_1.1 fi_0_1.2 wf_4_55 d45_19, sn_iadd d45_22, sn_istore_n (eb_hlg (Or.inl rfl)) hn45_1 d45_23 rfl, sn_iinc (eb_hlg (Or.inl rfl)) hn45_2 d45_24 (by decide), sn_goto d45_27 (by decide), sn_iload_n d45_30 rfl, sn_iret d45_31 rfl, trivial⟩
theorem sd45 : ∀ pc, eb_Snd L q0 45 pc (eb_lg 45) (eb_cd L 45 pc) := eb_AS_all (hk45 (L := L)) (sc45_0)
theorem sc46_0 : eb_AS L q0 46 (eb_lg 46) [(0, op_push (zi (-1)) 1), (1, op_istore 1 2), (2, op_push (zi 0) 3), (3, op_istore 2 4), (4, op_iload 2 5), (5, op_aload 0 6), (6, op_getI L 4 2 9), (9, op_icge 66 12), (12, op_iload 1 13), (13, op_push (zi (-1)) 14), (14, op_iceq 58 17), (17, op_aload 0 18), (18, op_getR L 4 0 21), (21, op_iload 2 22), (22, op_aald L 23), (23, op_getI L 1 0 26), (26, op_aload 0 27), (27, op_getR L 4 0 30), (30, op_iload 2 31), (31, op_aald L 32), (32, op_getI L 1 3 35), (35, op_ii (· - ·) 36), (36, op_aload 0 37), (37, op_getR L 4 0 40), (40, op_iload 1 41), (41, op_aald L 42), (42, op_getI L 1 0 45), (45, op_aload 0 46), (46, op_getR L 4 0 49), (49, op_iload 1 50), (50, op_aald L 51), (51, op_getI L 1 3 54), (54, op_ii (· - ·) 55), (55, op_icle 60 58), (58, op_iload 2 59), (59, op_istore 1 60), (60, op_iinc 2 1 63), (63, op_goto 4), (66, op_iload 1 67), (67, op_iret)] := ⟨sn_iconst d46_0 (by decide), sn_istore_n (eb_hlg (Or.inl rfl)) hn46_1 d46_1 rfl, sn_iconst d46_2 (by decide), sn_istore_n (eb_hlg (Or.inl rfl)) hn46_2 d46_3 rfl, sn_iload_n d46_4 rfl, sn_aload_n d46_5 rfl, sn_getI (by decide) fi_4_2.1 fi_4_2.2 wf_4_36 d46_6, sn_icge d46_9 (by decide), sn_iload_n d46_12 rfl, sn_iconst d46_13 (by decide), sn_iceq d46_14 (by decide), sn_aload_n d46_17 rfl, sn_getR (by decide) fi_4_0.1 fi_4_0.2 wf_4_11 d46_18, sn_iload_n d46_21 rfl, sn_aald d46_22, sn_getI (by decide) fi_1_0.1 fi_1_0.2 wf_4_68 d46_23, sn_aload_n d46_26 rfl, sn_getR (by decide) fi_4_0.1 fi_4_0.2 wf_4_11 d46_27, sn_iload_n d46_30 rfl, sn_aald d46_31, sn_getI (by decide) fi_1_3.1 fi_1_3.2 wf_4_77 d46_32, sn_isub d46_35, sn_aload_n d46_36 rfl, sn_getR (by decide) fi_4_0.1 fi_4_0.2 wf_4_11 d46_37, sn_iload_n d46_40 rfl, sn_aald d46_41, sn_getI (by decide) fi_1_0.1 fi_1_0.2 wf_4_68 d46_42, sn_aload_n d46_45 rfl, sn_getR (by decide) fi_4_0.1 fi_4_0.2 wf_4_11 d46_46, sn_iload_n d46_49 rfl, sn_aald d46_50, sn_getI (by decide) fi_1_3.1 fi_1_3.2 wf_4_77 d46_51, sn_isub d46_54, sn_icle d46_55 (by decide), sn_iload_n d46_58 rfl, sn_istore_n (eb_hlg (Or.inl rfl)) hn46_1 d46_59 rfl, sn_iinc (eb_hlg (Or.inl rfl)) hn46_2 d46_60 (by decide), sn_goto d46_63 (by decide), sn_iload_n d46_66 rfl, sn_iret d46_67 rfl, trivial⟩
theorem sd46 : ∀ pc, eb_Snd L q0 46 pc (eb_lg 46) (eb_cd L 46 pc) := eb_AS_all (hk46 (L := L)) (sc46_0)
theorem sc47_0 : eb_AS L q0 47 (eb_lg 47) [(0, op_push (zi 100) 2), (2, op_aload 2 3), (3, op_getI L 1 3 6), (6, op_ii (· - ·) 7), (7, op_istore 3 8), (8, op_aload 2 9), (9, op_getI L 1 4 12), (12, op_push (zi (-1)) 13), (13, op_icne 20 16), (16, op_push (zi 0) 17), (17, op_goto 35), (20, op_push (zi 0) 21), (21, op_aload 2 22), (22, op_getI L 1 4 25), (25, op_push (zi 2) 26), (26, op_aload 0 27), (27, op_getI L 4 4 30), (30, op_ii (· * ·) 31), (31, op_ii (· - ·) 32), (32, op_call 900 2 35), (35, op_istore 4 37), (37, op_aload 1 38), (38, op_getI L 0 0 41), (41, op_sw [(0, 76), (1, 144), (2, 90), (3, 78), (4, 110)] 144), (76, op_iload 3 77), (77, op_iret), (78, op_aload 2 79), (79, op_getI L 1 0 82), (82, op_aload 2 83), (83, op_getI L 1 3 86), (86, op_push (zi 2) 87), (87, op_iid (· / ·) 88), (88, op_ii (· - ·) 89), (89, op_iret), (90, op_aload 2 91), (91, op_getI L 1 4 94), (94, op_push (zi (-1)) 95), (95, op_icne 102 98), (98, op_iload 3 99), (99, op_goto 109)] := ⟨sn_bipush d47_0 (by decide), sn_aload_n d47_2 rfl, sn_getI (by decide) fi_1_3.1 fi_1_3.2 wf_4_77 d47_3, sn_isub d47_6, sn_istore_n (eb_hlg (Or.inl rfl)) hn47_3 d47_7 rfl, sn_aload_n d47_8 rfl, sn_getI (by decide) fi_1_4.1 fi_1_4.2 wf_4_71 d47_9, sn_iconst d47_12 (by decide), sn_icne d47_13 (by decide), sn_iconst d47_16 (by decide), sn_goto d47_17 (by decide), sn_iconst d47_20 (by decide), sn_aload_n d47_21 rfl, sn_getI (by decide) fi_1_4.1 fi_1_4.2 wf_4_71 d47_22, sn_iconst d47_25 (by decide), sn_aload_n d47_26 rfl, sn_getI (by decide) fi_4_4.1 fi_4_4.2 wf_4_42 d47_27, sn_imul d47_30, sn_isub d47_31, sn_max wm_4_80 d47_32, sn_istore (eb_hlg (Or.inl rfl)) hn47_4 d47_35, sn_aload_n d47_37 rfl, sn_getI (by decide) fi_0_0.1 fi_0_0.2 wf_4_52 d47_38, sn_sw d47_41 (by decide) (by decide +kernel) (by decide), sn_iload_n d47_76 rfl, sn_iret d47_77 rfl, sn_aload_n d47_78 rfl, sn_getI (by decide) fi_1_0.1 fi_1_0.2 wf_4_68 d47_79, sn_aload_n d47_82 rfl, sn_getI (by decide) fi_1_3.1 fi_1_3.2 wf_4_77 d47_83, sn_iconst d47_86 (by decide), sn_idiv d47_87, sn_isub d47_88, sn_iret d47_89 rfl, sn_aload_n d47_90 rfl, sn_getI (by decide) fi_1_4.1 fi_1_4.2 wf_4_71 d47_91, sn_iconst d47_94 (by decide), sn_icne d47_95 (by decide), sn_iload_n d47_98 rfl, sn_goto d47_99 (by decide), trivial⟩
theorem sc47_1 : eb_AS L q0 47 (eb_lg 47) [(102, op_iload 4 104), (104, op_aload 1 105), (105, op_getI L 0 2 108), (108, op_ii (· - ·) 109), (109, op_iret), (110, op_aload 2 111), (111, op_getI L 1 5 114), (114, op_push (zi 1) 115), (115, op_iclt 141 118), (118, op_aload 2 119), (119, op_getI L 1 5 122), (122, op_aload 1 123), (123, op_getI L 0 2 126), (126, op_iclt 141 129), (129, op_aload 2 130), (130, op_getI L 1 6 133), (133, op_aload 2 134), (134, op_getI L 1 5 137), (137, op_iid (· / ·) 138), (138, op_goto 143), (141, op_iload 4 143), (143, op_iret), (144, op_iload 4 146), (146, op_iret)] := ⟨sn_iload d47_102, sn_aload_n d47_104 rfl, sn_getI (by decide) fi_0_2.1 fi_0_2.2 wf_4_58 d47_105, sn_isub d47_108, sn_iret d47_109 rfl, sn_aload_n d47_110 rfl, sn_getI (by decide) fi_1_5.1 fi_1_5.2 wf_4_86 d47_111, sn_iconst d47_114 (by decide), sn_iclt d47_115 (by decide), sn_aload_n d47_118 rfl, sn_getI (by decide) fi_1_5.1 fi_1_5.2 wf_4_86 d47_119, sn_aload_n d47_122 rfl, sn_getI (by decide) fi_0_2.1 fi_0_2.2 wf_4_58 d47_123, sn_iclt d47_126 (by decide), sn_aload_n d47_129 rfl, sn_getI (by decide) fi_1_6.1 fi_1_6.2 wf_4_89 d47_130, sn_aload_n d47_133 rfl, sn_getI (by decide) fi_1_5.1 fi_1_5.2 wf_4_86 d47_134, sn_idiv d47_137, sn_goto d47_138 (by decide), sn_iload d47_141, sn_iret d47_143 rfl, sn_iload d47_144, sn_iret d47_146 rfl, trivial⟩
theorem sd47 : ∀ pc, eb_Snd L q0 47 pc (eb_lg 47) (eb_cd L 47 pc) := eb_AS_all (hk47 (L := L)) (eb_AS_app sc47_0 (sc47_1))
theorem sc48_0 : eb_AS L q0 48 (eb_lg 48) [(0, op_push (zi (-1)) 1), (1, op_istore 2 2), (2, op_push (zi 0) 3), (3, op_istore 3 4), (4, op_push (zi 0) 5), (5, op_istore 4 7), (7, op_iload 4 9), (9, op_aload 0 10), (10, op_getI L 4 2 13), (13, op_icge 53 16), (16, op_aload 0 17), (17, op_aload 1 18), (18, op_aload 0 19), (19, op_getR L 4 0 22), (22, op_iload 4 24), (24, op_aald L 25), (25, op_call 47 3 28), (28, op_istore 5 30), (30, op_iload 2 31), (31, op_push (zi (-1)) 32), (32, op_iceq 41 35), (35, op_iload 5 37), (37, op_iload 3 38), (38, op_icle 47 41), (41, op_iload 4 43), (43, op_istore 2 44), (44, op_iload 5 46), (46, op_istore 3 47), (47, op_iinc 4 1 50), (50, op_goto 7), (53, op_iload 2 54), (54, op_iret)] := ⟨sn_iconst d48_0 (by decide), sn_istore_n (eb_hlg (Or.inl rfl)) hn48_2 d48_1 rfl, sn_iconst d48_2 (by decide), sn_istore_n (eb_hlg (Or.inl rfl)) hn48_3 d48_3 rfl, sn_iconst d48_4 (by decide), sn_istore (eb_hlg (Or.inl rfl)) hn48_4 d48_5, sn_iload d48_7, sn_aload_n d48_9 rfl, sn_getI (by decide) fi_4_2.1 fi_4_2.2 wf_4_36 d48_10, sn_icge d48_13 (by decide), sn_aload_n d48_16 rfl, sn_aload_n d48_17 rfl, sn_aload_n d48_18 rfl, sn_getR (by decide) fi_4_0.1 fi_4_0.2 wf_4_11 d48_19, sn_iload d48_22, sn_aald d48_24, kV_47 wm_4_92 d48_25, sn_istore (eb_hlg (Or.inl rfl)) hn48_5 d48_28, sn_iload_n d48_30 rfl, sn_iconst d48_31 (by decide), sn_iceq d48_32 (by decide), sn_iload d48_35, sn_iload_n d48_37 rfl, sn_icle d48_38 (by decide), sn_iload d48_41, sn_istore_n (eb_hlg (Or.inl rfl)) hn48_2 d48_43 rfl, sn_iload d48_44, sn_istore_n (eb_hlg (Or.inl rfl)) hn48_3 d48_46 rfl, sn_iinc (eb_hlg (Or.inl rfl)) hn48_4 d48_47 (by decide), sn_goto d48_50 (by decide), sn_iload_n d48_53 rfl, sn_iret d48_54 rfl, trivial⟩
theorem sd48 : ∀ pc, eb_Snd L q0 48 pc (eb_lg 48) (eb_cd L 48 pc) := eb_AS_all (hk48 (L := L)) (sc48_0)
theorem sc49_0 : eb_AS L q0 49 (eb_lg 49) [(0, op_push (zi 0) 1), (1, op_istore 2 2), (2, op_push (zi 0) 3), (3, op_istore 3 4), (4, op_iload 3 5), (5, op_aload 0 6), (6, op_getI L 4 3 9), (9, op_icge 56 12), (12, op_aload 0 13), (13, op_getR L 4 1 16), (16, op_iload 3 17), (17, op_aald L 18), (18, op_call 4 1 21), (21, op_ifeq 50 24), (24, op_aload 0 25), (25, op_aload 0 26), (26, op_getR L 4 1 29), (29, op_iload 3 30), (30, op_aald L 31), (31, op_call 48 2 34), (34, op_iload 1 35), (35, op_icne 50 38), (38, op_iload 2 39), (39, op_aload 0 40), (40, op_getR L 4 1 43), (43, op_iload 3 44), (44, op_aald L 45), (45, op_getI L 0 1 48), (48, op_ii (· + ·) 49), (49, op_istore 2 50), (50, op_iinc 3 1 53), (53, op_goto 4), (56, op_iload 2 57), (57, op_iret)] := ⟨sn_iconst d49_0 (by decide), sn_istore_n (eb_hlg (Or.inl rfl)) hn49_2 d49_1 rfl, sn_iconst d49_2 (by decide), sn_istore_n (eb_hlg (Or.inl rfl)) hn49_3 d49_3 rfl, sn_iload_n d49_4 rfl, sn_aload_n d49_5 rfl, sn_getI (by decide) fi_4_3.1 fi_4_3.2 wf_4_39 d49_6, sn_icge d49_9 (by decide), sn_aload_n d49_12 rfl, sn_getR (by decide) fi_4_1.1 fi_4_1.2 wf_4_19 d49_13, sn_iload_n d49_16 rfl, sn_aald d49_17, kV_4 wm_4_96 d49_18, sn_ifeq d49_21 (by decide), sn_aload_n d49_24 rfl, sn_aload_n d49_25 rfl, sn_getR (by decide) fi_4_1.1 fi_4_1.2 wf_4_19 d49_26, sn_iload_n d49_29 rfl, sn_aald d49_30, kV_48 wm_4_100 d49_31, sn_iload_n d49_34 rfl, sn_icne d49_35 (by decide), sn_iload_n d49_38 rfl, sn_aload_n d49_39 rfl, sn_getR (by decide) fi_4_1.1 fi_4_1.2 wf_4_19 d49_40, sn_iload_n d49_43 rfl, sn_aald d49_44, sn_getI (by decide) fi_0_1.1 fi_0_1.2 wf_4_55 d49_45, sn_iadd d49_48, sn_istore_n (eb_hlg (Or.inl rfl)) hn49_2 d49_49 rfl, sn_iinc (eb_hlg (Or.inl rfl)) hn49_3 d49_50 (by decide), sn_goto d49_53 (by decide), sn_iload_n d49_56 rfl, sn_iret d49_57 rfl, trivial⟩
theorem sd49 : ∀ pc, eb_Snd L q0 49 pc (eb_lg 49) (eb_cd L 49 pc) := eb_AS_all (hk49 (L := L)) (sc49_0)
theorem sc50_0 : eb_AS L q0 50 (eb_lg 50) [(0, op_aload 0 1), (1, op_callv 52 1 4), (4, op_push (zi 0) 5), (5, op_istore 1 6), (6, op_iload 1 7), (7, op_aload 0 8), (8, op_getI L 4 3 11), (11, op_icge 39 14), (14, op_aload 0 15), (15, op_aload 0 16), (16, op_getR L 4 8 19), (19, op_iload 1 20), (20, op_aald L 21), (21, op_aload 0 22), (22, op_getR L 4 8 25), (25, op_iload 1 26), (26, op_aald L 27), (27, op_getI L 0 1 30), (30, op_callv 55 3 33), (33, op_iinc 1 1 36), (36, op_goto 6), (39, op_vret)] := ⟨sn_aload_n d50_0 rfl, kV_52 wm_4_104 d50_1, sn_iconst d50_4 (by decide), sn_istore_n (eb_hlg (Or.inl rfl)) hn50_1 d50_5 rfl, sn_iload_n d50_6 rfl, sn_aload_n d50_7 rfl, sn_getI (by decide) fi_4_3.1 fi_4_3.2 wf_4_39 d50_8, sn_icge d50_11 (by decide), sn_aload_n d50_14 rfl, sn_aload_n d50_15 rfl, sn_getR (by decide) fi_4_8.1 fi_4_8.2 wf_4_31 d50_16, sn_iload_n d50_19 rfl, sn_aald d50_20, sn_aload_n d50_21 rfl, sn_getR (by decide) fi_4_8.1 fi_4_8.2 wf_4_31 d50_22, sn_iload_n d50_25 rfl, sn_aald d50_26, sn_getI (by decide) fi_0_1.1 fi_0_1.2 wf_4_55 d50_27, kV_55 wm_4_107 d50_30, sn_iinc (eb_hlg (Or.inl rfl)) hn50_1 d50_33 (by decide), sn_goto d50_36 (by decide), sn_vret d50_39 rfl, trivial⟩
theorem sd50 : ∀ pc, eb_Snd L q0 50 pc (eb_lg 50) (eb_cd L 50 pc) := eb_AS_all (hk50 (L := L)) (sc50_0)
theorem sc51_0 : eb_AS L q0 51 (eb_lg 51) [(0, op_aload 0 1), (1, op_callv 52 1 4), (4, op_push (zi 0) 5), (5, op_istore 3 6), (6, op_iload 3 7), (7, op_aload 0 8), (8, op_getI L 4 3 11), (11, op_icge 83 14), (14, op_aload 0 15), (15, op_getR L 4 8 18), (18, op_iload 3 19), (19, op_aald L 20), (20, op_astore 4 22), (22, op_aload 4 24), (24, op_call 4 1 27), (27, op_ifeq 40 30), (30, op_aload 4 32), (32, op_getI L 0 1 35), (35, op_push (zi 2) 36), (36, op_iid (· / ·) 37), (37, op_goto 41), (40, op_push (zi 0) 41), (41, op_istore 5 43), (43, op_aload 0 44), (44, op_iload 1 45), (45, op_call 42 2 48), (48, op_pop 49), (49, op_aload 0 50), (50, op_aload 4 52), (52, op_aload 4 54), (54, op_getI L 0 1 57), (57, op_iload 5 59), (59, op_ii (· - ·) 60), (60, op_callv 55 3 63), (63, op_aload 0 64), (64, op_iload 2 65), (65, op_call 42 2 68), (68, op_pop 69), (69, op_aload 0 70), (70, op_aload 4 72)] := ⟨sn_aload_n d51_0 rfl, kV_52 wm_4_104 d51_1, sn_iconst d51_4 (by decide), sn_istore_n (eb_hlg (Or.inl rfl)) hn51_3 d51_5 rfl, sn_iload_n d51_6 rfl, sn_aload_n d51_7 rfl, sn_getI (by decide) fi_4_3.1 fi_4_3.2 wf_4_39 d51_8, sn_icge d51_11 (by decide), sn_aload_n d51_14 rfl, sn_getR (by decide) fi_4_8.1 fi_4_8.2 wf_4_31 d51_15, sn_iload_n d51_18 rfl, sn_aald d51_19, sn_astore (eb_hlg (Or.inl rfl)) hn51_4 d51_20, sn_aload d51_22, kV_4 wm_4_96 d51_24, sn_ifeq d51_27 (by decide), sn_aload d51_30, sn_getI (by decide) fi_0_1.1 fi_0_1.2 wf_4_55 d51_32, sn_iconst d51_35 (by decide), sn_idiv d51_36, sn_goto d51_37 (by decide), sn_iconst d51_40 (by decide), sn_istore (eb_hlg (Or.inl rfl)) hn51_5 d51_41, sn_aload_n d51_43 rfl, sn_iload_n d51_44 rfl, kV_42 wm_4_111 d51_45, sn_pop d51_48, sn_aload_n d51_49 rfl, sn_aload d51_50, sn_aload d51_52, sn_getI (by decide) fi_0_1.1 fi_0_1.2 wf_4_55 d51_54, sn_iload d51_57, sn_isub d51_59, kV_55 wm_4_107 d51_60, sn_aload_n d51_63 rfl, sn_iload_n d51_64 rfl, kV_42 wm_4_111 d51_65, sn_pop d51_68, sn_aload_n d51_69 rfl, sn_aload d51_70, trivial⟩
theorem sc51_1 : eb_AS L q0 51 (eb_lg 51) [(72, op_iload 5 74), (74, op_callv 55 3 77), (77, op_iinc 3 1 80), (80, op_goto 6), (83, op_vret)] := ⟨sn_iload d51_72, kV_55 wm_4_107 d51_74, sn_iinc (eb_hlg (Or.inl rfl)) hn51_3 d51_77 (by decide), sn_goto d51_80 (by decide), sn_vret d51_83 rfl, trivial⟩
theorem sd51 : ∀ pc, eb_Snd L q0 51 pc (eb_lg 51) (eb_cd L 51 pc) := eb_AS_all (hk51 (L := L)) (eb_AS_app sc51_0 (sc51_1))
theorem sc52_0 : eb_AS L q0 52 (eb_lg 52) [(0, op_push (zi 0) 1), (1, op_istore 1 2), (2, op_iload 1 3), (3, op_aload 0 4), (4, op_getI L 4 2 7), (7, op_icge 26 10), (10, op_aload 0 11), (11, op_getR L 4 0 14), (14, op_iload 1 15), (15, op_aald L 16), (16, op_push (zi 0) 17), (17, op_putI L 1 7 20), (20, op_iinc 1 1 23), (23, op_goto 2), (26, op_push (zi 0) 27), (27, op_istore 1 28), (28, op_iload 1 29), (29, op_aload 0 30), (30, op_getI L 4 3 33), (33, op_icge 51 36), (36, op_aload 0 37), (37, op_getR L 4 1 40), (40, op_iload 1 41), (41, op_aald L 42), (42, op_callv 3 1 45), (45, op_iinc 1 1 48), (48, op_goto 28), (51, op_aload 0 52), (52, op_push (zi 0) 53), (53, op_push (zi 0) 54), (54, op_callv 53 3 57), (57, op_aload 0 58), (58, op_push (zi 1) 59), (59, op_aload 0 60), (60, op_getI L 4 3 63), (63, op_aload 0 64), (64, op_call 54 1 67), (67, op_ii (· - ·) 68), (68, op_callv 53 3 71), (71, op_vret)] := ⟨sn_iconst d52_0 (by decide), sn_istore_n (eb_hlg (Or.inl rfl)) hn52_1 d52_1 rfl, sn_iload_n d52_2 rfl, sn_aload_n d52_3 rfl, sn_getI (by decide) fi_4_2.1 fi_4_2.2 wf_4_36 d52_4, sn_icge d52_7 (by decide), sn_aload_n d52_10 rfl, sn_getR (by decide) fi_4_0.1 fi_4_0.2 wf_4_11 d52_11, sn_iload_n d52_14 rfl, sn_aald d52_15, sn_iconst d52_16 (by decide), sn_putI (by decide) fi_1_7.1 fi_1_7.2 wf_4_115 (Or.inl rfl) fp_1_7 d52_17, sn_iinc (eb_hlg (Or.inl rfl)) hn52_1 d52_20 (by decide), sn_goto d52_23 (by decide), sn_iconst d52_26 (by decide), sn_istore_n (eb_hlg (Or.inl rfl)) hn52_1 d52_27 rfl, sn_iload_n d52_28 rfl, sn_aload_n d52_29 rfl, sn_getI (by decide) fi_4_3.1 fi_4_3.2 wf_4_39 d52_30, sn_icge d52_33 (by decide), sn_aload_n d52_36 rfl, sn_getR (by decide) fi_4_1.1 fi_4_1.2 wf_4_19 d52_37, sn_iload_n d52_40 rfl, sn_aald d52_41, kV_3 wm_4_118 d52_42, sn_iinc (eb_hlg (Or.inl rfl)) hn52_1 d52_45 (by decide), sn_goto d52_48 (by decide), sn_aload_n d52_51 rfl, sn_iconst d52_52 (by decide), sn_iconst d52_53 (by decide), kV_53 wm_4_121 d52_54, sn_aload_n d52_57 rfl, sn_iconst d52_58 (by decide), sn_aload_n d52_59 rfl, sn_getI (by decide) fi_4_3.1 fi_4_3.2 wf_4_39 d52_60, sn_aload_n d52_63 rfl, kV_54 wm_4_125 d52_64, sn_isub d52_67, kV_53 wm_4_121 d52_68, sn_vret d52_71 rfl, trivial⟩
theorem sd52 : ∀ pc, eb_Snd L q0 52 pc (eb_lg 52) (eb_cd L 52 pc) := eb_AS_all (hk52 (L := L)) (sc52_0)
theorem sc53_0 : eb_AS L q0 53 (eb_lg 53) [(0, op_iload 2 1), (1, op_istore 3 2), (2, op_push (zi 0) 3), (3, op_istore 4 5), (5, op_iload 4 7), (7, op_aload 0 8), (8, op_getI L 4 3 11), (11, op_icge 59 14), (14, op_aload 0 15), (15, op_getR L 4 1 18), (18, op_iload 4 20), (20, op_aald L 21), (21, op_call 5 1 24), (24, op_iload 1 25), (25, op_icne 53 28), (28, op_iload 3 29), (29, op_push (zi 0) 30), (30, op_push (zi 5) 31), (31, op_call 127 3 34), (34, op_ifeq 53 37), (37, op_aload 0 38), (38, op_getR L 4 8 41), (41, op_iload 3 42), (42, op_aload 0 43), (43, op_getR L 4 1 46), (46, op_iload 4 48), (48, op_aald L 49), (49, op_aast L 50), (50, op_iinc 3 1 53), (53, op_iinc 4 1 56), (56, op_goto 5), (59, op_vret)] := ⟨sn_iload_n d53_0 rfl, sn_istore_n (eb_hlg (Or.inl rfl)) hn53_3 d53_1 rfl, sn_iconst d53_2 (by decide), sn_istore (eb_hlg (Or.inl rfl)) hn53_4 d53_3, sn_iload d53_5, sn_aload_n d53_7 rfl, sn_getI (by decide) fi_4_3.1 fi_4_3.2 wf_4_39 d53_8, sn_icge d53_11 (by decide), sn_aload_n d53_14 rfl, sn_getR (by decide) fi_4_1.1 fi_4_1.2 wf_4_19 d53_15, sn_iload d53_18, sn_aald d53_20, kV_5 wm_4_129 d53_21, sn_iload_n d53_24 rfl, sn_icne d53_25 (by decide), sn_iload_n d53_28 rfl, sn_iconst d53_29 (by decide), sn_iconst d53_30 (by decide), kSN_127 wm_4_132 d53_31, sn_ifeq d53_34 (by decide), sn_aload_n d53_37 rfl, sn_getR (by decide) fi_4_8.1 fi_4_8.2 wf_4_31 d53_38, sn_iload_n d53_41 rfl, sn_aload_n d53_42 rfl, sn_getR (by decide) fi_4_1.1 fi_4_1.2 wf_4_19 d53_43, sn_iload d53_46, sn_aald d53_48, sn_aast d53_49, sn_iinc (eb_hlg (Or.inl rfl)) hn53_3 d53_50 (by decide), sn_iinc (eb_hlg (Or.inl rfl)) hn53_4 d53_53 (by decide), sn_goto d53_56 (by decide), sn_vret d53_59 rfl, trivial⟩
theorem sd53 : ∀ pc, eb_Snd L q0 53 pc (eb_lg 53) (eb_cd L 53 pc) := eb_AS_all (hk53 (L := L)) (sc53_0)
theorem sc54_0 : eb_AS L q0 54 (eb_lg 54) [(0, op_push (zi 0) 1), (1, op_istore 1 2), (2, op_push (zi 0) 3), (3, op_istore 2 4), (4, op_iload 2 5), (5, op_aload 0 6), (6, op_getI L 4 3 9), (9, op_icge 38 12), (12, op_iload 1 13), (13, op_aload 0 14), (14, op_getR L 4 1 17), (17, op_iload 2 18), (18, op_aald L 19), (19, op_call 5 1 22), (22, op_ifeq 29 25), (25, op_push (zi 1) 26), (26, op_goto 30), (29, op_push (zi 0) 30), (30, op_ii (· + ·) 31), (31, op_istore 1 32), (32, op_iinc 2 1 35), (35, op_goto 4), (38, op_iload 1 39), (39, op_iret)] := ⟨sn_iconst d54_0 (by decide), sn_istore_n (eb_hlg (Or.inl rfl)) hn54_1 d54_1 rfl, sn_iconst d54_2 (by decide), sn_istore_n (eb_hlg (Or.inl rfl)) hn54_2 d54_3 rfl, sn_iload_n d54_4 rfl, sn_aload_n d54_5 rfl, sn_getI (by decide) fi_4_3.1 fi_4_3.2 wf_4_39 d54_6, sn_icge d54_9 (by decide), sn_iload_n d54_12 rfl, sn_aload_n d54_13 rfl, sn_getR (by decide) fi_4_1.1 fi_4_1.2 wf_4_19 d54_14, sn_iload_n d54_17 rfl, sn_aald d54_18, kV_5 wm_4_129 d54_19, sn_ifeq d54_22 (by decide), sn_iconst d54_25 (by decide), sn_goto d54_26 (by decide), sn_iconst d54_29 (by decide), sn_iadd d54_30, sn_istore_n (eb_hlg (Or.inl rfl)) hn54_1 d54_31 rfl, sn_iinc (eb_hlg (Or.inl rfl)) hn54_2 d54_32 (by decide), sn_goto d54_35 (by decide), sn_iload_n d54_38 rfl, sn_iret d54_39 rfl, trivial⟩
theorem sd54 : ∀ pc, eb_Snd L q0 54 pc (eb_lg 54) (eb_cd L 54 pc) := eb_AS_all (hk54 (L := L)) (sc54_0)
theorem sc55_0 : eb_AS L q0 55 (eb_lg 55) [(0, op_push (zi 0) 1), (1, op_istore 3 2), (2, op_iload 3 3), (3, op_aload 0 4), (4, op_getI L 4 2 7), (7, op_icge 33 10), (10, op_aload 0 11), (11, op_getR L 4 7 14), (14, op_iload 3 15), (15, op_aload 0 16), (16, op_aload 1 17), (17, op_aload 0 18), (18, op_getR L 4 0 21), (21, op_iload 3 22), (22, op_aald L 23), (23, op_call 47 3 26), (26, op_iast L 27), (27, op_iinc 3 1 30), (30, op_goto 2), (33, op_iload 2 34), (34, op_istore 3 35), (35, op_push (zi 0) 36), (36, op_istore 4 38), (38, op_iload 4 40), (40, op_aload 0 41), (41, op_getI L 4 2 44), (44, op_icge 133 47), (47, op_iload 3 48), (48, op_ifle 133 51), (51, op_aload 0 52), (52, op_call 56 1 55), (55, op_istore 5 57), (57, op_iload 5 59), (59, op_push (zi (-1)) 60), (60, op_icne 66 63), (63, op_goto 133), (66, op_iload 3 67), (67, op_aload 0 68), (68, op_getR L 4 0 71), (71, op_iload 5 73)] := ⟨sn_iconst d55_0 (by decide), sn_istore_n (eb_hlg (Or.inl rfl)) hn55_3 d55_1 rfl, sn_iload_n d55_2 rfl, sn_aload_n d55_3 rfl, sn_getI (by decide) fi_4_2.1 fi_4_2.2 wf_4_36 d55_4, sn_icge d55_7 (by decide), sn_aload_n d55_10 rfl, sn_getR (by decide) fi_4_7.1 fi_4_7.2 wf_4_27 d55_11, sn_iload_n d55_14 rfl, sn_aload_n d55_15 rfl, sn_aload_n d55_16 rfl, sn_aload_n d55_17 rfl, sn_getR (by decide) fi_4_0.1 fi_4_0.2 wf_4_11 d55_18, sn_iload_n d55_21 rfl, sn_aald d55_22, kV_47 wm_4_92 d55_23, sn_iast d55_26, sn_iinc (eb_hlg (Or.inl rfl)) hn55_3 d55_27 (by decide), sn_goto d55_30 (by decide), sn_iload_n d55_33 rfl, sn_istore_n (eb_hlg (Or.inl rfl)) hn55_3 d55_34 rfl, sn_iconst d55_35 (by decide), sn_istore (eb_hlg (Or.inl rfl)) hn55_4 d55_36, sn_iload d55_38, sn_aload_n d55_40 rfl, sn_getI (by decide) fi_4_2.1 fi_4_2.2 wf_4_36 d55_41, sn_icge d55_44 (by decide), sn_iload_n d55_47 rfl, sn_ifle d55_48 (by decide), sn_aload_n d55_51 rfl, kV_56 wm_4_136 d55_52, sn_istore (eb_hlg (Or.inl rfl)) hn55_5 d55_55, sn_iload d55_57, sn_iconst d55_59 (by decide), sn_icne d55_60 (by decide), sn_goto d55_63 (by decide), sn_iload_n d55_66 rfl, sn_aload_n d55_67 rfl, sn_getR (by decide) fi_4_0.1 fi_4_0.2 wf_4_11 d55_68, sn_iload d55_71, trivial⟩
theorem sc55_1 : eb_AS L q0 55 (eb_lg 55) [(73, op_aald L 74), (74, op_getI L 1 2 77), (77, op_aload 0 78), (78, op_getR L 4 0 81), (81, op_iload 5 83), (83, op_aald L 84), (84, op_getI L 1 7 87), (87, op_ii (· - ·) 88), (88, op_call 901 2 91), (91, op_istore 6 93), (93, op_aload 0 94), (94, op_getR L 4 0 97), (97, op_iload 5 99), (99, op_aald L 100), (100, op_dup 101), (101, op_getI L 1 7 104), (104, op_iload 6 106), (106, op_ii (· + ·) 107), (107, op_putI L 1 7 110), (110, op_aload 1 111), (111, op_getR L 0 3 114), (114, op_iload 5 116), (116, op_dup2 117), (117, op_iald L 118), (118, op_iload 6 120), (120, op_ii (· + ·) 121), (121, op_iast L 122), (122, op_iload 3 123), (123, op_iload 6 125), (125, op_ii (· - ·) 126), (126, op_istore 3 127), (127, op_iinc 4 1 130), (130, op_goto 38), (133, op_aload 1 134), (134, op_dup 135), (135, op_getI L 0 4 138), (138, op_iload 3 139), (139, op_ii (· + ·) 140), (140, op_putI L 0 4 143), (143, op_vret)] := ⟨sn_aald d55_73, sn_getI (by decide) fi_1_2.1 fi_1_2.2 wf_4_74 d55_74, sn_aload_n d55_77 rfl, sn_getR (by decide) fi_4_0.1 fi_4_0.2 wf_4_11 d55_78, sn_iload d55_81, sn_aald d55_83, sn_getI (by decide) fi_1_7.1 fi_1_7.2 wf_4_115 d55_84, sn_isub d55_87, sn_min wm_4_139 d55_88, sn_istore (eb_hlg (Or.inl rfl)) hn55_6 d55_91, sn_aload_n d55_93 rfl, sn_getR (by decide) fi_4_0.1 fi_4_0.2 wf_4_11 d55_94, sn_iload d55_97, sn_aald d55_99, sn_dup d55_100, sn_getI (by decide) fi_1_7.1 fi_1_7.2 wf_4_115 d55_101, sn_iload d55_104, sn_iadd d55_106, sn_putI (by decide) fi_1_7.1 fi_1_7.2 wf_4_115 (Or.inl rfl) fp_1_7 d55_107, sn_aload_n d55_110 rfl, sn_getR (by decide) fi_0_3.1 fi_0_3.2 wf_4_142 d55_111, sn_iload d55_114, sn_dup2 d55_116, sn_iald d55_117, sn_iload d55_118, sn_iadd d55_120, sn_iast d55_121, sn_iload_n d55_122 rfl, sn_iload d55_123, sn_isub d55_125, sn_istore_n (eb_hlg (Or.inl rfl)) hn55_3 d55_126 rfl, sn_iinc (eb_hlg (Or.inl rfl)) hn55_4 d55_127 (by decide), sn_goto d55_130 (by decide), sn_aload_n d55_133 rfl, sn_dup d55_134, sn_getI (by decide) fi_0_4.1 fi_0_4.2 wf_4_145 d55_135, sn_iload_n d55_138 rfl, sn_iadd d55_139, sn_putI (by decide) fi_0_4.1 fi_0_4.2 wf_4_145 (Or.inl rfl) fp_0_4 d55_140, sn_vret d55_143 rfl, trivial⟩
theorem sd55 : ∀ pc, eb_Snd L q0 55 pc (eb_lg 55) (eb_cd L 55 pc) := eb_AS_all (hk55 (L := L)) (eb_AS_app sc55_0 (sc55_1))
theorem sc56_0 : eb_AS L q0 56 (eb_lg 56) [(0, op_push (zi (-1)) 1), (1, op_istore 1 2), (2, op_push (zi 0) 3), (3, op_istore 2 4), (4, op_iload 2 5), (5, op_aload 0 6), (6, op_getI L 4 2 9), (9, op_icge 52 12), (12, op_aload 0 13), (13, op_getR L 4 0 16), (16, op_iload 2 17), (17, op_aald L 18), (18, op_call 12 1 21), (21, op_ifne 46 24), (24, op_iload 1 25), (25, op_push (zi (-1)) 26), (26, op_iceq 44 29), (29, op_aload 0 30), (30, op_getR L 4 7 33), (33, op_iload 2 34), (34, op_iald L 35), (35, op_aload 0 36), (36, op_getR L 4 7 39), (39, op_iload 1 40), (40, op_iald L 41), (41, op_icle 46 44), (44, op_iload 2 45), (45, op_istore 1 46), (46, op_iinc 2 1 49), (49, op_goto 4), (52, op_iload 1 53), (53, op_iret)] := ⟨sn_iconst d56_0 (by decide), sn_istore_n (eb_hlg (Or.inl rfl)) hn56_1 d56_1 rfl, sn_iconst d56_2 (by decide), sn_istore_n (eb_hlg (Or.inl rfl)) hn56_2 d56_3 rfl, sn_iload_n d56_4 rfl, sn_aload_n d56_5 rfl, sn_getI (by decide) fi_4_2.1 fi_4_2.2 wf_4_36 d56_6, sn_icge d56_9 (by decide), sn_aload_n d56_12 rfl, sn_getR (by decide) fi_4_0.1 fi_4_0.2 wf_4_11 d56_13, sn_iload_n d56_16 rfl, sn_aald d56_17, kV_12 wm_4_148 d56_18, sn_ifne d56_21 (by decide), sn_iload_n d56_24 rfl, sn_iconst d56_25 (by decide), sn_iceq d56_26 (by decide), sn_aload_n d56_29 rfl, sn_getR (by decide) fi_4_7.1 fi_4_7.2 wf_4_27 d56_30, sn_iload_n d56_33 rfl, sn_iald d56_34, sn_aload_n d56_35 rfl, sn_getR (by decide) fi_4_7.1 fi_4_7.2 wf_4_27 d56_36, sn_iload_n d56_39 rfl, sn_iald d56_40, sn_icle d56_41 (by decide), sn_iload_n d56_44 rfl, sn_istore_n (eb_hlg (Or.inl rfl)) hn56_1 d56_45 rfl, sn_iinc (eb_hlg (Or.inl rfl)) hn56_2 d56_46 (by decide), sn_goto d56_49 (by decide), sn_iload_n d56_52 rfl, sn_iret d56_53 rfl, trivial⟩
theorem sd56 : ∀ pc, eb_Snd L q0 56 pc (eb_lg 56) (eb_cd L 56 pc) := eb_AS_all (hk56 (L := L)) (sc56_0)
theorem sc57_0 : eb_AS L q0 57 (eb_lg 57) [(0, op_push (zi 0) 1), (1, op_istore 1 2), (2, op_push (zi 0) 3), (3, op_istore 2 4), (4, op_iload 2 5), (5, op_aload 0 6), (6, op_getI L 4 2 9), (9, op_icge 40 12), (12, op_iload 1 13), (13, op_aload 0 14), (14, op_getR L 4 0 17), (17, op_iload 2 18), (18, op_aald L 19), (19, op_call 12 1 22), (22, op_ifeq 31 25), (25, op_push (zi 1) 26), (26, op_iload 2 27), (27, op_ii (fun x y => x <<< (y &&& 31)) 28), (28, op_goto 32), (31, op_push (zi 0) 32), (32, op_ii (· ||| ·) 33), (33, op_istore 1 34), (34, op_iinc 2 1 37), (37, op_goto 4), (40, op_iload 1 41), (41, op_iret)] := ⟨sn_iconst d57_0 (by decide), sn_istore_n (eb_hlg (Or.inl rfl)) hn57_1 d57_1 rfl, sn_iconst d57_2 (by decide), sn_istore_n (eb_hlg (Or.inl rfl)) hn57_2 d57_3 rfl, sn_iload_n d57_4 rfl, sn_aload_n d57_5 rfl, sn_getI (by decide) fi_4_2.1 fi_4_2.2 wf_4_36 d57_6, sn_icge d57_9 (by decide), sn_iload_n d57_12 rfl, sn_aload_n d57_13 rfl, sn_getR (by decide) fi_4_0.1 fi_4_0.2 wf_4_11 d57_14, sn_iload_n d57_17 rfl, sn_aald d57_18, kV_12 wm_4_148 d57_19, sn_ifeq d57_22 (by decide), sn_iconst d57_25 (by decide), sn_iload_n d57_26 rfl, sn_ishl d57_27, sn_goto d57_28 (by decide), sn_iconst d57_31 (by decide), sn_ior d57_32, sn_istore_n (eb_hlg (Or.inl rfl)) hn57_1 d57_33 rfl, sn_iinc (eb_hlg (Or.inl rfl)) hn57_2 d57_34 (by decide), sn_goto d57_37 (by decide), sn_iload_n d57_40 rfl, sn_iret d57_41 rfl, trivial⟩
theorem sd57 : ∀ pc, eb_Snd L q0 57 pc (eb_lg 57) (eb_cd L 57 pc) := eb_AS_all (hk57 (L := L)) (sc57_0)
theorem sc58_0 : eb_AS L q0 58 (eb_lg 58) [(0, op_push (zi 0) 1), (1, op_istore 1 2), (2, op_push (zi 0) 3), (3, op_istore 2 4), (4, op_iload 2 5), (5, op_aload 0 6), (6, op_getI L 4 3 9), (9, op_icge 30 12), (12, op_iload 1 13), (13, op_aload 0 14), (14, op_getR L 4 1 17), (17, op_iload 2 18), (18, op_aald L 19), (19, op_getI L 0 4 22), (22, op_ii (· + ·) 23), (23, op_istore 1 24), (24, op_iinc 2 1 27), (27, op_goto 4), (30, op_iload 1 31), (31, op_iret)] := ⟨sn_iconst d58_0 (by decide), sn_istore_n (eb_hlg (Or.inl rfl)) hn58_1 d58_1 rfl, sn_iconst d58_2 (by decide), sn_istore_n (eb_hlg (Or.inl rfl)) hn58_2 d58_3 rfl, sn_iload_n d58_4 rfl, sn_aload_n d58_5 rfl, sn_getI (by decide) fi_4_3.1 fi_4_3.2 wf_4_39 d58_6, sn_icge d58_9 (by decide), sn_iload_n d58_12 rfl, sn_aload_n d58_13 rfl, sn_getR (by decide) fi_4_1.1 fi_4_1.2 wf_4_19 d58_14, sn_iload_n d58_17 rfl, sn_aald d58_18, sn_getI (by decide) fi_0_4.1 fi_0_4.2 wf_4_145 d58_19, sn_iadd d58_22, sn_istore_n (eb_hlg (Or.inl rfl)) hn58_1 d58_23 rfl, sn_iinc (eb_hlg (Or.inl rfl)) hn58_2 d58_24 (by decide), sn_goto d58_27 (by decide), sn_iload_n d58_30 rfl, sn_iret d58_31 rfl, trivial⟩
theorem sd58 : ∀ pc, eb_Snd L q0 58 pc (eb_lg 58) (eb_cd L 58 pc) := eb_AS_all (hk58 (L := L)) (sc58_0)
theorem sc59_0 : eb_AS L q0 59 (eb_lg 59) [(0, op_push (zi (-30)) 2), (2, op_aload 1 3), (3, op_getI L 0 4 6), (6, op_ii (· * ·) 7), (7, op_istore 2 8), (8, op_push (zi 0) 9), (9, op_istore 3 10), (10, op_iload 3 11), (11, op_aload 0 12), (12, op_getI L 4 2 15), (15, op_icge 43 18), (18, op_iload 2 19), (19, op_aload 1 20), (20, op_getR L 0 3 23), (23, op_iload 3 24), (24, op_iald L 25), (25, op_aload 0 26), (26, op_getR L 4 0 29), (29, op_iload 3 30), (30, op_aald L 31), (31, op_call 13 1 34), (34, op_ii (· * ·) 35), (35, op_ii (· + ·) 36), (36, op_istore 2 37), (37, op_iinc 3 1 40), (40, op_goto 10), (43, op_iload 2 44), (44, op_iret)] := ⟨sn_bipush d59_0 (by decide), sn_aload_n d59_2 rfl, sn_getI (by decide) fi_0_4.1 fi_0_4.2 wf_4_145 d59_3, sn_imul d59_6, sn_istore_n (eb_hlg (Or.inl rfl)) hn59_2 d59_7 rfl, sn_iconst d59_8 (by decide), sn_istore_n (eb_hlg (Or.inl rfl)) hn59_3 d59_9 rfl, sn_iload_n d59_10 rfl, sn_aload_n d59_11 rfl, sn_getI (by decide) fi_4_2.1 fi_4_2.2 wf_4_36 d59_12, sn_icge d59_15 (by decide), sn_iload_n d59_18 rfl, sn_aload_n d59_19 rfl, sn_getR (by decide) fi_0_3.1 fi_0_3.2 wf_4_142 d59_20, sn_iload_n d59_23 rfl, sn_iald d59_24, sn_aload_n d59_25 rfl, sn_getR (by decide) fi_4_0.1 fi_4_0.2 wf_4_11 d59_26, sn_iload_n d59_29 rfl, sn_aald d59_30, kV_13 wm_4_151 d59_31, sn_imul d59_34, sn_iadd d59_35, sn_istore_n (eb_hlg (Or.inl rfl)) hn59_2 d59_36 rfl, sn_iinc (eb_hlg (Or.inl rfl)) hn59_3 d59_37 (by decide), sn_goto d59_40 (by decide), sn_iload_n d59_43 rfl, sn_iret d59_44 rfl, trivial⟩
theorem sd59 : ∀ pc, eb_Snd L q0 59 pc (eb_lg 59) (eb_cd L 59 pc) := eb_AS_all (hk59 (L := L)) (sc59_0)
theorem sc60_0 : eb_AS L q0 60 (eb_lg 60) [(0, op_push (zi 0) 1), (1, op_istore 1 2), (2, op_push (zi 0) 3), (3, op_istore 2 4), (4, op_iload 2 5), (5, op_aload 0 6), (6, op_getI L 4 3 9), (9, op_icge 31 12), (12, op_iload 1 13), (13, op_aload 0 14), (14, op_aload 0 15), (15, op_getR L 4 1 18), (18, op_iload 2 19), (19, op_aald L 20), (20, op_call 59 2 23), (23, op_ii (· + ·) 24), (24, op_istore 1 25), (25, op_iinc 2 1 28), (28, op_goto 4), (31, op_iload 1 32), (32, op_iret)] := ⟨sn_iconst d60_0 (by decide), sn_istore_n (eb_hlg (Or.inl rfl)) hn60_1 d60_1 rfl, sn_iconst d60_2 (by decide), sn_istore_n (eb_hlg (Or.inl rfl)) hn60_2 d60_3 rfl, sn_iload_n d60_4 rfl, sn_aload_n d60_5 rfl, sn_getI (by decide) fi_4_3.1 fi_4_3.2 wf_4_39 d60_6, sn_icge d60_9 (by decide), sn_iload_n d60_12 rfl, sn_aload_n d60_13 rfl, sn_aload_n d60_14 rfl, sn_getR (by decide) fi_4_1.1 fi_4_1.2 wf_4_19 d60_15, sn_iload_n d60_18 rfl, sn_aald d60_19, kV_59 wm_4_154 d60_20, sn_iadd d60_23, sn_istore_n (eb_hlg (Or.inl rfl)) hn60_1 d60_24 rfl, sn_iinc (eb_hlg (Or.inl rfl)) hn60_2 d60_25 (by decide), sn_goto d60_28 (by decide), sn_iload_n d60_31 rfl, sn_iret d60_32 rfl, trivial⟩
theorem sd60 : ∀ pc, eb_Snd L q0 60 pc (eb_lg 60) (eb_cd L 60 pc) := eb_AS_all (hk60 (L := L)) (sc60_0)
theorem sc61_0 : eb_AS L q0 61 (eb_lg 61) [(0, op_push (zi 0) 1), (1, op_istore 2 2), (2, op_iload 2 3), (3, op_aload 0 4), (4, op_getI L 4 2 7), (7, op_icge 26 10), (10, op_aload 0 11), (11, op_getR L 4 0 14), (14, op_iload 2 15), (15, op_aald L 16), (16, op_push (zi 0) 17), (17, op_putI L 1 8 20), (20, op_iinc 2 1 23), (23, op_goto 2), (26, op_push (zi 0) 27), (27, op_istore 2 28), (28, op_iload 2 29), (29, op_aload 0 30), (30, op_getI L 4 3 33), (33, op_icge 52 36), (36, op_aload 0 37), (37, op_getR L 4 1 40), (40, op_iload 2 41), (41, op_aald L 42), (42, op_push (zi 0) 43), (43, op_putI L 0 5 46), (46, op_iinc 2 1 49), (49, op_goto 28), (52, op_push (zi 0) 53), (53, op_istore 2 54), (54, op_push (zi 0) 55), (55, op_istore 3 56), (56, op_iload 3 57), (57, op_iload 1 58), (58, op_icge 78 61), (61, op_aload 0 62), (62, op_callv 50 1 65), (65, op_iload 2 66), (66, op_aload 0 67), (67, op_call 62 1 70)] := ⟨sn_iconst d61_0 (by decide), sn_istore_n (eb_hlg (Or.inl rfl)) hn61_2 d61_1 rfl, sn_iload_n d61_2 rfl, sn_aload_n d61_3 rfl, sn_getI (by decide) fi_4_2.1 fi_4_2.2 wf_4_36 d61_4, sn_icge d61_7 (by decide), sn_aload_n d61_10 rfl, sn_getR (by decide) fi_4_0.1 fi_4_0.2 wf_4_11 d61_11, sn_iload_n d61_14 rfl, sn_aald d61_15, sn_iconst d61_16 (by decide), sn_putI (by decide) fi_1_8.1 fi_1_8.2 wf_4_157 (Or.inl rfl) fp_1_8 d61_17, sn_iinc (eb_hlg (Or.inl rfl)) hn61_2 d61_20 (by decide), sn_goto d61_23 (by decide), sn_iconst d61_26 (by decide), sn_istore_n (eb_hlg (Or.inl rfl)) hn61_2 d61_27 rfl, sn_iload_n d61_28 rfl, sn_aload_n d61_29 rfl, sn_getI (by decide) fi_4_3.1 fi_4_3.2 wf_4_39 d61_30, sn_icge d61_33 (by decide), sn_aload_n d61_36 rfl, sn_getR (by decide) fi_4_1.1 fi_4_1.2 wf_4_19 d61_37, sn_iload_n d61_40 rfl, sn_aald d61_41, sn_iconst d61_42 (by decide), sn_putI (by decide) fi_0_5.1 fi_0_5.2 wf_4_160 (Or.inl rfl) fp_0_5 d61_43, sn_iinc (eb_hlg (Or.inl rfl)) hn61_2 d61_46 (by decide), sn_goto d61_49 (by decide), sn_iconst d61_52 (by decide), sn_istore_n (eb_hlg (Or.inl rfl)) hn61_2 d61_53 rfl, sn_iconst d61_54 (by decide), sn_istore_n (eb_hlg (Or.inl rfl)) hn61_3 d61_55 rfl, sn_iload_n d61_56 rfl, sn_iload_n d61_57 rfl, sn_icge d61_58 (by decide), sn_aload_n d61_61 rfl, kV_50 wm_4_163 d61_62, sn_iload_n d61_65 rfl, sn_aload_n d61_66 rfl, kV_62 wm_4_166 d61_67, trivial⟩
theorem sc61_1 : eb_AS L q0 61 (eb_lg 61) [(70, op_ii (· + ·) 71), (71, op_istore 2 72), (72, op_iinc 3 1 75), (75, op_goto 56), (78, op_iload 2 79), (79, op_iret)] := ⟨sn_iadd d61_70, sn_istore_n (eb_hlg (Or.inl rfl)) hn61_2 d61_71 rfl, sn_iinc (eb_hlg (Or.inl rfl)) hn61_3 d61_72 (by decide), sn_goto d61_75 (by decide), sn_iload_n d61_78 rfl, sn_iret d61_79 rfl, trivial⟩
theorem sd61 : ∀ pc, eb_Snd L q0 61 pc (eb_lg 61) (eb_cd L 61 pc) := eb_AS_all (hk61 (L := L)) (eb_AS_app sc61_0 (sc61_1))
theorem sc62_0 : eb_AS L q0 62 (eb_lg 62) [(0, op_push (zi 0) 1), (1, op_istore 1 2), (2, op_push (zi 0) 3), (3, op_istore 2 4), (4, op_iload 2 5), (5, op_aload 0 6), (6, op_getI L 4 3 9), (9, op_icge 48 12), (12, op_aload 0 13), (13, op_aload 0 14), (14, op_getR L 4 1 17), (17, op_iload 2 18), (18, op_aald L 19), (19, op_call 59 2 22), (22, op_istore 3 23), (23, op_aload 0 24), (24, op_getR L 4 1 27), (27, op_iload 2 28), (28, op_aald L 29), (29, op_dup 30), (30, op_getI L 0 5 33), (33, op_iload 3 34), (34, op_ii (· + ·) 35), (35, op_putI L 0 5 38), (38, op_iload 1 39), (39, op_iload 3 40), (40, op_ii (· + ·) 41), (41, op_istore 1 42), (42, op_iinc 2 1 45), (45, op_goto 4), (48, op_push (zi 0) 49), (49, op_istore 2 50), (50, op_iload 2 51), (51, op_aload 0 52), (52, op_getI L 4 2 55), (55, op_icge 73 58), (58, op_aload 0 59), (59, op_getR L 4 0 62), (62, op_iload 2 63), (63, op_aald L 64)] := ⟨sn_iconst d62_0 (by decide), sn_istore_n (eb_hlg (Or.inl rfl)) hn62_1 d62_1 rfl, sn_iconst d62_2 (by decide), sn_istore_n (eb_hlg (Or.inl rfl)) hn62_2 d62_3 rfl, sn_iload_n d62_4 rfl, sn_aload_n d62_5 rfl, sn_getI (by decide) fi_4_3.1 fi_4_3.2 wf_4_39 d62_6, sn_icge d62_9 (by decide), sn_aload_n d62_12 rfl, sn_aload_n d62_13 rfl, sn_getR (by decide) fi_4_1.1 fi_4_1.2 wf_4_19 d62_14, sn_iload_n d62_17 rfl, sn_aald d62_18, kV_59 wm_4_154 d62_19, sn_istore_n (eb_hlg (Or.inl rfl)) hn62_3 d62_22 rfl, sn_aload_n d62_23 rfl, sn_getR (by decide) fi_4_1.1 fi_4_1.2 wf_4_19 d62_24, sn_iload_n d62_27 rfl, sn_aald d62_28, sn_dup d62_29, sn_getI (by decide) fi_0_5.1 fi_0_5.2 wf_4_160 d62_30, sn_iload_n d62_33 rfl, sn_iadd d62_34, sn_putI (by decide) fi_0_5.1 fi_0_5.2 wf_4_160 (Or.inl rfl) fp_0_5 d62_35, sn_iload_n d62_38 rfl, sn_iload_n d62_39 rfl, sn_iadd d62_40, sn_istore_n (eb_hlg (Or.inl rfl)) hn62_1 d62_41 rfl, sn_iinc (eb_hlg (Or.inl rfl)) hn62_2 d62_42 (by decide), sn_goto d62_45 (by decide), sn_iconst d62_48 (by decide), sn_istore_n (eb_hlg (Or.inl rfl)) hn62_2 d62_49 rfl, sn_iload_n d62_50 rfl, sn_aload_n d62_51 rfl, sn_getI (by decide) fi_4_2.1 fi_4_2.2 wf_4_36 d62_52, sn_icge d62_55 (by decide), sn_aload_n d62_58 rfl, sn_getR (by decide) fi_4_0.1 fi_4_0.2 wf_4_11 d62_59, sn_iload_n d62_62 rfl, sn_aald d62_63, trivial⟩
theorem sc62_1 : eb_AS L q0 62 (eb_lg 62) [(64, op_callv 15 1 67), (67, op_iinc 2 1 70), (70, op_goto 50), (73, op_aload 0 74), (74, op_push (zi 99) 76), (76, op_aload 0 77), (77, op_getI L 4 4 80), (80, op_push (zi 1) 81), (81, op_ii (· + ·) 82), (82, op_call 901 2 85), (85, op_putI L 4 4 88), (88, op_aload 0 89), (89, op_dup 90), (90, op_getI L 4 5 93), (93, op_push (zi 1) 94), (94, op_ii (· + ·) 95), (95, op_putI L 4 5 98), (98, op_iload 1 99), (99, op_iret)] := ⟨kV_15 wm_4_169 d62_64, sn_iinc (eb_hlg (Or.inl rfl)) hn62_2 d62_67 (by decide), sn_goto d62_70 (by decide), sn_aload_n d62_73 rfl, sn_bipush d62_74 (by decide), sn_aload_n d62_76 rfl, sn_getI (by decide) fi_4_4.1 fi_4_4.2 wf_4_42 d62_77, sn_iconst d62_80 (by decide), sn_iadd d62_81, sn_min wm_4_139 d62_82, sn_putI (by decide) fi_4_4.1 fi_4_4.2 wf_4_42 (Or.inl rfl) fp_4_4 d62_85, sn_aload_n d62_88 rfl, sn_dup d62_89, sn_getI (by decide) fi_4_5.1 fi_4_5.2 wf_4_45 d62_90, sn_iconst d62_93 (by decide), sn_iadd d62_94, sn_putI (by decide) fi_4_5.1 fi_4_5.2 wf_4_45 (Or.inl rfl) fp_4_5 d62_95, sn_iload_n d62_98 rfl, sn_iret d62_99 rfl, trivial⟩
theorem sd62 : ∀ pc, eb_Snd L q0 62 pc (eb_lg 62) (eb_cd L 62 pc) := eb_AS_all (hk62 (L := L)) (eb_AS_app sc62_0 (sc62_1))
end

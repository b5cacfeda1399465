/-! every row of these methods is sound: by program -/
set_option maxRecDepth 100000
theorem d95_0 : decode (eb_b 95) 0 = .ok (.aload_n 0, 1) := by decide +kernel
theorem d95_1 : decode (eb_b 95) 1 = .ok (.iload_n 1, 1) := by decide +kernel
theorem d95_2 : decode (eb_b 95) 2 = .ok (.invokevirtual 123, 3) := by decide +kernel
theorem d95_5 : decode (eb_b 95) 5 = .ok (.ifCond .eq 14, 3) := by decide +kernel
theorem d95_8 : decode (eb_b 95) 8 = .ok (.aload_n 0, 1) := by decide +kernel
theorem d95_9 : decode (eb_b 95) 9 = .ok (.getfield 10, 3) := by decide +kernel
theorem d95_12 : decode (eb_b 95) 12 = .ok (.iload_n 1, 1) := by decide +kernel
theorem d95_13 : decode (eb_b 95) 13 = .ok (.invokevirtual 225, 3) := by decide +kernel
theorem wc_49 : Cond.code (eb_y 49) (eb_b 49) (eb_ml 49) (eb_rt 49) ∈ eb_LT := eb_lt 730 (by decide +kernel)
theorem cy_49 : (eb_y 49).cls = eb_cN (eb_rc 49) ∧ (eb_y 49).cls ≠ "java/lang/invoke/MethodHandle" ∧ (eb_y 49).cls ≠ "java/lang/invoke/VarHandle" ∧ (parseMethodDescriptor (eb_y 49).desc).map (fun d => d.parameters.length) = some 1 := by decide +kernel
theorem wi_49 : Cond.instanceMethod (eb_y 49) ∈ eb_LT := eb_lt 728 (by decide +kernel)
theorem wse_49 : Cond.selects (eb_cN (eb_rc 49)) (eb_y 49) (eb_y 49) ∈ eb_LT := eb_lt 729 (by decide +kernel)
theorem kV_49 {L q0 m pc : Nat} {lg : Nat → Bool} {ix : Nat} (hw : Cond.methodLink (eb_own m) ix (eb_y 49) ∈ eb_LT) (hd : decode (eb_b m) pc = .ok (.invokevirtual ix, 3)) : eb_Snd L q0 m pc lg (op_call 49 2 (pc + 3)) := sn_callV false rfl (Or.inr ⟨rfl, _, rfl⟩) (by decide) rfl (by decide) ⟨⟨hw, wi_49, wse_49⟩, wc_49⟩ cy_49 hd
theorem wm_5_225 : Cond.methodLink (eb_cN 5) 225 (eb_y 49) ∈ eb_LT := eb_lt 727 (by decide +kernel)
theorem d95_16 : decode (eb_b 95) 16 = .ok (.goto 9, 3) := by decide +kernel
theorem d95_19 : decode (eb_b 95) 19 = .ok (.aload_n 0, 1) := by decide +kernel
theorem d95_20 : decode (eb_b 95) 20 = .ok (.bipush (-2), 2) := by decide +kernel
theorem d95_22 : decode (eb_b 95) 22 = .ok (.invokevirtual 48, 3) := by decide +kernel
theorem d95_25 : decode (eb_b 95) 25 = .ok (.ireturn, 1) := by decide +kernel
theorem d96_0 : decode (eb_b 96) 0 = .ok (.aload_n 0, 1) := by decide +kernel
theorem d96_1 : decode (eb_b 96) 1 = .ok (.iload_n 1, 1) := by decide +kernel
theorem d96_2 : decode (eb_b 96) 2 = .ok (.invokevirtual 123, 3) := by decide +kernel
theorem d96_5 : decode (eb_b 96) 5 = .ok (.ifCond .ne 10, 3) := by decide +kernel
theorem d96_8 : decode (eb_b 96) 8 = .ok (.aload_n 0, 1) := by decide +kernel
theorem d96_9 : decode (eb_b 96) 9 = .ok (.bipush (-2), 2) := by decide +kernel
theorem d96_11 : decode (eb_b 96) 11 = .ok (.invokevirtual 190, 3) := by decide +kernel
theorem d96_14 : decode (eb_b 96) 14 = .ok (.ireturn, 1) := by decide +kernel
theorem d96_15 : decode (eb_b 96) 15 = .ok (.aload_n 0, 1) := by decide +kernel
theorem d96_16 : decode (eb_b 96) 16 = .ok (.getfield 10, 3) := by decide +kernel
theorem d96_19 : decode (eb_b 96) 19 = .ok (.getfield 126, 3) := by decide +kernel
theorem d96_22 : decode (eb_b 96) 22 = .ok (.iload_n 1, 1) := by decide +kernel
theorem d96_23 : decode (eb_b 96) 23 = .ok (.aaload, 1) := by decide +kernel
theorem d96_24 : decode (eb_b 96) 24 = .ok (.getfield 150, 3) := by decide +kernel
theorem d96_27 : decode (eb_b 96) 27 = .ok (.iconst 1, 1) := by decide +kernel
theorem d96_28 : decode (eb_b 96) 28 = .ok (.if_icmp .ge 10, 3) := by decide +kernel
theorem d96_31 : decode (eb_b 96) 31 = .ok (.aload_n 0, 1) := by decide +kernel
theorem d96_32 : decode (eb_b 96) 32 = .ok (.bipush (-5), 2) := by decide +kernel
theorem d96_34 : decode (eb_b 96) 34 = .ok (.invokevirtual 190, 3) := by decide +kernel
theorem d96_37 : decode (eb_b 96) 37 = .ok (.ireturn, 1) := by decide +kernel
theorem d96_38 : decode (eb_b 96) 38 = .ok (.aload_n 0, 1) := by decide +kernel
theorem d96_39 : decode (eb_b 96) 39 = .ok (.getfield 10, 3) := by decide +kernel
theorem d96_42 : decode (eb_b 96) 42 = .ok (.getfield 126, 3) := by decide +kernel
theorem d96_45 : decode (eb_b 96) 45 = .ok (.iload_n 1, 1) := by decide +kernel
theorem d96_46 : decode (eb_b 96) 46 = .ok (.aaload, 1) := by decide +kernel
theorem d96_47 : decode (eb_b 96) 47 = .ok (.iconst 0, 1) := by decide +kernel
theorem d96_48 : decode (eb_b 96) 48 = .ok (.iconst 0, 1) := by decide +kernel
theorem d96_49 : decode (eb_b 96) 49 = .ok (.invokevirtual 228, 3) := by decide +kernel
theorem wc_11 : Cond.code (eb_y 11) (eb_b 11) (eb_ml 11) (eb_rt 11) ∈ eb_LT := eb_lt 740 (by decide +kernel)
theorem cy_11 : (eb_y 11).cls = eb_cN (eb_rc 11) ∧ (eb_y 11).cls ≠ "java/lang/invoke/MethodHandle" ∧ (eb_y 11).cls ≠ "java/lang/invoke/VarHandle" ∧ (parseMethodDescriptor (eb_y 11).desc).map (fun d => d.parameters.length) = some 2 := by decide +kernel
theorem wi_11 : Cond.instanceMethod (eb_y 11) ∈ eb_LT := eb_lt 738 (by decide +kernel)
theorem wse_11 : Cond.selects (eb_cN (eb_rc 11)) (eb_y 11) (eb_y 11) ∈ eb_LT := eb_lt 739 (by decide +kernel)
theorem kV_11 {L q0 m pc : Nat} {lg : Nat → Bool} {ix : Nat} (hw : Cond.methodLink (eb_own m) ix (eb_y 11) ∈ eb_LT) (hd : decode (eb_b m) pc = .ok (.invokevirtual ix, 3)) : eb_Snd L q0 m pc lg (op_call 11 3 (pc + 3)) := sn_callV false rfl (Or.inr ⟨rfl, _, rfl⟩) (by decide) rfl (by decide) ⟨⟨hw, wi_11, wse_11⟩, wc_11⟩ cy_11 hd
theorem wm_5_228 : Cond.methodLink (eb_cN 5) 228 (eb_y 11) ∈ eb_LT := eb_lt 737 (by decide +kernel)
theorem d96_52 : decode (eb_b 96) 52 = .ok (.ireturn, 1) := by decide +kernel
theorem d97_0 : decode (eb_b 97) 0 = .ok (.aload_n 0, 1) := by decide +kernel
theorem d97_1 : decode (eb_b 97) 1 = .ok (.getfield 10, 3) := by decide +kernel
theorem d97_4 : decode (eb_b 97) 4 = .ok (.invokevirtual 232, 3) := by decide +kernel
theorem wc_46 : Cond.code (eb_y 46) (eb_b 46) (eb_ml 46) (eb_rt 46) ∈ eb_LT := eb_lt 748 (by decide +kernel)
theorem cy_46 : (eb_y 46).cls = eb_cN (eb_rc 46) ∧ (eb_y 46).cls ≠ "java/lang/invoke/MethodHandle" ∧ (eb_y 46).cls ≠ "java/lang/invoke/VarHandle" ∧ (parseMethodDescriptor (eb_y 46).desc).map (fun d => d.parameters.length) = some 0 := by decide +kernel
theorem wi_46 : Cond.instanceMethod (eb_y 46) ∈ eb_LT := eb_lt 746 (by decide +kernel)
theorem wse_46 : Cond.selects (eb_cN (eb_rc 46)) (eb_y 46) (eb_y 46) ∈ eb_LT := eb_lt 747 (by decide +kernel)
theorem kV_46 {L q0 m pc : Nat} {lg : Nat → Bool} {ix : Nat} (hw : Cond.methodLink (eb_own m) ix (eb_y 46) ∈ eb_LT) (hd : decode (eb_b m) pc = .ok (.invokevirtual ix, 3)) : eb_Snd L q0 m pc lg (op_call 46 1 (pc + 3)) := sn_callV false rfl (Or.inr ⟨rfl, _, rfl⟩) (by decide) rfl (by decide) ⟨⟨hw, wi_46, wse_46⟩, wc_46⟩ cy_46 hd
theorem wm_5_232 : Cond.methodLink (eb_cN 5) 232 (eb_y 46) ∈ eb_LT := eb_lt 745 (by decide +kernel)
theorem d97_7 : decode (eb_b 97) 7 = .ok (.istore_n 1, 1) := by decide +kernel
theorem hn97_1 : 1 < eb_ml 97 := by decide
theorem d97_8 : decode (eb_b 97) 8 = .ok (.iload_n 1, 1) := by decide +kernel
theorem d97_9 : decode (eb_b 97) 9 = .ok (.iconst (-1), 1) := by decide +kernel
theorem d97_10 : decode (eb_b 97) 10 = .ok (.if_icmp .ne 12, 3) := by decide +kernel
theorem d97_13 : decode (eb_b 97) 13 = .ok (.aload_n 0, 1) := by decide +kernel
theorem d97_14 : decode (eb_b 97) 14 = .ok (.bipush (-5), 2) := by decide +kernel
theorem d97_16 : decode (eb_b 97) 16 = .ok (.invokevirtual 48, 3) := by decide +kernel
theorem d97_19 : decode (eb_b 97) 19 = .ok (.goto 4, 3) := by decide +kernel
theorem d97_22 : decode (eb_b 97) 22 = .ok (.iload_n 1, 1) := by decide +kernel
theorem d97_23 : decode (eb_b 97) 23 = .ok (.ireturn, 1) := by decide +kernel
theorem d98_0 : decode (eb_b 98) 0 = .ok (.iconst (-1), 1) := by decide +kernel
theorem d98_1 : decode (eb_b 98) 1 = .ok (.istore_n 1, 1) := by decide +kernel
theorem hn98_1 : 1 < eb_ml 98 := by decide
theorem d98_2 : decode (eb_b 98) 2 = .ok (.iconst (-1), 1) := by decide +kernel
theorem d98_3 : decode (eb_b 98) 3 = .ok (.istore_n 2, 1) := by decide +kernel
theorem hn98_2 : 2 < eb_ml 98 := by decide
theorem d98_4 : decode (eb_b 98) 4 = .ok (.iconst 0, 1) := by decide +kernel
theorem d98_5 : decode (eb_b 98) 5 = .ok (.istore_n 3, 1) := by decide +kernel
theorem hn98_3 : 3 < eb_ml 98 := by decide
theorem d98_6 : decode (eb_b 98) 6 = .ok (.iload_n 3, 1) := by decide +kernel
theorem d98_7 : decode (eb_b 98) 7 = .ok (.aload_n 0, 1) := by decide +kernel
theorem d98_8 : decode (eb_b 98) 8 = .ok (.getfield 10, 3) := by decide +kernel
theorem d98_11 : decode (eb_b 98) 11 = .ok (.getfield 235, 3) := by decide +kernel
theorem wf_5_235 : Cond.fieldLink (eb_cN 5) 235 (eb_tT 4 2).1 (eb_tT 4 2).2.1 (eb_tT 4 2).2.2.1 ∈ eb_LT := eb_lt 203 (by decide +kernel)
theorem d98_14 : decode (eb_b 98) 14 = .ok (.if_icmp .ge 60, 3) := by decide +kernel
theorem d98_17 : decode (eb_b 98) 17 = .ok (.aload_n 0, 1) := by decide +kernel
theorem d98_18 : decode (eb_b 98) 18 = .ok (.getfield 10, 3) := by decide +kernel
theorem d98_21 : decode (eb_b 98) 21 = .ok (.getfield 126, 3) := by decide +kernel
theorem d98_24 : decode (eb_b 98) 24 = .ok (.iload_n 3, 1) := by decide +kernel
theorem d98_25 : decode (eb_b 98) 25 = .ok (.aaload, 1) := by decide +kernel
theorem d98_26 : decode (eb_b 98) 26 = .ok (.astore 4, 2) := by decide +kernel
theorem hn98_4 : 4 < eb_ml 98 := by decide
theorem d98_28 : decode (eb_b 98) 28 = .ok (.aload 4, 2) := by decide +kernel
theorem d98_30 : decode (eb_b 98) 30 = .ok (.getfield 138, 3) := by decide +kernel
theorem d98_33 : decode (eb_b 98) 33 = .ok (.iconst (-1), 1) := by decide +kernel
theorem d98_34 : decode (eb_b 98) 34 = .ok (.if_icmp .ne 7, 3) := by decide +kernel
theorem d98_37 : decode (eb_b 98) 37 = .ok (.iconst (-1), 1) := by decide +kernel
theorem d98_38 : decode (eb_b 98) 38 = .ok (.goto 17, 3) := by decide +kernel
theorem d98_41 : decode (eb_b 98) 41 = .ok (.aload 4, 2) := by decide +kernel
theorem d98_43 : decode (eb_b 98) 43 = .ok (.getfield 138, 3) := by decide +kernel
theorem d98_46 : decode (eb_b 98) 46 = .ok (.aload 4, 2) := by decide +kernel
theorem d98_48 : decode (eb_b 98) 48 = .ok (.getfield 130, 3) := by decide +kernel
theorem d98_51 : decode (eb_b 98) 51 = .ok (.isub, 1) := by decide +kernel
theorem d98_52 : decode (eb_b 98) 52 = .ok (.invokestatic 238, 3) := by decide +kernel
theorem wm_5_238 : Cond.methodLink (eb_cN 5) 238 Lib.Math.abs.name ∈ eb_LT := eb_lt 753 (by decide +kernel)
theorem d98_55 : decode (eb_b 98) 55 = .ok (.istore 5, 2) := by decide +kernel
theorem hn98_5 : 5 < eb_ml 98 := by decide
theorem d98_57 : decode (eb_b 98) 57 = .ok (.iload 5, 2) := by decide +kernel
theorem d98_59 : decode (eb_b 98) 59 = .ok (.iload_n 2, 1) := by decide +kernel
theorem d98_60 : decode (eb_b 98) 60 = .ok (.if_icmp .le 8, 3) := by decide +kernel
theorem d98_63 : decode (eb_b 98) 63 = .ok (.iload_n 3, 1) := by decide +kernel
theorem d98_64 : decode (eb_b 98) 64 = .ok (.istore_n 1, 1) := by decide +kernel
theorem d98_65 : decode (eb_b 98) 65 = .ok (.iload 5, 2) := by decide +kernel
theorem d98_67 : decode (eb_b 98) 67 = .ok (.istore_n 2, 1) := by decide +kernel
theorem d98_68 : decode (eb_b 98) 68 = .ok (.iinc 3 1, 3) := by decide +kernel
theorem d98_71 : decode (eb_b 98) 71 = .ok (.goto (-65), 3) := by decide +kernel
theorem d98_74 : decode (eb_b 98) 74 = .ok (.iload_n 1, 1) := by decide +kernel
theorem d98_75 : decode (eb_b 98) 75 = .ok (.ireturn, 1) := by decide +kernel
theorem d99_0 : decode (eb_b 99) 0 = .ok (.aload_n 0, 1) := by decide +kernel
theorem d99_1 : decode (eb_b 99) 1 = .ok (.iload_n 1, 1) := by decide +kernel
theorem d99_2 : decode (eb_b 99) 2 = .ok (.invokevirtual 123, 3) := by decide +kernel
theorem d99_5 : decode (eb_b 99) 5 = .ok (.ifCond .ne 10, 3) := by decide +kernel
theorem d99_8 : decode (eb_b 99) 8 = .ok (.aload_n 0, 1) := by decide +kernel
theorem d99_9 : decode (eb_b 99) 9 = .ok (.bipush (-2), 2) := by decide +kernel
theorem d99_11 : decode (eb_b 99) 11 = .ok (.invokevirtual 48, 3) := by decide +kernel
theorem d99_14 : decode (eb_b 99) 14 = .ok (.ireturn, 1) := by decide +kernel
theorem d99_15 : decode (eb_b 99) 15 = .ok (.iconst 1, 1) := by decide +kernel
theorem d99_16 : decode (eb_b 99) 16 = .ok (.istore_n 2, 1) := by decide +kernel
theorem hn99_2 : 2 < eb_ml 99 := by decide
theorem d99_17 : decode (eb_b 99) 17 = .ok (.iload_n 2, 1) := by decide +kernel
theorem d99_18 : decode (eb_b 99) 18 = .ok (.bipush 20, 2) := by decide +kernel
theorem d99_20 : decode (eb_b 99) 20 = .ok (.if_icmp .gt 46, 3) := by decide +kernel
theorem d99_23 : decode (eb_b 99) 23 = .ok (.aload_n 0, 1) := by decide +kernel
theorem d99_24 : decode (eb_b 99) 24 = .ok (.invokevirtual 160, 3) := by decide +kernel
theorem d99_27 : decode (eb_b 99) 27 = .ok (.getfield 126, 3) := by decide +kernel
theorem d99_30 : decode (eb_b 99) 30 = .ok (.iload_n 1, 1) := by decide +kernel
theorem d99_31 : decode (eb_b 99) 31 = .ok (.aaload, 1) := by decide +kernel
theorem d99_32 : decode (eb_b 99) 32 = .ok (.iload_n 2, 1) := by decide +kernel
theorem d99_33 : decode (eb_b 99) 33 = .ok (.putfield 178, 3) := by decide +kernel
theorem d99_36 : decode (eb_b 99) 36 = .ok (.aload_n 0, 1) := by decide +kernel
theorem d99_37 : decode (eb_b 99) 37 = .ok (.getfield 16, 3) := by decide +kernel
theorem d99_40 : decode (eb_b 99) 40 = .ok (.invokevirtual 243, 3) := by decide +kernel
theorem wm_5_243 : Cond.methodLink (eb_cN 5) 243 (eb_y 50) ∈ eb_LT := eb_lt 637 (by decide +kernel)
theorem d99_43 : decode (eb_b 99) 43 = .ok (.aload_n 0, 1) := by decide +kernel
theorem d99_44 : decode (eb_b 99) 44 = .ok (.getfield 16, 3) := by decide +kernel
theorem d99_47 : decode (eb_b 99) 47 = .ok (.getfield 126, 3) := by decide +kernel
theorem d99_50 : decode (eb_b 99) 50 = .ok (.iload_n 1, 1) := by decide +kernel
theorem d99_51 : decode (eb_b 99) 51 = .ok (.aaload, 1) := by decide +kernel
theorem d99_52 : decode (eb_b 99) 52 = .ok (.invokevirtual 246, 3) := by decide +kernel
theorem wm_5_246 : Cond.methodLink (eb_cN 5) 246 (eb_y 12) ∈ eb_LT := eb_lt 760 (by decide +kernel)
theorem d99_55 : decode (eb_b 99) 55 = .ok (.ifCond .ne 5, 3) := by decide +kernel
theorem d99_58 : decode (eb_b 99) 58 = .ok (.iload_n 2, 1) := by decide +kernel
theorem d99_59 : decode (eb_b 99) 59 = .ok (.ireturn, 1) := by decide +kernel
theorem d99_60 : decode (eb_b 99) 60 = .ok (.iinc 2 1, 3) := by decide +kernel
theorem d99_63 : decode (eb_b 99) 63 = .ok (.goto (-46), 3) := by decide +kernel
theorem d99_66 : decode (eb_b 99) 66 = .ok (.iconst (-1), 1) := by decide +kernel
theorem d99_67 : decode (eb_b 99) 67 = .ok (.ireturn, 1) := by decide +kernel
theorem d100_0 : decode (eb_b 100) 0 = .ok (.aload_n 0, 1) := by decide +kernel
theorem d100_1 : decode (eb_b 100) 1 = .ok (.iload_n 1, 1) := by decide +kernel
theorem d100_2 : decode (eb_b 100) 2 = .ok (.invokevirtual 94, 3) := by decide +kernel
theorem d100_5 : decode (eb_b 100) 5 = .ok (.ifCond .ne 10, 3) := by decide +kernel
theorem d100_8 : decode (eb_b 100) 8 = .ok (.aload_n 0, 1) := by decide +kernel
theorem d100_9 : decode (eb_b 100) 9 = .ok (.bipush (-2), 2) := by decide +kernel
theorem d100_11 : decode (eb_b 100) 11 = .ok (.invokevirtual 48, 3) := by decide +kernel
theorem d100_14 : decode (eb_b 100) 14 = .ok (.ireturn, 1) := by decide +kernel
theorem d100_15 : decode (eb_b 100) 15 = .ok (.iconst (-1), 1) := by decide +kernel
theorem d100_16 : decode (eb_b 100) 16 = .ok (.istore_n 2, 1) := by decide +kernel
theorem hn100_2 : 2 < eb_ml 100 := by decide
theorem d100_17 : decode (eb_b 100) 17 = .ok (.iconst 0, 1) := by decide +kernel
theorem d100_18 : decode (eb_b 100) 18 = .ok (.istore_n 3, 1) := by decide +kernel
theorem hn100_3 : 3 < eb_ml 100 := by decide
theorem d100_19 : decode (eb_b 100) 19 = .ok (.iconst 0, 1) := by decide +kernel
theorem d100_20 : decode (eb_b 100) 20 = .ok (.istore 4, 2) := by decide +kernel
theorem hn100_4 : 4 < eb_ml 100 := by decide
theorem d100_22 : decode (eb_b 100) 22 = .ok (.iload 4, 2) := by decide +kernel
theorem d100_24 : decode (eb_b 100) 24 = .ok (.bipush 6, 2) := by decide +kernel
theorem d100_26 : decode (eb_b 100) 26 = .ok (.if_icmp .ge 65, 3) := by decide +kernel
theorem d100_29 : decode (eb_b 100) 29 = .ok (.aload_n 0, 1) := by decide +kernel
theorem d100_30 : decode (eb_b 100) 30 = .ok (.invokevirtual 160, 3) := by decide +kernel
theorem d100_33 : decode (eb_b 100) 33 = .ok (.getfield 97, 3) := by decide +kernel
theorem d100_36 : decode (eb_b 100) 36 = .ok (.iload_n 1, 1) := by decide +kernel
theorem d100_37 : decode (eb_b 100) 37 = .ok (.aaload, 1) := by decide +kernel
theorem d100_38 : decode (eb_b 100) 38 = .ok (.iload 4, 2) := by decide +kernel
theorem d100_40 : decode (eb_b 100) 40 = .ok (.putfield 184, 3) := by decide +kernel
theorem d100_43 : decode (eb_b 100) 43 = .ok (.aload_n 0, 1) := by decide +kernel
theorem d100_44 : decode (eb_b 100) 44 = .ok (.getfield 16, 3) := by decide +kernel
theorem d100_47 : decode (eb_b 100) 47 = .ok (.invokevirtual 243, 3) := by decide +kernel
theorem d100_50 : decode (eb_b 100) 50 = .ok (.aload_n 0, 1) := by decide +kernel
theorem d100_51 : decode (eb_b 100) 51 = .ok (.getfield 16, 3) := by decide +kernel
theorem d100_54 : decode (eb_b 100) 54 = .ok (.aload_n 0, 1) := by decide +kernel
theorem d100_55 : decode (eb_b 100) 55 = .ok (.getfield 16, 3) := by decide +kernel
theorem d100_58 : decode (eb_b 100) 58 = .ok (.getfield 97, 3) := by decide +kernel
theorem d100_61 : decode (eb_b 100) 61 = .ok (.iload_n 1, 1) := by decide +kernel
theorem d100_62 : decode (eb_b 100) 62 = .ok (.aaload, 1) := by decide +kernel
theorem d100_63 : decode (eb_b 100) 63 = .ok (.invokevirtual 219, 3) := by decide +kernel
theorem d100_66 : decode (eb_b 100) 66 = .ok (.istore 5, 2) := by decide +kernel
theorem hn100_5 : 5 < eb_ml 100 := by decide
theorem d100_68 : decode (eb_b 100) 68 = .ok (.iload_n 2, 1) := by decide +kernel
theorem d100_69 : decode (eb_b 100) 69 = .ok (.iconst (-1), 1) := by decide +kernel
theorem d100_70 : decode (eb_b 100) 70 = .ok (.if_icmp .eq 9, 3) := by decide +kernel
theorem d100_73 : decode (eb_b 100) 73 = .ok (.iload 5, 2) := by decide +kernel
theorem d100_75 : decode (eb_b 100) 75 = .ok (.iload_n 3, 1) := by decide +kernel
theorem d100_76 : decode (eb_b 100) 76 = .ok (.if_icmp .le 9, 3) := by decide +kernel
theorem d100_79 : decode (eb_b 100) 79 = .ok (.iload 4, 2) := by decide +kernel
theorem d100_81 : decode (eb_b 100) 81 = .ok (.istore_n 2, 1) := by decide +kernel
theorem d100_82 : decode (eb_b 100) 82 = .ok (.iload 5, 2) := by decide +kernel
theorem d100_84 : decode (eb_b 100) 84 = .ok (.istore_n 3, 1) := by decide +kernel
theorem d100_85 : decode (eb_b 100) 85 = .ok (.iinc 4 1, 3) := by decide +kernel
theorem d100_88 : decode (eb_b 100) 88 = .ok (.goto (-66), 3) := by decide +kernel
theorem d100_91 : decode (eb_b 100) 91 = .ok (.iload_n 2, 1) := by decide +kernel
theorem d100_92 : decode (eb_b 100) 92 = .ok (.ireturn, 1) := by decide +kernel
theorem d101_0 : decode (eb_b 101) 0 = .ok (.aload_n 0, 1) := by decide +kernel
theorem d101_1 : decode (eb_b 101) 1 = .ok (.iload_n 1, 1) := by decide +kernel
theorem d101_2 : decode (eb_b 101) 2 = .ok (.invokevirtual 123, 3) := by decide +kernel
theorem d101_5 : decode (eb_b 101) 5 = .ok (.ifCond .ne 10, 3) := by decide +kernel
theorem d101_8 : decode (eb_b 101) 8 = .ok (.aload_n 0, 1) := by decide +kernel
theorem d101_9 : decode (eb_b 101) 9 = .ok (.bipush (-2), 2) := by decide +kernel
theorem d101_11 : decode (eb_b 101) 11 = .ok (.invokevirtual 48, 3) := by decide +kernel
theorem d101_14 : decode (eb_b 101) 14 = .ok (.ireturn, 1) := by decide +kernel
theorem d101_15 : decode (eb_b 101) 15 = .ok (.aload_n 0, 1) := by decide +kernel
theorem d101_16 : decode (eb_b 101) 16 = .ok (.invokevirtual 160, 3) := by decide +kernel
theorem d101_19 : decode (eb_b 101) 19 = .ok (.pop, 1) := by decide +kernel
theorem d101_20 : decode (eb_b 101) 20 = .ok (.bipush 99, 2) := by decide +kernel
theorem d101_22 : decode (eb_b 101) 22 = .ok (.istore_n 2, 1) := by decide +kernel
theorem hn101_2 : 2 < eb_ml 101 := by decide
theorem d101_23 : decode (eb_b 101) 23 = .ok (.iload_n 2, 1) := by decide +kernel
theorem d101_24 : decode (eb_b 101) 24 = .ok (.ifCond .lt 30, 3) := by decide +kernel
theorem d101_27 : decode (eb_b 101) 27 = .ok (.aload_n 0, 1) := by decide +kernel
theorem d101_28 : decode (eb_b 101) 28 = .ok (.getfield 16, 3) := by decide +kernel
theorem d101_31 : decode (eb_b 101) 31 = .ok (.iload_n 2, 1) := by decide +kernel
theorem d101_32 : decode (eb_b 101) 32 = .ok (.putfield 153, 3) := by decide +kernel
theorem d101_35 : decode (eb_b 101) 35 = .ok (.aload_n 0, 1) := by decide +kernel
theorem d101_36 : decode (eb_b 101) 36 = .ok (.getfield 16, 3) := by decide +kernel
theorem d101_39 : decode (eb_b 101) 39 = .ok (.iload_n 1, 1) := by decide +kernel
theorem d101_40 : decode (eb_b 101) 40 = .ok (.invokevirtual 225, 3) := by decide +kernel
theorem d101_43 : decode (eb_b 101) 43 = .ok (.ifCond .le 5, 3) := by decide +kernel
theorem d101_46 : decode (eb_b 101) 46 = .ok (.iload_n 2, 1) := by decide +kernel
theorem d101_47 : decode (eb_b 101) 47 = .ok (.ireturn, 1) := by decide +kernel
theorem d101_48 : decode (eb_b 101) 48 = .ok (.iinc 2 (-1), 3) := by decide +kernel
theorem d101_51 : decode (eb_b 101) 51 = .ok (.goto (-28), 3) := by decide +kernel
theorem d101_54 : decode (eb_b 101) 54 = .ok (.iconst (-1), 1) := by decide +kernel
theorem d101_55 : decode (eb_b 101) 55 = .ok (.ireturn, 1) := by decide +kernel
theorem d102_0 : decode (eb_b 102) 0 = .ok (.aload_n 0, 1) := by decide +kernel
theorem d102_1 : decode (eb_b 102) 1 = .ok (.iload_n 1, 1) := by decide +kernel
theorem d102_2 : decode (eb_b 102) 2 = .ok (.invokevirtual 94, 3) := by decide +kernel
theorem d102_5 : decode (eb_b 102) 5 = .ok (.ifCond .ne 10, 3) := by decide +kernel
theorem d102_8 : decode (eb_b 102) 8 = .ok (.aload_n 0, 1) := by decide +kernel
theorem d102_9 : decode (eb_b 102) 9 = .ok (.bipush (-2), 2) := by decide +kernel
theorem d102_11 : decode (eb_b 102) 11 = .ok (.invokevirtual 48, 3) := by decide +kernel
theorem d102_14 : decode (eb_b 102) 14 = .ok (.ireturn, 1) := by decide +kernel
theorem d102_15 : decode (eb_b 102) 15 = .ok (.aload_n 0, 1) := by decide +kernel
theorem d102_16 : decode (eb_b 102) 16 = .ok (.getfield 10, 3) := by decide +kernel
theorem d102_19 : decode (eb_b 102) 19 = .ok (.invokevirtual 232, 3) := by decide +kernel
theorem d102_22 : decode (eb_b 102) 22 = .ok (.istore_n 2, 1) := by decide +kernel
theorem hn102_2 : 2 < eb_ml 102 := by decide
theorem d102_23 : decode (eb_b 102) 23 = .ok (.aload_n 0, 1) := by decide +kernel
theorem d102_24 : decode (eb_b 102) 24 = .ok (.getfield 10, 3) := by decide +kernel
theorem d102_27 : decode (eb_b 102) 27 = .ok (.getfield 97, 3) := by decide +kernel
theorem d102_30 : decode (eb_b 102) 30 = .ok (.iload_n 1, 1) := by decide +kernel
theorem d102_31 : decode (eb_b 102) 31 = .ok (.aaload, 1) := by decide +kernel
theorem d102_32 : decode (eb_b 102) 32 = .ok (.getfield 106, 3) := by decide +kernel
theorem d102_35 : decode (eb_b 102) 35 = .ok (.istore_n 3, 1) := by decide +kernel
theorem hn102_3 : 3 < eb_ml 102 := by decide
theorem d102_36 : decode (eb_b 102) 36 = .ok (.aload_n 0, 1) := by decide +kernel
theorem d102_37 : decode (eb_b 102) 37 = .ok (.iload_n 2, 1) := by decide +kernel
theorem d102_38 : decode (eb_b 102) 38 = .ok (.invokevirtual 123, 3) := by decide +kernel
theorem d102_41 : decode (eb_b 102) 41 = .ok (.ifCond .eq 8, 3) := by decide +kernel
theorem d102_44 : decode (eb_b 102) 44 = .ok (.iload_n 3, 1) := by decide +kernel
theorem d102_45 : decode (eb_b 102) 45 = .ok (.iconst 1, 1) := by decide +kernel
theorem d102_46 : decode (eb_b 102) 46 = .ok (.if_icmp .ge 10, 3) := by decide +kernel
theorem d102_49 : decode (eb_b 102) 49 = .ok (.aload_n 0, 1) := by decide +kernel
theorem d102_50 : decode (eb_b 102) 50 = .ok (.bipush (-5), 2) := by decide +kernel
theorem d102_52 : decode (eb_b 102) 52 = .ok (.invokevirtual 48, 3) := by decide +kernel
theorem d102_55 : decode (eb_b 102) 55 = .ok (.ireturn, 1) := by decide +kernel
theorem d102_56 : decode (eb_b 102) 56 = .ok (.bipush 100, 2) := by decide +kernel
theorem d102_58 : decode (eb_b 102) 58 = .ok (.aload_n 0, 1) := by decide +kernel
theorem d102_59 : decode (eb_b 102) 59 = .ok (.invokevirtual 197, 3) := by decide +kernel
theorem d102_62 : decode (eb_b 102) 62 = .ok (.getfield 97, 3) := by decide +kernel
theorem d102_65 : decode (eb_b 102) 65 = .ok (.iload_n 1, 1) := by decide +kernel
theorem d102_66 : decode (eb_b 102) 66 = .ok (.aaload, 1) := by decide +kernel
theorem d102_67 : decode (eb_b 102) 67 = .ok (.getfield 200, 3) := by decide +kernel
theorem d102_70 : decode (eb_b 102) 70 = .ok (.iload_n 2, 1) := by decide +kernel
theorem d102_71 : decode (eb_b 102) 71 = .ok (.iaload, 1) := by decide +kernel
theorem d102_72 : decode (eb_b 102) 72 = .ok (.imul, 1) := by decide +kernel
theorem d102_73 : decode (eb_b 102) 73 = .ok (.iload_n 3, 1) := by decide +kernel
theorem d102_74 : decode (eb_b 102) 74 = .ok (.idiv, 1) := by decide +kernel
theorem d102_75 : decode (eb_b 102) 75 = .ok (.ireturn, 1) := by decide +kernel
theorem d103_0 : decode (eb_b 103) 0 = .ok (.aload_n 0, 1) := by decide +kernel
theorem d103_1 : decode (eb_b 103) 1 = .ok (.iload_n 1, 1) := by decide +kernel
theorem d103_2 : decode (eb_b 103) 2 = .ok (.invokevirtual 123, 3) := by decide +kernel
theorem d103_5 : decode (eb_b 103) 5 = .ok (.ifCond .eq 20, 3) := by decide +kernel
theorem d103_8 : decode (eb_b 103) 8 = .ok (.iload_n 2, 1) := by decide +kernel
theorem d103_9 : decode (eb_b 103) 9 = .ok (.iconst 1, 1) := by decide +kernel
theorem d103_10 : decode (eb_b 103) 10 = .ok (.bipush 40, 2) := by decide +kernel
theorem d103_12 : decode (eb_b 103) 12 = .ok (.invokestatic 44, 3) := by decide +kernel
theorem d103_15 : decode (eb_b 103) 15 = .ok (.ifCond .eq 10, 3) := by decide +kernel
theorem d103_18 : decode (eb_b 103) 18 = .ok (.iload_n 3, 1) := by decide +kernel
theorem d103_19 : decode (eb_b 103) 19 = .ok (.invokestatic 113, 3) := by decide +kernel
theorem d103_22 : decode (eb_b 103) 22 = .ok (.ifCond .ne 10, 3) := by decide +kernel
theorem d103_25 : decode (eb_b 103) 25 = .ok (.aload_n 0, 1) := by decide +kernel
theorem d103_26 : decode (eb_b 103) 26 = .ok (.bipush (-2), 2) := by decide +kernel
theorem d103_28 : decode (eb_b 103) 28 = .ok (.invokevirtual 190, 3) := by decide +kernel
theorem d103_31 : decode (eb_b 103) 31 = .ok (.ireturn, 1) := by decide +kernel
theorem d103_32 : decode (eb_b 103) 32 = .ok (.aload_n 0, 1) := by decide +kernel
theorem d103_33 : decode (eb_b 103) 33 = .ok (.getfield 10, 3) := by decide +kernel
theorem d103_36 : decode (eb_b 103) 36 = .ok (.getfield 126, 3) := by decide +kernel
theorem d103_39 : decode (eb_b 103) 39 = .ok (.iload_n 1, 1) := by decide +kernel
theorem d103_40 : decode (eb_b 103) 40 = .ok (.aaload, 1) := by decide +kernel
theorem d103_41 : decode (eb_b 103) 41 = .ok (.iload_n 2, 1) := by decide +kernel
theorem d103_42 : decode (eb_b 103) 42 = .ok (.iload_n 3, 1) := by decide +kernel
theorem d103_43 : decode (eb_b 103) 43 = .ok (.invokevirtual 228, 3) := by decide +kernel
theorem d103_46 : decode (eb_b 103) 46 = .ok (.ireturn, 1) := by decide +kernel
theorem d104_0 : decode (eb_b 104) 0 = .ok (.aload_n 0, 1) := by decide +kernel
theorem d104_1 : decode (eb_b 104) 1 = .ok (.iload_n 1, 1) := by decide +kernel
theorem d104_2 : decode (eb_b 104) 2 = .ok (.invokevirtual 141, 3) := by decide +kernel
theorem d104_5 : decode (eb_b 104) 5 = .ok (.ifCond .eq 11, 3) := by decide +kernel
theorem d104_8 : decode (eb_b 104) 8 = .ok (.aload_n 0, 1) := by decide +kernel
theorem d104_9 : decode (eb_b 104) 9 = .ok (.iload_n 2, 1) := by decide +kernel
theorem d104_10 : decode (eb_b 104) 10 = .ok (.invokevirtual 141, 3) := by decide +kernel
theorem d104_13 : decode (eb_b 104) 13 = .ok (.ifCond .ne 10, 3) := by decide +kernel
theorem d104_16 : decode (eb_b 104) 16 = .ok (.aload_n 0, 1) := by decide +kernel
theorem d104_17 : decode (eb_b 104) 17 = .ok (.bipush (-2), 2) := by decide +kernel
theorem d104_19 : decode (eb_b 104) 19 = .ok (.invokevirtual 190, 3) := by decide +kernel
theorem d104_22 : decode (eb_b 104) 22 = .ok (.ireturn, 1) := by decide +kernel
theorem d104_23 : decode (eb_b 104) 23 = .ok (.aload_n 0, 1) := by decide +kernel
theorem d104_24 : decode (eb_b 104) 24 = .ok (.invokevirtual 160, 3) := by decide +kernel
theorem d104_27 : decode (eb_b 104) 27 = .ok (.iload_n 1, 1) := by decide +kernel
theorem d104_28 : decode (eb_b 104) 28 = .ok (.iload_n 2, 1) := by decide +kernel
theorem d104_29 : decode (eb_b 104) 29 = .ok (.invokevirtual 249, 3) := by decide +kernel
theorem wc_51 : Cond.code (eb_y 51) (eb_b 51) (eb_ml 51) (eb_rt 51) ∈ eb_LT := eb_lt 784 (by decide +kernel)
theorem cy_51 : (eb_y 51).cls = eb_cN (eb_rc 51) ∧ (eb_y 51).cls ≠ "java/lang/invoke/MethodHandle" ∧ (eb_y 51).cls ≠ "java/lang/invoke/VarHandle" ∧ (parseMethodDescriptor (eb_y 51).desc).map (fun d => d.parameters.length) = some 2 := by decide +kernel
theorem wi_51 : Cond.instanceMethod (eb_y 51) ∈ eb_LT := eb_lt 782 (by decide +kernel)
theorem wse_51 : Cond.selects (eb_cN (eb_rc 51)) (eb_y 51) (eb_y 51) ∈ eb_LT := eb_lt 783 (by decide +kernel)
theorem kV_51 {L q0 m pc : Nat} {lg : Nat → Bool} {ix : Nat} (hw : Cond.methodLink (eb_own m) ix (eb_y 51) ∈ eb_LT) (hd : decode (eb_b m) pc = .ok (.invokevirtual ix, 3)) : eb_Snd L q0 m pc lg (op_callv 51 3 (pc + 3)) := sn_callV true rfl (Or.inl ⟨rfl, rfl⟩) (by decide) rfl (by decide) ⟨⟨hw, wi_51, wse_51⟩, wc_51⟩ cy_51 hd
theorem wm_5_249 : Cond.methodLink (eb_cN 5) 249 (eb_y 51) ∈ eb_LT := eb_lt 781 (by decide +kernel)
theorem d104_32 : decode (eb_b 104) 32 = .ok (.aload_n 0, 1) := by decide +kernel
theorem d104_33 : decode (eb_b 104) 33 = .ok (.getfield 16, 3) := by decide +kernel
theorem d104_36 : decode (eb_b 104) 36 = .ok (.invokevirtual 216, 3) := by decide +kernel
theorem d104_39 : decode (eb_b 104) 39 = .ok (.ireturn, 1) := by decide +kernel
theorem d105_0 : decode (eb_b 105) 0 = .ok (.aload_n 0, 1) := by decide +kernel
theorem d105_1 : decode (eb_b 105) 1 = .ok (.iload_n 1, 1) := by decide +kernel
theorem d105_2 : decode (eb_b 105) 2 = .ok (.invokevirtual 56, 3) := by decide +kernel
theorem d105_5 : decode (eb_b 105) 5 = .ok (.istore_n 2, 1) := by decide +kernel
theorem hn105_2 : 2 < eb_ml 105 := by decide
theorem d105_6 : decode (eb_b 105) 6 = .ok (.iload_n 2, 1) := by decide +kernel
theorem d105_7 : decode (eb_b 105) 7 = .ok (.ifCond .eq 9, 3) := by decide +kernel
theorem d105_10 : decode (eb_b 105) 10 = .ok (.aload_n 0, 1) := by decide +kernel
theorem d105_11 : decode (eb_b 105) 11 = .ok (.iload_n 2, 1) := by decide +kernel
theorem d105_12 : decode (eb_b 105) 12 = .ok (.invokevirtual 48, 3) := by decide +kernel
theorem d105_15 : decode (eb_b 105) 15 = .ok (.ireturn, 1) := by decide +kernel
theorem d105_16 : decode (eb_b 105) 16 = .ok (.aload_n 0, 1) := by decide +kernel
theorem d105_17 : decode (eb_b 105) 17 = .ok (.getfield 24, 3) := by decide +kernel
theorem d105_20 : decode (eb_b 105) 20 = .ok (.iload_n 1, 1) := by decide +kernel
theorem d105_21 : decode (eb_b 105) 21 = .ok (.aaload, 1) := by decide +kernel
theorem d105_22 : decode (eb_b 105) 22 = .ok (.astore_n 3, 1) := by decide +kernel
theorem hn105_3 : 3 < eb_ml 105 := by decide
theorem d105_23 : decode (eb_b 105) 23 = .ok (.aload_n 3, 1) := by decide +kernel
theorem d105_24 : decode (eb_b 105) 24 = .ok (.getfield 59, 3) := by decide +kernel
theorem d105_27 : decode (eb_b 105) 27 = .ok (.aload_n 0, 1) := by decide +kernel
theorem d105_28 : decode (eb_b 105) 28 = .ok (.getfield 10, 3) := by decide +kernel
theorem d105_31 : decode (eb_b 105) 31 = .ok (.getfield 252, 3) := by decide +kernel
theorem wf_5_252 : Cond.fieldLink (eb_cN 5) 252 (eb_tT 4 3).1 (eb_tT 4 3).2.1 (eb_tT 4 3).2.2.1 ∈ eb_LT := eb_lt 206 (by decide +kernel)
theorem d105_34 : decode (eb_b 105) 34 = .ok (.aload_n 0, 1) := by decide +kernel
theorem d105_35 : decode (eb_b 105) 35 = .ok (.getfield 10, 3) := by decide +kernel
theorem d105_38 : decode (eb_b 105) 38 = .ok (.getfield 235, 3) := by decide +kernel
theorem d105_41 : decode (eb_b 105) 41 = .ok (.imul, 1) := by decide +kernel
theorem d105_42 : decode (eb_b 105) 42 = .ok (.if_icmp .ge 10, 3) := by decide +kernel
theorem d105_45 : decode (eb_b 105) 45 = .ok (.aload_n 0, 1) := by decide +kernel
theorem d105_46 : decode (eb_b 105) 46 = .ok (.bipush (-2), 2) := by decide +kernel
theorem d105_48 : decode (eb_b 105) 48 = .ok (.invokevirtual 48, 3) := by decide +kernel
theorem d105_51 : decode (eb_b 105) 51 = .ok (.ireturn, 1) := by decide +kernel
theorem d105_52 : decode (eb_b 105) 52 = .ok (.aload_n 0, 1) := by decide +kernel
theorem d105_53 : decode (eb_b 105) 53 = .ok (.getfield 10, 3) := by decide +kernel
theorem d105_56 : decode (eb_b 105) 56 = .ok (.invokevirtual 243, 3) := by decide +kernel
theorem d105_59 : decode (eb_b 105) 59 = .ok (.iconst 0, 1) := by decide +kernel
theorem d105_60 : decode (eb_b 105) 60 = .ok (.istore 4, 2) := by decide +kernel
theorem hn105_4 : 4 < eb_ml 105 := by decide
theorem d105_62 : decode (eb_b 105) 62 = .ok (.iconst 0, 1) := by decide +kernel
theorem d105_63 : decode (eb_b 105) 63 = .ok (.istore 5, 2) := by decide +kernel
theorem hn105_5 : 5 < eb_ml 105 := by decide
theorem d105_65 : decode (eb_b 105) 65 = .ok (.iload 5, 2) := by decide +kernel
theorem d105_67 : decode (eb_b 105) 67 = .ok (.aload_n 0, 1) := by decide +kernel
theorem d105_68 : decode (eb_b 105) 68 = .ok (.getfield 10, 3) := by decide +kernel
theorem d105_71 : decode (eb_b 105) 71 = .ok (.getfield 252, 3) := by decide +kernel
theorem d105_74 : decode (eb_b 105) 74 = .ok (.if_icmp .ge 64, 3) := by decide +kernel
theorem d105_77 : decode (eb_b 105) 77 = .ok (.iconst 0, 1) := by decide +kernel
theorem d105_78 : decode (eb_b 105) 78 = .ok (.istore 6, 2) := by decide +kernel
theorem hn105_6 : 6 < eb_ml 105 := by decide
theorem d105_80 : decode (eb_b 105) 80 = .ok (.iload 6, 2) := by decide +kernel
theorem d105_82 : decode (eb_b 105) 82 = .ok (.aload_n 0, 1) := by decide +kernel
theorem d105_83 : decode (eb_b 105) 83 = .ok (.getfield 10, 3) := by decide +kernel
theorem d105_86 : decode (eb_b 105) 86 = .ok (.getfield 235, 3) := by decide +kernel
theorem d105_89 : decode (eb_b 105) 89 = .ok (.if_icmp .ge 43, 3) := by decide +kernel
theorem d105_92 : decode (eb_b 105) 92 = .ok (.aload_n 3, 1) := by decide +kernel
theorem d105_93 : decode (eb_b 105) 93 = .ok (.getfield 78, 3) := by decide +kernel
theorem d105_96 : decode (eb_b 105) 96 = .ok (.iload 4, 2) := by decide +kernel
theorem d105_98 : decode (eb_b 105) 98 = .ok (.laload, 1) := by decide +kernel
theorem d105_99 : decode (eb_b 105) 99 = .ok (.aload_n 0, 1) := by decide +kernel
theorem d105_100 : decode (eb_b 105) 100 = .ok (.getfield 10, 3) := by decide +kernel
theorem d105_103 : decode (eb_b 105) 103 = .ok (.getfield 97, 3) := by decide +kernel
theorem d105_106 : decode (eb_b 105) 106 = .ok (.iload 5, 2) := by decide +kernel
theorem d105_108 : decode (eb_b 105) 108 = .ok (.aaload, 1) := by decide +kernel
theorem d105_109 : decode (eb_b 105) 109 = .ok (.getfield 200, 3) := by decide +kernel
theorem d105_112 : decode (eb_b 105) 112 = .ok (.iload 6, 2) := by decide +kernel
theorem d105_114 : decode (eb_b 105) 114 = .ok (.iaload, 1) := by decide +kernel
theorem d105_115 : decode (eb_b 105) 115 = .ok (.i2l, 1) := by decide +kernel
theorem d105_116 : decode (eb_b 105) 116 = .ok (.lcmp, 1) := by decide +kernel
theorem d105_117 : decode (eb_b 105) 117 = .ok (.ifCond .eq 6, 3) := by decide +kernel
theorem d105_120 : decode (eb_b 105) 120 = .ok (.iload 4, 2) := by decide +kernel
theorem d105_122 : decode (eb_b 105) 122 = .ok (.ireturn, 1) := by decide +kernel
theorem d105_123 : decode (eb_b 105) 123 = .ok (.iinc 4 1, 3) := by decide +kernel
theorem d105_126 : decode (eb_b 105) 126 = .ok (.iinc 6 1, 3) := by decide +kernel
theorem d105_129 : decode (eb_b 105) 129 = .ok (.goto (-49), 3) := by decide +kernel
theorem d105_132 : decode (eb_b 105) 132 = .ok (.iinc 5 1, 3) := by decide +kernel
theorem d105_135 : decode (eb_b 105) 135 = .ok (.goto (-70), 3) := by decide +kernel
theorem d105_138 : decode (eb_b 105) 138 = .ok (.iconst (-1), 1) := by decide +kernel
theorem d105_139 : decode (eb_b 105) 139 = .ok (.ireturn, 1) := by decide +kernel
theorem d106_0 : decode (eb_b 106) 0 = .ok (.iload_n 1, 1) := by decide +kernel
theorem d106_1 : decode (eb_b 106) 1 = .ok (.invokestatic 255, 3) := by decide +kernel
theorem wc_130 : Cond.code (eb_y 130) (eb_b 130) (eb_ml 130) (eb_rt 130) ∈ eb_LT := eb_lt 796 (by decide +kernel)
theorem cy_130 : (eb_y 130).cls ≠ "java/lang/invoke/MethodHandle" ∧ (eb_y 130).cls ≠ "java/lang/invoke/VarHandle" ∧ (parseMethodDescriptor (eb_y 130).desc).map (fun d => d.parameters.length) = some 1 := by decide +kernel
theorem wst_130 : Cond.static (eb_y 130) ∈ eb_LT := eb_lt 795 (by decide +kernel)
theorem wn_130 : Cond.initialized (eb_y 130).cls ∈ eb_LT := eb_lt 77 (by decide +kernel)
theorem kS_130 {L q0 m pc : Nat} {lg : Nat → Bool} {ix : Nat} (hw : Cond.methodLink (eb_own m) ix (eb_y 130) ∈ eb_LT) (hd : decode (eb_b m) pc = .ok (.invokestatic ix, 3)) : eb_Snd L q0 m pc lg (op_call 130 1 (pc + 3)) := sn_callS false rfl (Or.inr ⟨rfl, _, rfl⟩) (by decide) ⟨⟨hw, wst_130, wn_130⟩, wc_130⟩ cy_130 hd
theorem wm_5_255 : Cond.methodLink (eb_cN 5) 255 (eb_y 130) ∈ eb_LT := eb_lt 794 (by decide +kernel)
theorem d106_4 : decode (eb_b 106) 4 = .ok (.ifCond .eq 11, 3) := by decide +kernel
theorem d106_7 : decode (eb_b 106) 7 = .ok (.aload_n 0, 1) := by decide +kernel
theorem d106_8 : decode (eb_b 106) 8 = .ok (.iload_n 2, 1) := by decide +kernel
theorem d106_9 : decode (eb_b 106) 9 = .ok (.invokevirtual 91, 3) := by decide +kernel
theorem d106_12 : decode (eb_b 106) 12 = .ok (.ifCond .ne 10, 3) := by decide +kernel
theorem d106_15 : decode (eb_b 106) 15 = .ok (.aload_n 0, 1) := by decide +kernel
theorem d106_16 : decode (eb_b 106) 16 = .ok (.bipush (-2), 2) := by decide +kernel
theorem d106_18 : decode (eb_b 106) 18 = .ok (.invokevirtual 190, 3) := by decide +kernel
theorem d106_21 : decode (eb_b 106) 21 = .ok (.ireturn, 1) := by decide +kernel
theorem d106_22 : decode (eb_b 106) 22 = .ok (.aload_n 0, 1) := by decide +kernel
theorem d106_23 : decode (eb_b 106) 23 = .ok (.invokevirtual 160, 3) := by decide +kernel
theorem d106_26 : decode (eb_b 106) 26 = .ok (.iload_n 1, 1) := by decide +kernel
theorem d106_27 : decode (eb_b 106) 27 = .ok (.invokevirtual 258, 3) := by decide +kernel
theorem wm_5_258 : Cond.methodLink (eb_cN 5) 258 (eb_y 61) ∈ eb_LT := eb_lt 797 (by decide +kernel)
theorem d106_30 : decode (eb_b 106) 30 = .ok (.istore_n 3, 1) := by decide +kernel
theorem hn106_3 : 3 < eb_ml 106 := by decide
theorem d106_31 : decode (eb_b 106) 31 = .ok (.iload_n 2, 1) := by decide +kernel
theorem d106_32 : decode (eb_b 106) 32 = .ok (.iconst (-1), 1) := by decide +kernel
theorem d106_33 : decode (eb_b 106) 33 = .ok (.if_icmp .ne 7, 3) := by decide +kernel
theorem d106_36 : decode (eb_b 106) 36 = .ok (.iload_n 3, 1) := by decide +kernel
theorem d106_37 : decode (eb_b 106) 37 = .ok (.goto 15, 3) := by decide +kernel
theorem d106_40 : decode (eb_b 106) 40 = .ok (.aload_n 0, 1) := by decide +kernel
theorem d106_41 : decode (eb_b 106) 41 = .ok (.getfield 16, 3) := by decide +kernel
theorem d106_44 : decode (eb_b 106) 44 = .ok (.getfield 97, 3) := by decide +kernel
theorem d106_47 : decode (eb_b 106) 47 = .ok (.iload_n 2, 1) := by decide +kernel
theorem d106_48 : decode (eb_b 106) 48 = .ok (.aaload, 1) := by decide +kernel
theorem d106_49 : decode (eb_b 106) 49 = .ok (.getfield 261, 3) := by decide +kernel
theorem wf_5_261 : Cond.fieldLink (eb_cN 5) 261 (eb_tT 0 5).1 (eb_tT 0 5).2.1 (eb_tT 0 5).2.2.1 ∈ eb_LT := eb_lt 182 (by decide +kernel)
theorem d106_52 : decode (eb_b 106) 52 = .ok (.ireturn, 1) := by decide +kernel
theorem d107_0 : decode (eb_b 107) 0 = .ok (.iload_n 1, 1) := by decide +kernel
theorem d107_1 : decode (eb_b 107) 1 = .ok (.invokestatic 255, 3) := by decide +kernel
theorem d107_4 : decode (eb_b 107) 4 = .ok (.ifCond .eq 20, 3) := by decide +kernel
theorem d107_7 : decode (eb_b 107) 7 = .ok (.aload_n 0, 1) := by decide +kernel
theorem d107_8 : decode (eb_b 107) 8 = .ok (.iload_n 2, 1) := by decide +kernel
theorem d107_9 : decode (eb_b 107) 9 = .ok (.invokevirtual 123, 3) := by decide +kernel
theorem d107_12 : decode (eb_b 107) 12 = .ok (.ifCond .eq 12, 3) := by decide +kernel
theorem d107_15 : decode (eb_b 107) 15 = .ok (.iload_n 3, 1) := by decide +kernel
theorem d107_16 : decode (eb_b 107) 16 = .ok (.iconst 0, 1) := by decide +kernel
theorem d107_17 : decode (eb_b 107) 17 = .ok (.iconst 2, 1) := by decide +kernel
theorem d107_18 : decode (eb_b 107) 18 = .ok (.invokestatic 44, 3) := by decide +kernel
theorem d107_21 : decode (eb_b 107) 21 = .ok (.ifCond .ne 10, 3) := by decide +kernel
theorem d107_24 : decode (eb_b 107) 24 = .ok (.aload_n 0, 1) := by decide +kernel
theorem d107_25 : decode (eb_b 107) 25 = .ok (.bipush (-2), 2) := by decide +kernel
theorem d107_27 : decode (eb_b 107) 27 = .ok (.invokevirtual 48, 3) := by decide +kernel
theorem d107_30 : decode (eb_b 107) 30 = .ok (.ireturn, 1) := by decide +kernel
theorem d107_31 : decode (eb_b 107) 31 = .ok (.aload_n 0, 1) := by decide +kernel
theorem d107_32 : decode (eb_b 107) 32 = .ok (.invokevirtual 160, 3) := by decide +kernel
theorem d107_35 : decode (eb_b 107) 35 = .ok (.iload_n 1, 1) := by decide +kernel
theorem d107_36 : decode (eb_b 107) 36 = .ok (.invokevirtual 258, 3) := by decide +kernel
theorem d107_39 : decode (eb_b 107) 39 = .ok (.pop, 1) := by decide +kernel
theorem d107_40 : decode (eb_b 107) 40 = .ok (.aload_n 0, 1) := by decide +kernel
theorem d107_41 : decode (eb_b 107) 41 = .ok (.getfield 16, 3) := by decide +kernel
theorem d107_44 : decode (eb_b 107) 44 = .ok (.getfield 126, 3) := by decide +kernel
theorem d107_47 : decode (eb_b 107) 47 = .ok (.iload_n 2, 1) := by decide +kernel
theorem d107_48 : decode (eb_b 107) 48 = .ok (.aaload, 1) := by decide +kernel
theorem d107_49 : decode (eb_b 107) 49 = .ok (.astore 4, 2) := by decide +kernel
theorem hn107_4 : 4 < eb_ml 107 := by decide
theorem d107_51 : decode (eb_b 107) 51 = .ok (.iload_n 3, 1) := by decide +kernel
theorem d107_52 : decode (eb_b 107) 52 = .ok (.ifCond .ne 9, 3) := by decide +kernel
theorem d107_55 : decode (eb_b 107) 55 = .ok (.aload 4, 2) := by decide +kernel
theorem d107_57 : decode (eb_b 107) 57 = .ok (.getfield 130, 3) := by decide +kernel
theorem d107_60 : decode (eb_b 107) 60 = .ok (.ireturn, 1) := by decide +kernel
theorem d107_61 : decode (eb_b 107) 61 = .ok (.iload_n 3, 1) := by decide +kernel
theorem d107_62 : decode (eb_b 107) 62 = .ok (.iconst 1, 1) := by decide +kernel
theorem d107_63 : decode (eb_b 107) 63 = .ok (.if_icmp .ne 11, 3) := by decide +kernel
theorem d107_66 : decode (eb_b 107) 66 = .ok (.aload 4, 2) := by decide +kernel
theorem d107_68 : decode (eb_b 107) 68 = .ok (.getfield 135, 3) := by decide +kernel
theorem d107_71 : decode (eb_b 107) 71 = .ok (.goto 8, 3) := by decide +kernel
theorem d107_74 : decode (eb_b 107) 74 = .ok (.aload 4, 2) := by decide +kernel
theorem d107_76 : decode (eb_b 107) 76 = .ok (.getfield 264, 3) := by decide +kernel
theorem wf_5_264 : Cond.fieldLink (eb_cN 5) 264 (eb_tT 1 8).1 (eb_tT 1 8).2.1 (eb_tT 1 8).2.2.1 ∈ eb_LT := eb_lt 140 (by decide +kernel)
theorem d107_79 : decode (eb_b 107) 79 = .ok (.ireturn, 1) := by decide +kernel
theorem d108_0 : decode (eb_b 108) 0 = .ok (.iload_n 1, 1) := by decide +kernel
theorem d108_1 : decode (eb_b 108) 1 = .ok (.invokestatic 255, 3) := by decide +kernel
theorem d108_4 : decode (eb_b 108) 4 = .ok (.ifCond .eq 13, 3) := by decide +kernel
theorem d108_7 : decode (eb_b 108) 7 = .ok (.iload_n 2, 1) := by decide +kernel
theorem d108_8 : decode (eb_b 108) 8 = .ok (.iconst 0, 1) := by decide +kernel
theorem d108_9 : decode (eb_b 108) 9 = .ok (.bipush 6, 2) := by decide +kernel
theorem d108_11 : decode (eb_b 108) 11 = .ok (.invokestatic 44, 3) := by decide +kernel
theorem d108_14 : decode (eb_b 108) 14 = .ok (.ifCond .ne 10, 3) := by decide +kernel
theorem d108_17 : decode (eb_b 108) 17 = .ok (.aload_n 0, 1) := by decide +kernel
theorem d108_18 : decode (eb_b 108) 18 = .ok (.bipush (-2), 2) := by decide +kernel
theorem d108_20 : decode (eb_b 108) 20 = .ok (.invokevirtual 48, 3) := by decide +kernel
theorem d108_23 : decode (eb_b 108) 23 = .ok (.ireturn, 1) := by decide +kernel
theorem d108_24 : decode (eb_b 108) 24 = .ok (.aload_n 0, 1) := by decide +kernel
theorem d108_25 : decode (eb_b 108) 25 = .ok (.iload_n 1, 1) := by decide +kernel
theorem d108_26 : decode (eb_b 108) 26 = .ok (.iload_n 2, 1) := by decide +kernel
theorem d108_27 : decode (eb_b 108) 27 = .ok (.iconst 0, 1) := by decide +kernel
theorem d108_28 : decode (eb_b 108) 28 = .ok (.invokevirtual 267, 3) := by decide +kernel
theorem wc_140 : Cond.code (eb_y 140) (eb_b 140) (eb_ml 140) (eb_rt 140) ∈ eb_LT := eb_lt 825 (by decide +kernel)
theorem cy_140 : (eb_y 140).cls = eb_cN (eb_rc 140) ∧ (eb_y 140).cls ≠ "java/lang/invoke/MethodHandle" ∧ (eb_y 140).cls ≠ "java/lang/invoke/VarHandle" ∧ (parseMethodDescriptor (eb_y 140).desc).map (fun d => d.parameters.length) = some 3 := by decide +kernel
theorem wi_140 : Cond.instanceMethod (eb_y 140) ∈ eb_LT := eb_lt 824 (by decide +kernel)
theorem wse_140 : Cond.selects (eb_cN (eb_rc 140)) (eb_y 140) (eb_y 140) ∈ eb_LT := eb_lt 28 (by decide +kernel)
theorem kV_140 {L q0 m pc : Nat} {lg : Nat → Bool} {ix : Nat} (hw : Cond.methodLink (eb_own m) ix (eb_y 140) ∈ eb_LT) (hd : decode (eb_b m) pc = .ok (.invokevirtual ix, 3)) : eb_Snd L q0 m pc lg (op_call 140 4 (pc + 3)) := sn_callV false rfl (Or.inr ⟨rfl, _, rfl⟩) (by decide) rfl (by decide) ⟨⟨hw, wi_140, wse_140⟩, wc_140⟩ cy_140 hd
theorem wm_5_267 : Cond.methodLink (eb_cN 5) 267 (eb_y 140) ∈ eb_LT := eb_lt 822 (by decide +kernel)
theorem d108_31 : decode (eb_b 108) 31 = .ok (.ireturn, 1) := by decide +kernel
theorem d109_0 : decode (eb_b 109) 0 = .ok (.iload_n 1, 1) := by decide +kernel
theorem d109_1 : decode (eb_b 109) 1 = .ok (.invokestatic 255, 3) := by decide +kernel
theorem d109_4 : decode (eb_b 109) 4 = .ok (.ifCond .eq 11, 3) := by decide +kernel
theorem d109_7 : decode (eb_b 109) 7 = .ok (.aload_n 0, 1) := by decide +kernel
theorem d109_8 : decode (eb_b 109) 8 = .ok (.iload_n 2, 1) := by decide +kernel
theorem d109_9 : decode (eb_b 109) 9 = .ok (.invokevirtual 141, 3) := by decide +kernel
theorem d109_12 : decode (eb_b 109) 12 = .ok (.ifCond .ne 10, 3) := by decide +kernel
theorem d109_15 : decode (eb_b 109) 15 = .ok (.aload_n 0, 1) := by decide +kernel
theorem d109_16 : decode (eb_b 109) 16 = .ok (.bipush (-2), 2) := by decide +kernel
theorem d109_18 : decode (eb_b 109) 18 = .ok (.invokevirtual 190, 3) := by decide +kernel
theorem d109_21 : decode (eb_b 109) 21 = .ok (.ireturn, 1) := by decide +kernel
theorem d109_22 : decode (eb_b 109) 22 = .ok (.aload_n 0, 1) := by decide +kernel
theorem d109_23 : decode (eb_b 109) 23 = .ok (.iload_n 1, 1) := by decide +kernel
theorem d109_24 : decode (eb_b 109) 24 = .ok (.iload_n 2, 1) := by decide +kernel
theorem d109_25 : decode (eb_b 109) 25 = .ok (.invokevirtual 271, 3) := by decide +kernel
theorem wc_139 : Cond.code (eb_y 139) (eb_b 139) (eb_ml 139) (eb_rt 139) ∈ eb_LT := eb_lt 829 (by decide +kernel)
theorem cy_139 : (eb_y 139).cls = eb_cN (eb_rc 139) ∧ (eb_y 139).cls ≠ "java/lang/invoke/MethodHandle" ∧ (eb_y 139).cls ≠ "java/lang/invoke/VarHandle" ∧ (parseMethodDescriptor (eb_y 139).desc).map (fun d => d.parameters.length) = some 2 := by decide +kernel
theorem wi_139 : Cond.instanceMethod (eb_y 139) ∈ eb_LT := eb_lt 828 (by decide +kernel)
theorem wse_139 : Cond.selects (eb_cN (eb_rc 139)) (eb_y 139) (eb_y 139) ∈ eb_LT := eb_lt 29 (by decide +kernel)
theorem kV_139 {L q0 m pc : Nat} {lg : Nat → Bool} {ix : Nat} (hw : Cond.methodLink (eb_own m) ix (eb_y 139) ∈ eb_LT) (hd : decode (eb_b m) pc = .ok (.invokevirtual ix, 3)) : eb_Snd L q0 m pc lg (op_call 139 3 (pc + 3)) := sn_callV false rfl (Or.inr ⟨rfl, _, rfl⟩) (by decide) rfl (by decide) ⟨⟨hw, wi_139, wse_139⟩, wc_139⟩ cy_139 hd
theorem wm_5_271 : Cond.methodLink (eb_cN 5) 271 (eb_y 139) ∈ eb_LT := eb_lt 826 (by decide +kernel)
theorem d109_28 : decode (eb_b 109) 28 = .ok (.ireturn, 1) := by decide +kernel
theorem d110_0 : decode (eb_b 110) 0 = .ok (.iload_n 1, 1) := by decide +kernel
theorem d110_1 : decode (eb_b 110) 1 = .ok (.invokestatic 255, 3) := by decide +kernel
theorem d110_4 : decode (eb_b 110) 4 = .ok (.ifCond .ne 10, 3) := by decide +kernel
theorem d110_7 : decode (eb_b 110) 7 = .ok (.aload_n 0, 1) := by decide +kernel
theorem d110_8 : decode (eb_b 110) 8 = .ok (.bipush (-2), 2) := by decide +kernel
theorem d110_10 : decode (eb_b 110) 10 = .ok (.invokevirtual 48, 3) := by decide +kernel
theorem d110_13 : decode (eb_b 110) 13 = .ok (.ireturn, 1) := by decide +kernel
theorem d110_14 : decode (eb_b 110) 14 = .ok (.aload_n 0, 1) := by decide +kernel
theorem d110_15 : decode (eb_b 110) 15 = .ok (.iload_n 1, 1) := by decide +kernel
theorem d110_16 : decode (eb_b 110) 16 = .ok (.bipush 6, 2) := by decide +kernel
theorem d110_18 : decode (eb_b 110) 18 = .ok (.iconst 1, 1) := by decide +kernel
theorem d110_19 : decode (eb_b 110) 19 = .ok (.invokevirtual 267, 3) := by decide +kernel
theorem d110_22 : decode (eb_b 110) 22 = .ok (.invokestatic 274, 3) := by decide +kernel
theorem wc_252 : Cond.code (eb_y 252) (eb_b 252) (eb_ml 252) (eb_rt 252) ∈ eb_LT := eb_lt 832 (by decide +kernel)
theorem cy_252 : (eb_y 252).cls ≠ "java/lang/invoke/MethodHandle" ∧ (eb_y 252).cls ≠ "java/lang/invoke/VarHandle" ∧ (parseMethodDescriptor (eb_y 252).desc).map (fun d => d.parameters.length) = some 1 := by decide +kernel
theorem wst_252 : Cond.static (eb_y 252) ∈ eb_LT := eb_lt 831 (by decide +kernel)
theorem wn_252 : Cond.initialized (eb_y 252).cls ∈ eb_LT := eb_lt 90 (by decide +kernel)
theorem kS_252 {L q0 m pc : Nat} {lg : Nat → Bool} {ix : Nat} (hw : Cond.methodLink (eb_own m) ix (eb_y 252) ∈ eb_LT) (hd : decode (eb_b m) pc = .ok (.invokestatic ix, 3)) : eb_Snd L q0 m pc lg (op_call 252 1 (pc + 3)) := sn_callS false rfl (Or.inr ⟨rfl, _, rfl⟩) (by decide) ⟨⟨hw, wst_252, wn_252⟩, wc_252⟩ cy_252 hd
theorem wm_5_274 : Cond.methodLink (eb_cN 5) 274 (eb_y 252) ∈ eb_LT := eb_lt 830 (by decide +kernel)
theorem d110_25 : decode (eb_b 110) 25 = .ok (.ireturn, 1) := by decide +kernel
theorem d111_0 : decode (eb_b 111) 0 = .ok (.iload_n 1, 1) := by decide +kernel
theorem d111_1 : decode (eb_b 111) 1 = .ok (.iconst 1, 1) := by decide +kernel
theorem d111_2 : decode (eb_b 111) 2 = .ok (.iconst 3, 1) := by decide +kernel
theorem d111_3 : decode (eb_b 111) 3 = .ok (.invokestatic 44, 3) := by decide +kernel
theorem d111_6 : decode (eb_b 111) 6 = .ok (.ifCond .eq 19, 3) := by decide +kernel
theorem d111_9 : decode (eb_b 111) 9 = .ok (.iload_n 2, 1) := by decide +kernel
theorem d111_10 : decode (eb_b 111) 10 = .ok (.iconst (-1), 1) := by decide +kernel
theorem d111_11 : decode (eb_b 111) 11 = .ok (.if_icmp .eq 21, 3) := by decide +kernel
theorem d111_14 : decode (eb_b 111) 14 = .ok (.iload_n 2, 1) := by decide +kernel
theorem d111_15 : decode (eb_b 111) 15 = .ok (.iconst 0, 1) := by decide +kernel
theorem d111_16 : decode (eb_b 111) 16 = .ok (.iload_n 1, 1) := by decide +kernel
theorem d111_17 : decode (eb_b 111) 17 = .ok (.iconst 1, 1) := by decide +kernel
theorem d111_18 : decode (eb_b 111) 18 = .ok (.isub, 1) := by decide +kernel
theorem d111_19 : decode (eb_b 111) 19 = .ok (.invokestatic 44, 3) := by decide +kernel
theorem d111_22 : decode (eb_b 111) 22 = .ok (.ifCond .ne 10, 3) := by decide +kernel
theorem d111_25 : decode (eb_b 111) 25 = .ok (.aload_n 0, 1) := by decide +kernel
theorem d111_26 : decode (eb_b 111) 26 = .ok (.bipush (-2), 2) := by decide +kernel
theorem d111_28 : decode (eb_b 111) 28 = .ok (.invokevirtual 190, 3) := by decide +kernel
theorem d111_31 : decode (eb_b 111) 31 = .ok (.ireturn, 1) := by decide +kernel
theorem d111_32 : decode (eb_b 111) 32 = .ok (.iconst 0, 1) := by decide +kernel
theorem d111_33 : decode (eb_b 111) 33 = .ok (.istore_n 3, 1) := by decide +kernel
theorem hn111_3 : 3 < eb_ml 111 := by decide
theorem d111_34 : decode (eb_b 111) 34 = .ok (.aload_n 0, 1) := by decide +kernel
theorem d111_35 : decode (eb_b 111) 35 = .ok (.iload_n 1, 1) := by decide +kernel
theorem d111_36 : decode (eb_b 111) 36 = .ok (.iconst 0, 1) := by decide +kernel
theorem d111_37 : decode (eb_b 111) 37 = .ok (.invokevirtual 279, 3) := by decide +kernel
theorem wc_141 : Cond.code (eb_y 141) (eb_b 141) (eb_ml 141) (eb_rt 141) ∈ eb_LT := eb_lt 851 (by decide +kernel)
theorem cy_141 : (eb_y 141).cls = eb_cN (eb_rc 141) ∧ (eb_y 141).cls ≠ "java/lang/invoke/MethodHandle" ∧ (eb_y 141).cls ≠ "java/lang/invoke/VarHandle" ∧ (parseMethodDescriptor (eb_y 141).desc).map (fun d => d.parameters.length) = some 2 := by decide +kernel
theorem wi_141 : Cond.instanceMethod (eb_y 141) ∈ eb_LT := eb_lt 850 (by decide +kernel)
theorem wse_141 : Cond.selects (eb_cN (eb_rc 141)) (eb_y 141) (eb_y 141) ∈ eb_LT := eb_lt 30 (by decide +kernel)
theorem kV_141 {L q0 m pc : Nat} {lg : Nat → Bool} {ix : Nat} (hw : Cond.methodLink (eb_own m) ix (eb_y 141) ∈ eb_LT) (hd : decode (eb_b m) pc = .ok (.invokevirtual ix, 3)) : eb_Snd L q0 m pc lg (op_call 141 3 (pc + 3)) := sn_callV false rfl (Or.inr ⟨rfl, _, rfl⟩) (by decide) rfl (by decide) ⟨⟨hw, wi_141, wse_141⟩, wc_141⟩ cy_141 hd
theorem wm_5_279 : Cond.methodLink (eb_cN 5) 279 (eb_y 141) ∈ eb_LT := eb_lt 848 (by decide +kernel)
theorem d111_40 : decode (eb_b 111) 40 = .ok (.istore 4, 2) := by decide +kernel
theorem hn111_4 : 4 < eb_ml 111 := by decide
theorem d111_42 : decode (eb_b 111) 42 = .ok (.aload_n 0, 1) := by decide +kernel
theorem d111_43 : decode (eb_b 111) 43 = .ok (.getfield 10, 3) := by decide +kernel
theorem d111_46 : decode (eb_b 111) 46 = .ok (.getfield 235, 3) := by decide +kernel
theorem d111_49 : decode (eb_b 111) 49 = .ok (.iconst 1, 1) := by decide +kernel
theorem d111_50 : decode (eb_b 111) 50 = .ok (.iadd, 1) := by decide +kernel
theorem d111_51 : decode (eb_b 111) 51 = .ok (.iload_n 1, 1) := by decide +kernel
theorem d111_52 : decode (eb_b 111) 52 = .ok (.invokestatic 282, 3) := by decide +kernel
theorem wc_143 : Cond.code (eb_y 143) (eb_b 143) (eb_ml 143) (eb_rt 143) ∈ eb_LT := eb_lt 858 (by decide +kernel)
theorem cy_143 : (eb_y 143).cls ≠ "java/lang/invoke/MethodHandle" ∧ (eb_y 143).cls ≠ "java/lang/invoke/VarHandle" ∧ (parseMethodDescriptor (eb_y 143).desc).map (fun d => d.parameters.length) = some 2 := by decide +kernel
theorem wst_143 : Cond.static (eb_y 143) ∈ eb_LT := eb_lt 857 (by decide +kernel)
theorem wn_143 : Cond.initialized (eb_y 143).cls ∈ eb_LT := eb_lt 77 (by decide +kernel)
theorem kS_143 {L q0 m pc : Nat} {lg : Nat → Bool} {ix : Nat} (hw : Cond.methodLink (eb_own m) ix (eb_y 143) ∈ eb_LT) (hd : decode (eb_b m) pc = .ok (.invokestatic ix, 3)) : eb_Snd L q0 m pc lg (op_call 143 2 (pc + 3)) := sn_callS false rfl (Or.inr ⟨rfl, _, rfl⟩) (by decide) ⟨⟨hw, wst_143, wn_143⟩, wc_143⟩ cy_143 hd
theorem wm_5_282 : Cond.methodLink (eb_cN 5) 282 (eb_y 143) ∈ eb_LT := eb_lt 856 (by decide +kernel)
theorem d111_55 : decode (eb_b 111) 55 = .ok (.istore 5, 2) := by decide +kernel
theorem hn111_5 : 5 < eb_ml 111 := by decide
theorem d111_57 : decode (eb_b 111) 57 = .ok (.iconst 1, 1) := by decide +kernel
theorem d111_58 : decode (eb_b 111) 58 = .ok (.istore 6, 2) := by decide +kernel
theorem hn111_6 : 6 < eb_ml 111 := by decide
theorem d111_60 : decode (eb_b 111) 60 = .ok (.iload 6, 2) := by decide +kernel
theorem d111_62 : decode (eb_b 111) 62 = .ok (.iload 5, 2) := by decide +kernel
theorem d111_64 : decode (eb_b 111) 64 = .ok (.if_icmp .ge 32, 3) := by decide +kernel
theorem d111_67 : decode (eb_b 111) 67 = .ok (.aload_n 0, 1) := by decide +kernel
theorem d111_68 : decode (eb_b 111) 68 = .ok (.iload_n 1, 1) := by decide +kernel
theorem d111_69 : decode (eb_b 111) 69 = .ok (.iload 6, 2) := by decide +kernel
theorem d111_71 : decode (eb_b 111) 71 = .ok (.invokevirtual 279, 3) := by decide +kernel
theorem d111_74 : decode (eb_b 111) 74 = .ok (.istore 7, 2) := by decide +kernel
theorem hn111_7 : 7 < eb_ml 111 := by decide
theorem d111_76 : decode (eb_b 111) 76 = .ok (.iload 7, 2) := by decide +kernel
theorem d111_78 : decode (eb_b 111) 78 = .ok (.iload 4, 2) := by decide +kernel
theorem d111_80 : decode (eb_b 111) 80 = .ok (.if_icmp .le 10, 3) := by decide +kernel
theorem d111_83 : decode (eb_b 111) 83 = .ok (.iload 6, 2) := by decide +kernel
theorem d111_85 : decode (eb_b 111) 85 = .ok (.istore_n 3, 1) := by decide +kernel
theorem d111_86 : decode (eb_b 111) 86 = .ok (.iload 7, 2) := by decide +kernel
theorem d111_88 : decode (eb_b 111) 88 = .ok (.istore 4, 2) := by decide +kernel
theorem d111_90 : decode (eb_b 111) 90 = .ok (.iinc 6 1, 3) := by decide +kernel
theorem d111_93 : decode (eb_b 111) 93 = .ok (.goto (-33), 3) := by decide +kernel
theorem d111_96 : decode (eb_b 111) 96 = .ok (.iload_n 2, 1) := by decide +kernel
theorem d111_97 : decode (eb_b 111) 97 = .ok (.iconst (-1), 1) := by decide +kernel
theorem d111_98 : decode (eb_b 111) 98 = .ok (.if_icmp .ne 8, 3) := by decide +kernel
theorem d111_101 : decode (eb_b 111) 101 = .ok (.iload 4, 2) := by decide +kernel
theorem d111_103 : decode (eb_b 111) 103 = .ok (.goto 10, 3) := by decide +kernel
theorem d111_106 : decode (eb_b 111) 106 = .ok (.aload_n 0, 1) := by decide +kernel
theorem d111_107 : decode (eb_b 111) 107 = .ok (.iload_n 1, 1) := by decide +kernel
theorem d111_108 : decode (eb_b 111) 108 = .ok (.iload_n 3, 1) := by decide +kernel
theorem d111_109 : decode (eb_b 111) 109 = .ok (.iload_n 2, 1) := by decide +kernel
theorem d111_110 : decode (eb_b 111) 110 = .ok (.invokevirtual 285, 3) := by decide +kernel
theorem wc_142 : Cond.code (eb_y 142) (eb_b 142) (eb_ml 142) (eb_rt 142) ∈ eb_LT := eb_lt 855 (by decide +kernel)
theorem cy_142 : (eb_y 142).cls = eb_cN (eb_rc 142) ∧ (eb_y 142).cls ≠ "java/lang/invoke/MethodHandle" ∧ (eb_y 142).cls ≠ "java/lang/invoke/VarHandle" ∧ (parseMethodDescriptor (eb_y 142).desc).map (fun d => d.parameters.length) = some 3 := by decide +kernel
theorem wi_142 : Cond.instanceMethod (eb_y 142) ∈ eb_LT := eb_lt 854 (by decide +kernel)
theorem wse_142 : Cond.selects (eb_cN (eb_rc 142)) (eb_y 142) (eb_y 142) ∈ eb_LT := eb_lt 31 (by decide +kernel)
theorem kV_142 {L q0 m pc : Nat} {lg : Nat → Bool} {ix : Nat} (hw : Cond.methodLink (eb_own m) ix (eb_y 142) ∈ eb_LT) (hd : decode (eb_b m) pc = .ok (.invokevirtual ix, 3)) : eb_Snd L q0 m pc lg (op_call 142 4 (pc + 3)) := sn_callV false rfl (Or.inr ⟨rfl, _, rfl⟩) (by decide) rfl (by decide) ⟨⟨hw, wi_142, wse_142⟩, wc_142⟩ cy_142 hd
theorem wm_5_285 : Cond.methodLink (eb_cN 5) 285 (eb_y 142) ∈ eb_LT := eb_lt 852 (by decide +kernel)
theorem d111_113 : decode (eb_b 111) 113 = .ok (.ireturn, 1) := by decide +kernel
theorem d112_0 : decode (eb_b 112) 0 = .ok (.iload_n 1, 1) := by decide +kernel
theorem d112_1 : decode (eb_b 112) 1 = .ok (.invokestatic 255, 3) := by decide +kernel
theorem d112_4 : decode (eb_b 112) 4 = .ok (.ifCond .eq 11, 3) := by decide +kernel
theorem d112_7 : decode (eb_b 112) 7 = .ok (.aload_n 0, 1) := by decide +kernel
theorem d112_8 : decode (eb_b 112) 8 = .ok (.iload_n 2, 1) := by decide +kernel
theorem d112_9 : decode (eb_b 112) 9 = .ok (.invokevirtual 123, 3) := by decide +kernel
theorem d112_12 : decode (eb_b 112) 12 = .ok (.ifCond .ne 10, 3) := by decide +kernel
theorem d112_15 : decode (eb_b 112) 15 = .ok (.aload_n 0, 1) := by decide +kernel
theorem d112_16 : decode (eb_b 112) 16 = .ok (.bipush (-2), 2) := by decide +kernel
theorem d112_18 : decode (eb_b 112) 18 = .ok (.invokevirtual 190, 3) := by decide +kernel
theorem d112_21 : decode (eb_b 112) 21 = .ok (.ireturn, 1) := by decide +kernel
theorem d112_22 : decode (eb_b 112) 22 = .ok (.aload_n 0, 1) := by decide +kernel
theorem d112_23 : decode (eb_b 112) 23 = .ok (.getfield 10, 3) := by decide +kernel
theorem d112_26 : decode (eb_b 112) 26 = .ok (.getfield 126, 3) := by decide +kernel
theorem d112_29 : decode (eb_b 112) 29 = .ok (.iload_n 2, 1) := by decide +kernel
theorem d112_30 : decode (eb_b 112) 30 = .ok (.aaload, 1) := by decide +kernel
theorem d112_31 : decode (eb_b 112) 31 = .ok (.getfield 138, 3) := by decide +kernel
theorem d112_34 : decode (eb_b 112) 34 = .ok (.iconst (-1), 1) := by decide +kernel
theorem d112_35 : decode (eb_b 112) 35 = .ok (.if_icmp .ne 10, 3) := by decide +kernel
theorem d112_38 : decode (eb_b 112) 38 = .ok (.aload_n 0, 1) := by decide +kernel
theorem d112_39 : decode (eb_b 112) 39 = .ok (.bipush (-5), 2) := by decide +kernel
theorem d112_41 : decode (eb_b 112) 41 = .ok (.invokevirtual 190, 3) := by decide +kernel
theorem d112_44 : decode (eb_b 112) 44 = .ok (.ireturn, 1) := by decide +kernel
theorem d112_45 : decode (eb_b 112) 45 = .ok (.aload_n 0, 1) := by decide +kernel
theorem d112_46 : decode (eb_b 112) 46 = .ok (.invokevirtual 160, 3) := by decide +kernel
theorem d112_49 : decode (eb_b 112) 49 = .ok (.iload_n 1, 1) := by decide +kernel
theorem d112_50 : decode (eb_b 112) 50 = .ok (.invokevirtual 258, 3) := by decide +kernel
theorem d112_53 : decode (eb_b 112) 53 = .ok (.pop, 1) := by decide +kernel
theorem d112_54 : decode (eb_b 112) 54 = .ok (.aload_n 0, 1) := by decide +kernel
theorem d112_55 : decode (eb_b 112) 55 = .ok (.getfield 16, 3) := by decide +kernel
theorem d112_58 : decode (eb_b 112) 58 = .ok (.invokevirtual 288, 3) := by decide +kernel
theorem wc_63 : Cond.code (eb_y 63) (eb_b 63) (eb_ml 63) (eb_rt 63) ∈ eb_LT := eb_lt 866 (by decide +kernel)
theorem cy_63 : (eb_y 63).cls = eb_cN (eb_rc 63) ∧ (eb_y 63).cls ≠ "java/lang/invoke/MethodHandle" ∧ (eb_y 63).cls ≠ "java/lang/invoke/VarHandle" ∧ (parseMethodDescriptor (eb_y 63).desc).map (fun d => d.parameters.length) = some 0 := by decide +kernel
theorem wi_63 : Cond.instanceMethod (eb_y 63) ∈ eb_LT := eb_lt 864 (by decide +kernel)
theorem wse_63 : Cond.selects (eb_cN (eb_rc 63)) (eb_y 63) (eb_y 63) ∈ eb_LT := eb_lt 865 (by decide +kernel)
theorem kV_63 {L q0 m pc : Nat} {lg : Nat → Bool} {ix : Nat} (hw : Cond.methodLink (eb_own m) ix (eb_y 63) ∈ eb_LT) (hd : decode (eb_b m) pc = .ok (.invokevirtual ix, 3)) : eb_Snd L q0 m pc lg (op_call 63 1 (pc + 3)) := sn_callV false rfl (Or.inr ⟨rfl, _, rfl⟩) (by decide) rfl (by decide) ⟨⟨hw, wi_63, wse_63⟩, wc_63⟩ cy_63 hd
theorem wm_5_288 : Cond.methodLink (eb_cN 5) 288 (eb_y 63) ∈ eb_LT := eb_lt 863 (by decide +kernel)
theorem d112_61 : decode (eb_b 112) 61 = .ok (.istore_n 3, 1) := by decide +kernel
theorem hn112_3 : 3 < eb_ml 112 := by decide
theorem d112_62 : decode (eb_b 112) 62 = .ok (.aload_n 0, 1) := by decide +kernel
theorem d112_63 : decode (eb_b 112) 63 = .ok (.invokevirtual 160, 3) := by decide +kernel
theorem d112_66 : decode (eb_b 112) 66 = .ok (.getfield 126, 3) := by decide +kernel
theorem d112_69 : decode (eb_b 112) 69 = .ok (.iload_n 2, 1) := by decide +kernel
theorem d112_70 : decode (eb_b 112) 70 = .ok (.aaload, 1) := by decide +kernel
theorem d112_71 : decode (eb_b 112) 71 = .ok (.iconst (-1), 1) := by decide +kernel
theorem d112_72 : decode (eb_b 112) 72 = .ok (.putfield 138, 3) := by decide +kernel
theorem d112_75 : decode (eb_b 112) 75 = .ok (.aload_n 0, 1) := by decide +kernel
theorem d112_76 : decode (eb_b 112) 76 = .ok (.getfield 16, 3) := by decide +kernel
theorem d112_79 : decode (eb_b 112) 79 = .ok (.iload_n 1, 1) := by decide +kernel
theorem d112_80 : decode (eb_b 112) 80 = .ok (.invokevirtual 258, 3) := by decide +kernel
theorem d112_83 : decode (eb_b 112) 83 = .ok (.pop, 1) := by decide +kernel
theorem d112_84 : decode (eb_b 112) 84 = .ok (.aload_n 0, 1) := by decide +kernel
theorem d112_85 : decode (eb_b 112) 85 = .ok (.getfield 16, 3) := by decide +kernel
theorem d112_88 : decode (eb_b 112) 88 = .ok (.invokevirtual 288, 3) := by decide +kernel
theorem d112_91 : decode (eb_b 112) 91 = .ok (.iload_n 3, 1) := by decide +kernel
theorem d112_92 : decode (eb_b 112) 92 = .ok (.isub, 1) := by decide +kernel
theorem d112_93 : decode (eb_b 112) 93 = .ok (.ireturn, 1) := by decide +kernel
theorem d113_0 : decode (eb_b 113) 0 = .ok (.iload_n 1, 1) := by decide +kernel
theorem d113_1 : decode (eb_b 113) 1 = .ok (.invokestatic 255, 3) := by decide +kernel
theorem d113_4 : decode (eb_b 113) 4 = .ok (.ifCond .eq 18, 3) := by decide +kernel
theorem d113_7 : decode (eb_b 113) 7 = .ok (.aload_n 0, 1) := by decide +kernel
theorem d113_8 : decode (eb_b 113) 8 = .ok (.iload_n 2, 1) := by decide +kernel
theorem d113_9 : decode (eb_b 113) 9 = .ok (.invokevirtual 123, 3) := by decide +kernel
theorem d113_12 : decode (eb_b 113) 12 = .ok (.ifCond .eq 10, 3) := by decide +kernel
theorem d113_15 : decode (eb_b 113) 15 = .ok (.iload_n 3, 1) := by decide +kernel
theorem d113_16 : decode (eb_b 113) 16 = .ok (.invokestatic 113, 3) := by decide +kernel
theorem d113_19 : decode (eb_b 113) 19 = .ok (.ifCond .ne 10, 3) := by decide +kernel
theorem d113_22 : decode (eb_b 113) 22 = .ok (.aload_n 0, 1) := by decide +kernel
theorem d113_23 : decode (eb_b 113) 23 = .ok (.bipush (-2), 2) := by decide +kernel
theorem d113_25 : decode (eb_b 113) 25 = .ok (.invokevirtual 190, 3) := by decide +kernel
theorem d113_28 : decode (eb_b 113) 28 = .ok (.ireturn, 1) := by decide +kernel
theorem d113_29 : decode (eb_b 113) 29 = .ok (.aload_n 0, 1) := by decide +kernel
theorem d113_30 : decode (eb_b 113) 30 = .ok (.invokevirtual 160, 3) := by decide +kernel
theorem d113_33 : decode (eb_b 113) 33 = .ok (.iload_n 1, 1) := by decide +kernel
theorem d113_34 : decode (eb_b 113) 34 = .ok (.invokevirtual 258, 3) := by decide +kernel
theorem d113_37 : decode (eb_b 113) 37 = .ok (.istore 4, 2) := by decide +kernel
theorem hn113_4 : 4 < eb_ml 113 := by decide
theorem d113_39 : decode (eb_b 113) 39 = .ok (.aload_n 0, 1) := by decide +kernel
theorem d113_40 : decode (eb_b 113) 40 = .ok (.invokevirtual 160, 3) := by decide +kernel
theorem d113_43 : decode (eb_b 113) 43 = .ok (.getfield 126, 3) := by decide +kernel
theorem d113_46 : decode (eb_b 113) 46 = .ok (.iload_n 2, 1) := by decide +kernel
theorem d113_47 : decode (eb_b 113) 47 = .ok (.aaload, 1) := by decide +kernel
theorem d113_48 : decode (eb_b 113) 48 = .ok (.iload_n 3, 1) := by decide +kernel
theorem d113_49 : decode (eb_b 113) 49 = .ok (.putfield 138, 3) := by decide +kernel
theorem d113_52 : decode (eb_b 113) 52 = .ok (.aload_n 0, 1) := by decide +kernel
theorem d113_53 : decode (eb_b 113) 53 = .ok (.getfield 16, 3) := by decide +kernel
theorem d113_56 : decode (eb_b 113) 56 = .ok (.iload_n 1, 1) := by decide +kernel
theorem d113_57 : decode (eb_b 113) 57 = .ok (.invokevirtual 258, 3) := by decide +kernel
theorem d113_60 : decode (eb_b 113) 60 = .ok (.iload 4, 2) := by decide +kernel
theorem d113_62 : decode (eb_b 113) 62 = .ok (.isub, 1) := by decide +kernel
theorem d113_63 : decode (eb_b 113) 63 = .ok (.ireturn, 1) := by decide +kernel
theorem d114_0 : decode (eb_b 114) 0 = .ok (.aload_n 0, 1) := by decide +kernel
theorem d114_1 : decode (eb_b 114) 1 = .ok (.iload_n 1, 1) := by decide +kernel
theorem d114_2 : decode (eb_b 114) 2 = .ok (.invokevirtual 123, 3) := by decide +kernel
theorem d114_5 : decode (eb_b 114) 5 = .ok (.ifCond .eq 10, 3) := by decide +kernel
theorem d114_8 : decode (eb_b 114) 8 = .ok (.iload_n 2, 1) := by decide +kernel
theorem d114_9 : decode (eb_b 114) 9 = .ok (.invokestatic 113, 3) := by decide +kernel
theorem d114_12 : decode (eb_b 114) 12 = .ok (.ifCond .ne 10, 3) := by decide +kernel
theorem d114_15 : decode (eb_b 114) 15 = .ok (.aload_n 0, 1) := by decide +kernel
theorem d114_16 : decode (eb_b 114) 16 = .ok (.bipush (-2), 2) := by decide +kernel
theorem d114_18 : decode (eb_b 114) 18 = .ok (.invokevirtual 48, 3) := by decide +kernel
theorem d114_21 : decode (eb_b 114) 21 = .ok (.ireturn, 1) := by decide +kernel
theorem d114_22 : decode (eb_b 114) 22 = .ok (.aload_n 0, 1) := by decide +kernel
theorem d114_23 : decode (eb_b 114) 23 = .ok (.invokevirtual 160, 3) := by decide +kernel
theorem d114_26 : decode (eb_b 114) 26 = .ok (.pop, 1) := by decide +kernel
theorem d114_27 : decode (eb_b 114) 27 = .ok (.iconst 1, 1) := by decide +kernel
theorem d114_28 : decode (eb_b 114) 28 = .ok (.istore_n 3, 1) := by decide +kernel
theorem hn114_3 : 3 < eb_ml 114 := by decide
theorem d114_29 : decode (eb_b 114) 29 = .ok (.iload_n 3, 1) := by decide +kernel
theorem d114_30 : decode (eb_b 114) 30 = .ok (.bipush 30, 2) := by decide +kernel
theorem d114_32 : decode (eb_b 114) 32 = .ok (.if_icmp .gt 36, 3) := by decide +kernel
theorem d114_35 : decode (eb_b 114) 35 = .ok (.aload_n 0, 1) := by decide +kernel
theorem d114_36 : decode (eb_b 114) 36 = .ok (.getfield 16, 3) := by decide +kernel
theorem d114_39 : decode (eb_b 114) 39 = .ok (.iconst 1, 1) := by decide +kernel
theorem d114_40 : decode (eb_b 114) 40 = .ok (.invokevirtual 258, 3) := by decide +kernel
theorem d114_43 : decode (eb_b 114) 43 = .ok (.pop, 1) := by decide +kernel
theorem d114_44 : decode (eb_b 114) 44 = .ok (.aload_n 0, 1) := by decide +kernel
theorem d114_45 : decode (eb_b 114) 45 = .ok (.getfield 16, 3) := by decide +kernel
theorem d114_48 : decode (eb_b 114) 48 = .ok (.getfield 126, 3) := by decide +kernel
theorem d114_51 : decode (eb_b 114) 51 = .ok (.iload_n 1, 1) := by decide +kernel
theorem d114_52 : decode (eb_b 114) 52 = .ok (.aaload, 1) := by decide +kernel
theorem d114_53 : decode (eb_b 114) 53 = .ok (.getfield 130, 3) := by decide +kernel
theorem d114_56 : decode (eb_b 114) 56 = .ok (.iload_n 2, 1) := by decide +kernel
theorem d114_57 : decode (eb_b 114) 57 = .ok (.if_icmp .ge 5, 3) := by decide +kernel
theorem d114_60 : decode (eb_b 114) 60 = .ok (.iload_n 3, 1) := by decide +kernel
theorem d114_61 : decode (eb_b 114) 61 = .ok (.ireturn, 1) := by decide +kernel
theorem d114_62 : decode (eb_b 114) 62 = .ok (.iinc 3 1, 3) := by decide +kernel
theorem d114_65 : decode (eb_b 114) 65 = .ok (.goto (-36), 3) := by decide +kernel
theorem d114_68 : decode (eb_b 114) 68 = .ok (.iconst (-1), 1) := by decide +kernel
theorem d114_69 : decode (eb_b 114) 69 = .ok (.ireturn, 1) := by decide +kernel
theorem d115_0 : decode (eb_b 115) 0 = .ok (.aload_n 0, 1) := by decide +kernel
theorem d115_1 : decode (eb_b 115) 1 = .ok (.iload_n 1, 1) := by decide +kernel
theorem d115_2 : decode (eb_b 115) 2 = .ok (.invokevirtual 94, 3) := by decide +kernel
theorem d115_5 : decode (eb_b 115) 5 = .ok (.ifCond .eq 26, 3) := by decide +kernel
theorem d115_8 : decode (eb_b 115) 8 = .ok (.aload_n 0, 1) := by decide +kernel
theorem d115_9 : decode (eb_b 115) 9 = .ok (.iload_n 2, 1) := by decide +kernel
theorem d115_10 : decode (eb_b 115) 10 = .ok (.invokevirtual 123, 3) := by decide +kernel
theorem d115_13 : decode (eb_b 115) 13 = .ok (.ifCond .eq 18, 3) := by decide +kernel
theorem d115_16 : decode (eb_b 115) 16 = .ok (.iload_n 3, 1) := by decide +kernel
theorem d115_17 : decode (eb_b 115) 17 = .ok (.invokestatic 255, 3) := by decide +kernel
theorem d115_20 : decode (eb_b 115) 20 = .ok (.ifCond .eq 11, 3) := by decide +kernel
theorem d115_23 : decode (eb_b 115) 23 = .ok (.iload 4, 2) := by decide +kernel
theorem d115_25 : decode (eb_b 115) 25 = .ok (.invokestatic 113, 3) := by decide +kernel
theorem d115_28 : decode (eb_b 115) 28 = .ok (.ifCond .ne 10, 3) := by decide +kernel
theorem d115_31 : decode (eb_b 115) 31 = .ok (.aload_n 0, 1) := by decide +kernel
theorem d115_32 : decode (eb_b 115) 32 = .ok (.bipush (-2), 2) := by decide +kernel
theorem d115_34 : decode (eb_b 115) 34 = .ok (.invokevirtual 48, 3) := by decide +kernel
theorem d115_37 : decode (eb_b 115) 37 = .ok (.ireturn, 1) := by decide +kernel
theorem d115_38 : decode (eb_b 115) 38 = .ok (.bipush 30, 2) := by decide +kernel
theorem d115_40 : decode (eb_b 115) 40 = .ok (.istore 5, 2) := by decide +kernel
theorem hn115_5 : 5 < eb_ml 115 := by decide
theorem d115_42 : decode (eb_b 115) 42 = .ok (.iload 5, 2) := by decide +kernel
theorem d115_44 : decode (eb_b 115) 44 = .ok (.iconst 1, 1) := by decide +kernel
theorem d115_45 : decode (eb_b 115) 45 = .ok (.if_icmp .lt 40, 3) := by decide +kernel
theorem d115_48 : decode (eb_b 115) 48 = .ok (.aload_n 0, 1) := by decide +kernel
theorem d115_49 : decode (eb_b 115) 49 = .ok (.invokevirtual 160, 3) := by decide +kernel
theorem d115_52 : decode (eb_b 115) 52 = .ok (.getfield 97, 3) := by decide +kernel
theorem d115_55 : decode (eb_b 115) 55 = .ok (.iload_n 1, 1) := by decide +kernel
theorem d115_56 : decode (eb_b 115) 56 = .ok (.aaload, 1) := by decide +kernel
theorem d115_57 : decode (eb_b 115) 57 = .ok (.iload 5, 2) := by decide +kernel
theorem d115_59 : decode (eb_b 115) 59 = .ok (.putfield 106, 3) := by decide +kernel
theorem d115_62 : decode (eb_b 115) 62 = .ok (.aload_n 0, 1) := by decide +kernel
theorem d115_63 : decode (eb_b 115) 63 = .ok (.getfield 16, 3) := by decide +kernel
theorem d115_66 : decode (eb_b 115) 66 = .ok (.iload_n 2, 1) := by decide +kernel
theorem d115_67 : decode (eb_b 115) 67 = .ok (.iload_n 3, 1) := by decide +kernel
theorem d115_68 : decode (eb_b 115) 68 = .ok (.iload 4, 2) := by decide +kernel
theorem d115_70 : decode (eb_b 115) 70 = .ok (.invokevirtual 291, 3) := by decide +kernel
theorem wc_64 : Cond.code (eb_y 64) (eb_b 64) (eb_ml 64) (eb_rt 64) ∈ eb_LT := eb_lt 882 (by decide +kernel)
theorem cy_64 : (eb_y 64).cls = eb_cN (eb_rc 64) ∧ (eb_y 64).cls ≠ "java/lang/invoke/MethodHandle" ∧ (eb_y 64).cls ≠ "java/lang/invoke/VarHandle" ∧ (parseMethodDescriptor (eb_y 64).desc).map (fun d => d.parameters.length) = some 3 := by decide +kernel
theorem wi_64 : Cond.instanceMethod (eb_y 64) ∈ eb_LT := eb_lt 880 (by decide +kernel)
theorem wse_64 : Cond.selects (eb_cN (eb_rc 64)) (eb_y 64) (eb_y 64) ∈ eb_LT := eb_lt 881 (by decide +kernel)
theorem kV_64 {L q0 m pc : Nat} {lg : Nat → Bool} {ix : Nat} (hw : Cond.methodLink (eb_own m) ix (eb_y 64) ∈ eb_LT) (hd : decode (eb_b m) pc = .ok (.invokevirtual ix, 3)) : eb_Snd L q0 m pc lg (op_call 64 4 (pc + 3)) := sn_callV false rfl (Or.inr ⟨rfl, _, rfl⟩) (by decide) rfl (by decide) ⟨⟨hw, wi_64, wse_64⟩, wc_64⟩ cy_64 hd
theorem wm_5_291 : Cond.methodLink (eb_cN 5) 291 (eb_y 64) ∈ eb_LT := eb_lt 879 (by decide +kernel)
theorem d115_73 : decode (eb_b 115) 73 = .ok (.ifCond .eq 6, 3) := by decide +kernel
theorem d115_76 : decode (eb_b 115) 76 = .ok (.iload 5, 2) := by decide +kernel
theorem d115_78 : decode (eb_b 115) 78 = .ok (.ireturn, 1) := by decide +kernel
theorem d115_79 : decode (eb_b 115) 79 = .ok (.iinc 5 (-1), 3) := by decide +kernel
theorem d115_82 : decode (eb_b 115) 82 = .ok (.goto (-40), 3) := by decide +kernel
theorem d115_85 : decode (eb_b 115) 85 = .ok (.iconst (-1), 1) := by decide +kernel
theorem d115_86 : decode (eb_b 115) 86 = .ok (.ireturn, 1) := by decide +kernel
theorem d116_0 : decode (eb_b 116) 0 = .ok (.aload_n 0, 1) := by decide +kernel
theorem d116_1 : decode (eb_b 116) 1 = .ok (.iload_n 1, 1) := by decide +kernel
theorem d116_2 : decode (eb_b 116) 2 = .ok (.invokevirtual 123, 3) := by decide +kernel
theorem d116_5 : decode (eb_b 116) 5 = .ok (.ifCond .ne 10, 3) := by decide +kernel
theorem d116_8 : decode (eb_b 116) 8 = .ok (.aload_n 0, 1) := by decide +kernel
theorem d116_9 : decode (eb_b 116) 9 = .ok (.bipush (-2), 2) := by decide +kernel
theorem d116_11 : decode (eb_b 116) 11 = .ok (.invokevirtual 48, 3) := by decide +kernel
theorem d116_14 : decode (eb_b 116) 14 = .ok (.ireturn, 1) := by decide +kernel
theorem d116_15 : decode (eb_b 116) 15 = .ok (.aload_n 0, 1) := by decide +kernel
theorem d116_16 : decode (eb_b 116) 16 = .ok (.invokevirtual 160, 3) := by decide +kernel
theorem d116_19 : decode (eb_b 116) 19 = .ok (.iconst 0, 1) := by decide +kernel
theorem d116_20 : decode (eb_b 116) 20 = .ok (.invokevirtual 144, 3) := by decide +kernel
theorem d116_23 : decode (eb_b 116) 23 = .ok (.pop, 1) := by decide +kernel
theorem d116_24 : decode (eb_b 116) 24 = .ok (.iconst 1, 1) := by decide +kernel
theorem d116_25 : decode (eb_b 116) 25 = .ok (.istore_n 2, 1) := by decide +kernel
theorem hn116_2 : 2 < eb_ml 116 := by decide
theorem d116_26 : decode (eb_b 116) 26 = .ok (.iload_n 2, 1) := by decide +kernel
theorem d116_27 : decode (eb_b 116) 27 = .ok (.bipush 30, 2) := by decide +kernel
theorem d116_29 : decode (eb_b 116) 29 = .ok (.if_icmp .gt 47, 3) := by decide +kernel
theorem d116_32 : decode (eb_b 116) 32 = .ok (.aload_n 0, 1) := by decide +kernel
theorem d116_33 : decode (eb_b 116) 33 = .ok (.getfield 16, 3) := by decide +kernel
theorem d116_36 : decode (eb_b 116) 36 = .ok (.iconst 1, 1) := by decide +kernel
theorem d116_37 : decode (eb_b 116) 37 = .ok (.invokevirtual 258, 3) := by decide +kernel
theorem d116_40 : decode (eb_b 116) 40 = .ok (.pop, 1) := by decide +kernel
theorem d116_41 : decode (eb_b 116) 41 = .ok (.aload_n 0, 1) := by decide +kernel
theorem d116_42 : decode (eb_b 116) 42 = .ok (.getfield 16, 3) := by decide +kernel
theorem d116_45 : decode (eb_b 116) 45 = .ok (.getfield 126, 3) := by decide +kernel
theorem d116_48 : decode (eb_b 116) 48 = .ok (.iload_n 1, 1) := by decide +kernel
theorem d116_49 : decode (eb_b 116) 49 = .ok (.aaload, 1) := by decide +kernel
theorem d116_50 : decode (eb_b 116) 50 = .ok (.getfield 130, 3) := by decide +kernel
theorem d116_53 : decode (eb_b 116) 53 = .ok (.aload_n 0, 1) := by decide +kernel
theorem d116_54 : decode (eb_b 116) 54 = .ok (.getfield 16, 3) := by decide +kernel
theorem d116_57 : decode (eb_b 116) 57 = .ok (.getfield 126, 3) := by decide +kernel
theorem d116_60 : decode (eb_b 116) 60 = .ok (.iload_n 1, 1) := by decide +kernel
theorem d116_61 : decode (eb_b 116) 61 = .ok (.aaload, 1) := by decide +kernel
theorem d116_62 : decode (eb_b 116) 62 = .ok (.getfield 175, 3) := by decide +kernel
theorem d116_65 : decode (eb_b 116) 65 = .ok (.if_icmp .lt 5, 3) := by decide +kernel
theorem d116_68 : decode (eb_b 116) 68 = .ok (.iload_n 2, 1) := by decide +kernel
theorem d116_69 : decode (eb_b 116) 69 = .ok (.ireturn, 1) := by decide +kernel
theorem d116_70 : decode (eb_b 116) 70 = .ok (.iinc 2 1, 3) := by decide +kernel
theorem d116_73 : decode (eb_b 116) 73 = .ok (.goto (-47), 3) := by decide +kernel
theorem d116_76 : decode (eb_b 116) 76 = .ok (.iconst (-1), 1) := by decide +kernel
theorem d116_77 : decode (eb_b 116) 77 = .ok (.ireturn, 1) := by decide +kernel
theorem d117_0 : decode (eb_b 117) 0 = .ok (.iload_n 1, 1) := by decide +kernel
theorem d117_1 : decode (eb_b 117) 1 = .ok (.invokestatic 255, 3) := by decide +kernel
theorem d117_4 : decode (eb_b 117) 4 = .ok (.ifCond .eq 11, 3) := by decide +kernel
theorem d117_7 : decode (eb_b 117) 7 = .ok (.aload_n 0, 1) := by decide +kernel
theorem d117_8 : decode (eb_b 117) 8 = .ok (.iload_n 2, 1) := by decide +kernel
theorem d117_9 : decode (eb_b 117) 9 = .ok (.invokevirtual 123, 3) := by decide +kernel
theorem d117_12 : decode (eb_b 117) 12 = .ok (.ifCond .ne 10, 3) := by decide +kernel
theorem d117_15 : decode (eb_b 117) 15 = .ok (.aload_n 0, 1) := by decide +kernel
theorem d117_16 : decode (eb_b 117) 16 = .ok (.bipush (-2), 2) := by decide +kernel
theorem d117_18 : decode (eb_b 117) 18 = .ok (.invokevirtual 48, 3) := by decide +kernel
theorem d117_21 : decode (eb_b 117) 21 = .ok (.ireturn, 1) := by decide +kernel
theorem d117_22 : decode (eb_b 117) 22 = .ok (.iconst 0, 1) := by decide +kernel
theorem d117_23 : decode (eb_b 117) 23 = .ok (.istore_n 3, 1) := by decide +kernel
theorem hn117_3 : 3 < eb_ml 117 := by decide
theorem d117_24 : decode (eb_b 117) 24 = .ok (.iconst (-1), 1) := by decide +kernel
theorem d117_25 : decode (eb_b 117) 25 = .ok (.istore 4, 2) := by decide +kernel
theorem hn117_4 : 4 < eb_ml 117 := by decide
theorem d117_27 : decode (eb_b 117) 27 = .ok (.iconst 0, 1) := by decide +kernel
theorem d117_28 : decode (eb_b 117) 28 = .ok (.istore 5, 2) := by decide +kernel
theorem hn117_5 : 5 < eb_ml 117 := by decide
theorem d117_30 : decode (eb_b 117) 30 = .ok (.iload 5, 2) := by decide +kernel
theorem d117_32 : decode (eb_b 117) 32 = .ok (.bipush 99, 2) := by decide +kernel
theorem d117_34 : decode (eb_b 117) 34 = .ok (.if_icmp .gt 66, 3) := by decide +kernel
theorem d117_37 : decode (eb_b 117) 37 = .ok (.aload_n 0, 1) := by decide +kernel
theorem d117_38 : decode (eb_b 117) 38 = .ok (.invokevirtual 160, 3) := by decide +kernel
theorem d117_41 : decode (eb_b 117) 41 = .ok (.getfield 126, 3) := by decide +kernel
theorem d117_44 : decode (eb_b 117) 44 = .ok (.iload_n 2, 1) := by decide +kernel
theorem d117_45 : decode (eb_b 117) 45 = .ok (.aaload, 1) := by decide +kernel
theorem d117_46 : decode (eb_b 117) 46 = .ok (.iload 5, 2) := by decide +kernel
theorem d117_48 : decode (eb_b 117) 48 = .ok (.putfield 135, 3) := by decide +kernel
theorem d117_51 : decode (eb_b 117) 51 = .ok (.aload_n 0, 1) := by decide +kernel
theorem d117_52 : decode (eb_b 117) 52 = .ok (.getfield 16, 3) := by decide +kernel
theorem d117_55 : decode (eb_b 117) 55 = .ok (.iload_n 1, 1) := by decide +kernel
theorem d117_56 : decode (eb_b 117) 56 = .ok (.invokevirtual 258, 3) := by decide +kernel
theorem d117_59 : decode (eb_b 117) 59 = .ok (.pop, 1) := by decide +kernel
theorem d117_60 : decode (eb_b 117) 60 = .ok (.aload_n 0, 1) := by decide +kernel
theorem d117_61 : decode (eb_b 117) 61 = .ok (.getfield 16, 3) := by decide +kernel
theorem d117_64 : decode (eb_b 117) 64 = .ok (.getfield 126, 3) := by decide +kernel
theorem d117_67 : decode (eb_b 117) 67 = .ok (.iload_n 2, 1) := by decide +kernel
theorem d117_68 : decode (eb_b 117) 68 = .ok (.aaload, 1) := by decide +kernel
theorem d117_69 : decode (eb_b 117) 69 = .ok (.getfield 264, 3) := by decide +kernel
theorem d117_72 : decode (eb_b 117) 72 = .ok (.iload 4, 2) := by decide +kernel
theorem d117_74 : decode (eb_b 117) 74 = .ok (.if_icmp .le 20, 3) := by decide +kernel
theorem d117_77 : decode (eb_b 117) 77 = .ok (.iload 5, 2) := by decide +kernel
theorem d117_79 : decode (eb_b 117) 79 = .ok (.istore_n 3, 1) := by decide +kernel
theorem d117_80 : decode (eb_b 117) 80 = .ok (.aload_n 0, 1) := by decide +kernel
theorem d117_81 : decode (eb_b 117) 81 = .ok (.getfield 16, 3) := by decide +kernel
theorem d117_84 : decode (eb_b 117) 84 = .ok (.getfield 126, 3) := by decide +kernel
theorem d117_87 : decode (eb_b 117) 87 = .ok (.iload_n 2, 1) := by decide +kernel
theorem d117_88 : decode (eb_b 117) 88 = .ok (.aaload, 1) := by decide +kernel
theorem d117_89 : decode (eb_b 117) 89 = .ok (.getfield 264, 3) := by decide +kernel
theorem d117_92 : decode (eb_b 117) 92 = .ok (.istore 4, 2) := by decide +kernel
theorem d117_94 : decode (eb_b 117) 94 = .ok (.iinc 5 1, 3) := by decide +kernel
theorem d117_97 : decode (eb_b 117) 97 = .ok (.goto (-67), 3) := by decide +kernel
theorem d117_100 : decode (eb_b 117) 100 = .ok (.iload_n 3, 1) := by decide +kernel
theorem d117_101 : decode (eb_b 117) 101 = .ok (.ireturn, 1) := by decide +kernel
theorem d118_0 : decode (eb_b 118) 0 = .ok (.aload_n 0, 1) := by decide +kernel
theorem d118_1 : decode (eb_b 118) 1 = .ok (.getfield 10, 3) := by decide +kernel
theorem d118_4 : decode (eb_b 118) 4 = .ok (.iconst 1, 1) := by decide +kernel
theorem d118_5 : decode (eb_b 118) 5 = .ok (.invokevirtual 258, 3) := by decide +kernel
theorem d118_8 : decode (eb_b 118) 8 = .ok (.ireturn, 1) := by decide +kernel
theorem d119_0 : decode (eb_b 119) 0 = .ok (.iload_n 1, 1) := by decide +kernel
theorem d119_1 : decode (eb_b 119) 1 = .ok (.invokestatic 255, 3) := by decide +kernel
theorem d119_4 : decode (eb_b 119) 4 = .ok (.ifCond .eq 14, 3) := by decide +kernel
theorem d119_7 : decode (eb_b 119) 7 = .ok (.aload_n 0, 1) := by decide +kernel
theorem d119_8 : decode (eb_b 119) 8 = .ok (.getfield 10, 3) := by decide +kernel
theorem d119_11 : decode (eb_b 119) 11 = .ok (.iload_n 1, 1) := by decide +kernel
theorem d119_12 : decode (eb_b 119) 12 = .ok (.invokevirtual 258, 3) := by decide +kernel
theorem d119_15 : decode (eb_b 119) 15 = .ok (.goto 9, 3) := by decide +kernel
theorem d119_18 : decode (eb_b 119) 18 = .ok (.aload_n 0, 1) := by decide +kernel
theorem d119_19 : decode (eb_b 119) 19 = .ok (.bipush (-2), 2) := by decide +kernel
theorem d119_21 : decode (eb_b 119) 21 = .ok (.invokevirtual 190, 3) := by decide +kernel
theorem d119_24 : decode (eb_b 119) 24 = .ok (.ireturn, 1) := by decide +kernel
theorem d120_0 : decode (eb_b 120) 0 = .ok (.iload_n 1, 1) := by decide +kernel
theorem d120_1 : decode (eb_b 120) 1 = .ok (.iconst 1, 1) := by decide +kernel
theorem d120_2 : decode (eb_b 120) 2 = .ok (.bipush 40, 2) := by decide +kernel
theorem d120_4 : decode (eb_b 120) 4 = .ok (.invokestatic 44, 3) := by decide +kernel
theorem d120_7 : decode (eb_b 120) 7 = .ok (.ifCond .ne 10, 3) := by decide +kernel
theorem d120_10 : decode (eb_b 120) 10 = .ok (.aload_n 0, 1) := by decide +kernel
theorem d120_11 : decode (eb_b 120) 11 = .ok (.bipush (-2), 2) := by decide +kernel
theorem d120_13 : decode (eb_b 120) 13 = .ok (.invokevirtual 48, 3) := by decide +kernel
theorem d120_16 : decode (eb_b 120) 16 = .ok (.ireturn, 1) := by decide +kernel
theorem d120_17 : decode (eb_b 120) 17 = .ok (.aload_n 0, 1) := by decide +kernel
theorem d120_18 : decode (eb_b 120) 18 = .ok (.getfield 10, 3) := by decide +kernel
theorem d120_21 : decode (eb_b 120) 21 = .ok (.getfield 235, 3) := by decide +kernel
theorem d120_24 : decode (eb_b 120) 24 = .ok (.iconst 1, 1) := by decide +kernel
theorem d120_25 : decode (eb_b 120) 25 = .ok (.if_icmp .ge 10, 3) := by decide +kernel
theorem d120_28 : decode (eb_b 120) 28 = .ok (.aload_n 0, 1) := by decide +kernel
theorem d120_29 : decode (eb_b 120) 29 = .ok (.bipush (-5), 2) := by decide +kernel
theorem d120_31 : decode (eb_b 120) 31 = .ok (.invokevirtual 48, 3) := by decide +kernel
theorem d120_34 : decode (eb_b 120) 34 = .ok (.ireturn, 1) := by decide +kernel
theorem d120_35 : decode (eb_b 120) 35 = .ok (.iconst 0, 1) := by decide +kernel
theorem d120_36 : decode (eb_b 120) 36 = .ok (.istore_n 2, 1) := by decide +kernel
theorem hn120_2 : 2 < eb_ml 120 := by decide
theorem d120_37 : decode (eb_b 120) 37 = .ok (.iconst 0, 1) := by decide +kernel
theorem d120_38 : decode (eb_b 120) 38 = .ok (.istore_n 3, 1) := by decide +kernel
theorem hn120_3 : 3 < eb_ml 120 := by decide
theorem d120_39 : decode (eb_b 120) 39 = .ok (.iload_n 3, 1) := by decide +kernel
theorem d120_40 : decode (eb_b 120) 40 = .ok (.iload_n 1, 1) := by decide +kernel
theorem d120_41 : decode (eb_b 120) 41 = .ok (.if_icmp .ge 22, 3) := by decide +kernel
theorem d120_44 : decode (eb_b 120) 44 = .ok (.aload_n 0, 1) := by decide +kernel
theorem d120_45 : decode (eb_b 120) 45 = .ok (.getfield 10, 3) := by decide +kernel
theorem d120_48 : decode (eb_b 120) 48 = .ok (.invokevirtual 294, 3) := by decide +kernel
theorem wc_65 : Cond.code (eb_y 65) (eb_b 65) (eb_ml 65) (eb_rt 65) ∈ eb_LT := eb_lt 907 (by decide +kernel)
theorem cy_65 : (eb_y 65).cls = eb_cN (eb_rc 65) ∧ (eb_y 65).cls ≠ "java/lang/invoke/MethodHandle" ∧ (eb_y 65).cls ≠ "java/lang/invoke/VarHandle" ∧ (parseMethodDescriptor (eb_y 65).desc).map (fun d => d.parameters.length) = some 0 := by decide +kernel
theorem wi_65 : Cond.instanceMethod (eb_y 65) ∈ eb_LT := eb_lt 905 (by decide +kernel)
theorem wse_65 : Cond.selects (eb_cN (eb_rc 65)) (eb_y 65) (eb_y 65) ∈ eb_LT := eb_lt 906 (by decide +kernel)
theorem kV_65 {L q0 m pc : Nat} {lg : Nat → Bool} {ix : Nat} (hw : Cond.methodLink (eb_own m) ix (eb_y 65) ∈ eb_LT) (hd : decode (eb_b m) pc = .ok (.invokevirtual ix, 3)) : eb_Snd L q0 m pc lg (op_call 65 1 (pc + 3)) := sn_callV false rfl (Or.inr ⟨rfl, _, rfl⟩) (by decide) rfl (by decide) ⟨⟨hw, wi_65, wse_65⟩, wc_65⟩ cy_65 hd
theorem wm_5_294 : Cond.methodLink (eb_cN 5) 294 (eb_y 65) ∈ eb_LT := eb_lt 904 (by decide +kernel)
theorem d120_51 : decode (eb_b 120) 51 = .ok (.ifCond .eq 6, 3) := by decide +kernel
theorem d120_54 : decode (eb_b 120) 54 = .ok (.iinc 2 1, 3) := by decide +kernel
theorem d120_57 : decode (eb_b 120) 57 = .ok (.iinc 3 1, 3) := by decide +kernel
theorem d120_60 : decode (eb_b 120) 60 = .ok (.goto (-21), 3) := by decide +kernel
theorem d120_63 : decode (eb_b 120) 63 = .ok (.iload_n 2, 1) := by decide +kernel
theorem d120_64 : decode (eb_b 120) 64 = .ok (.ireturn, 1) := by decide +kernel
theorem d121_0 : decode (eb_b 121) 0 = .ok (.aload_n 0, 1) := by decide +kernel
theorem d121_1 : decode (eb_b 121) 1 = .ok (.getfield 10, 3) := by decide +kernel
theorem d121_4 : decode (eb_b 121) 4 = .ok (.getfield 297, 3) := by decide +kernel
theorem wf_5_297 : Cond.fieldLink (eb_cN 5) 297 (eb_tT 4 6).1 (eb_tT 4 6).2.1 (eb_tT 4 6).2.2.1 ∈ eb_LT := eb_lt 213 (by decide +kernel)
theorem d121_7 : decode (eb_b 121) 7 = .ok (.istore_n 2, 1) := by decide +kernel
theorem hn121_2 : 2 < eb_ml 121 := by decide
theorem d121_8 : decode (eb_b 121) 8 = .ok (.aload_n 0, 1) := by decide +kernel
theorem d121_9 : decode (eb_b 121) 9 = .ok (.getfield 10, 3) := by decide +kernel
theorem d121_12 : decode (eb_b 121) 12 = .ok (.iload_n 1, 1) := by decide +kernel
theorem d121_13 : decode (eb_b 121) 13 = .ok (.putfield 297, 3) := by decide +kernel
theorem d121_16 : decode (eb_b 121) 16 = .ok (.iload_n 2, 1) := by decide +kernel
theorem d121_17 : decode (eb_b 121) 17 = .ok (.ireturn, 1) := by decide +kernel
theorem d122_0 : decode (eb_b 122) 0 = .ok (.aload_n 0, 1) := by decide +kernel
theorem d122_1 : decode (eb_b 122) 1 = .ok (.getfield 19, 3) := by decide +kernel
theorem d122_4 : decode (eb_b 122) 4 = .ok (.aload_n 0, 1) := by decide +kernel
theorem d122_5 : decode (eb_b 122) 5 = .ok (.getfield 10, 3) := by decide +kernel
theorem d122_8 : decode (eb_b 122) 8 = .ok (.invokevirtual 171, 3) := by decide +kernel
theorem d122_11 : decode (eb_b 122) 11 = .ok (.aload_n 0, 1) := by decide +kernel
theorem d122_12 : decode (eb_b 122) 12 = .ok (.iconst 1, 1) := by decide +kernel
theorem d122_13 : decode (eb_b 122) 13 = .ok (.putfield 300, 3) := by decide +kernel
theorem wf_5_300 : Cond.fieldLink (eb_cN 5) 300 (eb_tT 5 3).1 (eb_tT 5 3).2.1 (eb_tT 5 3).2.2.1 ∈ eb_LT := eb_lt 283 (by decide +kernel)
theorem fi_5_3 : 3 < eb_nf 5 ∧ (eb_tt 5 3).isReference = false := ⟨by decide, rfl⟩
theorem fp_5_3 : ∀ x : Int32, x = 0 ∨ x = 1 → narrow (eb_tt 5 3) (.int x) = .int x ∧ fits (eb_tt 5 3) (.int x) = true := fun x h => by rcases h with rfl | rfl <;> exact ⟨rfl, rfl⟩
theorem d122_16 : decode (eb_b 122) 16 = .ok (.iconst 1, 1) := by decide +kernel
theorem d122_17 : decode (eb_b 122) 17 = .ok (.ireturn, 1) := by decide +kernel
theorem d123_0 : decode (eb_b 123) 0 = .ok (.aload_n 0, 1) := by decide +kernel
theorem d123_1 : decode (eb_b 123) 1 = .ok (.getfield 300, 3) := by decide +kernel
theorem d123_4 : decode (eb_b 123) 4 = .ok (.ifCond .ne 10, 3) := by decide +kernel
theorem d123_7 : decode (eb_b 123) 7 = .ok (.aload_n 0, 1) := by decide +kernel
theorem d123_8 : decode (eb_b 123) 8 = .ok (.bipush (-5), 2) := by decide +kernel
theorem d123_10 : decode (eb_b 123) 10 = .ok (.invokevirtual 48, 3) := by decide +kernel
theorem d123_13 : decode (eb_b 123) 13 = .ok (.ireturn, 1) := by decide +kernel
theorem d123_14 : decode (eb_b 123) 14 = .ok (.aload_n 0, 1) := by decide +kernel
theorem d123_15 : decode (eb_b 123) 15 = .ok (.getfield 10, 3) := by decide +kernel
theorem d123_18 : decode (eb_b 123) 18 = .ok (.aload_n 0, 1) := by decide +kernel
theorem d123_19 : decode (eb_b 123) 19 = .ok (.getfield 19, 3) := by decide +kernel
theorem d123_22 : decode (eb_b 123) 22 = .ok (.invokevirtual 171, 3) := by decide +kernel
theorem d123_25 : decode (eb_b 123) 25 = .ok (.iconst 0, 1) := by decide +kernel
theorem d123_26 : decode (eb_b 123) 26 = .ok (.istore_n 1, 1) := by decide +kernel
theorem hn123_1 : 1 < eb_ml 123 := by decide
theorem d123_27 : decode (eb_b 123) 27 = .ok (.iload_n 1, 1) := by decide +kernel
theorem d123_28 : decode (eb_b 123) 28 = .ok (.bipush 8, 2) := by decide +kernel
theorem d123_30 : decode (eb_b 123) 30 = .ok (.if_icmp .ge 50, 3) := by decide +kernel
theorem d123_33 : decode (eb_b 123) 33 = .ok (.aload_n 0, 1) := by decide +kernel
theorem d123_34 : decode (eb_b 123) 34 = .ok (.getfield 24, 3) := by decide +kernel
theorem d123_37 : decode (eb_b 123) 37 = .ok (.iload_n 1, 1) := by decide +kernel
theorem d123_38 : decode (eb_b 123) 38 = .ok (.aaload, 1) := by decide +kernel
theorem d123_39 : decode (eb_b 123) 39 = .ok (.invokevirtual 70, 3) := by decide +kernel
theorem d123_42 : decode (eb_b 123) 42 = .ok (.ifCond .eq 32, 3) := by decide +kernel
theorem d123_45 : decode (eb_b 123) 45 = .ok (.aload_n 0, 1) := by decide +kernel
theorem d123_46 : decode (eb_b 123) 46 = .ok (.aload_n 0, 1) := by decide +kernel
theorem d123_47 : decode (eb_b 123) 47 = .ok (.getfield 24, 3) := by decide +kernel
theorem d123_50 : decode (eb_b 123) 50 = .ok (.iload_n 1, 1) := by decide +kernel
theorem d123_51 : decode (eb_b 123) 51 = .ok (.aaload, 1) := by decide +kernel
theorem d123_52 : decode (eb_b 123) 52 = .ok (.getfield 67, 3) := by decide +kernel
theorem d123_55 : decode (eb_b 123) 55 = .ok (.bipush 10, 2) := by decide +kernel
theorem d123_57 : decode (eb_b 123) 57 = .ok (.isub, 1) := by decide +kernel
theorem d123_58 : decode (eb_b 123) 58 = .ok (.invokevirtual 94, 3) := by decide +kernel
theorem d123_61 : decode (eb_b 123) 61 = .ok (.ifCond .ne 13, 3) := by decide +kernel
theorem d123_64 : decode (eb_b 123) 64 = .ok (.aload_n 0, 1) := by decide +kernel
theorem d123_65 : decode (eb_b 123) 65 = .ok (.getfield 24, 3) := by decide +kernel
theorem d123_68 : decode (eb_b 123) 68 = .ok (.iload_n 1, 1) := by decide +kernel
theorem d123_69 : decode (eb_b 123) 69 = .ok (.aaload, 1) := by decide +kernel
theorem d123_70 : decode (eb_b 123) 70 = .ok (.iconst (-1), 1) := by decide +kernel
theorem d123_71 : decode (eb_b 123) 71 = .ok (.putfield 67, 3) := by decide +kernel
theorem d123_74 : decode (eb_b 123) 74 = .ok (.iinc 1 1, 3) := by decide +kernel
theorem d123_77 : decode (eb_b 123) 77 = .ok (.goto (-50), 3) := by decide +kernel
theorem d123_80 : decode (eb_b 123) 80 = .ok (.iconst 1, 1) := by decide +kernel
theorem d123_81 : decode (eb_b 123) 81 = .ok (.ireturn, 1) := by decide +kernel
section
variable {L q0 : Nat}
theorem sc95_0 : eb_AS L q0 95 (eb_lg 95) [(0, op_aload 0 1), (1, op_iload 1 2), (2, op_call 131 2 5), (5, op_ifeq 19 8), (8, op_aload 0 9), (9, op_getR L 5 0 12), (12, op_iload 1 13), (13, op_call 49 2 16), (16, op_goto 25), (19, op_aload 0 20), (20, op_push (zi (-2)) 22), (22, op_call 125 2 25), (25, op_iret)] := ⟨sn_aload_n d95_0 rfl, sn_iload_n d95_1 rfl, kV_131 wm_5_123 d95_2, sn_ifeq d95_5 (by decide), sn_aload_n d95_8 rfl, sn_getR (by decide) fi_5_0.1 fi_5_0.2 wf_5_10 d95_9, sn_iload_n d95_12 rfl, kV_49 wm_5_225 d95_13, sn_goto d95_16 (by decide), sn_aload_n d95_19 rfl, sn_bipush d95_20 (by decide), kV_125 wm_5_48 d95_22, sn_iret d95_25 rfl, trivial⟩
theorem sd95 : ∀ pc, eb_Snd L q0 95 pc (eb_lg 95) (eb_cd L 95 pc) := eb_AS_all (hk95 (L := L)) (sc95_0)
theorem sc96_0 : eb_AS L q0 96 (eb_lg 96) [(0, op_aload 0 1), (1, op_iload 1 2), (2, op_call 131 2 5), (5, op_ifne 15 8), (8, op_aload 0 9), (9, op_push (zi (-2)) 11), (11, op_call 126 2 14), (14, op_iret), (15, op_aload 0 16), (16, op_getR L 5 0 19), (19, op_getR L 4 0 22), (22, op_iload 1 23), (23, op_aald L 24), (24, op_getI L 1 5 27), (27, op_push (zi 1) 28), (28, op_icge 38 31), (31, op_aload 0 32), (32, op_push (zi (-5)) 34), (34, op_call 126 2 37), (37, op_iret), (38, op_aload 0 39), (39, op_getR L 5 0 42), (42, op_getR L 4 0 45), (45, op_iload 1 46), (46, op_aald L 47), (47, op_push (zi 0) 48), (48, op_push (zi 0) 49), (49, op_call 11 3 52), (52, op_iret)] := ⟨sn_aload_n d96_0 rfl, sn_iload_n d96_1 rfl, kV_131 wm_5_123 d96_2, sn_ifne d96_5 (by decide), sn_aload_n d96_8 rfl, sn_bipush d96_9 (by decide), kV_126 wm_5_190 d96_11, sn_iret d96_14 rfl, sn_aload_n d96_15 rfl, sn_getR (by decide) fi_5_0.1 fi_5_0.2 wf_5_10 d96_16, sn_getR (by decide) fi_4_0.1 fi_4_0.2 wf_5_126 d96_19, sn_iload_n d96_22 rfl, sn_aald d96_23, sn_getI (by decide) fi_1_5.1 fi_1_5.2 wf_5_150 d96_24, sn_iconst d96_27 (by decide), sn_icge d96_28 (by decide), sn_aload_n d96_31 rfl, sn_bipush d96_32 (by decide), kV_126 wm_5_190 d96_34, sn_iret d96_37 rfl, sn_aload_n d96_38 rfl, sn_getR (by decide) fi_5_0.1 fi_5_0.2 wf_5_10 d96_39, sn_getR (by decide) fi_4_0.1 fi_4_0.2 wf_5_126 d96_42, sn_iload_n d96_45 rfl, sn_aald d96_46, sn_iconst d96_47 (by decide), sn_iconst d96_48 (by decide), kV_11 wm_5_228 d96_49, sn_iret d96_52 rfl, trivial⟩
theorem sd96 : ∀ pc, eb_Snd L q0 96 pc (eb_lg 96) (eb_cd L 96 pc) := eb_AS_all (hk96 (L := L)) (sc96_0)
theorem sc97_0 : eb_AS L q0 97 (eb_lg 97) [(0, op_aload 0 1), (1, op_getR L 5 0 4), (4, op_call 46 1 7), (7, op_istore 1 8), (8, op_iload 1 9), (9, op_push (zi (-1)) 10), (10, op_icne 22 13), (13, op_aload 0 14), (14, op_push (zi (-5)) 16), (16, op_call 125 2 19), (19, op_goto 23), (22, op_iload 1 23), (23, op_iret)] := ⟨sn_aload_n d97_0 rfl, sn_getR (by decide) fi_5_0.1 fi_5_0.2 wf_5_10 d97_1, kV_46 wm_5_232 d97_4, sn_istore_n (eb_hlg (Or.inl rfl)) hn97_1 d97_7 rfl, sn_iload_n d97_8 rfl, sn_iconst d97_9 (by decide), sn_icne d97_10 (by decide), sn_aload_n d97_13 rfl, sn_bipush d97_14 (by decide), kV_125 wm_5_48 d97_16, sn_goto d97_19 (by decide), sn_iload_n d97_22 rfl, sn_iret d97_23 rfl, trivial⟩
theorem sd97 : ∀ pc, eb_Snd L q0 97 pc (eb_lg 97) (eb_cd L 97 pc) := eb_AS_all (hk97 (L := L)) (sc97_0)
theorem sc98_0 : eb_AS L q0 98 (eb_lg 98) [(0, op_push (zi (-1)) 1), (1, op_istore 1 2), (2, op_push (zi (-1)) 3), (3, op_istore 2 4), (4, op_push (zi 0) 5), (5, op_istore 3 6), (6, op_iload 3 7), (7, op_aload 0 8), (8, op_getR L 5 0 11), (11, op_getI L 4 2 14), (14, op_icge 74 17), (17, op_aload 0 18), (18, op_getR L 5 0 21), (21, op_getR L 4 0 24), (24, op_iload 3 25), (25, op_aald L 26), (26, op_astore 4 28), (28, op_aload 4 30), (30, op_getI L 1 4 33), (33, op_push (zi (-1)) 34), (34, op_icne 41 37), (37, op_push (zi (-1)) 38), (38, op_goto 55), (41, op_aload 4 43), (43, op_getI L 1 4 46), (46, op_aload 4 48), (48, op_getI L 1 0 51), (51, op_ii (· - ·) 52), (52, op_call 902 1 55), (55, op_istore 5 57), (57, op_iload 5 59), (59, op_iload 2 60), (60, op_icle 68 63), (63, op_iload 3 64), (64, op_istore 1 65), (65, op_iload 5 67), (67, op_istore 2 68), (68, op_iinc 3 1 71), (71, op_goto 6), (74, op_iload 1 75)] := ⟨sn_iconst d98_0 (by decide), sn_istore_n (eb_hlg (Or.inl rfl)) hn98_1 d98_1 rfl, sn_iconst d98_2 (by decide), sn_istore_n (eb_hlg (Or.inl rfl)) hn98_2 d98_3 rfl, sn_iconst d98_4 (by decide), sn_istore_n (eb_hlg (Or.inl rfl)) hn98_3 d98_5 rfl, sn_iload_n d98_6 rfl, sn_aload_n d98_7 rfl, sn_getR (by decide) fi_5_0.1 fi_5_0.2 wf_5_10 d98_8, sn_getI (by decide) fi_4_2.1 fi_4_2.2 wf_5_235 d98_11, sn_icge d98_14 (by decide), sn_aload_n d98_17 rfl, sn_getR (by decide) fi_5_0.1 fi_5_0.2 wf_5_10 d98_18, sn_getR (by decide) fi_4_0.1 fi_4_0.2 wf_5_126 d98_21, sn_iload_n d98_24 rfl, sn_aald d98_25, sn_astore (eb_hlg (Or.inl rfl)) hn98_4 d98_26, sn_aload d98_28, sn_getI (by decide) fi_1_4.1 fi_1_4.2 wf_5_138 d98_30, sn_iconst d98_33 (by decide), sn_icne d98_34 (by decide), sn_iconst d98_37 (by decide), sn_goto d98_38 (by decide), sn_aload d98_41, sn_getI (by decide) fi_1_4.1 fi_1_4.2 wf_5_138 d98_43, sn_aload d98_46, sn_getI (by decide) fi_1_0.1 fi_1_0.2 wf_5_130 d98_48, sn_isub d98_51, sn_abs wm_5_238 d98_52, sn_istore (eb_hlg (Or.inl rfl)) hn98_5 d98_55, sn_iload d98_57, sn_iload_n d98_59 rfl, sn_icle d98_60 (by decide), sn_iload_n d98_63 rfl, sn_istore_n (eb_hlg (Or.inl rfl)) hn98_1 d98_64 rfl, sn_iload d98_65, sn_istore_n (eb_hlg (Or.inl rfl)) hn98_2 d98_67 rfl, sn_iinc (eb_hlg (Or.inl rfl)) hn98_3 d98_68 (by decide), sn_goto d98_71 (by decide), sn_iload_n d98_74 rfl, trivial⟩
theorem sc98_1 : eb_AS L q0 98 (eb_lg 98) [(75, op_iret)] := ⟨sn_iret d98_75 rfl, trivial⟩
theorem sd98 : ∀ pc, eb_Snd L q0 98 pc (eb_lg 98) (eb_cd L 98 pc) := eb_AS_all (hk98 (L := L)) (eb_AS_app sc98_0 (sc98_1))
theorem sc99_0 : eb_AS L q0 99 (eb_lg 99) [(0, op_aload 0 1), (1, op_iload 1 2), (2, op_call 131 2 5), (5, op_ifne 15 8), (8, op_aload 0 9), (9, op_push (zi (-2)) 11), (11, op_call 125 2 14), (14, op_iret), (15, op_push (zi 1) 16), (16, op_istore 2 17), (17, op_iload 2 18), (18, op_push (zi 20) 20), (20, op_icgt 66 23), (23, op_aload 0 24), (24, op_call 138 1 27), (27, op_getR L 4 0 30), (30, op_iload 1 31), (31, op_aald L 32), (32, op_iload 2 33), (33, op_putI L 1 2 36), (36, op_aload 0 37), (37, op_getR L 5 1 40), (40, op_callv 50 1 43), (43, op_aload 0 44), (44, op_getR L 5 1 47), (47, op_getR L 4 0 50), (50, op_iload 1 51), (51, op_aald L 52), (52, op_call 12 1 55), (55, op_ifne 60 58), (58, op_iload 2 59), (59, op_iret), (60, op_iinc 2 1 63), (63, op_goto 17), (66, op_push (zi (-1)) 67), (67, op_iret)] := ⟨sn_aload_n d99_0 rfl, sn_iload_n d99_1 rfl, kV_131 wm_5_123 d99_2, sn_ifne d99_5 (by decide), sn_aload_n d99_8 rfl, sn_bipush d99_9 (by decide), kV_125 wm_5_48 d99_11, sn_iret d99_14 rfl, sn_iconst d99_15 (by decide), sn_istore_n (eb_hlg (Or.inl rfl)) hn99_2 d99_16 rfl, sn_iload_n d99_17 rfl, sn_bipush d99_18 (by decide), sn_icgt d99_20 (by decide), sn_aload_n d99_23 rfl, kV_138 wm_5_160 d99_24, sn_getR (by decide) fi_4_0.1 fi_4_0.2 wf_5_126 d99_27, sn_iload_n d99_30 rfl, sn_aald d99_31, sn_iload_n d99_32 rfl, sn_putI (by decide) fi_1_2.1 fi_1_2.2 wf_5_178 (Or.inl rfl) fp_1_2 d99_33, sn_aload_n d99_36 rfl, sn_getR (by decide) fi_5_1.1 fi_5_1.2 wf_5_16 d99_37, kV_50 wm_5_243 d99_40, sn_aload_n d99_43 rfl, sn_getR (by decide) fi_5_1.1 fi_5_1.2 wf_5_16 d99_44, sn_getR (by decide) fi_4_0.1 fi_4_0.2 wf_5_126 d99_47, sn_iload_n d99_50 rfl, sn_aald d99_51, kV_12 wm_5_246 d99_52, sn_ifne d99_55 (by decide), sn_iload_n d99_58 rfl, sn_iret d99_59 rfl, sn_iinc (eb_hlg (Or.inl rfl)) hn99_2 d99_60 (by decide), sn_goto d99_63 (by decide), sn_iconst d99_66 (by decide), sn_iret d99_67 rfl, trivial⟩
theorem sd99 : ∀ pc, eb_Snd L q0 99 pc (eb_lg 99) (eb_cd L 99 pc) := eb_AS_all (hk99 (L := L)) (sc99_0)
theorem sc100_0 : eb_AS L q0 100 (eb_lg 100) [(0, op_aload 0 1), (1, op_iload 1 2), (2, op_call 132 2 5), (5, op_ifne 15 8), (8, op_aload 0 9), (9, op_push (zi (-2)) 11), (11, op_call 125 2 14), (14, op_iret), (15, op_push (zi (-1)) 16), (16, op_istore 2 17), (17, op_push (zi 0) 18), (18, op_istore 3 19), (19, op_push (zi 0) 20), (20, op_istore 4 22), (22, op_iload 4 24), (24, op_push (zi 6) 26), (26, op_icge 91 29), (29, op_aload 0 30), (30, op_call 138 1 33), (33, op_getR L 4 1 36), (36, op_iload 1 37), (37, op_aald L 38), (38, op_iload 4 40), (40, op_putI L 0 0 43), (43, op_aload 0 44), (44, op_getR L 5 1 47), (47, op_callv 50 1 50), (50, op_aload 0 51), (51, op_getR L 5 1 54), (54, op_aload 0 55), (55, op_getR L 5 1 58), (58, op_getR L 4 1 61), (61, op_iload 1 62), (62, op_aald L 63), (63, op_call 59 2 66), (66, op_istore 5 68), (68, op_iload 2 69), (69, op_push (zi (-1)) 70), (70, op_iceq 79 73), (73, op_iload 5 75)] := ⟨sn_aload_n d100_0 rfl, sn_iload_n d100_1 rfl, kV_132 wm_5_94 d100_2, sn_ifne d100_5 (by decide), sn_aload_n d100_8 rfl, sn_bipush d100_9 (by decide), kV_125 wm_5_48 d100_11, sn_iret d100_14 rfl, sn_iconst d100_15 (by decide), sn_istore_n (eb_hlg (Or.inl rfl)) hn100_2 d100_16 rfl, sn_iconst d100_17 (by decide), sn_istore_n (eb_hlg (Or.inl rfl)) hn100_3 d100_18 rfl, sn_iconst d100_19 (by decide), sn_istore (eb_hlg (Or.inl rfl)) hn100_4 d100_20, sn_iload d100_22, sn_bipush d100_24 (by decide), sn_icge d100_26 (by decide), sn_aload_n d100_29 rfl, kV_138 wm_5_160 d100_30, sn_getR (by decide) fi_4_1.1 fi_4_1.2 wf_5_97 d100_33, sn_iload_n d100_36 rfl, sn_aald d100_37, sn_iload d100_38, sn_putI (by decide) fi_0_0.1 fi_0_0.2 wf_5_184 (Or.inl rfl) fp_0_0 d100_40, sn_aload_n d100_43 rfl, sn_getR (by decide) fi_5_1.1 fi_5_1.2 wf_5_16 d100_44, kV_50 wm_5_243 d100_47, sn_aload_n d100_50 rfl, sn_getR (by decide) fi_5_1.1 fi_5_1.2 wf_5_16 d100_51, sn_aload_n d100_54 rfl, sn_getR (by decide) fi_5_1.1 fi_5_1.2 wf_5_16 d100_55, sn_getR (by decide) fi_4_1.1 fi_4_1.2 wf_5_97 d100_58, sn_iload_n d100_61 rfl, sn_aald d100_62, kV_59 wm_5_219 d100_63, sn_istore (eb_hlg (Or.inl rfl)) hn100_5 d100_66, sn_iload_n d100_68 rfl, sn_iconst d100_69 (by decide), sn_iceq d100_70 (by decide), sn_iload d100_73, trivial⟩
theorem sc100_1 : eb_AS L q0 100 (eb_lg 100) [(75, op_iload 3 76), (76, op_icle 85 79), (79, op_iload 4 81), (81, op_istore 2 82), (82, op_iload 5 84), (84, op_istore 3 85), (85, op_iinc 4 1 88), (88, op_goto 22), (91, op_iload 2 92), (92, op_iret)] := ⟨sn_iload_n d100_75 rfl, sn_icle d100_76 (by decide), sn_iload d100_79, sn_istore_n (eb_hlg (Or.inl rfl)) hn100_2 d100_81 rfl, sn_iload d100_82, sn_istore_n (eb_hlg (Or.inl rfl)) hn100_3 d100_84 rfl, sn_iinc (eb_hlg (Or.inl rfl)) hn100_4 d100_85 (by decide), sn_goto d100_88 (by decide), sn_iload_n d100_91 rfl, sn_iret d100_92 rfl, trivial⟩
theorem sd100 : ∀ pc, eb_Snd L q0 100 pc (eb_lg 100) (eb_cd L 100 pc) := eb_AS_all (hk100 (L := L)) (eb_AS_app sc100_0 (sc100_1))
theorem sc101_0 : eb_AS L q0 101 (eb_lg 101) [(0, op_aload 0 1), (1, op_iload 1 2), (2, op_call 131 2 5), (5, op_ifne 15 8), (8, op_aload 0 9), (9, op_push (zi (-2)) 11), (11, op_call 125 2 14), (14, op_iret), (15, op_aload 0 16), (16, op_call 138 1 19), (19, op_pop 20), (20, op_push (zi 99) 22), (22, op_istore 2 23), (23, op_iload 2 24), (24, op_iflt 54 27), (27, op_aload 0 28), (28, op_getR L 5 1 31), (31, op_iload 2 32), (32, op_putI L 4 4 35), (35, op_aload 0 36), (36, op_getR L 5 1 39), (39, op_iload 1 40), (40, op_call 49 2 43), (43, op_ifle 48 46), (46, op_iload 2 47), (47, op_iret), (48, op_iinc 2 (-1) 51), (51, op_goto 23), (54, op_push (zi (-1)) 55), (55, op_iret)] := ⟨sn_aload_n d101_0 rfl, sn_iload_n d101_1 rfl, kV_131 wm_5_123 d101_2, sn_ifne d101_5 (by decide), sn_aload_n d101_8 rfl, sn_bipush d101_9 (by decide), kV_125 wm_5_48 d101_11, sn_iret d101_14 rfl, sn_aload_n d101_15 rfl, kV_138 wm_5_160 d101_16, sn_pop d101_19, sn_bipush d101_20 (by decide), sn_istore_n (eb_hlg (Or.inl rfl)) hn101_2 d101_22 rfl, sn_iload_n d101_23 rfl, sn_iflt d101_24 (by decide), sn_aload_n d101_27 rfl, sn_getR (by decide) fi_5_1.1 fi_5_1.2 wf_5_16 d101_28, sn_iload_n d101_31 rfl, sn_putI (by decide) fi_4_4.1 fi_4_4.2 wf_5_153 (Or.inl rfl) fp_4_4 d101_32, sn_aload_n d101_35 rfl, sn_getR (by decide) fi_5_1.1 fi_5_1.2 wf_5_16 d101_36, sn_iload_n d101_39 rfl, kV_49 wm_5_225 d101_40, sn_ifle d101_43 (by decide), sn_iload_n d101_46 rfl, sn_iret d101_47 rfl, sn_iinc (eb_hlg (Or.inl rfl)) hn101_2 d101_48 (by decide), sn_goto d101_51 (by decide), sn_iconst d101_54 (by decide), sn_iret d101_55 rfl, trivial⟩
theorem sd101 : ∀ pc, eb_Snd L q0 101 pc (eb_lg 101) (eb_cd L 101 pc) := eb_AS_all (hk101 (L := L)) (sc101_0)
theorem sc102_0 : eb_AS L q0 102 (eb_lg 102) [(0, op_aload 0 1), (1, op_iload 1 2), (2, op_call 132 2 5), (5, op_ifne 15 8), (8, op_aload 0 9), (9, op_push (zi (-2)) 11), (11, op_call 125 2 14), (14, op_iret), (15, op_aload 0 16), (16, op_getR L 5 0 19), (19, op_call 46 1 22), (22, op_istore 2 23), (23, op_aload 0 24), (24, op_getR L 5 0 27), (27, op_getR L 4 1 30), (30, op_iload 1 31), (31, op_aald L 32), (32, op_getI L 0 1 35), (35, op_istore 3 36), (36, op_aload 0 37), (37, op_iload 2 38), (38, op_call 131 2 41), (41, op_ifeq 49 44), (44, op_iload 3 45), (45, op_push (zi 1) 46), (46, op_icge 56 49), (49, op_aload 0 50), (50, op_push (zi (-5)) 52), (52, op_call 125 2 55), (55, op_iret), (56, op_push (zi 100) 58), (58, op_aload 0 59), (59, op_call 137 1 62), (62, op_getR L 4 1 65), (65, op_iload 1 66), (66, op_aald L 67), (67, op_getR L 0 3 70), (70, op_iload 2 71), (71, op_iald L 72), (72, op_ii (· * ·) 73)] := ⟨sn_aload_n d102_0 rfl, sn_iload_n d102_1 rfl, kV_132 wm_5_94 d102_2, sn_ifne d102_5 (by decide), sn_aload_n d102_8 rfl, sn_bipush d102_9 (by decide), kV_125 wm_5_48 d102_11, sn_iret d102_14 rfl, sn_aload_n d102_15 rfl, sn_getR (by decide) fi_5_0.1 fi_5_0.2 wf_5_10 d102_16, kV_46 wm_5_232 d102_19, sn_istore_n (eb_hlg (Or.inl rfl)) hn102_2 d102_22 rfl, sn_aload_n d102_23 rfl, sn_getR (by decide) fi_5_0.1 fi_5_0.2 wf_5_10 d102_24, sn_getR (by decide) fi_4_1.1 fi_4_1.2 wf_5_97 d102_27, sn_iload_n d102_30 rfl, sn_aald d102_31, sn_getI (by decide) fi_0_1.1 fi_0_1.2 wf_5_106 d102_32, sn_istore_n (eb_hlg (Or.inl rfl)) hn102_3 d102_35 rfl, sn_aload_n d102_36 rfl, sn_iload_n d102_37 rfl, kV_131 wm_5_123 d102_38, sn_ifeq d102_41 (by decide), sn_iload_n d102_44 rfl, sn_iconst d102_45 (by decide), sn_icge d102_46 (by decide), sn_aload_n d102_49 rfl, sn_bipush d102_50 (by decide), kV_125 wm_5_48 d102_52, sn_iret d102_55 rfl, sn_bipush d102_56 (by decide), sn_aload_n d102_58 rfl, kV_137 wm_5_197 d102_59, sn_getR (by decide) fi_4_1.1 fi_4_1.2 wf_5_97 d102_62, sn_iload_n d102_65 rfl, sn_aald d102_66, sn_getR (by decide) fi_0_3.1 fi_0_3.2 wf_5_200 d102_67, sn_iload_n d102_70 rfl, sn_iald d102_71, sn_imul d102_72, trivial⟩
theorem sc102_1 : eb_AS L q0 102 (eb_lg 102) [(73, op_iload 3 74), (74, op_iid (· / ·) 75), (75, op_iret)] := ⟨sn_iload_n d102_73 rfl, sn_idiv d102_74, sn_iret d102_75 rfl, trivial⟩
theorem sd102 : ∀ pc, eb_Snd L q0 102 pc (eb_lg 102) (eb_cd L 102 pc) := eb_AS_all (hk102 (L := L)) (eb_AS_app sc102_0 (sc102_1))
theorem sc103_0 : eb_AS L q0 103 (eb_lg 103) [(0, op_aload 0 1), (1, op_iload 1 2), (2, op_call 131 2 5), (5, op_ifeq 25 8), (8, op_iload 2 9), (9, op_push (zi 1) 10), (10, op_push (zi 40) 12), (12, op_call 127 3 15), (15, op_ifeq 25 18), (18, op_iload 3 19), (19, op_call 129 1 22), (22, op_ifne 32 25), (25, op_aload 0 26), (26, op_push (zi (-2)) 28), (28, op_call 126 2 31), (31, op_iret), (32, op_aload 0 33), (33, op_getR L 5 0 36), (36, op_getR L 4 0 39), (39, op_iload 1 40), (40, op_aald L 41), (41, op_iload 2 42), (42, op_iload 3 43), (43, op_call 11 3 46), (46, op_iret)] := ⟨sn_aload_n d103_0 rfl, sn_iload_n d103_1 rfl, kV_131 wm_5_123 d103_2, sn_ifeq d103_5 (by decide), sn_iload_n d103_8 rfl, sn_iconst d103_9 (by decide), sn_bipush d103_10 (by decide), kS_127 wm_5_44 d103_12, sn_ifeq d103_15 (by decide), sn_iload_n d103_18 rfl, kS_129 wm_5_113 d103_19, sn_ifne d103_22 (by decide), sn_aload_n d103_25 rfl, sn_bipush d103_26 (by decide), kV_126 wm_5_190 d103_28, sn_iret d103_31 rfl, sn_aload_n d103_32 rfl, sn_getR (by decide) fi_5_0.1 fi_5_0.2 wf_5_10 d103_33, sn_getR (by decide) fi_4_0.1 fi_4_0.2 wf_5_126 d103_36, sn_iload_n d103_39 rfl, sn_aald d103_40, sn_iload_n d103_41 rfl, sn_iload_n d103_42 rfl, kV_11 wm_5_228 d103_43, sn_iret d103_46 rfl, trivial⟩
theorem sd103 : ∀ pc, eb_Snd L q0 103 pc (eb_lg 103) (eb_cd L 103 pc) := eb_AS_all (hk103 (L := L)) (sc103_0)
theorem sc104_0 : eb_AS L q0 104 (eb_lg 104) [(0, op_aload 0 1), (1, op_iload 1 2), (2, op_call 134 2 5), (5, op_ifeq 16 8), (8, op_aload 0 9), (9, op_iload 2 10), (10, op_call 134 2 13), (13, op_ifne 23 16), (16, op_aload 0 17), (17, op_push (zi (-2)) 19), (19, op_call 126 2 22), (22, op_iret), (23, op_aload 0 24), (24, op_call 138 1 27), (27, op_iload 1 28), (28, op_iload 2 29), (29, op_callv 51 3 32), (32, op_aload 0 33), (33, op_getR L 5 1 36), (36, op_call 60 1 39), (39, op_iret)] := ⟨sn_aload_n d104_0 rfl, sn_iload_n d104_1 rfl, kV_134 wm_5_141 d104_2, sn_ifeq d104_5 (by decide), sn_aload_n d104_8 rfl, sn_iload_n d104_9 rfl, kV_134 wm_5_141 d104_10, sn_ifne d104_13 (by decide), sn_aload_n d104_16 rfl, sn_bipush d104_17 (by decide), kV_126 wm_5_190 d104_19, sn_iret d104_22 rfl, sn_aload_n d104_23 rfl, kV_138 wm_5_160 d104_24, sn_iload_n d104_27 rfl, sn_iload_n d104_28 rfl, kV_51 wm_5_249 d104_29, sn_aload_n d104_32 rfl, sn_getR (by decide) fi_5_1.1 fi_5_1.2 wf_5_16 d104_33, kV_60 wm_5_216 d104_36, sn_iret d104_39 rfl, trivial⟩
theorem sd104 : ∀ pc, eb_Snd L q0 104 pc (eb_lg 104) (eb_cd L 104 pc) := eb_AS_all (hk104 (L := L)) (sc104_0)
theorem sc105_0 : eb_AS L q0 105 (eb_lg 105) [(0, op_aload 0 1), (1, op_iload 1 2), (2, op_call 135 2 5), (5, op_istore 2 6), (6, op_iload 2 7), (7, op_ifeq 16 10), (10, op_aload 0 11), (11, op_iload 2 12), (12, op_call 125 2 15), (15, op_iret), (16, op_aload 0 17), (17, op_getR L 5 4 20), (20, op_iload 1 21), (21, op_aald L 22), (22, op_astore 3 23), (23, op_aload 3 24), (24, op_getI L 2 1 27), (27, op_aload 0 28), (28, op_getR L 5 0 31), (31, op_getI L 4 3 34), (34, op_aload 0 35), (35, op_getR L 5 0 38), (38, op_getI L 4 2 41), (41, op_ii (· * ·) 42), (42, op_icge 52 45), (45, op_aload 0 46), (46, op_push (zi (-2)) 48), (48, op_call 125 2 51), (51, op_iret), (52, op_aload 0 53), (53, op_getR L 5 0 56), (56, op_callv 50 1 59), (59, op_push (zi 0) 60), (60, op_istore 4 62), (62, op_push (zi 0) 63), (63, op_istore 5 65), (65, op_iload 5 67), (67, op_aload 0 68), (68, op_getR L 5 0 71), (71, op_getI L 4 3 74)] := ⟨sn_aload_n d105_0 rfl, sn_iload_n d105_1 rfl, kV_135 wm_5_56 d105_2, sn_istore_n (eb_hlg (Or.inl rfl)) hn105_2 d105_5 rfl, sn_iload_n d105_6 rfl, sn_ifeq d105_7 (by decide), sn_aload_n d105_10 rfl, sn_iload_n d105_11 rfl, kV_125 wm_5_48 d105_12, sn_iret d105_15 rfl, sn_aload_n d105_16 rfl, sn_getR (by decide) fi_5_4.1 fi_5_4.2 wf_5_24 d105_17, sn_iload_n d105_20 rfl, sn_aald d105_21, sn_astore_n (eb_hlg (Or.inl rfl)) hn105_3 d105_22 rfl, sn_aload_n d105_23 rfl, sn_getI (by decide) fi_2_1.1 fi_2_1.2 wf_5_59 d105_24, sn_aload_n d105_27 rfl, sn_getR (by decide) fi_5_0.1 fi_5_0.2 wf_5_10 d105_28, sn_getI (by decide) fi_4_3.1 fi_4_3.2 wf_5_252 d105_31, sn_aload_n d105_34 rfl, sn_getR (by decide) fi_5_0.1 fi_5_0.2 wf_5_10 d105_35, sn_getI (by decide) fi_4_2.1 fi_4_2.2 wf_5_235 d105_38, sn_imul d105_41, sn_icge d105_42 (by decide), sn_aload_n d105_45 rfl, sn_bipush d105_46 (by decide), kV_125 wm_5_48 d105_48, sn_iret d105_51 rfl, sn_aload_n d105_52 rfl, sn_getR (by decide) fi_5_0.1 fi_5_0.2 wf_5_10 d105_53, kV_50 wm_5_243 d105_56, sn_iconst d105_59 (by decide), sn_istore (eb_hlg (Or.inl rfl)) hn105_4 d105_60, sn_iconst d105_62 (by decide), sn_istore (eb_hlg (Or.inl rfl)) hn105_5 d105_63, sn_iload d105_65, sn_aload_n d105_67 rfl, sn_getR (by decide) fi_5_0.1 fi_5_0.2 wf_5_10 d105_68, sn_getI (by decide) fi_4_3.1 fi_4_3.2 wf_5_252 d105_71, trivial⟩
theorem sc105_1 : eb_AS L q0 105 (eb_lg 105) [(74, op_icge 138 77), (77, op_push (zi 0) 78), (78, op_istore 6 80), (80, op_iload 6 82), (82, op_aload 0 83), (83, op_getR L 5 0 86), (86, op_getI L 4 2 89), (89, op_icge 132 92), (92, op_aload 3 93), (93, op_getR L 2 2 96), (96, op_iload 4 98), (98, op_lald L 99), (99, op_aload 0 100), (100, op_getR L 5 0 103), (103, op_getR L 4 1 106), (106, op_iload 5 108), (108, op_aald L 109), (109, op_getR L 0 3 112), (112, op_iload 6 114), (114, op_iald L 115), (115, op_i2l 116), (116, op_lcmp 117), (117, op_ifeq 123 120), (120, op_iload 4 122), (122, op_iret), (123, op_iinc 4 1 126), (126, op_iinc 6 1 129), (129, op_goto 80), (132, op_iinc 5 1 135), (135, op_goto 65), (138, op_push (zi (-1)) 139), (139, op_iret)] := ⟨sn_icge d105_74 (by decide), sn_iconst d105_77 (by decide), sn_istore (eb_hlg (Or.inl rfl)) hn105_6 d105_78, sn_iload d105_80, sn_aload_n d105_82 rfl, sn_getR (by decide) fi_5_0.1 fi_5_0.2 wf_5_10 d105_83, sn_getI (by decide) fi_4_2.1 fi_4_2.2 wf_5_235 d105_86, sn_icge d105_89 (by decide), sn_aload_n d105_92 rfl, sn_getR (by decide) fi_2_2.1 fi_2_2.2 wf_5_78 d105_93, sn_iload d105_96, sn_lald d105_98, sn_aload_n d105_99 rfl, sn_getR (by decide) fi_5_0.1 fi_5_0.2 wf_5_10 d105_100, sn_getR (by decide) fi_4_1.1 fi_4_1.2 wf_5_97 d105_103, sn_iload d105_106, sn_aald d105_108, sn_getR (by decide) fi_0_3.1 fi_0_3.2 wf_5_200 d105_109, sn_iload d105_112, sn_iald d105_114, sn_i2l d105_115, sn_lcmp d105_116, sn_ifeq d105_117 (by decide), sn_iload d105_120, sn_iret d105_122 rfl, sn_iinc (eb_hlg (Or.inl rfl)) hn105_4 d105_123 (by decide), sn_iinc (eb_hlg (Or.inl rfl)) hn105_6 d105_126 (by decide), sn_goto d105_129 (by decide), sn_iinc (eb_hlg (Or.inl rfl)) hn105_5 d105_132 (by decide), sn_goto d105_135 (by decide), sn_iconst d105_138 (by decide), sn_iret d105_139 rfl, trivial⟩
theorem sd105 : ∀ pc, eb_Snd L q0 105 pc (eb_lg 105) (eb_cd L 105 pc) := eb_AS_all (hk105 (L := L)) (eb_AS_app sc105_0 (sc105_1))
theorem sc106_0 : eb_AS L q0 106 (eb_lg 106) [(0, op_iload 1 1), (1, op_call 130 1 4), (4, op_ifeq 15 7), (7, op_aload 0 8), (8, op_iload 2 9), (9, op_call 133 2 12), (12, op_ifne 22 15), (15, op_aload 0 16), (16, op_push (zi (-2)) 18), (18, op_call 126 2 21), (21, op_iret), (22, op_aload 0 23), (23, op_call 138 1 26), (26, op_iload 1 27), (27, op_call 61 2 30), (30, op_istore 3 31), (31, op_iload 2 32), (32, op_push (zi (-1)) 33), (33, op_icne 40 36), (36, op_iload 3 37), (37, op_goto 52), (40, op_aload 0 41), (41, op_getR L 5 1 44), (44, op_getR L 4 1 47), (47, op_iload 2 48), (48, op_aald L 49), (49, op_getI L 0 5 52), (52, op_iret)] := ⟨sn_iload_n d106_0 rfl, kS_130 wm_5_255 d106_1, sn_ifeq d106_4 (by decide), sn_aload_n d106_7 rfl, sn_iload_n d106_8 rfl, kV_133 wm_5_91 d106_9, sn_ifne d106_12 (by decide), sn_aload_n d106_15 rfl, sn_bipush d106_16 (by decide), kV_126 wm_5_190 d106_18, sn_iret d106_21 rfl, sn_aload_n d106_22 rfl, kV_138 wm_5_160 d106_23, sn_iload_n d106_26 rfl, kV_61 wm_5_258 d106_27, sn_istore_n (eb_hlg (Or.inl rfl)) hn106_3 d106_30 rfl, sn_iload_n d106_31 rfl, sn_iconst d106_32 (by decide), sn_icne d106_33 (by decide), sn_iload_n d106_36 rfl, sn_goto d106_37 (by decide), sn_aload_n d106_40 rfl, sn_getR (by decide) fi_5_1.1 fi_5_1.2 wf_5_16 d106_41, sn_getR (by decide) fi_4_1.1 fi_4_1.2 wf_5_97 d106_44, sn_iload_n d106_47 rfl, sn_aald d106_48, sn_getI (by decide) fi_0_5.1 fi_0_5.2 wf_5_261 d106_49, sn_iret d106_52 rfl, trivial⟩
theorem sd106 : ∀ pc, eb_Snd L q0 106 pc (eb_lg 106) (eb_cd L 106 pc) := eb_AS_all (hk106 (L := L)) (sc106_0)
theorem sc107_0 : eb_AS L q0 107 (eb_lg 107) [(0, op_iload 1 1), (1, op_call 130 1 4), (4, op_ifeq 24 7), (7, op_aload 0 8), (8, op_iload 2 9), (9, op_call 131 2 12), (12, op_ifeq 24 15), (15, op_iload 3 16), (16, op_push (zi 0) 17), (17, op_push (zi 2) 18), (18, op_call 127 3 21), (21, op_ifne 31 24), (24, op_aload 0 25), (25, op_push (zi (-2)) 27), (27, op_call 125 2 30), (30, op_iret), (31, op_aload 0 32), (32, op_call 138 1 35), (35, op_iload 1 36), (36, op_call 61 2 39), (39, op_pop 40), (40, op_aload 0 41), (41, op_getR L 5 1 44), (44, op_getR L 4 0 47), (47, op_iload 2 48), (48, op_aald L 49), (49, op_astore 4 51), (51, op_iload 3 52), (52, op_ifne 61 55), (55, op_aload 4 57), (57, op_getI L 1 0 60), (60, op_iret), (61, op_iload 3 62), (62, op_push (zi 1) 63), (63, op_icne 74 66), (66, op_aload 4 68), (68, op_getI L 1 3 71), (71, op_goto 79), (74, op_aload 4 76), (76, op_getI L 1 8 79)] := ⟨sn_iload_n d107_0 rfl, kS_130 wm_5_255 d107_1, sn_ifeq d107_4 (by decide), sn_aload_n d107_7 rfl, sn_iload_n d107_8 rfl, kV_131 wm_5_123 d107_9, sn_ifeq d107_12 (by decide), sn_iload_n d107_15 rfl, sn_iconst d107_16 (by decide), sn_iconst d107_17 (by decide), kS_127 wm_5_44 d107_18, sn_ifne d107_21 (by decide), sn_aload_n d107_24 rfl, sn_bipush d107_25 (by decide), kV_125 wm_5_48 d107_27, sn_iret d107_30 rfl, sn_aload_n d107_31 rfl, kV_138 wm_5_160 d107_32, sn_iload_n d107_35 rfl, kV_61 wm_5_258 d107_36, sn_pop d107_39, sn_aload_n d107_40 rfl, sn_getR (by decide) fi_5_1.1 fi_5_1.2 wf_5_16 d107_41, sn_getR (by decide) fi_4_0.1 fi_4_0.2 wf_5_126 d107_44, sn_iload_n d107_47 rfl, sn_aald d107_48, sn_astore (eb_hlg (Or.inl rfl)) hn107_4 d107_49, sn_iload_n d107_51 rfl, sn_ifne d107_52 (by decide), sn_aload d107_55, sn_getI (by decide) fi_1_0.1 fi_1_0.2 wf_5_130 d107_57, sn_iret d107_60 rfl, sn_iload_n d107_61 rfl, sn_iconst d107_62 (by decide), sn_icne d107_63 (by decide), sn_aload d107_66, sn_getI (by decide) fi_1_3.1 fi_1_3.2 wf_5_135 d107_68, sn_goto d107_71 (by decide), sn_aload d107_74, sn_getI (by decide) fi_1_8.1 fi_1_8.2 wf_5_264 d107_76, trivial⟩
theorem sc107_1 : eb_AS L q0 107 (eb_lg 107) [(79, op_iret)] := ⟨sn_iret d107_79 rfl, trivial⟩
theorem sd107 : ∀ pc, eb_Snd L q0 107 pc (eb_lg 107) (eb_cd L 107 pc) := eb_AS_all (hk107 (L := L)) (eb_AS_app sc107_0 (sc107_1))
theorem sc108_0 : eb_AS L q0 108 (eb_lg 108) [(0, op_iload 1 1), (1, op_call 130 1 4), (4, op_ifeq 17 7), (7, op_iload 2 8), (8, op_push (zi 0) 9), (9, op_push (zi 6) 11), (11, op_call 127 3 14), (14, op_ifne 24 17), (17, op_aload 0 18), (18, op_push (zi (-2)) 20), (20, op_call 125 2 23), (23, op_iret), (24, op_aload 0 25), (25, op_iload 1 26), (26, op_iload 2 27), (27, op_push (zi 0) 28), (28, op_call 140 4 31), (31, op_iret)] := ⟨sn_iload_n d108_0 rfl, kS_130 wm_5_255 d108_1, sn_ifeq d108_4 (by decide), sn_iload_n d108_7 rfl, sn_iconst d108_8 (by decide), sn_bipush d108_9 (by decide), kS_127 wm_5_44 d108_11, sn_ifne d108_14 (by decide), sn_aload_n d108_17 rfl, sn_bipush d108_18 (by decide), kV_125 wm_5_48 d108_20, sn_iret d108_23 rfl, sn_aload_n d108_24 rfl, sn_iload_n d108_25 rfl, sn_iload_n d108_26 rfl, sn_iconst d108_27 (by decide), kV_140 wm_5_267 d108_28, sn_iret d108_31 rfl, trivial⟩
theorem sd108 : ∀ pc, eb_Snd L q0 108 pc (eb_lg 108) (eb_cd L 108 pc) := eb_AS_all (hk108 (L := L)) (sc108_0)
theorem sc109_0 : eb_AS L q0 109 (eb_lg 109) [(0, op_iload 1 1), (1, op_call 130 1 4), (4, op_ifeq 15 7), (7, op_aload 0 8), (8, op_iload 2 9), (9, op_call 134 2 12), (12, op_ifne 22 15), (15, op_aload 0 16), (16, op_push (zi (-2)) 18), (18, op_call 126 2 21), (21, op_iret), (22, op_aload 0 23), (23, op_iload 1 24), (24, op_iload 2 25), (25, op_call 139 3 28), (28, op_iret)] := ⟨sn_iload_n d109_0 rfl, kS_130 wm_5_255 d109_1, sn_ifeq d109_4 (by decide), sn_aload_n d109_7 rfl, sn_iload_n d109_8 rfl, kV_134 wm_5_141 d109_9, sn_ifne d109_12 (by decide), sn_aload_n d109_15 rfl, sn_bipush d109_16 (by decide), kV_126 wm_5_190 d109_18, sn_iret d109_21 rfl, sn_aload_n d109_22 rfl, sn_iload_n d109_23 rfl, sn_iload_n d109_24 rfl, kV_139 wm_5_271 d109_25, sn_iret d109_28 rfl, trivial⟩
theorem sd109 : ∀ pc, eb_Snd L q0 109 pc (eb_lg 109) (eb_cd L 109 pc) := eb_AS_all (hk109 (L := L)) (sc109_0)
theorem sc110_0 : eb_AS L q0 110 (eb_lg 110) [(0, op_iload 1 1), (1, op_call 130 1 4), (4, op_ifne 14 7), (7, op_aload 0 8), (8, op_push (zi (-2)) 10), (10, op_call 125 2 13), (13, op_iret), (14, op_aload 0 15), (15, op_iload 1 16), (16, op_push (zi 6) 18), (18, op_push (zi 1) 19), (19, op_call 140 4 22), (22, op_call 252 1 25), (25, op_iret)] := ⟨sn_iload_n d110_0 rfl, kS_130 wm_5_255 d110_1, sn_ifne d110_4 (by decide), sn_aload_n d110_7 rfl, sn_bipush d110_8 (by decide), kV_125 wm_5_48 d110_10, sn_iret d110_13 rfl, sn_aload_n d110_14 rfl, sn_iload_n d110_15 rfl, sn_bipush d110_16 (by decide), sn_iconst d110_18 (by decide), kV_140 wm_5_267 d110_19, kS_252 wm_5_274 d110_22, sn_iret d110_25 rfl, trivial⟩
theorem sd110 : ∀ pc, eb_Snd L q0 110 pc (eb_lg 110) (eb_cd L 110 pc) := eb_AS_all (hk110 (L := L)) (sc110_0)
theorem sc111_0 : eb_AS L q0 111 (eb_lg 111) [(0, op_iload 1 1), (1, op_push (zi 1) 2), (2, op_push (zi 3) 3), (3, op_call 127 3 6), (6, op_ifeq 25 9), (9, op_iload 2 10), (10, op_push (zi (-1)) 11), (11, op_iceq 32 14), (14, op_iload 2 15), (15, op_push (zi 0) 16), (16, op_iload 1 17), (17, op_push (zi 1) 18), (18, op_ii (· - ·) 19), (19, op_call 127 3 22), (22, op_ifne 32 25), (25, op_aload 0 26), (26, op_push (zi (-2)) 28), (28, op_call 126 2 31), (31, op_iret), (32, op_push (zi 0) 33), (33, op_istore 3 34), (34, op_aload 0 35), (35, op_iload 1 36), (36, op_push (zi 0) 37), (37, op_call 141 3 40), (40, op_istore 4 42), (42, op_aload 0 43), (43, op_getR L 5 0 46), (46, op_getI L 4 2 49), (49, op_push (zi 1) 50), (50, op_ii (· + ·) 51), (51, op_iload 1 52), (52, op_call 143 2 55), (55, op_istore 5 57), (57, op_push (zi 1) 58), (58, op_istore 6 60), (60, op_iload 6 62), (62, op_iload 5 64), (64, op_icge 96 67), (67, op_aload 0 68)] := ⟨sn_iload_n d111_0 rfl, sn_iconst d111_1 (by decide), sn_iconst d111_2 (by decide), kS_127 wm_5_44 d111_3, sn_ifeq d111_6 (by decide), sn_iload_n d111_9 rfl, sn_iconst d111_10 (by decide), sn_iceq d111_11 (by decide), sn_iload_n d111_14 rfl, sn_iconst d111_15 (by decide), sn_iload_n d111_16 rfl, sn_iconst d111_17 (by decide), sn_isub d111_18, kS_127 wm_5_44 d111_19, sn_ifne d111_22 (by decide), sn_aload_n d111_25 rfl, sn_bipush d111_26 (by decide), kV_126 wm_5_190 d111_28, sn_iret d111_31 rfl, sn_iconst d111_32 (by decide), sn_istore_n (eb_hlg (Or.inl rfl)) hn111_3 d111_33 rfl, sn_aload_n d111_34 rfl, sn_iload_n d111_35 rfl, sn_iconst d111_36 (by decide), kV_141 wm_5_279 d111_37, sn_istore (eb_hlg (Or.inl rfl)) hn111_4 d111_40, sn_aload_n d111_42 rfl, sn_getR (by decide) fi_5_0.1 fi_5_0.2 wf_5_10 d111_43, sn_getI (by decide) fi_4_2.1 fi_4_2.2 wf_5_235 d111_46, sn_iconst d111_49 (by decide), sn_iadd d111_50, sn_iload_n d111_51 rfl, kS_143 wm_5_282 d111_52, sn_istore (eb_hlg (Or.inl rfl)) hn111_5 d111_55, sn_iconst d111_57 (by decide), sn_istore (eb_hlg (Or.inl rfl)) hn111_6 d111_58, sn_iload d111_60, sn_iload d111_62, sn_icge d111_64 (by decide), sn_aload_n d111_67 rfl, trivial⟩
theorem sc111_1 : eb_AS L q0 111 (eb_lg 111) [(68, op_iload 1 69), (69, op_iload 6 71), (71, op_call 141 3 74), (74, op_istore 7 76), (76, op_iload 7 78), (78, op_iload 4 80), (80, op_icle 90 83), (83, op_iload 6 85), (85, op_istore 3 86), (86, op_iload 7 88), (88, op_istore 4 90), (90, op_iinc 6 1 93), (93, op_goto 60), (96, op_iload 2 97), (97, op_push (zi (-1)) 98), (98, op_icne 106 101), (101, op_iload 4 103), (103, op_goto 113), (106, op_aload 0 107), (107, op_iload 1 108), (108, op_iload 3 109), (109, op_iload 2 110), (110, op_call 142 4 113), (113, op_iret)] := ⟨sn_iload_n d111_68 rfl, sn_iload d111_69, kV_141 wm_5_279 d111_71, sn_istore (eb_hlg (Or.inl rfl)) hn111_7 d111_74, sn_iload d111_76, sn_iload d111_78, sn_icle d111_80 (by decide), sn_iload d111_83, sn_istore_n (eb_hlg (Or.inl rfl)) hn111_3 d111_85 rfl, sn_iload d111_86, sn_istore (eb_hlg (Or.inl rfl)) hn111_4 d111_88, sn_iinc (eb_hlg (Or.inl rfl)) hn111_6 d111_90 (by decide), sn_goto d111_93 (by decide), sn_iload_n d111_96 rfl, sn_iconst d111_97 (by decide), sn_icne d111_98 (by decide), sn_iload d111_101, sn_goto d111_103 (by decide), sn_aload_n d111_106 rfl, sn_iload_n d111_107 rfl, sn_iload_n d111_108 rfl, sn_iload_n d111_109 rfl, kV_142 wm_5_285 d111_110, sn_iret d111_113 rfl, trivial⟩
theorem sd111 : ∀ pc, eb_Snd L q0 111 pc (eb_lg 111) (eb_cd L 111 pc) := eb_AS_all (hk111 (L := L)) (eb_AS_app sc111_0 (sc111_1))
theorem sc112_0 : eb_AS L q0 112 (eb_lg 112) [(0, op_iload 1 1), (1, op_call 130 1 4), (4, op_ifeq 15 7), (7, op_aload 0 8), (8, op_iload 2 9), (9, op_call 131 2 12), (12, op_ifne 22 15), (15, op_aload 0 16), (16, op_push (zi (-2)) 18), (18, op_call 126 2 21), (21, op_iret), (22, op_aload 0 23), (23, op_getR L 5 0 26), (26, op_getR L 4 0 29), (29, op_iload 2 30), (30, op_aald L 31), (31, op_getI L 1 4 34), (34, op_push (zi (-1)) 35), (35, op_icne 45 38), (38, op_aload 0 39), (39, op_push (zi (-5)) 41), (41, op_call 126 2 44), (44, op_iret), (45, op_aload 0 46), (46, op_call 138 1 49), (49, op_iload 1 50), (50, op_call 61 2 53), (53, op_pop 54), (54, op_aload 0 55), (55, op_getR L 5 1 58), (58, op_call 63 1 61), (61, op_istore 3 62), (62, op_aload 0 63), (63, op_call 138 1 66), (66, op_getR L 4 0 69), (69, op_iload 2 70), (70, op_aald L 71), (71, op_push (zi (-1)) 72), (72, op_putI L 1 4 75), (75, op_aload 0 76)] := ⟨sn_iload_n d112_0 rfl, kS_130 wm_5_255 d112_1, sn_ifeq d112_4 (by decide), sn_aload_n d112_7 rfl, sn_iload_n d112_8 rfl, kV_131 wm_5_123 d112_9, sn_ifne d112_12 (by decide), sn_aload_n d112_15 rfl, sn_bipush d112_16 (by decide), kV_126 wm_5_190 d112_18, sn_iret d112_21 rfl, sn_aload_n d112_22 rfl, sn_getR (by decide) fi_5_0.1 fi_5_0.2 wf_5_10 d112_23, sn_getR (by decide) fi_4_0.1 fi_4_0.2 wf_5_126 d112_26, sn_iload_n d112_29 rfl, sn_aald d112_30, sn_getI (by decide) fi_1_4.1 fi_1_4.2 wf_5_138 d112_31, sn_iconst d112_34 (by decide), sn_icne d112_35 (by decide), sn_aload_n d112_38 rfl, sn_bipush d112_39 (by decide), kV_126 wm_5_190 d112_41, sn_iret d112_44 rfl, sn_aload_n d112_45 rfl, kV_138 wm_5_160 d112_46, sn_iload_n d112_49 rfl, kV_61 wm_5_258 d112_50, sn_pop d112_53, sn_aload_n d112_54 rfl, sn_getR (by decide) fi_5_1.1 fi_5_1.2 wf_5_16 d112_55, kV_63 wm_5_288 d112_58, sn_istore_n (eb_hlg (Or.inl rfl)) hn112_3 d112_61 rfl, sn_aload_n d112_62 rfl, kV_138 wm_5_160 d112_63, sn_getR (by decide) fi_4_0.1 fi_4_0.2 wf_5_126 d112_66, sn_iload_n d112_69 rfl, sn_aald d112_70, sn_iconst d112_71 (by decide), sn_putI (by decide) fi_1_4.1 fi_1_4.2 wf_5_138 (Or.inl rfl) fp_1_4 d112_72, sn_aload_n d112_75 rfl, trivial⟩
theorem sc112_1 : eb_AS L q0 112 (eb_lg 112) [(76, op_getR L 5 1 79), (79, op_iload 1 80), (80, op_call 61 2 83), (83, op_pop 84), (84, op_aload 0 85), (85, op_getR L 5 1 88), (88, op_call 63 1 91), (91, op_iload 3 92), (92, op_ii (· - ·) 93), (93, op_iret)] := ⟨sn_getR (by decide) fi_5_1.1 fi_5_1.2 wf_5_16 d112_76, sn_iload_n d112_79 rfl, kV_61 wm_5_258 d112_80, sn_pop d112_83, sn_aload_n d112_84 rfl, sn_getR (by decide) fi_5_1.1 fi_5_1.2 wf_5_16 d112_85, kV_63 wm_5_288 d112_88, sn_iload_n d112_91 rfl, sn_isub d112_92, sn_iret d112_93 rfl, trivial⟩
theorem sd112 : ∀ pc, eb_Snd L q0 112 pc (eb_lg 112) (eb_cd L 112 pc) := eb_AS_all (hk112 (L := L)) (eb_AS_app sc112_0 (sc112_1))
theorem sc113_0 : eb_AS L q0 113 (eb_lg 113) [(0, op_iload 1 1), (1, op_call 130 1 4), (4, op_ifeq 22 7), (7, op_aload 0 8), (8, op_iload 2 9), (9, op_call 131 2 12), (12, op_ifeq 22 15), (15, op_iload 3 16), (16, op_call 129 1 19), (19, op_ifne 29 22), (22, op_aload 0 23), (23, op_push (zi (-2)) 25), (25, op_call 126 2 28), (28, op_iret), (29, op_aload 0 30), (30, op_call 138 1 33), (33, op_iload 1 34), (34, op_call 61 2 37), (37, op_istore 4 39), (39, op_aload 0 40), (40, op_call 138 1 43), (43, op_getR L 4 0 46), (46, op_iload 2 47), (47, op_aald L 48), (48, op_iload 3 49), (49, op_putI L 1 4 52), (52, op_aload 0 53), (53, op_getR L 5 1 56), (56, op_iload 1 57), (57, op_call 61 2 60), (60, op_iload 4 62), (62, op_ii (· - ·) 63), (63, op_iret)] := ⟨sn_iload_n d113_0 rfl, kS_130 wm_5_255 d113_1, sn_ifeq d113_4 (by decide), sn_aload_n d113_7 rfl, sn_iload_n d113_8 rfl, kV_131 wm_5_123 d113_9, sn_ifeq d113_12 (by decide), sn_iload_n d113_15 rfl, kS_129 wm_5_113 d113_16, sn_ifne d113_19 (by decide), sn_aload_n d113_22 rfl, sn_bipush d113_23 (by decide), kV_126 wm_5_190 d113_25, sn_iret d113_28 rfl, sn_aload_n d113_29 rfl, kV_138 wm_5_160 d113_30, sn_iload_n d113_33 rfl, kV_61 wm_5_258 d113_34, sn_istore (eb_hlg (Or.inl rfl)) hn113_4 d113_37, sn_aload_n d113_39 rfl, kV_138 wm_5_160 d113_40, sn_getR (by decide) fi_4_0.1 fi_4_0.2 wf_5_126 d113_43, sn_iload_n d113_46 rfl, sn_aald d113_47, sn_iload_n d113_48 rfl, sn_putI (by decide) fi_1_4.1 fi_1_4.2 wf_5_138 (Or.inl rfl) fp_1_4 d113_49, sn_aload_n d113_52 rfl, sn_getR (by decide) fi_5_1.1 fi_5_1.2 wf_5_16 d113_53, sn_iload_n d113_56 rfl, kV_61 wm_5_258 d113_57, sn_iload d113_60, sn_isub d113_62, sn_iret d113_63 rfl, trivial⟩
theorem sd113 : ∀ pc, eb_Snd L q0 113 pc (eb_lg 113) (eb_cd L 113 pc) := eb_AS_all (hk113 (L := L)) (sc113_0)
theorem sc114_0 : eb_AS L q0 114 (eb_lg 114) [(0, op_aload 0 1), (1, op_iload 1 2), (2, op_call 131 2 5), (5, op_ifeq 15 8), (8, op_iload 2 9), (9, op_call 129 1 12), (12, op_ifne 22 15), (15, op_aload 0 16), (16, op_push (zi (-2)) 18), (18, op_call 125 2 21), (21, op_iret), (22, op_aload 0 23), (23, op_call 138 1 26), (26, op_pop 27), (27, op_push (zi 1) 28), (28, op_istore 3 29), (29, op_iload 3 30), (30, op_push (zi 30) 32), (32, op_icgt 68 35), (35, op_aload 0 36), (36, op_getR L 5 1 39), (39, op_push (zi 1) 40), (40, op_call 61 2 43), (43, op_pop 44), (44, op_aload 0 45), (45, op_getR L 5 1 48), (48, op_getR L 4 0 51), (51, op_iload 1 52), (52, op_aald L 53), (53, op_getI L 1 0 56), (56, op_iload 2 57), (57, op_icge 62 60), (60, op_iload 3 61), (61, op_iret), (62, op_iinc 3 1 65), (65, op_goto 29), (68, op_push (zi (-1)) 69), (69, op_iret)] := ⟨sn_aload_n d114_0 rfl, sn_iload_n d114_1 rfl, kV_131 wm_5_123 d114_2, sn_ifeq d114_5 (by decide), sn_iload_n d114_8 rfl, kS_129 wm_5_113 d114_9, sn_ifne d114_12 (by decide), sn_aload_n d114_15 rfl, sn_bipush d114_16 (by decide), kV_125 wm_5_48 d114_18, sn_iret d114_21 rfl, sn_aload_n d114_22 rfl, kV_138 wm_5_160 d114_23, sn_pop d114_26, sn_iconst d114_27 (by decide), sn_istore_n (eb_hlg (Or.inl rfl)) hn114_3 d114_28 rfl, sn_iload_n d114_29 rfl, sn_bipush d114_30 (by decide), sn_icgt d114_32 (by decide), sn_aload_n d114_35 rfl, sn_getR (by decide) fi_5_1.1 fi_5_1.2 wf_5_16 d114_36, sn_iconst d114_39 (by decide), kV_61 wm_5_258 d114_40, sn_pop d114_43, sn_aload_n d114_44 rfl, sn_getR (by decide) fi_5_1.1 fi_5_1.2 wf_5_16 d114_45, sn_getR (by decide) fi_4_0.1 fi_4_0.2 wf_5_126 d114_48, sn_iload_n d114_51 rfl, sn_aald d114_52, sn_getI (by decide) fi_1_0.1 fi_1_0.2 wf_5_130 d114_53, sn_iload_n d114_56 rfl, sn_icge d114_57 (by decide), sn_iload_n d114_60 rfl, sn_iret d114_61 rfl, sn_iinc (eb_hlg (Or.inl rfl)) hn114_3 d114_62 (by decide), sn_goto d114_65 (by decide), sn_iconst d114_68 (by decide), sn_iret d114_69 rfl, trivial⟩
theorem sd114 : ∀ pc, eb_Snd L q0 114 pc (eb_lg 114) (eb_cd L 114 pc) := eb_AS_all (hk114 (L := L)) (sc114_0)
theorem sc115_0 : eb_AS L q0 115 (eb_lg 115) [(0, op_aload 0 1), (1, op_iload 1 2), (2, op_call 132 2 5), (5, op_ifeq 31 8), (8, op_aload 0 9), (9, op_iload 2 10), (10, op_call 131 2 13), (13, op_ifeq 31 16), (16, op_iload 3 17), (17, op_call 130 1 20), (20, op_ifeq 31 23), (23, op_iload 4 25), (25, op_call 129 1 28), (28, op_ifne 38 31), (31, op_aload 0 32), (32, op_push (zi (-2)) 34), (34, op_call 125 2 37), (37, op_iret), (38, op_push (zi 30) 40), (40, op_istore 5 42), (42, op_iload 5 44), (44, op_push (zi 1) 45), (45, op_iclt 85 48), (48, op_aload 0 49), (49, op_call 138 1 52), (52, op_getR L 4 1 55), (55, op_iload 1 56), (56, op_aald L 57), (57, op_iload 5 59), (59, op_putI L 0 1 62), (62, op_aload 0 63), (63, op_getR L 5 1 66), (66, op_iload 2 67), (67, op_iload 3 68), (68, op_iload 4 70), (70, op_call 64 4 73), (73, op_ifeq 79 76), (76, op_iload 5 78), (78, op_iret), (79, op_iinc 5 (-1) 82)] := ⟨sn_aload_n d115_0 rfl, sn_iload_n d115_1 rfl, kV_132 wm_5_94 d115_2, sn_ifeq d115_5 (by decide), sn_aload_n d115_8 rfl, sn_iload_n d115_9 rfl, kV_131 wm_5_123 d115_10, sn_ifeq d115_13 (by decide), sn_iload_n d115_16 rfl, kS_130 wm_5_255 d115_17, sn_ifeq d115_20 (by decide), sn_iload d115_23, kS_129 wm_5_113 d115_25, sn_ifne d115_28 (by decide), sn_aload_n d115_31 rfl, sn_bipush d115_32 (by decide), kV_125 wm_5_48 d115_34, sn_iret d115_37 rfl, sn_bipush d115_38 (by decide), sn_istore (eb_hlg (Or.inl rfl)) hn115_5 d115_40, sn_iload d115_42, sn_iconst d115_44 (by decide), sn_iclt d115_45 (by decide), sn_aload_n d115_48 rfl, kV_138 wm_5_160 d115_49, sn_getR (by decide) fi_4_1.1 fi_4_1.2 wf_5_97 d115_52, sn_iload_n d115_55 rfl, sn_aald d115_56, sn_iload d115_57, sn_putI (by decide) fi_0_1.1 fi_0_1.2 wf_5_106 (Or.inl rfl) fp_0_1 d115_59, sn_aload_n d115_62 rfl, sn_getR (by decide) fi_5_1.1 fi_5_1.2 wf_5_16 d115_63, sn_iload_n d115_66 rfl, sn_iload_n d115_67 rfl, sn_iload d115_68, kV_64 wm_5_291 d115_70, sn_ifeq d115_73 (by decide), sn_iload d115_76, sn_iret d115_78 rfl, sn_iinc (eb_hlg (Or.inl rfl)) hn115_5 d115_79 (by decide), trivial⟩
theorem sc115_1 : eb_AS L q0 115 (eb_lg 115) [(82, op_goto 42), (85, op_push (zi (-1)) 86), (86, op_iret)] := ⟨sn_goto d115_82 (by decide), sn_iconst d115_85 (by decide), sn_iret d115_86 rfl, trivial⟩
theorem sd115 : ∀ pc, eb_Snd L q0 115 pc (eb_lg 115) (eb_cd L 115 pc) := eb_AS_all (hk115 (L := L)) (eb_AS_app sc115_0 (sc115_1))
theorem sc116_0 : eb_AS L q0 116 (eb_lg 116) [(0, op_aload 0 1), (1, op_iload 1 2), (2, op_call 131 2 5), (5, op_ifne 15 8), (8, op_aload 0 9), (9, op_push (zi (-2)) 11), (11, op_call 125 2 14), (14, op_iret), (15, op_aload 0 16), (16, op_call 138 1 19), (19, op_push (zi 0) 20), (20, op_call 42 2 23), (23, op_pop 24), (24, op_push (zi 1) 25), (25, op_istore 2 26), (26, op_iload 2 27), (27, op_push (zi 30) 29), (29, op_icgt 76 32), (32, op_aload 0 33), (33, op_getR L 5 1 36), (36, op_push (zi 1) 37), (37, op_call 61 2 40), (40, op_pop 41), (41, op_aload 0 42), (42, op_getR L 5 1 45), (45, op_getR L 4 0 48), (48, op_iload 1 49), (49, op_aald L 50), (50, op_getI L 1 0 53), (53, op_aload 0 54), (54, op_getR L 5 1 57), (57, op_getR L 4 0 60), (60, op_iload 1 61), (61, op_aald L 62), (62, op_getI L 1 1 65), (65, op_iclt 70 68), (68, op_iload 2 69), (69, op_iret), (70, op_iinc 2 1 73), (73, op_goto 26)] := ⟨sn_aload_n d116_0 rfl, sn_iload_n d116_1 rfl, kV_131 wm_5_123 d116_2, sn_ifne d116_5 (by decide), sn_aload_n d116_8 rfl, sn_bipush d116_9 (by decide), kV_125 wm_5_48 d116_11, sn_iret d116_14 rfl, sn_aload_n d116_15 rfl, kV_138 wm_5_160 d116_16, sn_iconst d116_19 (by decide), kV_42 wm_5_144 d116_20, sn_pop d116_23, sn_iconst d116_24 (by decide), sn_istore_n (eb_hlg (Or.inl rfl)) hn116_2 d116_25 rfl, sn_iload_n d116_26 rfl, sn_bipush d116_27 (by decide), sn_icgt d116_29 (by decide), sn_aload_n d116_32 rfl, sn_getR (by decide) fi_5_1.1 fi_5_1.2 wf_5_16 d116_33, sn_iconst d116_36 (by decide), kV_61 wm_5_258 d116_37, sn_pop d116_40, sn_aload_n d116_41 rfl, sn_getR (by decide) fi_5_1.1 fi_5_1.2 wf_5_16 d116_42, sn_getR (by decide) fi_4_0.1 fi_4_0.2 wf_5_126 d116_45, sn_iload_n d116_48 rfl, sn_aald d116_49, sn_getI (by decide) fi_1_0.1 fi_1_0.2 wf_5_130 d116_50, sn_aload_n d116_53 rfl, sn_getR (by decide) fi_5_1.1 fi_5_1.2 wf_5_16 d116_54, sn_getR (by decide) fi_4_0.1 fi_4_0.2 wf_5_126 d116_57, sn_iload_n d116_60 rfl, sn_aald d116_61, sn_getI (by decide) fi_1_1.1 fi_1_1.2 wf_5_175 d116_62, sn_iclt d116_65 (by decide), sn_iload_n d116_68 rfl, sn_iret d116_69 rfl, sn_iinc (eb_hlg (Or.inl rfl)) hn116_2 d116_70 (by decide), sn_goto d116_73 (by decide), trivial⟩
theorem sc116_1 : eb_AS L q0 116 (eb_lg 116) [(76, op_push (zi (-1)) 77), (77, op_iret)] := ⟨sn_iconst d116_76 (by decide), sn_iret d116_77 rfl, trivial⟩
theorem sd116 : ∀ pc, eb_Snd L q0 116 pc (eb_lg 116) (eb_cd L 116 pc) := eb_AS_all (hk116 (L := L)) (eb_AS_app sc116_0 (sc116_1))
theorem sc117_0 : eb_AS L q0 117 (eb_lg 117) [(0, op_iload 1 1), (1, op_call 130 1 4), (4, op_ifeq 15 7), (7, op_aload 0 8), (8, op_iload 2 9), (9, op_call 131 2 12), (12, op_ifne 22 15), (15, op_aload 0 16), (16, op_push (zi (-2)) 18), (18, op_call 125 2 21), (21, op_iret), (22, op_push (zi 0) 23), (23, op_istore 3 24), (24, op_push (zi (-1)) 25), (25, op_istore 4 27), (27, op_push (zi 0) 28), (28, op_istore 5 30), (30, op_iload 5 32), (32, op_push (zi 99) 34), (34, op_icgt 100 37), (37, op_aload 0 38), (38, op_call 138 1 41), (41, op_getR L 4 0 44), (44, op_iload 2 45), (45, op_aald L 46), (46, op_iload 5 48), (48, op_putI L 1 3 51), (51, op_aload 0 52), (52, op_getR L 5 1 55), (55, op_iload 1 56), (56, op_call 61 2 59), (59, op_pop 60), (60, op_aload 0 61), (61, op_getR L 5 1 64), (64, op_getR L 4 0 67), (67, op_iload 2 68), (68, op_aald L 69), (69, op_getI L 1 8 72), (72, op_iload 4 74), (74, op_icle 94 77)] := ⟨sn_iload_n d117_0 rfl, kS_130 wm_5_255 d117_1, sn_ifeq d117_4 (by decide), sn_aload_n d117_7 rfl, sn_iload_n d117_8 rfl, kV_131 wm_5_123 d117_9, sn_ifne d117_12 (by decide), sn_aload_n d117_15 rfl, sn_bipush d117_16 (by decide), kV_125 wm_5_48 d117_18, sn_iret d117_21 rfl, sn_iconst d117_22 (by decide), sn_istore_n (eb_hlg (Or.inl rfl)) hn117_3 d117_23 rfl, sn_iconst d117_24 (by decide), sn_istore (eb_hlg (Or.inl rfl)) hn117_4 d117_25, sn_iconst d117_27 (by decide), sn_istore (eb_hlg (Or.inl rfl)) hn117_5 d117_28, sn_iload d117_30, sn_bipush d117_32 (by decide), sn_icgt d117_34 (by decide), sn_aload_n d117_37 rfl, kV_138 wm_5_160 d117_38, sn_getR (by decide) fi_4_0.1 fi_4_0.2 wf_5_126 d117_41, sn_iload_n d117_44 rfl, sn_aald d117_45, sn_iload d117_46, sn_putI (by decide) fi_1_3.1 fi_1_3.2 wf_5_135 (Or.inl rfl) fp_1_3 d117_48, sn_aload_n d117_51 rfl, sn_getR (by decide) fi_5_1.1 fi_5_1.2 wf_5_16 d117_52, sn_iload_n d117_55 rfl, kV_61 wm_5_258 d117_56, sn_pop d117_59, sn_aload_n d117_60 rfl, sn_getR (by decide) fi_5_1.1 fi_5_1.2 wf_5_16 d117_61, sn_getR (by decide) fi_4_0.1 fi_4_0.2 wf_5_126 d117_64, sn_iload_n d117_67 rfl, sn_aald d117_68, sn_getI (by decide) fi_1_8.1 fi_1_8.2 wf_5_264 d117_69, sn_iload d117_72, sn_icle d117_74 (by decide), trivial⟩
theorem sc117_1 : eb_AS L q0 117 (eb_lg 117) [(77, op_iload 5 79), (79, op_istore 3 80), (80, op_aload 0 81), (81, op_getR L 5 1 84), (84, op_getR L 4 0 87), (87, op_iload 2 88), (88, op_aald L 89), (89, op_getI L 1 8 92), (92, op_istore 4 94), (94, op_iinc 5 1 97), (97, op_goto 30), (100, op_iload 3 101), (101, op_iret)] := ⟨sn_iload d117_77, sn_istore_n (eb_hlg (Or.inl rfl)) hn117_3 d117_79 rfl, sn_aload_n d117_80 rfl, sn_getR (by decide) fi_5_1.1 fi_5_1.2 wf_5_16 d117_81, sn_getR (by decide) fi_4_0.1 fi_4_0.2 wf_5_126 d117_84, sn_iload_n d117_87 rfl, sn_aald d117_88, sn_getI (by decide) fi_1_8.1 fi_1_8.2 wf_5_264 d117_89, sn_istore (eb_hlg (Or.inl rfl)) hn117_4 d117_92, sn_iinc (eb_hlg (Or.inl rfl)) hn117_5 d117_94 (by decide), sn_goto d117_97 (by decide), sn_iload_n d117_100 rfl, sn_iret d117_101 rfl, trivial⟩
theorem sd117 : ∀ pc, eb_Snd L q0 117 pc (eb_lg 117) (eb_cd L 117 pc) := eb_AS_all (hk117 (L := L)) (eb_AS_app sc117_0 (sc117_1))
theorem sc118_0 : eb_AS L q0 118 (eb_lg 118) [(0, op_aload 0 1), (1, op_getR L 5 0 4), (4, op_push (zi 1) 5), (5, op_call 61 2 8), (8, op_iret)] := ⟨sn_aload_n d118_0 rfl, sn_getR (by decide) fi_5_0.1 fi_5_0.2 wf_5_10 d118_1, sn_iconst d118_4 (by decide), kV_61 wm_5_258 d118_5, sn_iret d118_8 rfl, trivial⟩
theorem sd118 : ∀ pc, eb_Snd L q0 118 pc (eb_lg 118) (eb_cd L 118 pc) := eb_AS_all (hk118 (L := L)) (sc118_0)
theorem sc119_0 : eb_AS L q0 119 (eb_lg 119) [(0, op_iload 1 1), (1, op_call 130 1 4), (4, op_ifeq 18 7), (7, op_aload 0 8), (8, op_getR L 5 0 11), (11, op_iload 1 12), (12, op_call 61 2 15), (15, op_goto 24), (18, op_aload 0 19), (19, op_push (zi (-2)) 21), (21, op_call 126 2 24), (24, op_iret)] := ⟨sn_iload_n d119_0 rfl, kS_130 wm_5_255 d119_1, sn_ifeq d119_4 (by decide), sn_aload_n d119_7 rfl, sn_getR (by decide) fi_5_0.1 fi_5_0.2 wf_5_10 d119_8, sn_iload_n d119_11 rfl, kV_61 wm_5_258 d119_12, sn_goto d119_15 (by decide), sn_aload_n d119_18 rfl, sn_bipush d119_19 (by decide), kV_126 wm_5_190 d119_21, sn_iret d119_24 rfl, trivial⟩
theorem sd119 : ∀ pc, eb_Snd L q0 119 pc (eb_lg 119) (eb_cd L 119 pc) := eb_AS_all (hk119 (L := L)) (sc119_0)
theorem sc120_0 : eb_AS L q0 120 (eb_lg 120) [(0, op_iload 1 1), (1, op_push (zi 1) 2), (2, op_push (zi 40) 4), (4, op_call 127 3 7), (7, op_ifne 17 10), (10, op_aload 0 11), (11, op_push (zi (-2)) 13), (13, op_call 125 2 16), (16, op_iret), (17, op_aload 0 18), (18, op_getR L 5 0 21), (21, op_getI L 4 2 24), (24, op_push (zi 1) 25), (25, op_icge 35 28), (28, op_aload 0 29), (29, op_push (zi (-5)) 31), (31, op_call 125 2 34), (34, op_iret), (35, op_push (zi 0) 36), (36, op_istore 2 37), (37, op_push (zi 0) 38), (38, op_istore 3 39), (39, op_iload 3 40), (40, op_iload 1 41), (41, op_icge 63 44), (44, op_aload 0 45), (45, op_getR L 5 0 48), (48, op_call 65 1 51), (51, op_ifeq 57 54), (54, op_iinc 2 1 57), (57, op_iinc 3 1 60), (60, op_goto 39), (63, op_iload 2 64), (64, op_iret)] := ⟨sn_iload_n d120_0 rfl, sn_iconst d120_1 (by decide), sn_bipush d120_2 (by decide), kS_127 wm_5_44 d120_4, sn_ifne d120_7 (by decide), sn_aload_n d120_10 rfl, sn_bipush d120_11 (by decide), kV_125 wm_5_48 d120_13, sn_iret d120_16 rfl, sn_aload_n d120_17 rfl, sn_getR (by decide) fi_5_0.1 fi_5_0.2 wf_5_10 d120_18, sn_getI (by decide) fi_4_2.1 fi_4_2.2 wf_5_235 d120_21, sn_iconst d120_24 (by decide), sn_icge d120_25 (by decide), sn_aload_n d120_28 rfl, sn_bipush d120_29 (by decide), kV_125 wm_5_48 d120_31, sn_iret d120_34 rfl, sn_iconst d120_35 (by decide), sn_istore_n (eb_hlg (Or.inl rfl)) hn120_2 d120_36 rfl, sn_iconst d120_37 (by decide), sn_istore_n (eb_hlg (Or.inl rfl)) hn120_3 d120_38 rfl, sn_iload_n d120_39 rfl, sn_iload_n d120_40 rfl, sn_icge d120_41 (by decide), sn_aload_n d120_44 rfl, sn_getR (by decide) fi_5_0.1 fi_5_0.2 wf_5_10 d120_45, kV_65 wm_5_294 d120_48, sn_ifeq d120_51 (by decide), sn_iinc (eb_hlg (Or.inl rfl)) hn120_2 d120_54 (by decide), sn_iinc (eb_hlg (Or.inl rfl)) hn120_3 d120_57 (by decide), sn_goto d120_60 (by decide), sn_iload_n d120_63 rfl, sn_iret d120_64 rfl, trivial⟩
theorem sd120 : ∀ pc, eb_Snd L q0 120 pc (eb_lg 120) (eb_cd L 120 pc) := eb_AS_all (hk120 (L := L)) (sc120_0)
theorem sc121_0 : eb_AS L q0 121 (eb_lg 121) [(0, op_aload 0 1), (1, op_getR L 5 0 4), (4, op_getI L 4 6 7), (7, op_istore 2 8), (8, op_aload 0 9), (9, op_getR L 5 0 12), (12, op_iload 1 13), (13, op_putI L 4 6 16), (16, op_iload 2 17), (17, op_iret)] := ⟨sn_aload_n d121_0 rfl, sn_getR (by decide) fi_5_0.1 fi_5_0.2 wf_5_10 d121_1, sn_getI (by decide) fi_4_6.1 fi_4_6.2 wf_5_297 d121_4, sn_istore_n (eb_hlg (Or.inl rfl)) hn121_2 d121_7 rfl, sn_aload_n d121_8 rfl, sn_getR (by decide) fi_5_0.1 fi_5_0.2 wf_5_10 d121_9, sn_iload_n d121_12 rfl, sn_putI (by decide) fi_4_6.1 fi_4_6.2 wf_5_297 (Or.inl rfl) fp_4_6 d121_13, sn_iload_n d121_16 rfl, sn_iret d121_17 rfl, trivial⟩
theorem sd121 : ∀ pc, eb_Snd L q0 121 pc (eb_lg 121) (eb_cd L 121 pc) := eb_AS_all (hk121 (L := L)) (sc121_0)
theorem sc122_0 : eb_AS L q0 122 (eb_lg 122) [(0, op_aload 0 1), (1, op_getR L 5 2 4), (4, op_aload 0 5), (5, op_getR L 5 0 8), (8, op_callv 39 2 11), (11, op_aload 0 12), (12, op_push (zi 1) 13), (13, op_putZ L 5 3 16), (16, op_push (zi 1) 17), (17, op_iret)] := ⟨sn_aload_n d122_0 rfl, sn_getR (by decide) fi_5_2.1 fi_5_2.2 wf_5_19 d122_1, sn_aload_n d122_4 rfl, sn_getR (by decide) fi_5_0.1 fi_5_0.2 wf_5_10 d122_5, kV_39 wm_5_171 d122_8, sn_aload_n d122_11 rfl, sn_iconst d122_12 (by decide), sn_putZ (by decide) fi_5_3.1 fi_5_3.2 wf_5_300 (Or.inl rfl) fp_5_3 d122_13, sn_iconst d122_16 (by decide), sn_iret d122_17 rfl, trivial⟩
theorem sd122 : ∀ pc, eb_Snd L q0 122 pc (eb_lg 122) (eb_cd L 122 pc) := eb_AS_all (hk122 (L := L)) (sc122_0)
theorem sc123_0 : eb_AS L q0 123 (eb_lg 123) [(0, op_aload 0 1), (1, op_getI L 5 3 4), (4, op_ifne 14 7), (7, op_aload 0 8), (8, op_push (zi (-5)) 10), (10, op_call 125 2 13), (13, op_iret), (14, op_aload 0 15), (15, op_getR L 5 0 18), (18, op_aload 0 19), (19, op_getR L 5 2 22), (22, op_callv 39 2 25), (25, op_push (zi 0) 26), (26, op_istore 1 27), (27, op_iload 1 28), (28, op_push (zi 8) 30), (30, op_icge 80 33), (33, op_aload 0 34), (34, op_getR L 5 4 37), (37, op_iload 1 38), (38, op_aald L 39), (39, op_call 18 1 42), (42, op_ifeq 74 45), (45, op_aload 0 46), (46, op_aload 0 47), (47, op_getR L 5 4 50), (50, op_iload 1 51), (51, op_aald L 52), (52, op_getI L 2 0 55), (55, op_push (zi 10) 57), (57, op_ii (· - ·) 58), (58, op_call 132 2 61), (61, op_ifne 74 64), (64, op_aload 0 65), (65, op_getR L 5 4 68), (68, op_iload 1 69), (69, op_aald L 70), (70, op_push (zi (-1)) 71), (71, op_putI L 2 0 74), (74, op_iinc 1 1 77)] := ⟨sn_aload_n d123_0 rfl, sn_getI (by decide) fi_5_3.1 fi_5_3.2 wf_5_300 d123_1, sn_ifne d123_4 (by decide), sn_aload_n d123_7 rfl, sn_bipush d123_8 (by decide), kV_125 wm_5_48 d123_10, sn_iret d123_13 rfl, sn_aload_n d123_14 rfl, sn_getR (by decide) fi_5_0.1 fi_5_0.2 wf_5_10 d123_15, sn_aload_n d123_18 rfl, sn_getR (by decide) fi_5_2.1 fi_5_2.2 wf_5_19 d123_19, kV_39 wm_5_171 d123_22, sn_iconst d123_25 (by decide), sn_istore_n (eb_hlg (Or.inl rfl)) hn123_1 d123_26 rfl, sn_iload_n d123_27 rfl, sn_bipush d123_28 (by decide), sn_icge d123_30 (by decide), sn_aload_n d123_33 rfl, sn_getR (by decide) fi_5_4.1 fi_5_4.2 wf_5_24 d123_34, sn_iload_n d123_37 rfl, sn_aald d123_38, kV_18 wm_5_70 d123_39, sn_ifeq d123_42 (by decide), sn_aload_n d123_45 rfl, sn_aload_n d123_46 rfl, sn_getR (by decide) fi_5_4.1 fi_5_4.2 wf_5_24 d123_47, sn_iload_n d123_50 rfl, sn_aald d123_51, sn_getI (by decide) fi_2_0.1 fi_2_0.2 wf_5_67 d123_52, sn_bipush d123_55 (by decide), sn_isub d123_57, kV_132 wm_5_94 d123_58, sn_ifne d123_61 (by decide), sn_aload_n d123_64 rfl, sn_getR (by decide) fi_5_4.1 fi_5_4.2 wf_5_24 d123_65, sn_iload_n d123_68 rfl, sn_aald d123_69, sn_iconst d123_70 (by decide), sn_putI (by decide) fi_2_0.1 fi_2_0.2 wf_5_67 (Or.inl rfl) fp_2_0 d123_71, sn_iinc (eb_hlg (Or.inl rfl)) hn123_1 d123_74 (by decide), trivial⟩
theorem sc123_1 : eb_AS L q0 123 (eb_lg 123) [(77, op_goto 27), (80, op_push (zi 1) 81), (81, op_iret)] := ⟨sn_goto d123_77 (by decide), sn_iconst d123_80 (by decide), sn_iret d123_81 rfl, trivial⟩
theorem sd123 : ∀ pc, eb_Snd L q0 123 pc (eb_lg 123) (eb_cd L 123 pc) := eb_AS_all (hk123 (L := L)) (eb_AS_app sc123_0 (sc123_1))
end

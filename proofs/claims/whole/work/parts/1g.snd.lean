/-! every row of these methods is sound: by program -/
set_option maxRecDepth 100000
theorem d162_0 : decode (eb_b 162) 0 = .ok (.iload_n 1, 1) := by decide +kernel
theorem d162_1 : decode (eb_b 162) 1 = .ok (.i2l, 1) := by decide +kernel
theorem d162_2 : decode (eb_b 162) 2 = .ok (.lconst 0, 1) := by decide +kernel
theorem d162_3 : decode (eb_b 162) 3 = .ok (.ldc2_w 115, 3) := by decide +kernel
theorem wl_6_115 : Cond.constantLong (eb_cN 6) 115 100 ∈ eb_LT := eb_lt 1132 (by decide +kernel)
theorem d162_6 : decode (eb_b 162) 6 = .ok (.invokestatic 76, 3) := by decide +kernel
theorem d162_9 : decode (eb_b 162) 9 = .ok (.ifCond .eq 27, 3) := by decide +kernel
theorem d162_12 : decode (eb_b 162) 12 = .ok (.iload_n 2, 1) := by decide +kernel
theorem d162_13 : decode (eb_b 162) 13 = .ok (.i2l, 1) := by decide +kernel
theorem d162_14 : decode (eb_b 162) 14 = .ok (.lconst 1, 1) := by decide +kernel
theorem d162_15 : decode (eb_b 162) 15 = .ok (.ldc2_w 117, 3) := by decide +kernel
theorem wl_6_117 : Cond.constantLong (eb_cN 6) 117 20 ∈ eb_LT := eb_lt 1133 (by decide +kernel)
theorem d162_18 : decode (eb_b 162) 18 = .ok (.invokestatic 76, 3) := by decide +kernel
theorem d162_21 : decode (eb_b 162) 21 = .ok (.ifCond .eq 15, 3) := by decide +kernel
theorem d162_24 : decode (eb_b 162) 24 = .ok (.iload_n 3, 1) := by decide +kernel
theorem d162_25 : decode (eb_b 162) 25 = .ok (.i2l, 1) := by decide +kernel
theorem d162_26 : decode (eb_b 162) 26 = .ok (.lconst 0, 1) := by decide +kernel
theorem d162_27 : decode (eb_b 162) 27 = .ok (.ldc2_w 119, 3) := by decide +kernel
theorem wl_6_119 : Cond.constantLong (eb_cN 6) 119 99 ∈ eb_LT := eb_lt 1134 (by decide +kernel)
theorem d162_30 : decode (eb_b 162) 30 = .ok (.invokestatic 76, 3) := by decide +kernel
theorem d162_33 : decode (eb_b 162) 33 = .ok (.ifCond .ne 10, 3) := by decide +kernel
theorem d162_36 : decode (eb_b 162) 36 = .ok (.aload_n 0, 1) := by decide +kernel
theorem d162_37 : decode (eb_b 162) 37 = .ok (.bipush (-2), 2) := by decide +kernel
theorem d162_39 : decode (eb_b 162) 39 = .ok (.invokevirtual 91, 3) := by decide +kernel
theorem d162_42 : decode (eb_b 162) 42 = .ok (.ireturn, 1) := by decide +kernel
theorem d162_43 : decode (eb_b 162) 43 = .ok (.aload_n 0, 1) := by decide +kernel
theorem d162_44 : decode (eb_b 162) 44 = .ok (.getfield 73, 3) := by decide +kernel
theorem d162_47 : decode (eb_b 162) 47 = .ok (.bipush 6, 2) := by decide +kernel
theorem d162_49 : decode (eb_b 162) 49 = .ok (.if_icmp .ne 10, 3) := by decide +kernel
theorem d162_52 : decode (eb_b 162) 52 = .ok (.aload_n 0, 1) := by decide +kernel
theorem d162_53 : decode (eb_b 162) 53 = .ok (.bipush (-6), 2) := by decide +kernel
theorem d162_55 : decode (eb_b 162) 55 = .ok (.invokevirtual 91, 3) := by decide +kernel
theorem d162_58 : decode (eb_b 162) 58 = .ok (.ireturn, 1) := by decide +kernel
theorem d162_59 : decode (eb_b 162) 59 = .ok (.aload_n 0, 1) := by decide +kernel
theorem d162_60 : decode (eb_b 162) 60 = .ok (.iload_n 1, 1) := by decide +kernel
theorem d162_61 : decode (eb_b 162) 61 = .ok (.iload_n 2, 1) := by decide +kernel
theorem d162_62 : decode (eb_b 162) 62 = .ok (.iload_n 3, 1) := by decide +kernel
theorem d162_63 : decode (eb_b 162) 63 = .ok (.iconst (-1), 1) := by decide +kernel
theorem d162_64 : decode (eb_b 162) 64 = .ok (.invokevirtual 121, 3) := by decide +kernel
theorem wc_161 : Cond.code (eb_y 161) (eb_b 161) (eb_ml 161) (eb_rt 161) ∈ eb_LT := eb_lt 1138 (by decide +kernel)
theorem cy_161 : (eb_y 161).cls = eb_cN (eb_rc 161) ∧ (eb_y 161).cls ≠ "java/lang/invoke/MethodHandle" ∧ (eb_y 161).cls ≠ "java/lang/invoke/VarHandle" ∧ (parseMethodDescriptor (eb_y 161).desc).map (fun d => d.parameters.length) = some 4 := by decide +kernel
theorem wi_161 : Cond.instanceMethod (eb_y 161) ∈ eb_LT := eb_lt 1137 (by decide +kernel)
theorem wse_161 : Cond.selects (eb_cN (eb_rc 161)) (eb_y 161) (eb_y 161) ∈ eb_LT := eb_lt 41 (by decide +kernel)
theorem kV_161 {L q0 m pc : Nat} {lg : Nat → Bool} {ix : Nat} (hw : Cond.methodLink (eb_own m) ix (eb_y 161) ∈ eb_LT) (hd : decode (eb_b m) pc = .ok (.invokevirtual ix, 3)) : eb_Snd L q0 m pc lg (op_callv 161 5 (pc + 3)) := sn_callV true rfl (Or.inl ⟨rfl, rfl⟩) (by decide) rfl (by decide) ⟨⟨hw, wi_161, wse_161⟩, wc_161⟩ cy_161 hd
theorem wm_6_121 : Cond.methodLink (eb_cN 6) 121 (eb_y 161) ∈ eb_LT := eb_lt 1135 (by decide +kernel)
theorem d162_67 : decode (eb_b 162) 67 = .ok (.aload_n 0, 1) := by decide +kernel
theorem d162_68 : decode (eb_b 162) 68 = .ok (.getfield 73, 3) := by decide +kernel
theorem d162_71 : decode (eb_b 162) 71 = .ok (.iconst 1, 1) := by decide +kernel
theorem d162_72 : decode (eb_b 162) 72 = .ok (.isub, 1) := by decide +kernel
theorem d162_73 : decode (eb_b 162) 73 = .ok (.ireturn, 1) := by decide +kernel
theorem d163_0 : decode (eb_b 163) 0 = .ok (.iload_n 1, 1) := by decide +kernel
theorem d163_1 : decode (eb_b 163) 1 = .ok (.i2l, 1) := by decide +kernel
theorem d163_2 : decode (eb_b 163) 2 = .ok (.lconst 0, 1) := by decide +kernel
theorem d163_3 : decode (eb_b 163) 3 = .ok (.ldc2_w 106, 3) := by decide +kernel
theorem d163_6 : decode (eb_b 163) 6 = .ok (.invokestatic 76, 3) := by decide +kernel
theorem d163_9 : decode (eb_b 163) 9 = .ok (.ifCond .eq 27, 3) := by decide +kernel
theorem d163_12 : decode (eb_b 163) 12 = .ok (.iload_n 2, 1) := by decide +kernel
theorem d163_13 : decode (eb_b 163) 13 = .ok (.i2l, 1) := by decide +kernel
theorem d163_14 : decode (eb_b 163) 14 = .ok (.lconst 1, 1) := by decide +kernel
theorem d163_15 : decode (eb_b 163) 15 = .ok (.ldc2_w 125, 3) := by decide +kernel
theorem wl_6_125 : Cond.constantLong (eb_cN 6) 125 30 ∈ eb_LT := eb_lt 1143 (by decide +kernel)
theorem d163_18 : decode (eb_b 163) 18 = .ok (.invokestatic 76, 3) := by decide +kernel
theorem d163_21 : decode (eb_b 163) 21 = .ok (.ifCond .eq 15, 3) := by decide +kernel
theorem d163_24 : decode (eb_b 163) 24 = .ok (.iload_n 3, 1) := by decide +kernel
theorem d163_25 : decode (eb_b 163) 25 = .ok (.i2l, 1) := by decide +kernel
theorem d163_26 : decode (eb_b 163) 26 = .ok (.lconst 0, 1) := by decide +kernel
theorem d163_27 : decode (eb_b 163) 27 = .ok (.ldc2_w 119, 3) := by decide +kernel
theorem d163_30 : decode (eb_b 163) 30 = .ok (.invokestatic 76, 3) := by decide +kernel
theorem d163_33 : decode (eb_b 163) 33 = .ok (.ifCond .ne 10, 3) := by decide +kernel
theorem d163_36 : decode (eb_b 163) 36 = .ok (.aload_n 0, 1) := by decide +kernel
theorem d163_37 : decode (eb_b 163) 37 = .ok (.bipush (-2), 2) := by decide +kernel
theorem d163_39 : decode (eb_b 163) 39 = .ok (.invokevirtual 91, 3) := by decide +kernel
theorem d163_42 : decode (eb_b 163) 42 = .ok (.ireturn, 1) := by decide +kernel
theorem d163_43 : decode (eb_b 163) 43 = .ok (.aload_n 0, 1) := by decide +kernel
theorem d163_44 : decode (eb_b 163) 44 = .ok (.getfield 80, 3) := by decide +kernel
theorem d163_47 : decode (eb_b 163) 47 = .ok (.bipush 6, 2) := by decide +kernel
theorem d163_49 : decode (eb_b 163) 49 = .ok (.if_icmp .ne 10, 3) := by decide +kernel
theorem d163_52 : decode (eb_b 163) 52 = .ok (.aload_n 0, 1) := by decide +kernel
theorem d163_53 : decode (eb_b 163) 53 = .ok (.bipush (-6), 2) := by decide +kernel
theorem d163_55 : decode (eb_b 163) 55 = .ok (.invokevirtual 91, 3) := by decide +kernel
theorem d163_58 : decode (eb_b 163) 58 = .ok (.ireturn, 1) := by decide +kernel
theorem d163_59 : decode (eb_b 163) 59 = .ok (.aload_n 0, 1) := by decide +kernel
theorem d163_60 : decode (eb_b 163) 60 = .ok (.getfield 42, 3) := by decide +kernel
theorem d163_63 : decode (eb_b 163) 63 = .ok (.aload_n 0, 1) := by decide +kernel
theorem d163_64 : decode (eb_b 163) 64 = .ok (.getfield 80, 3) := by decide +kernel
theorem d163_67 : decode (eb_b 163) 67 = .ok (.aaload, 1) := by decide +kernel
theorem d163_68 : decode (eb_b 163) 68 = .ok (.iconst 0, 1) := by decide +kernel
theorem d163_69 : decode (eb_b 163) 69 = .ok (.iload_n 1, 1) := by decide +kernel
theorem d163_70 : decode (eb_b 163) 70 = .ok (.iastore, 1) := by decide +kernel
theorem d163_71 : decode (eb_b 163) 71 = .ok (.aload_n 0, 1) := by decide +kernel
theorem d163_72 : decode (eb_b 163) 72 = .ok (.getfield 42, 3) := by decide +kernel
theorem d163_75 : decode (eb_b 163) 75 = .ok (.aload_n 0, 1) := by decide +kernel
theorem d163_76 : decode (eb_b 163) 76 = .ok (.getfield 80, 3) := by decide +kernel
theorem d163_79 : decode (eb_b 163) 79 = .ok (.aaload, 1) := by decide +kernel
theorem d163_80 : decode (eb_b 163) 80 = .ok (.iconst 1, 1) := by decide +kernel
theorem d163_81 : decode (eb_b 163) 81 = .ok (.iload_n 2, 1) := by decide +kernel
theorem d163_82 : decode (eb_b 163) 82 = .ok (.iastore, 1) := by decide +kernel
theorem d163_83 : decode (eb_b 163) 83 = .ok (.aload_n 0, 1) := by decide +kernel
theorem d163_84 : decode (eb_b 163) 84 = .ok (.getfield 42, 3) := by decide +kernel
theorem d163_87 : decode (eb_b 163) 87 = .ok (.aload_n 0, 1) := by decide +kernel
theorem d163_88 : decode (eb_b 163) 88 = .ok (.getfield 80, 3) := by decide +kernel
theorem d163_91 : decode (eb_b 163) 91 = .ok (.aaload, 1) := by decide +kernel
theorem d163_92 : decode (eb_b 163) 92 = .ok (.iconst 2, 1) := by decide +kernel
theorem d163_93 : decode (eb_b 163) 93 = .ok (.iload_n 3, 1) := by decide +kernel
theorem d163_94 : decode (eb_b 163) 94 = .ok (.iastore, 1) := by decide +kernel
theorem d163_95 : decode (eb_b 163) 95 = .ok (.aload_n 0, 1) := by decide +kernel
theorem d163_96 : decode (eb_b 163) 96 = .ok (.dup, 1) := by decide +kernel
theorem d163_97 : decode (eb_b 163) 97 = .ok (.getfield 80, 3) := by decide +kernel
theorem d163_100 : decode (eb_b 163) 100 = .ok (.dup_x1, 1) := by decide +kernel
theorem d163_101 : decode (eb_b 163) 101 = .ok (.iconst 1, 1) := by decide +kernel
theorem d163_102 : decode (eb_b 163) 102 = .ok (.iadd, 1) := by decide +kernel
theorem d163_103 : decode (eb_b 163) 103 = .ok (.putfield 80, 3) := by decide +kernel
theorem fp_6_11 : ∀ x : Int32, narrow (eb_tt 6 11) (.int x) = .int x ∧ fits (eb_tt 6 11) (.int x) = true := fun x => ⟨rfl, rfl⟩
theorem d163_106 : decode (eb_b 163) 106 = .ok (.ireturn, 1) := by decide +kernel
theorem d164_0 : decode (eb_b 164) 0 = .ok (.aload_n 0, 1) := by decide +kernel
theorem d164_1 : decode (eb_b 164) 1 = .ok (.iload_n 1, 1) := by decide +kernel
theorem d164_2 : decode (eb_b 164) 2 = .ok (.invokevirtual 127, 3) := by decide +kernel
theorem wc_148 : Cond.code (eb_y 148) (eb_b 148) (eb_ml 148) (eb_rt 148) ∈ eb_LT := eb_lt 1151 (by decide +kernel)
theorem cy_148 : (eb_y 148).cls = eb_cN (eb_rc 148) ∧ (eb_y 148).cls ≠ "java/lang/invoke/MethodHandle" ∧ (eb_y 148).cls ≠ "java/lang/invoke/VarHandle" ∧ (parseMethodDescriptor (eb_y 148).desc).map (fun d => d.parameters.length) = some 1 := by decide +kernel
theorem wi_148 : Cond.instanceMethod (eb_y 148) ∈ eb_LT := eb_lt 1150 (by decide +kernel)
theorem wse_148 : Cond.selects (eb_cN (eb_rc 148)) (eb_y 148) (eb_y 148) ∈ eb_LT := eb_lt 42 (by decide +kernel)
theorem kV_148 {L q0 m pc : Nat} {lg : Nat → Bool} {ix : Nat} (hw : Cond.methodLink (eb_own m) ix (eb_y 148) ∈ eb_LT) (hd : decode (eb_b m) pc = .ok (.invokevirtual ix, 3)) : eb_Snd L q0 m pc lg (op_call 148 2 (pc + 3)) := sn_callV false rfl (Or.inr ⟨rfl, _, rfl⟩) (by decide) rfl (by decide) ⟨⟨hw, wi_148, wse_148⟩, wc_148⟩ cy_148 hd
theorem wm_6_127 : Cond.methodLink (eb_cN 6) 127 (eb_y 148) ∈ eb_LT := eb_lt 1148 (by decide +kernel)
theorem d164_5 : decode (eb_b 164) 5 = .ok (.ifCond .eq 35, 3) := by decide +kernel
theorem d164_8 : decode (eb_b 164) 8 = .ok (.iload_n 2, 1) := by decide +kernel
theorem d164_9 : decode (eb_b 164) 9 = .ok (.i2l, 1) := by decide +kernel
theorem d164_10 : decode (eb_b 164) 10 = .ok (.lconst 0, 1) := by decide +kernel
theorem d164_11 : decode (eb_b 164) 11 = .ok (.lconst 1, 1) := by decide +kernel
theorem d164_12 : decode (eb_b 164) 12 = .ok (.invokestatic 76, 3) := by decide +kernel
theorem d164_15 : decode (eb_b 164) 15 = .ok (.ifCond .eq 25, 3) := by decide +kernel
theorem d164_18 : decode (eb_b 164) 18 = .ok (.iload_n 3, 1) := by decide +kernel
theorem d164_19 : decode (eb_b 164) 19 = .ok (.i2l, 1) := by decide +kernel
theorem d164_20 : decode (eb_b 164) 20 = .ok (.lconst 0, 1) := by decide +kernel
theorem d164_21 : decode (eb_b 164) 21 = .ok (.iload_n 2, 1) := by decide +kernel
theorem d164_22 : decode (eb_b 164) 22 = .ok (.ifCond .ne 9, 3) := by decide +kernel
theorem d164_25 : decode (eb_b 164) 25 = .ok (.ldc2_w 115, 3) := by decide +kernel
theorem d164_28 : decode (eb_b 164) 28 = .ok (.goto 6, 3) := by decide +kernel
theorem d164_31 : decode (eb_b 164) 31 = .ok (.ldc2_w 119, 3) := by decide +kernel
theorem d164_34 : decode (eb_b 164) 34 = .ok (.invokestatic 76, 3) := by decide +kernel
theorem d164_37 : decode (eb_b 164) 37 = .ok (.ifCond .ne 10, 3) := by decide +kernel
theorem d164_40 : decode (eb_b 164) 40 = .ok (.aload_n 0, 1) := by decide +kernel
theorem d164_41 : decode (eb_b 164) 41 = .ok (.bipush (-2), 2) := by decide +kernel
theorem d164_43 : decode (eb_b 164) 43 = .ok (.invokevirtual 91, 3) := by decide +kernel
theorem d164_46 : decode (eb_b 164) 46 = .ok (.ireturn, 1) := by decide +kernel
theorem d164_47 : decode (eb_b 164) 47 = .ok (.iload_n 2, 1) := by decide +kernel
theorem d164_48 : decode (eb_b 164) 48 = .ok (.ifCond .ne 7, 3) := by decide +kernel
theorem d164_51 : decode (eb_b 164) 51 = .ok (.iconst 0, 1) := by decide +kernel
theorem d164_52 : decode (eb_b 164) 52 = .ok (.goto 4, 3) := by decide +kernel
theorem d164_55 : decode (eb_b 164) 55 = .ok (.iconst 3, 1) := by decide +kernel
theorem d164_56 : decode (eb_b 164) 56 = .ok (.istore 4, 2) := by decide +kernel
theorem hn164_4 : 4 < eb_ml 164 := by decide
theorem d164_58 : decode (eb_b 164) 58 = .ok (.aload_n 0, 1) := by decide +kernel
theorem d164_59 : decode (eb_b 164) 59 = .ok (.getfield 39, 3) := by decide +kernel
theorem d164_62 : decode (eb_b 164) 62 = .ok (.iload_n 1, 1) := by decide +kernel
theorem d164_63 : decode (eb_b 164) 63 = .ok (.aaload, 1) := by decide +kernel
theorem d164_64 : decode (eb_b 164) 64 = .ok (.iload 4, 2) := by decide +kernel
theorem d164_66 : decode (eb_b 164) 66 = .ok (.iaload, 1) := by decide +kernel
theorem d164_67 : decode (eb_b 164) 67 = .ok (.istore 5, 2) := by decide +kernel
theorem hn164_5 : 5 < eb_ml 164 := by decide
theorem d164_69 : decode (eb_b 164) 69 = .ok (.aload_n 0, 1) := by decide +kernel
theorem d164_70 : decode (eb_b 164) 70 = .ok (.getfield 39, 3) := by decide +kernel
theorem d164_73 : decode (eb_b 164) 73 = .ok (.iload_n 1, 1) := by decide +kernel
theorem d164_74 : decode (eb_b 164) 74 = .ok (.aaload, 1) := by decide +kernel
theorem d164_75 : decode (eb_b 164) 75 = .ok (.iload 4, 2) := by decide +kernel
theorem d164_77 : decode (eb_b 164) 77 = .ok (.iload_n 3, 1) := by decide +kernel
theorem d164_78 : decode (eb_b 164) 78 = .ok (.iastore, 1) := by decide +kernel
theorem d164_79 : decode (eb_b 164) 79 = .ok (.iload 5, 2) := by decide +kernel
theorem d164_81 : decode (eb_b 164) 81 = .ok (.ireturn, 1) := by decide +kernel
theorem d165_0 : decode (eb_b 165) 0 = .ok (.aload_n 0, 1) := by decide +kernel
theorem d165_1 : decode (eb_b 165) 1 = .ok (.iload_n 1, 1) := by decide +kernel
theorem d165_2 : decode (eb_b 165) 2 = .ok (.invokevirtual 127, 3) := by decide +kernel
theorem d165_5 : decode (eb_b 165) 5 = .ok (.ifCond .eq 17, 3) := by decide +kernel
theorem d165_8 : decode (eb_b 165) 8 = .ok (.iload_n 2, 1) := by decide +kernel
theorem d165_9 : decode (eb_b 165) 9 = .ok (.i2l, 1) := by decide +kernel
theorem d165_10 : decode (eb_b 165) 10 = .ok (.ldc2_w 130, 3) := by decide +kernel
theorem wl_6_130 : Cond.constantLong (eb_cN 6) 130 (-1) ∈ eb_LT := eb_lt 1156 (by decide +kernel)
theorem d165_13 : decode (eb_b 165) 13 = .ok (.ldc2_w 115, 3) := by decide +kernel
theorem d165_16 : decode (eb_b 165) 16 = .ok (.invokestatic 76, 3) := by decide +kernel
theorem d165_19 : decode (eb_b 165) 19 = .ok (.ifCond .ne 10, 3) := by decide +kernel
theorem d165_22 : decode (eb_b 165) 22 = .ok (.aload_n 0, 1) := by decide +kernel
theorem d165_23 : decode (eb_b 165) 23 = .ok (.bipush (-2), 2) := by decide +kernel
theorem d165_25 : decode (eb_b 165) 25 = .ok (.invokevirtual 91, 3) := by decide +kernel
theorem d165_28 : decode (eb_b 165) 28 = .ok (.ireturn, 1) := by decide +kernel
theorem d165_29 : decode (eb_b 165) 29 = .ok (.aload_n 0, 1) := by decide +kernel
theorem d165_30 : decode (eb_b 165) 30 = .ok (.getfield 39, 3) := by decide +kernel
theorem d165_33 : decode (eb_b 165) 33 = .ok (.iload_n 1, 1) := by decide +kernel
theorem d165_34 : decode (eb_b 165) 34 = .ok (.aaload, 1) := by decide +kernel
theorem d165_35 : decode (eb_b 165) 35 = .ok (.iconst 4, 1) := by decide +kernel
theorem d165_36 : decode (eb_b 165) 36 = .ok (.iaload, 1) := by decide +kernel
theorem d165_37 : decode (eb_b 165) 37 = .ok (.istore_n 3, 1) := by decide +kernel
theorem hn165_3 : 3 < eb_ml 165 := by decide
theorem d165_38 : decode (eb_b 165) 38 = .ok (.aload_n 0, 1) := by decide +kernel
theorem d165_39 : decode (eb_b 165) 39 = .ok (.getfield 39, 3) := by decide +kernel
theorem d165_42 : decode (eb_b 165) 42 = .ok (.iload_n 1, 1) := by decide +kernel
theorem d165_43 : decode (eb_b 165) 43 = .ok (.aaload, 1) := by decide +kernel
theorem d165_44 : decode (eb_b 165) 44 = .ok (.iconst 4, 1) := by decide +kernel
theorem d165_45 : decode (eb_b 165) 45 = .ok (.iload_n 2, 1) := by decide +kernel
theorem d165_46 : decode (eb_b 165) 46 = .ok (.iastore, 1) := by decide +kernel
theorem d165_47 : decode (eb_b 165) 47 = .ok (.iload_n 3, 1) := by decide +kernel
theorem d165_48 : decode (eb_b 165) 48 = .ok (.ireturn, 1) := by decide +kernel
theorem d166_0 : decode (eb_b 166) 0 = .ok (.iconst 0, 1) := by decide +kernel
theorem d166_1 : decode (eb_b 166) 1 = .ok (.istore_n 2, 1) := by decide +kernel
theorem hn166_2 : 2 < eb_ml 166 := by decide
theorem d166_2 : decode (eb_b 166) 2 = .ok (.iconst 0, 1) := by decide +kernel
theorem d166_3 : decode (eb_b 166) 3 = .ok (.istore_n 3, 1) := by decide +kernel
theorem hn166_3 : 3 < eb_ml 166 := by decide
theorem d166_4 : decode (eb_b 166) 4 = .ok (.iload_n 3, 1) := by decide +kernel
theorem d166_5 : decode (eb_b 166) 5 = .ok (.aload_n 0, 1) := by decide +kernel
theorem d166_6 : decode (eb_b 166) 6 = .ok (.getfield 73, 3) := by decide +kernel
theorem d166_9 : decode (eb_b 166) 9 = .ok (.if_icmp .ge 62, 3) := by decide +kernel
theorem d166_12 : decode (eb_b 166) 12 = .ok (.iload_n 1, 1) := by decide +kernel
theorem d166_13 : decode (eb_b 166) 13 = .ok (.iload_n 3, 1) := by decide +kernel
theorem d166_14 : decode (eb_b 166) 14 = .ok (.ishr, 1) := by decide +kernel
theorem d166_15 : decode (eb_b 166) 15 = .ok (.iconst 1, 1) := by decide +kernel
theorem d166_16 : decode (eb_b 166) 16 = .ok (.iand, 1) := by decide +kernel
theorem d166_17 : decode (eb_b 166) 17 = .ok (.ifCond .eq 7, 3) := by decide +kernel
theorem d166_20 : decode (eb_b 166) 20 = .ok (.iconst 1, 1) := by decide +kernel
theorem d166_21 : decode (eb_b 166) 21 = .ok (.goto 4, 3) := by decide +kernel
theorem d166_24 : decode (eb_b 166) 24 = .ok (.iconst 0, 1) := by decide +kernel
theorem d166_25 : decode (eb_b 166) 25 = .ok (.istore 4, 2) := by decide +kernel
theorem hn166_4 : 4 < eb_ml 166 := by decide
theorem d166_27 : decode (eb_b 166) 27 = .ok (.aload_n 0, 1) := by decide +kernel
theorem d166_28 : decode (eb_b 166) 28 = .ok (.getfield 39, 3) := by decide +kernel
theorem d166_31 : decode (eb_b 166) 31 = .ok (.iload_n 3, 1) := by decide +kernel
theorem d166_32 : decode (eb_b 166) 32 = .ok (.aaload, 1) := by decide +kernel
theorem d166_33 : decode (eb_b 166) 33 = .ok (.iconst 4, 1) := by decide +kernel
theorem d166_34 : decode (eb_b 166) 34 = .ok (.iload 4, 2) := by decide +kernel
theorem d166_36 : decode (eb_b 166) 36 = .ok (.ifCond .eq 14, 3) := by decide +kernel
theorem d166_39 : decode (eb_b 166) 39 = .ok (.aload_n 0, 1) := by decide +kernel
theorem d166_40 : decode (eb_b 166) 40 = .ok (.getfield 39, 3) := by decide +kernel
theorem d166_43 : decode (eb_b 166) 43 = .ok (.iload_n 3, 1) := by decide +kernel
theorem d166_44 : decode (eb_b 166) 44 = .ok (.aaload, 1) := by decide +kernel
theorem d166_45 : decode (eb_b 166) 45 = .ok (.iconst 0, 1) := by decide +kernel
theorem d166_46 : decode (eb_b 166) 46 = .ok (.iaload, 1) := by decide +kernel
theorem d166_47 : decode (eb_b 166) 47 = .ok (.goto 4, 3) := by decide +kernel
theorem d166_50 : decode (eb_b 166) 50 = .ok (.iconst (-1), 1) := by decide +kernel
theorem d166_51 : decode (eb_b 166) 51 = .ok (.iastore, 1) := by decide +kernel
theorem d166_52 : decode (eb_b 166) 52 = .ok (.iload_n 2, 1) := by decide +kernel
theorem d166_53 : decode (eb_b 166) 53 = .ok (.iload 4, 2) := by decide +kernel
theorem d166_55 : decode (eb_b 166) 55 = .ok (.ifCond .eq 7, 3) := by decide +kernel
theorem d166_58 : decode (eb_b 166) 58 = .ok (.iconst 1, 1) := by decide +kernel
theorem d166_59 : decode (eb_b 166) 59 = .ok (.goto 4, 3) := by decide +kernel
theorem d166_62 : decode (eb_b 166) 62 = .ok (.iconst 0, 1) := by decide +kernel
theorem d166_63 : decode (eb_b 166) 63 = .ok (.iadd, 1) := by decide +kernel
theorem d166_64 : decode (eb_b 166) 64 = .ok (.istore_n 2, 1) := by decide +kernel
theorem d166_65 : decode (eb_b 166) 65 = .ok (.iinc 3 1, 3) := by decide +kernel
theorem d166_68 : decode (eb_b 166) 68 = .ok (.goto (-64), 3) := by decide +kernel
theorem d166_71 : decode (eb_b 166) 71 = .ok (.aload_n 0, 1) := by decide +kernel
theorem d166_72 : decode (eb_b 166) 72 = .ok (.iconst 0, 1) := by decide +kernel
theorem d166_73 : decode (eb_b 166) 73 = .ok (.putfield 132, 3) := by decide +kernel
theorem wf_6_132 : Cond.fieldLink (eb_cN 6) 132 (eb_tT 6 13).1 (eb_tT 6 13).2.1 (eb_tT 6 13).2.2.1 ∈ eb_LT := eb_lt 969 (by decide +kernel)
theorem fi_6_13 : 13 < eb_nf 6 ∧ (eb_tt 6 13).isReference = false := ⟨by decide, rfl⟩
theorem fp_6_13 : ∀ x : Int32, narrow (eb_tt 6 13) (.int x) = .int x ∧ fits (eb_tt 6 13) (.int x) = true := fun x => ⟨rfl, rfl⟩
theorem d166_76 : decode (eb_b 166) 76 = .ok (.iload_n 2, 1) := by decide +kernel
theorem d166_77 : decode (eb_b 166) 77 = .ok (.ireturn, 1) := by decide +kernel
theorem d167_0 : decode (eb_b 167) 0 = .ok (.iload_n 1, 1) := by decide +kernel
theorem d167_1 : decode (eb_b 167) 1 = .ok (.i2l, 1) := by decide +kernel
theorem d167_2 : decode (eb_b 167) 2 = .ok (.lconst 0, 1) := by decide +kernel
theorem d167_3 : decode (eb_b 167) 3 = .ok (.iconst 1, 1) := by decide +kernel
theorem d167_4 : decode (eb_b 167) 4 = .ok (.aload_n 0, 1) := by decide +kernel
theorem d167_5 : decode (eb_b 167) 5 = .ok (.getfield 73, 3) := by decide +kernel
theorem d167_8 : decode (eb_b 167) 8 = .ok (.ishl, 1) := by decide +kernel
theorem d167_9 : decode (eb_b 167) 9 = .ok (.iconst 1, 1) := by decide +kernel
theorem d167_10 : decode (eb_b 167) 10 = .ok (.isub, 1) := by decide +kernel
theorem d167_11 : decode (eb_b 167) 11 = .ok (.i2l, 1) := by decide +kernel
theorem d167_12 : decode (eb_b 167) 12 = .ok (.invokestatic 76, 3) := by decide +kernel
theorem d167_15 : decode (eb_b 167) 15 = .ok (.ireturn, 1) := by decide +kernel
theorem d168_0 : decode (eb_b 168) 0 = .ok (.aload_n 0, 1) := by decide +kernel
theorem d168_1 : decode (eb_b 168) 1 = .ok (.iload_n 1, 1) := by decide +kernel
theorem d168_2 : decode (eb_b 168) 2 = .ok (.invokevirtual 135, 3) := by decide +kernel
theorem wc_167 : Cond.code (eb_y 167) (eb_b 167) (eb_ml 167) (eb_rt 167) ∈ eb_LT := eb_lt 1164 (by decide +kernel)
theorem cy_167 : (eb_y 167).cls = eb_cN (eb_rc 167) ∧ (eb_y 167).cls ≠ "java/lang/invoke/MethodHandle" ∧ (eb_y 167).cls ≠ "java/lang/invoke/VarHandle" ∧ (parseMethodDescriptor (eb_y 167).desc).map (fun d => d.parameters.length) = some 1 := by decide +kernel
theorem wi_167 : Cond.instanceMethod (eb_y 167) ∈ eb_LT := eb_lt 1163 (by decide +kernel)
theorem wse_167 : Cond.selects (eb_cN (eb_rc 167)) (eb_y 167) (eb_y 167) ∈ eb_LT := eb_lt 43 (by decide +kernel)
theorem kV_167 {L q0 m pc : Nat} {lg : Nat → Bool} {ix : Nat} (hw : Cond.methodLink (eb_own m) ix (eb_y 167) ∈ eb_LT) (hd : decode (eb_b m) pc = .ok (.invokevirtual ix, 3)) : eb_Snd L q0 m pc lg (op_call 167 2 (pc + 3)) := sn_callV false rfl (Or.inr ⟨rfl, _, rfl⟩) (by decide) rfl (by decide) ⟨⟨hw, wi_167, wse_167⟩, wc_167⟩ cy_167 hd
theorem wm_6_135 : Cond.methodLink (eb_cN 6) 135 (eb_y 167) ∈ eb_LT := eb_lt 1161 (by decide +kernel)
theorem d168_5 : decode (eb_b 168) 5 = .ok (.ifCond .eq 11, 3) := by decide +kernel
theorem d168_8 : decode (eb_b 168) 8 = .ok (.aload_n 0, 1) := by decide +kernel
theorem d168_9 : decode (eb_b 168) 9 = .ok (.iload_n 1, 1) := by decide +kernel
theorem d168_10 : decode (eb_b 168) 10 = .ok (.invokevirtual 138, 3) := by decide +kernel
theorem wc_166 : Cond.code (eb_y 166) (eb_b 166) (eb_ml 166) (eb_rt 166) ∈ eb_LT := eb_lt 1168 (by decide +kernel)
theorem cy_166 : (eb_y 166).cls = eb_cN (eb_rc 166) ∧ (eb_y 166).cls ≠ "java/lang/invoke/MethodHandle" ∧ (eb_y 166).cls ≠ "java/lang/invoke/VarHandle" ∧ (parseMethodDescriptor (eb_y 166).desc).map (fun d => d.parameters.length) = some 1 := by decide +kernel
theorem wi_166 : Cond.instanceMethod (eb_y 166) ∈ eb_LT := eb_lt 1167 (by decide +kernel)
theorem wse_166 : Cond.selects (eb_cN (eb_rc 166)) (eb_y 166) (eb_y 166) ∈ eb_LT := eb_lt 44 (by decide +kernel)
theorem kV_166 {L q0 m pc : Nat} {lg : Nat → Bool} {ix : Nat} (hw : Cond.methodLink (eb_own m) ix (eb_y 166) ∈ eb_LT) (hd : decode (eb_b m) pc = .ok (.invokevirtual ix, 3)) : eb_Snd L q0 m pc lg (op_call 166 2 (pc + 3)) := sn_callV false rfl (Or.inr ⟨rfl, _, rfl⟩) (by decide) rfl (by decide) ⟨⟨hw, wi_166, wse_166⟩, wc_166⟩ cy_166 hd
theorem wm_6_138 : Cond.methodLink (eb_cN 6) 138 (eb_y 166) ∈ eb_LT := eb_lt 1165 (by decide +kernel)
theorem d168_13 : decode (eb_b 168) 13 = .ok (.goto 9, 3) := by decide +kernel
theorem d168_16 : decode (eb_b 168) 16 = .ok (.aload_n 0, 1) := by decide +kernel
theorem d168_17 : decode (eb_b 168) 17 = .ok (.bipush (-2), 2) := by decide +kernel
theorem d168_19 : decode (eb_b 168) 19 = .ok (.invokevirtual 91, 3) := by decide +kernel
theorem d168_22 : decode (eb_b 168) 22 = .ok (.ireturn, 1) := by decide +kernel
theorem d169_0 : decode (eb_b 169) 0 = .ok (.aload_n 0, 1) := by decide +kernel
theorem d169_1 : decode (eb_b 169) 1 = .ok (.getfield 39, 3) := by decide +kernel
theorem d169_4 : decode (eb_b 169) 4 = .ok (.iload_n 1, 1) := by decide +kernel
theorem d169_5 : decode (eb_b 169) 5 = .ok (.aaload, 1) := by decide +kernel
theorem d169_6 : decode (eb_b 169) 6 = .ok (.iconst 5, 1) := by decide +kernel
theorem d169_7 : decode (eb_b 169) 7 = .ok (.iaload, 1) := by decide +kernel
theorem d169_8 : decode (eb_b 169) 8 = .ok (.bipush 99, 2) := by decide +kernel
theorem d169_10 : decode (eb_b 169) 10 = .ok (.if_icmp .ge 28, 3) := by decide +kernel
theorem d169_13 : decode (eb_b 169) 13 = .ok (.aload_n 0, 1) := by decide +kernel
theorem d169_14 : decode (eb_b 169) 14 = .ok (.getfield 39, 3) := by decide +kernel
theorem d169_17 : decode (eb_b 169) 17 = .ok (.iload_n 1, 1) := by decide +kernel
theorem d169_18 : decode (eb_b 169) 18 = .ok (.aaload, 1) := by decide +kernel
theorem d169_19 : decode (eb_b 169) 19 = .ok (.iconst 5, 1) := by decide +kernel
theorem d169_20 : decode (eb_b 169) 20 = .ok (.dup2, 1) := by decide +kernel
theorem d169_21 : decode (eb_b 169) 21 = .ok (.iaload, 1) := by decide +kernel
theorem d169_22 : decode (eb_b 169) 22 = .ok (.iconst 1, 1) := by decide +kernel
theorem d169_23 : decode (eb_b 169) 23 = .ok (.iadd, 1) := by decide +kernel
theorem d169_24 : decode (eb_b 169) 24 = .ok (.iastore, 1) := by decide +kernel
theorem d169_25 : decode (eb_b 169) 25 = .ok (.aload_n 0, 1) := by decide +kernel
theorem d169_26 : decode (eb_b 169) 26 = .ok (.getfield 39, 3) := by decide +kernel
theorem d169_29 : decode (eb_b 169) 29 = .ok (.iload_n 1, 1) := by decide +kernel
theorem d169_30 : decode (eb_b 169) 30 = .ok (.aaload, 1) := by decide +kernel
theorem d169_31 : decode (eb_b 169) 31 = .ok (.bipush 6, 2) := by decide +kernel
theorem d169_33 : decode (eb_b 169) 33 = .ok (.dup2, 1) := by decide +kernel
theorem d169_34 : decode (eb_b 169) 34 = .ok (.iaload, 1) := by decide +kernel
theorem d169_35 : decode (eb_b 169) 35 = .ok (.iload_n 2, 1) := by decide +kernel
theorem d169_36 : decode (eb_b 169) 36 = .ok (.iadd, 1) := by decide +kernel
theorem d169_37 : decode (eb_b 169) 37 = .ok (.iastore, 1) := by decide +kernel
theorem d169_38 : decode (eb_b 169) 38 = .ok (.return_, 1) := by decide +kernel
theorem d170_0 : decode (eb_b 170) 0 = .ok (.aload_n 0, 1) := by decide +kernel
theorem d170_1 : decode (eb_b 170) 1 = .ok (.iload_n 1, 1) := by decide +kernel
theorem d170_2 : decode (eb_b 170) 2 = .ok (.invokevirtual 127, 3) := by decide +kernel
theorem d170_5 : decode (eb_b 170) 5 = .ok (.ifCond .eq 15, 3) := by decide +kernel
theorem d170_8 : decode (eb_b 170) 8 = .ok (.iload_n 2, 1) := by decide +kernel
theorem d170_9 : decode (eb_b 170) 9 = .ok (.i2l, 1) := by decide +kernel
theorem d170_10 : decode (eb_b 170) 10 = .ok (.lconst 0, 1) := by decide +kernel
theorem d170_11 : decode (eb_b 170) 11 = .ok (.ldc2_w 115, 3) := by decide +kernel
theorem d170_14 : decode (eb_b 170) 14 = .ok (.invokestatic 76, 3) := by decide +kernel
theorem d170_17 : decode (eb_b 170) 17 = .ok (.ifCond .ne 10, 3) := by decide +kernel
theorem d170_20 : decode (eb_b 170) 20 = .ok (.aload_n 0, 1) := by decide +kernel
theorem d170_21 : decode (eb_b 170) 21 = .ok (.bipush (-2), 2) := by decide +kernel
theorem d170_23 : decode (eb_b 170) 23 = .ok (.invokevirtual 91, 3) := by decide +kernel
theorem d170_26 : decode (eb_b 170) 26 = .ok (.ireturn, 1) := by decide +kernel
theorem d170_27 : decode (eb_b 170) 27 = .ok (.aload_n 0, 1) := by decide +kernel
theorem d170_28 : decode (eb_b 170) 28 = .ok (.getfield 39, 3) := by decide +kernel
theorem d170_31 : decode (eb_b 170) 31 = .ok (.iload_n 1, 1) := by decide +kernel
theorem d170_32 : decode (eb_b 170) 32 = .ok (.aaload, 1) := by decide +kernel
theorem d170_33 : decode (eb_b 170) 33 = .ok (.iconst 5, 1) := by decide +kernel
theorem d170_34 : decode (eb_b 170) 34 = .ok (.iaload, 1) := by decide +kernel
theorem d170_35 : decode (eb_b 170) 35 = .ok (.bipush 99, 2) := by decide +kernel
theorem d170_37 : decode (eb_b 170) 37 = .ok (.if_icmp .ne 10, 3) := by decide +kernel
theorem d170_40 : decode (eb_b 170) 40 = .ok (.aload_n 0, 1) := by decide +kernel
theorem d170_41 : decode (eb_b 170) 41 = .ok (.bipush (-6), 2) := by decide +kernel
theorem d170_43 : decode (eb_b 170) 43 = .ok (.invokevirtual 91, 3) := by decide +kernel
theorem d170_46 : decode (eb_b 170) 46 = .ok (.ireturn, 1) := by decide +kernel
theorem d170_47 : decode (eb_b 170) 47 = .ok (.aload_n 0, 1) := by decide +kernel
theorem d170_48 : decode (eb_b 170) 48 = .ok (.iload_n 1, 1) := by decide +kernel
theorem d170_49 : decode (eb_b 170) 49 = .ok (.iload_n 2, 1) := by decide +kernel
theorem d170_50 : decode (eb_b 170) 50 = .ok (.invokevirtual 141, 3) := by decide +kernel
theorem wc_169 : Cond.code (eb_y 169) (eb_b 169) (eb_ml 169) (eb_rt 169) ∈ eb_LT := eb_lt 1176 (by decide +kernel)
theorem cy_169 : (eb_y 169).cls = eb_cN (eb_rc 169) ∧ (eb_y 169).cls ≠ "java/lang/invoke/MethodHandle" ∧ (eb_y 169).cls ≠ "java/lang/invoke/VarHandle" ∧ (parseMethodDescriptor (eb_y 169).desc).map (fun d => d.parameters.length) = some 2 := by decide +kernel
theorem wi_169 : Cond.instanceMethod (eb_y 169) ∈ eb_LT := eb_lt 1175 (by decide +kernel)
theorem wse_169 : Cond.selects (eb_cN (eb_rc 169)) (eb_y 169) (eb_y 169) ∈ eb_LT := eb_lt 45 (by decide +kernel)
theorem kV_169 {L q0 m pc : Nat} {lg : Nat → Bool} {ix : Nat} (hw : Cond.methodLink (eb_own m) ix (eb_y 169) ∈ eb_LT) (hd : decode (eb_b m) pc = .ok (.invokevirtual ix, 3)) : eb_Snd L q0 m pc lg (op_callv 169 3 (pc + 3)) := sn_callV true rfl (Or.inl ⟨rfl, rfl⟩) (by decide) rfl (by decide) ⟨⟨hw, wi_169, wse_169⟩, wc_169⟩ cy_169 hd
theorem wm_6_141 : Cond.methodLink (eb_cN 6) 141 (eb_y 169) ∈ eb_LT := eb_lt 1173 (by decide +kernel)
theorem d170_53 : decode (eb_b 170) 53 = .ok (.aload_n 0, 1) := by decide +kernel
theorem d170_54 : decode (eb_b 170) 54 = .ok (.getfield 39, 3) := by decide +kernel
theorem d170_57 : decode (eb_b 170) 57 = .ok (.iload_n 1, 1) := by decide +kernel
theorem d170_58 : decode (eb_b 170) 58 = .ok (.aaload, 1) := by decide +kernel
theorem d170_59 : decode (eb_b 170) 59 = .ok (.iconst 5, 1) := by decide +kernel
theorem d170_60 : decode (eb_b 170) 60 = .ok (.iaload, 1) := by decide +kernel
theorem d170_61 : decode (eb_b 170) 61 = .ok (.ireturn, 1) := by decide +kernel
theorem d171_0 : decode (eb_b 171) 0 = .ok (.iload_n 1, 1) := by decide +kernel
theorem d171_1 : decode (eb_b 171) 1 = .ok (.i2l, 1) := by decide +kernel
theorem d171_2 : decode (eb_b 171) 2 = .ok (.lconst 0, 1) := by decide +kernel
theorem d171_3 : decode (eb_b 171) 3 = .ok (.ldc2_w 119, 3) := by decide +kernel
theorem d171_6 : decode (eb_b 171) 6 = .ok (.invokestatic 76, 3) := by decide +kernel
theorem d171_9 : decode (eb_b 171) 9 = .ok (.ifCond .ne 10, 3) := by decide +kernel
theorem d171_12 : decode (eb_b 171) 12 = .ok (.aload_n 0, 1) := by decide +kernel
theorem d171_13 : decode (eb_b 171) 13 = .ok (.bipush (-2), 2) := by decide +kernel
theorem d171_15 : decode (eb_b 171) 15 = .ok (.invokevirtual 91, 3) := by decide +kernel
theorem d171_18 : decode (eb_b 171) 18 = .ok (.ireturn, 1) := by decide +kernel
theorem d171_19 : decode (eb_b 171) 19 = .ok (.aload_n 0, 1) := by decide +kernel
theorem d171_20 : decode (eb_b 171) 20 = .ok (.getfield 132, 3) := by decide +kernel
theorem d171_23 : decode (eb_b 171) 23 = .ok (.istore_n 2, 1) := by decide +kernel
theorem hn171_2 : 2 < eb_ml 171 := by decide
theorem d171_24 : decode (eb_b 171) 24 = .ok (.aload_n 0, 1) := by decide +kernel
theorem d171_25 : decode (eb_b 171) 25 = .ok (.iload_n 1, 1) := by decide +kernel
theorem d171_26 : decode (eb_b 171) 26 = .ok (.putfield 132, 3) := by decide +kernel
theorem d171_29 : decode (eb_b 171) 29 = .ok (.iload_n 2, 1) := by decide +kernel
theorem d171_30 : decode (eb_b 171) 30 = .ok (.ireturn, 1) := by decide +kernel
theorem d172_0 : decode (eb_b 172) 0 = .ok (.aload_n 0, 1) := by decide +kernel
theorem d172_1 : decode (eb_b 172) 1 = .ok (.iload_n 1, 1) := by decide +kernel
theorem d172_2 : decode (eb_b 172) 2 = .ok (.invokevirtual 102, 3) := by decide +kernel
theorem d172_5 : decode (eb_b 172) 5 = .ok (.ifCond .eq 15, 3) := by decide +kernel
theorem d172_8 : decode (eb_b 172) 8 = .ok (.iload_n 2, 1) := by decide +kernel
theorem d172_9 : decode (eb_b 172) 9 = .ok (.i2l, 1) := by decide +kernel
theorem d172_10 : decode (eb_b 172) 10 = .ok (.lconst 1, 1) := by decide +kernel
theorem d172_11 : decode (eb_b 172) 11 = .ok (.ldc2_w 125, 3) := by decide +kernel
theorem d172_14 : decode (eb_b 172) 14 = .ok (.invokestatic 76, 3) := by decide +kernel
theorem d172_17 : decode (eb_b 172) 17 = .ok (.ifCond .ne 10, 3) := by decide +kernel
theorem d172_20 : decode (eb_b 172) 20 = .ok (.aload_n 0, 1) := by decide +kernel
theorem d172_21 : decode (eb_b 172) 21 = .ok (.bipush (-2), 2) := by decide +kernel
theorem d172_23 : decode (eb_b 172) 23 = .ok (.invokevirtual 91, 3) := by decide +kernel
theorem d172_26 : decode (eb_b 172) 26 = .ok (.ireturn, 1) := by decide +kernel
theorem d172_27 : decode (eb_b 172) 27 = .ok (.aload_n 0, 1) := by decide +kernel
theorem d172_28 : decode (eb_b 172) 28 = .ok (.getfield 42, 3) := by decide +kernel
theorem d172_31 : decode (eb_b 172) 31 = .ok (.iload_n 1, 1) := by decide +kernel
theorem d172_32 : decode (eb_b 172) 32 = .ok (.aaload, 1) := by decide +kernel
theorem d172_33 : decode (eb_b 172) 33 = .ok (.iconst 1, 1) := by decide +kernel
theorem d172_34 : decode (eb_b 172) 34 = .ok (.iaload, 1) := by decide +kernel
theorem d172_35 : decode (eb_b 172) 35 = .ok (.istore_n 3, 1) := by decide +kernel
theorem hn172_3 : 3 < eb_ml 172 := by decide
theorem d172_36 : decode (eb_b 172) 36 = .ok (.aload_n 0, 1) := by decide +kernel
theorem d172_37 : decode (eb_b 172) 37 = .ok (.getfield 42, 3) := by decide +kernel
theorem d172_40 : decode (eb_b 172) 40 = .ok (.iload_n 1, 1) := by decide +kernel
theorem d172_41 : decode (eb_b 172) 41 = .ok (.aaload, 1) := by decide +kernel
theorem d172_42 : decode (eb_b 172) 42 = .ok (.iconst 1, 1) := by decide +kernel
theorem d172_43 : decode (eb_b 172) 43 = .ok (.iload_n 2, 1) := by decide +kernel
theorem d172_44 : decode (eb_b 172) 44 = .ok (.iastore, 1) := by decide +kernel
theorem d172_45 : decode (eb_b 172) 45 = .ok (.iload_n 3, 1) := by decide +kernel
theorem d172_46 : decode (eb_b 172) 46 = .ok (.ireturn, 1) := by decide +kernel
theorem d173_0 : decode (eb_b 173) 0 = .ok (.iload_n 1, 1) := by decide +kernel
theorem d173_1 : decode (eb_b 173) 1 = .ok (.i2l, 1) := by decide +kernel
theorem d173_2 : decode (eb_b 173) 2 = .ok (.lconst 0, 1) := by decide +kernel
theorem d173_3 : decode (eb_b 173) 3 = .ok (.ldc2_w 145, 3) := by decide +kernel
theorem wl_6_145 : Cond.constantLong (eb_cN 6) 145 255 ∈ eb_LT := eb_lt 1189 (by decide +kernel)
theorem d173_6 : decode (eb_b 173) 6 = .ok (.invokestatic 76, 3) := by decide +kernel
theorem d173_9 : decode (eb_b 173) 9 = .ok (.ifCond .ne 10, 3) := by decide +kernel
theorem d173_12 : decode (eb_b 173) 12 = .ok (.aload_n 0, 1) := by decide +kernel
theorem d173_13 : decode (eb_b 173) 13 = .ok (.bipush (-2), 2) := by decide +kernel
theorem d173_15 : decode (eb_b 173) 15 = .ok (.invokevirtual 91, 3) := by decide +kernel
theorem d173_18 : decode (eb_b 173) 18 = .ok (.ireturn, 1) := by decide +kernel
theorem d173_19 : decode (eb_b 173) 19 = .ok (.aload_n 0, 1) := by decide +kernel
theorem d173_20 : decode (eb_b 173) 20 = .ok (.getfield 147, 3) := by decide +kernel
theorem wf_6_147 : Cond.fieldLink (eb_cN 6) 147 (eb_tT 6 7).1 (eb_tT 6 7).2.1 (eb_tT 6 7).2.2.1 ∈ eb_LT := eb_lt 963 (by decide +kernel)
theorem fi_6_7 : 7 < eb_nf 6 ∧ (eb_tt 6 7).isReference = false := ⟨by decide, rfl⟩
theorem d173_23 : decode (eb_b 173) 23 = .ok (.sipush 250, 3) := by decide +kernel
theorem d173_26 : decode (eb_b 173) 26 = .ok (.if_icmp .ne 10, 3) := by decide +kernel
theorem d173_29 : decode (eb_b 173) 29 = .ok (.aload_n 0, 1) := by decide +kernel
theorem d173_30 : decode (eb_b 173) 30 = .ok (.bipush (-6), 2) := by decide +kernel
theorem d173_32 : decode (eb_b 173) 32 = .ok (.invokevirtual 91, 3) := by decide +kernel
theorem d173_35 : decode (eb_b 173) 35 = .ok (.ireturn, 1) := by decide +kernel
theorem d173_36 : decode (eb_b 173) 36 = .ok (.aload_n 0, 1) := by decide +kernel
theorem d173_37 : decode (eb_b 173) 37 = .ok (.getfield 31, 3) := by decide +kernel
theorem wf_6_31 : Cond.fieldLink (eb_cN 6) 31 (eb_tT 6 6).1 (eb_tT 6 6).2.1 (eb_tT 6 6).2.2.1 ∈ eb_LT := eb_lt 962 (by decide +kernel)
theorem fi_6_6 : 6 < eb_nf 6 ∧ (eb_tt 6 6).isReference = true := ⟨by decide, rfl⟩
theorem d173_40 : decode (eb_b 173) 40 = .ok (.aload_n 0, 1) := by decide +kernel
theorem d173_41 : decode (eb_b 173) 41 = .ok (.dup, 1) := by decide +kernel
theorem d173_42 : decode (eb_b 173) 42 = .ok (.getfield 147, 3) := by decide +kernel
theorem d173_45 : decode (eb_b 173) 45 = .ok (.dup_x1, 1) := by decide +kernel
theorem d173_46 : decode (eb_b 173) 46 = .ok (.iconst 1, 1) := by decide +kernel
theorem d173_47 : decode (eb_b 173) 47 = .ok (.iadd, 1) := by decide +kernel
theorem d173_48 : decode (eb_b 173) 48 = .ok (.putfield 147, 3) := by decide +kernel
theorem fp_6_7 : ∀ x : Int32, narrow (eb_tt 6 7) (.int x) = .int x ∧ fits (eb_tt 6 7) (.int x) = true := fun x => ⟨rfl, rfl⟩
theorem d173_51 : decode (eb_b 173) 51 = .ok (.iload_n 1, 1) := by decide +kernel
theorem d173_52 : decode (eb_b 173) 52 = .ok (.iastore, 1) := by decide +kernel
theorem d173_53 : decode (eb_b 173) 53 = .ok (.aload_n 0, 1) := by decide +kernel
theorem d173_54 : decode (eb_b 173) 54 = .ok (.getfield 147, 3) := by decide +kernel
theorem d173_57 : decode (eb_b 173) 57 = .ok (.ireturn, 1) := by decide +kernel
theorem d174_0 : decode (eb_b 174) 0 = .ok (.aload_n 0, 1) := by decide +kernel
theorem d174_1 : decode (eb_b 174) 1 = .ok (.getfield 147, 3) := by decide +kernel
theorem d174_4 : decode (eb_b 174) 4 = .ok (.istore_n 1, 1) := by decide +kernel
theorem hn174_1 : 1 < eb_ml 174 := by decide
theorem d174_5 : decode (eb_b 174) 5 = .ok (.aload_n 0, 1) := by decide +kernel
theorem d174_6 : decode (eb_b 174) 6 = .ok (.iconst 0, 1) := by decide +kernel
theorem d174_7 : decode (eb_b 174) 7 = .ok (.putfield 147, 3) := by decide +kernel
theorem d174_10 : decode (eb_b 174) 10 = .ok (.iload_n 1, 1) := by decide +kernel
theorem d174_11 : decode (eb_b 174) 11 = .ok (.ireturn, 1) := by decide +kernel
theorem d175_0 : decode (eb_b 175) 0 = .ok (.iload_n 0, 1) := by decide +kernel
theorem d175_1 : decode (eb_b 175) 1 = .ok (.bipush 97, 2) := by decide +kernel
theorem d175_3 : decode (eb_b 175) 3 = .ok (.if_icmp .lt 13, 3) := by decide +kernel
theorem d175_6 : decode (eb_b 175) 6 = .ok (.iload_n 0, 1) := by decide +kernel
theorem d175_7 : decode (eb_b 175) 7 = .ok (.bipush 122, 2) := by decide +kernel
theorem d175_9 : decode (eb_b 175) 9 = .ok (.if_icmp .gt 7, 3) := by decide +kernel
theorem d175_12 : decode (eb_b 175) 12 = .ok (.iconst 1, 1) := by decide +kernel
theorem d175_13 : decode (eb_b 175) 13 = .ok (.goto 4, 3) := by decide +kernel
theorem d175_16 : decode (eb_b 175) 16 = .ok (.iconst 0, 1) := by decide +kernel
theorem d175_17 : decode (eb_b 175) 17 = .ok (.ireturn, 1) := by decide +kernel
theorem d176_0 : decode (eb_b 176) 0 = .ok (.iload_n 0, 1) := by decide +kernel
theorem d176_1 : decode (eb_b 176) 1 = .ok (.bipush 48, 2) := by decide +kernel
theorem d176_3 : decode (eb_b 176) 3 = .ok (.if_icmp .lt 13, 3) := by decide +kernel
theorem d176_6 : decode (eb_b 176) 6 = .ok (.iload_n 0, 1) := by decide +kernel
theorem d176_7 : decode (eb_b 176) 7 = .ok (.bipush 57, 2) := by decide +kernel
theorem d176_9 : decode (eb_b 176) 9 = .ok (.if_icmp .gt 7, 3) := by decide +kernel
theorem d176_12 : decode (eb_b 176) 12 = .ok (.iconst 1, 1) := by decide +kernel
theorem d176_13 : decode (eb_b 176) 13 = .ok (.goto 4, 3) := by decide +kernel
theorem d176_16 : decode (eb_b 176) 16 = .ok (.iconst 0, 1) := by decide +kernel
theorem d176_17 : decode (eb_b 176) 17 = .ok (.ireturn, 1) := by decide +kernel
theorem d177_0 : decode (eb_b 177) 0 = .ok (.aload_n 0, 1) := by decide +kernel
theorem d177_1 : decode (eb_b 177) 1 = .ok (.getfield 150, 3) := by decide +kernel
theorem wf_6_150 : Cond.fieldLink (eb_cN 6) 150 (eb_tT 6 18).1 (eb_tT 6 18).2.1 (eb_tT 6 18).2.2.1 ∈ eb_LT := eb_lt 974 (by decide +kernel)
theorem fi_6_18 : 18 < eb_nf 6 ∧ (eb_tt 6 18).isReference = false := ⟨by decide, rfl⟩
theorem d177_4 : decode (eb_b 177) 4 = .ok (.aload_n 0, 1) := by decide +kernel
theorem d177_5 : decode (eb_b 177) 5 = .ok (.getfield 147, 3) := by decide +kernel
theorem d177_8 : decode (eb_b 177) 8 = .ok (.if_icmp .ge 30, 3) := by decide +kernel
theorem d177_11 : decode (eb_b 177) 11 = .ok (.aload_n 0, 1) := by decide +kernel
theorem d177_12 : decode (eb_b 177) 12 = .ok (.getfield 31, 3) := by decide +kernel
theorem d177_15 : decode (eb_b 177) 15 = .ok (.aload_n 0, 1) := by decide +kernel
theorem d177_16 : decode (eb_b 177) 16 = .ok (.getfield 150, 3) := by decide +kernel
theorem d177_19 : decode (eb_b 177) 19 = .ok (.iaload, 1) := by decide +kernel
theorem d177_20 : decode (eb_b 177) 20 = .ok (.bipush 32, 2) := by decide +kernel
theorem d177_22 : decode (eb_b 177) 22 = .ok (.if_icmp .ne 16, 3) := by decide +kernel
theorem d177_25 : decode (eb_b 177) 25 = .ok (.aload_n 0, 1) := by decide +kernel
theorem d177_26 : decode (eb_b 177) 26 = .ok (.dup, 1) := by decide +kernel
theorem d177_27 : decode (eb_b 177) 27 = .ok (.getfield 150, 3) := by decide +kernel
theorem d177_30 : decode (eb_b 177) 30 = .ok (.iconst 1, 1) := by decide +kernel
theorem d177_31 : decode (eb_b 177) 31 = .ok (.iadd, 1) := by decide +kernel
theorem d177_32 : decode (eb_b 177) 32 = .ok (.putfield 150, 3) := by decide +kernel
theorem fp_6_18 : ∀ x : Int32, narrow (eb_tt 6 18) (.int x) = .int x ∧ fits (eb_tt 6 18) (.int x) = true := fun x => ⟨rfl, rfl⟩
theorem d177_35 : decode (eb_b 177) 35 = .ok (.goto (-35), 3) := by decide +kernel
theorem d177_38 : decode (eb_b 177) 38 = .ok (.aload_n 0, 1) := by decide +kernel
theorem d177_39 : decode (eb_b 177) 39 = .ok (.aload_n 0, 1) := by decide +kernel
theorem d177_40 : decode (eb_b 177) 40 = .ok (.getfield 150, 3) := by decide +kernel
theorem d177_43 : decode (eb_b 177) 43 = .ok (.putfield 153, 3) := by decide +kernel
theorem wf_6_153 : Cond.fieldLink (eb_cN 6) 153 (eb_tT 6 20).1 (eb_tT 6 20).2.1 (eb_tT 6 20).2.2.1 ∈ eb_LT := eb_lt 976 (by decide +kernel)
theorem fi_6_20 : 20 < eb_nf 6 ∧ (eb_tt 6 20).isReference = false := ⟨by decide, rfl⟩
theorem fp_6_20 : ∀ x : Int32, narrow (eb_tt 6 20) (.int x) = .int x ∧ fits (eb_tt 6 20) (.int x) = true := fun x => ⟨rfl, rfl⟩
theorem d177_46 : decode (eb_b 177) 46 = .ok (.aload_n 0, 1) := by decide +kernel
theorem d177_47 : decode (eb_b 177) 47 = .ok (.iconst 0, 1) := by decide +kernel
theorem d177_48 : decode (eb_b 177) 48 = .ok (.putfield 156, 3) := by decide +kernel
theorem wf_6_156 : Cond.fieldLink (eb_cN 6) 156 (eb_tT 6 21).1 (eb_tT 6 21).2.1 (eb_tT 6 21).2.2.1 ∈ eb_LT := eb_lt 977 (by decide +kernel)
theorem fi_6_21 : 21 < eb_nf 6 ∧ (eb_tt 6 21).isReference = false := ⟨by decide, rfl⟩
theorem fp_6_21 : ∀ x : Int32, narrow (eb_tt 6 21) (.int x) = .int x ∧ fits (eb_tt 6 21) (.int x) = true := fun x => ⟨rfl, rfl⟩
theorem d177_51 : decode (eb_b 177) 51 = .ok (.aload_n 0, 1) := by decide +kernel
theorem d177_52 : decode (eb_b 177) 52 = .ok (.getfield 150, 3) := by decide +kernel
theorem d177_55 : decode (eb_b 177) 55 = .ok (.aload_n 0, 1) := by decide +kernel
theorem d177_56 : decode (eb_b 177) 56 = .ok (.getfield 147, 3) := by decide +kernel
theorem d177_59 : decode (eb_b 177) 59 = .ok (.if_icmp .ne 11, 3) := by decide +kernel
theorem d177_62 : decode (eb_b 177) 62 = .ok (.aload_n 0, 1) := by decide +kernel
theorem d177_63 : decode (eb_b 177) 63 = .ok (.iconst 0, 1) := by decide +kernel
theorem d177_64 : decode (eb_b 177) 64 = .ok (.putfield 159, 3) := by decide +kernel
theorem wf_6_159 : Cond.fieldLink (eb_cN 6) 159 (eb_tT 6 19).1 (eb_tT 6 19).2.1 (eb_tT 6 19).2.2.1 ∈ eb_LT := eb_lt 975 (by decide +kernel)
theorem fi_6_19 : 19 < eb_nf 6 ∧ (eb_tt 6 19).isReference = false := ⟨by decide, rfl⟩
theorem fp_6_19 : ∀ x : Int32, narrow (eb_tt 6 19) (.int x) = .int x ∧ fits (eb_tt 6 19) (.int x) = true := fun x => ⟨rfl, rfl⟩
theorem d177_67 : decode (eb_b 177) 67 = .ok (.goto 196, 3) := by decide +kernel
theorem d177_70 : decode (eb_b 177) 70 = .ok (.aload_n 0, 1) := by decide +kernel
theorem d177_71 : decode (eb_b 177) 71 = .ok (.getfield 31, 3) := by decide +kernel
theorem d177_74 : decode (eb_b 177) 74 = .ok (.aload_n 0, 1) := by decide +kernel
theorem d177_75 : decode (eb_b 177) 75 = .ok (.getfield 150, 3) := by decide +kernel
theorem d177_78 : decode (eb_b 177) 78 = .ok (.iaload, 1) := by decide +kernel
theorem d177_79 : decode (eb_b 177) 79 = .ok (.invokestatic 162, 3) := by decide +kernel
theorem wc_175 : Cond.code (eb_y 175) (eb_b 175) (eb_ml 175) (eb_rt 175) ∈ eb_LT := eb_lt 1221 (by decide +kernel)
theorem cy_175 : (eb_y 175).cls ≠ "java/lang/invoke/MethodHandle" ∧ (eb_y 175).cls ≠ "java/lang/invoke/VarHandle" ∧ (parseMethodDescriptor (eb_y 175).desc).map (fun d => d.parameters.length) = some 1 := by decide +kernel
theorem wst_175 : Cond.static (eb_y 175) ∈ eb_LT := eb_lt 1220 (by decide +kernel)
theorem wn_175 : Cond.initialized (eb_y 175).cls ∈ eb_LT := eb_lt 83 (by decide +kernel)
theorem kS_175 {L q0 m pc : Nat} {lg : Nat → Bool} {ix : Nat} (hw : Cond.methodLink (eb_own m) ix (eb_y 175) ∈ eb_LT) (hd : decode (eb_b m) pc = .ok (.invokestatic ix, 3)) : eb_Snd L q0 m pc lg (op_call 175 1 (pc + 3)) := sn_callS false rfl (Or.inr ⟨rfl, _, rfl⟩) (by decide) ⟨⟨hw, wst_175, wn_175⟩, wc_175⟩ cy_175 hd
theorem wm_6_162 : Cond.methodLink (eb_cN 6) 162 (eb_y 175) ∈ eb_LT := eb_lt 1219 (by decide +kernel)
theorem d177_82 : decode (eb_b 177) 82 = .ok (.ifCond .eq 47, 3) := by decide +kernel
theorem d177_85 : decode (eb_b 177) 85 = .ok (.aload_n 0, 1) := by decide +kernel
theorem d177_86 : decode (eb_b 177) 86 = .ok (.iconst 1, 1) := by decide +kernel
theorem d177_87 : decode (eb_b 177) 87 = .ok (.putfield 159, 3) := by decide +kernel
theorem d177_90 : decode (eb_b 177) 90 = .ok (.aload_n 0, 1) := by decide +kernel
theorem d177_91 : decode (eb_b 177) 91 = .ok (.getfield 150, 3) := by decide +kernel
theorem d177_94 : decode (eb_b 177) 94 = .ok (.aload_n 0, 1) := by decide +kernel
theorem d177_95 : decode (eb_b 177) 95 = .ok (.getfield 147, 3) := by decide +kernel
theorem d177_98 : decode (eb_b 177) 98 = .ok (.if_icmp .ge 165, 3) := by decide +kernel
theorem d177_101 : decode (eb_b 177) 101 = .ok (.aload_n 0, 1) := by decide +kernel
theorem d177_102 : decode (eb_b 177) 102 = .ok (.getfield 31, 3) := by decide +kernel
theorem d177_105 : decode (eb_b 177) 105 = .ok (.aload_n 0, 1) := by decide +kernel
theorem d177_106 : decode (eb_b 177) 106 = .ok (.getfield 150, 3) := by decide +kernel
theorem d177_109 : decode (eb_b 177) 109 = .ok (.iaload, 1) := by decide +kernel
theorem d177_110 : decode (eb_b 177) 110 = .ok (.invokestatic 162, 3) := by decide +kernel
theorem d177_113 : decode (eb_b 177) 113 = .ok (.ifCond .eq 150, 3) := by decide +kernel
theorem d177_116 : decode (eb_b 177) 116 = .ok (.aload_n 0, 1) := by decide +kernel
theorem d177_117 : decode (eb_b 177) 117 = .ok (.dup, 1) := by decide +kernel
theorem d177_118 : decode (eb_b 177) 118 = .ok (.getfield 150, 3) := by decide +kernel
theorem d177_121 : decode (eb_b 177) 121 = .ok (.iconst 1, 1) := by decide +kernel
theorem d177_122 : decode (eb_b 177) 122 = .ok (.iadd, 1) := by decide +kernel
theorem d177_123 : decode (eb_b 177) 123 = .ok (.putfield 150, 3) := by decide +kernel
theorem d177_126 : decode (eb_b 177) 126 = .ok (.goto (-36), 3) := by decide +kernel
theorem d177_129 : decode (eb_b 177) 129 = .ok (.aload_n 0, 1) := by decide +kernel
theorem d177_130 : decode (eb_b 177) 130 = .ok (.getfield 31, 3) := by decide +kernel
theorem d177_133 : decode (eb_b 177) 133 = .ok (.aload_n 0, 1) := by decide +kernel
theorem d177_134 : decode (eb_b 177) 134 = .ok (.getfield 150, 3) := by decide +kernel
theorem d177_137 : decode (eb_b 177) 137 = .ok (.iaload, 1) := by decide +kernel
theorem d177_138 : decode (eb_b 177) 138 = .ok (.invokestatic 165, 3) := by decide +kernel
theorem wc_176 : Cond.code (eb_y 176) (eb_b 176) (eb_ml 176) (eb_rt 176) ∈ eb_LT := eb_lt 1224 (by decide +kernel)
theorem cy_176 : (eb_y 176).cls ≠ "java/lang/invoke/MethodHandle" ∧ (eb_y 176).cls ≠ "java/lang/invoke/VarHandle" ∧ (parseMethodDescriptor (eb_y 176).desc).map (fun d => d.parameters.length) = some 1 := by decide +kernel
theorem wst_176 : Cond.static (eb_y 176) ∈ eb_LT := eb_lt 1223 (by decide +kernel)
theorem wn_176 : Cond.initialized (eb_y 176).cls ∈ eb_LT := eb_lt 83 (by decide +kernel)
theorem kS_176 {L q0 m pc : Nat} {lg : Nat → Bool} {ix : Nat} (hw : Cond.methodLink (eb_own m) ix (eb_y 176) ∈ eb_LT) (hd : decode (eb_b m) pc = .ok (.invokestatic ix, 3)) : eb_Snd L q0 m pc lg (op_call 176 1 (pc + 3)) := sn_callS false rfl (Or.inr ⟨rfl, _, rfl⟩) (by decide) ⟨⟨hw, wst_176, wn_176⟩, wc_176⟩ cy_176 hd
theorem wm_6_165 : Cond.methodLink (eb_cN 6) 165 (eb_y 176) ∈ eb_LT := eb_lt 1222 (by decide +kernel)
theorem d177_141 : decode (eb_b 177) 141 = .ok (.ifCond .eq 89, 3) := by decide +kernel
theorem d177_144 : decode (eb_b 177) 144 = .ok (.aload_n 0, 1) := by decide +kernel
theorem d177_145 : decode (eb_b 177) 145 = .ok (.iconst 2, 1) := by decide +kernel
theorem d177_146 : decode (eb_b 177) 146 = .ok (.putfield 159, 3) := by decide +kernel
theorem d177_149 : decode (eb_b 177) 149 = .ok (.aload_n 0, 1) := by decide +kernel
theorem d177_150 : decode (eb_b 177) 150 = .ok (.getfield 150, 3) := by decide +kernel
theorem d177_153 : decode (eb_b 177) 153 = .ok (.aload_n 0, 1) := by decide +kernel
theorem d177_154 : decode (eb_b 177) 154 = .ok (.getfield 147, 3) := by decide +kernel
theorem d177_157 : decode (eb_b 177) 157 = .ok (.if_icmp .ge 106, 3) := by decide +kernel
theorem d177_160 : decode (eb_b 177) 160 = .ok (.aload_n 0, 1) := by decide +kernel
theorem d177_161 : decode (eb_b 177) 161 = .ok (.getfield 31, 3) := by decide +kernel
theorem d177_164 : decode (eb_b 177) 164 = .ok (.aload_n 0, 1) := by decide +kernel
theorem d177_165 : decode (eb_b 177) 165 = .ok (.getfield 150, 3) := by decide +kernel
theorem d177_168 : decode (eb_b 177) 168 = .ok (.iaload, 1) := by decide +kernel
theorem d177_169 : decode (eb_b 177) 169 = .ok (.invokestatic 165, 3) := by decide +kernel
theorem d177_172 : decode (eb_b 177) 172 = .ok (.ifCond .eq 91, 3) := by decide +kernel
theorem d177_175 : decode (eb_b 177) 175 = .ok (.aload_n 0, 1) := by decide +kernel
theorem d177_176 : decode (eb_b 177) 176 = .ok (.aload_n 0, 1) := by decide +kernel
theorem d177_177 : decode (eb_b 177) 177 = .ok (.getfield 150, 3) := by decide +kernel
theorem d177_180 : decode (eb_b 177) 180 = .ok (.aload_n 0, 1) := by decide +kernel
theorem d177_181 : decode (eb_b 177) 181 = .ok (.getfield 153, 3) := by decide +kernel
theorem d177_184 : decode (eb_b 177) 184 = .ok (.isub, 1) := by decide +kernel
theorem d177_185 : decode (eb_b 177) 185 = .ok (.iconst 3, 1) := by decide +kernel
theorem d177_186 : decode (eb_b 177) 186 = .ok (.if_icmp .ge 26, 3) := by decide +kernel
theorem d177_189 : decode (eb_b 177) 189 = .ok (.aload_n 0, 1) := by decide +kernel
theorem d177_190 : decode (eb_b 177) 190 = .ok (.getfield 156, 3) := by decide +kernel
theorem d177_193 : decode (eb_b 177) 193 = .ok (.bipush 10, 2) := by decide +kernel
theorem d177_195 : decode (eb_b 177) 195 = .ok (.imul, 1) := by decide +kernel
theorem d177_196 : decode (eb_b 177) 196 = .ok (.aload_n 0, 1) := by decide +kernel
theorem d177_197 : decode (eb_b 177) 197 = .ok (.getfield 31, 3) := by decide +kernel
theorem d177_200 : decode (eb_b 177) 200 = .ok (.aload_n 0, 1) := by decide +kernel
theorem d177_201 : decode (eb_b 177) 201 = .ok (.getfield 150, 3) := by decide +kernel
theorem d177_204 : decode (eb_b 177) 204 = .ok (.iaload, 1) := by decide +kernel
theorem d177_205 : decode (eb_b 177) 205 = .ok (.iadd, 1) := by decide +kernel
theorem d177_206 : decode (eb_b 177) 206 = .ok (.bipush 48, 2) := by decide +kernel
theorem d177_208 : decode (eb_b 177) 208 = .ok (.isub, 1) := by decide +kernel
theorem d177_209 : decode (eb_b 177) 209 = .ok (.goto 5, 3) := by decide +kernel
theorem d177_212 : decode (eb_b 177) 212 = .ok (.ldc 168, 2) := by decide +kernel
theorem wk_6_168 : Cond.constant (eb_cN 6) 168 100000 ∈ eb_LT := eb_lt 1225 (by decide +kernel)
theorem d177_214 : decode (eb_b 177) 214 = .ok (.putfield 156, 3) := by decide +kernel
theorem d177_217 : decode (eb_b 177) 217 = .ok (.aload_n 0, 1) := by decide +kernel
theorem d177_218 : decode (eb_b 177) 218 = .ok (.dup, 1) := by decide +kernel
theorem d177_219 : decode (eb_b 177) 219 = .ok (.getfield 150, 3) := by decide +kernel
theorem d177_222 : decode (eb_b 177) 222 = .ok (.iconst 1, 1) := by decide +kernel
theorem d177_223 : decode (eb_b 177) 223 = .ok (.iadd, 1) := by decide +kernel
theorem d177_224 : decode (eb_b 177) 224 = .ok (.putfield 150, 3) := by decide +kernel
theorem d177_227 : decode (eb_b 177) 227 = .ok (.goto (-78), 3) := by decide +kernel
theorem d177_230 : decode (eb_b 177) 230 = .ok (.aload_n 0, 1) := by decide +kernel
theorem d177_231 : decode (eb_b 177) 231 = .ok (.aload_n 0, 1) := by decide +kernel
theorem d177_232 : decode (eb_b 177) 232 = .ok (.getfield 31, 3) := by decide +kernel
theorem d177_235 : decode (eb_b 177) 235 = .ok (.aload_n 0, 1) := by decide +kernel
theorem d177_236 : decode (eb_b 177) 236 = .ok (.getfield 150, 3) := by decide +kernel
theorem d177_239 : decode (eb_b 177) 239 = .ok (.iaload, 1) := by decide +kernel
theorem d177_240 : decode (eb_b 177) 240 = .ok (.bipush 59, 2) := by decide +kernel
theorem d177_242 : decode (eb_b 177) 242 = .ok (.if_icmp .ne 7, 3) := by decide +kernel
theorem d177_245 : decode (eb_b 177) 245 = .ok (.iconst 3, 1) := by decide +kernel
theorem d177_246 : decode (eb_b 177) 246 = .ok (.goto 4, 3) := by decide +kernel
theorem d177_249 : decode (eb_b 177) 249 = .ok (.iconst 4, 1) := by decide +kernel
theorem d177_250 : decode (eb_b 177) 250 = .ok (.putfield 159, 3) := by decide +kernel
theorem d177_253 : decode (eb_b 177) 253 = .ok (.aload_n 0, 1) := by decide +kernel
theorem d177_254 : decode (eb_b 177) 254 = .ok (.dup, 1) := by decide +kernel
theorem d177_255 : decode (eb_b 177) 255 = .ok (.getfield 150, 3) := by decide +kernel
theorem d177_258 : decode (eb_b 177) 258 = .ok (.iconst 1, 1) := by decide +kernel
theorem d177_259 : decode (eb_b 177) 259 = .ok (.iadd, 1) := by decide +kernel
theorem d177_260 : decode (eb_b 177) 260 = .ok (.putfield 150, 3) := by decide +kernel
theorem d177_263 : decode (eb_b 177) 263 = .ok (.return_, 1) := by decide +kernel
theorem d178_0 : decode (eb_b 178) 0 = .ok (.aload_n 0, 1) := by decide +kernel
theorem d178_1 : decode (eb_b 178) 1 = .ok (.aload_n 0, 1) := by decide +kernel
theorem d178_2 : decode (eb_b 178) 2 = .ok (.getfield 153, 3) := by decide +kernel
theorem d178_5 : decode (eb_b 178) 5 = .ok (.putfield 169, 3) := by decide +kernel
theorem wf_6_169 : Cond.fieldLink (eb_cN 6) 169 (eb_tT 6 22).1 (eb_tT 6 22).2.1 (eb_tT 6 22).2.2.1 ∈ eb_LT := eb_lt 978 (by decide +kernel)
theorem fi_6_22 : 22 < eb_nf 6 ∧ (eb_tt 6 22).isReference = false := ⟨by decide, rfl⟩
theorem fp_6_22 : ∀ x : Int32, narrow (eb_tt 6 22) (.int x) = .int x ∧ fits (eb_tt 6 22) (.int x) = true := fun x => ⟨rfl, rfl⟩
theorem d178_8 : decode (eb_b 178) 8 = .ok (.iconst 0, 1) := by decide +kernel
theorem d178_9 : decode (eb_b 178) 9 = .ok (.ireturn, 1) := by decide +kernel
theorem d179_0 : decode (eb_b 179) 0 = .ok (.aload_n 0, 1) := by decide +kernel
theorem d179_1 : decode (eb_b 179) 1 = .ok (.getfield 159, 3) := by decide +kernel
theorem d179_4 : decode (eb_b 179) 4 = .ok (.iconst 1, 1) := by decide +kernel
theorem d179_5 : decode (eb_b 179) 5 = .ok (.if_icmp .ne 19, 3) := by decide +kernel
theorem d179_8 : decode (eb_b 179) 8 = .ok (.aload_n 0, 1) := by decide +kernel
theorem d179_9 : decode (eb_b 179) 9 = .ok (.getfield 150, 3) := by decide +kernel
theorem d179_12 : decode (eb_b 179) 12 = .ok (.aload_n 0, 1) := by decide +kernel
theorem d179_13 : decode (eb_b 179) 13 = .ok (.getfield 153, 3) := by decide +kernel
theorem d179_16 : decode (eb_b 179) 16 = .ok (.isub, 1) := by decide +kernel
theorem d179_17 : decode (eb_b 179) 17 = .ok (.aload_n 1, 1) := by decide +kernel
theorem d179_18 : decode (eb_b 179) 18 = .ok (.invokevirtual 172, 3) := by decide +kernel
theorem wm_6_172 : Cond.methodLink (eb_cN 6) 172 yJ0_length_8abf5 ∈ eb_LT := eb_lt 1235 (by decide +kernel)
theorem d179_21 : decode (eb_b 179) 21 = .ok (.if_icmp .eq 5, 3) := by decide +kernel
theorem d179_24 : decode (eb_b 179) 24 = .ok (.iconst 0, 1) := by decide +kernel
theorem d179_25 : decode (eb_b 179) 25 = .ok (.ireturn, 1) := by decide +kernel
theorem d179_26 : decode (eb_b 179) 26 = .ok (.iconst 0, 1) := by decide +kernel
theorem d179_27 : decode (eb_b 179) 27 = .ok (.istore_n 2, 1) := by decide +kernel
theorem hn179_2 : 2 < eb_ml 179 := by decide
theorem d179_28 : decode (eb_b 179) 28 = .ok (.iload_n 2, 1) := by decide +kernel
theorem d179_29 : decode (eb_b 179) 29 = .ok (.aload_n 1, 1) := by decide +kernel
theorem d179_30 : decode (eb_b 179) 30 = .ok (.invokevirtual 172, 3) := by decide +kernel
theorem d179_33 : decode (eb_b 179) 33 = .ok (.if_icmp .ge 30, 3) := by decide +kernel
theorem d179_36 : decode (eb_b 179) 36 = .ok (.aload_n 0, 1) := by decide +kernel
theorem d179_37 : decode (eb_b 179) 37 = .ok (.getfield 31, 3) := by decide +kernel
theorem d179_40 : decode (eb_b 179) 40 = .ok (.aload_n 0, 1) := by decide +kernel
theorem d179_41 : decode (eb_b 179) 41 = .ok (.getfield 153, 3) := by decide +kernel
theorem d179_44 : decode (eb_b 179) 44 = .ok (.iload_n 2, 1) := by decide +kernel
theorem d179_45 : decode (eb_b 179) 45 = .ok (.iadd, 1) := by decide +kernel
theorem d179_46 : decode (eb_b 179) 46 = .ok (.iaload, 1) := by decide +kernel
theorem d179_47 : decode (eb_b 179) 47 = .ok (.aload_n 1, 1) := by decide +kernel
theorem d179_48 : decode (eb_b 179) 48 = .ok (.iload_n 2, 1) := by decide +kernel
theorem d179_49 : decode (eb_b 179) 49 = .ok (.invokevirtual 178, 3) := by decide +kernel
theorem wm_6_178 : Cond.methodLink (eb_cN 6) 178 yJ0_charAt_5068e ∈ eb_LT := eb_lt 1236 (by decide +kernel)
theorem d179_52 : decode (eb_b 179) 52 = .ok (.if_icmp .eq 5, 3) := by decide +kernel
theorem d179_55 : decode (eb_b 179) 55 = .ok (.iconst 0, 1) := by decide +kernel
theorem d179_56 : decode (eb_b 179) 56 = .ok (.ireturn, 1) := by decide +kernel
theorem d179_57 : decode (eb_b 179) 57 = .ok (.iinc 2 1, 3) := by decide +kernel
theorem d179_60 : decode (eb_b 179) 60 = .ok (.goto (-32), 3) := by decide +kernel
theorem d179_63 : decode (eb_b 179) 63 = .ok (.iconst 1, 1) := by decide +kernel
theorem d179_64 : decode (eb_b 179) 64 = .ok (.ireturn, 1) := by decide +kernel
theorem d180_0 : decode (eb_b 180) 0 = .ok (.aload_n 0, 1) := by decide +kernel
theorem d180_1 : decode (eb_b 180) 1 = .ok (.getfield 159, 3) := by decide +kernel
theorem d180_4 : decode (eb_b 180) 4 = .ok (.iconst 2, 1) := by decide +kernel
theorem d180_5 : decode (eb_b 180) 5 = .ok (.if_icmp .ne 18, 3) := by decide +kernel
theorem d180_8 : decode (eb_b 180) 8 = .ok (.aload_n 0, 1) := by decide +kernel
theorem d180_9 : decode (eb_b 180) 9 = .ok (.getfield 156, 3) := by decide +kernel
theorem d180_12 : decode (eb_b 180) 12 = .ok (.i2l, 1) := by decide +kernel
theorem d180_13 : decode (eb_b 180) 13 = .ok (.iload_n 2, 1) := by decide +kernel
theorem d180_14 : decode (eb_b 180) 14 = .ok (.i2l, 1) := by decide +kernel
theorem d180_15 : decode (eb_b 180) 15 = .ok (.iload_n 3, 1) := by decide +kernel
theorem d180_16 : decode (eb_b 180) 16 = .ok (.i2l, 1) := by decide +kernel
theorem d180_17 : decode (eb_b 180) 17 = .ok (.invokestatic 76, 3) := by decide +kernel
theorem d180_20 : decode (eb_b 180) 20 = .ok (.ifCond .ne 8, 3) := by decide +kernel
theorem d180_23 : decode (eb_b 180) 23 = .ok (.aload_n 0, 1) := by decide +kernel
theorem d180_24 : decode (eb_b 180) 24 = .ok (.invokevirtual 182, 3) := by decide +kernel
theorem wc_178 : Cond.code (eb_y 178) (eb_b 178) (eb_ml 178) (eb_rt 178) ∈ eb_LT := eb_lt 1252 (by decide +kernel)
theorem cy_178 : (eb_y 178).cls = eb_cN (eb_rc 178) ∧ (eb_y 178).cls ≠ "java/lang/invoke/MethodHandle" ∧ (eb_y 178).cls ≠ "java/lang/invoke/VarHandle" ∧ (parseMethodDescriptor (eb_y 178).desc).map (fun d => d.parameters.length) = some 0 := by decide +kernel
theorem wi_178 : Cond.instanceMethod (eb_y 178) ∈ eb_LT := eb_lt 1251 (by decide +kernel)
theorem wse_178 : Cond.selects (eb_cN (eb_rc 178)) (eb_y 178) (eb_y 178) ∈ eb_LT := eb_lt 55 (by decide +kernel)
theorem kV_178 {L q0 m pc : Nat} {lg : Nat → Bool} {ix : Nat} (hw : Cond.methodLink (eb_own m) ix (eb_y 178) ∈ eb_LT) (hd : decode (eb_b m) pc = .ok (.invokevirtual ix, 3)) : eb_Snd L q0 m pc lg (op_call 178 1 (pc + 3)) := sn_callV false rfl (Or.inr ⟨rfl, _, rfl⟩) (by decide) rfl (by decide) ⟨⟨hw, wi_178, wse_178⟩, wc_178⟩ cy_178 hd
theorem wm_6_182 : Cond.methodLink (eb_cN 6) 182 (eb_y 178) ∈ eb_LT := eb_lt 1249 (by decide +kernel)
theorem d180_27 : decode (eb_b 180) 27 = .ok (.ireturn, 1) := by decide +kernel
theorem d180_28 : decode (eb_b 180) 28 = .ok (.aload_n 0, 1) := by decide +kernel
theorem d180_29 : decode (eb_b 180) 29 = .ok (.getfield 49, 3) := by decide +kernel
theorem wf_6_49 : Cond.fieldLink (eb_cN 6) 49 (eb_tT 6 23).1 (eb_tT 6 23).2.1 (eb_tT 6 23).2.2.1 ∈ eb_LT := eb_lt 979 (by decide +kernel)
theorem fi_6_23 : 23 < eb_nf 6 ∧ (eb_tt 6 23).isReference = true := ⟨by decide, rfl⟩
theorem d180_32 : decode (eb_b 180) 32 = .ok (.iload_n 1, 1) := by decide +kernel
theorem d180_33 : decode (eb_b 180) 33 = .ok (.aload_n 0, 1) := by decide +kernel
theorem d180_34 : decode (eb_b 180) 34 = .ok (.getfield 156, 3) := by decide +kernel
theorem d180_37 : decode (eb_b 180) 37 = .ok (.iastore, 1) := by decide +kernel
theorem d180_38 : decode (eb_b 180) 38 = .ok (.aload_n 0, 1) := by decide +kernel
theorem d180_39 : decode (eb_b 180) 39 = .ok (.invokevirtual 186, 3) := by decide +kernel
theorem wc_177 : Cond.code (eb_y 177) (eb_b 177) (eb_ml 177) (eb_rt 177) ∈ eb_LT := eb_lt 1218 (by decide +kernel)
theorem cy_177 : (eb_y 177).cls = eb_cN (eb_rc 177) ∧ (eb_y 177).cls ≠ "java/lang/invoke/MethodHandle" ∧ (eb_y 177).cls ≠ "java/lang/invoke/VarHandle" ∧ (parseMethodDescriptor (eb_y 177).desc).map (fun d => d.parameters.length) = some 0 := by decide +kernel
theorem wi_177 : Cond.instanceMethod (eb_y 177) ∈ eb_LT := eb_lt 1217 (by decide +kernel)
theorem wse_177 : Cond.selects (eb_cN (eb_rc 177)) (eb_y 177) (eb_y 177) ∈ eb_LT := eb_lt 49 (by decide +kernel)
theorem kV_177 {L q0 m pc : Nat} {lg : Nat → Bool} {ix : Nat} (hw : Cond.methodLink (eb_own m) ix (eb_y 177) ∈ eb_LT) (hd : decode (eb_b m) pc = .ok (.invokevirtual ix, 3)) : eb_Snd L q0 m pc lg (op_callv 177 1 (pc + 3)) := sn_callV true rfl (Or.inl ⟨rfl, rfl⟩) (by decide) rfl (by decide) ⟨⟨hw, wi_177, wse_177⟩, wc_177⟩ cy_177 hd
theorem wm_6_186 : Cond.methodLink (eb_cN 6) 186 (eb_y 177) ∈ eb_LT := eb_lt 1215 (by decide +kernel)
theorem d180_42 : decode (eb_b 180) 42 = .ok (.iconst 1, 1) := by decide +kernel
theorem d180_43 : decode (eb_b 180) 43 = .ok (.ireturn, 1) := by decide +kernel
theorem d181_0 : decode (eb_b 181) 0 = .ok (.aload_n 0, 1) := by decide +kernel
theorem d181_1 : decode (eb_b 181) 1 = .ok (.invokevirtual 186, 3) := by decide +kernel
theorem d181_4 : decode (eb_b 181) 4 = .ok (.aload_n 0, 1) := by decide +kernel
theorem d181_5 : decode (eb_b 181) 5 = .ok (.iconst 0, 1) := by decide +kernel
theorem d181_6 : decode (eb_b 181) 6 = .ok (.iload_n 1, 1) := by decide +kernel
theorem d181_7 : decode (eb_b 181) 7 = .ok (.iload_n 2, 1) := by decide +kernel
theorem d181_8 : decode (eb_b 181) 8 = .ok (.invokevirtual 189, 3) := by decide +kernel
theorem wc_180 : Cond.code (eb_y 180) (eb_b 180) (eb_ml 180) (eb_rt 180) ∈ eb_LT := eb_lt 1248 (by decide +kernel)
theorem cy_180 : (eb_y 180).cls = eb_cN (eb_rc 180) ∧ (eb_y 180).cls ≠ "java/lang/invoke/MethodHandle" ∧ (eb_y 180).cls ≠ "java/lang/invoke/VarHandle" ∧ (parseMethodDescriptor (eb_y 180).desc).map (fun d => d.parameters.length) = some 3 := by decide +kernel
theorem wi_180 : Cond.instanceMethod (eb_y 180) ∈ eb_LT := eb_lt 1247 (by decide +kernel)
theorem wse_180 : Cond.selects (eb_cN (eb_rc 180)) (eb_y 180) (eb_y 180) ∈ eb_LT := eb_lt 54 (by decide +kernel)
theorem kV_180 {L q0 m pc : Nat} {lg : Nat → Bool} {ix : Nat} (hw : Cond.methodLink (eb_own m) ix (eb_y 180) ∈ eb_LT) (hd : decode (eb_b m) pc = .ok (.invokevirtual ix, 3)) : eb_Snd L q0 m pc lg (op_call 180 4 (pc + 3)) := sn_callV false rfl (Or.inr ⟨rfl, _, rfl⟩) (by decide) rfl (by decide) ⟨⟨hw, wi_180, wse_180⟩, wc_180⟩ cy_180 hd
theorem wm_6_189 : Cond.methodLink (eb_cN 6) 189 (eb_y 180) ∈ eb_LT := eb_lt 1245 (by decide +kernel)
theorem d181_11 : decode (eb_b 181) 11 = .ok (.ireturn, 1) := by decide +kernel
theorem d182_0 : decode (eb_b 182) 0 = .ok (.aload_n 0, 1) := by decide +kernel
theorem d182_1 : decode (eb_b 182) 1 = .ok (.iconst 0, 1) := by decide +kernel
theorem d182_2 : decode (eb_b 182) 2 = .ok (.bipush 100, 2) := by decide +kernel
theorem d182_4 : decode (eb_b 182) 4 = .ok (.invokevirtual 193, 3) := by decide +kernel
theorem wc_181 : Cond.code (eb_y 181) (eb_b 181) (eb_ml 181) (eb_rt 181) ∈ eb_LT := eb_lt 1244 (by decide +kernel)
theorem cy_181 : (eb_y 181).cls = eb_cN (eb_rc 181) ∧ (eb_y 181).cls ≠ "java/lang/invoke/MethodHandle" ∧ (eb_y 181).cls ≠ "java/lang/invoke/VarHandle" ∧ (parseMethodDescriptor (eb_y 181).desc).map (fun d => d.parameters.length) = some 2 := by decide +kernel
theorem wi_181 : Cond.instanceMethod (eb_y 181) ∈ eb_LT := eb_lt 1243 (by decide +kernel)
theorem wse_181 : Cond.selects (eb_cN (eb_rc 181)) (eb_y 181) (eb_y 181) ∈ eb_LT := eb_lt 53 (by decide +kernel)
theorem kV_181 {L q0 m pc : Nat} {lg : Nat → Bool} {ix : Nat} (hw : Cond.methodLink (eb_own m) ix (eb_y 181) ∈ eb_LT) (hd : decode (eb_b m) pc = .ok (.invokevirtual ix, 3)) : eb_Snd L q0 m pc lg (op_call 181 3 (pc + 3)) := sn_callV false rfl (Or.inr ⟨rfl, _, rfl⟩) (by decide) rfl (by decide) ⟨⟨hw, wi_181, wse_181⟩, wc_181⟩ cy_181 hd
theorem wm_6_193 : Cond.methodLink (eb_cN 6) 193 (eb_y 181) ∈ eb_LT := eb_lt 1241 (by decide +kernel)
theorem d182_7 : decode (eb_b 182) 7 = .ok (.ifCond .eq 25, 3) := by decide +kernel
theorem d182_10 : decode (eb_b 182) 10 = .ok (.aload_n 0, 1) := by decide +kernel
theorem d182_11 : decode (eb_b 182) 11 = .ok (.iconst 1, 1) := by decide +kernel
theorem d182_12 : decode (eb_b 182) 12 = .ok (.iconst 1, 1) := by decide +kernel
theorem d182_13 : decode (eb_b 182) 13 = .ok (.bipush 20, 2) := by decide +kernel
theorem d182_15 : decode (eb_b 182) 15 = .ok (.invokevirtual 189, 3) := by decide +kernel
theorem d182_18 : decode (eb_b 182) 18 = .ok (.ifCond .eq 14, 3) := by decide +kernel
theorem d182_21 : decode (eb_b 182) 21 = .ok (.aload_n 0, 1) := by decide +kernel
theorem d182_22 : decode (eb_b 182) 22 = .ok (.iconst 2, 1) := by decide +kernel
theorem d182_23 : decode (eb_b 182) 23 = .ok (.iconst 0, 1) := by decide +kernel
theorem d182_24 : decode (eb_b 182) 24 = .ok (.bipush 99, 2) := by decide +kernel
theorem d182_26 : decode (eb_b 182) 26 = .ok (.invokevirtual 189, 3) := by decide +kernel
theorem d182_29 : decode (eb_b 182) 29 = .ok (.ifCond .ne 5, 3) := by decide +kernel
theorem d182_32 : decode (eb_b 182) 32 = .ok (.iconst 0, 1) := by decide +kernel
theorem d182_33 : decode (eb_b 182) 33 = .ok (.ireturn, 1) := by decide +kernel
theorem d182_34 : decode (eb_b 182) 34 = .ok (.aload_n 0, 1) := by decide +kernel
theorem d182_35 : decode (eb_b 182) 35 = .ok (.getfield 49, 3) := by decide +kernel
theorem d182_38 : decode (eb_b 182) 38 = .ok (.iconst 0, 1) := by decide +kernel
theorem d182_39 : decode (eb_b 182) 39 = .ok (.iaload, 1) := by decide +kernel
theorem d182_40 : decode (eb_b 182) 40 = .ok (.istore_n 1, 1) := by decide +kernel
theorem hn182_1 : 1 < eb_ml 182 := by decide
theorem d182_41 : decode (eb_b 182) 41 = .ok (.iconst (-1), 1) := by decide +kernel
theorem d182_42 : decode (eb_b 182) 42 = .ok (.istore_n 2, 1) := by decide +kernel
theorem hn182_2 : 2 < eb_ml 182 := by decide
theorem d182_43 : decode (eb_b 182) 43 = .ok (.aload_n 0, 1) := by decide +kernel
theorem d182_44 : decode (eb_b 182) 44 = .ok (.ldc 196, 2) := by decide +kernel
theorem d182_46 : decode (eb_b 182) 46 = .ok (.invokevirtual 198, 3) := by decide +kernel
theorem wc_179 : Cond.code (eb_y 179) (eb_b 179) (eb_ml 179) (eb_rt 179) ∈ eb_LT := eb_lt 1234 (by decide +kernel)
theorem cy_179 : (eb_y 179).cls = eb_cN (eb_rc 179) ∧ (eb_y 179).cls ≠ "java/lang/invoke/MethodHandle" ∧ (eb_y 179).cls ≠ "java/lang/invoke/VarHandle" ∧ (parseMethodDescriptor (eb_y 179).desc).map (fun d => d.parameters.length) = some 1 := by decide +kernel
theorem wi_179 : Cond.instanceMethod (eb_y 179) ∈ eb_LT := eb_lt 1233 (by decide +kernel)
theorem wse_179 : Cond.selects (eb_cN (eb_rc 179)) (eb_y 179) (eb_y 179) ∈ eb_LT := eb_lt 51 (by decide +kernel)
theorem kV_179 {L q0 m pc : Nat} {lg : Nat → Bool} {ix : Nat} (hw : Cond.methodLink (eb_own m) ix (eb_y 179) ∈ eb_LT) (hd : decode (eb_b m) pc = .ok (.invokevirtual ix, 3)) : eb_Snd L q0 m pc lg (op_call 179 2 (pc + 3)) := sn_callV false rfl (Or.inr ⟨rfl, _, rfl⟩) (by decide) rfl (by decide) ⟨⟨hw, wi_179, wse_179⟩, wc_179⟩ cy_179 hd
theorem wm_6_198 : Cond.methodLink (eb_cN 6) 198 (eb_y 179) ∈ eb_LT := eb_lt 1231 (by decide +kernel)
theorem d182_49 : decode (eb_b 182) 49 = .ok (.ifCond .eq 22, 3) := by decide +kernel
theorem d182_52 : decode (eb_b 182) 52 = .ok (.aload_n 0, 1) := by decide +kernel
theorem d182_53 : decode (eb_b 182) 53 = .ok (.iconst 0, 1) := by decide +kernel
theorem d182_54 : decode (eb_b 182) 54 = .ok (.bipush 100, 2) := by decide +kernel
theorem d182_56 : decode (eb_b 182) 56 = .ok (.invokevirtual 193, 3) := by decide +kernel
theorem d182_59 : decode (eb_b 182) 59 = .ok (.ifCond .ne 5, 3) := by decide +kernel
theorem d182_62 : decode (eb_b 182) 62 = .ok (.iconst 0, 1) := by decide +kernel
theorem d182_63 : decode (eb_b 182) 63 = .ok (.ireturn, 1) := by decide +kernel
theorem d182_64 : decode (eb_b 182) 64 = .ok (.aload_n 0, 1) := by decide +kernel
theorem d182_65 : decode (eb_b 182) 65 = .ok (.getfield 49, 3) := by decide +kernel
theorem d182_68 : decode (eb_b 182) 68 = .ok (.iconst 0, 1) := by decide +kernel
theorem d182_69 : decode (eb_b 182) 69 = .ok (.iaload, 1) := by decide +kernel
theorem d182_70 : decode (eb_b 182) 70 = .ok (.istore_n 2, 1) := by decide +kernel
theorem d182_71 : decode (eb_b 182) 71 = .ok (.aload_n 0, 1) := by decide +kernel
theorem d182_72 : decode (eb_b 182) 72 = .ok (.iload_n 1, 1) := by decide +kernel
theorem d182_73 : decode (eb_b 182) 73 = .ok (.aload_n 0, 1) := by decide +kernel
theorem d182_74 : decode (eb_b 182) 74 = .ok (.getfield 49, 3) := by decide +kernel
theorem d182_77 : decode (eb_b 182) 77 = .ok (.iconst 1, 1) := by decide +kernel
theorem d182_78 : decode (eb_b 182) 78 = .ok (.iaload, 1) := by decide +kernel
theorem d182_79 : decode (eb_b 182) 79 = .ok (.aload_n 0, 1) := by decide +kernel
theorem d182_80 : decode (eb_b 182) 80 = .ok (.getfield 49, 3) := by decide +kernel
theorem d182_83 : decode (eb_b 182) 83 = .ok (.iconst 2, 1) := by decide +kernel
theorem d182_84 : decode (eb_b 182) 84 = .ok (.iaload, 1) := by decide +kernel
theorem d182_85 : decode (eb_b 182) 85 = .ok (.iload_n 2, 1) := by decide +kernel
theorem d182_86 : decode (eb_b 182) 86 = .ok (.invokevirtual 121, 3) := by decide +kernel
theorem d182_89 : decode (eb_b 182) 89 = .ok (.iconst 1, 1) := by decide +kernel
theorem d182_90 : decode (eb_b 182) 90 = .ok (.ireturn, 1) := by decide +kernel
theorem d183_0 : decode (eb_b 183) 0 = .ok (.aload_n 0, 1) := by decide +kernel
theorem d183_1 : decode (eb_b 183) 1 = .ok (.invokevirtual 186, 3) := by decide +kernel
theorem d183_4 : decode (eb_b 183) 4 = .ok (.aload_n 0, 1) := by decide +kernel
theorem d183_5 : decode (eb_b 183) 5 = .ok (.getfield 159, 3) := by decide +kernel
theorem d183_8 : decode (eb_b 183) 8 = .ok (.iconst 2, 1) := by decide +kernel
theorem d183_9 : decode (eb_b 183) 9 = .ok (.if_icmp .ne 35, 3) := by decide +kernel
theorem d183_12 : decode (eb_b 183) 12 = .ok (.aload_n 0, 1) := by decide +kernel
theorem d183_13 : decode (eb_b 183) 13 = .ok (.getfield 156, 3) := by decide +kernel
theorem d183_16 : decode (eb_b 183) 16 = .ok (.aload_n 0, 1) := by decide +kernel
theorem d183_17 : decode (eb_b 183) 17 = .ok (.getfield 73, 3) := by decide +kernel
theorem d183_20 : decode (eb_b 183) 20 = .ok (.if_icmp .ge 24, 3) := by decide +kernel
theorem d183_23 : decode (eb_b 183) 23 = .ok (.aload_n 0, 1) := by decide +kernel
theorem d183_24 : decode (eb_b 183) 24 = .ok (.getfield 39, 3) := by decide +kernel
theorem d183_27 : decode (eb_b 183) 27 = .ok (.aload_n 0, 1) := by decide +kernel
theorem d183_28 : decode (eb_b 183) 28 = .ok (.getfield 156, 3) := by decide +kernel
theorem d183_31 : decode (eb_b 183) 31 = .ok (.aaload, 1) := by decide +kernel
theorem d183_32 : decode (eb_b 183) 32 = .ok (.iconst 5, 1) := by decide +kernel
theorem d183_33 : decode (eb_b 183) 33 = .ok (.iaload, 1) := by decide +kernel
theorem d183_34 : decode (eb_b 183) 34 = .ok (.bipush 99, 2) := by decide +kernel
theorem d183_36 : decode (eb_b 183) 36 = .ok (.if_icmp .ne 8, 3) := by decide +kernel
theorem d183_39 : decode (eb_b 183) 39 = .ok (.aload_n 0, 1) := by decide +kernel
theorem d183_40 : decode (eb_b 183) 40 = .ok (.invokevirtual 182, 3) := by decide +kernel
theorem d183_43 : decode (eb_b 183) 43 = .ok (.ireturn, 1) := by decide +kernel
theorem d183_44 : decode (eb_b 183) 44 = .ok (.aload_n 0, 1) := by decide +kernel
theorem d183_45 : decode (eb_b 183) 45 = .ok (.iconst 0, 1) := by decide +kernel
theorem d183_46 : decode (eb_b 183) 46 = .ok (.iconst 0, 1) := by decide +kernel
theorem d183_47 : decode (eb_b 183) 47 = .ok (.aload_n 0, 1) := by decide +kernel
theorem d183_48 : decode (eb_b 183) 48 = .ok (.getfield 73, 3) := by decide +kernel
theorem d183_51 : decode (eb_b 183) 51 = .ok (.iconst 1, 1) := by decide +kernel
theorem d183_52 : decode (eb_b 183) 52 = .ok (.isub, 1) := by decide +kernel
theorem d183_53 : decode (eb_b 183) 53 = .ok (.invokevirtual 189, 3) := by decide +kernel
theorem d183_56 : decode (eb_b 183) 56 = .ok (.ifCond .eq 14, 3) := by decide +kernel
theorem d183_59 : decode (eb_b 183) 59 = .ok (.aload_n 0, 1) := by decide +kernel
theorem d183_60 : decode (eb_b 183) 60 = .ok (.iconst 1, 1) := by decide +kernel
theorem d183_61 : decode (eb_b 183) 61 = .ok (.iconst 0, 1) := by decide +kernel
theorem d183_62 : decode (eb_b 183) 62 = .ok (.bipush 100, 2) := by decide +kernel
theorem d183_64 : decode (eb_b 183) 64 = .ok (.invokevirtual 189, 3) := by decide +kernel
theorem d183_67 : decode (eb_b 183) 67 = .ok (.ifCond .ne 5, 3) := by decide +kernel
theorem d183_70 : decode (eb_b 183) 70 = .ok (.iconst 0, 1) := by decide +kernel
theorem d183_71 : decode (eb_b 183) 71 = .ok (.ireturn, 1) := by decide +kernel
theorem d183_72 : decode (eb_b 183) 72 = .ok (.aload_n 0, 1) := by decide +kernel
theorem d183_73 : decode (eb_b 183) 73 = .ok (.aload_n 0, 1) := by decide +kernel
theorem d183_74 : decode (eb_b 183) 74 = .ok (.getfield 49, 3) := by decide +kernel
theorem d183_77 : decode (eb_b 183) 77 = .ok (.iconst 0, 1) := by decide +kernel
theorem d183_78 : decode (eb_b 183) 78 = .ok (.iaload, 1) := by decide +kernel
theorem d183_79 : decode (eb_b 183) 79 = .ok (.aload_n 0, 1) := by decide +kernel
theorem d183_80 : decode (eb_b 183) 80 = .ok (.getfield 49, 3) := by decide +kernel
theorem d183_83 : decode (eb_b 183) 83 = .ok (.iconst 1, 1) := by decide +kernel
theorem d183_84 : decode (eb_b 183) 84 = .ok (.iaload, 1) := by decide +kernel
theorem d183_85 : decode (eb_b 183) 85 = .ok (.invokevirtual 141, 3) := by decide +kernel
theorem d183_88 : decode (eb_b 183) 88 = .ok (.iconst 1, 1) := by decide +kernel
theorem d183_89 : decode (eb_b 183) 89 = .ok (.ireturn, 1) := by decide +kernel
theorem d184_0 : decode (eb_b 184) 0 = .ok (.aload_n 0, 1) := by decide +kernel
theorem d184_1 : decode (eb_b 184) 1 = .ok (.invokevirtual 186, 3) := by decide +kernel
theorem d184_4 : decode (eb_b 184) 4 = .ok (.iconst 0, 1) := by decide +kernel
theorem d184_5 : decode (eb_b 184) 5 = .ok (.istore_n 1, 1) := by decide +kernel
theorem hn184_1 : 1 < eb_ml 184 := by decide
theorem d184_6 : decode (eb_b 184) 6 = .ok (.iconst 1, 1) := by decide +kernel
theorem d184_7 : decode (eb_b 184) 7 = .ok (.istore_n 2, 1) := by decide +kernel
theorem hn184_2 : 2 < eb_ml 184 := by decide
theorem d184_8 : decode (eb_b 184) 8 = .ok (.iload_n 2, 1) := by decide +kernel
theorem d184_9 : decode (eb_b 184) 9 = .ok (.ifCond .ne 11, 3) := by decide +kernel
theorem d184_12 : decode (eb_b 184) 12 = .ok (.aload_n 0, 1) := by decide +kernel
theorem d184_13 : decode (eb_b 184) 13 = .ok (.getfield 159, 3) := by decide +kernel
theorem d184_16 : decode (eb_b 184) 16 = .ok (.iconst 2, 1) := by decide +kernel
theorem d184_17 : decode (eb_b 184) 17 = .ok (.if_icmp .ne 69, 3) := by decide +kernel
theorem d184_20 : decode (eb_b 184) 20 = .ok (.iconst 0, 1) := by decide +kernel
theorem d184_21 : decode (eb_b 184) 21 = .ok (.istore_n 2, 1) := by decide +kernel
theorem d184_22 : decode (eb_b 184) 22 = .ok (.aload_n 0, 1) := by decide +kernel
theorem d184_23 : decode (eb_b 184) 23 = .ok (.getfield 159, 3) := by decide +kernel
theorem d184_26 : decode (eb_b 184) 26 = .ok (.iconst 2, 1) := by decide +kernel
theorem d184_27 : decode (eb_b 184) 27 = .ok (.if_icmp .ne 25, 3) := by decide +kernel
theorem d184_30 : decode (eb_b 184) 30 = .ok (.aload_n 0, 1) := by decide +kernel
theorem d184_31 : decode (eb_b 184) 31 = .ok (.getfield 156, 3) := by decide +kernel
theorem d184_34 : decode (eb_b 184) 34 = .ok (.aload_n 0, 1) := by decide +kernel
theorem d184_35 : decode (eb_b 184) 35 = .ok (.getfield 73, 3) := by decide +kernel
theorem d184_38 : decode (eb_b 184) 38 = .ok (.if_icmp .ge 14, 3) := by decide +kernel
theorem d184_41 : decode (eb_b 184) 41 = .ok (.iload_n 1, 1) := by decide +kernel
theorem d184_42 : decode (eb_b 184) 42 = .ok (.aload_n 0, 1) := by decide +kernel
theorem d184_43 : decode (eb_b 184) 43 = .ok (.getfield 156, 3) := by decide +kernel
theorem d184_46 : decode (eb_b 184) 46 = .ok (.ishr, 1) := by decide +kernel
theorem d184_47 : decode (eb_b 184) 47 = .ok (.iconst 1, 1) := by decide +kernel
theorem d184_48 : decode (eb_b 184) 48 = .ok (.iand, 1) := by decide +kernel
theorem d184_49 : decode (eb_b 184) 49 = .ok (.ifCond .ne 18, 3) := by decide +kernel
theorem d184_52 : decode (eb_b 184) 52 = .ok (.aload_n 0, 1) := by decide +kernel
theorem d184_53 : decode (eb_b 184) 53 = .ok (.iconst 0, 1) := by decide +kernel
theorem d184_54 : decode (eb_b 184) 54 = .ok (.iconst 0, 1) := by decide +kernel
theorem d184_55 : decode (eb_b 184) 55 = .ok (.aload_n 0, 1) := by decide +kernel
theorem d184_56 : decode (eb_b 184) 56 = .ok (.getfield 73, 3) := by decide +kernel
theorem d184_59 : decode (eb_b 184) 59 = .ok (.iconst 1, 1) := by decide +kernel
theorem d184_60 : decode (eb_b 184) 60 = .ok (.isub, 1) := by decide +kernel
theorem d184_61 : decode (eb_b 184) 61 = .ok (.invokevirtual 189, 3) := by decide +kernel
theorem d184_64 : decode (eb_b 184) 64 = .ok (.ifCond .ne 8, 3) := by decide +kernel
theorem d184_67 : decode (eb_b 184) 67 = .ok (.aload_n 0, 1) := by decide +kernel
theorem d184_68 : decode (eb_b 184) 68 = .ok (.invokevirtual 182, 3) := by decide +kernel
theorem d184_71 : decode (eb_b 184) 71 = .ok (.ireturn, 1) := by decide +kernel
theorem d184_72 : decode (eb_b 184) 72 = .ok (.iload_n 1, 1) := by decide +kernel
theorem d184_73 : decode (eb_b 184) 73 = .ok (.iconst 1, 1) := by decide +kernel
theorem d184_74 : decode (eb_b 184) 74 = .ok (.aload_n 0, 1) := by decide +kernel
theorem d184_75 : decode (eb_b 184) 75 = .ok (.getfield 49, 3) := by decide +kernel
theorem d184_78 : decode (eb_b 184) 78 = .ok (.iconst 0, 1) := by decide +kernel
theorem d184_79 : decode (eb_b 184) 79 = .ok (.iaload, 1) := by decide +kernel
theorem d184_80 : decode (eb_b 184) 80 = .ok (.ishl, 1) := by decide +kernel
theorem d184_81 : decode (eb_b 184) 81 = .ok (.ior, 1) := by decide +kernel
theorem d184_82 : decode (eb_b 184) 82 = .ok (.istore_n 1, 1) := by decide +kernel
theorem d184_83 : decode (eb_b 184) 83 = .ok (.goto (-75), 3) := by decide +kernel
theorem d184_86 : decode (eb_b 184) 86 = .ok (.aload_n 0, 1) := by decide +kernel
theorem d184_87 : decode (eb_b 184) 87 = .ok (.iload_n 1, 1) := by decide +kernel
theorem d184_88 : decode (eb_b 184) 88 = .ok (.invokevirtual 138, 3) := by decide +kernel
theorem d184_91 : decode (eb_b 184) 91 = .ok (.pop, 1) := by decide +kernel
theorem d184_92 : decode (eb_b 184) 92 = .ok (.iconst 1, 1) := by decide +kernel
theorem d184_93 : decode (eb_b 184) 93 = .ok (.ireturn, 1) := by decide +kernel
theorem d185_0 : decode (eb_b 185) 0 = .ok (.aload_n 0, 1) := by decide +kernel
theorem d185_1 : decode (eb_b 185) 1 = .ok (.ldc 202, 2) := by decide +kernel
theorem d185_3 : decode (eb_b 185) 3 = .ok (.invokevirtual 198, 3) := by decide +kernel
theorem d185_6 : decode (eb_b 185) 6 = .ok (.ifCond .eq 17, 3) := by decide +kernel
theorem d185_9 : decode (eb_b 185) 9 = .ok (.aload_n 0, 1) := by decide +kernel
theorem d185_10 : decode (eb_b 185) 10 = .ok (.getfield 73, 3) := by decide +kernel
theorem d185_13 : decode (eb_b 185) 13 = .ok (.bipush 6, 2) := by decide +kernel
theorem d185_15 : decode (eb_b 185) 15 = .ok (.if_icmp .ge 8, 3) := by decide +kernel
theorem d185_18 : decode (eb_b 185) 18 = .ok (.aload_n 0, 1) := by decide +kernel
theorem d185_19 : decode (eb_b 185) 19 = .ok (.invokevirtual 203, 3) := by decide +kernel
theorem wc_182 : Cond.code (eb_y 182) (eb_b 182) (eb_ml 182) (eb_rt 182) ∈ eb_LT := eb_lt 1240 (by decide +kernel)
theorem cy_182 : (eb_y 182).cls = eb_cN (eb_rc 182) ∧ (eb_y 182).cls ≠ "java/lang/invoke/MethodHandle" ∧ (eb_y 182).cls ≠ "java/lang/invoke/VarHandle" ∧ (parseMethodDescriptor (eb_y 182).desc).map (fun d => d.parameters.length) = some 0 := by decide +kernel
theorem wi_182 : Cond.instanceMethod (eb_y 182) ∈ eb_LT := eb_lt 1239 (by decide +kernel)
theorem wse_182 : Cond.selects (eb_cN (eb_rc 182)) (eb_y 182) (eb_y 182) ∈ eb_LT := eb_lt 52 (by decide +kernel)
theorem kV_182 {L q0 m pc : Nat} {lg : Nat → Bool} {ix : Nat} (hw : Cond.methodLink (eb_own m) ix (eb_y 182) ∈ eb_LT) (hd : decode (eb_b m) pc = .ok (.invokevirtual ix, 3)) : eb_Snd L q0 m pc lg (op_call 182 1 (pc + 3)) := sn_callV false rfl (Or.inr ⟨rfl, _, rfl⟩) (by decide) rfl (by decide) ⟨⟨hw, wi_182, wse_182⟩, wc_182⟩ cy_182 hd
theorem wm_6_203 : Cond.methodLink (eb_cN 6) 203 (eb_y 182) ∈ eb_LT := eb_lt 1237 (by decide +kernel)
theorem d185_22 : decode (eb_b 185) 22 = .ok (.ireturn, 1) := by decide +kernel
theorem d185_23 : decode (eb_b 185) 23 = .ok (.aload_n 0, 1) := by decide +kernel
theorem d185_24 : decode (eb_b 185) 24 = .ok (.ldc 206, 2) := by decide +kernel
theorem d185_26 : decode (eb_b 185) 26 = .ok (.invokevirtual 198, 3) := by decide +kernel
theorem d185_29 : decode (eb_b 185) 29 = .ok (.ifCond .eq 70, 3) := by decide +kernel
theorem d185_32 : decode (eb_b 185) 32 = .ok (.aload_n 0, 1) := by decide +kernel
theorem d185_33 : decode (eb_b 185) 33 = .ok (.getfield 80, 3) := by decide +kernel
theorem d185_36 : decode (eb_b 185) 36 = .ok (.bipush 6, 2) := by decide +kernel
theorem d185_38 : decode (eb_b 185) 38 = .ok (.if_icmp .ge 61, 3) := by decide +kernel
theorem d185_41 : decode (eb_b 185) 41 = .ok (.aload_n 0, 1) := by decide +kernel
theorem d185_42 : decode (eb_b 185) 42 = .ok (.iconst 0, 1) := by decide +kernel
theorem d185_43 : decode (eb_b 185) 43 = .ok (.iconst 5, 1) := by decide +kernel
theorem d185_44 : decode (eb_b 185) 44 = .ok (.invokevirtual 193, 3) := by decide +kernel
theorem d185_47 : decode (eb_b 185) 47 = .ok (.ifCond .eq 25, 3) := by decide +kernel
theorem d185_50 : decode (eb_b 185) 50 = .ok (.aload_n 0, 1) := by decide +kernel
theorem d185_51 : decode (eb_b 185) 51 = .ok (.iconst 1, 1) := by decide +kernel
theorem d185_52 : decode (eb_b 185) 52 = .ok (.iconst 1, 1) := by decide +kernel
theorem d185_53 : decode (eb_b 185) 53 = .ok (.bipush 30, 2) := by decide +kernel
theorem d185_55 : decode (eb_b 185) 55 = .ok (.invokevirtual 189, 3) := by decide +kernel
theorem d185_58 : decode (eb_b 185) 58 = .ok (.ifCond .eq 14, 3) := by decide +kernel
theorem d185_61 : decode (eb_b 185) 61 = .ok (.aload_n 0, 1) := by decide +kernel
theorem d185_62 : decode (eb_b 185) 62 = .ok (.iconst 2, 1) := by decide +kernel
theorem d185_63 : decode (eb_b 185) 63 = .ok (.iconst 0, 1) := by decide +kernel
theorem d185_64 : decode (eb_b 185) 64 = .ok (.bipush 99, 2) := by decide +kernel
theorem d185_66 : decode (eb_b 185) 66 = .ok (.invokevirtual 189, 3) := by decide +kernel
theorem d185_69 : decode (eb_b 185) 69 = .ok (.ifCond .ne 5, 3) := by decide +kernel
theorem d185_72 : decode (eb_b 185) 72 = .ok (.iconst 0, 1) := by decide +kernel
theorem d185_73 : decode (eb_b 185) 73 = .ok (.ireturn, 1) := by decide +kernel
theorem d185_74 : decode (eb_b 185) 74 = .ok (.aload_n 0, 1) := by decide +kernel
theorem d185_75 : decode (eb_b 185) 75 = .ok (.aload_n 0, 1) := by decide +kernel
theorem d185_76 : decode (eb_b 185) 76 = .ok (.getfield 49, 3) := by decide +kernel
theorem d185_79 : decode (eb_b 185) 79 = .ok (.iconst 0, 1) := by decide +kernel
theorem d185_80 : decode (eb_b 185) 80 = .ok (.iaload, 1) := by decide +kernel
theorem d185_81 : decode (eb_b 185) 81 = .ok (.aload_n 0, 1) := by decide +kernel
theorem d185_82 : decode (eb_b 185) 82 = .ok (.getfield 49, 3) := by decide +kernel
theorem d185_85 : decode (eb_b 185) 85 = .ok (.iconst 1, 1) := by decide +kernel
theorem d185_86 : decode (eb_b 185) 86 = .ok (.iaload, 1) := by decide +kernel
theorem d185_87 : decode (eb_b 185) 87 = .ok (.aload_n 0, 1) := by decide +kernel
theorem d185_88 : decode (eb_b 185) 88 = .ok (.getfield 49, 3) := by decide +kernel
theorem d185_91 : decode (eb_b 185) 91 = .ok (.iconst 2, 1) := by decide +kernel
theorem d185_92 : decode (eb_b 185) 92 = .ok (.iaload, 1) := by decide +kernel
theorem d185_93 : decode (eb_b 185) 93 = .ok (.invokevirtual 207, 3) := by decide +kernel
theorem wc_163 : Cond.code (eb_y 163) (eb_b 163) (eb_ml 163) (eb_rt 163) ∈ eb_LT := eb_lt 1142 (by decide +kernel)
theorem cy_163 : (eb_y 163).cls = eb_cN (eb_rc 163) ∧ (eb_y 163).cls ≠ "java/lang/invoke/MethodHandle" ∧ (eb_y 163).cls ≠ "java/lang/invoke/VarHandle" ∧ (parseMethodDescriptor (eb_y 163).desc).map (fun d => d.parameters.length) = some 3 := by decide +kernel
theorem wi_163 : Cond.instanceMethod (eb_y 163) ∈ eb_LT := eb_lt 1140 (by decide +kernel)
theorem wse_163 : Cond.selects (eb_cN (eb_rc 163)) (eb_y 163) (eb_y 163) ∈ eb_LT := eb_lt 1141 (by decide +kernel)
theorem kV_163 {L q0 m pc : Nat} {lg : Nat → Bool} {ix : Nat} (hw : Cond.methodLink (eb_own m) ix (eb_y 163) ∈ eb_LT) (hd : decode (eb_b m) pc = .ok (.invokevirtual ix, 3)) : eb_Snd L q0 m pc lg (op_call 163 4 (pc + 3)) := sn_callV false rfl (Or.inr ⟨rfl, _, rfl⟩) (by decide) rfl (by decide) ⟨⟨hw, wi_163, wse_163⟩, wc_163⟩ cy_163 hd
theorem wm_6_207 : Cond.methodLink (eb_cN 6) 207 (eb_y 163) ∈ eb_LT := eb_lt 1255 (by decide +kernel)
theorem d185_96 : decode (eb_b 185) 96 = .ok (.pop, 1) := by decide +kernel
theorem d185_97 : decode (eb_b 185) 97 = .ok (.iconst 1, 1) := by decide +kernel
theorem d185_98 : decode (eb_b 185) 98 = .ok (.ireturn, 1) := by decide +kernel
theorem d185_99 : decode (eb_b 185) 99 = .ok (.aload_n 0, 1) := by decide +kernel
theorem d185_100 : decode (eb_b 185) 100 = .ok (.ldc 210, 2) := by decide +kernel
theorem d185_102 : decode (eb_b 185) 102 = .ok (.invokevirtual 198, 3) := by decide +kernel
theorem d185_105 : decode (eb_b 185) 105 = .ok (.ifCond .eq 8, 3) := by decide +kernel
theorem d185_108 : decode (eb_b 185) 108 = .ok (.aload_n 0, 1) := by decide +kernel
theorem d185_109 : decode (eb_b 185) 109 = .ok (.invokevirtual 212, 3) := by decide +kernel
theorem wc_183 : Cond.code (eb_y 183) (eb_b 183) (eb_ml 183) (eb_rt 183) ∈ eb_LT := eb_lt 1260 (by decide +kernel)
theorem cy_183 : (eb_y 183).cls = eb_cN (eb_rc 183) ∧ (eb_y 183).cls ≠ "java/lang/invoke/MethodHandle" ∧ (eb_y 183).cls ≠ "java/lang/invoke/VarHandle" ∧ (parseMethodDescriptor (eb_y 183).desc).map (fun d => d.parameters.length) = some 0 := by decide +kernel
theorem wi_183 : Cond.instanceMethod (eb_y 183) ∈ eb_LT := eb_lt 1259 (by decide +kernel)
theorem wse_183 : Cond.selects (eb_cN (eb_rc 183)) (eb_y 183) (eb_y 183) ∈ eb_LT := eb_lt 56 (by decide +kernel)
theorem kV_183 {L q0 m pc : Nat} {lg : Nat → Bool} {ix : Nat} (hw : Cond.methodLink (eb_own m) ix (eb_y 183) ∈ eb_LT) (hd : decode (eb_b m) pc = .ok (.invokevirtual ix, 3)) : eb_Snd L q0 m pc lg (op_call 183 1 (pc + 3)) := sn_callV false rfl (Or.inr ⟨rfl, _, rfl⟩) (by decide) rfl (by decide) ⟨⟨hw, wi_183, wse_183⟩, wc_183⟩ cy_183 hd
theorem wm_6_212 : Cond.methodLink (eb_cN 6) 212 (eb_y 183) ∈ eb_LT := eb_lt 1257 (by decide +kernel)
theorem d185_112 : decode (eb_b 185) 112 = .ok (.ireturn, 1) := by decide +kernel
theorem d185_113 : decode (eb_b 185) 113 = .ok (.aload_n 0, 1) := by decide +kernel
theorem d185_114 : decode (eb_b 185) 114 = .ok (.ldc 215, 2) := by decide +kernel
theorem d185_116 : decode (eb_b 185) 116 = .ok (.invokevirtual 198, 3) := by decide +kernel
theorem d185_119 : decode (eb_b 185) 119 = .ok (.ifCond .eq 8, 3) := by decide +kernel
theorem d185_122 : decode (eb_b 185) 122 = .ok (.aload_n 0, 1) := by decide +kernel
theorem d185_123 : decode (eb_b 185) 123 = .ok (.invokevirtual 217, 3) := by decide +kernel
theorem wc_184 : Cond.code (eb_y 184) (eb_b 184) (eb_ml 184) (eb_rt 184) ∈ eb_LT := eb_lt 1265 (by decide +kernel)
theorem cy_184 : (eb_y 184).cls = eb_cN (eb_rc 184) ∧ (eb_y 184).cls ≠ "java/lang/invoke/MethodHandle" ∧ (eb_y 184).cls ≠ "java/lang/invoke/VarHandle" ∧ (parseMethodDescriptor (eb_y 184).desc).map (fun d => d.parameters.length) = some 0 := by decide +kernel
theorem wi_184 : Cond.instanceMethod (eb_y 184) ∈ eb_LT := eb_lt 1264 (by decide +kernel)
theorem wse_184 : Cond.selects (eb_cN (eb_rc 184)) (eb_y 184) (eb_y 184) ∈ eb_LT := eb_lt 57 (by decide +kernel)
theorem kV_184 {L q0 m pc : Nat} {lg : Nat → Bool} {ix : Nat} (hw : Cond.methodLink (eb_own m) ix (eb_y 184) ∈ eb_LT) (hd : decode (eb_b m) pc = .ok (.invokevirtual ix, 3)) : eb_Snd L q0 m pc lg (op_call 184 1 (pc + 3)) := sn_callV false rfl (Or.inr ⟨rfl, _, rfl⟩) (by decide) rfl (by decide) ⟨⟨hw, wi_184, wse_184⟩, wc_184⟩ cy_184 hd
theorem wm_6_217 : Cond.methodLink (eb_cN 6) 217 (eb_y 184) ∈ eb_LT := eb_lt 1262 (by decide +kernel)
theorem d185_126 : decode (eb_b 185) 126 = .ok (.ireturn, 1) := by decide +kernel
theorem d185_127 : decode (eb_b 185) 127 = .ok (.aload_n 0, 1) := by decide +kernel
theorem d185_128 : decode (eb_b 185) 128 = .ok (.ldc 220, 2) := by decide +kernel
theorem d185_130 : decode (eb_b 185) 130 = .ok (.invokevirtual 198, 3) := by decide +kernel
theorem d185_133 : decode (eb_b 185) 133 = .ok (.ifCond .ne 8, 3) := by decide +kernel
theorem d185_136 : decode (eb_b 185) 136 = .ok (.aload_n 0, 1) := by decide +kernel
theorem d185_137 : decode (eb_b 185) 137 = .ok (.invokevirtual 182, 3) := by decide +kernel
theorem d185_140 : decode (eb_b 185) 140 = .ok (.ireturn, 1) := by decide +kernel
theorem d185_141 : decode (eb_b 185) 141 = .ok (.aload_n 0, 1) := by decide +kernel
theorem d185_142 : decode (eb_b 185) 142 = .ok (.iconst 0, 1) := by decide +kernel
theorem d185_143 : decode (eb_b 185) 143 = .ok (.bipush 99, 2) := by decide +kernel
theorem d185_145 : decode (eb_b 185) 145 = .ok (.invokevirtual 193, 3) := by decide +kernel
theorem d185_148 : decode (eb_b 185) 148 = .ok (.ifCond .ne 5, 3) := by decide +kernel
theorem d185_151 : decode (eb_b 185) 151 = .ok (.iconst 0, 1) := by decide +kernel
theorem d185_152 : decode (eb_b 185) 152 = .ok (.ireturn, 1) := by decide +kernel
theorem d185_153 : decode (eb_b 185) 153 = .ok (.aload_n 0, 1) := by decide +kernel
theorem d185_154 : decode (eb_b 185) 154 = .ok (.aload_n 0, 1) := by decide +kernel
theorem d185_155 : decode (eb_b 185) 155 = .ok (.getfield 49, 3) := by decide +kernel
theorem d185_158 : decode (eb_b 185) 158 = .ok (.iconst 0, 1) := by decide +kernel
theorem d185_159 : decode (eb_b 185) 159 = .ok (.iaload, 1) := by decide +kernel
theorem d185_160 : decode (eb_b 185) 160 = .ok (.putfield 132, 3) := by decide +kernel
theorem d185_163 : decode (eb_b 185) 163 = .ok (.iconst 1, 1) := by decide +kernel
theorem d185_164 : decode (eb_b 185) 164 = .ok (.ireturn, 1) := by decide +kernel
theorem d186_0 : decode (eb_b 186) 0 = .ok (.aload_n 0, 1) := by decide +kernel
theorem d186_1 : decode (eb_b 186) 1 = .ok (.iconst 1, 1) := by decide +kernel
theorem d186_2 : decode (eb_b 186) 2 = .ok (.putfield 221, 3) := by decide +kernel
theorem wf_6_221 : Cond.fieldLink (eb_cN 6) 221 (eb_tT 6 24).1 (eb_tT 6 24).2.1 (eb_tT 6 24).2.2.1 ∈ eb_LT := eb_lt 980 (by decide +kernel)
theorem fi_6_24 : 24 < eb_nf 6 ∧ (eb_tt 6 24).isReference = false := ⟨by decide, rfl⟩
theorem fp_6_24 : ∀ x : Int32, narrow (eb_tt 6 24) (.int x) = .int x ∧ fits (eb_tt 6 24) (.int x) = true := fun x => ⟨rfl, rfl⟩
theorem d186_5 : decode (eb_b 186) 5 = .ok (.aload_n 0, 1) := by decide +kernel
theorem d186_6 : decode (eb_b 186) 6 = .ok (.iconst 0, 1) := by decide +kernel
theorem d186_7 : decode (eb_b 186) 7 = .ok (.putfield 150, 3) := by decide +kernel
theorem d186_10 : decode (eb_b 186) 10 = .ok (.aload_n 0, 1) := by decide +kernel
theorem d186_11 : decode (eb_b 186) 11 = .ok (.invokevirtual 186, 3) := by decide +kernel
theorem d186_14 : decode (eb_b 186) 14 = .ok (.aload_n 0, 1) := by decide +kernel
theorem d186_15 : decode (eb_b 186) 15 = .ok (.invokevirtual 224, 3) := by decide +kernel
theorem wc_185 : Cond.code (eb_y 185) (eb_b 185) (eb_ml 185) (eb_rt 185) ∈ eb_LT := eb_lt 1229 (by decide +kernel)
theorem cy_185 : (eb_y 185).cls = eb_cN (eb_rc 185) ∧ (eb_y 185).cls ≠ "java/lang/invoke/MethodHandle" ∧ (eb_y 185).cls ≠ "java/lang/invoke/VarHandle" ∧ (parseMethodDescriptor (eb_y 185).desc).map (fun d => d.parameters.length) = some 0 := by decide +kernel
theorem wi_185 : Cond.instanceMethod (eb_y 185) ∈ eb_LT := eb_lt 1228 (by decide +kernel)
theorem wse_185 : Cond.selects (eb_cN (eb_rc 185)) (eb_y 185) (eb_y 185) ∈ eb_LT := eb_lt 50 (by decide +kernel)
theorem kV_185 {L q0 m pc : Nat} {lg : Nat → Bool} {ix : Nat} (hw : Cond.methodLink (eb_own m) ix (eb_y 185) ∈ eb_LT) (hd : decode (eb_b m) pc = .ok (.invokevirtual ix, 3)) : eb_Snd L q0 m pc lg (op_call 185 1 (pc + 3)) := sn_callV false rfl (Or.inr ⟨rfl, _, rfl⟩) (by decide) rfl (by decide) ⟨⟨hw, wi_185, wse_185⟩, wc_185⟩ cy_185 hd
theorem wm_6_224 : Cond.methodLink (eb_cN 6) 224 (eb_y 185) ∈ eb_LT := eb_lt 1226 (by decide +kernel)
theorem d186_18 : decode (eb_b 186) 18 = .ok (.ifCond .ne 5, 3) := by decide +kernel
theorem d186_21 : decode (eb_b 186) 21 = .ok (.iconst 0, 1) := by decide +kernel
theorem d186_22 : decode (eb_b 186) 22 = .ok (.ireturn, 1) := by decide +kernel
theorem d186_23 : decode (eb_b 186) 23 = .ok (.aload_n 0, 1) := by decide +kernel
theorem d186_24 : decode (eb_b 186) 24 = .ok (.getfield 159, 3) := by decide +kernel
theorem d186_27 : decode (eb_b 186) 27 = .ok (.ifCond .eq 42, 3) := by decide +kernel
theorem d186_30 : decode (eb_b 186) 30 = .ok (.aload_n 0, 1) := by decide +kernel
theorem d186_31 : decode (eb_b 186) 31 = .ok (.getfield 159, 3) := by decide +kernel
theorem d186_34 : decode (eb_b 186) 34 = .ok (.iconst 3, 1) := by decide +kernel
theorem d186_35 : decode (eb_b 186) 35 = .ok (.if_icmp .eq 8, 3) := by decide +kernel
theorem d186_38 : decode (eb_b 186) 38 = .ok (.aload_n 0, 1) := by decide +kernel
theorem d186_39 : decode (eb_b 186) 39 = .ok (.invokevirtual 182, 3) := by decide +kernel
theorem d186_42 : decode (eb_b 186) 42 = .ok (.ireturn, 1) := by decide +kernel
theorem d186_43 : decode (eb_b 186) 43 = .ok (.aload_n 0, 1) := by decide +kernel
theorem d186_44 : decode (eb_b 186) 44 = .ok (.invokevirtual 186, 3) := by decide +kernel
theorem d186_47 : decode (eb_b 186) 47 = .ok (.aload_n 0, 1) := by decide +kernel
theorem d186_48 : decode (eb_b 186) 48 = .ok (.invokevirtual 224, 3) := by decide +kernel
theorem d186_51 : decode (eb_b 186) 51 = .ok (.ifCond .ne 5, 3) := by decide +kernel
theorem d186_54 : decode (eb_b 186) 54 = .ok (.iconst 0, 1) := by decide +kernel
theorem d186_55 : decode (eb_b 186) 55 = .ok (.ireturn, 1) := by decide +kernel
theorem d186_56 : decode (eb_b 186) 56 = .ok (.aload_n 0, 1) := by decide +kernel
theorem d186_57 : decode (eb_b 186) 57 = .ok (.dup, 1) := by decide +kernel
theorem d186_58 : decode (eb_b 186) 58 = .ok (.getfield 221, 3) := by decide +kernel
theorem d186_61 : decode (eb_b 186) 61 = .ok (.iconst 1, 1) := by decide +kernel
theorem d186_62 : decode (eb_b 186) 62 = .ok (.iadd, 1) := by decide +kernel
theorem d186_63 : decode (eb_b 186) 63 = .ok (.putfield 221, 3) := by decide +kernel
theorem d186_66 : decode (eb_b 186) 66 = .ok (.goto (-43), 3) := by decide +kernel
theorem d186_69 : decode (eb_b 186) 69 = .ok (.iconst 1, 1) := by decide +kernel
theorem d186_70 : decode (eb_b 186) 70 = .ok (.ireturn, 1) := by decide +kernel
section
variable {L q0 : Nat}
theorem sc162_0 : eb_AS L q0 162 (eb_lg 162) [(0, op_iload 1 1), (1, op_i2l 2), (2, op_push (zl 0) 3), (3, op_push (zl 100) 6), (6, op_call 146 3 9), (9, op_ifeq 36 12), (12, op_iload 2 13), (13, op_i2l 14), (14, op_push (zl 1) 15), (15, op_push (zl 20) 18), (18, op_call 146 3 21), (21, op_ifeq 36 24), (24, op_iload 3 25), (25, op_i2l 26), (26, op_push (zl 0) 27), (27, op_push (zl 99) 30), (30, op_call 146 3 33), (33, op_ifne 43 36), (36, op_aload 0 37), (37, op_push (zi (-2)) 39), (39, op_call 145 2 42), (42, op_iret), (43, op_aload 0 44), (44, op_getI L 6 9 47), (47, op_push (zi 6) 49), (49, op_icne 59 52), (52, op_aload 0 53), (53, op_push (zi (-6)) 55), (55, op_call 145 2 58), (58, op_iret), (59, op_aload 0 60), (60, op_iload 1 61), (61, op_iload 2 62), (62, op_iload 3 63), (63, op_push (zi (-1)) 64), (64, op_callv 161 5 67), (67, op_aload 0 68), (68, op_getI L 6 9 71), (71, op_push (zi 1) 72), (72, op_ii (· - ·) 73)] := ⟨sn_iload_n d162_0 rfl, sn_i2l d162_1, sn_lconst d162_2 (by decide), sn_ldc2 d162_3 wl_6_115, kS_146 wm_6_76 d162_6, sn_ifeq d162_9 (by decide), sn_iload_n d162_12 rfl, sn_i2l d162_13, sn_lconst d162_14 (by decide), sn_ldc2 d162_15 wl_6_117, kS_146 wm_6_76 d162_18, sn_ifeq d162_21 (by decide), sn_iload_n d162_24 rfl, sn_i2l d162_25, sn_lconst d162_26 (by decide), sn_ldc2 d162_27 wl_6_119, kS_146 wm_6_76 d162_30, sn_ifne d162_33 (by decide), sn_aload_n d162_36 rfl, sn_bipush d162_37 (by decide), kV_145 wm_6_91 d162_39, sn_iret d162_42 rfl, sn_aload_n d162_43 rfl, sn_getI (by decide) fi_6_9.1 fi_6_9.2 wf_6_73 d162_44, sn_bipush d162_47 (by decide), sn_icne d162_49 (by decide), sn_aload_n d162_52 rfl, sn_bipush d162_53 (by decide), kV_145 wm_6_91 d162_55, sn_iret d162_58 rfl, sn_aload_n d162_59 rfl, sn_iload_n d162_60 rfl, sn_iload_n d162_61 rfl, sn_iload_n d162_62 rfl, sn_iconst d162_63 (by decide), kV_161 wm_6_121 d162_64, sn_aload_n d162_67 rfl, sn_getI (by decide) fi_6_9.1 fi_6_9.2 wf_6_73 d162_68, sn_iconst d162_71 (by decide), sn_isub d162_72, trivial⟩
theorem sc162_1 : eb_AS L q0 162 (eb_lg 162) [(73, op_iret)] := ⟨sn_iret d162_73 rfl, trivial⟩
theorem sd162 : ∀ pc, eb_Snd L q0 162 pc (eb_lg 162) (eb_cd L 162 pc) := eb_AS_all (hk162 (L := L)) (eb_AS_app sc162_0 (sc162_1))
theorem sc163_0 : eb_AS L q0 163 (eb_lg 163) [(0, op_iload 1 1), (1, op_i2l 2), (2, op_push (zl 0) 3), (3, op_push (zl 5) 6), (6, op_call 146 3 9), (9, op_ifeq 36 12), (12, op_iload 2 13), (13, op_i2l 14), (14, op_push (zl 1) 15), (15, op_push (zl 30) 18), (18, op_call 146 3 21), (21, op_ifeq 36 24), (24, op_iload 3 25), (25, op_i2l 26), (26, op_push (zl 0) 27), (27, op_push (zl 99) 30), (30, op_call 146 3 33), (33, op_ifne 43 36), (36, op_aload 0 37), (37, op_push (zi (-2)) 39), (39, op_call 145 2 42), (42, op_iret), (43, op_aload 0 44), (44, op_getI L 6 11 47), (47, op_push (zi 6) 49), (49, op_icne 59 52), (52, op_aload 0 53), (53, op_push (zi (-6)) 55), (55, op_call 145 2 58), (58, op_iret), (59, op_aload 0 60), (60, op_getR L 6 12 63), (63, op_aload 0 64), (64, op_getI L 6 11 67), (67, op_aald L 68), (68, op_push (zi 0) 69), (69, op_iload 1 70), (70, op_iast L 71), (71, op_aload 0 72), (72, op_getR L 6 12 75)] := ⟨sn_iload_n d163_0 rfl, sn_i2l d163_1, sn_lconst d163_2 (by decide), sn_ldc2 d163_3 wl_6_106, kS_146 wm_6_76 d163_6, sn_ifeq d163_9 (by decide), sn_iload_n d163_12 rfl, sn_i2l d163_13, sn_lconst d163_14 (by decide), sn_ldc2 d163_15 wl_6_125, kS_146 wm_6_76 d163_18, sn_ifeq d163_21 (by decide), sn_iload_n d163_24 rfl, sn_i2l d163_25, sn_lconst d163_26 (by decide), sn_ldc2 d163_27 wl_6_119, kS_146 wm_6_76 d163_30, sn_ifne d163_33 (by decide), sn_aload_n d163_36 rfl, sn_bipush d163_37 (by decide), kV_145 wm_6_91 d163_39, sn_iret d163_42 rfl, sn_aload_n d163_43 rfl, sn_getI (by decide) fi_6_11.1 fi_6_11.2 wf_6_80 d163_44, sn_bipush d163_47 (by decide), sn_icne d163_49 (by decide), sn_aload_n d163_52 rfl, sn_bipush d163_53 (by decide), kV_145 wm_6_91 d163_55, sn_iret d163_58 rfl, sn_aload_n d163_59 rfl, sn_getR (by decide) fi_6_12.1 fi_6_12.2 wf_6_42 d163_60, sn_aload_n d163_63 rfl, sn_getI (by decide) fi_6_11.1 fi_6_11.2 wf_6_80 d163_64, sn_aald d163_67, sn_iconst d163_68 (by decide), sn_iload_n d163_69 rfl, sn_iast d163_70, sn_aload_n d163_71 rfl, sn_getR (by decide) fi_6_12.1 fi_6_12.2 wf_6_42 d163_72, trivial⟩
theorem sc163_1 : eb_AS L q0 163 (eb_lg 163) [(75, op_aload 0 76), (76, op_getI L 6 11 79), (79, op_aald L 80), (80, op_push (zi 1) 81), (81, op_iload 2 82), (82, op_iast L 83), (83, op_aload 0 84), (84, op_getR L 6 12 87), (87, op_aload 0 88), (88, op_getI L 6 11 91), (91, op_aald L 92), (92, op_push (zi 2) 93), (93, op_iload 3 94), (94, op_iast L 95), (95, op_aload 0 96), (96, op_dup 97), (97, op_getI L 6 11 100), (100, op_dup_x1 101), (101, op_push (zi 1) 102), (102, op_ii (· + ·) 103), (103, op_putI L 6 11 106), (106, op_iret)] := ⟨sn_aload_n d163_75 rfl, sn_getI (by decide) fi_6_11.1 fi_6_11.2 wf_6_80 d163_76, sn_aald d163_79, sn_iconst d163_80 (by decide), sn_iload_n d163_81 rfl, sn_iast d163_82, sn_aload_n d163_83 rfl, sn_getR (by decide) fi_6_12.1 fi_6_12.2 wf_6_42 d163_84, sn_aload_n d163_87 rfl, sn_getI (by decide) fi_6_11.1 fi_6_11.2 wf_6_80 d163_88, sn_aald d163_91, sn_iconst d163_92 (by decide), sn_iload_n d163_93 rfl, sn_iast d163_94, sn_aload_n d163_95 rfl, sn_dup d163_96, sn_getI (by decide) fi_6_11.1 fi_6_11.2 wf_6_80 d163_97, sn_dup_x1 d163_100, sn_iconst d163_101 (by decide), sn_iadd d163_102, sn_putI (by decide) fi_6_11.1 fi_6_11.2 wf_6_80 (Or.inl rfl) fp_6_11 d163_103, sn_iret d163_106 rfl, trivial⟩
theorem sd163 : ∀ pc, eb_Snd L q0 163 pc (eb_lg 163) (eb_cd L 163 pc) := eb_AS_all (hk163 (L := L)) (eb_AS_app sc163_0 (sc163_1))
theorem sc164_0 : eb_AS L q0 164 (eb_lg 164) [(0, op_aload 0 1), (1, op_iload 1 2), (2, op_call 148 2 5), (5, op_ifeq 40 8), (8, op_iload 2 9), (9, op_i2l 10), (10, op_push (zl 0) 11), (11, op_push (zl 1) 12), (12, op_call 146 3 15), (15, op_ifeq 40 18), (18, op_iload 3 19), (19, op_i2l 20), (20, op_push (zl 0) 21), (21, op_iload 2 22), (22, op_ifne 31 25), (25, op_push (zl 100) 28), (28, op_goto 34), (31, op_push (zl 99) 34), (34, op_call 146 3 37), (37, op_ifne 47 40), (40, op_aload 0 41), (41, op_push (zi (-2)) 43), (43, op_call 145 2 46), (46, op_iret), (47, op_iload 2 48), (48, op_ifne 55 51), (51, op_push (zi 0) 52), (52, op_goto 56), (55, op_push (zi 3) 56), (56, op_istore 4 58), (58, op_aload 0 59), (59, op_getR L 6 10 62), (62, op_iload 1 63), (63, op_aald L 64), (64, op_iload 4 66), (66, op_iald L 67), (67, op_istore 5 69), (69, op_aload 0 70), (70, op_getR L 6 10 73), (73, op_iload 1 74)] := ⟨sn_aload_n d164_0 rfl, sn_iload_n d164_1 rfl, kV_148 wm_6_127 d164_2, sn_ifeq d164_5 (by decide), sn_iload_n d164_8 rfl, sn_i2l d164_9, sn_lconst d164_10 (by decide), sn_lconst d164_11 (by decide), kS_146 wm_6_76 d164_12, sn_ifeq d164_15 (by decide), sn_iload_n d164_18 rfl, sn_i2l d164_19, sn_lconst d164_20 (by decide), sn_iload_n d164_21 rfl, sn_ifne d164_22 (by decide), sn_ldc2 d164_25 wl_6_115, sn_goto d164_28 (by decide), sn_ldc2 d164_31 wl_6_119, kS_146 wm_6_76 d164_34, sn_ifne d164_37 (by decide), sn_aload_n d164_40 rfl, sn_bipush d164_41 (by decide), kV_145 wm_6_91 d164_43, sn_iret d164_46 rfl, sn_iload_n d164_47 rfl, sn_ifne d164_48 (by decide), sn_iconst d164_51 (by decide), sn_goto d164_52 (by decide), sn_iconst d164_55 (by decide), sn_istore (eb_hlg (Or.inl rfl)) hn164_4 d164_56, sn_aload_n d164_58 rfl, sn_getR (by decide) fi_6_10.1 fi_6_10.2 wf_6_39 d164_59, sn_iload_n d164_62 rfl, sn_aald d164_63, sn_iload d164_64, sn_iald d164_66, sn_istore (eb_hlg (Or.inl rfl)) hn164_5 d164_67, sn_aload_n d164_69 rfl, sn_getR (by decide) fi_6_10.1 fi_6_10.2 wf_6_39 d164_70, sn_iload_n d164_73 rfl, trivial⟩
theorem sc164_1 : eb_AS L q0 164 (eb_lg 164) [(74, op_aald L 75), (75, op_iload 4 77), (77, op_iload 3 78), (78, op_iast L 79), (79, op_iload 5 81), (81, op_iret)] := ⟨sn_aald d164_74, sn_iload d164_75, sn_iload_n d164_77 rfl, sn_iast d164_78, sn_iload d164_79, sn_iret d164_81 rfl, trivial⟩
theorem sd164 : ∀ pc, eb_Snd L q0 164 pc (eb_lg 164) (eb_cd L 164 pc) := eb_AS_all (hk164 (L := L)) (eb_AS_app sc164_0 (sc164_1))
theorem sc165_0 : eb_AS L q0 165 (eb_lg 165) [(0, op_aload 0 1), (1, op_iload 1 2), (2, op_call 148 2 5), (5, op_ifeq 22 8), (8, op_iload 2 9), (9, op_i2l 10), (10, op_push (zl (-1)) 13), (13, op_push (zl 100) 16), (16, op_call 146 3 19), (19, op_ifne 29 22), (22, op_aload 0 23), (23, op_push (zi (-2)) 25), (25, op_call 145 2 28), (28, op_iret), (29, op_aload 0 30), (30, op_getR L 6 10 33), (33, op_iload 1 34), (34, op_aald L 35), (35, op_push (zi 4) 36), (36, op_iald L 37), (37, op_istore 3 38), (38, op_aload 0 39), (39, op_getR L 6 10 42), (42, op_iload 1 43), (43, op_aald L 44), (44, op_push (zi 4) 45), (45, op_iload 2 46), (46, op_iast L 47), (47, op_iload 3 48), (48, op_iret)] := ⟨sn_aload_n d165_0 rfl, sn_iload_n d165_1 rfl, kV_148 wm_6_127 d165_2, sn_ifeq d165_5 (by decide), sn_iload_n d165_8 rfl, sn_i2l d165_9, sn_ldc2 d165_10 wl_6_130, sn_ldc2 d165_13 wl_6_115, kS_146 wm_6_76 d165_16, sn_ifne d165_19 (by decide), sn_aload_n d165_22 rfl, sn_bipush d165_23 (by decide), kV_145 wm_6_91 d165_25, sn_iret d165_28 rfl, sn_aload_n d165_29 rfl, sn_getR (by decide) fi_6_10.1 fi_6_10.2 wf_6_39 d165_30, sn_iload_n d165_33 rfl, sn_aald d165_34, sn_iconst d165_35 (by decide), sn_iald d165_36, sn_istore_n (eb_hlg (Or.inl rfl)) hn165_3 d165_37 rfl, sn_aload_n d165_38 rfl, sn_getR (by decide) fi_6_10.1 fi_6_10.2 wf_6_39 d165_39, sn_iload_n d165_42 rfl, sn_aald d165_43, sn_iconst d165_44 (by decide), sn_iload_n d165_45 rfl, sn_iast d165_46, sn_iload_n d165_47 rfl, sn_iret d165_48 rfl, trivial⟩
theorem sd165 : ∀ pc, eb_Snd L q0 165 pc (eb_lg 165) (eb_cd L 165 pc) := eb_AS_all (hk165 (L := L)) (sc165_0)
theorem sc166_0 : eb_AS L q0 166 (eb_lg 166) [(0, op_push (zi 0) 1), (1, op_istore 2 2), (2, op_push (zi 0) 3), (3, op_istore 3 4), (4, op_iload 3 5), (5, op_aload 0 6), (6, op_getI L 6 9 9), (9, op_icge 71 12), (12, op_iload 1 13), (13, op_iload 3 14), (14, op_ii (fun x y => x >>> (y &&& 31)) 15), (15, op_push (zi 1) 16), (16, op_ii (· &&& ·) 17), (17, op_ifeq 24 20), (20, op_push (zi 1) 21), (21, op_goto 25), (24, op_push (zi 0) 25), (25, op_istore 4 27), (27, op_aload 0 28), (28, op_getR L 6 10 31), (31, op_iload 3 32), (32, op_aald L 33), (33, op_push (zi 4) 34), (34, op_iload 4 36), (36, op_ifeq 50 39), (39, op_aload 0 40), (40, op_getR L 6 10 43), (43, op_iload 3 44), (44, op_aald L 45), (45, op_push (zi 0) 46), (46, op_iald L 47), (47, op_goto 51), (50, op_push (zi (-1)) 51), (51, op_iast L 52), (52, op_iload 2 53), (53, op_iload 4 55), (55, op_ifeq 62 58), (58, op_push (zi 1) 59), (59, op_goto 63), (62, op_push (zi 0) 63)] := ⟨sn_iconst d166_0 (by decide), sn_istore_n (eb_hlg (Or.inl rfl)) hn166_2 d166_1 rfl, sn_iconst d166_2 (by decide), sn_istore_n (eb_hlg (Or.inl rfl)) hn166_3 d166_3 rfl, sn_iload_n d166_4 rfl, sn_aload_n d166_5 rfl, sn_getI (by decide) fi_6_9.1 fi_6_9.2 wf_6_73 d166_6, sn_icge d166_9 (by decide), sn_iload_n d166_12 rfl, sn_iload_n d166_13 rfl, sn_ishr d166_14, sn_iconst d166_15 (by decide), sn_iand d166_16, sn_ifeq d166_17 (by decide), sn_iconst d166_20 (by decide), sn_goto d166_21 (by decide), sn_iconst d166_24 (by decide), sn_istore (eb_hlg (Or.inl rfl)) hn166_4 d166_25, sn_aload_n d166_27 rfl, sn_getR (by decide) fi_6_10.1 fi_6_10.2 wf_6_39 d166_28, sn_iload_n d166_31 rfl, sn_aald d166_32, sn_iconst d166_33 (by decide), sn_iload d166_34, sn_ifeq d166_36 (by decide), sn_aload_n d166_39 rfl, sn_getR (by decide) fi_6_10.1 fi_6_10.2 wf_6_39 d166_40, sn_iload_n d166_43 rfl, sn_aald d166_44, sn_iconst d166_45 (by decide), sn_iald d166_46, sn_goto d166_47 (by decide), sn_iconst d166_50 (by decide), sn_iast d166_51, sn_iload_n d166_52 rfl, sn_iload d166_53, sn_ifeq d166_55 (by decide), sn_iconst d166_58 (by decide), sn_goto d166_59 (by decide), sn_iconst d166_62 (by decide), trivial⟩
theorem sc166_1 : eb_AS L q0 166 (eb_lg 166) [(63, op_ii (· + ·) 64), (64, op_istore 2 65), (65, op_iinc 3 1 68), (68, op_goto 4), (71, op_aload 0 72), (72, op_push (zi 0) 73), (73, op_putI L 6 13 76), (76, op_iload 2 77), (77, op_iret)] := ⟨sn_iadd d166_63, sn_istore_n (eb_hlg (Or.inl rfl)) hn166_2 d166_64 rfl, sn_iinc (eb_hlg (Or.inl rfl)) hn166_3 d166_65 (by decide), sn_goto d166_68 (by decide), sn_aload_n d166_71 rfl, sn_iconst d166_72 (by decide), sn_putI (by decide) fi_6_13.1 fi_6_13.2 wf_6_132 (Or.inl rfl) fp_6_13 d166_73, sn_iload_n d166_76 rfl, sn_iret d166_77 rfl, trivial⟩
theorem sd166 : ∀ pc, eb_Snd L q0 166 pc (eb_lg 166) (eb_cd L 166 pc) := eb_AS_all (hk166 (L := L)) (eb_AS_app sc166_0 (sc166_1))
theorem sc167_0 : eb_AS L q0 167 (eb_lg 167) [(0, op_iload 1 1), (1, op_i2l 2), (2, op_push (zl 0) 3), (3, op_push (zi 1) 4), (4, op_aload 0 5), (5, op_getI L 6 9 8), (8, op_ii (fun x y => x <<< (y &&& 31)) 9), (9, op_push (zi 1) 10), (10, op_ii (· - ·) 11), (11, op_i2l 12), (12, op_call 146 3 15), (15, op_zret)] := ⟨sn_iload_n d167_0 rfl, sn_i2l d167_1, sn_lconst d167_2 (by decide), sn_iconst d167_3 (by decide), sn_aload_n d167_4 rfl, sn_getI (by decide) fi_6_9.1 fi_6_9.2 wf_6_73 d167_5, sn_ishl d167_8, sn_iconst d167_9 (by decide), sn_isub d167_10, sn_i2l d167_11, kS_146 wm_6_76 d167_12, sn_zret d167_15 rfl, trivial⟩
theorem sd167 : ∀ pc, eb_Snd L q0 167 pc (eb_lg 167) (eb_cd L 167 pc) := eb_AS_all (hk167 (L := L)) (sc167_0)
theorem sc168_0 : eb_AS L q0 168 (eb_lg 168) [(0, op_aload 0 1), (1, op_iload 1 2), (2, op_call 167 2 5), (5, op_ifeq 16 8), (8, op_aload 0 9), (9, op_iload 1 10), (10, op_call 166 2 13), (13, op_goto 22), (16, op_aload 0 17), (17, op_push (zi (-2)) 19), (19, op_call 145 2 22), (22, op_iret)] := ⟨sn_aload_n d168_0 rfl, sn_iload_n d168_1 rfl, kV_167 wm_6_135 d168_2, sn_ifeq d168_5 (by decide), sn_aload_n d168_8 rfl, sn_iload_n d168_9 rfl, kV_166 wm_6_138 d168_10, sn_goto d168_13 (by decide), sn_aload_n d168_16 rfl, sn_bipush d168_17 (by decide), kV_145 wm_6_91 d168_19, sn_iret d168_22 rfl, trivial⟩
theorem sd168 : ∀ pc, eb_Snd L q0 168 pc (eb_lg 168) (eb_cd L 168 pc) := eb_AS_all (hk168 (L := L)) (sc168_0)
theorem sc169_0 : eb_AS L q0 169 (eb_lg 169) [(0, op_aload 0 1), (1, op_getR L 6 10 4), (4, op_iload 1 5), (5, op_aald L 6), (6, op_push (zi 5) 7), (7, op_iald L 8), (8, op_push (zi 99) 10), (10, op_icge 38 13), (13, op_aload 0 14), (14, op_getR L 6 10 17), (17, op_iload 1 18), (18, op_aald L 19), (19, op_push (zi 5) 20), (20, op_dup2 21), (21, op_iald L 22), (22, op_push (zi 1) 23), (23, op_ii (· + ·) 24), (24, op_iast L 25), (25, op_aload 0 26), (26, op_getR L 6 10 29), (29, op_iload 1 30), (30, op_aald L 31), (31, op_push (zi 6) 33), (33, op_dup2 34), (34, op_iald L 35), (35, op_iload 2 36), (36, op_ii (· + ·) 37), (37, op_iast L 38), (38, op_vret)] := ⟨sn_aload_n d169_0 rfl, sn_getR (by decide) fi_6_10.1 fi_6_10.2 wf_6_39 d169_1, sn_iload_n d169_4 rfl, sn_aald d169_5, sn_iconst d169_6 (by decide), sn_iald d169_7, sn_bipush d169_8 (by decide), sn_icge d169_10 (by decide), sn_aload_n d169_13 rfl, sn_getR (by decide) fi_6_10.1 fi_6_10.2 wf_6_39 d169_14, sn_iload_n d169_17 rfl, sn_aald d169_18, sn_iconst d169_19 (by decide), sn_dup2 d169_20, sn_iald d169_21, sn_iconst d169_22 (by decide), sn_iadd d169_23, sn_iast d169_24, sn_aload_n d169_25 rfl, sn_getR (by decide) fi_6_10.1 fi_6_10.2 wf_6_39 d169_26, sn_iload_n d169_29 rfl, sn_aald d169_30, sn_bipush d169_31 (by decide), sn_dup2 d169_33, sn_iald d169_34, sn_iload_n d169_35 rfl, sn_iadd d169_36, sn_iast d169_37, sn_vret d169_38 rfl, trivial⟩
theorem sd169 : ∀ pc, eb_Snd L q0 169 pc (eb_lg 169) (eb_cd L 169 pc) := eb_AS_all (hk169 (L := L)) (sc169_0)
theorem sc170_0 : eb_AS L q0 170 (eb_lg 170) [(0, op_aload 0 1), (1, op_iload 1 2), (2, op_call 148 2 5), (5, op_ifeq 20 8), (8, op_iload 2 9), (9, op_i2l 10), (10, op_push (zl 0) 11), (11, op_push (zl 100) 14), (14, op_call 146 3 17), (17, op_ifne 27 20), (20, op_aload 0 21), (21, op_push (zi (-2)) 23), (23, op_call 145 2 26), (26, op_iret), (27, op_aload 0 28), (28, op_getR L 6 10 31), (31, op_iload 1 32), (32, op_aald L 33), (33, op_push (zi 5) 34), (34, op_iald L 35), (35, op_push (zi 99) 37), (37, op_icne 47 40), (40, op_aload 0 41), (41, op_push (zi (-6)) 43), (43, op_call 145 2 46), (46, op_iret), (47, op_aload 0 48), (48, op_iload 1 49), (49, op_iload 2 50), (50, op_callv 169 3 53), (53, op_aload 0 54), (54, op_getR L 6 10 57), (57, op_iload 1 58), (58, op_aald L 59), (59, op_push (zi 5) 60), (60, op_iald L 61), (61, op_iret)] := ⟨sn_aload_n d170_0 rfl, sn_iload_n d170_1 rfl, kV_148 wm_6_127 d170_2, sn_ifeq d170_5 (by decide), sn_iload_n d170_8 rfl, sn_i2l d170_9, sn_lconst d170_10 (by decide), sn_ldc2 d170_11 wl_6_115, kS_146 wm_6_76 d170_14, sn_ifne d170_17 (by decide), sn_aload_n d170_20 rfl, sn_bipush d170_21 (by decide), kV_145 wm_6_91 d170_23, sn_iret d170_26 rfl, sn_aload_n d170_27 rfl, sn_getR (by decide) fi_6_10.1 fi_6_10.2 wf_6_39 d170_28, sn_iload_n d170_31 rfl, sn_aald d170_32, sn_iconst d170_33 (by decide), sn_iald d170_34, sn_bipush d170_35 (by decide), sn_icne d170_37 (by decide), sn_aload_n d170_40 rfl, sn_bipush d170_41 (by decide), kV_145 wm_6_91 d170_43, sn_iret d170_46 rfl, sn_aload_n d170_47 rfl, sn_iload_n d170_48 rfl, sn_iload_n d170_49 rfl, kV_169 wm_6_141 d170_50, sn_aload_n d170_53 rfl, sn_getR (by decide) fi_6_10.1 fi_6_10.2 wf_6_39 d170_54, sn_iload_n d170_57 rfl, sn_aald d170_58, sn_iconst d170_59 (by decide), sn_iald d170_60, sn_iret d170_61 rfl, trivial⟩
theorem sd170 : ∀ pc, eb_Snd L q0 170 pc (eb_lg 170) (eb_cd L 170 pc) := eb_AS_all (hk170 (L := L)) (sc170_0)
theorem sc171_0 : eb_AS L q0 171 (eb_lg 171) [(0, op_iload 1 1), (1, op_i2l 2), (2, op_push (zl 0) 3), (3, op_push (zl 99) 6), (6, op_call 146 3 9), (9, op_ifne 19 12), (12, op_aload 0 13), (13, op_push (zi (-2)) 15), (15, op_call 145 2 18), (18, op_iret), (19, op_aload 0 20), (20, op_getI L 6 13 23), (23, op_istore 2 24), (24, op_aload 0 25), (25, op_iload 1 26), (26, op_putI L 6 13 29), (29, op_iload 2 30), (30, op_iret)] := ⟨sn_iload_n d171_0 rfl, sn_i2l d171_1, sn_lconst d171_2 (by decide), sn_ldc2 d171_3 wl_6_119, kS_146 wm_6_76 d171_6, sn_ifne d171_9 (by decide), sn_aload_n d171_12 rfl, sn_bipush d171_13 (by decide), kV_145 wm_6_91 d171_15, sn_iret d171_18 rfl, sn_aload_n d171_19 rfl, sn_getI (by decide) fi_6_13.1 fi_6_13.2 wf_6_132 d171_20, sn_istore_n (eb_hlg (Or.inl rfl)) hn171_2 d171_23 rfl, sn_aload_n d171_24 rfl, sn_iload_n d171_25 rfl, sn_putI (by decide) fi_6_13.1 fi_6_13.2 wf_6_132 (Or.inl rfl) fp_6_13 d171_26, sn_iload_n d171_29 rfl, sn_iret d171_30 rfl, trivial⟩
theorem sd171 : ∀ pc, eb_Snd L q0 171 pc (eb_lg 171) (eb_cd L 171 pc) := eb_AS_all (hk171 (L := L)) (sc171_0)
theorem sc172_0 : eb_AS L q0 172 (eb_lg 172) [(0, op_aload 0 1), (1, op_iload 1 2), (2, op_call 149 2 5), (5, op_ifeq 20 8), (8, op_iload 2 9), (9, op_i2l 10), (10, op_push (zl 1) 11), (11, op_push (zl 30) 14), (14, op_call 146 3 17), (17, op_ifne 27 20), (20, op_aload 0 21), (21, op_push (zi (-2)) 23), (23, op_call 145 2 26), (26, op_iret), (27, op_aload 0 28), (28, op_getR L 6 12 31), (31, op_iload 1 32), (32, op_aald L 33), (33, op_push (zi 1) 34), (34, op_iald L 35), (35, op_istore 3 36), (36, op_aload 0 37), (37, op_getR L 6 12 40), (40, op_iload 1 41), (41, op_aald L 42), (42, op_push (zi 1) 43), (43, op_iload 2 44), (44, op_iast L 45), (45, op_iload 3 46), (46, op_iret)] := ⟨sn_aload_n d172_0 rfl, sn_iload_n d172_1 rfl, kV_149 wm_6_102 d172_2, sn_ifeq d172_5 (by decide), sn_iload_n d172_8 rfl, sn_i2l d172_9, sn_lconst d172_10 (by decide), sn_ldc2 d172_11 wl_6_125, kS_146 wm_6_76 d172_14, sn_ifne d172_17 (by decide), sn_aload_n d172_20 rfl, sn_bipush d172_21 (by decide), kV_145 wm_6_91 d172_23, sn_iret d172_26 rfl, sn_aload_n d172_27 rfl, sn_getR (by decide) fi_6_12.1 fi_6_12.2 wf_6_42 d172_28, sn_iload_n d172_31 rfl, sn_aald d172_32, sn_iconst d172_33 (by decide), sn_iald d172_34, sn_istore_n (eb_hlg (Or.inl rfl)) hn172_3 d172_35 rfl, sn_aload_n d172_36 rfl, sn_getR (by decide) fi_6_12.1 fi_6_12.2 wf_6_42 d172_37, sn_iload_n d172_40 rfl, sn_aald d172_41, sn_iconst d172_42 (by decide), sn_iload_n d172_43 rfl, sn_iast d172_44, sn_iload_n d172_45 rfl, sn_iret d172_46 rfl, trivial⟩
theorem sd172 : ∀ pc, eb_Snd L q0 172 pc (eb_lg 172) (eb_cd L 172 pc) := eb_AS_all (hk172 (L := L)) (sc172_0)
theorem sc173_0 : eb_AS L q0 173 (eb_lg 173) [(0, op_iload 1 1), (1, op_i2l 2), (2, op_push (zl 0) 3), (3, op_push (zl 255) 6), (6, op_call 146 3 9), (9, op_ifne 19 12), (12, op_aload 0 13), (13, op_push (zi (-2)) 15), (15, op_call 145 2 18), (18, op_iret), (19, op_aload 0 20), (20, op_getI L 6 7 23), (23, op_push (zi 250) 26), (26, op_icne 36 29), (29, op_aload 0 30), (30, op_push (zi (-6)) 32), (32, op_call 145 2 35), (35, op_iret), (36, op_aload 0 37), (37, op_getR L 6 6 40), (40, op_aload 0 41), (41, op_dup 42), (42, op_getI L 6 7 45), (45, op_dup_x1 46), (46, op_push (zi 1) 47), (47, op_ii (· + ·) 48), (48, op_putI L 6 7 51), (51, op_iload 1 52), (52, op_iast L 53), (53, op_aload 0 54), (54, op_getI L 6 7 57), (57, op_iret)] := ⟨sn_iload_n d173_0 rfl, sn_i2l d173_1, sn_lconst d173_2 (by decide), sn_ldc2 d173_3 wl_6_145, kS_146 wm_6_76 d173_6, sn_ifne d173_9 (by decide), sn_aload_n d173_12 rfl, sn_bipush d173_13 (by decide), kV_145 wm_6_91 d173_15, sn_iret d173_18 rfl, sn_aload_n d173_19 rfl, sn_getI (by decide) fi_6_7.1 fi_6_7.2 wf_6_147 d173_20, sn_sipush d173_23 (by decide), sn_icne d173_26 (by decide), sn_aload_n d173_29 rfl, sn_bipush d173_30 (by decide), kV_145 wm_6_91 d173_32, sn_iret d173_35 rfl, sn_aload_n d173_36 rfl, sn_getR (by decide) fi_6_6.1 fi_6_6.2 wf_6_31 d173_37, sn_aload_n d173_40 rfl, sn_dup d173_41, sn_getI (by decide) fi_6_7.1 fi_6_7.2 wf_6_147 d173_42, sn_dup_x1 d173_45, sn_iconst d173_46 (by decide), sn_iadd d173_47, sn_putI (by decide) fi_6_7.1 fi_6_7.2 wf_6_147 (Or.inl rfl) fp_6_7 d173_48, sn_iload_n d173_51 rfl, sn_iast d173_52, sn_aload_n d173_53 rfl, sn_getI (by decide) fi_6_7.1 fi_6_7.2 wf_6_147 d173_54, sn_iret d173_57 rfl, trivial⟩
theorem sd173 : ∀ pc, eb_Snd L q0 173 pc (eb_lg 173) (eb_cd L 173 pc) := eb_AS_all (hk173 (L := L)) (sc173_0)
theorem sc174_0 : eb_AS L q0 174 (eb_lg 174) [(0, op_aload 0 1), (1, op_getI L 6 7 4), (4, op_istore 1 5), (5, op_aload 0 6), (6, op_push (zi 0) 7), (7, op_putI L 6 7 10), (10, op_iload 1 11), (11, op_iret)] := ⟨sn_aload_n d174_0 rfl, sn_getI (by decide) fi_6_7.1 fi_6_7.2 wf_6_147 d174_1, sn_istore_n (eb_hlg (Or.inl rfl)) hn174_1 d174_4 rfl, sn_aload_n d174_5 rfl, sn_iconst d174_6 (by decide), sn_putI (by decide) fi_6_7.1 fi_6_7.2 wf_6_147 (Or.inl rfl) fp_6_7 d174_7, sn_iload_n d174_10 rfl, sn_iret d174_11 rfl, trivial⟩
theorem sd174 : ∀ pc, eb_Snd L q0 174 pc (eb_lg 174) (eb_cd L 174 pc) := eb_AS_all (hk174 (L := L)) (sc174_0)
theorem sc175_0 : eb_AS L q0 175 (eb_lg 175) [(0, op_iload 0 1), (1, op_push (zi 97) 3), (3, op_iclt 16 6), (6, op_iload 0 7), (7, op_push (zi 122) 9), (9, op_icgt 16 12), (12, op_push (zi 1) 13), (13, op_goto 17), (16, op_push (zi 0) 17), (17, op_zret)] := ⟨sn_iload_n d175_0 rfl, sn_bipush d175_1 (by decide), sn_iclt d175_3 (by decide), sn_iload_n d175_6 rfl, sn_bipush d175_7 (by decide), sn_icgt d175_9 (by decide), sn_iconst d175_12 (by decide), sn_goto d175_13 (by decide), sn_iconst d175_16 (by decide), sn_zret d175_17 rfl, trivial⟩
theorem sd175 : ∀ pc, eb_Snd L q0 175 pc (eb_lg 175) (eb_cd L 175 pc) := eb_AS_all (hk175 (L := L)) (sc175_0)
theorem sc176_0 : eb_AS L q0 176 (eb_lg 176) [(0, op_iload 0 1), (1, op_push (zi 48) 3), (3, op_iclt 16 6), (6, op_iload 0 7), (7, op_push (zi 57) 9), (9, op_icgt 16 12), (12, op_push (zi 1) 13), (13, op_goto 17), (16, op_push (zi 0) 17), (17, op_zret)] := ⟨sn_iload_n d176_0 rfl, sn_bipush d176_1 (by decide), sn_iclt d176_3 (by decide), sn_iload_n d176_6 rfl, sn_bipush d176_7 (by decide), sn_icgt d176_9 (by decide), sn_iconst d176_12 (by decide), sn_goto d176_13 (by decide), sn_iconst d176_16 (by decide), sn_zret d176_17 rfl, trivial⟩
theorem sd176 : ∀ pc, eb_Snd L q0 176 pc (eb_lg 176) (eb_cd L 176 pc) := eb_AS_all (hk176 (L := L)) (sc176_0)
theorem sc177_0 : eb_AS L q0 177 (eb_lg 177) [(0, op_aload 0 1), (1, op_getI L 6 18 4), (4, op_aload 0 5), (5, op_getI L 6 7 8), (8, op_icge 38 11), (11, op_aload 0 12), (12, op_getR L 6 6 15), (15, op_aload 0 16), (16, op_getI L 6 18 19), (19, op_iald L 20), (20, op_push (zi 32) 22), (22, op_icne 38 25), (25, op_aload 0 26), (26, op_dup 27), (27, op_getI L 6 18 30), (30, op_push (zi 1) 31), (31, op_ii (· + ·) 32), (32, op_putI L 6 18 35), (35, op_goto 0), (38, op_aload 0 39), (39, op_aload 0 40), (40, op_getI L 6 18 43), (43, op_putI L 6 20 46), (46, op_aload 0 47), (47, op_push (zi 0) 48), (48, op_putI L 6 21 51), (51, op_aload 0 52), (52, op_getI L 6 18 55), (55, op_aload 0 56), (56, op_getI L 6 7 59), (59, op_icne 70 62), (62, op_aload 0 63), (63, op_push (zi 0) 64), (64, op_putI L 6 19 67), (67, op_goto 263), (70, op_aload 0 71), (71, op_getR L 6 6 74), (74, op_aload 0 75), (75, op_getI L 6 18 78), (78, op_iald L 79)] := ⟨sn_aload_n d177_0 rfl, sn_getI (by decide) fi_6_18.1 fi_6_18.2 wf_6_150 d177_1, sn_aload_n d177_4 rfl, sn_getI (by decide) fi_6_7.1 fi_6_7.2 wf_6_147 d177_5, sn_icge d177_8 (by decide), sn_aload_n d177_11 rfl, sn_getR (by decide) fi_6_6.1 fi_6_6.2 wf_6_31 d177_12, sn_aload_n d177_15 rfl, sn_getI (by decide) fi_6_18.1 fi_6_18.2 wf_6_150 d177_16, sn_iald d177_19, sn_bipush d177_20 (by decide), sn_icne d177_22 (by decide), sn_aload_n d177_25 rfl, sn_dup d177_26, sn_getI (by decide) fi_6_18.1 fi_6_18.2 wf_6_150 d177_27, sn_iconst d177_30 (by decide), sn_iadd d177_31, sn_putI (by decide) fi_6_18.1 fi_6_18.2 wf_6_150 (Or.inl rfl) fp_6_18 d177_32, sn_goto d177_35 (by decide), sn_aload_n d177_38 rfl, sn_aload_n d177_39 rfl, sn_getI (by decide) fi_6_18.1 fi_6_18.2 wf_6_150 d177_40, sn_putI (by decide) fi_6_20.1 fi_6_20.2 wf_6_153 (Or.inl rfl) fp_6_20 d177_43, sn_aload_n d177_46 rfl, sn_iconst d177_47 (by decide), sn_putI (by decide) fi_6_21.1 fi_6_21.2 wf_6_156 (Or.inl rfl) fp_6_21 d177_48, sn_aload_n d177_51 rfl, sn_getI (by decide) fi_6_18.1 fi_6_18.2 wf_6_150 d177_52, sn_aload_n d177_55 rfl, sn_getI (by decide) fi_6_7.1 fi_6_7.2 wf_6_147 d177_56, sn_icne d177_59 (by decide), sn_aload_n d177_62 rfl, sn_iconst d177_63 (by decide), sn_putI (by decide) fi_6_19.1 fi_6_19.2 wf_6_159 (Or.inl rfl) fp_6_19 d177_64, sn_goto d177_67 (by decide), sn_aload_n d177_70 rfl, sn_getR (by decide) fi_6_6.1 fi_6_6.2 wf_6_31 d177_71, sn_aload_n d177_74 rfl, sn_getI (by decide) fi_6_18.1 fi_6_18.2 wf_6_150 d177_75, sn_iald d177_78, trivial⟩
theorem sc177_1 : eb_AS L q0 177 (eb_lg 177) [(79, op_call 175 1 82), (82, op_ifeq 129 85), (85, op_aload 0 86), (86, op_push (zi 1) 87), (87, op_putI L 6 19 90), (90, op_aload 0 91), (91, op_getI L 6 18 94), (94, op_aload 0 95), (95, op_getI L 6 7 98), (98, op_icge 263 101), (101, op_aload 0 102), (102, op_getR L 6 6 105), (105, op_aload 0 106), (106, op_getI L 6 18 109), (109, op_iald L 110), (110, op_call 175 1 113), (113, op_ifeq 263 116), (116, op_aload 0 117), (117, op_dup 118), (118, op_getI L 6 18 121), (121, op_push (zi 1) 122), (122, op_ii (· + ·) 123), (123, op_putI L 6 18 126), (126, op_goto 90), (129, op_aload 0 130), (130, op_getR L 6 6 133), (133, op_aload 0 134), (134, op_getI L 6 18 137), (137, op_iald L 138), (138, op_call 176 1 141), (141, op_ifeq 230 144), (144, op_aload 0 145), (145, op_push (zi 2) 146), (146, op_putI L 6 19 149), (149, op_aload 0 150), (150, op_getI L 6 18 153), (153, op_aload 0 154), (154, op_getI L 6 7 157), (157, op_icge 263 160), (160, op_aload 0 161)] := ⟨kS_175 wm_6_162 d177_79, sn_ifeq d177_82 (by decide), sn_aload_n d177_85 rfl, sn_iconst d177_86 (by decide), sn_putI (by decide) fi_6_19.1 fi_6_19.2 wf_6_159 (Or.inl rfl) fp_6_19 d177_87, sn_aload_n d177_90 rfl, sn_getI (by decide) fi_6_18.1 fi_6_18.2 wf_6_150 d177_91, sn_aload_n d177_94 rfl, sn_getI (by decide) fi_6_7.1 fi_6_7.2 wf_6_147 d177_95, sn_icge d177_98 (by decide), sn_aload_n d177_101 rfl, sn_getR (by decide) fi_6_6.1 fi_6_6.2 wf_6_31 d177_102, sn_aload_n d177_105 rfl, sn_getI (by decide) fi_6_18.1 fi_6_18.2 wf_6_150 d177_106, sn_iald d177_109, kS_175 wm_6_162 d177_110, sn_ifeq d177_113 (by decide), sn_aload_n d177_116 rfl, sn_dup d177_117, sn_getI (by decide) fi_6_18.1 fi_6_18.2 wf_6_150 d177_118, sn_iconst d177_121 (by decide), sn_iadd d177_122, sn_putI (by decide) fi_6_18.1 fi_6_18.2 wf_6_150 (Or.inl rfl) fp_6_18 d177_123, sn_goto d177_126 (by decide), sn_aload_n d177_129 rfl, sn_getR (by decide) fi_6_6.1 fi_6_6.2 wf_6_31 d177_130, sn_aload_n d177_133 rfl, sn_getI (by decide) fi_6_18.1 fi_6_18.2 wf_6_150 d177_134, sn_iald d177_137, kS_176 wm_6_165 d177_138, sn_ifeq d177_141 (by decide), sn_aload_n d177_144 rfl, sn_iconst d177_145 (by decide), sn_putI (by decide) fi_6_19.1 fi_6_19.2 wf_6_159 (Or.inl rfl) fp_6_19 d177_146, sn_aload_n d177_149 rfl, sn_getI (by decide) fi_6_18.1 fi_6_18.2 wf_6_150 d177_150, sn_aload_n d177_153 rfl, sn_getI (by decide) fi_6_7.1 fi_6_7.2 wf_6_147 d177_154, sn_icge d177_157 (by decide), sn_aload_n d177_160 rfl, trivial⟩
theorem sc177_2 : eb_AS L q0 177 (eb_lg 177) [(161, op_getR L 6 6 164), (164, op_aload 0 165), (165, op_getI L 6 18 168), (168, op_iald L 169), (169, op_call 176 1 172), (172, op_ifeq 263 175), (175, op_aload 0 176), (176, op_aload 0 177), (177, op_getI L 6 18 180), (180, op_aload 0 181), (181, op_getI L 6 20 184), (184, op_ii (· - ·) 185), (185, op_push (zi 3) 186), (186, op_icge 212 189), (189, op_aload 0 190), (190, op_getI L 6 21 193), (193, op_push (zi 10) 195), (195, op_ii (· * ·) 196), (196, op_aload 0 197), (197, op_getR L 6 6 200), (200, op_aload 0 201), (201, op_getI L 6 18 204), (204, op_iald L 205), (205, op_ii (· + ·) 206), (206, op_push (zi 48) 208), (208, op_ii (· - ·) 209), (209, op_goto 214), (212, op_push (zi 100000) 214), (214, op_putI L 6 21 217), (217, op_aload 0 218), (218, op_dup 219), (219, op_getI L 6 18 222), (222, op_push (zi 1) 223), (223, op_ii (· + ·) 224), (224, op_putI L 6 18 227), (227, op_goto 149), (230, op_aload 0 231), (231, op_aload 0 232), (232, op_getR L 6 6 235), (235, op_aload 0 236)] := ⟨sn_getR (by decide) fi_6_6.1 fi_6_6.2 wf_6_31 d177_161, sn_aload_n d177_164 rfl, sn_getI (by decide) fi_6_18.1 fi_6_18.2 wf_6_150 d177_165, sn_iald d177_168, kS_176 wm_6_165 d177_169, sn_ifeq d177_172 (by decide), sn_aload_n d177_175 rfl, sn_aload_n d177_176 rfl, sn_getI (by decide) fi_6_18.1 fi_6_18.2 wf_6_150 d177_177, sn_aload_n d177_180 rfl, sn_getI (by decide) fi_6_20.1 fi_6_20.2 wf_6_153 d177_181, sn_isub d177_184, sn_iconst d177_185 (by decide), sn_icge d177_186 (by decide), sn_aload_n d177_189 rfl, sn_getI (by decide) fi_6_21.1 fi_6_21.2 wf_6_156 d177_190, sn_bipush d177_193 (by decide), sn_imul d177_195, sn_aload_n d177_196 rfl, sn_getR (by decide) fi_6_6.1 fi_6_6.2 wf_6_31 d177_197, sn_aload_n d177_200 rfl, sn_getI (by decide) fi_6_18.1 fi_6_18.2 wf_6_150 d177_201, sn_iald d177_204, sn_iadd d177_205, sn_bipush d177_206 (by decide), sn_isub d177_208, sn_goto d177_209 (by decide), sn_ldc d177_212 wk_6_168, sn_putI (by decide) fi_6_21.1 fi_6_21.2 wf_6_156 (Or.inl rfl) fp_6_21 d177_214, sn_aload_n d177_217 rfl, sn_dup d177_218, sn_getI (by decide) fi_6_18.1 fi_6_18.2 wf_6_150 d177_219, sn_iconst d177_222 (by decide), sn_iadd d177_223, sn_putI (by decide) fi_6_18.1 fi_6_18.2 wf_6_150 (Or.inl rfl) fp_6_18 d177_224, sn_goto d177_227 (by decide), sn_aload_n d177_230 rfl, sn_aload_n d177_231 rfl, sn_getR (by decide) fi_6_6.1 fi_6_6.2 wf_6_31 d177_232, sn_aload_n d177_235 rfl, trivial⟩
theorem sc177_3 : eb_AS L q0 177 (eb_lg 177) [(236, op_getI L 6 18 239), (239, op_iald L 240), (240, op_push (zi 59) 242), (242, op_icne 249 245), (245, op_push (zi 3) 246), (246, op_goto 250), (249, op_push (zi 4) 250), (250, op_putI L 6 19 253), (253, op_aload 0 254), (254, op_dup 255), (255, op_getI L 6 18 258), (258, op_push (zi 1) 259), (259, op_ii (· + ·) 260), (260, op_putI L 6 18 263), (263, op_vret)] := ⟨sn_getI (by decide) fi_6_18.1 fi_6_18.2 wf_6_150 d177_236, sn_iald d177_239, sn_bipush d177_240 (by decide), sn_icne d177_242 (by decide), sn_iconst d177_245 (by decide), sn_goto d177_246 (by decide), sn_iconst d177_249 (by decide), sn_putI (by decide) fi_6_19.1 fi_6_19.2 wf_6_159 (Or.inl rfl) fp_6_19 d177_250, sn_aload_n d177_253 rfl, sn_dup d177_254, sn_getI (by decide) fi_6_18.1 fi_6_18.2 wf_6_150 d177_255, sn_iconst d177_258 (by decide), sn_iadd d177_259, sn_putI (by decide) fi_6_18.1 fi_6_18.2 wf_6_150 (Or.inl rfl) fp_6_18 d177_260, sn_vret d177_263 rfl, trivial⟩
theorem sd177 : ∀ pc, eb_Snd L q0 177 pc (eb_lg 177) (eb_cd L 177 pc) := eb_AS_all (hk177 (L := L)) (eb_AS_app sc177_0 (eb_AS_app sc177_1 (eb_AS_app sc177_2 (sc177_3))))
theorem sc178_0 : eb_AS L q0 178 (eb_lg 178) [(0, op_aload 0 1), (1, op_aload 0 2), (2, op_getI L 6 20 5), (5, op_putI L 6 22 8), (8, op_push (zi 0) 9), (9, op_zret)] := ⟨sn_aload_n d178_0 rfl, sn_aload_n d178_1 rfl, sn_getI (by decide) fi_6_20.1 fi_6_20.2 wf_6_153 d178_2, sn_putI (by decide) fi_6_22.1 fi_6_22.2 wf_6_169 (Or.inl rfl) fp_6_22 d178_5, sn_iconst d178_8 (by decide), sn_zret d178_9 rfl, trivial⟩
theorem sd178 : ∀ pc, eb_Snd L q0 178 pc (eb_lg 178) (eb_cd L 178 pc) := eb_AS_all (hk178 (L := L)) (sc178_0)
theorem sc179_0 : eb_AS L q0 179 (eb_lg 179) [(0, op_aload 0 1), (1, op_getI L 6 19 4), (4, op_push (zi 1) 5), (5, op_icne 24 8), (8, op_aload 0 9), (9, op_getI L 6 18 12), (12, op_aload 0 13), (13, op_getI L 6 20 16), (16, op_ii (· - ·) 17), (17, op_aload 1 18), (18, op_call 905 1 21), (21, op_iceq 26 24), (24, op_push (zi 0) 25), (25, op_zret), (26, op_push (zi 0) 27), (27, op_istore 2 28), (28, op_iload 2 29), (29, op_aload 1 30), (30, op_call 905 1 33), (33, op_icge 63 36), (36, op_aload 0 37), (37, op_getR L 6 6 40), (40, op_aload 0 41), (41, op_getI L 6 20 44), (44, op_iload 2 45), (45, op_ii (· + ·) 46), (46, op_iald L 47), (47, op_aload 1 48), (48, op_iload 2 49), (49, op_call 906 2 52), (52, op_iceq 57 55), (55, op_push (zi 0) 56), (56, op_zret), (57, op_iinc 2 1 60), (60, op_goto 28), (63, op_push (zi 1) 64), (64, op_zret)] := ⟨sn_aload_n d179_0 rfl, sn_getI (by decide) fi_6_19.1 fi_6_19.2 wf_6_159 d179_1, sn_iconst d179_4 (by decide), sn_icne d179_5 (by decide), sn_aload_n d179_8 rfl, sn_getI (by decide) fi_6_18.1 fi_6_18.2 wf_6_150 d179_9, sn_aload_n d179_12 rfl, sn_getI (by decide) fi_6_20.1 fi_6_20.2 wf_6_153 d179_13, sn_isub d179_16, sn_aload_n d179_17 rfl, sn_len wm_6_172 d179_18, sn_iceq d179_21 (by decide), sn_iconst d179_24 (by decide), sn_zret d179_25 rfl, sn_iconst d179_26 (by decide), sn_istore_n (eb_hlg (Or.inl rfl)) hn179_2 d179_27 rfl, sn_iload_n d179_28 rfl, sn_aload_n d179_29 rfl, sn_len wm_6_172 d179_30, sn_icge d179_33 (by decide), sn_aload_n d179_36 rfl, sn_getR (by decide) fi_6_6.1 fi_6_6.2 wf_6_31 d179_37, sn_aload_n d179_40 rfl, sn_getI (by decide) fi_6_20.1 fi_6_20.2 wf_6_153 d179_41, sn_iload_n d179_44 rfl, sn_iadd d179_45, sn_iald d179_46, sn_aload_n d179_47 rfl, sn_iload_n d179_48 rfl, sn_at wm_6_178 d179_49, sn_iceq d179_52 (by decide), sn_iconst d179_55 (by decide), sn_zret d179_56 rfl, sn_iinc (eb_hlg (Or.inl rfl)) hn179_2 d179_57 (by decide), sn_goto d179_60 (by decide), sn_iconst d179_63 (by decide), sn_zret d179_64 rfl, trivial⟩
theorem sd179 : ∀ pc, eb_Snd L q0 179 pc (eb_lg 179) (eb_cd L 179 pc) := eb_AS_all (hk179 (L := L)) (sc179_0)
theorem sc180_0 : eb_AS L q0 180 (eb_lg 180) [(0, op_aload 0 1), (1, op_getI L 6 19 4), (4, op_push (zi 2) 5), (5, op_icne 23 8), (8, op_aload 0 9), (9, op_getI L 6 21 12), (12, op_i2l 13), (13, op_iload 2 14), (14, op_i2l 15), (15, op_iload 3 16), (16, op_i2l 17), (17, op_call 146 3 20), (20, op_ifne 28 23), (23, op_aload 0 24), (24, op_call 178 1 27), (27, op_zret), (28, op_aload 0 29), (29, op_getR L 6 23 32), (32, op_iload 1 33), (33, op_aload 0 34), (34, op_getI L 6 21 37), (37, op_iast L 38), (38, op_aload 0 39), (39, op_callv 177 1 42), (42, op_push (zi 1) 43), (43, op_zret)] := ⟨sn_aload_n d180_0 rfl, sn_getI (by decide) fi_6_19.1 fi_6_19.2 wf_6_159 d180_1, sn_iconst d180_4 (by decide), sn_icne d180_5 (by decide), sn_aload_n d180_8 rfl, sn_getI (by decide) fi_6_21.1 fi_6_21.2 wf_6_156 d180_9, sn_i2l d180_12, sn_iload_n d180_13 rfl, sn_i2l d180_14, sn_iload_n d180_15 rfl, sn_i2l d180_16, kS_146 wm_6_76 d180_17, sn_ifne d180_20 (by decide), sn_aload_n d180_23 rfl, kV_178 wm_6_182 d180_24, sn_zret d180_27 rfl, sn_aload_n d180_28 rfl, sn_getR (by decide) fi_6_23.1 fi_6_23.2 wf_6_49 d180_29, sn_iload_n d180_32 rfl, sn_aload_n d180_33 rfl, sn_getI (by decide) fi_6_21.1 fi_6_21.2 wf_6_156 d180_34, sn_iast d180_37, sn_aload_n d180_38 rfl, kV_177 wm_6_186 d180_39, sn_iconst d180_42 (by decide), sn_zret d180_43 rfl, trivial⟩
theorem sd180 : ∀ pc, eb_Snd L q0 180 pc (eb_lg 180) (eb_cd L 180 pc) := eb_AS_all (hk180 (L := L)) (sc180_0)
theorem sc181_0 : eb_AS L q0 181 (eb_lg 181) [(0, op_aload 0 1), (1, op_callv 177 1 4), (4, op_aload 0 5), (5, op_push (zi 0) 6), (6, op_iload 1 7), (7, op_iload 2 8), (8, op_call 180 4 11), (11, op_zret)] := ⟨sn_aload_n d181_0 rfl, kV_177 wm_6_186 d181_1, sn_aload_n d181_4 rfl, sn_iconst d181_5 (by decide), sn_iload_n d181_6 rfl, sn_iload_n d181_7 rfl, kV_180 wm_6_189 d181_8, sn_zret d181_11 rfl, trivial⟩
theorem sd181 : ∀ pc, eb_Snd L q0 181 pc (eb_lg 181) (eb_cd L 181 pc) := eb_AS_all (hk181 (L := L)) (sc181_0)
theorem sc182_0 : eb_AS L q0 182 (eb_lg 182) [(0, op_aload 0 1), (1, op_push (zi 0) 2), (2, op_push (zi 100) 4), (4, op_call 181 3 7), (7, op_ifeq 32 10), (10, op_aload 0 11), (11, op_push (zi 1) 12), (12, op_push (zi 1) 13), (13, op_push (zi 20) 15), (15, op_call 180 4 18), (18, op_ifeq 32 21), (21, op_aload 0 22), (22, op_push (zi 2) 23), (23, op_push (zi 0) 24), (24, op_push (zi 99) 26), (26, op_call 180 4 29), (29, op_ifne 34 32), (32, op_push (zi 0) 33), (33, op_zret), (34, op_aload 0 35), (35, op_getR L 6 23 38), (38, op_push (zi 0) 39), (39, op_iald L 40), (40, op_istore 1 41), (41, op_push (zi (-1)) 42), (42, op_istore 2 43), (43, op_aload 0 44), (44, op_push (zr (50, 11, 0)) 46), (46, op_call 179 2 49), (49, op_ifeq 71 52), (52, op_aload 0 53), (53, op_push (zi 0) 54), (54, op_push (zi 100) 56), (56, op_call 181 3 59), (59, op_ifne 64 62), (62, op_push (zi 0) 63), (63, op_zret), (64, op_aload 0 65), (65, op_getR L 6 23 68), (68, op_push (zi 0) 69)] := ⟨sn_aload_n d182_0 rfl, sn_iconst d182_1 (by decide), sn_bipush d182_2 (by decide), kV_181 wm_6_193 d182_4, sn_ifeq d182_7 (by decide), sn_aload_n d182_10 rfl, sn_iconst d182_11 (by decide), sn_iconst d182_12 (by decide), sn_bipush d182_13 (by decide), kV_180 wm_6_189 d182_15, sn_ifeq d182_18 (by decide), sn_aload_n d182_21 rfl, sn_iconst d182_22 (by decide), sn_iconst d182_23 (by decide), sn_bipush d182_24 (by decide), kV_180 wm_6_189 d182_26, sn_ifne d182_29 (by decide), sn_iconst d182_32 (by decide), sn_zret d182_33 rfl, sn_aload_n d182_34 rfl, sn_getR (by decide) fi_6_23.1 fi_6_23.2 wf_6_49 d182_35, sn_iconst d182_38 (by decide), sn_iald d182_39, sn_istore_n (eb_hlg (Or.inl rfl)) hn182_1 d182_40 rfl, sn_iconst d182_41 (by decide), sn_istore_n (eb_hlg (Or.inl rfl)) hn182_2 d182_42 rfl, sn_aload_n d182_43 rfl, sn_ldcS (i := 11) (by decide) d182_44 ⟨rfl, rfl⟩, kV_179 wm_6_198 d182_46, sn_ifeq d182_49 (by decide), sn_aload_n d182_52 rfl, sn_iconst d182_53 (by decide), sn_bipush d182_54 (by decide), kV_181 wm_6_193 d182_56, sn_ifne d182_59 (by decide), sn_iconst d182_62 (by decide), sn_zret d182_63 rfl, sn_aload_n d182_64 rfl, sn_getR (by decide) fi_6_23.1 fi_6_23.2 wf_6_49 d182_65, sn_iconst d182_68 (by decide), trivial⟩
theorem sc182_1 : eb_AS L q0 182 (eb_lg 182) [(69, op_iald L 70), (70, op_istore 2 71), (71, op_aload 0 72), (72, op_iload 1 73), (73, op_aload 0 74), (74, op_getR L 6 23 77), (77, op_push (zi 1) 78), (78, op_iald L 79), (79, op_aload 0 80), (80, op_getR L 6 23 83), (83, op_push (zi 2) 84), (84, op_iald L 85), (85, op_iload 2 86), (86, op_callv 161 5 89), (89, op_push (zi 1) 90), (90, op_zret)] := ⟨sn_iald d182_69, sn_istore_n (eb_hlg (Or.inl rfl)) hn182_2 d182_70 rfl, sn_aload_n d182_71 rfl, sn_iload_n d182_72 rfl, sn_aload_n d182_73 rfl, sn_getR (by decide) fi_6_23.1 fi_6_23.2 wf_6_49 d182_74, sn_iconst d182_77 (by decide), sn_iald d182_78, sn_aload_n d182_79 rfl, sn_getR (by decide) fi_6_23.1 fi_6_23.2 wf_6_49 d182_80, sn_iconst d182_83 (by decide), sn_iald d182_84, sn_iload_n d182_85 rfl, kV_161 wm_6_121 d182_86, sn_iconst d182_89 (by decide), sn_zret d182_90 rfl, trivial⟩
theorem sd182 : ∀ pc, eb_Snd L q0 182 pc (eb_lg 182) (eb_cd L 182 pc) := eb_AS_all (hk182 (L := L)) (eb_AS_app sc182_0 (sc182_1))
theorem sc183_0 : eb_AS L q0 183 (eb_lg 183) [(0, op_aload 0 1), (1, op_callv 177 1 4), (4, op_aload 0 5), (5, op_getI L 6 19 8), (8, op_push (zi 2) 9), (9, op_icne 44 12), (12, op_aload 0 13), (13, op_getI L 6 21 16), (16, op_aload 0 17), (17, op_getI L 6 9 20), (20, op_icge 44 23), (23, op_aload 0 24), (24, op_getR L 6 10 27), (27, op_aload 0 28), (28, op_getI L 6 21 31), (31, op_aald L 32), (32, op_push (zi 5) 33), (33, op_iald L 34), (34, op_push (zi 99) 36), (36, op_icne 44 39), (39, op_aload 0 40), (40, op_call 178 1 43), (43, op_zret), (44, op_aload 0 45), (45, op_push (zi 0) 46), (46, op_push (zi 0) 47), (47, op_aload 0 48), (48, op_getI L 6 9 51), (51, op_push (zi 1) 52), (52, op_ii (· - ·) 53), (53, op_call 180 4 56), (56, op_ifeq 70 59), (59, op_aload 0 60), (60, op_push (zi 1) 61), (61, op_push (zi 0) 62), (62, op_push (zi 100) 64), (64, op_call 180 4 67), (67, op_ifne 72 70), (70, op_push (zi 0) 71), (71, op_zret)] := ⟨sn_aload_n d183_0 rfl, kV_177 wm_6_186 d183_1, sn_aload_n d183_4 rfl, sn_getI (by decide) fi_6_19.1 fi_6_19.2 wf_6_159 d183_5, sn_iconst d183_8 (by decide), sn_icne d183_9 (by decide), sn_aload_n d183_12 rfl, sn_getI (by decide) fi_6_21.1 fi_6_21.2 wf_6_156 d183_13, sn_aload_n d183_16 rfl, sn_getI (by decide) fi_6_9.1 fi_6_9.2 wf_6_73 d183_17, sn_icge d183_20 (by decide), sn_aload_n d183_23 rfl, sn_getR (by decide) fi_6_10.1 fi_6_10.2 wf_6_39 d183_24, sn_aload_n d183_27 rfl, sn_getI (by decide) fi_6_21.1 fi_6_21.2 wf_6_156 d183_28, sn_aald d183_31, sn_iconst d183_32 (by decide), sn_iald d183_33, sn_bipush d183_34 (by decide), sn_icne d183_36 (by decide), sn_aload_n d183_39 rfl, kV_178 wm_6_182 d183_40, sn_zret d183_43 rfl, sn_aload_n d183_44 rfl, sn_iconst d183_45 (by decide), sn_iconst d183_46 (by decide), sn_aload_n d183_47 rfl, sn_getI (by decide) fi_6_9.1 fi_6_9.2 wf_6_73 d183_48, sn_iconst d183_51 (by decide), sn_isub d183_52, kV_180 wm_6_189 d183_53, sn_ifeq d183_56 (by decide), sn_aload_n d183_59 rfl, sn_iconst d183_60 (by decide), sn_iconst d183_61 (by decide), sn_bipush d183_62 (by decide), kV_180 wm_6_189 d183_64, sn_ifne d183_67 (by decide), sn_iconst d183_70 (by decide), sn_zret d183_71 rfl, trivial⟩
theorem sc183_1 : eb_AS L q0 183 (eb_lg 183) [(72, op_aload 0 73), (73, op_aload 0 74), (74, op_getR L 6 23 77), (77, op_push (zi 0) 78), (78, op_iald L 79), (79, op_aload 0 80), (80, op_getR L 6 23 83), (83, op_push (zi 1) 84), (84, op_iald L 85), (85, op_callv 169 3 88), (88, op_push (zi 1) 89), (89, op_zret)] := ⟨sn_aload_n d183_72 rfl, sn_aload_n d183_73 rfl, sn_getR (by decide) fi_6_23.1 fi_6_23.2 wf_6_49 d183_74, sn_iconst d183_77 (by decide), sn_iald d183_78, sn_aload_n d183_79 rfl, sn_getR (by decide) fi_6_23.1 fi_6_23.2 wf_6_49 d183_80, sn_iconst d183_83 (by decide), sn_iald d183_84, kV_169 wm_6_141 d183_85, sn_iconst d183_88 (by decide), sn_zret d183_89 rfl, trivial⟩
theorem sd183 : ∀ pc, eb_Snd L q0 183 pc (eb_lg 183) (eb_cd L 183 pc) := eb_AS_all (hk183 (L := L)) (eb_AS_app sc183_0 (sc183_1))
theorem sc184_0 : eb_AS L q0 184 (eb_lg 184) [(0, op_aload 0 1), (1, op_callv 177 1 4), (4, op_push (zi 0) 5), (5, op_istore 1 6), (6, op_push (zi 1) 7), (7, op_istore 2 8), (8, op_iload 2 9), (9, op_ifne 20 12), (12, op_aload 0 13), (13, op_getI L 6 19 16), (16, op_push (zi 2) 17), (17, op_icne 86 20), (20, op_push (zi 0) 21), (21, op_istore 2 22), (22, op_aload 0 23), (23, op_getI L 6 19 26), (26, op_push (zi 2) 27), (27, op_icne 52 30), (30, op_aload 0 31), (31, op_getI L 6 21 34), (34, op_aload 0 35), (35, op_getI L 6 9 38), (38, op_icge 52 41), (41, op_iload 1 42), (42, op_aload 0 43), (43, op_getI L 6 21 46), (46, op_ii (fun x y => x >>> (y &&& 31)) 47), (47, op_push (zi 1) 48), (48, op_ii (· &&& ·) 49), (49, op_ifne 67 52), (52, op_aload 0 53), (53, op_push (zi 0) 54), (54, op_push (zi 0) 55), (55, op_aload 0 56), (56, op_getI L 6 9 59), (59, op_push (zi 1) 60), (60, op_ii (· - ·) 61), (61, op_call 180 4 64), (64, op_ifne 72 67), (67, op_aload 0 68)] := ⟨sn_aload_n d184_0 rfl, kV_177 wm_6_186 d184_1, sn_iconst d184_4 (by decide), sn_istore_n (eb_hlg (Or.inl rfl)) hn184_1 d184_5 rfl, sn_iconst d184_6 (by decide), sn_istore_n (eb_hlg (Or.inl rfl)) hn184_2 d184_7 rfl, sn_iload_n d184_8 rfl, sn_ifne d184_9 (by decide), sn_aload_n d184_12 rfl, sn_getI (by decide) fi_6_19.1 fi_6_19.2 wf_6_159 d184_13, sn_iconst d184_16 (by decide), sn_icne d184_17 (by decide), sn_iconst d184_20 (by decide), sn_istore_n (eb_hlg (Or.inl rfl)) hn184_2 d184_21 rfl, sn_aload_n d184_22 rfl, sn_getI (by decide) fi_6_19.1 fi_6_19.2 wf_6_159 d184_23, sn_iconst d184_26 (by decide), sn_icne d184_27 (by decide), sn_aload_n d184_30 rfl, sn_getI (by decide) fi_6_21.1 fi_6_21.2 wf_6_156 d184_31, sn_aload_n d184_34 rfl, sn_getI (by decide) fi_6_9.1 fi_6_9.2 wf_6_73 d184_35, sn_icge d184_38 (by decide), sn_iload_n d184_41 rfl, sn_aload_n d184_42 rfl, sn_getI (by decide) fi_6_21.1 fi_6_21.2 wf_6_156 d184_43, sn_ishr d184_46, sn_iconst d184_47 (by decide), sn_iand d184_48, sn_ifne d184_49 (by decide), sn_aload_n d184_52 rfl, sn_iconst d184_53 (by decide), sn_iconst d184_54 (by decide), sn_aload_n d184_55 rfl, sn_getI (by decide) fi_6_9.1 fi_6_9.2 wf_6_73 d184_56, sn_iconst d184_59 (by decide), sn_isub d184_60, kV_180 wm_6_189 d184_61, sn_ifne d184_64 (by decide), sn_aload_n d184_67 rfl, trivial⟩
theorem sc184_1 : eb_AS L q0 184 (eb_lg 184) [(68, op_call 178 1 71), (71, op_zret), (72, op_iload 1 73), (73, op_push (zi 1) 74), (74, op_aload 0 75), (75, op_getR L 6 23 78), (78, op_push (zi 0) 79), (79, op_iald L 80), (80, op_ii (fun x y => x <<< (y &&& 31)) 81), (81, op_ii (· ||| ·) 82), (82, op_istore 1 83), (83, op_goto 8), (86, op_aload 0 87), (87, op_iload 1 88), (88, op_call 166 2 91), (91, op_pop 92), (92, op_push (zi 1) 93), (93, op_zret)] := ⟨kV_178 wm_6_182 d184_68, sn_zret d184_71 rfl, sn_iload_n d184_72 rfl, sn_iconst d184_73 (by decide), sn_aload_n d184_74 rfl, sn_getR (by decide) fi_6_23.1 fi_6_23.2 wf_6_49 d184_75, sn_iconst d184_78 (by decide), sn_iald d184_79, sn_ishl d184_80, sn_ior d184_81, sn_istore_n (eb_hlg (Or.inl rfl)) hn184_1 d184_82 rfl, sn_goto d184_83 (by decide), sn_aload_n d184_86 rfl, sn_iload_n d184_87 rfl, kV_166 wm_6_138 d184_88, sn_pop d184_91, sn_iconst d184_92 (by decide), sn_zret d184_93 rfl, trivial⟩
theorem sd184 : ∀ pc, eb_Snd L q0 184 pc (eb_lg 184) (eb_cd L 184 pc) := eb_AS_all (hk184 (L := L)) (eb_AS_app sc184_0 (sc184_1))
theorem sc185_0 : eb_AS L q0 185 (eb_lg 185) [(0, op_aload 0 1), (1, op_push (zr (50, 6, 0)) 3), (3, op_call 179 2 6), (6, op_ifeq 23 9), (9, op_aload 0 10), (10, op_getI L 6 9 13), (13, op_push (zi 6) 15), (15, op_icge 23 18), (18, op_aload 0 19), (19, op_call 182 1 22), (22, op_zret), (23, op_aload 0 24), (24, op_push (zr (50, 7, 0)) 26), (26, op_call 179 2 29), (29, op_ifeq 99 32), (32, op_aload 0 33), (33, op_getI L 6 11 36), (36, op_push (zi 6) 38), (38, op_icge 99 41), (41, op_aload 0 42), (42, op_push (zi 0) 43), (43, op_push (zi 5) 44), (44, op_call 181 3 47), (47, op_ifeq 72 50), (50, op_aload 0 51), (51, op_push (zi 1) 52), (52, op_push (zi 1) 53), (53, op_push (zi 30) 55), (55, op_call 180 4 58), (58, op_ifeq 72 61), (61, op_aload 0 62), (62, op_push (zi 2) 63), (63, op_push (zi 0) 64), (64, op_push (zi 99) 66), (66, op_call 180 4 69), (69, op_ifne 74 72), (72, op_push (zi 0) 73), (73, op_zret), (74, op_aload 0 75), (75, op_aload 0 76)] := ⟨sn_aload_n d185_0 rfl, sn_ldcS (i := 6) (by decide) d185_1 ⟨rfl, rfl⟩, kV_179 wm_6_198 d185_3, sn_ifeq d185_6 (by decide), sn_aload_n d185_9 rfl, sn_getI (by decide) fi_6_9.1 fi_6_9.2 wf_6_73 d185_10, sn_bipush d185_13 (by decide), sn_icge d185_15 (by decide), sn_aload_n d185_18 rfl, kV_182 wm_6_203 d185_19, sn_zret d185_22 rfl, sn_aload_n d185_23 rfl, sn_ldcS (i := 7) (by decide) d185_24 ⟨rfl, rfl⟩, kV_179 wm_6_198 d185_26, sn_ifeq d185_29 (by decide), sn_aload_n d185_32 rfl, sn_getI (by decide) fi_6_11.1 fi_6_11.2 wf_6_80 d185_33, sn_bipush d185_36 (by decide), sn_icge d185_38 (by decide), sn_aload_n d185_41 rfl, sn_iconst d185_42 (by decide), sn_iconst d185_43 (by decide), kV_181 wm_6_193 d185_44, sn_ifeq d185_47 (by decide), sn_aload_n d185_50 rfl, sn_iconst d185_51 (by decide), sn_iconst d185_52 (by decide), sn_bipush d185_53 (by decide), kV_180 wm_6_189 d185_55, sn_ifeq d185_58 (by decide), sn_aload_n d185_61 rfl, sn_iconst d185_62 (by decide), sn_iconst d185_63 (by decide), sn_bipush d185_64 (by decide), kV_180 wm_6_189 d185_66, sn_ifne d185_69 (by decide), sn_iconst d185_72 (by decide), sn_zret d185_73 rfl, sn_aload_n d185_74 rfl, sn_aload_n d185_75 rfl, trivial⟩
theorem sc185_1 : eb_AS L q0 185 (eb_lg 185) [(76, op_getR L 6 23 79), (79, op_push (zi 0) 80), (80, op_iald L 81), (81, op_aload 0 82), (82, op_getR L 6 23 85), (85, op_push (zi 1) 86), (86, op_iald L 87), (87, op_aload 0 88), (88, op_getR L 6 23 91), (91, op_push (zi 2) 92), (92, op_iald L 93), (93, op_call 163 4 96), (96, op_pop 97), (97, op_push (zi 1) 98), (98, op_zret), (99, op_aload 0 100), (100, op_push (zr (50, 8, 0)) 102), (102, op_call 179 2 105), (105, op_ifeq 113 108), (108, op_aload 0 109), (109, op_call 183 1 112), (112, op_zret), (113, op_aload 0 114), (114, op_push (zr (50, 10, 0)) 116), (116, op_call 179 2 119), (119, op_ifeq 127 122), (122, op_aload 0 123), (123, op_call 184 1 126), (126, op_zret), (127, op_aload 0 128), (128, op_push (zr (50, 9, 0)) 130), (130, op_call 179 2 133), (133, op_ifne 141 136), (136, op_aload 0 137), (137, op_call 178 1 140), (140, op_zret), (141, op_aload 0 142), (142, op_push (zi 0) 143), (143, op_push (zi 99) 145), (145, op_call 181 3 148)] := ⟨sn_getR (by decide) fi_6_23.1 fi_6_23.2 wf_6_49 d185_76, sn_iconst d185_79 (by decide), sn_iald d185_80, sn_aload_n d185_81 rfl, sn_getR (by decide) fi_6_23.1 fi_6_23.2 wf_6_49 d185_82, sn_iconst d185_85 (by decide), sn_iald d185_86, sn_aload_n d185_87 rfl, sn_getR (by decide) fi_6_23.1 fi_6_23.2 wf_6_49 d185_88, sn_iconst d185_91 (by decide), sn_iald d185_92, kV_163 wm_6_207 d185_93, sn_pop d185_96, sn_iconst d185_97 (by decide), sn_zret d185_98 rfl, sn_aload_n d185_99 rfl, sn_ldcS (i := 8) (by decide) d185_100 ⟨rfl, rfl⟩, kV_179 wm_6_198 d185_102, sn_ifeq d185_105 (by decide), sn_aload_n d185_108 rfl, kV_183 wm_6_212 d185_109, sn_zret d185_112 rfl, sn_aload_n d185_113 rfl, sn_ldcS (i := 10) (by decide) d185_114 ⟨rfl, rfl⟩, kV_179 wm_6_198 d185_116, sn_ifeq d185_119 (by decide), sn_aload_n d185_122 rfl, kV_184 wm_6_217 d185_123, sn_zret d185_126 rfl, sn_aload_n d185_127 rfl, sn_ldcS (i := 9) (by decide) d185_128 ⟨rfl, rfl⟩, kV_179 wm_6_198 d185_130, sn_ifne d185_133 (by decide), sn_aload_n d185_136 rfl, kV_178 wm_6_182 d185_137, sn_zret d185_140 rfl, sn_aload_n d185_141 rfl, sn_iconst d185_142 (by decide), sn_bipush d185_143 (by decide), kV_181 wm_6_193 d185_145, trivial⟩
theorem sc185_2 : eb_AS L q0 185 (eb_lg 185) [(148, op_ifne 153 151), (151, op_push (zi 0) 152), (152, op_zret), (153, op_aload 0 154), (154, op_aload 0 155), (155, op_getR L 6 23 158), (158, op_push (zi 0) 159), (159, op_iald L 160), (160, op_putI L 6 13 163), (163, op_push (zi 1) 164), (164, op_zret)] := ⟨sn_ifne d185_148 (by decide), sn_iconst d185_151 (by decide), sn_zret d185_152 rfl, sn_aload_n d185_153 rfl, sn_aload_n d185_154 rfl, sn_getR (by decide) fi_6_23.1 fi_6_23.2 wf_6_49 d185_155, sn_iconst d185_158 (by decide), sn_iald d185_159, sn_putI (by decide) fi_6_13.1 fi_6_13.2 wf_6_132 (Or.inl rfl) fp_6_13 d185_160, sn_iconst d185_163 (by decide), sn_zret d185_164 rfl, trivial⟩
theorem sd185 : ∀ pc, eb_Snd L q0 185 pc (eb_lg 185) (eb_cd L 185 pc) := eb_AS_all (hk185 (L := L)) (eb_AS_app sc185_0 (eb_AS_app sc185_1 (sc185_2)))
theorem sc186_0 : eb_AS L q0 186 (eb_lg 186) [(0, op_aload 0 1), (1, op_push (zi 1) 2), (2, op_putI L 6 24 5), (5, op_aload 0 6), (6, op_push (zi 0) 7), (7, op_putI L 6 18 10), (10, op_aload 0 11), (11, op_callv 177 1 14), (14, op_aload 0 15), (15, op_call 185 1 18), (18, op_ifne 23 21), (21, op_push (zi 0) 22), (22, op_zret), (23, op_aload 0 24), (24, op_getI L 6 19 27), (27, op_ifeq 69 30), (30, op_aload 0 31), (31, op_getI L 6 19 34), (34, op_push (zi 3) 35), (35, op_iceq 43 38), (38, op_aload 0 39), (39, op_call 178 1 42), (42, op_zret), (43, op_aload 0 44), (44, op_callv 177 1 47), (47, op_aload 0 48), (48, op_call 185 1 51), (51, op_ifne 56 54), (54, op_push (zi 0) 55), (55, op_zret), (56, op_aload 0 57), (57, op_dup 58), (58, op_getI L 6 24 61), (61, op_push (zi 1) 62), (62, op_ii (· + ·) 63), (63, op_putI L 6 24 66), (66, op_goto 23), (69, op_push (zi 1) 70), (70, op_zret)] := ⟨sn_aload_n d186_0 rfl, sn_iconst d186_1 (by decide), sn_putI (by decide) fi_6_24.1 fi_6_24.2 wf_6_221 (Or.inl rfl) fp_6_24 d186_2, sn_aload_n d186_5 rfl, sn_iconst d186_6 (by decide), sn_putI (by decide) fi_6_18.1 fi_6_18.2 wf_6_150 (Or.inl rfl) fp_6_18 d186_7, sn_aload_n d186_10 rfl, kV_177 wm_6_186 d186_11, sn_aload_n d186_14 rfl, kV_185 wm_6_224 d186_15, sn_ifne d186_18 (by decide), sn_iconst d186_21 (by decide), sn_zret d186_22 rfl, sn_aload_n d186_23 rfl, sn_getI (by decide) fi_6_19.1 fi_6_19.2 wf_6_159 d186_24, sn_ifeq d186_27 (by decide), sn_aload_n d186_30 rfl, sn_getI (by decide) fi_6_19.1 fi_6_19.2 wf_6_159 d186_31, sn_iconst d186_34 (by decide), sn_iceq d186_35 (by decide), sn_aload_n d186_38 rfl, kV_178 wm_6_182 d186_39, sn_zret d186_42 rfl, sn_aload_n d186_43 rfl, kV_177 wm_6_186 d186_44, sn_aload_n d186_47 rfl, kV_185 wm_6_224 d186_48, sn_ifne d186_51 (by decide), sn_iconst d186_54 (by decide), sn_zret d186_55 rfl, sn_aload_n d186_56 rfl, sn_dup d186_57, sn_getI (by decide) fi_6_24.1 fi_6_24.2 wf_6_221 d186_58, sn_iconst d186_61 (by decide), sn_iadd d186_62, sn_putI (by decide) fi_6_24.1 fi_6_24.2 wf_6_221 (Or.inl rfl) fp_6_24 d186_63, sn_goto d186_66 (by decide), sn_iconst d186_69 (by decide), sn_zret d186_70 rfl, trivial⟩
theorem sd186 : ∀ pc, eb_Snd L q0 186 pc (eb_lg 186) (eb_cd L 186 pc) := eb_AS_all (hk186 (L := L)) (sc186_0)
end

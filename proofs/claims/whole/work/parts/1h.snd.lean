/-! every row of these methods is sound: by program -/
set_option maxRecDepth 100000
theorem d187_0 : decode (eb_b 187) 0 = .ok (.aload_n 0, 1) := by decide +kernel
theorem d187_1 : decode (eb_b 187) 1 = .ok (.invokevirtual 227, 3) := by decide +kernel
theorem wc_246 : Cond.code (eb_y 246) (eb_b 246) (eb_ml 246) (eb_rt 246) ∈ eb_LT := eb_lt 1201 (by decide +kernel)
theorem cy_246 : (eb_y 246).cls = eb_cN (eb_rc 246) ∧ (eb_y 246).cls ≠ "java/lang/invoke/MethodHandle" ∧ (eb_y 246).cls ≠ "java/lang/invoke/VarHandle" ∧ (parseMethodDescriptor (eb_y 246).desc).map (fun d => d.parameters.length) = some 0 := by decide +kernel
theorem wi_246 : Cond.instanceMethod (eb_y 246) ∈ eb_LT := eb_lt 1200 (by decide +kernel)
theorem wse_246 : Cond.selects (eb_cN (eb_rc 246)) (eb_y 246) (eb_y 246) ∈ eb_LT := eb_lt 46 (by decide +kernel)
theorem kV_246 {L q0 m pc : Nat} {lg : Nat → Bool} {ix : Nat} (hw : Cond.methodLink (eb_own m) ix (eb_y 246) ∈ eb_LT) (hd : decode (eb_b m) pc = .ok (.invokevirtual ix, 3)) : eb_Snd L q0 m pc lg (op_call 246 1 (pc + 3)) := sn_callV false rfl (Or.inr ⟨rfl, _, rfl⟩) (by decide) rfl (by decide) ⟨⟨hw, wi_246, wse_246⟩, wc_246⟩ cy_246 hd
theorem wm_6_227 : Cond.methodLink (eb_cN 6) 227 (eb_y 246) ∈ eb_LT := eb_lt 1198 (by decide +kernel)
theorem d187_4 : decode (eb_b 187) 4 = .ok (.astore_n 1, 1) := by decide +kernel
theorem hn187_1 : 1 < eb_ml 187 := by decide
theorem d187_5 : decode (eb_b 187) 5 = .ok (.aload_n 0, 1) := by decide +kernel
theorem d187_6 : decode (eb_b 187) 6 = .ok (.invokevirtual 231, 3) := by decide +kernel
theorem wc_186 : Cond.code (eb_y 186) (eb_b 186) (eb_ml 186) (eb_rt 186) ∈ eb_LT := eb_lt 1214 (by decide +kernel)
theorem cy_186 : (eb_y 186).cls = eb_cN (eb_rc 186) ∧ (eb_y 186).cls ≠ "java/lang/invoke/MethodHandle" ∧ (eb_y 186).cls ≠ "java/lang/invoke/VarHandle" ∧ (parseMethodDescriptor (eb_y 186).desc).map (fun d => d.parameters.length) = some 0 := by decide +kernel
theorem wi_186 : Cond.instanceMethod (eb_y 186) ∈ eb_LT := eb_lt 1213 (by decide +kernel)
theorem wse_186 : Cond.selects (eb_cN (eb_rc 186)) (eb_y 186) (eb_y 186) ∈ eb_LT := eb_lt 48 (by decide +kernel)
theorem kV_186 {L q0 m pc : Nat} {lg : Nat → Bool} {ix : Nat} (hw : Cond.methodLink (eb_own m) ix (eb_y 186) ∈ eb_LT) (hd : decode (eb_b m) pc = .ok (.invokevirtual ix, 3)) : eb_Snd L q0 m pc lg (op_call 186 1 (pc + 3)) := sn_callV false rfl (Or.inr ⟨rfl, _, rfl⟩) (by decide) rfl (by decide) ⟨⟨hw, wi_186, wse_186⟩, wc_186⟩ cy_186 hd
theorem wm_6_231 : Cond.methodLink (eb_cN 6) 231 (eb_y 186) ∈ eb_LT := eb_lt 1211 (by decide +kernel)
theorem d187_9 : decode (eb_b 187) 9 = .ok (.istore_n 2, 1) := by decide +kernel
theorem hn187_2 : 2 < eb_ml 187 := by decide
theorem d187_10 : decode (eb_b 187) 10 = .ok (.aload_n 0, 1) := by decide +kernel
theorem d187_11 : decode (eb_b 187) 11 = .ok (.iconst 0, 1) := by decide +kernel
theorem d187_12 : decode (eb_b 187) 12 = .ok (.putfield 147, 3) := by decide +kernel
theorem d187_15 : decode (eb_b 187) 15 = .ok (.iload_n 2, 1) := by decide +kernel
theorem d187_16 : decode (eb_b 187) 16 = .ok (.ifCond .ne 23, 3) := by decide +kernel
theorem d187_19 : decode (eb_b 187) 19 = .ok (.aload_n 0, 1) := by decide +kernel
theorem d187_20 : decode (eb_b 187) 20 = .ok (.aload_n 1, 1) := by decide +kernel
theorem d187_21 : decode (eb_b 187) 21 = .ok (.invokevirtual 234, 3) := by decide +kernel
theorem wc_248 : Cond.code (eb_y 248) (eb_b 248) (eb_ml 248) (eb_rt 248) ∈ eb_LT := eb_lt 1207 (by decide +kernel)
theorem cy_248 : (eb_y 248).cls = eb_cN (eb_rc 248) ∧ (eb_y 248).cls ≠ "java/lang/invoke/MethodHandle" ∧ (eb_y 248).cls ≠ "java/lang/invoke/VarHandle" ∧ (parseMethodDescriptor (eb_y 248).desc).map (fun d => d.parameters.length) = some 1 := by decide +kernel
theorem wi_248 : Cond.instanceMethod (eb_y 248) ∈ eb_LT := eb_lt 1206 (by decide +kernel)
theorem wse_248 : Cond.selects (eb_cN (eb_rc 248)) (eb_y 248) (eb_y 248) ∈ eb_LT := eb_lt 47 (by decide +kernel)
theorem kV_248 {L q0 m pc : Nat} {lg : Nat → Bool} {ix : Nat} (hw : Cond.methodLink (eb_own m) ix (eb_y 248) ∈ eb_LT) (hd : decode (eb_b m) pc = .ok (.invokevirtual ix, 3)) : eb_Snd L q0 m pc lg (op_callv 248 2 (pc + 3)) := sn_callV true rfl (Or.inl ⟨rfl, rfl⟩) (by decide) rfl (by decide) ⟨⟨hw, wi_248, wse_248⟩, wc_248⟩ cy_248 hd
theorem wm_6_234 : Cond.methodLink (eb_cN 6) 234 (eb_y 248) ∈ eb_LT := eb_lt 1204 (by decide +kernel)
theorem d187_24 : decode (eb_b 187) 24 = .ok (.aload_n 0, 1) := by decide +kernel
theorem d187_25 : decode (eb_b 187) 25 = .ok (.bipush (-2), 2) := by decide +kernel
theorem d187_27 : decode (eb_b 187) 27 = .ok (.invokevirtual 91, 3) := by decide +kernel
theorem d187_30 : decode (eb_b 187) 30 = .ok (.pop, 1) := by decide +kernel
theorem d187_31 : decode (eb_b 187) 31 = .ok (.bipush (-20), 2) := by decide +kernel
theorem d187_33 : decode (eb_b 187) 33 = .ok (.aload_n 0, 1) := by decide +kernel
theorem d187_34 : decode (eb_b 187) 34 = .ok (.getfield 169, 3) := by decide +kernel
theorem d187_37 : decode (eb_b 187) 37 = .ok (.isub, 1) := by decide +kernel
theorem d187_38 : decode (eb_b 187) 38 = .ok (.ireturn, 1) := by decide +kernel
theorem d187_39 : decode (eb_b 187) 39 = .ok (.aload_n 0, 1) := by decide +kernel
theorem d187_40 : decode (eb_b 187) 40 = .ok (.getfield 221, 3) := by decide +kernel
theorem d187_43 : decode (eb_b 187) 43 = .ok (.ireturn, 1) := by decide +kernel
theorem d188_0 : decode (eb_b 188) 0 = .ok (.aload_n 0, 1) := by decide +kernel
theorem d188_1 : decode (eb_b 188) 1 = .ok (.iload_n 1, 1) := by decide +kernel
theorem d188_2 : decode (eb_b 188) 2 = .ok (.invokevirtual 127, 3) := by decide +kernel
theorem d188_5 : decode (eb_b 188) 5 = .ok (.ifCond .eq 26, 3) := by decide +kernel
theorem d188_8 : decode (eb_b 188) 8 = .ok (.iload_n 2, 1) := by decide +kernel
theorem d188_9 : decode (eb_b 188) 9 = .ok (.i2l, 1) := by decide +kernel
theorem d188_10 : decode (eb_b 188) 10 = .ok (.lconst 0, 1) := by decide +kernel
theorem d188_11 : decode (eb_b 188) 11 = .ok (.ldc2_w 238, 3) := by decide +kernel
theorem wl_6_238 : Cond.constantLong (eb_cN 6) 238 6 ∈ eb_LT := eb_lt 1271 (by decide +kernel)
theorem d188_14 : decode (eb_b 188) 14 = .ok (.invokestatic 76, 3) := by decide +kernel
theorem d188_17 : decode (eb_b 188) 17 = .ok (.ifCond .eq 14, 3) := by decide +kernel
theorem d188_20 : decode (eb_b 188) 20 = .ok (.aload_n 0, 1) := by decide +kernel
theorem d188_21 : decode (eb_b 188) 21 = .ok (.getfield 39, 3) := by decide +kernel
theorem d188_24 : decode (eb_b 188) 24 = .ok (.iload_n 1, 1) := by decide +kernel
theorem d188_25 : decode (eb_b 188) 25 = .ok (.aaload, 1) := by decide +kernel
theorem d188_26 : decode (eb_b 188) 26 = .ok (.iload_n 2, 1) := by decide +kernel
theorem d188_27 : decode (eb_b 188) 27 = .ok (.iaload, 1) := by decide +kernel
theorem d188_28 : decode (eb_b 188) 28 = .ok (.goto 9, 3) := by decide +kernel
theorem d188_31 : decode (eb_b 188) 31 = .ok (.aload_n 0, 1) := by decide +kernel
theorem d188_32 : decode (eb_b 188) 32 = .ok (.bipush (-2), 2) := by decide +kernel
theorem d188_34 : decode (eb_b 188) 34 = .ok (.invokevirtual 91, 3) := by decide +kernel
theorem d188_37 : decode (eb_b 188) 37 = .ok (.ireturn, 1) := by decide +kernel
theorem d189_0 : decode (eb_b 189) 0 = .ok (.aload_n 0, 1) := by decide +kernel
theorem d189_1 : decode (eb_b 189) 1 = .ok (.iload_n 1, 1) := by decide +kernel
theorem d189_2 : decode (eb_b 189) 2 = .ok (.invokevirtual 102, 3) := by decide +kernel
theorem d189_5 : decode (eb_b 189) 5 = .ok (.ifCond .eq 26, 3) := by decide +kernel
theorem d189_8 : decode (eb_b 189) 8 = .ok (.iload_n 2, 1) := by decide +kernel
theorem d189_9 : decode (eb_b 189) 9 = .ok (.i2l, 1) := by decide +kernel
theorem d189_10 : decode (eb_b 189) 10 = .ok (.lconst 0, 1) := by decide +kernel
theorem d189_11 : decode (eb_b 189) 11 = .ok (.ldc2_w 240, 3) := by decide +kernel
theorem wl_6_240 : Cond.constantLong (eb_cN 6) 240 2 ∈ eb_LT := eb_lt 1276 (by decide +kernel)
theorem d189_14 : decode (eb_b 189) 14 = .ok (.invokestatic 76, 3) := by decide +kernel
theorem d189_17 : decode (eb_b 189) 17 = .ok (.ifCond .eq 14, 3) := by decide +kernel
theorem d189_20 : decode (eb_b 189) 20 = .ok (.aload_n 0, 1) := by decide +kernel
theorem d189_21 : decode (eb_b 189) 21 = .ok (.getfield 42, 3) := by decide +kernel
theorem d189_24 : decode (eb_b 189) 24 = .ok (.iload_n 1, 1) := by decide +kernel
theorem d189_25 : decode (eb_b 189) 25 = .ok (.aaload, 1) := by decide +kernel
theorem d189_26 : decode (eb_b 189) 26 = .ok (.iload_n 2, 1) := by decide +kernel
theorem d189_27 : decode (eb_b 189) 27 = .ok (.iaload, 1) := by decide +kernel
theorem d189_28 : decode (eb_b 189) 28 = .ok (.goto 9, 3) := by decide +kernel
theorem d189_31 : decode (eb_b 189) 31 = .ok (.aload_n 0, 1) := by decide +kernel
theorem d189_32 : decode (eb_b 189) 32 = .ok (.bipush (-2), 2) := by decide +kernel
theorem d189_34 : decode (eb_b 189) 34 = .ok (.invokevirtual 91, 3) := by decide +kernel
theorem d189_37 : decode (eb_b 189) 37 = .ok (.ireturn, 1) := by decide +kernel
theorem d190_0 : decode (eb_b 190) 0 = .ok (.iload_n 1, 1) := by decide +kernel
theorem d190_1 : decode (eb_b 190) 1 = .ok (.iconst 2, 1) := by decide +kernel
theorem d190_2 : decode (eb_b 190) 2 = .ok (.aload_n 0, 1) := by decide +kernel
theorem d190_3 : decode (eb_b 190) 3 = .ok (.getfield 132, 3) := by decide +kernel
theorem d190_6 : decode (eb_b 190) 6 = .ok (.imul, 1) := by decide +kernel
theorem d190_7 : decode (eb_b 190) 7 = .ok (.isub, 1) := by decide +kernel
theorem d190_8 : decode (eb_b 190) 8 = .ok (.istore_n 2, 1) := by decide +kernel
theorem hn190_2 : 2 < eb_ml 190 := by decide
theorem d190_9 : decode (eb_b 190) 9 = .ok (.iload_n 1, 1) := by decide +kernel
theorem d190_10 : decode (eb_b 190) 10 = .ok (.iconst (-1), 1) := by decide +kernel
theorem d190_11 : decode (eb_b 190) 11 = .ok (.if_icmp .eq 7, 3) := by decide +kernel
theorem d190_14 : decode (eb_b 190) 14 = .ok (.iload_n 2, 1) := by decide +kernel
theorem d190_15 : decode (eb_b 190) 15 = .ok (.ifCond .ge 7, 3) := by decide +kernel
theorem d190_18 : decode (eb_b 190) 18 = .ok (.iconst 0, 1) := by decide +kernel
theorem d190_19 : decode (eb_b 190) 19 = .ok (.goto 4, 3) := by decide +kernel
theorem d190_22 : decode (eb_b 190) 22 = .ok (.iload_n 2, 1) := by decide +kernel
theorem d190_23 : decode (eb_b 190) 23 = .ok (.ireturn, 1) := by decide +kernel
theorem d191_0 : decode (eb_b 191) 0 = .ok (.aload_n 0, 1) := by decide +kernel
theorem d191_1 : decode (eb_b 191) 1 = .ok (.getfield 39, 3) := by decide +kernel
theorem d191_4 : decode (eb_b 191) 4 = .ok (.iload_n 2, 1) := by decide +kernel
theorem d191_5 : decode (eb_b 191) 5 = .ok (.aaload, 1) := by decide +kernel
theorem d191_6 : decode (eb_b 191) 6 = .ok (.astore 4, 2) := by decide +kernel
theorem hn191_4 : 4 < eb_ml 191 := by decide
theorem d191_8 : decode (eb_b 191) 8 = .ok (.aload_n 0, 1) := by decide +kernel
theorem d191_9 : decode (eb_b 191) 9 = .ok (.getfield 42, 3) := by decide +kernel
theorem d191_12 : decode (eb_b 191) 12 = .ok (.iload_n 1, 1) := by decide +kernel
theorem d191_13 : decode (eb_b 191) 13 = .ok (.aaload, 1) := by decide +kernel
theorem d191_14 : decode (eb_b 191) 14 = .ok (.iconst 2, 1) := by decide +kernel
theorem d191_15 : decode (eb_b 191) 15 = .ok (.iaload, 1) := by decide +kernel
theorem d191_16 : decode (eb_b 191) 16 = .ok (.istore 5, 2) := by decide +kernel
theorem hn191_5 : 5 < eb_ml 191 := by decide
theorem d191_18 : decode (eb_b 191) 18 = .ok (.aload_n 0, 1) := by decide +kernel
theorem d191_19 : decode (eb_b 191) 19 = .ok (.getfield 42, 3) := by decide +kernel
theorem d191_22 : decode (eb_b 191) 22 = .ok (.iload_n 1, 1) := by decide +kernel
theorem d191_23 : decode (eb_b 191) 23 = .ok (.aaload, 1) := by decide +kernel
theorem d191_24 : decode (eb_b 191) 24 = .ok (.iconst 0, 1) := by decide +kernel
theorem d191_25 : decode (eb_b 191) 25 = .ok (.iaload, 1) := by decide +kernel
theorem d191_26 : decode (eb_b 191) 26 = .ok (.tableswitch 113 0 4 #[34, 113, 42, 66, 78], 34) := by decide +kernel
theorem d191_60 : decode (eb_b 191) 60 = .ok (.bipush 100, 2) := by decide +kernel
theorem d191_62 : decode (eb_b 191) 62 = .ok (.aload 4, 2) := by decide +kernel
theorem d191_64 : decode (eb_b 191) 64 = .ok (.iconst 3, 1) := by decide +kernel
theorem d191_65 : decode (eb_b 191) 65 = .ok (.iaload, 1) := by decide +kernel
theorem d191_66 : decode (eb_b 191) 66 = .ok (.isub, 1) := by decide +kernel
theorem d191_67 : decode (eb_b 191) 67 = .ok (.ireturn, 1) := by decide +kernel
theorem d191_68 : decode (eb_b 191) 68 = .ok (.iload_n 3, 1) := by decide +kernel
theorem d191_69 : decode (eb_b 191) 69 = .ok (.iconst (-1), 1) := by decide +kernel
theorem d191_70 : decode (eb_b 191) 70 = .ok (.if_icmp .ne 13, 3) := by decide +kernel
theorem d191_73 : decode (eb_b 191) 73 = .ok (.bipush 100, 2) := by decide +kernel
theorem d191_75 : decode (eb_b 191) 75 = .ok (.aload 4, 2) := by decide +kernel
theorem d191_77 : decode (eb_b 191) 77 = .ok (.iconst 3, 1) := by decide +kernel
theorem d191_78 : decode (eb_b 191) 78 = .ok (.iaload, 1) := by decide +kernel
theorem d191_79 : decode (eb_b 191) 79 = .ok (.isub, 1) := by decide +kernel
theorem d191_80 : decode (eb_b 191) 80 = .ok (.goto 11, 3) := by decide +kernel
theorem d191_83 : decode (eb_b 191) 83 = .ok (.aload_n 0, 1) := by decide +kernel
theorem d191_84 : decode (eb_b 191) 84 = .ok (.iload_n 3, 1) := by decide +kernel
theorem d191_85 : decode (eb_b 191) 85 = .ok (.invokevirtual 242, 3) := by decide +kernel
theorem wc_190 : Cond.code (eb_y 190) (eb_b 190) (eb_ml 190) (eb_rt 190) ∈ eb_LT := eb_lt 1127 (by decide +kernel)
theorem cy_190 : (eb_y 190).cls = eb_cN (eb_rc 190) ∧ (eb_y 190).cls ≠ "java/lang/invoke/MethodHandle" ∧ (eb_y 190).cls ≠ "java/lang/invoke/VarHandle" ∧ (parseMethodDescriptor (eb_y 190).desc).map (fun d => d.parameters.length) = some 1 := by decide +kernel
theorem wi_190 : Cond.instanceMethod (eb_y 190) ∈ eb_LT := eb_lt 1126 (by decide +kernel)
theorem wse_190 : Cond.selects (eb_cN (eb_rc 190)) (eb_y 190) (eb_y 190) ∈ eb_LT := eb_lt 40 (by decide +kernel)
theorem kV_190 {L q0 m pc : Nat} {lg : Nat → Bool} {ix : Nat} (hw : Cond.methodLink (eb_own m) ix (eb_y 190) ∈ eb_LT) (hd : decode (eb_b m) pc = .ok (.invokevirtual ix, 3)) : eb_Snd L q0 m pc lg (op_call 190 2 (pc + 3)) := sn_callV false rfl (Or.inr ⟨rfl, _, rfl⟩) (by decide) rfl (by decide) ⟨⟨hw, wi_190, wse_190⟩, wc_190⟩ cy_190 hd
theorem wm_6_242 : Cond.methodLink (eb_cN 6) 242 (eb_y 190) ∈ eb_LT := eb_lt 1124 (by decide +kernel)
theorem d191_88 : decode (eb_b 191) 88 = .ok (.iload 5, 2) := by decide +kernel
theorem d191_90 : decode (eb_b 191) 90 = .ok (.isub, 1) := by decide +kernel
theorem d191_91 : decode (eb_b 191) 91 = .ok (.ireturn, 1) := by decide +kernel
theorem d191_92 : decode (eb_b 191) 92 = .ok (.aload 4, 2) := by decide +kernel
theorem d191_94 : decode (eb_b 191) 94 = .ok (.iconst 0, 1) := by decide +kernel
theorem d191_95 : decode (eb_b 191) 95 = .ok (.iaload, 1) := by decide +kernel
theorem d191_96 : decode (eb_b 191) 96 = .ok (.aload 4, 2) := by decide +kernel
theorem d191_98 : decode (eb_b 191) 98 = .ok (.iconst 3, 1) := by decide +kernel
theorem d191_99 : decode (eb_b 191) 99 = .ok (.iaload, 1) := by decide +kernel
theorem d191_100 : decode (eb_b 191) 100 = .ok (.iconst 2, 1) := by decide +kernel
theorem d191_101 : decode (eb_b 191) 101 = .ok (.idiv, 1) := by decide +kernel
theorem d191_102 : decode (eb_b 191) 102 = .ok (.isub, 1) := by decide +kernel
theorem d191_103 : decode (eb_b 191) 103 = .ok (.ireturn, 1) := by decide +kernel
theorem d191_104 : decode (eb_b 191) 104 = .ok (.aload 4, 2) := by decide +kernel
theorem d191_106 : decode (eb_b 191) 106 = .ok (.iconst 5, 1) := by decide +kernel
theorem d191_107 : decode (eb_b 191) 107 = .ok (.iaload, 1) := by decide +kernel
theorem d191_108 : decode (eb_b 191) 108 = .ok (.iload 5, 2) := by decide +kernel
theorem d191_110 : decode (eb_b 191) 110 = .ok (.if_icmp .lt 23, 3) := by decide +kernel
theorem d191_113 : decode (eb_b 191) 113 = .ok (.aload 4, 2) := by decide +kernel
theorem d191_115 : decode (eb_b 191) 115 = .ok (.iconst 5, 1) := by decide +kernel
theorem d191_116 : decode (eb_b 191) 116 = .ok (.iaload, 1) := by decide +kernel
theorem d191_117 : decode (eb_b 191) 117 = .ok (.ifCond .le 16, 3) := by decide +kernel
theorem d191_120 : decode (eb_b 191) 120 = .ok (.aload 4, 2) := by decide +kernel
theorem d191_122 : decode (eb_b 191) 122 = .ok (.bipush 6, 2) := by decide +kernel
theorem d191_124 : decode (eb_b 191) 124 = .ok (.iaload, 1) := by decide +kernel
theorem d191_125 : decode (eb_b 191) 125 = .ok (.aload 4, 2) := by decide +kernel
theorem d191_127 : decode (eb_b 191) 127 = .ok (.iconst 5, 1) := by decide +kernel
theorem d191_128 : decode (eb_b 191) 128 = .ok (.iaload, 1) := by decide +kernel
theorem d191_129 : decode (eb_b 191) 129 = .ok (.idiv, 1) := by decide +kernel
theorem d191_130 : decode (eb_b 191) 130 = .ok (.goto 8, 3) := by decide +kernel
theorem d191_133 : decode (eb_b 191) 133 = .ok (.aload_n 0, 1) := by decide +kernel
theorem d191_134 : decode (eb_b 191) 134 = .ok (.iload_n 3, 1) := by decide +kernel
theorem d191_135 : decode (eb_b 191) 135 = .ok (.invokevirtual 242, 3) := by decide +kernel
theorem d191_138 : decode (eb_b 191) 138 = .ok (.ireturn, 1) := by decide +kernel
theorem d191_139 : decode (eb_b 191) 139 = .ok (.aload_n 0, 1) := by decide +kernel
theorem d191_140 : decode (eb_b 191) 140 = .ok (.iload_n 3, 1) := by decide +kernel
theorem d191_141 : decode (eb_b 191) 141 = .ok (.invokevirtual 242, 3) := by decide +kernel
theorem d191_144 : decode (eb_b 191) 144 = .ok (.ireturn, 1) := by decide +kernel
theorem d192_0 : decode (eb_b 192) 0 = .ok (.aload_n 0, 1) := by decide +kernel
theorem d192_1 : decode (eb_b 192) 1 = .ok (.iload_n 1, 1) := by decide +kernel
theorem d192_2 : decode (eb_b 192) 2 = .ok (.iload_n 2, 1) := by decide +kernel
theorem d192_3 : decode (eb_b 192) 3 = .ok (.aload_n 0, 1) := by decide +kernel
theorem d192_4 : decode (eb_b 192) 4 = .ok (.getfield 39, 3) := by decide +kernel
theorem d192_7 : decode (eb_b 192) 7 = .ok (.iload_n 2, 1) := by decide +kernel
theorem d192_8 : decode (eb_b 192) 8 = .ok (.aaload, 1) := by decide +kernel
theorem d192_9 : decode (eb_b 192) 9 = .ok (.iconst 4, 1) := by decide +kernel
theorem d192_10 : decode (eb_b 192) 10 = .ok (.iaload, 1) := by decide +kernel
theorem d192_11 : decode (eb_b 192) 11 = .ok (.invokevirtual 245, 3) := by decide +kernel
theorem wc_191 : Cond.code (eb_y 191) (eb_b 191) (eb_ml 191) (eb_rt 191) ∈ eb_LT := eb_lt 1123 (by decide +kernel)
theorem cy_191 : (eb_y 191).cls = eb_cN (eb_rc 191) ∧ (eb_y 191).cls ≠ "java/lang/invoke/MethodHandle" ∧ (eb_y 191).cls ≠ "java/lang/invoke/VarHandle" ∧ (parseMethodDescriptor (eb_y 191).desc).map (fun d => d.parameters.length) = some 3 := by decide +kernel
theorem wi_191 : Cond.instanceMethod (eb_y 191) ∈ eb_LT := eb_lt 1122 (by decide +kernel)
theorem wse_191 : Cond.selects (eb_cN (eb_rc 191)) (eb_y 191) (eb_y 191) ∈ eb_LT := eb_lt 39 (by decide +kernel)
theorem kV_191 {L q0 m pc : Nat} {lg : Nat → Bool} {ix : Nat} (hw : Cond.methodLink (eb_own m) ix (eb_y 191) ∈ eb_LT) (hd : decode (eb_b m) pc = .ok (.invokevirtual ix, 3)) : eb_Snd L q0 m pc lg (op_call 191 4 (pc + 3)) := sn_callV false rfl (Or.inr ⟨rfl, _, rfl⟩) (by decide) rfl (by decide) ⟨⟨hw, wi_191, wse_191⟩, wc_191⟩ cy_191 hd
theorem wm_6_245 : Cond.methodLink (eb_cN 6) 245 (eb_y 191) ∈ eb_LT := eb_lt 1120 (by decide +kernel)
theorem d192_14 : decode (eb_b 192) 14 = .ok (.ireturn, 1) := by decide +kernel
theorem d193_0 : decode (eb_b 193) 0 = .ok (.aload_n 0, 1) := by decide +kernel
theorem d193_1 : decode (eb_b 193) 1 = .ok (.iload_n 1, 1) := by decide +kernel
theorem d193_2 : decode (eb_b 193) 2 = .ok (.invokevirtual 102, 3) := by decide +kernel
theorem d193_5 : decode (eb_b 193) 5 = .ok (.ifCond .eq 20, 3) := by decide +kernel
theorem d193_8 : decode (eb_b 193) 8 = .ok (.aload_n 0, 1) := by decide +kernel
theorem d193_9 : decode (eb_b 193) 9 = .ok (.iload_n 2, 1) := by decide +kernel
theorem d193_10 : decode (eb_b 193) 10 = .ok (.invokevirtual 127, 3) := by decide +kernel
theorem d193_13 : decode (eb_b 193) 13 = .ok (.ifCond .eq 12, 3) := by decide +kernel
theorem d193_16 : decode (eb_b 193) 16 = .ok (.aload_n 0, 1) := by decide +kernel
theorem d193_17 : decode (eb_b 193) 17 = .ok (.iload_n 1, 1) := by decide +kernel
theorem d193_18 : decode (eb_b 193) 18 = .ok (.iload_n 2, 1) := by decide +kernel
theorem d193_19 : decode (eb_b 193) 19 = .ok (.invokevirtual 248, 3) := by decide +kernel
theorem wc_192 : Cond.code (eb_y 192) (eb_b 192) (eb_ml 192) (eb_rt 192) ∈ eb_LT := eb_lt 1119 (by decide +kernel)
theorem cy_192 : (eb_y 192).cls = eb_cN (eb_rc 192) ∧ (eb_y 192).cls ≠ "java/lang/invoke/MethodHandle" ∧ (eb_y 192).cls ≠ "java/lang/invoke/VarHandle" ∧ (parseMethodDescriptor (eb_y 192).desc).map (fun d => d.parameters.length) = some 2 := by decide +kernel
theorem wi_192 : Cond.instanceMethod (eb_y 192) ∈ eb_LT := eb_lt 1118 (by decide +kernel)
theorem wse_192 : Cond.selects (eb_cN (eb_rc 192)) (eb_y 192) (eb_y 192) ∈ eb_LT := eb_lt 38 (by decide +kernel)
theorem kV_192 {L q0 m pc : Nat} {lg : Nat → Bool} {ix : Nat} (hw : Cond.methodLink (eb_own m) ix (eb_y 192) ∈ eb_LT) (hd : decode (eb_b m) pc = .ok (.invokevirtual ix, 3)) : eb_Snd L q0 m pc lg (op_call 192 3 (pc + 3)) := sn_callV false rfl (Or.inr ⟨rfl, _, rfl⟩) (by decide) rfl (by decide) ⟨⟨hw, wi_192, wse_192⟩, wc_192⟩ cy_192 hd
theorem wm_6_248 : Cond.methodLink (eb_cN 6) 248 (eb_y 192) ∈ eb_LT := eb_lt 1116 (by decide +kernel)
theorem d193_22 : decode (eb_b 193) 22 = .ok (.goto 12, 3) := by decide +kernel
theorem d193_25 : decode (eb_b 193) 25 = .ok (.ldc 252, 2) := by decide +kernel
theorem wk_6_252 : Cond.constant (eb_cN 6) 252 (-1000000) ∈ eb_LT := eb_lt 1281 (by decide +kernel)
theorem d193_27 : decode (eb_b 193) 27 = .ok (.aload_n 0, 1) := by decide +kernel
theorem d193_28 : decode (eb_b 193) 28 = .ok (.bipush (-2), 2) := by decide +kernel
theorem d193_30 : decode (eb_b 193) 30 = .ok (.invokevirtual 91, 3) := by decide +kernel
theorem d193_33 : decode (eb_b 193) 33 = .ok (.iadd, 1) := by decide +kernel
theorem d193_34 : decode (eb_b 193) 34 = .ok (.ireturn, 1) := by decide +kernel
theorem d194_0 : decode (eb_b 194) 0 = .ok (.iconst (-1), 1) := by decide +kernel
theorem d194_1 : decode (eb_b 194) 1 = .ok (.istore_n 2, 1) := by decide +kernel
theorem hn194_2 : 2 < eb_ml 194 := by decide
theorem d194_2 : decode (eb_b 194) 2 = .ok (.iconst 0, 1) := by decide +kernel
theorem d194_3 : decode (eb_b 194) 3 = .ok (.istore_n 3, 1) := by decide +kernel
theorem hn194_3 : 3 < eb_ml 194 := by decide
theorem d194_4 : decode (eb_b 194) 4 = .ok (.iload_n 3, 1) := by decide +kernel
theorem d194_5 : decode (eb_b 194) 5 = .ok (.aload_n 0, 1) := by decide +kernel
theorem d194_6 : decode (eb_b 194) 6 = .ok (.getfield 73, 3) := by decide +kernel
theorem d194_9 : decode (eb_b 194) 9 = .ok (.if_icmp .ge 35, 3) := by decide +kernel
theorem d194_12 : decode (eb_b 194) 12 = .ok (.iload_n 2, 1) := by decide +kernel
theorem d194_13 : decode (eb_b 194) 13 = .ok (.iconst (-1), 1) := by decide +kernel
theorem d194_14 : decode (eb_b 194) 14 = .ok (.if_icmp .eq 18, 3) := by decide +kernel
theorem d194_17 : decode (eb_b 194) 17 = .ok (.aload_n 0, 1) := by decide +kernel
theorem d194_18 : decode (eb_b 194) 18 = .ok (.iload_n 1, 1) := by decide +kernel
theorem d194_19 : decode (eb_b 194) 19 = .ok (.iload_n 3, 1) := by decide +kernel
theorem d194_20 : decode (eb_b 194) 20 = .ok (.invokevirtual 248, 3) := by decide +kernel
theorem d194_23 : decode (eb_b 194) 23 = .ok (.aload_n 0, 1) := by decide +kernel
theorem d194_24 : decode (eb_b 194) 24 = .ok (.iload_n 1, 1) := by decide +kernel
theorem d194_25 : decode (eb_b 194) 25 = .ok (.iload_n 2, 1) := by decide +kernel
theorem d194_26 : decode (eb_b 194) 26 = .ok (.invokevirtual 248, 3) := by decide +kernel
theorem d194_29 : decode (eb_b 194) 29 = .ok (.if_icmp .le 7, 3) := by decide +kernel
theorem d194_32 : decode (eb_b 194) 32 = .ok (.iload_n 3, 1) := by decide +kernel
theorem d194_33 : decode (eb_b 194) 33 = .ok (.goto 4, 3) := by decide +kernel
theorem d194_36 : decode (eb_b 194) 36 = .ok (.iload_n 2, 1) := by decide +kernel
theorem d194_37 : decode (eb_b 194) 37 = .ok (.istore_n 2, 1) := by decide +kernel
theorem d194_38 : decode (eb_b 194) 38 = .ok (.iinc 3 1, 3) := by decide +kernel
theorem d194_41 : decode (eb_b 194) 41 = .ok (.goto (-37), 3) := by decide +kernel
theorem d194_44 : decode (eb_b 194) 44 = .ok (.iload_n 2, 1) := by decide +kernel
theorem d194_45 : decode (eb_b 194) 45 = .ok (.ireturn, 1) := by decide +kernel
theorem d195_0 : decode (eb_b 195) 0 = .ok (.iconst 0, 1) := by decide +kernel
theorem d195_1 : decode (eb_b 195) 1 = .ok (.istore_n 1, 1) := by decide +kernel
theorem hn195_1 : 1 < eb_ml 195 := by decide
theorem d195_2 : decode (eb_b 195) 2 = .ok (.iload_n 1, 1) := by decide +kernel
theorem d195_3 : decode (eb_b 195) 3 = .ok (.aload_n 0, 1) := by decide +kernel
theorem d195_4 : decode (eb_b 195) 4 = .ok (.getfield 73, 3) := by decide +kernel
theorem d195_7 : decode (eb_b 195) 7 = .ok (.if_icmp .ge 37, 3) := by decide +kernel
theorem d195_10 : decode (eb_b 195) 10 = .ok (.aload_n 0, 1) := by decide +kernel
theorem d195_11 : decode (eb_b 195) 11 = .ok (.getfield 58, 3) := by decide +kernel
theorem wf_6_58 : Cond.fieldLink (eb_cN 6) 58 (eb_tT 6 27).1 (eb_tT 6 27).2.1 (eb_tT 6 27).2.2.1 ∈ eb_LT := eb_lt 983 (by decide +kernel)
theorem fi_6_27 : 27 < eb_nf 6 ∧ (eb_tt 6 27).isReference = true := ⟨by decide, rfl⟩
theorem d195_14 : decode (eb_b 195) 14 = .ok (.iload_n 1, 1) := by decide +kernel
theorem d195_15 : decode (eb_b 195) 15 = .ok (.aload_n 0, 1) := by decide +kernel
theorem d195_16 : decode (eb_b 195) 16 = .ok (.getfield 39, 3) := by decide +kernel
theorem d195_19 : decode (eb_b 195) 19 = .ok (.iload_n 1, 1) := by decide +kernel
theorem d195_20 : decode (eb_b 195) 20 = .ok (.aaload, 1) := by decide +kernel
theorem d195_21 : decode (eb_b 195) 21 = .ok (.iconst 2, 1) := by decide +kernel
theorem d195_22 : decode (eb_b 195) 22 = .ok (.iaload, 1) := by decide +kernel
theorem d195_23 : decode (eb_b 195) 23 = .ok (.iastore, 1) := by decide +kernel
theorem d195_24 : decode (eb_b 195) 24 = .ok (.aload_n 0, 1) := by decide +kernel
theorem d195_25 : decode (eb_b 195) 25 = .ok (.getfield 61, 3) := by decide +kernel
theorem wf_6_61 : Cond.fieldLink (eb_cN 6) 61 (eb_tT 6 28).1 (eb_tT 6 28).2.1 (eb_tT 6 28).2.2.1 ∈ eb_LT := eb_lt 984 (by decide +kernel)
theorem fi_6_28 : 28 < eb_nf 6 ∧ (eb_tt 6 28).isReference = true := ⟨by decide, rfl⟩
theorem d195_28 : decode (eb_b 195) 28 = .ok (.iload_n 1, 1) := by decide +kernel
theorem d195_29 : decode (eb_b 195) 29 = .ok (.aload_n 0, 1) := by decide +kernel
theorem d195_30 : decode (eb_b 195) 30 = .ok (.getfield 39, 3) := by decide +kernel
theorem d195_33 : decode (eb_b 195) 33 = .ok (.iload_n 1, 1) := by decide +kernel
theorem d195_34 : decode (eb_b 195) 34 = .ok (.aaload, 1) := by decide +kernel
theorem d195_35 : decode (eb_b 195) 35 = .ok (.iconst 4, 1) := by decide +kernel
theorem d195_36 : decode (eb_b 195) 36 = .ok (.iaload, 1) := by decide +kernel
theorem d195_37 : decode (eb_b 195) 37 = .ok (.iastore, 1) := by decide +kernel
theorem d195_38 : decode (eb_b 195) 38 = .ok (.iinc 1 1, 3) := by decide +kernel
theorem d195_41 : decode (eb_b 195) 41 = .ok (.goto (-39), 3) := by decide +kernel
theorem d195_44 : decode (eb_b 195) 44 = .ok (.iconst 0, 1) := by decide +kernel
theorem d195_45 : decode (eb_b 195) 45 = .ok (.istore_n 1, 1) := by decide +kernel
theorem d195_46 : decode (eb_b 195) 46 = .ok (.iload_n 1, 1) := by decide +kernel
theorem d195_47 : decode (eb_b 195) 47 = .ok (.aload_n 0, 1) := by decide +kernel
theorem d195_48 : decode (eb_b 195) 48 = .ok (.getfield 80, 3) := by decide +kernel
theorem d195_51 : decode (eb_b 195) 51 = .ok (.if_icmp .ge 39, 3) := by decide +kernel
theorem d195_54 : decode (eb_b 195) 54 = .ok (.aload_n 0, 1) := by decide +kernel
theorem d195_55 : decode (eb_b 195) 55 = .ok (.getfield 55, 3) := by decide +kernel
theorem wf_6_55 : Cond.fieldLink (eb_cN 6) 55 (eb_tT 6 26).1 (eb_tT 6 26).2.1 (eb_tT 6 26).2.2.1 ∈ eb_LT := eb_lt 982 (by decide +kernel)
theorem fi_6_26 : 26 < eb_nf 6 ∧ (eb_tt 6 26).isReference = true := ⟨by decide, rfl⟩
theorem d195_58 : decode (eb_b 195) 58 = .ok (.iload_n 1, 1) := by decide +kernel
theorem d195_59 : decode (eb_b 195) 59 = .ok (.iconst 0, 1) := by decide +kernel
theorem d195_60 : decode (eb_b 195) 60 = .ok (.iastore, 1) := by decide +kernel
theorem d195_61 : decode (eb_b 195) 61 = .ok (.iconst 0, 1) := by decide +kernel
theorem d195_62 : decode (eb_b 195) 62 = .ok (.istore_n 2, 1) := by decide +kernel
theorem hn195_2 : 2 < eb_ml 195 := by decide
theorem d195_63 : decode (eb_b 195) 63 = .ok (.iload_n 2, 1) := by decide +kernel
theorem d195_64 : decode (eb_b 195) 64 = .ok (.bipush 6, 2) := by decide +kernel
theorem d195_66 : decode (eb_b 195) 66 = .ok (.if_icmp .ge 18, 3) := by decide +kernel
theorem d195_69 : decode (eb_b 195) 69 = .ok (.aload_n 0, 1) := by decide +kernel
theorem d195_70 : decode (eb_b 195) 70 = .ok (.getfield 52, 3) := by decide +kernel
theorem wf_6_52 : Cond.fieldLink (eb_cN 6) 52 (eb_tT 6 25).1 (eb_tT 6 25).2.1 (eb_tT 6 25).2.2.1 ∈ eb_LT := eb_lt 981 (by decide +kernel)
theorem fi_6_25 : 25 < eb_nf 6 ∧ (eb_tt 6 25).isReference = true := ⟨by decide, rfl⟩
theorem d195_73 : decode (eb_b 195) 73 = .ok (.iload_n 1, 1) := by decide +kernel
theorem d195_74 : decode (eb_b 195) 74 = .ok (.aaload, 1) := by decide +kernel
theorem d195_75 : decode (eb_b 195) 75 = .ok (.iload_n 2, 1) := by decide +kernel
theorem d195_76 : decode (eb_b 195) 76 = .ok (.iconst 0, 1) := by decide +kernel
theorem d195_77 : decode (eb_b 195) 77 = .ok (.iastore, 1) := by decide +kernel
theorem d195_78 : decode (eb_b 195) 78 = .ok (.iinc 2 1, 3) := by decide +kernel
theorem d195_81 : decode (eb_b 195) 81 = .ok (.goto (-18), 3) := by decide +kernel
theorem d195_84 : decode (eb_b 195) 84 = .ok (.iinc 1 1, 3) := by decide +kernel
theorem d195_87 : decode (eb_b 195) 87 = .ok (.goto (-41), 3) := by decide +kernel
theorem d195_90 : decode (eb_b 195) 90 = .ok (.return_, 1) := by decide +kernel
theorem d196_0 : decode (eb_b 196) 0 = .ok (.iload_n 2, 1) := by decide +kernel
theorem d196_1 : decode (eb_b 196) 1 = .ok (.istore_n 3, 1) := by decide +kernel
theorem hn196_3 : 3 < eb_ml 196 := by decide
theorem d196_2 : decode (eb_b 196) 2 = .ok (.iload_n 3, 1) := by decide +kernel
theorem d196_3 : decode (eb_b 196) 3 = .ok (.ifCond .le 167, 3) := by decide +kernel
theorem d196_6 : decode (eb_b 196) 6 = .ok (.iconst (-1), 1) := by decide +kernel
theorem d196_7 : decode (eb_b 196) 7 = .ok (.istore 4, 2) := by decide +kernel
theorem hn196_4 : 4 < eb_ml 196 := by decide
theorem d196_9 : decode (eb_b 196) 9 = .ok (.iconst 0, 1) := by decide +kernel
theorem d196_10 : decode (eb_b 196) 10 = .ok (.istore 5, 2) := by decide +kernel
theorem hn196_5 : 5 < eb_ml 196 := by decide
theorem d196_12 : decode (eb_b 196) 12 = .ok (.iload 5, 2) := by decide +kernel
theorem d196_14 : decode (eb_b 196) 14 = .ok (.aload_n 0, 1) := by decide +kernel
theorem d196_15 : decode (eb_b 196) 15 = .ok (.getfield 73, 3) := by decide +kernel
theorem d196_18 : decode (eb_b 196) 18 = .ok (.if_icmp .ge 77, 3) := by decide +kernel
theorem d196_21 : decode (eb_b 196) 21 = .ok (.aload_n 0, 1) := by decide +kernel
theorem d196_22 : decode (eb_b 196) 22 = .ok (.getfield 58, 3) := by decide +kernel
theorem d196_25 : decode (eb_b 196) 25 = .ok (.iload 5, 2) := by decide +kernel
theorem d196_27 : decode (eb_b 196) 27 = .ok (.iaload, 1) := by decide +kernel
theorem d196_28 : decode (eb_b 196) 28 = .ok (.ifCond .le 7, 3) := by decide +kernel
theorem d196_31 : decode (eb_b 196) 31 = .ok (.iconst 1, 1) := by decide +kernel
theorem d196_32 : decode (eb_b 196) 32 = .ok (.goto 4, 3) := by decide +kernel
theorem d196_35 : decode (eb_b 196) 35 = .ok (.iconst 0, 1) := by decide +kernel
theorem d196_36 : decode (eb_b 196) 36 = .ok (.istore 6, 2) := by decide +kernel
theorem hn196_6 : 6 < eb_ml 196 := by decide
theorem d196_38 : decode (eb_b 196) 38 = .ok (.iload 6, 2) := by decide +kernel
theorem d196_40 : decode (eb_b 196) 40 = .ok (.ifCond .eq 45, 3) := by decide +kernel
theorem d196_43 : decode (eb_b 196) 43 = .ok (.iload 4, 2) := by decide +kernel
theorem d196_45 : decode (eb_b 196) 45 = .ok (.iconst (-1), 1) := by decide +kernel
theorem d196_46 : decode (eb_b 196) 46 = .ok (.if_icmp .eq 34, 3) := by decide +kernel
theorem d196_49 : decode (eb_b 196) 49 = .ok (.aload_n 0, 1) := by decide +kernel
theorem d196_50 : decode (eb_b 196) 50 = .ok (.iload_n 1, 1) := by decide +kernel
theorem d196_51 : decode (eb_b 196) 51 = .ok (.iload 5, 2) := by decide +kernel
theorem d196_53 : decode (eb_b 196) 53 = .ok (.aload_n 0, 1) := by decide +kernel
theorem d196_54 : decode (eb_b 196) 54 = .ok (.getfield 61, 3) := by decide +kernel
theorem d196_57 : decode (eb_b 196) 57 = .ok (.iload 5, 2) := by decide +kernel
theorem d196_59 : decode (eb_b 196) 59 = .ok (.iaload, 1) := by decide +kernel
theorem d196_60 : decode (eb_b 196) 60 = .ok (.invokevirtual 245, 3) := by decide +kernel
theorem d196_63 : decode (eb_b 196) 63 = .ok (.aload_n 0, 1) := by decide +kernel
theorem d196_64 : decode (eb_b 196) 64 = .ok (.iload_n 1, 1) := by decide +kernel
theorem d196_65 : decode (eb_b 196) 65 = .ok (.iload 4, 2) := by decide +kernel
theorem d196_67 : decode (eb_b 196) 67 = .ok (.aload_n 0, 1) := by decide +kernel
theorem d196_68 : decode (eb_b 196) 68 = .ok (.getfield 61, 3) := by decide +kernel
theorem d196_71 : decode (eb_b 196) 71 = .ok (.iload 4, 2) := by decide +kernel
theorem d196_73 : decode (eb_b 196) 73 = .ok (.iaload, 1) := by decide +kernel
theorem d196_74 : decode (eb_b 196) 74 = .ok (.invokevirtual 245, 3) := by decide +kernel
theorem d196_77 : decode (eb_b 196) 77 = .ok (.if_icmp .le 8, 3) := by decide +kernel
theorem d196_80 : decode (eb_b 196) 80 = .ok (.iload 5, 2) := by decide +kernel
theorem d196_82 : decode (eb_b 196) 82 = .ok (.goto 5, 3) := by decide +kernel
theorem d196_85 : decode (eb_b 196) 85 = .ok (.iload 4, 2) := by decide +kernel
theorem d196_87 : decode (eb_b 196) 87 = .ok (.istore 4, 2) := by decide +kernel
theorem d196_89 : decode (eb_b 196) 89 = .ok (.iinc 5 1, 3) := by decide +kernel
theorem d196_92 : decode (eb_b 196) 92 = .ok (.goto (-80), 3) := by decide +kernel
theorem d196_95 : decode (eb_b 196) 95 = .ok (.iload 4, 2) := by decide +kernel
theorem d196_97 : decode (eb_b 196) 97 = .ok (.iconst (-1), 1) := by decide +kernel
theorem d196_98 : decode (eb_b 196) 98 = .ok (.if_icmp .ne 14, 3) := by decide +kernel
theorem d196_101 : decode (eb_b 196) 101 = .ok (.aload_n 0, 1) := by decide +kernel
theorem d196_102 : decode (eb_b 196) 102 = .ok (.getfield 55, 3) := by decide +kernel
theorem d196_105 : decode (eb_b 196) 105 = .ok (.iload_n 1, 1) := by decide +kernel
theorem d196_106 : decode (eb_b 196) 106 = .ok (.dup2, 1) := by decide +kernel
theorem d196_107 : decode (eb_b 196) 107 = .ok (.iaload, 1) := by decide +kernel
theorem d196_108 : decode (eb_b 196) 108 = .ok (.iload_n 3, 1) := by decide +kernel
theorem d196_109 : decode (eb_b 196) 109 = .ok (.iadd, 1) := by decide +kernel
theorem d196_110 : decode (eb_b 196) 110 = .ok (.iastore, 1) := by decide +kernel
theorem d196_111 : decode (eb_b 196) 111 = .ok (.return_, 1) := by decide +kernel
theorem d196_112 : decode (eb_b 196) 112 = .ok (.iload_n 3, 1) := by decide +kernel
theorem d196_113 : decode (eb_b 196) 113 = .ok (.aload_n 0, 1) := by decide +kernel
theorem d196_114 : decode (eb_b 196) 114 = .ok (.getfield 58, 3) := by decide +kernel
theorem d196_117 : decode (eb_b 196) 117 = .ok (.iload 4, 2) := by decide +kernel
theorem d196_119 : decode (eb_b 196) 119 = .ok (.iaload, 1) := by decide +kernel
theorem d196_120 : decode (eb_b 196) 120 = .ok (.if_icmp .ge 7, 3) := by decide +kernel
theorem d196_123 : decode (eb_b 196) 123 = .ok (.iload_n 3, 1) := by decide +kernel
theorem d196_124 : decode (eb_b 196) 124 = .ok (.goto 10, 3) := by decide +kernel
theorem d196_127 : decode (eb_b 196) 127 = .ok (.aload_n 0, 1) := by decide +kernel
theorem d196_128 : decode (eb_b 196) 128 = .ok (.getfield 58, 3) := by decide +kernel
theorem d196_131 : decode (eb_b 196) 131 = .ok (.iload 4, 2) := by decide +kernel
theorem d196_133 : decode (eb_b 196) 133 = .ok (.iaload, 1) := by decide +kernel
theorem d196_134 : decode (eb_b 196) 134 = .ok (.istore 5, 2) := by decide +kernel
theorem d196_136 : decode (eb_b 196) 136 = .ok (.aload_n 0, 1) := by decide +kernel
theorem d196_137 : decode (eb_b 196) 137 = .ok (.getfield 52, 3) := by decide +kernel
theorem d196_140 : decode (eb_b 196) 140 = .ok (.iload_n 1, 1) := by decide +kernel
theorem d196_141 : decode (eb_b 196) 141 = .ok (.aaload, 1) := by decide +kernel
theorem d196_142 : decode (eb_b 196) 142 = .ok (.iload 4, 2) := by decide +kernel
theorem d196_144 : decode (eb_b 196) 144 = .ok (.dup2, 1) := by decide +kernel
theorem d196_145 : decode (eb_b 196) 145 = .ok (.iaload, 1) := by decide +kernel
theorem d196_146 : decode (eb_b 196) 146 = .ok (.iload 5, 2) := by decide +kernel
theorem d196_148 : decode (eb_b 196) 148 = .ok (.iadd, 1) := by decide +kernel
theorem d196_149 : decode (eb_b 196) 149 = .ok (.iastore, 1) := by decide +kernel
theorem d196_150 : decode (eb_b 196) 150 = .ok (.aload_n 0, 1) := by decide +kernel
theorem d196_151 : decode (eb_b 196) 151 = .ok (.getfield 58, 3) := by decide +kernel
theorem d196_154 : decode (eb_b 196) 154 = .ok (.iload 4, 2) := by decide +kernel
theorem d196_156 : decode (eb_b 196) 156 = .ok (.dup2, 1) := by decide +kernel
theorem d196_157 : decode (eb_b 196) 157 = .ok (.iaload, 1) := by decide +kernel
theorem d196_158 : decode (eb_b 196) 158 = .ok (.iload 5, 2) := by decide +kernel
theorem d196_160 : decode (eb_b 196) 160 = .ok (.isub, 1) := by decide +kernel
theorem d196_161 : decode (eb_b 196) 161 = .ok (.iastore, 1) := by decide +kernel
theorem d196_162 : decode (eb_b 196) 162 = .ok (.iload_n 3, 1) := by decide +kernel
theorem d196_163 : decode (eb_b 196) 163 = .ok (.iload 5, 2) := by decide +kernel
theorem d196_165 : decode (eb_b 196) 165 = .ok (.isub, 1) := by decide +kernel
theorem d196_166 : decode (eb_b 196) 166 = .ok (.istore_n 3, 1) := by decide +kernel
theorem d196_167 : decode (eb_b 196) 167 = .ok (.goto (-165), 3) := by decide +kernel
theorem d196_170 : decode (eb_b 196) 170 = .ok (.return_, 1) := by decide +kernel
theorem d197_0 : decode (eb_b 197) 0 = .ok (.aload_n 0, 1) := by decide +kernel
theorem d197_1 : decode (eb_b 197) 1 = .ok (.invokevirtual 253, 3) := by decide +kernel
theorem wc_195 : Cond.code (eb_y 195) (eb_b 195) (eb_ml 195) (eb_rt 195) ∈ eb_LT := eb_lt 1293 (by decide +kernel)
theorem cy_195 : (eb_y 195).cls = eb_cN (eb_rc 195) ∧ (eb_y 195).cls ≠ "java/lang/invoke/MethodHandle" ∧ (eb_y 195).cls ≠ "java/lang/invoke/VarHandle" ∧ (parseMethodDescriptor (eb_y 195).desc).map (fun d => d.parameters.length) = some 0 := by decide +kernel
theorem wi_195 : Cond.instanceMethod (eb_y 195) ∈ eb_LT := eb_lt 1292 (by decide +kernel)
theorem wse_195 : Cond.selects (eb_cN (eb_rc 195)) (eb_y 195) (eb_y 195) ∈ eb_LT := eb_lt 59 (by decide +kernel)
theorem kV_195 {L q0 m pc : Nat} {lg : Nat → Bool} {ix : Nat} (hw : Cond.methodLink (eb_own m) ix (eb_y 195) ∈ eb_LT) (hd : decode (eb_b m) pc = .ok (.invokevirtual ix, 3)) : eb_Snd L q0 m pc lg (op_callv 195 1 (pc + 3)) := sn_callV true rfl (Or.inl ⟨rfl, rfl⟩) (by decide) rfl (by decide) ⟨⟨hw, wi_195, wse_195⟩, wc_195⟩ cy_195 hd
theorem wm_6_253 : Cond.methodLink (eb_cN 6) 253 (eb_y 195) ∈ eb_LT := eb_lt 1290 (by decide +kernel)
theorem d197_4 : decode (eb_b 197) 4 = .ok (.iconst 0, 1) := by decide +kernel
theorem d197_5 : decode (eb_b 197) 5 = .ok (.istore_n 1, 1) := by decide +kernel
theorem hn197_1 : 1 < eb_ml 197 := by decide
theorem d197_6 : decode (eb_b 197) 6 = .ok (.iload_n 1, 1) := by decide +kernel
theorem d197_7 : decode (eb_b 197) 7 = .ok (.iconst 2, 1) := by decide +kernel
theorem d197_8 : decode (eb_b 197) 8 = .ok (.if_icmp .ge 68, 3) := by decide +kernel
theorem d197_11 : decode (eb_b 197) 11 = .ok (.iconst 0, 1) := by decide +kernel
theorem d197_12 : decode (eb_b 197) 12 = .ok (.istore_n 2, 1) := by decide +kernel
theorem hn197_2 : 2 < eb_ml 197 := by decide
theorem d197_13 : decode (eb_b 197) 13 = .ok (.iload_n 2, 1) := by decide +kernel
theorem d197_14 : decode (eb_b 197) 14 = .ok (.aload_n 0, 1) := by decide +kernel
theorem d197_15 : decode (eb_b 197) 15 = .ok (.getfield 80, 3) := by decide +kernel
theorem d197_18 : decode (eb_b 197) 18 = .ok (.if_icmp .ge 52, 3) := by decide +kernel
theorem d197_21 : decode (eb_b 197) 21 = .ok (.aload_n 0, 1) := by decide +kernel
theorem d197_22 : decode (eb_b 197) 22 = .ok (.getfield 42, 3) := by decide +kernel
theorem d197_25 : decode (eb_b 197) 25 = .ok (.iload_n 2, 1) := by decide +kernel
theorem d197_26 : decode (eb_b 197) 26 = .ok (.aaload, 1) := by decide +kernel
theorem d197_27 : decode (eb_b 197) 27 = .ok (.iconst 0, 1) := by decide +kernel
theorem d197_28 : decode (eb_b 197) 28 = .ok (.iaload, 1) := by decide +kernel
theorem d197_29 : decode (eb_b 197) 29 = .ok (.iconst 5, 1) := by decide +kernel
theorem d197_30 : decode (eb_b 197) 30 = .ok (.if_icmp .ne 7, 3) := by decide +kernel
theorem d197_33 : decode (eb_b 197) 33 = .ok (.iconst 1, 1) := by decide +kernel
theorem d197_34 : decode (eb_b 197) 34 = .ok (.goto 4, 3) := by decide +kernel
theorem d197_37 : decode (eb_b 197) 37 = .ok (.iconst 0, 1) := by decide +kernel
theorem d197_38 : decode (eb_b 197) 38 = .ok (.iload_n 1, 1) := by decide +kernel
theorem d197_39 : decode (eb_b 197) 39 = .ok (.iconst 1, 1) := by decide +kernel
theorem d197_40 : decode (eb_b 197) 40 = .ok (.if_icmp .ne 7, 3) := by decide +kernel
theorem d197_43 : decode (eb_b 197) 43 = .ok (.iconst 1, 1) := by decide +kernel
theorem d197_44 : decode (eb_b 197) 44 = .ok (.goto 4, 3) := by decide +kernel
theorem d197_47 : decode (eb_b 197) 47 = .ok (.iconst 0, 1) := by decide +kernel
theorem d197_48 : decode (eb_b 197) 48 = .ok (.if_icmp .ne 16, 3) := by decide +kernel
theorem d197_51 : decode (eb_b 197) 51 = .ok (.aload_n 0, 1) := by decide +kernel
theorem d197_52 : decode (eb_b 197) 52 = .ok (.iload_n 2, 1) := by decide +kernel
theorem d197_53 : decode (eb_b 197) 53 = .ok (.aload_n 0, 1) := by decide +kernel
theorem d197_54 : decode (eb_b 197) 54 = .ok (.getfield 42, 3) := by decide +kernel
theorem d197_57 : decode (eb_b 197) 57 = .ok (.iload_n 2, 1) := by decide +kernel
theorem d197_58 : decode (eb_b 197) 58 = .ok (.aaload, 1) := by decide +kernel
theorem d197_59 : decode (eb_b 197) 59 = .ok (.iconst 1, 1) := by decide +kernel
theorem d197_60 : decode (eb_b 197) 60 = .ok (.iaload, 1) := by decide +kernel
theorem d197_61 : decode (eb_b 197) 61 = .ok (.invokevirtual 256, 3) := by decide +kernel
theorem wc_196 : Cond.code (eb_y 196) (eb_b 196) (eb_ml 196) (eb_rt 196) ∈ eb_LT := eb_lt 1297 (by decide +kernel)
theorem cy_196 : (eb_y 196).cls = eb_cN (eb_rc 196) ∧ (eb_y 196).cls ≠ "java/lang/invoke/MethodHandle" ∧ (eb_y 196).cls ≠ "java/lang/invoke/VarHandle" ∧ (parseMethodDescriptor (eb_y 196).desc).map (fun d => d.parameters.length) = some 2 := by decide +kernel
theorem wi_196 : Cond.instanceMethod (eb_y 196) ∈ eb_LT := eb_lt 1296 (by decide +kernel)
theorem wse_196 : Cond.selects (eb_cN (eb_rc 196)) (eb_y 196) (eb_y 196) ∈ eb_LT := eb_lt 60 (by decide +kernel)
theorem kV_196 {L q0 m pc : Nat} {lg : Nat → Bool} {ix : Nat} (hw : Cond.methodLink (eb_own m) ix (eb_y 196) ∈ eb_LT) (hd : decode (eb_b m) pc = .ok (.invokevirtual ix, 3)) : eb_Snd L q0 m pc lg (op_callv 196 3 (pc + 3)) := sn_callV true rfl (Or.inl ⟨rfl, rfl⟩) (by decide) rfl (by decide) ⟨⟨hw, wi_196, wse_196⟩, wc_196⟩ cy_196 hd
theorem wm_6_256 : Cond.methodLink (eb_cN 6) 256 (eb_y 196) ∈ eb_LT := eb_lt 1294 (by decide +kernel)
theorem d197_64 : decode (eb_b 197) 64 = .ok (.iinc 2 1, 3) := by decide +kernel
theorem d197_67 : decode (eb_b 197) 67 = .ok (.goto (-54), 3) := by decide +kernel
theorem d197_70 : decode (eb_b 197) 70 = .ok (.iinc 1 1, 3) := by decide +kernel
theorem d197_73 : decode (eb_b 197) 73 = .ok (.goto (-67), 3) := by decide +kernel
theorem d197_76 : decode (eb_b 197) 76 = .ok (.return_, 1) := by decide +kernel
theorem d198_0 : decode (eb_b 198) 0 = .ok (.iconst 0, 1) := by decide +kernel
theorem d198_1 : decode (eb_b 198) 1 = .ok (.istore_n 2, 1) := by decide +kernel
theorem hn198_2 : 2 < eb_ml 198 := by decide
theorem d198_2 : decode (eb_b 198) 2 = .ok (.iconst 0, 1) := by decide +kernel
theorem d198_3 : decode (eb_b 198) 3 = .ok (.istore_n 3, 1) := by decide +kernel
theorem hn198_3 : 3 < eb_ml 198 := by decide
theorem d198_4 : decode (eb_b 198) 4 = .ok (.iload_n 3, 1) := by decide +kernel
theorem d198_5 : decode (eb_b 198) 5 = .ok (.aload_n 0, 1) := by decide +kernel
theorem d198_6 : decode (eb_b 198) 6 = .ok (.getfield 80, 3) := by decide +kernel
theorem d198_9 : decode (eb_b 198) 9 = .ok (.if_icmp .ge 20, 3) := by decide +kernel
theorem d198_12 : decode (eb_b 198) 12 = .ok (.iload_n 2, 1) := by decide +kernel
theorem d198_13 : decode (eb_b 198) 13 = .ok (.aload_n 0, 1) := by decide +kernel
theorem d198_14 : decode (eb_b 198) 14 = .ok (.getfield 52, 3) := by decide +kernel
theorem d198_17 : decode (eb_b 198) 17 = .ok (.iload_n 3, 1) := by decide +kernel
theorem d198_18 : decode (eb_b 198) 18 = .ok (.aaload, 1) := by decide +kernel
theorem d198_19 : decode (eb_b 198) 19 = .ok (.iload_n 1, 1) := by decide +kernel
theorem d198_20 : decode (eb_b 198) 20 = .ok (.iaload, 1) := by decide +kernel
theorem d198_21 : decode (eb_b 198) 21 = .ok (.iadd, 1) := by decide +kernel
theorem d198_22 : decode (eb_b 198) 22 = .ok (.istore_n 2, 1) := by decide +kernel
theorem d198_23 : decode (eb_b 198) 23 = .ok (.iinc 3 1, 3) := by decide +kernel
theorem d198_26 : decode (eb_b 198) 26 = .ok (.goto (-22), 3) := by decide +kernel
theorem d198_29 : decode (eb_b 198) 29 = .ok (.iload_n 2, 1) := by decide +kernel
theorem d198_30 : decode (eb_b 198) 30 = .ok (.ireturn, 1) := by decide +kernel
theorem d199_0 : decode (eb_b 199) 0 = .ok (.aload_n 0, 1) := by decide +kernel
theorem d199_1 : decode (eb_b 199) 1 = .ok (.iload_n 1, 1) := by decide +kernel
theorem d199_2 : decode (eb_b 199) 2 = .ok (.invokevirtual 102, 3) := by decide +kernel
theorem d199_5 : decode (eb_b 199) 5 = .ok (.ifCond .eq 11, 3) := by decide +kernel
theorem d199_8 : decode (eb_b 199) 8 = .ok (.aload_n 0, 1) := by decide +kernel
theorem d199_9 : decode (eb_b 199) 9 = .ok (.iload_n 2, 1) := by decide +kernel
theorem d199_10 : decode (eb_b 199) 10 = .ok (.invokevirtual 127, 3) := by decide +kernel
theorem d199_13 : decode (eb_b 199) 13 = .ok (.ifCond .ne 10, 3) := by decide +kernel
theorem d199_16 : decode (eb_b 199) 16 = .ok (.aload_n 0, 1) := by decide +kernel
theorem d199_17 : decode (eb_b 199) 17 = .ok (.bipush (-2), 2) := by decide +kernel
theorem d199_19 : decode (eb_b 199) 19 = .ok (.invokevirtual 91, 3) := by decide +kernel
theorem d199_22 : decode (eb_b 199) 22 = .ok (.ireturn, 1) := by decide +kernel
theorem d199_23 : decode (eb_b 199) 23 = .ok (.aload_n 0, 1) := by decide +kernel
theorem d199_24 : decode (eb_b 199) 24 = .ok (.invokevirtual 259, 3) := by decide +kernel
theorem wc_197 : Cond.code (eb_y 197) (eb_b 197) (eb_ml 197) (eb_rt 197) ∈ eb_LT := eb_lt 1289 (by decide +kernel)
theorem cy_197 : (eb_y 197).cls = eb_cN (eb_rc 197) ∧ (eb_y 197).cls ≠ "java/lang/invoke/MethodHandle" ∧ (eb_y 197).cls ≠ "java/lang/invoke/VarHandle" ∧ (parseMethodDescriptor (eb_y 197).desc).map (fun d => d.parameters.length) = some 0 := by decide +kernel
theorem wi_197 : Cond.instanceMethod (eb_y 197) ∈ eb_LT := eb_lt 1288 (by decide +kernel)
theorem wse_197 : Cond.selects (eb_cN (eb_rc 197)) (eb_y 197) (eb_y 197) ∈ eb_LT := eb_lt 58 (by decide +kernel)
theorem kV_197 {L q0 m pc : Nat} {lg : Nat → Bool} {ix : Nat} (hw : Cond.methodLink (eb_own m) ix (eb_y 197) ∈ eb_LT) (hd : decode (eb_b m) pc = .ok (.invokevirtual ix, 3)) : eb_Snd L q0 m pc lg (op_callv 197 1 (pc + 3)) := sn_callV true rfl (Or.inl ⟨rfl, rfl⟩) (by decide) rfl (by decide) ⟨⟨hw, wi_197, wse_197⟩, wc_197⟩ cy_197 hd
theorem wm_6_259 : Cond.methodLink (eb_cN 6) 259 (eb_y 197) ∈ eb_LT := eb_lt 1286 (by decide +kernel)
theorem d199_27 : decode (eb_b 199) 27 = .ok (.aload_n 0, 1) := by decide +kernel
theorem d199_28 : decode (eb_b 199) 28 = .ok (.getfield 52, 3) := by decide +kernel
theorem d199_31 : decode (eb_b 199) 31 = .ok (.iload_n 1, 1) := by decide +kernel
theorem d199_32 : decode (eb_b 199) 32 = .ok (.aaload, 1) := by decide +kernel
theorem d199_33 : decode (eb_b 199) 33 = .ok (.iload_n 2, 1) := by decide +kernel
theorem d199_34 : decode (eb_b 199) 34 = .ok (.iaload, 1) := by decide +kernel
theorem d199_35 : decode (eb_b 199) 35 = .ok (.ireturn, 1) := by decide +kernel
theorem d200_0 : decode (eb_b 200) 0 = .ok (.aload_n 0, 1) := by decide +kernel
theorem d200_1 : decode (eb_b 200) 1 = .ok (.iload_n 1, 1) := by decide +kernel
theorem d200_2 : decode (eb_b 200) 2 = .ok (.invokevirtual 127, 3) := by decide +kernel
theorem d200_5 : decode (eb_b 200) 5 = .ok (.ifCond .ne 10, 3) := by decide +kernel
theorem d200_8 : decode (eb_b 200) 8 = .ok (.aload_n 0, 1) := by decide +kernel
theorem d200_9 : decode (eb_b 200) 9 = .ok (.bipush (-2), 2) := by decide +kernel
theorem d200_11 : decode (eb_b 200) 11 = .ok (.invokevirtual 91, 3) := by decide +kernel
theorem d200_14 : decode (eb_b 200) 14 = .ok (.ireturn, 1) := by decide +kernel
theorem d200_15 : decode (eb_b 200) 15 = .ok (.aload_n 0, 1) := by decide +kernel
theorem d200_16 : decode (eb_b 200) 16 = .ok (.invokevirtual 259, 3) := by decide +kernel
theorem d200_19 : decode (eb_b 200) 19 = .ok (.aload_n 0, 1) := by decide +kernel
theorem d200_20 : decode (eb_b 200) 20 = .ok (.iload_n 1, 1) := by decide +kernel
theorem d200_21 : decode (eb_b 200) 21 = .ok (.invokevirtual 262, 3) := by decide +kernel
theorem wc_198 : Cond.code (eb_y 198) (eb_b 198) (eb_ml 198) (eb_rt 198) ∈ eb_LT := eb_lt 1305 (by decide +kernel)
theorem cy_198 : (eb_y 198).cls = eb_cN (eb_rc 198) ∧ (eb_y 198).cls ≠ "java/lang/invoke/MethodHandle" ∧ (eb_y 198).cls ≠ "java/lang/invoke/VarHandle" ∧ (parseMethodDescriptor (eb_y 198).desc).map (fun d => d.parameters.length) = some 1 := by decide +kernel
theorem wi_198 : Cond.instanceMethod (eb_y 198) ∈ eb_LT := eb_lt 1304 (by decide +kernel)
theorem wse_198 : Cond.selects (eb_cN (eb_rc 198)) (eb_y 198) (eb_y 198) ∈ eb_LT := eb_lt 61 (by decide +kernel)
theorem kV_198 {L q0 m pc : Nat} {lg : Nat → Bool} {ix : Nat} (hw : Cond.methodLink (eb_own m) ix (eb_y 198) ∈ eb_LT) (hd : decode (eb_b m) pc = .ok (.invokevirtual ix, 3)) : eb_Snd L q0 m pc lg (op_call 198 2 (pc + 3)) := sn_callV false rfl (Or.inr ⟨rfl, _, rfl⟩) (by decide) rfl (by decide) ⟨⟨hw, wi_198, wse_198⟩, wc_198⟩ cy_198 hd
theorem wm_6_262 : Cond.methodLink (eb_cN 6) 262 (eb_y 198) ∈ eb_LT := eb_lt 1302 (by decide +kernel)
theorem d200_24 : decode (eb_b 200) 24 = .ok (.ireturn, 1) := by decide +kernel
theorem d201_0 : decode (eb_b 201) 0 = .ok (.iload_n 1, 1) := by decide +kernel
theorem d201_1 : decode (eb_b 201) 1 = .ok (.iconst (-1), 1) := by decide +kernel
theorem d201_2 : decode (eb_b 201) 2 = .ok (.if_icmp .eq 18, 3) := by decide +kernel
theorem d201_5 : decode (eb_b 201) 5 = .ok (.aload_n 0, 1) := by decide +kernel
theorem d201_6 : decode (eb_b 201) 6 = .ok (.iload_n 1, 1) := by decide +kernel
theorem d201_7 : decode (eb_b 201) 7 = .ok (.invokevirtual 102, 3) := by decide +kernel
theorem d201_10 : decode (eb_b 201) 10 = .ok (.ifCond .ne 10, 3) := by decide +kernel
theorem d201_13 : decode (eb_b 201) 13 = .ok (.aload_n 0, 1) := by decide +kernel
theorem d201_14 : decode (eb_b 201) 14 = .ok (.bipush (-2), 2) := by decide +kernel
theorem d201_16 : decode (eb_b 201) 16 = .ok (.invokevirtual 91, 3) := by decide +kernel
theorem d201_19 : decode (eb_b 201) 19 = .ok (.ireturn, 1) := by decide +kernel
theorem d201_20 : decode (eb_b 201) 20 = .ok (.aload_n 0, 1) := by decide +kernel
theorem d201_21 : decode (eb_b 201) 21 = .ok (.invokevirtual 259, 3) := by decide +kernel
theorem d201_24 : decode (eb_b 201) 24 = .ok (.iconst 0, 1) := by decide +kernel
theorem d201_25 : decode (eb_b 201) 25 = .ok (.istore_n 2, 1) := by decide +kernel
theorem hn201_2 : 2 < eb_ml 201 := by decide
theorem d201_26 : decode (eb_b 201) 26 = .ok (.iconst 0, 1) := by decide +kernel
theorem d201_27 : decode (eb_b 201) 27 = .ok (.istore_n 3, 1) := by decide +kernel
theorem hn201_3 : 3 < eb_ml 201 := by decide
theorem d201_28 : decode (eb_b 201) 28 = .ok (.iload_n 3, 1) := by decide +kernel
theorem d201_29 : decode (eb_b 201) 29 = .ok (.aload_n 0, 1) := by decide +kernel
theorem d201_30 : decode (eb_b 201) 30 = .ok (.getfield 80, 3) := by decide +kernel
theorem d201_33 : decode (eb_b 201) 33 = .ok (.if_icmp .ge 32, 3) := by decide +kernel
theorem d201_36 : decode (eb_b 201) 36 = .ok (.iload_n 2, 1) := by decide +kernel
theorem d201_37 : decode (eb_b 201) 37 = .ok (.iload_n 1, 1) := by decide +kernel
theorem d201_38 : decode (eb_b 201) 38 = .ok (.iconst (-1), 1) := by decide +kernel
theorem d201_39 : decode (eb_b 201) 39 = .ok (.if_icmp .eq 8, 3) := by decide +kernel
theorem d201_42 : decode (eb_b 201) 42 = .ok (.iload_n 3, 1) := by decide +kernel
theorem d201_43 : decode (eb_b 201) 43 = .ok (.iload_n 1, 1) := by decide +kernel
theorem d201_44 : decode (eb_b 201) 44 = .ok (.if_icmp .ne 12, 3) := by decide +kernel
theorem d201_47 : decode (eb_b 201) 47 = .ok (.aload_n 0, 1) := by decide +kernel
theorem d201_48 : decode (eb_b 201) 48 = .ok (.getfield 55, 3) := by decide +kernel
theorem d201_51 : decode (eb_b 201) 51 = .ok (.iload_n 3, 1) := by decide +kernel
theorem d201_52 : decode (eb_b 201) 52 = .ok (.iaload, 1) := by decide +kernel
theorem d201_53 : decode (eb_b 201) 53 = .ok (.goto 4, 3) := by decide +kernel
theorem d201_56 : decode (eb_b 201) 56 = .ok (.iconst 0, 1) := by decide +kernel
theorem d201_57 : decode (eb_b 201) 57 = .ok (.iadd, 1) := by decide +kernel
theorem d201_58 : decode (eb_b 201) 58 = .ok (.istore_n 2, 1) := by decide +kernel
theorem d201_59 : decode (eb_b 201) 59 = .ok (.iinc 3 1, 3) := by decide +kernel
theorem d201_62 : decode (eb_b 201) 62 = .ok (.goto (-34), 3) := by decide +kernel
theorem d201_65 : decode (eb_b 201) 65 = .ok (.iload_n 2, 1) := by decide +kernel
theorem d201_66 : decode (eb_b 201) 66 = .ok (.ireturn, 1) := by decide +kernel
theorem d202_0 : decode (eb_b 202) 0 = .ok (.aload_n 0, 1) := by decide +kernel
theorem d202_1 : decode (eb_b 202) 1 = .ok (.invokevirtual 259, 3) := by decide +kernel
theorem d202_4 : decode (eb_b 202) 4 = .ok (.iconst 0, 1) := by decide +kernel
theorem d202_5 : decode (eb_b 202) 5 = .ok (.istore_n 1, 1) := by decide +kernel
theorem hn202_1 : 1 < eb_ml 202 := by decide
theorem d202_6 : decode (eb_b 202) 6 = .ok (.iconst 0, 1) := by decide +kernel
theorem d202_7 : decode (eb_b 202) 7 = .ok (.istore_n 2, 1) := by decide +kernel
theorem hn202_2 : 2 < eb_ml 202 := by decide
theorem d202_8 : decode (eb_b 202) 8 = .ok (.iload_n 2, 1) := by decide +kernel
theorem d202_9 : decode (eb_b 202) 9 = .ok (.aload_n 0, 1) := by decide +kernel
theorem d202_10 : decode (eb_b 202) 10 = .ok (.getfield 73, 3) := by decide +kernel
theorem d202_13 : decode (eb_b 202) 13 = .ok (.if_icmp .ge 28, 3) := by decide +kernel
theorem d202_16 : decode (eb_b 202) 16 = .ok (.iload_n 1, 1) := by decide +kernel
theorem d202_17 : decode (eb_b 202) 17 = .ok (.aload_n 0, 1) := by decide +kernel
theorem d202_18 : decode (eb_b 202) 18 = .ok (.getfield 58, 3) := by decide +kernel
theorem d202_21 : decode (eb_b 202) 21 = .ok (.iload_n 2, 1) := by decide +kernel
theorem d202_22 : decode (eb_b 202) 22 = .ok (.iaload, 1) := by decide +kernel
theorem d202_23 : decode (eb_b 202) 23 = .ok (.ifCond .ne 9, 3) := by decide +kernel
theorem d202_26 : decode (eb_b 202) 26 = .ok (.iconst 1, 1) := by decide +kernel
theorem d202_27 : decode (eb_b 202) 27 = .ok (.iload_n 2, 1) := by decide +kernel
theorem d202_28 : decode (eb_b 202) 28 = .ok (.ishl, 1) := by decide +kernel
theorem d202_29 : decode (eb_b 202) 29 = .ok (.goto 4, 3) := by decide +kernel
theorem d202_32 : decode (eb_b 202) 32 = .ok (.iconst 0, 1) := by decide +kernel
theorem d202_33 : decode (eb_b 202) 33 = .ok (.ior, 1) := by decide +kernel
theorem d202_34 : decode (eb_b 202) 34 = .ok (.istore_n 1, 1) := by decide +kernel
theorem d202_35 : decode (eb_b 202) 35 = .ok (.iinc 2 1, 3) := by decide +kernel
theorem d202_38 : decode (eb_b 202) 38 = .ok (.goto (-30), 3) := by decide +kernel
theorem d202_41 : decode (eb_b 202) 41 = .ok (.iload_n 1, 1) := by decide +kernel
theorem d202_42 : decode (eb_b 202) 42 = .ok (.ireturn, 1) := by decide +kernel
theorem d203_0 : decode (eb_b 203) 0 = .ok (.bipush (-30), 2) := by decide +kernel
theorem d203_2 : decode (eb_b 203) 2 = .ok (.aload_n 0, 1) := by decide +kernel
theorem d203_3 : decode (eb_b 203) 3 = .ok (.getfield 55, 3) := by decide +kernel
theorem d203_6 : decode (eb_b 203) 6 = .ok (.iload_n 1, 1) := by decide +kernel
theorem d203_7 : decode (eb_b 203) 7 = .ok (.iaload, 1) := by decide +kernel
theorem d203_8 : decode (eb_b 203) 8 = .ok (.imul, 1) := by decide +kernel
theorem d203_9 : decode (eb_b 203) 9 = .ok (.istore_n 2, 1) := by decide +kernel
theorem hn203_2 : 2 < eb_ml 203 := by decide
theorem d203_10 : decode (eb_b 203) 10 = .ok (.iconst 0, 1) := by decide +kernel
theorem d203_11 : decode (eb_b 203) 11 = .ok (.istore_n 3, 1) := by decide +kernel
theorem hn203_3 : 3 < eb_ml 203 := by decide
theorem d203_12 : decode (eb_b 203) 12 = .ok (.iload_n 3, 1) := by decide +kernel
theorem d203_13 : decode (eb_b 203) 13 = .ok (.aload_n 0, 1) := by decide +kernel
theorem d203_14 : decode (eb_b 203) 14 = .ok (.getfield 73, 3) := by decide +kernel
theorem d203_17 : decode (eb_b 203) 17 = .ok (.if_icmp .ge 54, 3) := by decide +kernel
theorem d203_20 : decode (eb_b 203) 20 = .ok (.iload_n 2, 1) := by decide +kernel
theorem d203_21 : decode (eb_b 203) 21 = .ok (.aload_n 0, 1) := by decide +kernel
theorem d203_22 : decode (eb_b 203) 22 = .ok (.getfield 52, 3) := by decide +kernel
theorem d203_25 : decode (eb_b 203) 25 = .ok (.iload_n 1, 1) := by decide +kernel
theorem d203_26 : decode (eb_b 203) 26 = .ok (.aaload, 1) := by decide +kernel
theorem d203_27 : decode (eb_b 203) 27 = .ok (.iload_n 3, 1) := by decide +kernel
theorem d203_28 : decode (eb_b 203) 28 = .ok (.iaload, 1) := by decide +kernel
theorem d203_29 : decode (eb_b 203) 29 = .ok (.aload_n 0, 1) := by decide +kernel
theorem d203_30 : decode (eb_b 203) 30 = .ok (.getfield 39, 3) := by decide +kernel
theorem d203_33 : decode (eb_b 203) 33 = .ok (.iload_n 3, 1) := by decide +kernel
theorem d203_34 : decode (eb_b 203) 34 = .ok (.aaload, 1) := by decide +kernel
theorem d203_35 : decode (eb_b 203) 35 = .ok (.iconst 0, 1) := by decide +kernel
theorem d203_36 : decode (eb_b 203) 36 = .ok (.iaload, 1) := by decide +kernel
theorem d203_37 : decode (eb_b 203) 37 = .ok (.aload_n 0, 1) := by decide +kernel
theorem d203_38 : decode (eb_b 203) 38 = .ok (.getfield 39, 3) := by decide +kernel
theorem d203_41 : decode (eb_b 203) 41 = .ok (.iload_n 3, 1) := by decide +kernel
theorem d203_42 : decode (eb_b 203) 42 = .ok (.aaload, 1) := by decide +kernel
theorem d203_43 : decode (eb_b 203) 43 = .ok (.iconst 3, 1) := by decide +kernel
theorem d203_44 : decode (eb_b 203) 44 = .ok (.iaload, 1) := by decide +kernel
theorem d203_45 : decode (eb_b 203) 45 = .ok (.isub, 1) := by decide +kernel
theorem d203_46 : decode (eb_b 203) 46 = .ok (.aload_n 0, 1) := by decide +kernel
theorem d203_47 : decode (eb_b 203) 47 = .ok (.getfield 58, 3) := by decide +kernel
theorem d203_50 : decode (eb_b 203) 50 = .ok (.iload_n 3, 1) := by decide +kernel
theorem d203_51 : decode (eb_b 203) 51 = .ok (.iaload, 1) := by decide +kernel
theorem d203_52 : decode (eb_b 203) 52 = .ok (.ifCond .ne 8, 3) := by decide +kernel
theorem d203_55 : decode (eb_b 203) 55 = .ok (.bipush 20, 2) := by decide +kernel
theorem d203_57 : decode (eb_b 203) 57 = .ok (.goto 4, 3) := by decide +kernel
theorem d203_60 : decode (eb_b 203) 60 = .ok (.iconst 0, 1) := by decide +kernel
theorem d203_61 : decode (eb_b 203) 61 = .ok (.isub, 1) := by decide +kernel
theorem d203_62 : decode (eb_b 203) 62 = .ok (.imul, 1) := by decide +kernel
theorem d203_63 : decode (eb_b 203) 63 = .ok (.iadd, 1) := by decide +kernel
theorem d203_64 : decode (eb_b 203) 64 = .ok (.istore_n 2, 1) := by decide +kernel
theorem d203_65 : decode (eb_b 203) 65 = .ok (.iinc 3 1, 3) := by decide +kernel
theorem d203_68 : decode (eb_b 203) 68 = .ok (.goto (-56), 3) := by decide +kernel
theorem d203_71 : decode (eb_b 203) 71 = .ok (.iload_n 2, 1) := by decide +kernel
theorem d203_72 : decode (eb_b 203) 72 = .ok (.ireturn, 1) := by decide +kernel
theorem d204_0 : decode (eb_b 204) 0 = .ok (.iconst 0, 1) := by decide +kernel
theorem d204_1 : decode (eb_b 204) 1 = .ok (.istore_n 2, 1) := by decide +kernel
theorem hn204_2 : 2 < eb_ml 204 := by decide
theorem d204_2 : decode (eb_b 204) 2 = .ok (.iconst 0, 1) := by decide +kernel
theorem d204_3 : decode (eb_b 204) 3 = .ok (.istore_n 3, 1) := by decide +kernel
theorem hn204_3 : 3 < eb_ml 204 := by decide
theorem d204_4 : decode (eb_b 204) 4 = .ok (.iload_n 3, 1) := by decide +kernel
theorem d204_5 : decode (eb_b 204) 5 = .ok (.aload_n 0, 1) := by decide +kernel
theorem d204_6 : decode (eb_b 204) 6 = .ok (.getfield 80, 3) := by decide +kernel
theorem d204_9 : decode (eb_b 204) 9 = .ok (.if_icmp .ge 31, 3) := by decide +kernel
theorem d204_12 : decode (eb_b 204) 12 = .ok (.iload_n 2, 1) := by decide +kernel
theorem d204_13 : decode (eb_b 204) 13 = .ok (.iload_n 1, 1) := by decide +kernel
theorem d204_14 : decode (eb_b 204) 14 = .ok (.iconst (-1), 1) := by decide +kernel
theorem d204_15 : decode (eb_b 204) 15 = .ok (.if_icmp .eq 8, 3) := by decide +kernel
theorem d204_18 : decode (eb_b 204) 18 = .ok (.iload_n 3, 1) := by decide +kernel
theorem d204_19 : decode (eb_b 204) 19 = .ok (.iload_n 1, 1) := by decide +kernel
theorem d204_20 : decode (eb_b 204) 20 = .ok (.if_icmp .ne 11, 3) := by decide +kernel
theorem d204_23 : decode (eb_b 204) 23 = .ok (.aload_n 0, 1) := by decide +kernel
theorem d204_24 : decode (eb_b 204) 24 = .ok (.iload_n 3, 1) := by decide +kernel
theorem d204_25 : decode (eb_b 204) 25 = .ok (.invokevirtual 265, 3) := by decide +kernel
theorem wc_203 : Cond.code (eb_y 203) (eb_b 203) (eb_ml 203) (eb_rt 203) ∈ eb_LT := eb_lt 1325 (by decide +kernel)
theorem cy_203 : (eb_y 203).cls = eb_cN (eb_rc 203) ∧ (eb_y 203).cls ≠ "java/lang/invoke/MethodHandle" ∧ (eb_y 203).cls ≠ "java/lang/invoke/VarHandle" ∧ (parseMethodDescriptor (eb_y 203).desc).map (fun d => d.parameters.length) = some 1 := by decide +kernel
theorem wi_203 : Cond.instanceMethod (eb_y 203) ∈ eb_LT := eb_lt 1324 (by decide +kernel)
theorem wse_203 : Cond.selects (eb_cN (eb_rc 203)) (eb_y 203) (eb_y 203) ∈ eb_LT := eb_lt 63 (by decide +kernel)
theorem kV_203 {L q0 m pc : Nat} {lg : Nat → Bool} {ix : Nat} (hw : Cond.methodLink (eb_own m) ix (eb_y 203) ∈ eb_LT) (hd : decode (eb_b m) pc = .ok (.invokevirtual ix, 3)) : eb_Snd L q0 m pc lg (op_call 203 2 (pc + 3)) := sn_callV false rfl (Or.inr ⟨rfl, _, rfl⟩) (by decide) rfl (by decide) ⟨⟨hw, wi_203, wse_203⟩, wc_203⟩ cy_203 hd
theorem wm_6_265 : Cond.methodLink (eb_cN 6) 265 (eb_y 203) ∈ eb_LT := eb_lt 1322 (by decide +kernel)
theorem d204_28 : decode (eb_b 204) 28 = .ok (.goto 4, 3) := by decide +kernel
theorem d204_31 : decode (eb_b 204) 31 = .ok (.iconst 0, 1) := by decide +kernel
theorem d204_32 : decode (eb_b 204) 32 = .ok (.iadd, 1) := by decide +kernel
theorem d204_33 : decode (eb_b 204) 33 = .ok (.istore_n 2, 1) := by decide +kernel
theorem d204_34 : decode (eb_b 204) 34 = .ok (.iinc 3 1, 3) := by decide +kernel
theorem d204_37 : decode (eb_b 204) 37 = .ok (.goto (-33), 3) := by decide +kernel
theorem d204_40 : decode (eb_b 204) 40 = .ok (.iload_n 2, 1) := by decide +kernel
theorem d204_41 : decode (eb_b 204) 41 = .ok (.ireturn, 1) := by decide +kernel
theorem d205_0 : decode (eb_b 205) 0 = .ok (.iload_n 1, 1) := by decide +kernel
theorem d205_1 : decode (eb_b 205) 1 = .ok (.iconst (-1), 1) := by decide +kernel
theorem d205_2 : decode (eb_b 205) 2 = .ok (.if_icmp .eq 21, 3) := by decide +kernel
theorem d205_5 : decode (eb_b 205) 5 = .ok (.aload_n 0, 1) := by decide +kernel
theorem d205_6 : decode (eb_b 205) 6 = .ok (.iload_n 1, 1) := by decide +kernel
theorem d205_7 : decode (eb_b 205) 7 = .ok (.invokevirtual 102, 3) := by decide +kernel
theorem d205_10 : decode (eb_b 205) 10 = .ok (.ifCond .ne 13, 3) := by decide +kernel
theorem d205_13 : decode (eb_b 205) 13 = .ok (.ldc 252, 2) := by decide +kernel
theorem d205_15 : decode (eb_b 205) 15 = .ok (.aload_n 0, 1) := by decide +kernel
theorem d205_16 : decode (eb_b 205) 16 = .ok (.bipush (-2), 2) := by decide +kernel
theorem d205_18 : decode (eb_b 205) 18 = .ok (.invokevirtual 91, 3) := by decide +kernel
theorem d205_21 : decode (eb_b 205) 21 = .ok (.iadd, 1) := by decide +kernel
theorem d205_22 : decode (eb_b 205) 22 = .ok (.ireturn, 1) := by decide +kernel
theorem d205_23 : decode (eb_b 205) 23 = .ok (.aload_n 0, 1) := by decide +kernel
theorem d205_24 : decode (eb_b 205) 24 = .ok (.invokevirtual 259, 3) := by decide +kernel
theorem d205_27 : decode (eb_b 205) 27 = .ok (.aload_n 0, 1) := by decide +kernel
theorem d205_28 : decode (eb_b 205) 28 = .ok (.iload_n 1, 1) := by decide +kernel
theorem d205_29 : decode (eb_b 205) 29 = .ok (.invokevirtual 268, 3) := by decide +kernel
theorem wc_204 : Cond.code (eb_y 204) (eb_b 204) (eb_ml 204) (eb_rt 204) ∈ eb_LT := eb_lt 1321 (by decide +kernel)
theorem cy_204 : (eb_y 204).cls = eb_cN (eb_rc 204) ∧ (eb_y 204).cls ≠ "java/lang/invoke/MethodHandle" ∧ (eb_y 204).cls ≠ "java/lang/invoke/VarHandle" ∧ (parseMethodDescriptor (eb_y 204).desc).map (fun d => d.parameters.length) = some 1 := by decide +kernel
theorem wi_204 : Cond.instanceMethod (eb_y 204) ∈ eb_LT := eb_lt 1320 (by decide +kernel)
theorem wse_204 : Cond.selects (eb_cN (eb_rc 204)) (eb_y 204) (eb_y 204) ∈ eb_LT := eb_lt 62 (by decide +kernel)
theorem kV_204 {L q0 m pc : Nat} {lg : Nat → Bool} {ix : Nat} (hw : Cond.methodLink (eb_own m) ix (eb_y 204) ∈ eb_LT) (hd : decode (eb_b m) pc = .ok (.invokevirtual ix, 3)) : eb_Snd L q0 m pc lg (op_call 204 2 (pc + 3)) := sn_callV false rfl (Or.inr ⟨rfl, _, rfl⟩) (by decide) rfl (by decide) ⟨⟨hw, wi_204, wse_204⟩, wc_204⟩ cy_204 hd
theorem wm_6_268 : Cond.methodLink (eb_cN 6) 268 (eb_y 204) ∈ eb_LT := eb_lt 1318 (by decide +kernel)
theorem d205_32 : decode (eb_b 205) 32 = .ok (.ireturn, 1) := by decide +kernel
theorem d206_0 : decode (eb_b 206) 0 = .ok (.aload_n 0, 1) := by decide +kernel
theorem d206_1 : decode (eb_b 206) 1 = .ok (.iload_n 1, 1) := by decide +kernel
theorem d206_2 : decode (eb_b 206) 2 = .ok (.invokevirtual 127, 3) := by decide +kernel
theorem d206_5 : decode (eb_b 206) 5 = .ok (.ifCond .ne 10, 3) := by decide +kernel
theorem d206_8 : decode (eb_b 206) 8 = .ok (.aload_n 0, 1) := by decide +kernel
theorem d206_9 : decode (eb_b 206) 9 = .ok (.bipush (-2), 2) := by decide +kernel
theorem d206_11 : decode (eb_b 206) 11 = .ok (.invokevirtual 91, 3) := by decide +kernel
theorem d206_14 : decode (eb_b 206) 14 = .ok (.ireturn, 1) := by decide +kernel
theorem d206_15 : decode (eb_b 206) 15 = .ok (.aload_n 0, 1) := by decide +kernel
theorem d206_16 : decode (eb_b 206) 16 = .ok (.invokevirtual 259, 3) := by decide +kernel
theorem d206_19 : decode (eb_b 206) 19 = .ok (.aload_n 0, 1) := by decide +kernel
theorem d206_20 : decode (eb_b 206) 20 = .ok (.getfield 39, 3) := by decide +kernel
theorem d206_23 : decode (eb_b 206) 23 = .ok (.iload_n 1, 1) := by decide +kernel
theorem d206_24 : decode (eb_b 206) 24 = .ok (.aaload, 1) := by decide +kernel
theorem d206_25 : decode (eb_b 206) 25 = .ok (.iconst 3, 1) := by decide +kernel
theorem d206_26 : decode (eb_b 206) 26 = .ok (.iaload, 1) := by decide +kernel
theorem d206_27 : decode (eb_b 206) 27 = .ok (.aload_n 0, 1) := by decide +kernel
theorem d206_28 : decode (eb_b 206) 28 = .ok (.iload_n 1, 1) := by decide +kernel
theorem d206_29 : decode (eb_b 206) 29 = .ok (.invokevirtual 262, 3) := by decide +kernel
theorem d206_32 : decode (eb_b 206) 32 = .ok (.imul, 1) := by decide +kernel
theorem d206_33 : decode (eb_b 206) 33 = .ok (.ireturn, 1) := by decide +kernel
theorem d207_0 : decode (eb_b 207) 0 = .ok (.aload_n 0, 1) := by decide +kernel
theorem d207_1 : decode (eb_b 207) 1 = .ok (.getfield 42, 3) := by decide +kernel
theorem d207_4 : decode (eb_b 207) 4 = .ok (.iload_n 1, 1) := by decide +kernel
theorem d207_5 : decode (eb_b 207) 5 = .ok (.aaload, 1) := by decide +kernel
theorem d207_6 : decode (eb_b 207) 6 = .ok (.iconst 0, 1) := by decide +kernel
theorem d207_7 : decode (eb_b 207) 7 = .ok (.iaload, 1) := by decide +kernel
theorem d207_8 : decode (eb_b 207) 8 = .ok (.ifCond .eq 19, 3) := by decide +kernel
theorem d207_11 : decode (eb_b 207) 11 = .ok (.aload_n 0, 1) := by decide +kernel
theorem d207_12 : decode (eb_b 207) 12 = .ok (.getfield 42, 3) := by decide +kernel
theorem d207_15 : decode (eb_b 207) 15 = .ok (.iload_n 1, 1) := by decide +kernel
theorem d207_16 : decode (eb_b 207) 16 = .ok (.aaload, 1) := by decide +kernel
theorem d207_17 : decode (eb_b 207) 17 = .ok (.iconst 0, 1) := by decide +kernel
theorem d207_18 : decode (eb_b 207) 18 = .ok (.iaload, 1) := by decide +kernel
theorem d207_19 : decode (eb_b 207) 19 = .ok (.iconst 3, 1) := by decide +kernel
theorem d207_20 : decode (eb_b 207) 20 = .ok (.if_icmp .eq 7, 3) := by decide +kernel
theorem d207_23 : decode (eb_b 207) 23 = .ok (.iconst 1, 1) := by decide +kernel
theorem d207_24 : decode (eb_b 207) 24 = .ok (.goto 4, 3) := by decide +kernel
theorem d207_27 : decode (eb_b 207) 27 = .ok (.iconst 0, 1) := by decide +kernel
theorem d207_28 : decode (eb_b 207) 28 = .ok (.ireturn, 1) := by decide +kernel
theorem d208_0 : decode (eb_b 208) 0 = .ok (.aload_n 0, 1) := by decide +kernel
theorem d208_1 : decode (eb_b 208) 1 = .ok (.iload_n 1, 1) := by decide +kernel
theorem d208_2 : decode (eb_b 208) 2 = .ok (.invokevirtual 127, 3) := by decide +kernel
theorem d208_5 : decode (eb_b 208) 5 = .ok (.ifCond .ne 10, 3) := by decide +kernel
theorem d208_8 : decode (eb_b 208) 8 = .ok (.aload_n 0, 1) := by decide +kernel
theorem d208_9 : decode (eb_b 208) 9 = .ok (.bipush (-2), 2) := by decide +kernel
theorem d208_11 : decode (eb_b 208) 11 = .ok (.invokevirtual 91, 3) := by decide +kernel
theorem d208_14 : decode (eb_b 208) 14 = .ok (.ireturn, 1) := by decide +kernel
theorem d208_15 : decode (eb_b 208) 15 = .ok (.iconst 0, 1) := by decide +kernel
theorem d208_16 : decode (eb_b 208) 16 = .ok (.istore_n 2, 1) := by decide +kernel
theorem hn208_2 : 2 < eb_ml 208 := by decide
theorem d208_17 : decode (eb_b 208) 17 = .ok (.iconst 0, 1) := by decide +kernel
theorem d208_18 : decode (eb_b 208) 18 = .ok (.istore_n 3, 1) := by decide +kernel
theorem hn208_3 : 3 < eb_ml 208 := by decide
theorem d208_19 : decode (eb_b 208) 19 = .ok (.iload_n 3, 1) := by decide +kernel
theorem d208_20 : decode (eb_b 208) 20 = .ok (.aload_n 0, 1) := by decide +kernel
theorem d208_21 : decode (eb_b 208) 21 = .ok (.getfield 80, 3) := by decide +kernel
theorem d208_24 : decode (eb_b 208) 24 = .ok (.if_icmp .ge 41, 3) := by decide +kernel
theorem d208_27 : decode (eb_b 208) 27 = .ok (.iload_n 2, 1) := by decide +kernel
theorem d208_28 : decode (eb_b 208) 28 = .ok (.aload_n 0, 1) := by decide +kernel
theorem d208_29 : decode (eb_b 208) 29 = .ok (.iload_n 3, 1) := by decide +kernel
theorem d208_30 : decode (eb_b 208) 30 = .ok (.invokevirtual 271, 3) := by decide +kernel
theorem wc_207 : Cond.code (eb_y 207) (eb_b 207) (eb_ml 207) (eb_rt 207) ∈ eb_LT := eb_lt 1337 (by decide +kernel)
theorem cy_207 : (eb_y 207).cls = eb_cN (eb_rc 207) ∧ (eb_y 207).cls ≠ "java/lang/invoke/MethodHandle" ∧ (eb_y 207).cls ≠ "java/lang/invoke/VarHandle" ∧ (parseMethodDescriptor (eb_y 207).desc).map (fun d => d.parameters.length) = some 1 := by decide +kernel
theorem wi_207 : Cond.instanceMethod (eb_y 207) ∈ eb_LT := eb_lt 1336 (by decide +kernel)
theorem wse_207 : Cond.selects (eb_cN (eb_rc 207)) (eb_y 207) (eb_y 207) ∈ eb_LT := eb_lt 64 (by decide +kernel)
theorem kV_207 {L q0 m pc : Nat} {lg : Nat → Bool} {ix : Nat} (hw : Cond.methodLink (eb_own m) ix (eb_y 207) ∈ eb_LT) (hd : decode (eb_b m) pc = .ok (.invokevirtual ix, 3)) : eb_Snd L q0 m pc lg (op_call 207 2 (pc + 3)) := sn_callV false rfl (Or.inr ⟨rfl, _, rfl⟩) (by decide) rfl (by decide) ⟨⟨hw, wi_207, wse_207⟩, wc_207⟩ cy_207 hd
theorem wm_6_271 : Cond.methodLink (eb_cN 6) 271 (eb_y 207) ∈ eb_LT := eb_lt 1334 (by decide +kernel)
theorem d208_33 : decode (eb_b 208) 33 = .ok (.ifCond .eq 23, 3) := by decide +kernel
theorem d208_36 : decode (eb_b 208) 36 = .ok (.aload_n 0, 1) := by decide +kernel
theorem d208_37 : decode (eb_b 208) 37 = .ok (.iload_n 3, 1) := by decide +kernel
theorem d208_38 : decode (eb_b 208) 38 = .ok (.invokevirtual 112, 3) := by decide +kernel
theorem d208_41 : decode (eb_b 208) 41 = .ok (.iload_n 1, 1) := by decide +kernel
theorem d208_42 : decode (eb_b 208) 42 = .ok (.if_icmp .ne 14, 3) := by decide +kernel
theorem d208_45 : decode (eb_b 208) 45 = .ok (.aload_n 0, 1) := by decide +kernel
theorem d208_46 : decode (eb_b 208) 46 = .ok (.getfield 42, 3) := by decide +kernel
theorem d208_49 : decode (eb_b 208) 49 = .ok (.iload_n 3, 1) := by decide +kernel
theorem d208_50 : decode (eb_b 208) 50 = .ok (.aaload, 1) := by decide +kernel
theorem d208_51 : decode (eb_b 208) 51 = .ok (.iconst 1, 1) := by decide +kernel
theorem d208_52 : decode (eb_b 208) 52 = .ok (.iaload, 1) := by decide +kernel
theorem d208_53 : decode (eb_b 208) 53 = .ok (.goto 4, 3) := by decide +kernel
theorem d208_56 : decode (eb_b 208) 56 = .ok (.iconst 0, 1) := by decide +kernel
theorem d208_57 : decode (eb_b 208) 57 = .ok (.iadd, 1) := by decide +kernel
theorem d208_58 : decode (eb_b 208) 58 = .ok (.istore_n 2, 1) := by decide +kernel
theorem d208_59 : decode (eb_b 208) 59 = .ok (.iinc 3 1, 3) := by decide +kernel
theorem d208_62 : decode (eb_b 208) 62 = .ok (.goto (-43), 3) := by decide +kernel
theorem d208_65 : decode (eb_b 208) 65 = .ok (.iload_n 2, 1) := by decide +kernel
theorem d208_66 : decode (eb_b 208) 66 = .ok (.ireturn, 1) := by decide +kernel
theorem d209_0 : decode (eb_b 209) 0 = .ok (.aload_n 0, 1) := by decide +kernel
theorem d209_1 : decode (eb_b 209) 1 = .ok (.iload_n 1, 1) := by decide +kernel
theorem d209_2 : decode (eb_b 209) 2 = .ok (.invokevirtual 127, 3) := by decide +kernel
theorem d209_5 : decode (eb_b 209) 5 = .ok (.ifCond .ne 13, 3) := by decide +kernel
theorem d209_8 : decode (eb_b 209) 8 = .ok (.ldc 252, 2) := by decide +kernel
theorem d209_10 : decode (eb_b 209) 10 = .ok (.aload_n 0, 1) := by decide +kernel
theorem d209_11 : decode (eb_b 209) 11 = .ok (.bipush (-2), 2) := by decide +kernel
theorem d209_13 : decode (eb_b 209) 13 = .ok (.invokevirtual 91, 3) := by decide +kernel
theorem d209_16 : decode (eb_b 209) 16 = .ok (.iadd, 1) := by decide +kernel
theorem d209_17 : decode (eb_b 209) 17 = .ok (.ireturn, 1) := by decide +kernel
theorem d209_18 : decode (eb_b 209) 18 = .ok (.aload_n 0, 1) := by decide +kernel
theorem d209_19 : decode (eb_b 209) 19 = .ok (.getfield 39, 3) := by decide +kernel
theorem d209_22 : decode (eb_b 209) 22 = .ok (.iload_n 1, 1) := by decide +kernel
theorem d209_23 : decode (eb_b 209) 23 = .ok (.aaload, 1) := by decide +kernel
theorem d209_24 : decode (eb_b 209) 24 = .ok (.iconst 5, 1) := by decide +kernel
theorem d209_25 : decode (eb_b 209) 25 = .ok (.iaload, 1) := by decide +kernel
theorem d209_26 : decode (eb_b 209) 26 = .ok (.ifCond .ne 15, 3) := by decide +kernel
theorem d209_29 : decode (eb_b 209) 29 = .ok (.ldc 252, 2) := by decide +kernel
theorem d209_31 : decode (eb_b 209) 31 = .ok (.aload_n 0, 1) := by decide +kernel
theorem d209_32 : decode (eb_b 209) 32 = .ok (.bipush (-5), 2) := by decide +kernel
theorem d209_34 : decode (eb_b 209) 34 = .ok (.invokevirtual 91, 3) := by decide +kernel
theorem d209_37 : decode (eb_b 209) 37 = .ok (.iadd, 1) := by decide +kernel
theorem d209_38 : decode (eb_b 209) 38 = .ok (.goto 30, 3) := by decide +kernel
theorem d209_41 : decode (eb_b 209) 41 = .ok (.aload_n 0, 1) := by decide +kernel
theorem d209_42 : decode (eb_b 209) 42 = .ok (.getfield 39, 3) := by decide +kernel
theorem d209_45 : decode (eb_b 209) 45 = .ok (.iload_n 1, 1) := by decide +kernel
theorem d209_46 : decode (eb_b 209) 46 = .ok (.aaload, 1) := by decide +kernel
theorem d209_47 : decode (eb_b 209) 47 = .ok (.bipush 6, 2) := by decide +kernel
theorem d209_49 : decode (eb_b 209) 49 = .ok (.iaload, 1) := by decide +kernel
theorem d209_50 : decode (eb_b 209) 50 = .ok (.aload_n 0, 1) := by decide +kernel
theorem d209_51 : decode (eb_b 209) 51 = .ok (.getfield 39, 3) := by decide +kernel
theorem d209_54 : decode (eb_b 209) 54 = .ok (.iload_n 1, 1) := by decide +kernel
theorem d209_55 : decode (eb_b 209) 55 = .ok (.aaload, 1) := by decide +kernel
theorem d209_56 : decode (eb_b 209) 56 = .ok (.iconst 5, 1) := by decide +kernel
theorem d209_57 : decode (eb_b 209) 57 = .ok (.iaload, 1) := by decide +kernel
theorem d209_58 : decode (eb_b 209) 58 = .ok (.idiv, 1) := by decide +kernel
theorem d209_59 : decode (eb_b 209) 59 = .ok (.aload_n 0, 1) := by decide +kernel
theorem d209_60 : decode (eb_b 209) 60 = .ok (.getfield 39, 3) := by decide +kernel
theorem d209_63 : decode (eb_b 209) 63 = .ok (.iload_n 1, 1) := by decide +kernel
theorem d209_64 : decode (eb_b 209) 64 = .ok (.aaload, 1) := by decide +kernel
theorem d209_65 : decode (eb_b 209) 65 = .ok (.iconst 0, 1) := by decide +kernel
theorem d209_66 : decode (eb_b 209) 66 = .ok (.iaload, 1) := by decide +kernel
theorem d209_67 : decode (eb_b 209) 67 = .ok (.isub, 1) := by decide +kernel
theorem d209_68 : decode (eb_b 209) 68 = .ok (.ireturn, 1) := by decide +kernel
theorem d210_0 : decode (eb_b 210) 0 = .ok (.iconst (-1), 1) := by decide +kernel
theorem d210_1 : decode (eb_b 210) 1 = .ok (.istore_n 1, 1) := by decide +kernel
theorem hn210_1 : 1 < eb_ml 210 := by decide
theorem d210_2 : decode (eb_b 210) 2 = .ok (.iconst 0, 1) := by decide +kernel
theorem d210_3 : decode (eb_b 210) 3 = .ok (.istore_n 2, 1) := by decide +kernel
theorem hn210_2 : 2 < eb_ml 210 := by decide
theorem d210_4 : decode (eb_b 210) 4 = .ok (.iload_n 2, 1) := by decide +kernel
theorem d210_5 : decode (eb_b 210) 5 = .ok (.aload_n 0, 1) := by decide +kernel
theorem d210_6 : decode (eb_b 210) 6 = .ok (.getfield 73, 3) := by decide +kernel
theorem d210_9 : decode (eb_b 210) 9 = .ok (.if_icmp .ge 57, 3) := by decide +kernel
theorem d210_12 : decode (eb_b 210) 12 = .ok (.iload_n 1, 1) := by decide +kernel
theorem d210_13 : decode (eb_b 210) 13 = .ok (.iconst (-1), 1) := by decide +kernel
theorem d210_14 : decode (eb_b 210) 14 = .ok (.if_icmp .eq 40, 3) := by decide +kernel
theorem d210_17 : decode (eb_b 210) 17 = .ok (.aload_n 0, 1) := by decide +kernel
theorem d210_18 : decode (eb_b 210) 18 = .ok (.getfield 39, 3) := by decide +kernel
theorem d210_21 : decode (eb_b 210) 21 = .ok (.iload_n 2, 1) := by decide +kernel
theorem d210_22 : decode (eb_b 210) 22 = .ok (.aaload, 1) := by decide +kernel
theorem d210_23 : decode (eb_b 210) 23 = .ok (.iconst 0, 1) := by decide +kernel
theorem d210_24 : decode (eb_b 210) 24 = .ok (.iaload, 1) := by decide +kernel
theorem d210_25 : decode (eb_b 210) 25 = .ok (.aload_n 0, 1) := by decide +kernel
theorem d210_26 : decode (eb_b 210) 26 = .ok (.getfield 39, 3) := by decide +kernel
theorem d210_29 : decode (eb_b 210) 29 = .ok (.iload_n 2, 1) := by decide +kernel
theorem d210_30 : decode (eb_b 210) 30 = .ok (.aaload, 1) := by decide +kernel
theorem d210_31 : decode (eb_b 210) 31 = .ok (.iconst 3, 1) := by decide +kernel
theorem d210_32 : decode (eb_b 210) 32 = .ok (.iaload, 1) := by decide +kernel
theorem d210_33 : decode (eb_b 210) 33 = .ok (.isub, 1) := by decide +kernel
theorem d210_34 : decode (eb_b 210) 34 = .ok (.aload_n 0, 1) := by decide +kernel
theorem d210_35 : decode (eb_b 210) 35 = .ok (.getfield 39, 3) := by decide +kernel
theorem d210_38 : decode (eb_b 210) 38 = .ok (.iload_n 1, 1) := by decide +kernel
theorem d210_39 : decode (eb_b 210) 39 = .ok (.aaload, 1) := by decide +kernel
theorem d210_40 : decode (eb_b 210) 40 = .ok (.iconst 0, 1) := by decide +kernel
theorem d210_41 : decode (eb_b 210) 41 = .ok (.iaload, 1) := by decide +kernel
theorem d210_42 : decode (eb_b 210) 42 = .ok (.aload_n 0, 1) := by decide +kernel
theorem d210_43 : decode (eb_b 210) 43 = .ok (.getfield 39, 3) := by decide +kernel
theorem d210_46 : decode (eb_b 210) 46 = .ok (.iload_n 1, 1) := by decide +kernel
theorem d210_47 : decode (eb_b 210) 47 = .ok (.aaload, 1) := by decide +kernel
theorem d210_48 : decode (eb_b 210) 48 = .ok (.iconst 3, 1) := by decide +kernel
theorem d210_49 : decode (eb_b 210) 49 = .ok (.iaload, 1) := by decide +kernel
theorem d210_50 : decode (eb_b 210) 50 = .ok (.isub, 1) := by decide +kernel
theorem d210_51 : decode (eb_b 210) 51 = .ok (.if_icmp .le 7, 3) := by decide +kernel
theorem d210_54 : decode (eb_b 210) 54 = .ok (.iload_n 2, 1) := by decide +kernel
theorem d210_55 : decode (eb_b 210) 55 = .ok (.goto 4, 3) := by decide +kernel
theorem d210_58 : decode (eb_b 210) 58 = .ok (.iload_n 1, 1) := by decide +kernel
theorem d210_59 : decode (eb_b 210) 59 = .ok (.istore_n 1, 1) := by decide +kernel
theorem d210_60 : decode (eb_b 210) 60 = .ok (.iinc 2 1, 3) := by decide +kernel
theorem d210_63 : decode (eb_b 210) 63 = .ok (.goto (-59), 3) := by decide +kernel
theorem d210_66 : decode (eb_b 210) 66 = .ok (.iload_n 1, 1) := by decide +kernel
theorem d210_67 : decode (eb_b 210) 67 = .ok (.ireturn, 1) := by decide +kernel
theorem d211_0 : decode (eb_b 211) 0 = .ok (.aload_n 0, 1) := by decide +kernel
theorem d211_1 : decode (eb_b 211) 1 = .ok (.invokevirtual 274, 3) := by decide +kernel
theorem wc_210 : Cond.code (eb_y 210) (eb_b 210) (eb_ml 210) (eb_rt 210) ∈ eb_LT := eb_lt 1349 (by decide +kernel)
theorem cy_210 : (eb_y 210).cls = eb_cN (eb_rc 210) ∧ (eb_y 210).cls ≠ "java/lang/invoke/MethodHandle" ∧ (eb_y 210).cls ≠ "java/lang/invoke/VarHandle" ∧ (parseMethodDescriptor (eb_y 210).desc).map (fun d => d.parameters.length) = some 0 := by decide +kernel
theorem wi_210 : Cond.instanceMethod (eb_y 210) ∈ eb_LT := eb_lt 1348 (by decide +kernel)
theorem wse_210 : Cond.selects (eb_cN (eb_rc 210)) (eb_y 210) (eb_y 210) ∈ eb_LT := eb_lt 65 (by decide +kernel)
theorem kV_210 {L q0 m pc : Nat} {lg : Nat → Bool} {ix : Nat} (hw : Cond.methodLink (eb_own m) ix (eb_y 210) ∈ eb_LT) (hd : decode (eb_b m) pc = .ok (.invokevirtual ix, 3)) : eb_Snd L q0 m pc lg (op_call 210 1 (pc + 3)) := sn_callV false rfl (Or.inr ⟨rfl, _, rfl⟩) (by decide) rfl (by decide) ⟨⟨hw, wi_210, wse_210⟩, wc_210⟩ cy_210 hd
theorem wm_6_274 : Cond.methodLink (eb_cN 6) 274 (eb_y 210) ∈ eb_LT := eb_lt 1346 (by decide +kernel)
theorem d211_4 : decode (eb_b 211) 4 = .ok (.istore_n 1, 1) := by decide +kernel
theorem hn211_1 : 1 < eb_ml 211 := by decide
theorem d211_5 : decode (eb_b 211) 5 = .ok (.iload_n 1, 1) := by decide +kernel
theorem d211_6 : decode (eb_b 211) 6 = .ok (.iconst (-1), 1) := by decide +kernel
theorem d211_7 : decode (eb_b 211) 7 = .ok (.if_icmp .ne 12, 3) := by decide +kernel
theorem d211_10 : decode (eb_b 211) 10 = .ok (.aload_n 0, 1) := by decide +kernel
theorem d211_11 : decode (eb_b 211) 11 = .ok (.bipush (-5), 2) := by decide +kernel
theorem d211_13 : decode (eb_b 211) 13 = .ok (.invokevirtual 91, 3) := by decide +kernel
theorem d211_16 : decode (eb_b 211) 16 = .ok (.goto 4, 3) := by decide +kernel
theorem d211_19 : decode (eb_b 211) 19 = .ok (.iload_n 1, 1) := by decide +kernel
theorem d211_20 : decode (eb_b 211) 20 = .ok (.ireturn, 1) := by decide +kernel
theorem d212_0 : decode (eb_b 212) 0 = .ok (.aload_n 0, 1) := by decide +kernel
theorem d212_1 : decode (eb_b 212) 1 = .ok (.getfield 39, 3) := by decide +kernel
theorem d212_4 : decode (eb_b 212) 4 = .ok (.iload_n 1, 1) := by decide +kernel
theorem d212_5 : decode (eb_b 212) 5 = .ok (.aaload, 1) := by decide +kernel
theorem d212_6 : decode (eb_b 212) 6 = .ok (.iconst 4, 1) := by decide +kernel
theorem d212_7 : decode (eb_b 212) 7 = .ok (.iaload, 1) := by decide +kernel
theorem d212_8 : decode (eb_b 212) 8 = .ok (.aload_n 0, 1) := by decide +kernel
theorem d212_9 : decode (eb_b 212) 9 = .ok (.getfield 39, 3) := by decide +kernel
theorem d212_12 : decode (eb_b 212) 12 = .ok (.iload_n 1, 1) := by decide +kernel
theorem d212_13 : decode (eb_b 212) 13 = .ok (.aaload, 1) := by decide +kernel
theorem d212_14 : decode (eb_b 212) 14 = .ok (.iconst 0, 1) := by decide +kernel
theorem d212_15 : decode (eb_b 212) 15 = .ok (.iaload, 1) := by decide +kernel
theorem d212_16 : decode (eb_b 212) 16 = .ok (.isub, 1) := by decide +kernel
theorem d212_17 : decode (eb_b 212) 17 = .ok (.istore_n 2, 1) := by decide +kernel
theorem hn212_2 : 2 < eb_ml 212 := by decide
theorem d212_18 : decode (eb_b 212) 18 = .ok (.iload_n 2, 1) := by decide +kernel
theorem d212_19 : decode (eb_b 212) 19 = .ok (.ifCond .ge 8, 3) := by decide +kernel
theorem d212_22 : decode (eb_b 212) 22 = .ok (.iload_n 2, 1) := by decide +kernel
theorem d212_23 : decode (eb_b 212) 23 = .ok (.ineg, 1) := by decide +kernel
theorem d212_24 : decode (eb_b 212) 24 = .ok (.goto 4, 3) := by decide +kernel
theorem d212_27 : decode (eb_b 212) 27 = .ok (.iload_n 2, 1) := by decide +kernel
theorem d212_28 : decode (eb_b 212) 28 = .ok (.ireturn, 1) := by decide +kernel
theorem d213_0 : decode (eb_b 213) 0 = .ok (.iconst (-1), 1) := by decide +kernel
theorem d213_1 : decode (eb_b 213) 1 = .ok (.istore_n 1, 1) := by decide +kernel
theorem hn213_1 : 1 < eb_ml 213 := by decide
theorem d213_2 : decode (eb_b 213) 2 = .ok (.iconst 0, 1) := by decide +kernel
theorem d213_3 : decode (eb_b 213) 3 = .ok (.istore_n 2, 1) := by decide +kernel
theorem hn213_2 : 2 < eb_ml 213 := by decide
theorem d213_4 : decode (eb_b 213) 4 = .ok (.iload_n 2, 1) := by decide +kernel
theorem d213_5 : decode (eb_b 213) 5 = .ok (.aload_n 0, 1) := by decide +kernel
theorem d213_6 : decode (eb_b 213) 6 = .ok (.getfield 73, 3) := by decide +kernel
theorem d213_9 : decode (eb_b 213) 9 = .ok (.if_icmp .ge 55, 3) := by decide +kernel
theorem d213_12 : decode (eb_b 213) 12 = .ok (.aload_n 0, 1) := by decide +kernel
theorem d213_13 : decode (eb_b 213) 13 = .ok (.getfield 39, 3) := by decide +kernel
theorem d213_16 : decode (eb_b 213) 16 = .ok (.iload_n 2, 1) := by decide +kernel
theorem d213_17 : decode (eb_b 213) 17 = .ok (.aaload, 1) := by decide +kernel
theorem d213_18 : decode (eb_b 213) 18 = .ok (.iconst 4, 1) := by decide +kernel
theorem d213_19 : decode (eb_b 213) 19 = .ok (.iaload, 1) := by decide +kernel
theorem d213_20 : decode (eb_b 213) 20 = .ok (.iconst (-1), 1) := by decide +kernel
theorem d213_21 : decode (eb_b 213) 21 = .ok (.if_icmp .eq 7, 3) := by decide +kernel
theorem d213_24 : decode (eb_b 213) 24 = .ok (.iconst 1, 1) := by decide +kernel
theorem d213_25 : decode (eb_b 213) 25 = .ok (.goto 4, 3) := by decide +kernel
theorem d213_28 : decode (eb_b 213) 28 = .ok (.iconst 0, 1) := by decide +kernel
theorem d213_29 : decode (eb_b 213) 29 = .ok (.istore_n 3, 1) := by decide +kernel
theorem hn213_3 : 3 < eb_ml 213 := by decide
theorem d213_30 : decode (eb_b 213) 30 = .ok (.iload_n 3, 1) := by decide +kernel
theorem d213_31 : decode (eb_b 213) 31 = .ok (.ifCond .eq 25, 3) := by decide +kernel
theorem d213_34 : decode (eb_b 213) 34 = .ok (.iload_n 1, 1) := by decide +kernel
theorem d213_35 : decode (eb_b 213) 35 = .ok (.iconst (-1), 1) := by decide +kernel
theorem d213_36 : decode (eb_b 213) 36 = .ok (.if_icmp .eq 16, 3) := by decide +kernel
theorem d213_39 : decode (eb_b 213) 39 = .ok (.aload_n 0, 1) := by decide +kernel
theorem d213_40 : decode (eb_b 213) 40 = .ok (.iload_n 2, 1) := by decide +kernel
theorem d213_41 : decode (eb_b 213) 41 = .ok (.invokevirtual 277, 3) := by decide +kernel
theorem wc_212 : Cond.code (eb_y 212) (eb_b 212) (eb_ml 212) (eb_rt 212) ∈ eb_LT := eb_lt 1357 (by decide +kernel)
theorem cy_212 : (eb_y 212).cls = eb_cN (eb_rc 212) ∧ (eb_y 212).cls ≠ "java/lang/invoke/MethodHandle" ∧ (eb_y 212).cls ≠ "java/lang/invoke/VarHandle" ∧ (parseMethodDescriptor (eb_y 212).desc).map (fun d => d.parameters.length) = some 1 := by decide +kernel
theorem wi_212 : Cond.instanceMethod (eb_y 212) ∈ eb_LT := eb_lt 1356 (by decide +kernel)
theorem wse_212 : Cond.selects (eb_cN (eb_rc 212)) (eb_y 212) (eb_y 212) ∈ eb_LT := eb_lt 66 (by decide +kernel)
theorem kV_212 {L q0 m pc : Nat} {lg : Nat → Bool} {ix : Nat} (hw : Cond.methodLink (eb_own m) ix (eb_y 212) ∈ eb_LT) (hd : decode (eb_b m) pc = .ok (.invokevirtual ix, 3)) : eb_Snd L q0 m pc lg (op_call 212 2 (pc + 3)) := sn_callV false rfl (Or.inr ⟨rfl, _, rfl⟩) (by decide) rfl (by decide) ⟨⟨hw, wi_212, wse_212⟩, wc_212⟩ cy_212 hd
theorem wm_6_277 : Cond.methodLink (eb_cN 6) 277 (eb_y 212) ∈ eb_LT := eb_lt 1354 (by decide +kernel)
theorem d213_44 : decode (eb_b 213) 44 = .ok (.aload_n 0, 1) := by decide +kernel
theorem d213_45 : decode (eb_b 213) 45 = .ok (.iload_n 1, 1) := by decide +kernel
theorem d213_46 : decode (eb_b 213) 46 = .ok (.invokevirtual 277, 3) := by decide +kernel
theorem d213_49 : decode (eb_b 213) 49 = .ok (.if_icmp .le 7, 3) := by decide +kernel
theorem d213_52 : decode (eb_b 213) 52 = .ok (.iload_n 2, 1) := by decide +kernel
theorem d213_53 : decode (eb_b 213) 53 = .ok (.goto 4, 3) := by decide +kernel
theorem d213_56 : decode (eb_b 213) 56 = .ok (.iload_n 1, 1) := by decide +kernel
theorem d213_57 : decode (eb_b 213) 57 = .ok (.istore_n 1, 1) := by decide +kernel
theorem d213_58 : decode (eb_b 213) 58 = .ok (.iinc 2 1, 3) := by decide +kernel
theorem d213_61 : decode (eb_b 213) 61 = .ok (.goto (-57), 3) := by decide +kernel
theorem d213_64 : decode (eb_b 213) 64 = .ok (.iload_n 1, 1) := by decide +kernel
theorem d213_65 : decode (eb_b 213) 65 = .ok (.ireturn, 1) := by decide +kernel
theorem d214_0 : decode (eb_b 214) 0 = .ok (.aload_n 0, 1) := by decide +kernel
theorem d214_1 : decode (eb_b 214) 1 = .ok (.iload_n 1, 1) := by decide +kernel
theorem d214_2 : decode (eb_b 214) 2 = .ok (.invokevirtual 127, 3) := by decide +kernel
theorem d214_5 : decode (eb_b 214) 5 = .ok (.ifCond .ne 10, 3) := by decide +kernel
theorem d214_8 : decode (eb_b 214) 8 = .ok (.aload_n 0, 1) := by decide +kernel
theorem d214_9 : decode (eb_b 214) 9 = .ok (.bipush (-2), 2) := by decide +kernel
theorem d214_11 : decode (eb_b 214) 11 = .ok (.invokevirtual 91, 3) := by decide +kernel
theorem d214_14 : decode (eb_b 214) 14 = .ok (.ireturn, 1) := by decide +kernel
theorem d214_15 : decode (eb_b 214) 15 = .ok (.aload_n 0, 1) := by decide +kernel
theorem d214_16 : decode (eb_b 214) 16 = .ok (.getfield 39, 3) := by decide +kernel
theorem d214_19 : decode (eb_b 214) 19 = .ok (.iload_n 1, 1) := by decide +kernel
theorem d214_20 : decode (eb_b 214) 20 = .ok (.aaload, 1) := by decide +kernel
theorem d214_21 : decode (eb_b 214) 21 = .ok (.iconst 2, 1) := by decide +kernel
theorem d214_22 : decode (eb_b 214) 22 = .ok (.iaload, 1) := by decide +kernel
theorem d214_23 : decode (eb_b 214) 23 = .ok (.istore_n 2, 1) := by decide +kernel
theorem hn214_2 : 2 < eb_ml 214 := by decide
theorem d214_24 : decode (eb_b 214) 24 = .ok (.iconst (-1), 1) := by decide +kernel
theorem d214_25 : decode (eb_b 214) 25 = .ok (.istore_n 3, 1) := by decide +kernel
theorem hn214_3 : 3 < eb_ml 214 := by decide
theorem d214_26 : decode (eb_b 214) 26 = .ok (.iconst 1, 1) := by decide +kernel
theorem d214_27 : decode (eb_b 214) 27 = .ok (.istore 4, 2) := by decide +kernel
theorem hn214_4 : 4 < eb_ml 214 := by decide
theorem d214_29 : decode (eb_b 214) 29 = .ok (.iload 4, 2) := by decide +kernel
theorem d214_31 : decode (eb_b 214) 31 = .ok (.bipush 20, 2) := by decide +kernel
theorem d214_33 : decode (eb_b 214) 33 = .ok (.if_icmp .gt 44, 3) := by decide +kernel
theorem d214_36 : decode (eb_b 214) 36 = .ok (.iload_n 3, 1) := by decide +kernel
theorem d214_37 : decode (eb_b 214) 37 = .ok (.iconst (-1), 1) := by decide +kernel
theorem d214_38 : decode (eb_b 214) 38 = .ok (.if_icmp .ne 39, 3) := by decide +kernel
theorem d214_41 : decode (eb_b 214) 41 = .ok (.aload_n 0, 1) := by decide +kernel
theorem d214_42 : decode (eb_b 214) 42 = .ok (.getfield 39, 3) := by decide +kernel
theorem d214_45 : decode (eb_b 214) 45 = .ok (.iload_n 1, 1) := by decide +kernel
theorem d214_46 : decode (eb_b 214) 46 = .ok (.aaload, 1) := by decide +kernel
theorem d214_47 : decode (eb_b 214) 47 = .ok (.iconst 2, 1) := by decide +kernel
theorem d214_48 : decode (eb_b 214) 48 = .ok (.iload 4, 2) := by decide +kernel
theorem d214_50 : decode (eb_b 214) 50 = .ok (.iastore, 1) := by decide +kernel
theorem d214_51 : decode (eb_b 214) 51 = .ok (.aload_n 0, 1) := by decide +kernel
theorem d214_52 : decode (eb_b 214) 52 = .ok (.invokevirtual 259, 3) := by decide +kernel
theorem d214_55 : decode (eb_b 214) 55 = .ok (.aload_n 0, 1) := by decide +kernel
theorem d214_56 : decode (eb_b 214) 56 = .ok (.getfield 58, 3) := by decide +kernel
theorem d214_59 : decode (eb_b 214) 59 = .ok (.iload_n 1, 1) := by decide +kernel
theorem d214_60 : decode (eb_b 214) 60 = .ok (.iaload, 1) := by decide +kernel
theorem d214_61 : decode (eb_b 214) 61 = .ok (.ifCond .le 8, 3) := by decide +kernel
theorem d214_64 : decode (eb_b 214) 64 = .ok (.iload 4, 2) := by decide +kernel
theorem d214_66 : decode (eb_b 214) 66 = .ok (.goto 4, 3) := by decide +kernel
theorem d214_69 : decode (eb_b 214) 69 = .ok (.iconst (-1), 1) := by decide +kernel
theorem d214_70 : decode (eb_b 214) 70 = .ok (.istore_n 3, 1) := by decide +kernel
theorem d214_71 : decode (eb_b 214) 71 = .ok (.iinc 4 1, 3) := by decide +kernel
theorem d214_74 : decode (eb_b 214) 74 = .ok (.goto (-45), 3) := by decide +kernel
theorem d214_77 : decode (eb_b 214) 77 = .ok (.aload_n 0, 1) := by decide +kernel
theorem d214_78 : decode (eb_b 214) 78 = .ok (.getfield 39, 3) := by decide +kernel
theorem d214_81 : decode (eb_b 214) 81 = .ok (.iload_n 1, 1) := by decide +kernel
theorem d214_82 : decode (eb_b 214) 82 = .ok (.aaload, 1) := by decide +kernel
theorem d214_83 : decode (eb_b 214) 83 = .ok (.iconst 2, 1) := by decide +kernel
theorem d214_84 : decode (eb_b 214) 84 = .ok (.iload_n 2, 1) := by decide +kernel
theorem d214_85 : decode (eb_b 214) 85 = .ok (.iastore, 1) := by decide +kernel
theorem d214_86 : decode (eb_b 214) 86 = .ok (.iload_n 3, 1) := by decide +kernel
theorem d214_87 : decode (eb_b 214) 87 = .ok (.ireturn, 1) := by decide +kernel
section
variable {L q0 : Nat}
theorem sc187_0 : eb_AS L q0 187 (eb_lg 187) [(0, op_aload 0 1), (1, op_call 246 1 4), (4, op_astore 1 5), (5, op_aload 0 6), (6, op_call 186 1 9), (9, op_istore 2 10), (10, op_aload 0 11), (11, op_push (zi 0) 12), (12, op_putI L 6 7 15), (15, op_iload 2 16), (16, op_ifne 39 19), (19, op_aload 0 20), (20, op_aload 1 21), (21, op_callv 248 2 24), (24, op_aload 0 25), (25, op_push (zi (-2)) 27), (27, op_call 145 2 30), (30, op_pop 31), (31, op_push (zi (-20)) 33), (33, op_aload 0 34), (34, op_getI L 6 22 37), (37, op_ii (· - ·) 38), (38, op_iret), (39, op_aload 0 40), (40, op_getI L 6 24 43), (43, op_iret)] := ⟨sn_aload_n d187_0 rfl, kV_246 wm_6_227 d187_1, sn_astore_n (eb_hlg (Or.inl rfl)) hn187_1 d187_4 rfl, sn_aload_n d187_5 rfl, kV_186 wm_6_231 d187_6, sn_istore_n (eb_hlg (Or.inl rfl)) hn187_2 d187_9 rfl, sn_aload_n d187_10 rfl, sn_iconst d187_11 (by decide), sn_putI (by decide) fi_6_7.1 fi_6_7.2 wf_6_147 (Or.inl rfl) fp_6_7 d187_12, sn_iload_n d187_15 rfl, sn_ifne d187_16 (by decide), sn_aload_n d187_19 rfl, sn_aload_n d187_20 rfl, kV_248 wm_6_234 d187_21, sn_aload_n d187_24 rfl, sn_bipush d187_25 (by decide), kV_145 wm_6_91 d187_27, sn_pop d187_30, sn_bipush d187_31 (by decide), sn_aload_n d187_33 rfl, sn_getI (by decide) fi_6_22.1 fi_6_22.2 wf_6_169 d187_34, sn_isub d187_37, sn_iret d187_38 rfl, sn_aload_n d187_39 rfl, sn_getI (by decide) fi_6_24.1 fi_6_24.2 wf_6_221 d187_40, sn_iret d187_43 rfl, trivial⟩
theorem sd187 : ∀ pc, eb_Snd L q0 187 pc (eb_lg 187) (eb_cd L 187 pc) := eb_AS_all (hk187 (L := L)) (sc187_0)
theorem sc188_0 : eb_AS L q0 188 (eb_lg 188) [(0, op_aload 0 1), (1, op_iload 1 2), (2, op_call 148 2 5), (5, op_ifeq 31 8), (8, op_iload 2 9), (9, op_i2l 10), (10, op_push (zl 0) 11), (11, op_push (zl 6) 14), (14, op_call 146 3 17), (17, op_ifeq 31 20), (20, op_aload 0 21), (21, op_getR L 6 10 24), (24, op_iload 1 25), (25, op_aald L 26), (26, op_iload 2 27), (27, op_iald L 28), (28, op_goto 37), (31, op_aload 0 32), (32, op_push (zi (-2)) 34), (34, op_call 145 2 37), (37, op_iret)] := ⟨sn_aload_n d188_0 rfl, sn_iload_n d188_1 rfl, kV_148 wm_6_127 d188_2, sn_ifeq d188_5 (by decide), sn_iload_n d188_8 rfl, sn_i2l d188_9, sn_lconst d188_10 (by decide), sn_ldc2 d188_11 wl_6_238, kS_146 wm_6_76 d188_14, sn_ifeq d188_17 (by decide), sn_aload_n d188_20 rfl, sn_getR (by decide) fi_6_10.1 fi_6_10.2 wf_6_39 d188_21, sn_iload_n d188_24 rfl, sn_aald d188_25, sn_iload_n d188_26 rfl, sn_iald d188_27, sn_goto d188_28 (by decide), sn_aload_n d188_31 rfl, sn_bipush d188_32 (by decide), kV_145 wm_6_91 d188_34, sn_iret d188_37 rfl, trivial⟩
theorem sd188 : ∀ pc, eb_Snd L q0 188 pc (eb_lg 188) (eb_cd L 188 pc) := eb_AS_all (hk188 (L := L)) (sc188_0)
theorem sc189_0 : eb_AS L q0 189 (eb_lg 189) [(0, op_aload 0 1), (1, op_iload 1 2), (2, op_call 149 2 5), (5, op_ifeq 31 8), (8, op_iload 2 9), (9, op_i2l 10), (10, op_push (zl 0) 11), (11, op_push (zl 2) 14), (14, op_call 146 3 17), (17, op_ifeq 31 20), (20, op_aload 0 21), (21, op_getR L 6 12 24), (24, op_iload 1 25), (25, op_aald L 26), (26, op_iload 2 27), (27, op_iald L 28), (28, op_goto 37), (31, op_aload 0 32), (32, op_push (zi (-2)) 34), (34, op_call 145 2 37), (37, op_iret)] := ⟨sn_aload_n d189_0 rfl, sn_iload_n d189_1 rfl, kV_149 wm_6_102 d189_2, sn_ifeq d189_5 (by decide), sn_iload_n d189_8 rfl, sn_i2l d189_9, sn_lconst d189_10 (by decide), sn_ldc2 d189_11 wl_6_240, kS_146 wm_6_76 d189_14, sn_ifeq d189_17 (by decide), sn_aload_n d189_20 rfl, sn_getR (by decide) fi_6_12.1 fi_6_12.2 wf_6_42 d189_21, sn_iload_n d189_24 rfl, sn_aald d189_25, sn_iload_n d189_26 rfl, sn_iald d189_27, sn_goto d189_28 (by decide), sn_aload_n d189_31 rfl, sn_bipush d189_32 (by decide), kV_145 wm_6_91 d189_34, sn_iret d189_37 rfl, trivial⟩
theorem sd189 : ∀ pc, eb_Snd L q0 189 pc (eb_lg 189) (eb_cd L 189 pc) := eb_AS_all (hk189 (L := L)) (sc189_0)
theorem sc190_0 : eb_AS L q0 190 (eb_lg 190) [(0, op_iload 1 1), (1, op_push (zi 2) 2), (2, op_aload 0 3), (3, op_getI L 6 13 6), (6, op_ii (· * ·) 7), (7, op_ii (· - ·) 8), (8, op_istore 2 9), (9, op_iload 1 10), (10, op_push (zi (-1)) 11), (11, op_iceq 18 14), (14, op_iload 2 15), (15, op_ifge 22 18), (18, op_push (zi 0) 19), (19, op_goto 23), (22, op_iload 2 23), (23, op_iret)] := ⟨sn_iload_n d190_0 rfl, sn_iconst d190_1 (by decide), sn_aload_n d190_2 rfl, sn_getI (by decide) fi_6_13.1 fi_6_13.2 wf_6_132 d190_3, sn_imul d190_6, sn_isub d190_7, sn_istore_n (eb_hlg (Or.inl rfl)) hn190_2 d190_8 rfl, sn_iload_n d190_9 rfl, sn_iconst d190_10 (by decide), sn_iceq d190_11 (by decide), sn_iload_n d190_14 rfl, sn_ifge d190_15 (by decide), sn_iconst d190_18 (by decide), sn_goto d190_19 (by decide), sn_iload_n d190_22 rfl, sn_iret d190_23 rfl, trivial⟩
theorem sd190 : ∀ pc, eb_Snd L q0 190 pc (eb_lg 190) (eb_cd L 190 pc) := eb_AS_all (hk190 (L := L)) (sc190_0)
theorem sc191_0 : eb_AS L q0 191 (eb_lg 191) [(0, op_aload 0 1), (1, op_getR L 6 10 4), (4, op_iload 2 5), (5, op_aald L 6), (6, op_astore 4 8), (8, op_aload 0 9), (9, op_getR L 6 12 12), (12, op_iload 1 13), (13, op_aald L 14), (14, op_push (zi 2) 15), (15, op_iald L 16), (16, op_istore 5 18), (18, op_aload 0 19), (19, op_getR L 6 12 22), (22, op_iload 1 23), (23, op_aald L 24), (24, op_push (zi 0) 25), (25, op_iald L 26), (26, op_sw [(0, 60), (1, 139), (2, 68), (3, 92), (4, 104)] 139), (60, op_push (zi 100) 62), (62, op_aload 4 64), (64, op_push (zi 3) 65), (65, op_iald L 66), (66, op_ii (· - ·) 67), (67, op_iret), (68, op_iload 3 69), (69, op_push (zi (-1)) 70), (70, op_icne 83 73), (73, op_push (zi 100) 75), (75, op_aload 4 77), (77, op_push (zi 3) 78), (78, op_iald L 79), (79, op_ii (· - ·) 80), (80, op_goto 91), (83, op_aload 0 84), (84, op_iload 3 85), (85, op_call 190 2 88), (88, op_iload 5 90), (90, op_ii (· - ·) 91), (91, op_iret)] := ⟨sn_aload_n d191_0 rfl, sn_getR (by decide) fi_6_10.1 fi_6_10.2 wf_6_39 d191_1, sn_iload_n d191_4 rfl, sn_aald d191_5, sn_astore (eb_hlg (Or.inl rfl)) hn191_4 d191_6, sn_aload_n d191_8 rfl, sn_getR (by decide) fi_6_12.1 fi_6_12.2 wf_6_42 d191_9, sn_iload_n d191_12 rfl, sn_aald d191_13, sn_iconst d191_14 (by decide), sn_iald d191_15, sn_istore (eb_hlg (Or.inl rfl)) hn191_5 d191_16, sn_aload_n d191_18 rfl, sn_getR (by decide) fi_6_12.1 fi_6_12.2 wf_6_42 d191_19, sn_iload_n d191_22 rfl, sn_aald d191_23, sn_iconst d191_24 (by decide), sn_iald d191_25, sn_sw d191_26 (by decide) (by decide +kernel) (by decide), sn_bipush d191_60 (by decide), sn_aload d191_62, sn_iconst d191_64 (by decide), sn_iald d191_65, sn_isub d191_66, sn_iret d191_67 rfl, sn_iload_n d191_68 rfl, sn_iconst d191_69 (by decide), sn_icne d191_70 (by decide), sn_bipush d191_73 (by decide), sn_aload d191_75, sn_iconst d191_77 (by decide), sn_iald d191_78, sn_isub d191_79, sn_goto d191_80 (by decide), sn_aload_n d191_83 rfl, sn_iload_n d191_84 rfl, kV_190 wm_6_242 d191_85, sn_iload d191_88, sn_isub d191_90, sn_iret d191_91 rfl, trivial⟩
theorem sc191_1 : eb_AS L q0 191 (eb_lg 191) [(92, op_aload 4 94), (94, op_push (zi 0) 95), (95, op_iald L 96), (96, op_aload 4 98), (98, op_push (zi 3) 99), (99, op_iald L 100), (100, op_push (zi 2) 101), (101, op_iid (· / ·) 102), (102, op_ii (· - ·) 103), (103, op_iret), (104, op_aload 4 106), (106, op_push (zi 5) 107), (107, op_iald L 108), (108, op_iload 5 110), (110, op_iclt 133 113), (113, op_aload 4 115), (115, op_push (zi 5) 116), (116, op_iald L 117), (117, op_ifle 133 120), (120, op_aload 4 122), (122, op_push (zi 6) 124), (124, op_iald L 125), (125, op_aload 4 127), (127, op_push (zi 5) 128), (128, op_iald L 129), (129, op_iid (· / ·) 130), (130, op_goto 138), (133, op_aload 0 134), (134, op_iload 3 135), (135, op_call 190 2 138), (138, op_iret), (139, op_aload 0 140), (140, op_iload 3 141), (141, op_call 190 2 144), (144, op_iret)] := ⟨sn_aload d191_92, sn_iconst d191_94 (by decide), sn_iald d191_95, sn_aload d191_96, sn_iconst d191_98 (by decide), sn_iald d191_99, sn_iconst d191_100 (by decide), sn_idiv d191_101, sn_isub d191_102, sn_iret d191_103 rfl, sn_aload d191_104, sn_iconst d191_106 (by decide), sn_iald d191_107, sn_iload d191_108, sn_iclt d191_110 (by decide), sn_aload d191_113, sn_iconst d191_115 (by decide), sn_iald d191_116, sn_ifle d191_117 (by decide), sn_aload d191_120, sn_bipush d191_122 (by decide), sn_iald d191_124, sn_aload d191_125, sn_iconst d191_127 (by decide), sn_iald d191_128, sn_idiv d191_129, sn_goto d191_130 (by decide), sn_aload_n d191_133 rfl, sn_iload_n d191_134 rfl, kV_190 wm_6_242 d191_135, sn_iret d191_138 rfl, sn_aload_n d191_139 rfl, sn_iload_n d191_140 rfl, kV_190 wm_6_242 d191_141, sn_iret d191_144 rfl, trivial⟩
theorem sd191 : ∀ pc, eb_Snd L q0 191 pc (eb_lg 191) (eb_cd L 191 pc) := eb_AS_all (hk191 (L := L)) (eb_AS_app sc191_0 (sc191_1))
theorem sc192_0 : eb_AS L q0 192 (eb_lg 192) [(0, op_aload 0 1), (1, op_iload 1 2), (2, op_iload 2 3), (3, op_aload 0 4), (4, op_getR L 6 10 7), (7, op_iload 2 8), (8, op_aald L 9), (9, op_push (zi 4) 10), (10, op_iald L 11), (11, op_call 191 4 14), (14, op_iret)] := ⟨sn_aload_n d192_0 rfl, sn_iload_n d192_1 rfl, sn_iload_n d192_2 rfl, sn_aload_n d192_3 rfl, sn_getR (by decide) fi_6_10.1 fi_6_10.2 wf_6_39 d192_4, sn_iload_n d192_7 rfl, sn_aald d192_8, sn_iconst d192_9 (by decide), sn_iald d192_10, kV_191 wm_6_245 d192_11, sn_iret d192_14 rfl, trivial⟩
theorem sd192 : ∀ pc, eb_Snd L q0 192 pc (eb_lg 192) (eb_cd L 192 pc) := eb_AS_all (hk192 (L := L)) (sc192_0)
theorem sc193_0 : eb_AS L q0 193 (eb_lg 193) [(0, op_aload 0 1), (1, op_iload 1 2), (2, op_call 149 2 5), (5, op_ifeq 25 8), (8, op_aload 0 9), (9, op_iload 2 10), (10, op_call 148 2 13), (13, op_ifeq 25 16), (16, op_aload 0 17), (17, op_iload 1 18), (18, op_iload 2 19), (19, op_call 192 3 22), (22, op_goto 34), (25, op_push (zi (-1000000)) 27), (27, op_aload 0 28), (28, op_push (zi (-2)) 30), (30, op_call 145 2 33), (33, op_ii (· + ·) 34), (34, op_iret)] := ⟨sn_aload_n d193_0 rfl, sn_iload_n d193_1 rfl, kV_149 wm_6_102 d193_2, sn_ifeq d193_5 (by decide), sn_aload_n d193_8 rfl, sn_iload_n d193_9 rfl, kV_148 wm_6_127 d193_10, sn_ifeq d193_13 (by decide), sn_aload_n d193_16 rfl, sn_iload_n d193_17 rfl, sn_iload_n d193_18 rfl, kV_192 wm_6_248 d193_19, sn_goto d193_22 (by decide), sn_ldc d193_25 wk_6_252, sn_aload_n d193_27 rfl, sn_bipush d193_28 (by decide), kV_145 wm_6_91 d193_30, sn_iadd d193_33, sn_iret d193_34 rfl, trivial⟩
theorem sd193 : ∀ pc, eb_Snd L q0 193 pc (eb_lg 193) (eb_cd L 193 pc) := eb_AS_all (hk193 (L := L)) (sc193_0)
theorem sc194_0 : eb_AS L q0 194 (eb_lg 194) [(0, op_push (zi (-1)) 1), (1, op_istore 2 2), (2, op_push (zi 0) 3), (3, op_istore 3 4), (4, op_iload 3 5), (5, op_aload 0 6), (6, op_getI L 6 9 9), (9, op_icge 44 12), (12, op_iload 2 13), (13, op_push (zi (-1)) 14), (14, op_iceq 32 17), (17, op_aload 0 18), (18, op_iload 1 19), (19, op_iload 3 20), (20, op_call 192 3 23), (23, op_aload 0 24), (24, op_iload 1 25), (25, op_iload 2 26), (26, op_call 192 3 29), (29, op_icle 36 32), (32, op_iload 3 33), (33, op_goto 37), (36, op_iload 2 37), (37, op_istore 2 38), (38, op_iinc 3 1 41), (41, op_goto 4), (44, op_iload 2 45), (45, op_iret)] := ⟨sn_iconst d194_0 (by decide), sn_istore_n (eb_hlg (Or.inl rfl)) hn194_2 d194_1 rfl, sn_iconst d194_2 (by decide), sn_istore_n (eb_hlg (Or.inl rfl)) hn194_3 d194_3 rfl, sn_iload_n d194_4 rfl, sn_aload_n d194_5 rfl, sn_getI (by decide) fi_6_9.1 fi_6_9.2 wf_6_73 d194_6, sn_icge d194_9 (by decide), sn_iload_n d194_12 rfl, sn_iconst d194_13 (by decide), sn_iceq d194_14 (by decide), sn_aload_n d194_17 rfl, sn_iload_n d194_18 rfl, sn_iload_n d194_19 rfl, kV_192 wm_6_248 d194_20, sn_aload_n d194_23 rfl, sn_iload_n d194_24 rfl, sn_iload_n d194_25 rfl, kV_192 wm_6_248 d194_26, sn_icle d194_29 (by decide), sn_iload_n d194_32 rfl, sn_goto d194_33 (by decide), sn_iload_n d194_36 rfl, sn_istore_n (eb_hlg (Or.inl rfl)) hn194_2 d194_37 rfl, sn_iinc (eb_hlg (Or.inl rfl)) hn194_3 d194_38 (by decide), sn_goto d194_41 (by decide), sn_iload_n d194_44 rfl, sn_iret d194_45 rfl, trivial⟩
theorem sd194 : ∀ pc, eb_Snd L q0 194 pc (eb_lg 194) (eb_cd L 194 pc) := eb_AS_all (hk194 (L := L)) (sc194_0)
theorem sc195_0 : eb_AS L q0 195 (eb_lg 195) [(0, op_push (zi 0) 1), (1, op_istore 1 2), (2, op_iload 1 3), (3, op_aload 0 4), (4, op_getI L 6 9 7), (7, op_icge 44 10), (10, op_aload 0 11), (11, op_getR L 6 27 14), (14, op_iload 1 15), (15, op_aload 0 16), (16, op_getR L 6 10 19), (19, op_iload 1 20), (20, op_aald L 21), (21, op_push (zi 2) 22), (22, op_iald L 23), (23, op_iast L 24), (24, op_aload 0 25), (25, op_getR L 6 28 28), (28, op_iload 1 29), (29, op_aload 0 30), (30, op_getR L 6 10 33), (33, op_iload 1 34), (34, op_aald L 35), (35, op_push (zi 4) 36), (36, op_iald L 37), (37, op_iast L 38), (38, op_iinc 1 1 41), (41, op_goto 2), (44, op_push (zi 0) 45), (45, op_istore 1 46), (46, op_iload 1 47), (47, op_aload 0 48), (48, op_getI L 6 11 51), (51, op_icge 90 54), (54, op_aload 0 55), (55, op_getR L 6 26 58), (58, op_iload 1 59), (59, op_push (zi 0) 60), (60, op_iast L 61), (61, op_push (zi 0) 62)] := ⟨sn_iconst d195_0 (by decide), sn_istore_n (eb_hlg (Or.inl rfl)) hn195_1 d195_1 rfl, sn_iload_n d195_2 rfl, sn_aload_n d195_3 rfl, sn_getI (by decide) fi_6_9.1 fi_6_9.2 wf_6_73 d195_4, sn_icge d195_7 (by decide), sn_aload_n d195_10 rfl, sn_getR (by decide) fi_6_27.1 fi_6_27.2 wf_6_58 d195_11, sn_iload_n d195_14 rfl, sn_aload_n d195_15 rfl, sn_getR (by decide) fi_6_10.1 fi_6_10.2 wf_6_39 d195_16, sn_iload_n d195_19 rfl, sn_aald d195_20, sn_iconst d195_21 (by decide), sn_iald d195_22, sn_iast d195_23, sn_aload_n d195_24 rfl, sn_getR (by decide) fi_6_28.1 fi_6_28.2 wf_6_61 d195_25, sn_iload_n d195_28 rfl, sn_aload_n d195_29 rfl, sn_getR (by decide) fi_6_10.1 fi_6_10.2 wf_6_39 d195_30, sn_iload_n d195_33 rfl, sn_aald d195_34, sn_iconst d195_35 (by decide), sn_iald d195_36, sn_iast d195_37, sn_iinc (eb_hlg (Or.inl rfl)) hn195_1 d195_38 (by decide), sn_goto d195_41 (by decide), sn_iconst d195_44 (by decide), sn_istore_n (eb_hlg (Or.inl rfl)) hn195_1 d195_45 rfl, sn_iload_n d195_46 rfl, sn_aload_n d195_47 rfl, sn_getI (by decide) fi_6_11.1 fi_6_11.2 wf_6_80 d195_48, sn_icge d195_51 (by decide), sn_aload_n d195_54 rfl, sn_getR (by decide) fi_6_26.1 fi_6_26.2 wf_6_55 d195_55, sn_iload_n d195_58 rfl, sn_iconst d195_59 (by decide), sn_iast d195_60, sn_iconst d195_61 (by decide), trivial⟩
theorem sc195_1 : eb_AS L q0 195 (eb_lg 195) [(62, op_istore 2 63), (63, op_iload 2 64), (64, op_push (zi 6) 66), (66, op_icge 84 69), (69, op_aload 0 70), (70, op_getR L 6 25 73), (73, op_iload 1 74), (74, op_aald L 75), (75, op_iload 2 76), (76, op_push (zi 0) 77), (77, op_iast L 78), (78, op_iinc 2 1 81), (81, op_goto 63), (84, op_iinc 1 1 87), (87, op_goto 46), (90, op_vret)] := ⟨sn_istore_n (eb_hlg (Or.inl rfl)) hn195_2 d195_62 rfl, sn_iload_n d195_63 rfl, sn_bipush d195_64 (by decide), sn_icge d195_66 (by decide), sn_aload_n d195_69 rfl, sn_getR (by decide) fi_6_25.1 fi_6_25.2 wf_6_52 d195_70, sn_iload_n d195_73 rfl, sn_aald d195_74, sn_iload_n d195_75 rfl, sn_iconst d195_76 (by decide), sn_iast d195_77, sn_iinc (eb_hlg (Or.inl rfl)) hn195_2 d195_78 (by decide), sn_goto d195_81 (by decide), sn_iinc (eb_hlg (Or.inl rfl)) hn195_1 d195_84 (by decide), sn_goto d195_87 (by decide), sn_vret d195_90 rfl, trivial⟩
theorem sd195 : ∀ pc, eb_Snd L q0 195 pc (eb_lg 195) (eb_cd L 195 pc) := eb_AS_all (hk195 (L := L)) (eb_AS_app sc195_0 (sc195_1))
theorem sc196_0 : eb_AS L q0 196 (eb_lg 196) [(0, op_iload 2 1), (1, op_istore 3 2), (2, op_iload 3 3), (3, op_ifle 170 6), (6, op_push (zi (-1)) 7), (7, op_istore 4 9), (9, op_push (zi 0) 10), (10, op_istore 5 12), (12, op_iload 5 14), (14, op_aload 0 15), (15, op_getI L 6 9 18), (18, op_icge 95 21), (21, op_aload 0 22), (22, op_getR L 6 27 25), (25, op_iload 5 27), (27, op_iald L 28), (28, op_ifle 35 31), (31, op_push (zi 1) 32), (32, op_goto 36), (35, op_push (zi 0) 36), (36, op_istore 6 38), (38, op_iload 6 40), (40, op_ifeq 85 43), (43, op_iload 4 45), (45, op_push (zi (-1)) 46), (46, op_iceq 80 49), (49, op_aload 0 50), (50, op_iload 1 51), (51, op_iload 5 53), (53, op_aload 0 54), (54, op_getR L 6 28 57), (57, op_iload 5 59), (59, op_iald L 60), (60, op_call 191 4 63), (63, op_aload 0 64), (64, op_iload 1 65), (65, op_iload 4 67), (67, op_aload 0 68), (68, op_getR L 6 28 71), (71, op_iload 4 73)] := ⟨sn_iload_n d196_0 rfl, sn_istore_n (eb_hlg (Or.inl rfl)) hn196_3 d196_1 rfl, sn_iload_n d196_2 rfl, sn_ifle d196_3 (by decide), sn_iconst d196_6 (by decide), sn_istore (eb_hlg (Or.inl rfl)) hn196_4 d196_7, sn_iconst d196_9 (by decide), sn_istore (eb_hlg (Or.inl rfl)) hn196_5 d196_10, sn_iload d196_12, sn_aload_n d196_14 rfl, sn_getI (by decide) fi_6_9.1 fi_6_9.2 wf_6_73 d196_15, sn_icge d196_18 (by decide), sn_aload_n d196_21 rfl, sn_getR (by decide) fi_6_27.1 fi_6_27.2 wf_6_58 d196_22, sn_iload d196_25, sn_iald d196_27, sn_ifle d196_28 (by decide), sn_iconst d196_31 (by decide), sn_goto d196_32 (by decide), sn_iconst d196_35 (by decide), sn_istore (eb_hlg (Or.inl rfl)) hn196_6 d196_36, sn_iload d196_38, sn_ifeq d196_40 (by decide), sn_iload d196_43, sn_iconst d196_45 (by decide), sn_iceq d196_46 (by decide), sn_aload_n d196_49 rfl, sn_iload_n d196_50 rfl, sn_iload d196_51, sn_aload_n d196_53 rfl, sn_getR (by decide) fi_6_28.1 fi_6_28.2 wf_6_61 d196_54, sn_iload d196_57, sn_iald d196_59, kV_191 wm_6_245 d196_60, sn_aload_n d196_63 rfl, sn_iload_n d196_64 rfl, sn_iload d196_65, sn_aload_n d196_67 rfl, sn_getR (by decide) fi_6_28.1 fi_6_28.2 wf_6_61 d196_68, sn_iload d196_71, trivial⟩
theorem sc196_1 : eb_AS L q0 196 (eb_lg 196) [(73, op_iald L 74), (74, op_call 191 4 77), (77, op_icle 85 80), (80, op_iload 5 82), (82, op_goto 87), (85, op_iload 4 87), (87, op_istore 4 89), (89, op_iinc 5 1 92), (92, op_goto 12), (95, op_iload 4 97), (97, op_push (zi (-1)) 98), (98, op_icne 112 101), (101, op_aload 0 102), (102, op_getR L 6 26 105), (105, op_iload 1 106), (106, op_dup2 107), (107, op_iald L 108), (108, op_iload 3 109), (109, op_ii (· + ·) 110), (110, op_iast L 111), (111, op_vret), (112, op_iload 3 113), (113, op_aload 0 114), (114, op_getR L 6 27 117), (117, op_iload 4 119), (119, op_iald L 120), (120, op_icge 127 123), (123, op_iload 3 124), (124, op_goto 134), (127, op_aload 0 128), (128, op_getR L 6 27 131), (131, op_iload 4 133), (133, op_iald L 134), (134, op_istore 5 136), (136, op_aload 0 137), (137, op_getR L 6 25 140), (140, op_iload 1 141), (141, op_aald L 142), (142, op_iload 4 144), (144, op_dup2 145)] := ⟨sn_iald d196_73, kV_191 wm_6_245 d196_74, sn_icle d196_77 (by decide), sn_iload d196_80, sn_goto d196_82 (by decide), sn_iload d196_85, sn_istore (eb_hlg (Or.inl rfl)) hn196_4 d196_87, sn_iinc (eb_hlg (Or.inl rfl)) hn196_5 d196_89 (by decide), sn_goto d196_92 (by decide), sn_iload d196_95, sn_iconst d196_97 (by decide), sn_icne d196_98 (by decide), sn_aload_n d196_101 rfl, sn_getR (by decide) fi_6_26.1 fi_6_26.2 wf_6_55 d196_102, sn_iload_n d196_105 rfl, sn_dup2 d196_106, sn_iald d196_107, sn_iload_n d196_108 rfl, sn_iadd d196_109, sn_iast d196_110, sn_vret d196_111 rfl, sn_iload_n d196_112 rfl, sn_aload_n d196_113 rfl, sn_getR (by decide) fi_6_27.1 fi_6_27.2 wf_6_58 d196_114, sn_iload d196_117, sn_iald d196_119, sn_icge d196_120 (by decide), sn_iload_n d196_123 rfl, sn_goto d196_124 (by decide), sn_aload_n d196_127 rfl, sn_getR (by decide) fi_6_27.1 fi_6_27.2 wf_6_58 d196_128, sn_iload d196_131, sn_iald d196_133, sn_istore (eb_hlg (Or.inl rfl)) hn196_5 d196_134, sn_aload_n d196_136 rfl, sn_getR (by decide) fi_6_25.1 fi_6_25.2 wf_6_52 d196_137, sn_iload_n d196_140 rfl, sn_aald d196_141, sn_iload d196_142, sn_dup2 d196_144, trivial⟩
theorem sc196_2 : eb_AS L q0 196 (eb_lg 196) [(145, op_iald L 146), (146, op_iload 5 148), (148, op_ii (· + ·) 149), (149, op_iast L 150), (150, op_aload 0 151), (151, op_getR L 6 27 154), (154, op_iload 4 156), (156, op_dup2 157), (157, op_iald L 158), (158, op_iload 5 160), (160, op_ii (· - ·) 161), (161, op_iast L 162), (162, op_iload 3 163), (163, op_iload 5 165), (165, op_ii (· - ·) 166), (166, op_istore 3 167), (167, op_goto 2), (170, op_vret)] := ⟨sn_iald d196_145, sn_iload d196_146, sn_iadd d196_148, sn_iast d196_149, sn_aload_n d196_150 rfl, sn_getR (by decide) fi_6_27.1 fi_6_27.2 wf_6_58 d196_151, sn_iload d196_154, sn_dup2 d196_156, sn_iald d196_157, sn_iload d196_158, sn_isub d196_160, sn_iast d196_161, sn_iload_n d196_162 rfl, sn_iload d196_163, sn_isub d196_165, sn_istore_n (eb_hlg (Or.inl rfl)) hn196_3 d196_166 rfl, sn_goto d196_167 (by decide), sn_vret d196_170 rfl, trivial⟩
theorem sd196 : ∀ pc, eb_Snd L q0 196 pc (eb_lg 196) (eb_cd L 196 pc) := eb_AS_all (hk196 (L := L)) (eb_AS_app sc196_0 (eb_AS_app sc196_1 (sc196_2)))
theorem sc197_0 : eb_AS L q0 197 (eb_lg 197) [(0, op_aload 0 1), (1, op_callv 195 1 4), (4, op_push (zi 0) 5), (5, op_istore 1 6), (6, op_iload 1 7), (7, op_push (zi 2) 8), (8, op_icge 76 11), (11, op_push (zi 0) 12), (12, op_istore 2 13), (13, op_iload 2 14), (14, op_aload 0 15), (15, op_getI L 6 11 18), (18, op_icge 70 21), (21, op_aload 0 22), (22, op_getR L 6 12 25), (25, op_iload 2 26), (26, op_aald L 27), (27, op_push (zi 0) 28), (28, op_iald L 29), (29, op_push (zi 5) 30), (30, op_icne 37 33), (33, op_push (zi 1) 34), (34, op_goto 38), (37, op_push (zi 0) 38), (38, op_iload 1 39), (39, op_push (zi 1) 40), (40, op_icne 47 43), (43, op_push (zi 1) 44), (44, op_goto 48), (47, op_push (zi 0) 48), (48, op_icne 64 51), (51, op_aload 0 52), (52, op_iload 2 53), (53, op_aload 0 54), (54, op_getR L 6 12 57), (57, op_iload 2 58), (58, op_aald L 59), (59, op_push (zi 1) 60), (60, op_iald L 61), (61, op_callv 196 3 64)] := ⟨sn_aload_n d197_0 rfl, kV_195 wm_6_253 d197_1, sn_iconst d197_4 (by decide), sn_istore_n (eb_hlg (Or.inl rfl)) hn197_1 d197_5 rfl, sn_iload_n d197_6 rfl, sn_iconst d197_7 (by decide), sn_icge d197_8 (by decide), sn_iconst d197_11 (by decide), sn_istore_n (eb_hlg (Or.inl rfl)) hn197_2 d197_12 rfl, sn_iload_n d197_13 rfl, sn_aload_n d197_14 rfl, sn_getI (by decide) fi_6_11.1 fi_6_11.2 wf_6_80 d197_15, sn_icge d197_18 (by decide), sn_aload_n d197_21 rfl, sn_getR (by decide) fi_6_12.1 fi_6_12.2 wf_6_42 d197_22, sn_iload_n d197_25 rfl, sn_aald d197_26, sn_iconst d197_27 (by decide), sn_iald d197_28, sn_iconst d197_29 (by decide), sn_icne d197_30 (by decide), sn_iconst d197_33 (by decide), sn_goto d197_34 (by decide), sn_iconst d197_37 (by decide), sn_iload_n d197_38 rfl, sn_iconst d197_39 (by decide), sn_icne d197_40 (by decide), sn_iconst d197_43 (by decide), sn_goto d197_44 (by decide), sn_iconst d197_47 (by decide), sn_icne d197_48 (by decide), sn_aload_n d197_51 rfl, sn_iload_n d197_52 rfl, sn_aload_n d197_53 rfl, sn_getR (by decide) fi_6_12.1 fi_6_12.2 wf_6_42 d197_54, sn_iload_n d197_57 rfl, sn_aald d197_58, sn_iconst d197_59 (by decide), sn_iald d197_60, kV_196 wm_6_256 d197_61, trivial⟩
theorem sc197_1 : eb_AS L q0 197 (eb_lg 197) [(64, op_iinc 2 1 67), (67, op_goto 13), (70, op_iinc 1 1 73), (73, op_goto 6), (76, op_vret)] := ⟨sn_iinc (eb_hlg (Or.inl rfl)) hn197_2 d197_64 (by decide), sn_goto d197_67 (by decide), sn_iinc (eb_hlg (Or.inl rfl)) hn197_1 d197_70 (by decide), sn_goto d197_73 (by decide), sn_vret d197_76 rfl, trivial⟩
theorem sd197 : ∀ pc, eb_Snd L q0 197 pc (eb_lg 197) (eb_cd L 197 pc) := eb_AS_all (hk197 (L := L)) (eb_AS_app sc197_0 (sc197_1))
theorem sc198_0 : eb_AS L q0 198 (eb_lg 198) [(0, op_push (zi 0) 1), (1, op_istore 2 2), (2, op_push (zi 0) 3), (3, op_istore 3 4), (4, op_iload 3 5), (5, op_aload 0 6), (6, op_getI L 6 11 9), (9, op_icge 29 12), (12, op_iload 2 13), (13, op_aload 0 14), (14, op_getR L 6 25 17), (17, op_iload 3 18), (18, op_aald L 19), (19, op_iload 1 20), (20, op_iald L 21), (21, op_ii (· + ·) 22), (22, op_istore 2 23), (23, op_iinc 3 1 26), (26, op_goto 4), (29, op_iload 2 30), (30, op_iret)] := ⟨sn_iconst d198_0 (by decide), sn_istore_n (eb_hlg (Or.inl rfl)) hn198_2 d198_1 rfl, sn_iconst d198_2 (by decide), sn_istore_n (eb_hlg (Or.inl rfl)) hn198_3 d198_3 rfl, sn_iload_n d198_4 rfl, sn_aload_n d198_5 rfl, sn_getI (by decide) fi_6_11.1 fi_6_11.2 wf_6_80 d198_6, sn_icge d198_9 (by decide), sn_iload_n d198_12 rfl, sn_aload_n d198_13 rfl, sn_getR (by decide) fi_6_25.1 fi_6_25.2 wf_6_52 d198_14, sn_iload_n d198_17 rfl, sn_aald d198_18, sn_iload_n d198_19 rfl, sn_iald d198_20, sn_iadd d198_21, sn_istore_n (eb_hlg (Or.inl rfl)) hn198_2 d198_22 rfl, sn_iinc (eb_hlg (Or.inl rfl)) hn198_3 d198_23 (by decide), sn_goto d198_26 (by decide), sn_iload_n d198_29 rfl, sn_iret d198_30 rfl, trivial⟩
theorem sd198 : ∀ pc, eb_Snd L q0 198 pc (eb_lg 198) (eb_cd L 198 pc) := eb_AS_all (hk198 (L := L)) (sc198_0)
theorem sc199_0 : eb_AS L q0 199 (eb_lg 199) [(0, op_aload 0 1), (1, op_iload 1 2), (2, op_call 149 2 5), (5, op_ifeq 16 8), (8, op_aload 0 9), (9, op_iload 2 10), (10, op_call 148 2 13), (13, op_ifne 23 16), (16, op_aload 0 17), (17, op_push (zi (-2)) 19), (19, op_call 145 2 22), (22, op_iret), (23, op_aload 0 24), (24, op_callv 197 1 27), (27, op_aload 0 28), (28, op_getR L 6 25 31), (31, op_iload 1 32), (32, op_aald L 33), (33, op_iload 2 34), (34, op_iald L 35), (35, op_iret)] := ⟨sn_aload_n d199_0 rfl, sn_iload_n d199_1 rfl, kV_149 wm_6_102 d199_2, sn_ifeq d199_5 (by decide), sn_aload_n d199_8 rfl, sn_iload_n d199_9 rfl, kV_148 wm_6_127 d199_10, sn_ifne d199_13 (by decide), sn_aload_n d199_16 rfl, sn_bipush d199_17 (by decide), kV_145 wm_6_91 d199_19, sn_iret d199_22 rfl, sn_aload_n d199_23 rfl, kV_197 wm_6_259 d199_24, sn_aload_n d199_27 rfl, sn_getR (by decide) fi_6_25.1 fi_6_25.2 wf_6_52 d199_28, sn_iload_n d199_31 rfl, sn_aald d199_32, sn_iload_n d199_33 rfl, sn_iald d199_34, sn_iret d199_35 rfl, trivial⟩
theorem sd199 : ∀ pc, eb_Snd L q0 199 pc (eb_lg 199) (eb_cd L 199 pc) := eb_AS_all (hk199 (L := L)) (sc199_0)
theorem sc200_0 : eb_AS L q0 200 (eb_lg 200) [(0, op_aload 0 1), (1, op_iload 1 2), (2, op_call 148 2 5), (5, op_ifne 15 8), (8, op_aload 0 9), (9, op_push (zi (-2)) 11), (11, op_call 145 2 14), (14, op_iret), (15, op_aload 0 16), (16, op_callv 197 1 19), (19, op_aload 0 20), (20, op_iload 1 21), (21, op_call 198 2 24), (24, op_iret)] := ⟨sn_aload_n d200_0 rfl, sn_iload_n d200_1 rfl, kV_148 wm_6_127 d200_2, sn_ifne d200_5 (by decide), sn_aload_n d200_8 rfl, sn_bipush d200_9 (by decide), kV_145 wm_6_91 d200_11, sn_iret d200_14 rfl, sn_aload_n d200_15 rfl, kV_197 wm_6_259 d200_16, sn_aload_n d200_19 rfl, sn_iload_n d200_20 rfl, kV_198 wm_6_262 d200_21, sn_iret d200_24 rfl, trivial⟩
theorem sd200 : ∀ pc, eb_Snd L q0 200 pc (eb_lg 200) (eb_cd L 200 pc) := eb_AS_all (hk200 (L := L)) (sc200_0)
theorem sc201_0 : eb_AS L q0 201 (eb_lg 201) [(0, op_iload 1 1), (1, op_push (zi (-1)) 2), (2, op_iceq 20 5), (5, op_aload 0 6), (6, op_iload 1 7), (7, op_call 149 2 10), (10, op_ifne 20 13), (13, op_aload 0 14), (14, op_push (zi (-2)) 16), (16, op_call 145 2 19), (19, op_iret), (20, op_aload 0 21), (21, op_callv 197 1 24), (24, op_push (zi 0) 25), (25, op_istore 2 26), (26, op_push (zi 0) 27), (27, op_istore 3 28), (28, op_iload 3 29), (29, op_aload 0 30), (30, op_getI L 6 11 33), (33, op_icge 65 36), (36, op_iload 2 37), (37, op_iload 1 38), (38, op_push (zi (-1)) 39), (39, op_iceq 47 42), (42, op_iload 3 43), (43, op_iload 1 44), (44, op_icne 56 47), (47, op_aload 0 48), (48, op_getR L 6 26 51), (51, op_iload 3 52), (52, op_iald L 53), (53, op_goto 57), (56, op_push (zi 0) 57), (57, op_ii (· + ·) 58), (58, op_istore 2 59), (59, op_iinc 3 1 62), (62, op_goto 28), (65, op_iload 2 66), (66, op_iret)] := ⟨sn_iload_n d201_0 rfl, sn_iconst d201_1 (by decide), sn_iceq d201_2 (by decide), sn_aload_n d201_5 rfl, sn_iload_n d201_6 rfl, kV_149 wm_6_102 d201_7, sn_ifne d201_10 (by decide), sn_aload_n d201_13 rfl, sn_bipush d201_14 (by decide), kV_145 wm_6_91 d201_16, sn_iret d201_19 rfl, sn_aload_n d201_20 rfl, kV_197 wm_6_259 d201_21, sn_iconst d201_24 (by decide), sn_istore_n (eb_hlg (Or.inl rfl)) hn201_2 d201_25 rfl, sn_iconst d201_26 (by decide), sn_istore_n (eb_hlg (Or.inl rfl)) hn201_3 d201_27 rfl, sn_iload_n d201_28 rfl, sn_aload_n d201_29 rfl, sn_getI (by decide) fi_6_11.1 fi_6_11.2 wf_6_80 d201_30, sn_icge d201_33 (by decide), sn_iload_n d201_36 rfl, sn_iload_n d201_37 rfl, sn_iconst d201_38 (by decide), sn_iceq d201_39 (by decide), sn_iload_n d201_42 rfl, sn_iload_n d201_43 rfl, sn_icne d201_44 (by decide), sn_aload_n d201_47 rfl, sn_getR (by decide) fi_6_26.1 fi_6_26.2 wf_6_55 d201_48, sn_iload_n d201_51 rfl, sn_iald d201_52, sn_goto d201_53 (by decide), sn_iconst d201_56 (by decide), sn_iadd d201_57, sn_istore_n (eb_hlg (Or.inl rfl)) hn201_2 d201_58 rfl, sn_iinc (eb_hlg (Or.inl rfl)) hn201_3 d201_59 (by decide), sn_goto d201_62 (by decide), sn_iload_n d201_65 rfl, sn_iret d201_66 rfl, trivial⟩
theorem sd201 : ∀ pc, eb_Snd L q0 201 pc (eb_lg 201) (eb_cd L 201 pc) := eb_AS_all (hk201 (L := L)) (sc201_0)
theorem sc202_0 : eb_AS L q0 202 (eb_lg 202) [(0, op_aload 0 1), (1, op_callv 197 1 4), (4, op_push (zi 0) 5), (5, op_istore 1 6), (6, op_push (zi 0) 7), (7, op_istore 2 8), (8, op_iload 2 9), (9, op_aload 0 10), (10, op_getI L 6 9 13), (13, op_icge 41 16), (16, op_iload 1 17), (17, op_aload 0 18), (18, op_getR L 6 27 21), (21, op_iload 2 22), (22, op_iald L 23), (23, op_ifne 32 26), (26, op_push (zi 1) 27), (27, op_iload 2 28), (28, op_ii (fun x y => x <<< (y &&& 31)) 29), (29, op_goto 33), (32, op_push (zi 0) 33), (33, op_ii (· ||| ·) 34), (34, op_istore 1 35), (35, op_iinc 2 1 38), (38, op_goto 8), (41, op_iload 1 42), (42, op_iret)] := ⟨sn_aload_n d202_0 rfl, kV_197 wm_6_259 d202_1, sn_iconst d202_4 (by decide), sn_istore_n (eb_hlg (Or.inl rfl)) hn202_1 d202_5 rfl, sn_iconst d202_6 (by decide), sn_istore_n (eb_hlg (Or.inl rfl)) hn202_2 d202_7 rfl, sn_iload_n d202_8 rfl, sn_aload_n d202_9 rfl, sn_getI (by decide) fi_6_9.1 fi_6_9.2 wf_6_73 d202_10, sn_icge d202_13 (by decide), sn_iload_n d202_16 rfl, sn_aload_n d202_17 rfl, sn_getR (by decide) fi_6_27.1 fi_6_27.2 wf_6_58 d202_18, sn_iload_n d202_21 rfl, sn_iald d202_22, sn_ifne d202_23 (by decide), sn_iconst d202_26 (by decide), sn_iload_n d202_27 rfl, sn_ishl d202_28, sn_goto d202_29 (by decide), sn_iconst d202_32 (by decide), sn_ior d202_33, sn_istore_n (eb_hlg (Or.inl rfl)) hn202_1 d202_34 rfl, sn_iinc (eb_hlg (Or.inl rfl)) hn202_2 d202_35 (by decide), sn_goto d202_38 (by decide), sn_iload_n d202_41 rfl, sn_iret d202_42 rfl, trivial⟩
theorem sd202 : ∀ pc, eb_Snd L q0 202 pc (eb_lg 202) (eb_cd L 202 pc) := eb_AS_all (hk202 (L := L)) (sc202_0)
theorem sc203_0 : eb_AS L q0 203 (eb_lg 203) [(0, op_push (zi (-30)) 2), (2, op_aload 0 3), (3, op_getR L 6 26 6), (6, op_iload 1 7), (7, op_iald L 8), (8, op_ii (· * ·) 9), (9, op_istore 2 10), (10, op_push (zi 0) 11), (11, op_istore 3 12), (12, op_iload 3 13), (13, op_aload 0 14), (14, op_getI L 6 9 17), (17, op_icge 71 20), (20, op_iload 2 21), (21, op_aload 0 22), (22, op_getR L 6 25 25), (25, op_iload 1 26), (26, op_aald L 27), (27, op_iload 3 28), (28, op_iald L 29), (29, op_aload 0 30), (30, op_getR L 6 10 33), (33, op_iload 3 34), (34, op_aald L 35), (35, op_push (zi 0) 36), (36, op_iald L 37), (37, op_aload 0 38), (38, op_getR L 6 10 41), (41, op_iload 3 42), (42, op_aald L 43), (43, op_push (zi 3) 44), (44, op_iald L 45), (45, op_ii (· - ·) 46), (46, op_aload 0 47), (47, op_getR L 6 27 50), (50, op_iload 3 51), (51, op_iald L 52), (52, op_ifne 60 55), (55, op_push (zi 20) 57), (57, op_goto 61)] := ⟨sn_bipush d203_0 (by decide), sn_aload_n d203_2 rfl, sn_getR (by decide) fi_6_26.1 fi_6_26.2 wf_6_55 d203_3, sn_iload_n d203_6 rfl, sn_iald d203_7, sn_imul d203_8, sn_istore_n (eb_hlg (Or.inl rfl)) hn203_2 d203_9 rfl, sn_iconst d203_10 (by decide), sn_istore_n (eb_hlg (Or.inl rfl)) hn203_3 d203_11 rfl, sn_iload_n d203_12 rfl, sn_aload_n d203_13 rfl, sn_getI (by decide) fi_6_9.1 fi_6_9.2 wf_6_73 d203_14, sn_icge d203_17 (by decide), sn_iload_n d203_20 rfl, sn_aload_n d203_21 rfl, sn_getR (by decide) fi_6_25.1 fi_6_25.2 wf_6_52 d203_22, sn_iload_n d203_25 rfl, sn_aald d203_26, sn_iload_n d203_27 rfl, sn_iald d203_28, sn_aload_n d203_29 rfl, sn_getR (by decide) fi_6_10.1 fi_6_10.2 wf_6_39 d203_30, sn_iload_n d203_33 rfl, sn_aald d203_34, sn_iconst d203_35 (by decide), sn_iald d203_36, sn_aload_n d203_37 rfl, sn_getR (by decide) fi_6_10.1 fi_6_10.2 wf_6_39 d203_38, sn_iload_n d203_41 rfl, sn_aald d203_42, sn_iconst d203_43 (by decide), sn_iald d203_44, sn_isub d203_45, sn_aload_n d203_46 rfl, sn_getR (by decide) fi_6_27.1 fi_6_27.2 wf_6_58 d203_47, sn_iload_n d203_50 rfl, sn_iald d203_51, sn_ifne d203_52 (by decide), sn_bipush d203_55 (by decide), sn_goto d203_57 (by decide), trivial⟩
theorem sc203_1 : eb_AS L q0 203 (eb_lg 203) [(60, op_push (zi 0) 61), (61, op_ii (· - ·) 62), (62, op_ii (· * ·) 63), (63, op_ii (· + ·) 64), (64, op_istore 2 65), (65, op_iinc 3 1 68), (68, op_goto 12), (71, op_iload 2 72), (72, op_iret)] := ⟨sn_iconst d203_60 (by decide), sn_isub d203_61, sn_imul d203_62, sn_iadd d203_63, sn_istore_n (eb_hlg (Or.inl rfl)) hn203_2 d203_64 rfl, sn_iinc (eb_hlg (Or.inl rfl)) hn203_3 d203_65 (by decide), sn_goto d203_68 (by decide), sn_iload_n d203_71 rfl, sn_iret d203_72 rfl, trivial⟩
theorem sd203 : ∀ pc, eb_Snd L q0 203 pc (eb_lg 203) (eb_cd L 203 pc) := eb_AS_all (hk203 (L := L)) (eb_AS_app sc203_0 (sc203_1))
theorem sc204_0 : eb_AS L q0 204 (eb_lg 204) [(0, op_push (zi 0) 1), (1, op_istore 2 2), (2, op_push (zi 0) 3), (3, op_istore 3 4), (4, op_iload 3 5), (5, op_aload 0 6), (6, op_getI L 6 11 9), (9, op_icge 40 12), (12, op_iload 2 13), (13, op_iload 1 14), (14, op_push (zi (-1)) 15), (15, op_iceq 23 18), (18, op_iload 3 19), (19, op_iload 1 20), (20, op_icne 31 23), (23, op_aload 0 24), (24, op_iload 3 25), (25, op_call 203 2 28), (28, op_goto 32), (31, op_push (zi 0) 32), (32, op_ii (· + ·) 33), (33, op_istore 2 34), (34, op_iinc 3 1 37), (37, op_goto 4), (40, op_iload 2 41), (41, op_iret)] := ⟨sn_iconst d204_0 (by decide), sn_istore_n (eb_hlg (Or.inl rfl)) hn204_2 d204_1 rfl, sn_iconst d204_2 (by decide), sn_istore_n (eb_hlg (Or.inl rfl)) hn204_3 d204_3 rfl, sn_iload_n d204_4 rfl, sn_aload_n d204_5 rfl, sn_getI (by decide) fi_6_11.1 fi_6_11.2 wf_6_80 d204_6, sn_icge d204_9 (by decide), sn_iload_n d204_12 rfl, sn_iload_n d204_13 rfl, sn_iconst d204_14 (by decide), sn_iceq d204_15 (by decide), sn_iload_n d204_18 rfl, sn_iload_n d204_19 rfl, sn_icne d204_20 (by decide), sn_aload_n d204_23 rfl, sn_iload_n d204_24 rfl, kV_203 wm_6_265 d204_25, sn_goto d204_28 (by decide), sn_iconst d204_31 (by decide), sn_iadd d204_32, sn_istore_n (eb_hlg (Or.inl rfl)) hn204_2 d204_33 rfl, sn_iinc (eb_hlg (Or.inl rfl)) hn204_3 d204_34 (by decide), sn_goto d204_37 (by decide), sn_iload_n d204_40 rfl, sn_iret d204_41 rfl, trivial⟩
theorem sd204 : ∀ pc, eb_Snd L q0 204 pc (eb_lg 204) (eb_cd L 204 pc) := eb_AS_all (hk204 (L := L)) (sc204_0)
theorem sc205_0 : eb_AS L q0 205 (eb_lg 205) [(0, op_iload 1 1), (1, op_push (zi (-1)) 2), (2, op_iceq 23 5), (5, op_aload 0 6), (6, op_iload 1 7), (7, op_call 149 2 10), (10, op_ifne 23 13), (13, op_push (zi (-1000000)) 15), (15, op_aload 0 16), (16, op_push (zi (-2)) 18), (18, op_call 145 2 21), (21, op_ii (· + ·) 22), (22, op_iret), (23, op_aload 0 24), (24, op_callv 197 1 27), (27, op_aload 0 28), (28, op_iload 1 29), (29, op_call 204 2 32), (32, op_iret)] := ⟨sn_iload_n d205_0 rfl, sn_iconst d205_1 (by decide), sn_iceq d205_2 (by decide), sn_aload_n d205_5 rfl, sn_iload_n d205_6 rfl, kV_149 wm_6_102 d205_7, sn_ifne d205_10 (by decide), sn_ldc d205_13 wk_6_252, sn_aload_n d205_15 rfl, sn_bipush d205_16 (by decide), kV_145 wm_6_91 d205_18, sn_iadd d205_21, sn_iret d205_22 rfl, sn_aload_n d205_23 rfl, kV_197 wm_6_259 d205_24, sn_aload_n d205_27 rfl, sn_iload_n d205_28 rfl, kV_204 wm_6_268 d205_29, sn_iret d205_32 rfl, trivial⟩
theorem sd205 : ∀ pc, eb_Snd L q0 205 pc (eb_lg 205) (eb_cd L 205 pc) := eb_AS_all (hk205 (L := L)) (sc205_0)
theorem sc206_0 : eb_AS L q0 206 (eb_lg 206) [(0, op_aload 0 1), (1, op_iload 1 2), (2, op_call 148 2 5), (5, op_ifne 15 8), (8, op_aload 0 9), (9, op_push (zi (-2)) 11), (11, op_call 145 2 14), (14, op_iret), (15, op_aload 0 16), (16, op_callv 197 1 19), (19, op_aload 0 20), (20, op_getR L 6 10 23), (23, op_iload 1 24), (24, op_aald L 25), (25, op_push (zi 3) 26), (26, op_iald L 27), (27, op_aload 0 28), (28, op_iload 1 29), (29, op_call 198 2 32), (32, op_ii (· * ·) 33), (33, op_iret)] := ⟨sn_aload_n d206_0 rfl, sn_iload_n d206_1 rfl, kV_148 wm_6_127 d206_2, sn_ifne d206_5 (by decide), sn_aload_n d206_8 rfl, sn_bipush d206_9 (by decide), kV_145 wm_6_91 d206_11, sn_iret d206_14 rfl, sn_aload_n d206_15 rfl, kV_197 wm_6_259 d206_16, sn_aload_n d206_19 rfl, sn_getR (by decide) fi_6_10.1 fi_6_10.2 wf_6_39 d206_20, sn_iload_n d206_23 rfl, sn_aald d206_24, sn_iconst d206_25 (by decide), sn_iald d206_26, sn_aload_n d206_27 rfl, sn_iload_n d206_28 rfl, kV_198 wm_6_262 d206_29, sn_imul d206_32, sn_iret d206_33 rfl, trivial⟩
theorem sd206 : ∀ pc, eb_Snd L q0 206 pc (eb_lg 206) (eb_cd L 206 pc) := eb_AS_all (hk206 (L := L)) (sc206_0)
theorem sc207_0 : eb_AS L q0 207 (eb_lg 207) [(0, op_aload 0 1), (1, op_getR L 6 12 4), (4, op_iload 1 5), (5, op_aald L 6), (6, op_push (zi 0) 7), (7, op_iald L 8), (8, op_ifeq 27 11), (11, op_aload 0 12), (12, op_getR L 6 12 15), (15, op_iload 1 16), (16, op_aald L 17), (17, op_push (zi 0) 18), (18, op_iald L 19), (19, op_push (zi 3) 20), (20, op_iceq 27 23), (23, op_push (zi 1) 24), (24, op_goto 28), (27, op_push (zi 0) 28), (28, op_zret)] := ⟨sn_aload_n d207_0 rfl, sn_getR (by decide) fi_6_12.1 fi_6_12.2 wf_6_42 d207_1, sn_iload_n d207_4 rfl, sn_aald d207_5, sn_iconst d207_6 (by decide), sn_iald d207_7, sn_ifeq d207_8 (by decide), sn_aload_n d207_11 rfl, sn_getR (by decide) fi_6_12.1 fi_6_12.2 wf_6_42 d207_12, sn_iload_n d207_15 rfl, sn_aald d207_16, sn_iconst d207_17 (by decide), sn_iald d207_18, sn_iconst d207_19 (by decide), sn_iceq d207_20 (by decide), sn_iconst d207_23 (by decide), sn_goto d207_24 (by decide), sn_iconst d207_27 (by decide), sn_zret d207_28 rfl, trivial⟩
theorem sd207 : ∀ pc, eb_Snd L q0 207 pc (eb_lg 207) (eb_cd L 207 pc) := eb_AS_all (hk207 (L := L)) (sc207_0)
theorem sc208_0 : eb_AS L q0 208 (eb_lg 208) [(0, op_aload 0 1), (1, op_iload 1 2), (2, op_call 148 2 5), (5, op_ifne 15 8), (8, op_aload 0 9), (9, op_push (zi (-2)) 11), (11, op_call 145 2 14), (14, op_iret), (15, op_push (zi 0) 16), (16, op_istore 2 17), (17, op_push (zi 0) 18), (18, op_istore 3 19), (19, op_iload 3 20), (20, op_aload 0 21), (21, op_getI L 6 11 24), (24, op_icge 65 27), (27, op_iload 2 28), (28, op_aload 0 29), (29, op_iload 3 30), (30, op_call 207 2 33), (33, op_ifeq 56 36), (36, op_aload 0 37), (37, op_iload 3 38), (38, op_call 194 2 41), (41, op_iload 1 42), (42, op_icne 56 45), (45, op_aload 0 46), (46, op_getR L 6 12 49), (49, op_iload 3 50), (50, op_aald L 51), (51, op_push (zi 1) 52), (52, op_iald L 53), (53, op_goto 57), (56, op_push (zi 0) 57), (57, op_ii (· + ·) 58), (58, op_istore 2 59), (59, op_iinc 3 1 62), (62, op_goto 19), (65, op_iload 2 66), (66, op_iret)] := ⟨sn_aload_n d208_0 rfl, sn_iload_n d208_1 rfl, kV_148 wm_6_127 d208_2, sn_ifne d208_5 (by decide), sn_aload_n d208_8 rfl, sn_bipush d208_9 (by decide), kV_145 wm_6_91 d208_11, sn_iret d208_14 rfl, sn_iconst d208_15 (by decide), sn_istore_n (eb_hlg (Or.inl rfl)) hn208_2 d208_16 rfl, sn_iconst d208_17 (by decide), sn_istore_n (eb_hlg (Or.inl rfl)) hn208_3 d208_18 rfl, sn_iload_n d208_19 rfl, sn_aload_n d208_20 rfl, sn_getI (by decide) fi_6_11.1 fi_6_11.2 wf_6_80 d208_21, sn_icge d208_24 (by decide), sn_iload_n d208_27 rfl, sn_aload_n d208_28 rfl, sn_iload_n d208_29 rfl, kV_207 wm_6_271 d208_30, sn_ifeq d208_33 (by decide), sn_aload_n d208_36 rfl, sn_iload_n d208_37 rfl, kV_194 wm_6_112 d208_38, sn_iload_n d208_41 rfl, sn_icne d208_42 (by decide), sn_aload_n d208_45 rfl, sn_getR (by decide) fi_6_12.1 fi_6_12.2 wf_6_42 d208_46, sn_iload_n d208_49 rfl, sn_aald d208_50, sn_iconst d208_51 (by decide), sn_iald d208_52, sn_goto d208_53 (by decide), sn_iconst d208_56 (by decide), sn_iadd d208_57, sn_istore_n (eb_hlg (Or.inl rfl)) hn208_2 d208_58 rfl, sn_iinc (eb_hlg (Or.inl rfl)) hn208_3 d208_59 (by decide), sn_goto d208_62 (by decide), sn_iload_n d208_65 rfl, sn_iret d208_66 rfl, trivial⟩
theorem sd208 : ∀ pc, eb_Snd L q0 208 pc (eb_lg 208) (eb_cd L 208 pc) := eb_AS_all (hk208 (L := L)) (sc208_0)
theorem sc209_0 : eb_AS L q0 209 (eb_lg 209) [(0, op_aload 0 1), (1, op_iload 1 2), (2, op_call 148 2 5), (5, op_ifne 18 8), (8, op_push (zi (-1000000)) 10), (10, op_aload 0 11), (11, op_push (zi (-2)) 13), (13, op_call 145 2 16), (16, op_ii (· + ·) 17), (17, op_iret), (18, op_aload 0 19), (19, op_getR L 6 10 22), (22, op_iload 1 23), (23, op_aald L 24), (24, op_push (zi 5) 25), (25, op_iald L 26), (26, op_ifne 41 29), (29, op_push (zi (-1000000)) 31), (31, op_aload 0 32), (32, op_push (zi (-5)) 34), (34, op_call 145 2 37), (37, op_ii (· + ·) 38), (38, op_goto 68), (41, op_aload 0 42), (42, op_getR L 6 10 45), (45, op_iload 1 46), (46, op_aald L 47), (47, op_push (zi 6) 49), (49, op_iald L 50), (50, op_aload 0 51), (51, op_getR L 6 10 54), (54, op_iload 1 55), (55, op_aald L 56), (56, op_push (zi 5) 57), (57, op_iald L 58), (58, op_iid (· / ·) 59), (59, op_aload 0 60), (60, op_getR L 6 10 63), (63, op_iload 1 64), (64, op_aald L 65)] := ⟨sn_aload_n d209_0 rfl, sn_iload_n d209_1 rfl, kV_148 wm_6_127 d209_2, sn_ifne d209_5 (by decide), sn_ldc d209_8 wk_6_252, sn_aload_n d209_10 rfl, sn_bipush d209_11 (by decide), kV_145 wm_6_91 d209_13, sn_iadd d209_16, sn_iret d209_17 rfl, sn_aload_n d209_18 rfl, sn_getR (by decide) fi_6_10.1 fi_6_10.2 wf_6_39 d209_19, sn_iload_n d209_22 rfl, sn_aald d209_23, sn_iconst d209_24 (by decide), sn_iald d209_25, sn_ifne d209_26 (by decide), sn_ldc d209_29 wk_6_252, sn_aload_n d209_31 rfl, sn_bipush d209_32 (by decide), kV_145 wm_6_91 d209_34, sn_iadd d209_37, sn_goto d209_38 (by decide), sn_aload_n d209_41 rfl, sn_getR (by decide) fi_6_10.1 fi_6_10.2 wf_6_39 d209_42, sn_iload_n d209_45 rfl, sn_aald d209_46, sn_bipush d209_47 (by decide), sn_iald d209_49, sn_aload_n d209_50 rfl, sn_getR (by decide) fi_6_10.1 fi_6_10.2 wf_6_39 d209_51, sn_iload_n d209_54 rfl, sn_aald d209_55, sn_iconst d209_56 (by decide), sn_iald d209_57, sn_idiv d209_58, sn_aload_n d209_59 rfl, sn_getR (by decide) fi_6_10.1 fi_6_10.2 wf_6_39 d209_60, sn_iload_n d209_63 rfl, sn_aald d209_64, trivial⟩
theorem sc209_1 : eb_AS L q0 209 (eb_lg 209) [(65, op_push (zi 0) 66), (66, op_iald L 67), (67, op_ii (· - ·) 68), (68, op_iret)] := ⟨sn_iconst d209_65 (by decide), sn_iald d209_66, sn_isub d209_67, sn_iret d209_68 rfl, trivial⟩
theorem sd209 : ∀ pc, eb_Snd L q0 209 pc (eb_lg 209) (eb_cd L 209 pc) := eb_AS_all (hk209 (L := L)) (eb_AS_app sc209_0 (sc209_1))
theorem sc210_0 : eb_AS L q0 210 (eb_lg 210) [(0, op_push (zi (-1)) 1), (1, op_istore 1 2), (2, op_push (zi 0) 3), (3, op_istore 2 4), (4, op_iload 2 5), (5, op_aload 0 6), (6, op_getI L 6 9 9), (9, op_icge 66 12), (12, op_iload 1 13), (13, op_push (zi (-1)) 14), (14, op_iceq 54 17), (17, op_aload 0 18), (18, op_getR L 6 10 21), (21, op_iload 2 22), (22, op_aald L 23), (23, op_push (zi 0) 24), (24, op_iald L 25), (25, op_aload 0 26), (26, op_getR L 6 10 29), (29, op_iload 2 30), (30, op_aald L 31), (31, op_push (zi 3) 32), (32, op_iald L 33), (33, op_ii (· - ·) 34), (34, op_aload 0 35), (35, op_getR L 6 10 38), (38, op_iload 1 39), (39, op_aald L 40), (40, op_push (zi 0) 41), (41, op_iald L 42), (42, op_aload 0 43), (43, op_getR L 6 10 46), (46, op_iload 1 47), (47, op_aald L 48), (48, op_push (zi 3) 49), (49, op_iald L 50), (50, op_ii (· - ·) 51), (51, op_icle 58 54), (54, op_iload 2 55), (55, op_goto 59)] := ⟨sn_iconst d210_0 (by decide), sn_istore_n (eb_hlg (Or.inl rfl)) hn210_1 d210_1 rfl, sn_iconst d210_2 (by decide), sn_istore_n (eb_hlg (Or.inl rfl)) hn210_2 d210_3 rfl, sn_iload_n d210_4 rfl, sn_aload_n d210_5 rfl, sn_getI (by decide) fi_6_9.1 fi_6_9.2 wf_6_73 d210_6, sn_icge d210_9 (by decide), sn_iload_n d210_12 rfl, sn_iconst d210_13 (by decide), sn_iceq d210_14 (by decide), sn_aload_n d210_17 rfl, sn_getR (by decide) fi_6_10.1 fi_6_10.2 wf_6_39 d210_18, sn_iload_n d210_21 rfl, sn_aald d210_22, sn_iconst d210_23 (by decide), sn_iald d210_24, sn_aload_n d210_25 rfl, sn_getR (by decide) fi_6_10.1 fi_6_10.2 wf_6_39 d210_26, sn_iload_n d210_29 rfl, sn_aald d210_30, sn_iconst d210_31 (by decide), sn_iald d210_32, sn_isub d210_33, sn_aload_n d210_34 rfl, sn_getR (by decide) fi_6_10.1 fi_6_10.2 wf_6_39 d210_35, sn_iload_n d210_38 rfl, sn_aald d210_39, sn_iconst d210_40 (by decide), sn_iald d210_41, sn_aload_n d210_42 rfl, sn_getR (by decide) fi_6_10.1 fi_6_10.2 wf_6_39 d210_43, sn_iload_n d210_46 rfl, sn_aald d210_47, sn_iconst d210_48 (by decide), sn_iald d210_49, sn_isub d210_50, sn_icle d210_51 (by decide), sn_iload_n d210_54 rfl, sn_goto d210_55 (by decide), trivial⟩
theorem sc210_1 : eb_AS L q0 210 (eb_lg 210) [(58, op_iload 1 59), (59, op_istore 1 60), (60, op_iinc 2 1 63), (63, op_goto 4), (66, op_iload 1 67), (67, op_iret)] := ⟨sn_iload_n d210_58 rfl, sn_istore_n (eb_hlg (Or.inl rfl)) hn210_1 d210_59 rfl, sn_iinc (eb_hlg (Or.inl rfl)) hn210_2 d210_60 (by decide), sn_goto d210_63 (by decide), sn_iload_n d210_66 rfl, sn_iret d210_67 rfl, trivial⟩
theorem sd210 : ∀ pc, eb_Snd L q0 210 pc (eb_lg 210) (eb_cd L 210 pc) := eb_AS_all (hk210 (L := L)) (eb_AS_app sc210_0 (sc210_1))
theorem sc211_0 : eb_AS L q0 211 (eb_lg 211) [(0, op_aload 0 1), (1, op_call 210 1 4), (4, op_istore 1 5), (5, op_iload 1 6), (6, op_push (zi (-1)) 7), (7, op_icne 19 10), (10, op_aload 0 11), (11, op_push (zi (-5)) 13), (13, op_call 145 2 16), (16, op_goto 20), (19, op_iload 1 20), (20, op_iret)] := ⟨sn_aload_n d211_0 rfl, kV_210 wm_6_274 d211_1, sn_istore_n (eb_hlg (Or.inl rfl)) hn211_1 d211_4 rfl, sn_iload_n d211_5 rfl, sn_iconst d211_6 (by decide), sn_icne d211_7 (by decide), sn_aload_n d211_10 rfl, sn_bipush d211_11 (by decide), kV_145 wm_6_91 d211_13, sn_goto d211_16 (by decide), sn_iload_n d211_19 rfl, sn_iret d211_20 rfl, trivial⟩
theorem sd211 : ∀ pc, eb_Snd L q0 211 pc (eb_lg 211) (eb_cd L 211 pc) := eb_AS_all (hk211 (L := L)) (sc211_0)
theorem sc212_0 : eb_AS L q0 212 (eb_lg 212) [(0, op_aload 0 1), (1, op_getR L 6 10 4), (4, op_iload 1 5), (5, op_aald L 6), (6, op_push (zi 4) 7), (7, op_iald L 8), (8, op_aload 0 9), (9, op_getR L 6 10 12), (12, op_iload 1 13), (13, op_aald L 14), (14, op_push (zi 0) 15), (15, op_iald L 16), (16, op_ii (· - ·) 17), (17, op_istore 2 18), (18, op_iload 2 19), (19, op_ifge 27 22), (22, op_iload 2 23), (23, op_i (fun x => -x) 24), (24, op_goto 28), (27, op_iload 2 28), (28, op_iret)] := ⟨sn_aload_n d212_0 rfl, sn_getR (by decide) fi_6_10.1 fi_6_10.2 wf_6_39 d212_1, sn_iload_n d212_4 rfl, sn_aald d212_5, sn_iconst d212_6 (by decide), sn_iald d212_7, sn_aload_n d212_8 rfl, sn_getR (by decide) fi_6_10.1 fi_6_10.2 wf_6_39 d212_9, sn_iload_n d212_12 rfl, sn_aald d212_13, sn_iconst d212_14 (by decide), sn_iald d212_15, sn_isub d212_16, sn_istore_n (eb_hlg (Or.inl rfl)) hn212_2 d212_17 rfl, sn_iload_n d212_18 rfl, sn_ifge d212_19 (by decide), sn_iload_n d212_22 rfl, sn_ineg d212_23, sn_goto d212_24 (by decide), sn_iload_n d212_27 rfl, sn_iret d212_28 rfl, trivial⟩
theorem sd212 : ∀ pc, eb_Snd L q0 212 pc (eb_lg 212) (eb_cd L 212 pc) := eb_AS_all (hk212 (L := L)) (sc212_0)
theorem sc213_0 : eb_AS L q0 213 (eb_lg 213) [(0, op_push (zi (-1)) 1), (1, op_istore 1 2), (2, op_push (zi 0) 3), (3, op_istore 2 4), (4, op_iload 2 5), (5, op_aload 0 6), (6, op_getI L 6 9 9), (9, op_icge 64 12), (12, op_aload 0 13), (13, op_getR L 6 10 16), (16, op_iload 2 17), (17, op_aald L 18), (18, op_push (zi 4) 19), (19, op_iald L 20), (20, op_push (zi (-1)) 21), (21, op_iceq 28 24), (24, op_push (zi 1) 25), (25, op_goto 29), (28, op_push (zi 0) 29), (29, op_istore 3 30), (30, op_iload 3 31), (31, op_ifeq 56 34), (34, op_iload 1 35), (35, op_push (zi (-1)) 36), (36, op_iceq 52 39), (39, op_aload 0 40), (40, op_iload 2 41), (41, op_call 212 2 44), (44, op_aload 0 45), (45, op_iload 1 46), (46, op_call 212 2 49), (49, op_icle 56 52), (52, op_iload 2 53), (53, op_goto 57), (56, op_iload 1 57), (57, op_istore 1 58), (58, op_iinc 2 1 61), (61, op_goto 4), (64, op_iload 1 65), (65, op_iret)] := ⟨sn_iconst d213_0 (by decide), sn_istore_n (eb_hlg (Or.inl rfl)) hn213_1 d213_1 rfl, sn_iconst d213_2 (by decide), sn_istore_n (eb_hlg (Or.inl rfl)) hn213_2 d213_3 rfl, sn_iload_n d213_4 rfl, sn_aload_n d213_5 rfl, sn_getI (by decide) fi_6_9.1 fi_6_9.2 wf_6_73 d213_6, sn_icge d213_9 (by decide), sn_aload_n d213_12 rfl, sn_getR (by decide) fi_6_10.1 fi_6_10.2 wf_6_39 d213_13, sn_iload_n d213_16 rfl, sn_aald d213_17, sn_iconst d213_18 (by decide), sn_iald d213_19, sn_iconst d213_20 (by decide), sn_iceq d213_21 (by decide), sn_iconst d213_24 (by decide), sn_goto d213_25 (by decide), sn_iconst d213_28 (by decide), sn_istore_n (eb_hlg (Or.inl rfl)) hn213_3 d213_29 rfl, sn_iload_n d213_30 rfl, sn_ifeq d213_31 (by decide), sn_iload_n d213_34 rfl, sn_iconst d213_35 (by decide), sn_iceq d213_36 (by decide), sn_aload_n d213_39 rfl, sn_iload_n d213_40 rfl, kV_212 wm_6_277 d213_41, sn_aload_n d213_44 rfl, sn_iload_n d213_45 rfl, kV_212 wm_6_277 d213_46, sn_icle d213_49 (by decide), sn_iload_n d213_52 rfl, sn_goto d213_53 (by decide), sn_iload_n d213_56 rfl, sn_istore_n (eb_hlg (Or.inl rfl)) hn213_1 d213_57 rfl, sn_iinc (eb_hlg (Or.inl rfl)) hn213_2 d213_58 (by decide), sn_goto d213_61 (by decide), sn_iload_n d213_64 rfl, sn_iret d213_65 rfl, trivial⟩
theorem sd213 : ∀ pc, eb_Snd L q0 213 pc (eb_lg 213) (eb_cd L 213 pc) := eb_AS_all (hk213 (L := L)) (sc213_0)
theorem sc214_0 : eb_AS L q0 214 (eb_lg 214) [(0, op_aload 0 1), (1, op_iload 1 2), (2, op_call 148 2 5), (5, op_ifne 15 8), (8, op_aload 0 9), (9, op_push (zi (-2)) 11), (11, op_call 145 2 14), (14, op_iret), (15, op_aload 0 16), (16, op_getR L 6 10 19), (19, op_iload 1 20), (20, op_aald L 21), (21, op_push (zi 2) 22), (22, op_iald L 23), (23, op_istore 2 24), (24, op_push (zi (-1)) 25), (25, op_istore 3 26), (26, op_push (zi 1) 27), (27, op_istore 4 29), (29, op_iload 4 31), (31, op_push (zi 20) 33), (33, op_icgt 77 36), (36, op_iload 3 37), (37, op_push (zi (-1)) 38), (38, op_icne 77 41), (41, op_aload 0 42), (42, op_getR L 6 10 45), (45, op_iload 1 46), (46, op_aald L 47), (47, op_push (zi 2) 48), (48, op_iload 4 50), (50, op_iast L 51), (51, op_aload 0 52), (52, op_callv 197 1 55), (55, op_aload 0 56), (56, op_getR L 6 27 59), (59, op_iload 1 60), (60, op_iald L 61), (61, op_ifle 69 64), (64, op_iload 4 66)] := ⟨sn_aload_n d214_0 rfl, sn_iload_n d214_1 rfl, kV_148 wm_6_127 d214_2, sn_ifne d214_5 (by decide), sn_aload_n d214_8 rfl, sn_bipush d214_9 (by decide), kV_145 wm_6_91 d214_11, sn_iret d214_14 rfl, sn_aload_n d214_15 rfl, sn_getR (by decide) fi_6_10.1 fi_6_10.2 wf_6_39 d214_16, sn_iload_n d214_19 rfl, sn_aald d214_20, sn_iconst d214_21 (by decide), sn_iald d214_22, sn_istore_n (eb_hlg (Or.inl rfl)) hn214_2 d214_23 rfl, sn_iconst d214_24 (by decide), sn_istore_n (eb_hlg (Or.inl rfl)) hn214_3 d214_25 rfl, sn_iconst d214_26 (by decide), sn_istore (eb_hlg (Or.inl rfl)) hn214_4 d214_27, sn_iload d214_29, sn_bipush d214_31 (by decide), sn_icgt d214_33 (by decide), sn_iload_n d214_36 rfl, sn_iconst d214_37 (by decide), sn_icne d214_38 (by decide), sn_aload_n d214_41 rfl, sn_getR (by decide) fi_6_10.1 fi_6_10.2 wf_6_39 d214_42, sn_iload_n d214_45 rfl, sn_aald d214_46, sn_iconst d214_47 (by decide), sn_iload d214_48, sn_iast d214_50, sn_aload_n d214_51 rfl, kV_197 wm_6_259 d214_52, sn_aload_n d214_55 rfl, sn_getR (by decide) fi_6_27.1 fi_6_27.2 wf_6_58 d214_56, sn_iload_n d214_59 rfl, sn_iald d214_60, sn_ifle d214_61 (by decide), sn_iload d214_64, trivial⟩
theorem sc214_1 : eb_AS L q0 214 (eb_lg 214) [(66, op_goto 70), (69, op_push (zi (-1)) 70), (70, op_istore 3 71), (71, op_iinc 4 1 74), (74, op_goto 29), (77, op_aload 0 78), (78, op_getR L 6 10 81), (81, op_iload 1 82), (82, op_aald L 83), (83, op_push (zi 2) 84), (84, op_iload 2 85), (85, op_iast L 86), (86, op_iload 3 87), (87, op_iret)] := ⟨sn_goto d214_66 (by decide), sn_iconst d214_69 (by decide), sn_istore_n (eb_hlg (Or.inl rfl)) hn214_3 d214_70 rfl, sn_iinc (eb_hlg (Or.inl rfl)) hn214_4 d214_71 (by decide), sn_goto d214_74 (by decide), sn_aload_n d214_77 rfl, sn_getR (by decide) fi_6_10.1 fi_6_10.2 wf_6_39 d214_78, sn_iload_n d214_81 rfl, sn_aald d214_82, sn_iconst d214_83 (by decide), sn_iload_n d214_84 rfl, sn_iast d214_85, sn_iload_n d214_86 rfl, sn_iret d214_87 rfl, trivial⟩
theorem sd214 : ∀ pc, eb_Snd L q0 214 pc (eb_lg 214) (eb_cd L 214 pc) := eb_AS_all (hk214 (L := L)) (eb_AS_app sc214_0 (sc214_1))
end

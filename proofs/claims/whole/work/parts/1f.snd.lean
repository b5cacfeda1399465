/-! every row of these methods is sound: by program -/
set_option maxRecDepth 100000
theorem d124_0 : decode (eb_b 124) 0 = .ok (.iload_n 1, 1) := by decide +kernel
theorem d124_1 : decode (eb_b 124) 1 = .ok (.tableswitch 170 0 16 #[83, 91, 99, 107, 115, 123, 131, 139, 147, 155, 170, 170, 160, 160, 160, 160, 160], 83) := by decide +kernel
theorem d124_84 : decode (eb_b 124) 84 = .ok (.aload_n 0, 1) := by decide +kernel
theorem d124_85 : decode (eb_b 124) 85 = .ok (.getfield 10, 3) := by decide +kernel
theorem d124_88 : decode (eb_b 124) 88 = .ok (.getfield 235, 3) := by decide +kernel
theorem d124_91 : decode (eb_b 124) 91 = .ok (.ireturn, 1) := by decide +kernel
theorem d124_92 : decode (eb_b 124) 92 = .ok (.aload_n 0, 1) := by decide +kernel
theorem d124_93 : decode (eb_b 124) 93 = .ok (.getfield 10, 3) := by decide +kernel
theorem d124_96 : decode (eb_b 124) 96 = .ok (.getfield 252, 3) := by decide +kernel
theorem d124_99 : decode (eb_b 124) 99 = .ok (.ireturn, 1) := by decide +kernel
theorem d124_100 : decode (eb_b 124) 100 = .ok (.aload_n 0, 1) := by decide +kernel
theorem d124_101 : decode (eb_b 124) 101 = .ok (.getfield 10, 3) := by decide +kernel
theorem d124_104 : decode (eb_b 124) 104 = .ok (.getfield 153, 3) := by decide +kernel
theorem d124_107 : decode (eb_b 124) 107 = .ok (.ireturn, 1) := by decide +kernel
theorem d124_108 : decode (eb_b 124) 108 = .ok (.aload_n 0, 1) := by decide +kernel
theorem d124_109 : decode (eb_b 124) 109 = .ok (.getfield 10, 3) := by decide +kernel
theorem d124_112 : decode (eb_b 124) 112 = .ok (.invokevirtual 304, 3) := by decide +kernel
theorem wc_43 : Cond.code (eb_y 43) (eb_b 43) (eb_ml 43) (eb_rt 43) ∈ eb_LT := eb_lt 933 (by decide +kernel)
theorem cy_43 : (eb_y 43).cls = eb_cN (eb_rc 43) ∧ (eb_y 43).cls ≠ "java/lang/invoke/MethodHandle" ∧ (eb_y 43).cls ≠ "java/lang/invoke/VarHandle" ∧ (parseMethodDescriptor (eb_y 43).desc).map (fun d => d.parameters.length) = some 0 := by decide +kernel
theorem wi_43 : Cond.instanceMethod (eb_y 43) ∈ eb_LT := eb_lt 931 (by decide +kernel)
theorem wse_43 : Cond.selects (eb_cN (eb_rc 43)) (eb_y 43) (eb_y 43) ∈ eb_LT := eb_lt 932 (by decide +kernel)
theorem kV_43 {L q0 m pc : Nat} {lg : Nat → Bool} {ix : Nat} (hw : Cond.methodLink (eb_own m) ix (eb_y 43) ∈ eb_LT) (hd : decode (eb_b m) pc = .ok (.invokevirtual ix, 3)) : eb_Snd L q0 m pc lg (op_call 43 1 (pc + 3)) := sn_callV false rfl (Or.inr ⟨rfl, _, rfl⟩) (by decide) rfl (by decide) ⟨⟨hw, wi_43, wse_43⟩, wc_43⟩ cy_43 hd
theorem wm_5_304 : Cond.methodLink (eb_cN 5) 304 (eb_y 43) ∈ eb_LT := eb_lt 930 (by decide +kernel)
theorem d124_115 : decode (eb_b 124) 115 = .ok (.ireturn, 1) := by decide +kernel
theorem d124_116 : decode (eb_b 124) 116 = .ok (.aload_n 0, 1) := by decide +kernel
theorem d124_117 : decode (eb_b 124) 117 = .ok (.getfield 10, 3) := by decide +kernel
theorem d124_120 : decode (eb_b 124) 120 = .ok (.invokevirtual 307, 3) := by decide +kernel
theorem wc_44 : Cond.code (eb_y 44) (eb_b 44) (eb_ml 44) (eb_rt 44) ∈ eb_LT := eb_lt 937 (by decide +kernel)
theorem cy_44 : (eb_y 44).cls = eb_cN (eb_rc 44) ∧ (eb_y 44).cls ≠ "java/lang/invoke/MethodHandle" ∧ (eb_y 44).cls ≠ "java/lang/invoke/VarHandle" ∧ (parseMethodDescriptor (eb_y 44).desc).map (fun d => d.parameters.length) = some 0 := by decide +kernel
theorem wi_44 : Cond.instanceMethod (eb_y 44) ∈ eb_LT := eb_lt 935 (by decide +kernel)
theorem wse_44 : Cond.selects (eb_cN (eb_rc 44)) (eb_y 44) (eb_y 44) ∈ eb_LT := eb_lt 936 (by decide +kernel)
theorem kV_44 {L q0 m pc : Nat} {lg : Nat → Bool} {ix : Nat} (hw : Cond.methodLink (eb_own m) ix (eb_y 44) ∈ eb_LT) (hd : decode (eb_b m) pc = .ok (.invokevirtual ix, 3)) : eb_Snd L q0 m pc lg (op_call 44 1 (pc + 3)) := sn_callV false rfl (Or.inr ⟨rfl, _, rfl⟩) (by decide) rfl (by decide) ⟨⟨hw, wi_44, wse_44⟩, wc_44⟩ cy_44 hd
theorem wm_5_307 : Cond.methodLink (eb_cN 5) 307 (eb_y 44) ∈ eb_LT := eb_lt 934 (by decide +kernel)
theorem d124_123 : decode (eb_b 124) 123 = .ok (.ireturn, 1) := by decide +kernel
theorem d124_124 : decode (eb_b 124) 124 = .ok (.aload_n 0, 1) := by decide +kernel
theorem d124_125 : decode (eb_b 124) 125 = .ok (.getfield 10, 3) := by decide +kernel
theorem d124_128 : decode (eb_b 124) 128 = .ok (.invokevirtual 310, 3) := by decide +kernel
theorem wc_45 : Cond.code (eb_y 45) (eb_b 45) (eb_ml 45) (eb_rt 45) ∈ eb_LT := eb_lt 941 (by decide +kernel)
theorem cy_45 : (eb_y 45).cls = eb_cN (eb_rc 45) ∧ (eb_y 45).cls ≠ "java/lang/invoke/MethodHandle" ∧ (eb_y 45).cls ≠ "java/lang/invoke/VarHandle" ∧ (parseMethodDescriptor (eb_y 45).desc).map (fun d => d.parameters.length) = some 0 := by decide +kernel
theorem wi_45 : Cond.instanceMethod (eb_y 45) ∈ eb_LT := eb_lt 939 (by decide +kernel)
theorem wse_45 : Cond.selects (eb_cN (eb_rc 45)) (eb_y 45) (eb_y 45) ∈ eb_LT := eb_lt 940 (by decide +kernel)
theorem kV_45 {L q0 m pc : Nat} {lg : Nat → Bool} {ix : Nat} (hw : Cond.methodLink (eb_own m) ix (eb_y 45) ∈ eb_LT) (hd : decode (eb_b m) pc = .ok (.invokevirtual ix, 3)) : eb_Snd L q0 m pc lg (op_call 45 1 (pc + 3)) := sn_callV false rfl (Or.inr ⟨rfl, _, rfl⟩) (by decide) rfl (by decide) ⟨⟨hw, wi_45, wse_45⟩, wc_45⟩ cy_45 hd
theorem wm_5_310 : Cond.methodLink (eb_cN 5) 310 (eb_y 45) ∈ eb_LT := eb_lt 938 (by decide +kernel)
theorem d124_131 : decode (eb_b 124) 131 = .ok (.ireturn, 1) := by decide +kernel
theorem d124_132 : decode (eb_b 124) 132 = .ok (.aload_n 0, 1) := by decide +kernel
theorem d124_133 : decode (eb_b 124) 133 = .ok (.getfield 10, 3) := by decide +kernel
theorem d124_136 : decode (eb_b 124) 136 = .ok (.getfield 313, 3) := by decide +kernel
theorem wf_5_313 : Cond.fieldLink (eb_cN 5) 313 (eb_tT 4 5).1 (eb_tT 4 5).2.1 (eb_tT 4 5).2.2.1 ∈ eb_LT := eb_lt 211 (by decide +kernel)
theorem d124_139 : decode (eb_b 124) 139 = .ok (.ireturn, 1) := by decide +kernel
theorem d124_140 : decode (eb_b 124) 140 = .ok (.aload_n 0, 1) := by decide +kernel
theorem d124_141 : decode (eb_b 124) 141 = .ok (.getfield 31, 3) := by decide +kernel
theorem d124_144 : decode (eb_b 124) 144 = .ok (.getfield 159, 3) := by decide +kernel
theorem d124_147 : decode (eb_b 124) 147 = .ok (.ireturn, 1) := by decide +kernel
theorem d124_148 : decode (eb_b 124) 148 = .ok (.aload_n 0, 1) := by decide +kernel
theorem d124_149 : decode (eb_b 124) 149 = .ok (.getfield 10, 3) := by decide +kernel
theorem d124_152 : decode (eb_b 124) 152 = .ok (.getfield 297, 3) := by decide +kernel
theorem d124_155 : decode (eb_b 124) 155 = .ok (.ireturn, 1) := by decide +kernel
theorem d124_156 : decode (eb_b 124) 156 = .ok (.aload_n 0, 1) := by decide +kernel
theorem d124_157 : decode (eb_b 124) 157 = .ok (.invokevirtual 316, 3) := by decide +kernel
theorem wc_136 : Cond.code (eb_y 136) (eb_b 136) (eb_ml 136) (eb_rt 136) ∈ eb_LT := eb_lt 945 (by decide +kernel)
theorem cy_136 : (eb_y 136).cls = eb_cN (eb_rc 136) ∧ (eb_y 136).cls ≠ "java/lang/invoke/MethodHandle" ∧ (eb_y 136).cls ≠ "java/lang/invoke/VarHandle" ∧ (parseMethodDescriptor (eb_y 136).desc).map (fun d => d.parameters.length) = some 0 := by decide +kernel
theorem wi_136 : Cond.instanceMethod (eb_y 136) ∈ eb_LT := eb_lt 944 (by decide +kernel)
theorem wse_136 : Cond.selects (eb_cN (eb_rc 136)) (eb_y 136) (eb_y 136) ∈ eb_LT := eb_lt 33 (by decide +kernel)
theorem kV_136 {L q0 m pc : Nat} {lg : Nat → Bool} {ix : Nat} (hw : Cond.methodLink (eb_own m) ix (eb_y 136) ∈ eb_LT) (hd : decode (eb_b m) pc = .ok (.invokevirtual ix, 3)) : eb_Snd L q0 m pc lg (op_call 136 1 (pc + 3)) := sn_callV false rfl (Or.inr ⟨rfl, _, rfl⟩) (by decide) rfl (by decide) ⟨⟨hw, wi_136, wse_136⟩, wc_136⟩ cy_136 hd
theorem wm_5_316 : Cond.methodLink (eb_cN 5) 316 (eb_y 136) ∈ eb_LT := eb_lt 942 (by decide +kernel)
theorem d124_160 : decode (eb_b 124) 160 = .ok (.ireturn, 1) := by decide +kernel
theorem d124_161 : decode (eb_b 124) 161 = .ok (.aload_n 0, 1) := by decide +kernel
theorem d124_162 : decode (eb_b 124) 162 = .ok (.getfield 35, 3) := by decide +kernel
theorem d124_165 : decode (eb_b 124) 165 = .ok (.iload_n 1, 1) := by decide +kernel
theorem d124_166 : decode (eb_b 124) 166 = .ok (.bipush 12, 2) := by decide +kernel
theorem d124_168 : decode (eb_b 124) 168 = .ok (.isub, 1) := by decide +kernel
theorem d124_169 : decode (eb_b 124) 169 = .ok (.iaload, 1) := by decide +kernel
theorem d124_170 : decode (eb_b 124) 170 = .ok (.ireturn, 1) := by decide +kernel
theorem d124_171 : decode (eb_b 124) 171 = .ok (.iconst (-1), 1) := by decide +kernel
theorem d124_172 : decode (eb_b 124) 172 = .ok (.ireturn, 1) := by decide +kernel
theorem d125_0 : decode (eb_b 125) 0 = .ok (.bipush (-2), 2) := by decide +kernel
theorem d125_2 : decode (eb_b 125) 2 = .ok (.iload_n 1, 1) := by decide +kernel
theorem d125_3 : decode (eb_b 125) 3 = .ok (.isub, 1) := by decide +kernel
theorem d125_4 : decode (eb_b 125) 4 = .ok (.istore_n 2, 1) := by decide +kernel
theorem hn125_2 : 2 < eb_ml 125 := by decide
theorem d125_5 : decode (eb_b 125) 5 = .ok (.iload_n 2, 1) := by decide +kernel
theorem d125_6 : decode (eb_b 125) 6 = .ok (.iconst 0, 1) := by decide +kernel
theorem d125_7 : decode (eb_b 125) 7 = .ok (.iconst 4, 1) := by decide +kernel
theorem d125_8 : decode (eb_b 125) 8 = .ok (.invokestatic 44, 3) := by decide +kernel
theorem d125_11 : decode (eb_b 125) 11 = .ok (.ifCond .eq 13, 3) := by decide +kernel
theorem d125_14 : decode (eb_b 125) 14 = .ok (.aload_n 0, 1) := by decide +kernel
theorem d125_15 : decode (eb_b 125) 15 = .ok (.getfield 35, 3) := by decide +kernel
theorem d125_18 : decode (eb_b 125) 18 = .ok (.iload_n 2, 1) := by decide +kernel
theorem d125_19 : decode (eb_b 125) 19 = .ok (.dup2, 1) := by decide +kernel
theorem d125_20 : decode (eb_b 125) 20 = .ok (.iaload, 1) := by decide +kernel
theorem d125_21 : decode (eb_b 125) 21 = .ok (.iconst 1, 1) := by decide +kernel
theorem d125_22 : decode (eb_b 125) 22 = .ok (.iadd, 1) := by decide +kernel
theorem d125_23 : decode (eb_b 125) 23 = .ok (.iastore, 1) := by decide +kernel
theorem d125_24 : decode (eb_b 125) 24 = .ok (.iload_n 1, 1) := by decide +kernel
theorem d125_25 : decode (eb_b 125) 25 = .ok (.ireturn, 1) := by decide +kernel
theorem d126_0 : decode (eb_b 126) 0 = .ok (.ldc_w 319, 3) := by decide +kernel
theorem wk_5_319 : Cond.constant (eb_cN 5) 319 (-1000000) ∈ eb_LT := eb_lt 627 (by decide +kernel)
theorem d126_3 : decode (eb_b 126) 3 = .ok (.aload_n 0, 1) := by decide +kernel
theorem d126_4 : decode (eb_b 126) 4 = .ok (.iload_n 1, 1) := by decide +kernel
theorem d126_5 : decode (eb_b 126) 5 = .ok (.invokevirtual 48, 3) := by decide +kernel
theorem d126_8 : decode (eb_b 126) 8 = .ok (.iadd, 1) := by decide +kernel
theorem d126_9 : decode (eb_b 126) 9 = .ok (.ireturn, 1) := by decide +kernel
theorem d127_0 : decode (eb_b 127) 0 = .ok (.iload_n 0, 1) := by decide +kernel
theorem d127_1 : decode (eb_b 127) 1 = .ok (.iload_n 1, 1) := by decide +kernel
theorem d127_2 : decode (eb_b 127) 2 = .ok (.if_icmp .lt 12, 3) := by decide +kernel
theorem d127_5 : decode (eb_b 127) 5 = .ok (.iload_n 0, 1) := by decide +kernel
theorem d127_6 : decode (eb_b 127) 6 = .ok (.iload_n 2, 1) := by decide +kernel
theorem d127_7 : decode (eb_b 127) 7 = .ok (.if_icmp .gt 7, 3) := by decide +kernel
theorem d127_10 : decode (eb_b 127) 10 = .ok (.iconst 1, 1) := by decide +kernel
theorem d127_11 : decode (eb_b 127) 11 = .ok (.goto 4, 3) := by decide +kernel
theorem d127_14 : decode (eb_b 127) 14 = .ok (.iconst 0, 1) := by decide +kernel
theorem d127_15 : decode (eb_b 127) 15 = .ok (.ireturn, 1) := by decide +kernel
theorem d128_0 : decode (eb_b 128) 0 = .ok (.iload_n 0, 1) := by decide +kernel
theorem d128_1 : decode (eb_b 128) 1 = .ok (.iconst 0, 1) := by decide +kernel
theorem d128_2 : decode (eb_b 128) 2 = .ok (.bipush 7, 2) := by decide +kernel
theorem d128_4 : decode (eb_b 128) 4 = .ok (.invokestatic 44, 3) := by decide +kernel
theorem d128_7 : decode (eb_b 128) 7 = .ok (.ireturn, 1) := by decide +kernel
theorem d129_0 : decode (eb_b 129) 0 = .ok (.iload_n 0, 1) := by decide +kernel
theorem d129_1 : decode (eb_b 129) 1 = .ok (.iconst 0, 1) := by decide +kernel
theorem d129_2 : decode (eb_b 129) 2 = .ok (.bipush 100, 2) := by decide +kernel
theorem d129_4 : decode (eb_b 129) 4 = .ok (.invokestatic 44, 3) := by decide +kernel
theorem d129_7 : decode (eb_b 129) 7 = .ok (.ireturn, 1) := by decide +kernel
theorem d130_0 : decode (eb_b 130) 0 = .ok (.iload_n 0, 1) := by decide +kernel
theorem d130_1 : decode (eb_b 130) 1 = .ok (.iconst 1, 1) := by decide +kernel
theorem d130_2 : decode (eb_b 130) 2 = .ok (.bipush 12, 2) := by decide +kernel
theorem d130_4 : decode (eb_b 130) 4 = .ok (.invokestatic 44, 3) := by decide +kernel
theorem d130_7 : decode (eb_b 130) 7 = .ok (.ireturn, 1) := by decide +kernel
theorem d131_0 : decode (eb_b 131) 0 = .ok (.iload_n 1, 1) := by decide +kernel
theorem d131_1 : decode (eb_b 131) 1 = .ok (.iconst 0, 1) := by decide +kernel
theorem d131_2 : decode (eb_b 131) 2 = .ok (.aload_n 0, 1) := by decide +kernel
theorem d131_3 : decode (eb_b 131) 3 = .ok (.getfield 10, 3) := by decide +kernel
theorem d131_6 : decode (eb_b 131) 6 = .ok (.getfield 235, 3) := by decide +kernel
theorem d131_9 : decode (eb_b 131) 9 = .ok (.iconst 1, 1) := by decide +kernel
theorem d131_10 : decode (eb_b 131) 10 = .ok (.isub, 1) := by decide +kernel
theorem d131_11 : decode (eb_b 131) 11 = .ok (.invokestatic 44, 3) := by decide +kernel
theorem d131_14 : decode (eb_b 131) 14 = .ok (.ireturn, 1) := by decide +kernel
theorem d132_0 : decode (eb_b 132) 0 = .ok (.iload_n 1, 1) := by decide +kernel
theorem d132_1 : decode (eb_b 132) 1 = .ok (.iconst 0, 1) := by decide +kernel
theorem d132_2 : decode (eb_b 132) 2 = .ok (.aload_n 0, 1) := by decide +kernel
theorem d132_3 : decode (eb_b 132) 3 = .ok (.getfield 10, 3) := by decide +kernel
theorem d132_6 : decode (eb_b 132) 6 = .ok (.getfield 252, 3) := by decide +kernel
theorem d132_9 : decode (eb_b 132) 9 = .ok (.iconst 1, 1) := by decide +kernel
theorem d132_10 : decode (eb_b 132) 10 = .ok (.isub, 1) := by decide +kernel
theorem d132_11 : decode (eb_b 132) 11 = .ok (.invokestatic 44, 3) := by decide +kernel
theorem d132_14 : decode (eb_b 132) 14 = .ok (.ireturn, 1) := by decide +kernel
theorem d133_0 : decode (eb_b 133) 0 = .ok (.iload_n 1, 1) := by decide +kernel
theorem d133_1 : decode (eb_b 133) 1 = .ok (.iconst (-1), 1) := by decide +kernel
theorem d133_2 : decode (eb_b 133) 2 = .ok (.if_icmp .eq 11, 3) := by decide +kernel
theorem d133_5 : decode (eb_b 133) 5 = .ok (.aload_n 0, 1) := by decide +kernel
theorem d133_6 : decode (eb_b 133) 6 = .ok (.iload_n 1, 1) := by decide +kernel
theorem d133_7 : decode (eb_b 133) 7 = .ok (.invokevirtual 94, 3) := by decide +kernel
theorem d133_10 : decode (eb_b 133) 10 = .ok (.ifCond .eq 7, 3) := by decide +kernel
theorem d133_13 : decode (eb_b 133) 13 = .ok (.iconst 1, 1) := by decide +kernel
theorem d133_14 : decode (eb_b 133) 14 = .ok (.goto 4, 3) := by decide +kernel
theorem d133_17 : decode (eb_b 133) 17 = .ok (.iconst 0, 1) := by decide +kernel
theorem d133_18 : decode (eb_b 133) 18 = .ok (.ireturn, 1) := by decide +kernel
theorem d134_0 : decode (eb_b 134) 0 = .ok (.iload_n 1, 1) := by decide +kernel
theorem d134_1 : decode (eb_b 134) 1 = .ok (.iconst 0, 1) := by decide +kernel
theorem d134_2 : decode (eb_b 134) 2 = .ok (.iconst 1, 1) := by decide +kernel
theorem d134_3 : decode (eb_b 134) 3 = .ok (.aload_n 0, 1) := by decide +kernel
theorem d134_4 : decode (eb_b 134) 4 = .ok (.getfield 10, 3) := by decide +kernel
theorem d134_7 : decode (eb_b 134) 7 = .ok (.getfield 235, 3) := by decide +kernel
theorem d134_10 : decode (eb_b 134) 10 = .ok (.ishl, 1) := by decide +kernel
theorem d134_11 : decode (eb_b 134) 11 = .ok (.iconst 1, 1) := by decide +kernel
theorem d134_12 : decode (eb_b 134) 12 = .ok (.isub, 1) := by decide +kernel
theorem d134_13 : decode (eb_b 134) 13 = .ok (.invokestatic 44, 3) := by decide +kernel
theorem d134_16 : decode (eb_b 134) 16 = .ok (.ireturn, 1) := by decide +kernel
theorem d135_0 : decode (eb_b 135) 0 = .ok (.iload_n 1, 1) := by decide +kernel
theorem d135_1 : decode (eb_b 135) 1 = .ok (.invokestatic 40, 3) := by decide +kernel
theorem d135_4 : decode (eb_b 135) 4 = .ok (.ifCond .ne 6, 3) := by decide +kernel
theorem d135_7 : decode (eb_b 135) 7 = .ok (.bipush (-2), 2) := by decide +kernel
theorem d135_9 : decode (eb_b 135) 9 = .ok (.ireturn, 1) := by decide +kernel
theorem d135_10 : decode (eb_b 135) 10 = .ok (.aload_n 0, 1) := by decide +kernel
theorem d135_11 : decode (eb_b 135) 11 = .ok (.getfield 24, 3) := by decide +kernel
theorem d135_14 : decode (eb_b 135) 14 = .ok (.iload_n 1, 1) := by decide +kernel
theorem d135_15 : decode (eb_b 135) 15 = .ok (.aaload, 1) := by decide +kernel
theorem d135_16 : decode (eb_b 135) 16 = .ok (.invokevirtual 70, 3) := by decide +kernel
theorem d135_19 : decode (eb_b 135) 19 = .ok (.ifCond .eq 6, 3) := by decide +kernel
theorem d135_22 : decode (eb_b 135) 22 = .ok (.bipush (-3), 2) := by decide +kernel
theorem d135_24 : decode (eb_b 135) 24 = .ok (.ireturn, 1) := by decide +kernel
theorem d135_25 : decode (eb_b 135) 25 = .ok (.aload_n 0, 1) := by decide +kernel
theorem d135_26 : decode (eb_b 135) 26 = .ok (.getfield 24, 3) := by decide +kernel
theorem d135_29 : decode (eb_b 135) 29 = .ok (.iload_n 1, 1) := by decide +kernel
theorem d135_30 : decode (eb_b 135) 30 = .ok (.aaload, 1) := by decide +kernel
theorem d135_31 : decode (eb_b 135) 31 = .ok (.invokevirtual 88, 3) := by decide +kernel
theorem d135_34 : decode (eb_b 135) 34 = .ok (.ifCond .eq 7, 3) := by decide +kernel
theorem d135_37 : decode (eb_b 135) 37 = .ok (.iconst 0, 1) := by decide +kernel
theorem d135_38 : decode (eb_b 135) 38 = .ok (.goto 5, 3) := by decide +kernel
theorem d135_41 : decode (eb_b 135) 41 = .ok (.bipush (-4), 2) := by decide +kernel
theorem d135_43 : decode (eb_b 135) 43 = .ok (.ireturn, 1) := by decide +kernel
theorem d136_0 : decode (eb_b 136) 0 = .ok (.iconst 0, 1) := by decide +kernel
theorem d136_1 : decode (eb_b 136) 1 = .ok (.istore_n 1, 1) := by decide +kernel
theorem hn136_1 : 1 < eb_ml 136 := by decide
theorem d136_2 : decode (eb_b 136) 2 = .ok (.iconst 0, 1) := by decide +kernel
theorem d136_3 : decode (eb_b 136) 3 = .ok (.istore_n 2, 1) := by decide +kernel
theorem hn136_2 : 2 < eb_ml 136 := by decide
theorem d136_4 : decode (eb_b 136) 4 = .ok (.iload_n 2, 1) := by decide +kernel
theorem d136_5 : decode (eb_b 136) 5 = .ok (.bipush 8, 2) := by decide +kernel
theorem d136_7 : decode (eb_b 136) 7 = .ok (.if_icmp .ge 25, 3) := by decide +kernel
theorem d136_10 : decode (eb_b 136) 10 = .ok (.aload_n 0, 1) := by decide +kernel
theorem d136_11 : decode (eb_b 136) 11 = .ok (.getfield 24, 3) := by decide +kernel
theorem d136_14 : decode (eb_b 136) 14 = .ok (.iload_n 2, 1) := by decide +kernel
theorem d136_15 : decode (eb_b 136) 15 = .ok (.aaload, 1) := by decide +kernel
theorem d136_16 : decode (eb_b 136) 16 = .ok (.getfield 67, 3) := by decide +kernel
theorem d136_19 : decode (eb_b 136) 19 = .ok (.iconst (-1), 1) := by decide +kernel
theorem d136_20 : decode (eb_b 136) 20 = .ok (.if_icmp .eq 6, 3) := by decide +kernel
theorem d136_23 : decode (eb_b 136) 23 = .ok (.iinc 1 1, 3) := by decide +kernel
theorem d136_26 : decode (eb_b 136) 26 = .ok (.iinc 2 1, 3) := by decide +kernel
theorem d136_29 : decode (eb_b 136) 29 = .ok (.goto (-25), 3) := by decide +kernel
theorem d136_32 : decode (eb_b 136) 32 = .ok (.iload_n 1, 1) := by decide +kernel
theorem d136_33 : decode (eb_b 136) 33 = .ok (.ireturn, 1) := by decide +kernel
theorem d137_0 : decode (eb_b 137) 0 = .ok (.aload_n 0, 1) := by decide +kernel
theorem d137_1 : decode (eb_b 137) 1 = .ok (.getfield 10, 3) := by decide +kernel
theorem d137_4 : decode (eb_b 137) 4 = .ok (.invokevirtual 243, 3) := by decide +kernel
theorem d137_7 : decode (eb_b 137) 7 = .ok (.aload_n 0, 1) := by decide +kernel
theorem d137_8 : decode (eb_b 137) 8 = .ok (.getfield 10, 3) := by decide +kernel
theorem d137_11 : decode (eb_b 137) 11 = .ok (.areturn, 1) := by decide +kernel
theorem d138_0 : decode (eb_b 138) 0 = .ok (.aload_n 0, 1) := by decide +kernel
theorem d138_1 : decode (eb_b 138) 1 = .ok (.getfield 16, 3) := by decide +kernel
theorem d138_4 : decode (eb_b 138) 4 = .ok (.aload_n 0, 1) := by decide +kernel
theorem d138_5 : decode (eb_b 138) 5 = .ok (.getfield 10, 3) := by decide +kernel
theorem d138_8 : decode (eb_b 138) 8 = .ok (.invokevirtual 171, 3) := by decide +kernel
theorem d138_11 : decode (eb_b 138) 11 = .ok (.aload_n 0, 1) := by decide +kernel
theorem d138_12 : decode (eb_b 138) 12 = .ok (.getfield 16, 3) := by decide +kernel
theorem d138_15 : decode (eb_b 138) 15 = .ok (.areturn, 1) := by decide +kernel
theorem d139_0 : decode (eb_b 139) 0 = .ok (.aload_n 0, 1) := by decide +kernel
theorem d139_1 : decode (eb_b 139) 1 = .ok (.invokevirtual 160, 3) := by decide +kernel
theorem d139_4 : decode (eb_b 139) 4 = .ok (.iload_n 2, 1) := by decide +kernel
theorem d139_5 : decode (eb_b 139) 5 = .ok (.invokevirtual 144, 3) := by decide +kernel
theorem d139_8 : decode (eb_b 139) 8 = .ok (.pop, 1) := by decide +kernel
theorem d139_9 : decode (eb_b 139) 9 = .ok (.aload_n 0, 1) := by decide +kernel
theorem d139_10 : decode (eb_b 139) 10 = .ok (.getfield 16, 3) := by decide +kernel
theorem d139_13 : decode (eb_b 139) 13 = .ok (.iload_n 1, 1) := by decide +kernel
theorem d139_14 : decode (eb_b 139) 14 = .ok (.invokevirtual 258, 3) := by decide +kernel
theorem d139_17 : decode (eb_b 139) 17 = .ok (.ireturn, 1) := by decide +kernel
theorem d140_0 : decode (eb_b 140) 0 = .ok (.iconst 0, 1) := by decide +kernel
theorem d140_1 : decode (eb_b 140) 1 = .ok (.istore 4, 2) := by decide +kernel
theorem hn140_4 : 4 < eb_ml 140 := by decide
theorem d140_3 : decode (eb_b 140) 3 = .ok (.aload_n 0, 1) := by decide +kernel
theorem d140_4 : decode (eb_b 140) 4 = .ok (.iload_n 1, 1) := by decide +kernel
theorem d140_5 : decode (eb_b 140) 5 = .ok (.iconst 0, 1) := by decide +kernel
theorem d140_6 : decode (eb_b 140) 6 = .ok (.invokevirtual 271, 3) := by decide +kernel
theorem d140_9 : decode (eb_b 140) 9 = .ok (.istore 5, 2) := by decide +kernel
theorem hn140_5 : 5 < eb_ml 140 := by decide
theorem d140_11 : decode (eb_b 140) 11 = .ok (.iconst 1, 1) := by decide +kernel
theorem d140_12 : decode (eb_b 140) 12 = .ok (.aload_n 0, 1) := by decide +kernel
theorem d140_13 : decode (eb_b 140) 13 = .ok (.getfield 10, 3) := by decide +kernel
theorem d140_16 : decode (eb_b 140) 16 = .ok (.getfield 235, 3) := by decide +kernel
theorem d140_19 : decode (eb_b 140) 19 = .ok (.ishl, 1) := by decide +kernel
theorem d140_20 : decode (eb_b 140) 20 = .ok (.istore 6, 2) := by decide +kernel
theorem hn140_6 : 6 < eb_ml 140 := by decide
theorem d140_22 : decode (eb_b 140) 22 = .ok (.iconst 1, 1) := by decide +kernel
theorem d140_23 : decode (eb_b 140) 23 = .ok (.istore 7, 2) := by decide +kernel
theorem hn140_7 : 7 < eb_ml 140 := by decide
theorem d140_25 : decode (eb_b 140) 25 = .ok (.iload 7, 2) := by decide +kernel
theorem d140_27 : decode (eb_b 140) 27 = .ok (.iload 6, 2) := by decide +kernel
theorem d140_29 : decode (eb_b 140) 29 = .ok (.if_icmp .ge 82, 3) := by decide +kernel
theorem d140_32 : decode (eb_b 140) 32 = .ok (.iload 7, 2) := by decide +kernel
theorem d140_34 : decode (eb_b 140) 34 = .ok (.invokestatic 274, 3) := by decide +kernel
theorem d140_37 : decode (eb_b 140) 37 = .ok (.istore 8, 2) := by decide +kernel
theorem hn140_8 : 8 < eb_ml 140 := by decide
theorem d140_39 : decode (eb_b 140) 39 = .ok (.iload 8, 2) := by decide +kernel
theorem d140_41 : decode (eb_b 140) 41 = .ok (.iload_n 2, 1) := by decide +kernel
theorem d140_42 : decode (eb_b 140) 42 = .ok (.if_icmp .le 6, 3) := by decide +kernel
theorem d140_45 : decode (eb_b 140) 45 = .ok (.goto 60, 3) := by decide +kernel
theorem d140_48 : decode (eb_b 140) 48 = .ok (.aload_n 0, 1) := by decide +kernel
theorem d140_49 : decode (eb_b 140) 49 = .ok (.iload_n 1, 1) := by decide +kernel
theorem d140_50 : decode (eb_b 140) 50 = .ok (.iload 7, 2) := by decide +kernel
theorem d140_52 : decode (eb_b 140) 52 = .ok (.invokevirtual 271, 3) := by decide +kernel
theorem d140_55 : decode (eb_b 140) 55 = .ok (.istore 9, 2) := by decide +kernel
theorem hn140_9 : 9 < eb_ml 140 := by decide
theorem d140_57 : decode (eb_b 140) 57 = .ok (.iload_n 3, 1) := by decide +kernel
theorem d140_58 : decode (eb_b 140) 58 = .ok (.ifCond .eq 17, 3) := by decide +kernel
theorem d140_61 : decode (eb_b 140) 61 = .ok (.iload 8, 2) := by decide +kernel
theorem d140_63 : decode (eb_b 140) 63 = .ok (.iload 4, 2) := by decide +kernel
theorem d140_65 : decode (eb_b 140) 65 = .ok (.invokestatic 274, 3) := by decide +kernel
theorem d140_68 : decode (eb_b 140) 68 = .ok (.if_icmp .ge 7, 3) := by decide +kernel
theorem d140_71 : decode (eb_b 140) 71 = .ok (.iconst 1, 1) := by decide +kernel
theorem d140_72 : decode (eb_b 140) 72 = .ok (.goto 4, 3) := by decide +kernel
theorem d140_75 : decode (eb_b 140) 75 = .ok (.iconst 0, 1) := by decide +kernel
theorem d140_76 : decode (eb_b 140) 76 = .ok (.istore 10, 2) := by decide +kernel
theorem hn140_10 : 10 < eb_ml 140 := by decide
theorem d140_78 : decode (eb_b 140) 78 = .ok (.iload 9, 2) := by decide +kernel
theorem d140_80 : decode (eb_b 140) 80 = .ok (.iload 5, 2) := by decide +kernel
theorem d140_82 : decode (eb_b 140) 82 = .ok (.if_icmp .gt 15, 3) := by decide +kernel
theorem d140_85 : decode (eb_b 140) 85 = .ok (.iload 9, 2) := by decide +kernel
theorem d140_87 : decode (eb_b 140) 87 = .ok (.iload 5, 2) := by decide +kernel
theorem d140_89 : decode (eb_b 140) 89 = .ok (.if_icmp .ne 16, 3) := by decide +kernel
theorem d140_92 : decode (eb_b 140) 92 = .ok (.iload 10, 2) := by decide +kernel
theorem d140_94 : decode (eb_b 140) 94 = .ok (.ifCond .eq 11, 3) := by decide +kernel
theorem d140_97 : decode (eb_b 140) 97 = .ok (.iload 7, 2) := by decide +kernel
theorem d140_99 : decode (eb_b 140) 99 = .ok (.istore 4, 2) := by decide +kernel
theorem d140_101 : decode (eb_b 140) 101 = .ok (.iload 9, 2) := by decide +kernel
theorem d140_103 : decode (eb_b 140) 103 = .ok (.istore 5, 2) := by decide +kernel
theorem d140_105 : decode (eb_b 140) 105 = .ok (.iinc 7 1, 3) := by decide +kernel
theorem d140_108 : decode (eb_b 140) 108 = .ok (.goto (-83), 3) := by decide +kernel
theorem d140_111 : decode (eb_b 140) 111 = .ok (.iload 4, 2) := by decide +kernel
theorem d140_113 : decode (eb_b 140) 113 = .ok (.ireturn, 1) := by decide +kernel
theorem d141_0 : decode (eb_b 141) 0 = .ok (.aload_n 0, 1) := by decide +kernel
theorem d141_1 : decode (eb_b 141) 1 = .ok (.invokevirtual 160, 3) := by decide +kernel
theorem d141_4 : decode (eb_b 141) 4 = .ok (.pop, 1) := by decide +kernel
theorem d141_5 : decode (eb_b 141) 5 = .ok (.iconst 0, 1) := by decide +kernel
theorem d141_6 : decode (eb_b 141) 6 = .ok (.istore_n 3, 1) := by decide +kernel
theorem hn141_3 : 3 < eb_ml 141 := by decide
theorem d141_7 : decode (eb_b 141) 7 = .ok (.iconst 0, 1) := by decide +kernel
theorem d141_8 : decode (eb_b 141) 8 = .ok (.istore 4, 2) := by decide +kernel
theorem hn141_4 : 4 < eb_ml 141 := by decide
theorem d141_10 : decode (eb_b 141) 10 = .ok (.iload 4, 2) := by decide +kernel
theorem d141_12 : decode (eb_b 141) 12 = .ok (.iload_n 1, 1) := by decide +kernel
theorem d141_13 : decode (eb_b 141) 13 = .ok (.if_icmp .ge 65, 3) := by decide +kernel
theorem d141_16 : decode (eb_b 141) 16 = .ok (.aload_n 0, 1) := by decide +kernel
theorem d141_17 : decode (eb_b 141) 17 = .ok (.iload_n 1, 1) := by decide +kernel
theorem d141_18 : decode (eb_b 141) 18 = .ok (.iload_n 2, 1) := by decide +kernel
theorem d141_19 : decode (eb_b 141) 19 = .ok (.iload 4, 2) := by decide +kernel
theorem d141_21 : decode (eb_b 141) 21 = .ok (.invokevirtual 285, 3) := by decide +kernel
theorem d141_24 : decode (eb_b 141) 24 = .ok (.istore 5, 2) := by decide +kernel
theorem hn141_5 : 5 < eb_ml 141 := by decide
theorem d141_26 : decode (eb_b 141) 26 = .ok (.aload_n 0, 1) := by decide +kernel
theorem d141_27 : decode (eb_b 141) 27 = .ok (.iload 5, 2) := by decide +kernel
theorem d141_29 : decode (eb_b 141) 29 = .ok (.invokevirtual 123, 3) := by decide +kernel
theorem d141_32 : decode (eb_b 141) 32 = .ok (.ifCond .eq 29, 3) := by decide +kernel
theorem d141_35 : decode (eb_b 141) 35 = .ok (.aload_n 0, 1) := by decide +kernel
theorem d141_36 : decode (eb_b 141) 36 = .ok (.getfield 16, 3) := by decide +kernel
theorem d141_39 : decode (eb_b 141) 39 = .ok (.getfield 126, 3) := by decide +kernel
theorem d141_42 : decode (eb_b 141) 42 = .ok (.iload 5, 2) := by decide +kernel
theorem d141_44 : decode (eb_b 141) 44 = .ok (.aaload, 1) := by decide +kernel
theorem d141_45 : decode (eb_b 141) 45 = .ok (.aload_n 0, 1) := by decide +kernel
theorem d141_46 : decode (eb_b 141) 46 = .ok (.getfield 16, 3) := by decide +kernel
theorem d141_49 : decode (eb_b 141) 49 = .ok (.getfield 126, 3) := by decide +kernel
theorem d141_52 : decode (eb_b 141) 52 = .ok (.iload 5, 2) := by decide +kernel
theorem d141_54 : decode (eb_b 141) 54 = .ok (.aaload, 1) := by decide +kernel
theorem d141_55 : decode (eb_b 141) 55 = .ok (.getfield 130, 3) := by decide +kernel
theorem d141_58 : decode (eb_b 141) 58 = .ok (.putfield 138, 3) := by decide +kernel
theorem d141_61 : decode (eb_b 141) 61 = .ok (.iload_n 3, 1) := by decide +kernel
theorem d141_62 : decode (eb_b 141) 62 = .ok (.aload_n 0, 1) := by decide +kernel
theorem d141_63 : decode (eb_b 141) 63 = .ok (.getfield 16, 3) := by decide +kernel
theorem d141_66 : decode (eb_b 141) 66 = .ok (.iconst 1, 1) := by decide +kernel
theorem d141_67 : decode (eb_b 141) 67 = .ok (.invokevirtual 258, 3) := by decide +kernel
theorem d141_70 : decode (eb_b 141) 70 = .ok (.iadd, 1) := by decide +kernel
theorem d141_71 : decode (eb_b 141) 71 = .ok (.istore_n 3, 1) := by decide +kernel
theorem d141_72 : decode (eb_b 141) 72 = .ok (.iinc 4 1, 3) := by decide +kernel
theorem d141_75 : decode (eb_b 141) 75 = .ok (.goto (-65), 3) := by decide +kernel
theorem d141_78 : decode (eb_b 141) 78 = .ok (.iload_n 3, 1) := by decide +kernel
theorem d141_79 : decode (eb_b 141) 79 = .ok (.ireturn, 1) := by decide +kernel
theorem d142_0 : decode (eb_b 142) 0 = .ok (.aload_n 0, 1) := by decide +kernel
theorem d142_1 : decode (eb_b 142) 1 = .ok (.getfield 10, 3) := by decide +kernel
theorem d142_4 : decode (eb_b 142) 4 = .ok (.getfield 235, 3) := by decide +kernel
theorem d142_7 : decode (eb_b 142) 7 = .ok (.iconst 1, 1) := by decide +kernel
theorem d142_8 : decode (eb_b 142) 8 = .ok (.iadd, 1) := by decide +kernel
theorem d142_9 : decode (eb_b 142) 9 = .ok (.istore 4, 2) := by decide +kernel
theorem hn142_4 : 4 < eb_ml 142 := by decide
theorem d142_11 : decode (eb_b 142) 11 = .ok (.iload 4, 2) := by decide +kernel
theorem d142_13 : decode (eb_b 142) 13 = .ok (.iload_n 1, 1) := by decide +kernel
theorem d142_14 : decode (eb_b 142) 14 = .ok (.iconst 1, 1) := by decide +kernel
theorem d142_15 : decode (eb_b 142) 15 = .ok (.isub, 1) := by decide +kernel
theorem d142_16 : decode (eb_b 142) 16 = .ok (.iload_n 3, 1) := by decide +kernel
theorem d142_17 : decode (eb_b 142) 17 = .ok (.isub, 1) := by decide +kernel
theorem d142_18 : decode (eb_b 142) 18 = .ok (.invokestatic 282, 3) := by decide +kernel
theorem d142_21 : decode (eb_b 142) 21 = .ok (.istore 5, 2) := by decide +kernel
theorem hn142_5 : 5 < eb_ml 142 := by decide
theorem d142_23 : decode (eb_b 142) 23 = .ok (.iload 4, 2) := by decide +kernel
theorem d142_25 : decode (eb_b 142) 25 = .ok (.iconst 1, 1) := by decide +kernel
theorem d142_26 : decode (eb_b 142) 26 = .ok (.if_icmp .lt 9, 3) := by decide +kernel
theorem d142_29 : decode (eb_b 142) 29 = .ok (.iload 5, 2) := by decide +kernel
theorem d142_31 : decode (eb_b 142) 31 = .ok (.iconst 1, 1) := by decide +kernel
theorem d142_32 : decode (eb_b 142) 32 = .ok (.if_icmp .ge 7, 3) := by decide +kernel
theorem d142_35 : decode (eb_b 142) 35 = .ok (.iconst (-1), 1) := by decide +kernel
theorem d142_36 : decode (eb_b 142) 36 = .ok (.goto 12, 3) := by decide +kernel
theorem d142_39 : decode (eb_b 142) 39 = .ok (.iload_n 2, 1) := by decide +kernel
theorem d142_40 : decode (eb_b 142) 40 = .ok (.iload 5, 2) := by decide +kernel
theorem d142_42 : decode (eb_b 142) 42 = .ok (.idiv, 1) := by decide +kernel
theorem d142_43 : decode (eb_b 142) 43 = .ok (.iload 4, 2) := by decide +kernel
theorem d142_45 : decode (eb_b 142) 45 = .ok (.irem, 1) := by decide +kernel
theorem d142_46 : decode (eb_b 142) 46 = .ok (.iconst 1, 1) := by decide +kernel
theorem d142_47 : decode (eb_b 142) 47 = .ok (.isub, 1) := by decide +kernel
theorem d142_48 : decode (eb_b 142) 48 = .ok (.ireturn, 1) := by decide +kernel
theorem d143_0 : decode (eb_b 143) 0 = .ok (.iconst 1, 1) := by decide +kernel
theorem d143_1 : decode (eb_b 143) 1 = .ok (.istore_n 2, 1) := by decide +kernel
theorem hn143_2 : 2 < eb_ml 143 := by decide
theorem d143_2 : decode (eb_b 143) 2 = .ok (.iconst 0, 1) := by decide +kernel
theorem d143_3 : decode (eb_b 143) 3 = .ok (.istore_n 3, 1) := by decide +kernel
theorem hn143_3 : 3 < eb_ml 143 := by decide
theorem d143_4 : decode (eb_b 143) 4 = .ok (.iload_n 3, 1) := by decide +kernel
theorem d143_5 : decode (eb_b 143) 5 = .ok (.iload_n 1, 1) := by decide +kernel
theorem d143_6 : decode (eb_b 143) 6 = .ok (.if_icmp .ge 13, 3) := by decide +kernel
theorem d143_9 : decode (eb_b 143) 9 = .ok (.iload_n 2, 1) := by decide +kernel
theorem d143_10 : decode (eb_b 143) 10 = .ok (.iload_n 0, 1) := by decide +kernel
theorem d143_11 : decode (eb_b 143) 11 = .ok (.imul, 1) := by decide +kernel
theorem d143_12 : decode (eb_b 143) 12 = .ok (.istore_n 2, 1) := by decide +kernel
theorem d143_13 : decode (eb_b 143) 13 = .ok (.iinc 3 1, 3) := by decide +kernel
theorem d143_16 : decode (eb_b 143) 16 = .ok (.goto (-12), 3) := by decide +kernel
theorem d143_19 : decode (eb_b 143) 19 = .ok (.iload_n 2, 1) := by decide +kernel
theorem d143_20 : decode (eb_b 143) 20 = .ok (.ireturn, 1) := by decide +kernel
theorem d145_0 : decode (eb_b 145) 0 = .ok (.aload_n 0, 1) := by decide +kernel
theorem d145_1 : decode (eb_b 145) 1 = .ok (.getfield 34, 3) := by decide +kernel
theorem wf_6_34 : Cond.fieldLink (eb_cN 6) 34 (eb_tT 6 8).1 (eb_tT 6 8).2.1 (eb_tT 6 8).2.2.1 ∈ eb_LT := eb_lt 964 (by decide +kernel)
theorem fi_6_8 : 8 < eb_nf 6 ∧ (eb_tt 6 8).isReference = true := ⟨by decide, rfl⟩
theorem d145_4 : decode (eb_b 145) 4 = .ok (.iload_n 1, 1) := by decide +kernel
theorem d145_5 : decode (eb_b 145) 5 = .ok (.ineg, 1) := by decide +kernel
theorem d145_6 : decode (eb_b 145) 6 = .ok (.dup2, 1) := by decide +kernel
theorem d145_7 : decode (eb_b 145) 7 = .ok (.iaload, 1) := by decide +kernel
theorem d145_8 : decode (eb_b 145) 8 = .ok (.iconst 1, 1) := by decide +kernel
theorem d145_9 : decode (eb_b 145) 9 = .ok (.iadd, 1) := by decide +kernel
theorem d145_10 : decode (eb_b 145) 10 = .ok (.iastore, 1) := by decide +kernel
theorem d145_11 : decode (eb_b 145) 11 = .ok (.iload_n 1, 1) := by decide +kernel
theorem d145_12 : decode (eb_b 145) 12 = .ok (.ireturn, 1) := by decide +kernel
theorem d146_0 : decode (eb_b 146) 0 = .ok (.lload_n 0, 1) := by decide +kernel
theorem d146_1 : decode (eb_b 146) 1 = .ok (.lload_n 2, 1) := by decide +kernel
theorem d146_2 : decode (eb_b 146) 2 = .ok (.lcmp, 1) := by decide +kernel
theorem d146_3 : decode (eb_b 146) 3 = .ok (.ifCond .lt 14, 3) := by decide +kernel
theorem d146_6 : decode (eb_b 146) 6 = .ok (.lload_n 0, 1) := by decide +kernel
theorem d146_7 : decode (eb_b 146) 7 = .ok (.lload 4, 2) := by decide +kernel
theorem d146_9 : decode (eb_b 146) 9 = .ok (.lcmp, 1) := by decide +kernel
theorem d146_10 : decode (eb_b 146) 10 = .ok (.ifCond .gt 7, 3) := by decide +kernel
theorem d146_13 : decode (eb_b 146) 13 = .ok (.iconst 1, 1) := by decide +kernel
theorem d146_14 : decode (eb_b 146) 14 = .ok (.goto 4, 3) := by decide +kernel
theorem d146_17 : decode (eb_b 146) 17 = .ok (.iconst 0, 1) := by decide +kernel
theorem d146_18 : decode (eb_b 146) 18 = .ok (.ireturn, 1) := by decide +kernel
theorem d147_0 : decode (eb_b 147) 0 = .ok (.iload_n 0, 1) := by decide +kernel
theorem d147_1 : decode (eb_b 147) 1 = .ok (.ifCond .ge 7, 3) := by decide +kernel
theorem d147_4 : decode (eb_b 147) 4 = .ok (.iconst 0, 1) := by decide +kernel
theorem d147_5 : decode (eb_b 147) 5 = .ok (.goto 13, 3) := by decide +kernel
theorem d147_8 : decode (eb_b 147) 8 = .ok (.iload_n 0, 1) := by decide +kernel
theorem d147_9 : decode (eb_b 147) 9 = .ok (.iload_n 1, 1) := by decide +kernel
theorem d147_10 : decode (eb_b 147) 10 = .ok (.if_icmp .le 7, 3) := by decide +kernel
theorem d147_13 : decode (eb_b 147) 13 = .ok (.iload_n 1, 1) := by decide +kernel
theorem d147_14 : decode (eb_b 147) 14 = .ok (.goto 4, 3) := by decide +kernel
theorem d147_17 : decode (eb_b 147) 17 = .ok (.iload_n 0, 1) := by decide +kernel
theorem d147_18 : decode (eb_b 147) 18 = .ok (.ireturn, 1) := by decide +kernel
theorem d148_0 : decode (eb_b 148) 0 = .ok (.iload_n 1, 1) := by decide +kernel
theorem d148_1 : decode (eb_b 148) 1 = .ok (.i2l, 1) := by decide +kernel
theorem d148_2 : decode (eb_b 148) 2 = .ok (.lconst 0, 1) := by decide +kernel
theorem d148_3 : decode (eb_b 148) 3 = .ok (.aload_n 0, 1) := by decide +kernel
theorem d148_4 : decode (eb_b 148) 4 = .ok (.getfield 73, 3) := by decide +kernel
theorem wf_6_73 : Cond.fieldLink (eb_cN 6) 73 (eb_tT 6 9).1 (eb_tT 6 9).2.1 (eb_tT 6 9).2.2.1 ∈ eb_LT := eb_lt 965 (by decide +kernel)
theorem fi_6_9 : 9 < eb_nf 6 ∧ (eb_tt 6 9).isReference = false := ⟨by decide, rfl⟩
theorem d148_7 : decode (eb_b 148) 7 = .ok (.iconst 1, 1) := by decide +kernel
theorem d148_8 : decode (eb_b 148) 8 = .ok (.isub, 1) := by decide +kernel
theorem d148_9 : decode (eb_b 148) 9 = .ok (.i2l, 1) := by decide +kernel
theorem d148_10 : decode (eb_b 148) 10 = .ok (.invokestatic 76, 3) := by decide +kernel
theorem wc_146 : Cond.code (eb_y 146) (eb_b 146) (eb_ml 146) (eb_rt 146) ∈ eb_LT := eb_lt 1066 (by decide +kernel)
theorem cy_146 : (eb_y 146).cls ≠ "java/lang/invoke/MethodHandle" ∧ (eb_y 146).cls ≠ "java/lang/invoke/VarHandle" ∧ (parseMethodDescriptor (eb_y 146).desc).map (fun d => d.parameters.length) = some 3 := by decide +kernel
theorem wst_146 : Cond.static (eb_y 146) ∈ eb_LT := eb_lt 1065 (by decide +kernel)
theorem wn_146 : Cond.initialized (eb_y 146).cls ∈ eb_LT := eb_lt 83 (by decide +kernel)
theorem kS_146 {L q0 m pc : Nat} {lg : Nat → Bool} {ix : Nat} (hw : Cond.methodLink (eb_own m) ix (eb_y 146) ∈ eb_LT) (hd : decode (eb_b m) pc = .ok (.invokestatic ix, 3)) : eb_Snd L q0 m pc lg (op_call 146 3 (pc + 3)) := sn_callS false rfl (Or.inr ⟨rfl, _, rfl⟩) (by decide) ⟨⟨hw, wst_146, wn_146⟩, wc_146⟩ cy_146 hd
theorem wm_6_76 : Cond.methodLink (eb_cN 6) 76 (eb_y 146) ∈ eb_LT := eb_lt 1064 (by decide +kernel)
theorem d148_13 : decode (eb_b 148) 13 = .ok (.ireturn, 1) := by decide +kernel
theorem d149_0 : decode (eb_b 149) 0 = .ok (.iload_n 1, 1) := by decide +kernel
theorem d149_1 : decode (eb_b 149) 1 = .ok (.i2l, 1) := by decide +kernel
theorem d149_2 : decode (eb_b 149) 2 = .ok (.lconst 0, 1) := by decide +kernel
theorem d149_3 : decode (eb_b 149) 3 = .ok (.aload_n 0, 1) := by decide +kernel
theorem d149_4 : decode (eb_b 149) 4 = .ok (.getfield 80, 3) := by decide +kernel
theorem wf_6_80 : Cond.fieldLink (eb_cN 6) 80 (eb_tT 6 11).1 (eb_tT 6 11).2.1 (eb_tT 6 11).2.2.1 ∈ eb_LT := eb_lt 967 (by decide +kernel)
theorem fi_6_11 : 11 < eb_nf 6 ∧ (eb_tt 6 11).isReference = false := ⟨by decide, rfl⟩
theorem d149_7 : decode (eb_b 149) 7 = .ok (.iconst 1, 1) := by decide +kernel
theorem d149_8 : decode (eb_b 149) 8 = .ok (.isub, 1) := by decide +kernel
theorem d149_9 : decode (eb_b 149) 9 = .ok (.i2l, 1) := by decide +kernel
theorem d149_10 : decode (eb_b 149) 10 = .ok (.invokestatic 76, 3) := by decide +kernel
theorem d149_13 : decode (eb_b 149) 13 = .ok (.ireturn, 1) := by decide +kernel
theorem d150_0 : decode (eb_b 150) 0 = .ok (.iload_n 0, 1) := by decide +kernel
theorem d150_1 : decode (eb_b 150) 1 = .ok (.i2l, 1) := by decide +kernel
theorem d150_2 : decode (eb_b 150) 2 = .ok (.lconst 1, 1) := by decide +kernel
theorem d150_3 : decode (eb_b 150) 3 = .ok (.ldc2_w 83, 3) := by decide +kernel
theorem wl_6_83 : Cond.constantLong (eb_cN 6) 83 12 ∈ eb_LT := eb_lt 1401 (by decide +kernel)
theorem d150_6 : decode (eb_b 150) 6 = .ok (.invokestatic 76, 3) := by decide +kernel
theorem d150_9 : decode (eb_b 150) 9 = .ok (.ireturn, 1) := by decide +kernel
theorem d151_0 : decode (eb_b 151) 0 = .ok (.iload_n 1, 1) := by decide +kernel
theorem d151_1 : decode (eb_b 151) 1 = .ok (.i2l, 1) := by decide +kernel
theorem d151_2 : decode (eb_b 151) 2 = .ok (.lconst 0, 1) := by decide +kernel
theorem d151_3 : decode (eb_b 151) 3 = .ok (.ldc2_w 85, 3) := by decide +kernel
theorem wl_6_85 : Cond.constantLong (eb_cN 6) 85 7 ∈ eb_LT := eb_lt 1063 (by decide +kernel)
theorem d151_6 : decode (eb_b 151) 6 = .ok (.invokestatic 76, 3) := by decide +kernel
theorem d151_9 : decode (eb_b 151) 9 = .ok (.ifCond .eq 27, 3) := by decide +kernel
theorem d151_12 : decode (eb_b 151) 12 = .ok (.iload_n 2, 1) := by decide +kernel
theorem d151_13 : decode (eb_b 151) 13 = .ok (.i2l, 1) := by decide +kernel
theorem d151_14 : decode (eb_b 151) 14 = .ok (.lconst 0, 1) := by decide +kernel
theorem d151_15 : decode (eb_b 151) 15 = .ok (.ldc2_w 87, 3) := by decide +kernel
theorem wl_6_87 : Cond.constantLong (eb_cN 6) 87 4 ∈ eb_LT := eb_lt 1067 (by decide +kernel)
theorem d151_18 : decode (eb_b 151) 18 = .ok (.invokestatic 76, 3) := by decide +kernel
theorem d151_21 : decode (eb_b 151) 21 = .ok (.ifCond .eq 15, 3) := by decide +kernel
theorem d151_24 : decode (eb_b 151) 24 = .ok (.iload_n 3, 1) := by decide +kernel
theorem d151_25 : decode (eb_b 151) 25 = .ok (.i2l, 1) := by decide +kernel
theorem d151_26 : decode (eb_b 151) 26 = .ok (.lconst 0, 1) := by decide +kernel
theorem d151_27 : decode (eb_b 151) 27 = .ok (.ldc2_w 89, 3) := by decide +kernel
theorem wl_6_89 : Cond.constantLong (eb_cN 6) 89 40 ∈ eb_LT := eb_lt 1068 (by decide +kernel)
theorem d151_30 : decode (eb_b 151) 30 = .ok (.invokestatic 76, 3) := by decide +kernel
theorem d151_33 : decode (eb_b 151) 33 = .ok (.ifCond .ne 10, 3) := by decide +kernel
theorem d151_36 : decode (eb_b 151) 36 = .ok (.aload_n 0, 1) := by decide +kernel
theorem d151_37 : decode (eb_b 151) 37 = .ok (.bipush (-2), 2) := by decide +kernel
theorem d151_39 : decode (eb_b 151) 39 = .ok (.invokevirtual 91, 3) := by decide +kernel
theorem wc_145 : Cond.code (eb_y 145) (eb_b 145) (eb_ml 145) (eb_rt 145) ∈ eb_LT := eb_lt 1072 (by decide +kernel)
theorem cy_145 : (eb_y 145).cls = eb_cN (eb_rc 145) ∧ (eb_y 145).cls ≠ "java/lang/invoke/MethodHandle" ∧ (eb_y 145).cls ≠ "java/lang/invoke/VarHandle" ∧ (parseMethodDescriptor (eb_y 145).desc).map (fun d => d.parameters.length) = some 1 := by decide +kernel
theorem wi_145 : Cond.instanceMethod (eb_y 145) ∈ eb_LT := eb_lt 1071 (by decide +kernel)
theorem wse_145 : Cond.selects (eb_cN (eb_rc 145)) (eb_y 145) (eb_y 145) ∈ eb_LT := eb_lt 34 (by decide +kernel)
theorem kV_145 {L q0 m pc : Nat} {lg : Nat → Bool} {ix : Nat} (hw : Cond.methodLink (eb_own m) ix (eb_y 145) ∈ eb_LT) (hd : decode (eb_b m) pc = .ok (.invokevirtual ix, 3)) : eb_Snd L q0 m pc lg (op_call 145 2 (pc + 3)) := sn_callV false rfl (Or.inr ⟨rfl, _, rfl⟩) (by decide) rfl (by decide) ⟨⟨hw, wi_145, wse_145⟩, wc_145⟩ cy_145 hd
theorem wm_6_91 : Cond.methodLink (eb_cN 6) 91 (eb_y 145) ∈ eb_LT := eb_lt 1069 (by decide +kernel)
theorem d151_42 : decode (eb_b 151) 42 = .ok (.ireturn, 1) := by decide +kernel
theorem d151_43 : decode (eb_b 151) 43 = .ok (.aload_n 0, 1) := by decide +kernel
theorem d151_44 : decode (eb_b 151) 44 = .ok (.getfield 7, 3) := by decide +kernel
theorem wf_6_7 : Cond.fieldLink (eb_cN 6) 7 (eb_tT 6 0).1 (eb_tT 6 0).2.1 (eb_tT 6 0).2.2.1 ∈ eb_LT := eb_lt 956 (by decide +kernel)
theorem fi_6_0 : 0 < eb_nf 6 ∧ (eb_tt 6 0).isReference = true := ⟨by decide, rfl⟩
theorem d151_47 : decode (eb_b 151) 47 = .ok (.iload_n 1, 1) := by decide +kernel
theorem d151_48 : decode (eb_b 151) 48 = .ok (.iconst 1, 1) := by decide +kernel
theorem d151_49 : decode (eb_b 151) 49 = .ok (.iastore, 1) := by decide +kernel
theorem d151_50 : decode (eb_b 151) 50 = .ok (.aload_n 0, 1) := by decide +kernel
theorem d151_51 : decode (eb_b 151) 51 = .ok (.getfield 13, 3) := by decide +kernel
theorem wf_6_13 : Cond.fieldLink (eb_cN 6) 13 (eb_tT 6 1).1 (eb_tT 6 1).2.1 (eb_tT 6 1).2.2.1 ∈ eb_LT := eb_lt 957 (by decide +kernel)
theorem fi_6_1 : 1 < eb_nf 6 ∧ (eb_tt 6 1).isReference = true := ⟨by decide, rfl⟩
theorem d151_54 : decode (eb_b 151) 54 = .ok (.iload_n 1, 1) := by decide +kernel
theorem d151_55 : decode (eb_b 151) 55 = .ok (.iload_n 2, 1) := by decide +kernel
theorem d151_56 : decode (eb_b 151) 56 = .ok (.iastore, 1) := by decide +kernel
theorem d151_57 : decode (eb_b 151) 57 = .ok (.aload_n 0, 1) := by decide +kernel
theorem d151_58 : decode (eb_b 151) 58 = .ok (.getfield 16, 3) := by decide +kernel
theorem wf_6_16 : Cond.fieldLink (eb_cN 6) 16 (eb_tT 6 2).1 (eb_tT 6 2).2.1 (eb_tT 6 2).2.2.1 ∈ eb_LT := eb_lt 958 (by decide +kernel)
theorem fi_6_2 : 2 < eb_nf 6 ∧ (eb_tt 6 2).isReference = true := ⟨by decide, rfl⟩
theorem d151_61 : decode (eb_b 151) 61 = .ok (.iload_n 1, 1) := by decide +kernel
theorem d151_62 : decode (eb_b 151) 62 = .ok (.iload_n 3, 1) := by decide +kernel
theorem d151_63 : decode (eb_b 151) 63 = .ok (.iastore, 1) := by decide +kernel
theorem d151_64 : decode (eb_b 151) 64 = .ok (.iconst 0, 1) := by decide +kernel
theorem d151_65 : decode (eb_b 151) 65 = .ok (.istore 4, 2) := by decide +kernel
theorem hn151_4 : 4 < eb_ml 151 := by decide
theorem d151_67 : decode (eb_b 151) 67 = .ok (.iload 4, 2) := by decide +kernel
theorem d151_69 : decode (eb_b 151) 69 = .ok (.bipush 40, 2) := by decide +kernel
theorem d151_71 : decode (eb_b 151) 71 = .ok (.if_icmp .ge 19, 3) := by decide +kernel
theorem d151_74 : decode (eb_b 151) 74 = .ok (.aload_n 0, 1) := by decide +kernel
theorem d151_75 : decode (eb_b 151) 75 = .ok (.getfield 21, 3) := by decide +kernel
theorem wf_6_21 : Cond.fieldLink (eb_cN 6) 21 (eb_tT 6 3).1 (eb_tT 6 3).2.1 (eb_tT 6 3).2.2.1 ∈ eb_LT := eb_lt 959 (by decide +kernel)
theorem fi_6_3 : 3 < eb_nf 6 ∧ (eb_tt 6 3).isReference = true := ⟨by decide, rfl⟩
theorem d151_78 : decode (eb_b 151) 78 = .ok (.iload_n 1, 1) := by decide +kernel
theorem d151_79 : decode (eb_b 151) 79 = .ok (.aaload, 1) := by decide +kernel
theorem d151_80 : decode (eb_b 151) 80 = .ok (.iload 4, 2) := by decide +kernel
theorem d151_82 : decode (eb_b 151) 82 = .ok (.lconst 0, 1) := by decide +kernel
theorem d151_83 : decode (eb_b 151) 83 = .ok (.lastore, 1) := by decide +kernel
theorem d151_84 : decode (eb_b 151) 84 = .ok (.iinc 4 1, 3) := by decide +kernel
theorem d151_87 : decode (eb_b 151) 87 = .ok (.goto (-20), 3) := by decide +kernel
theorem d151_90 : decode (eb_b 151) 90 = .ok (.iconst 1, 1) := by decide +kernel
theorem d151_91 : decode (eb_b 151) 91 = .ok (.ireturn, 1) := by decide +kernel
theorem d152_0 : decode (eb_b 152) 0 = .ok (.iload_n 0, 1) := by decide +kernel
theorem d152_1 : decode (eb_b 152) 1 = .ok (.tableswitch 47 0 3 #[31, 36, 41, 45], 31) := by decide +kernel
theorem d152_32 : decode (eb_b 152) 32 = .ok (.lload_n 1, 1) := by decide +kernel
theorem d152_33 : decode (eb_b 152) 33 = .ok (.l2i, 1) := by decide +kernel
theorem d152_34 : decode (eb_b 152) 34 = .ok (.i2b, 1) := by decide +kernel
theorem d152_35 : decode (eb_b 152) 35 = .ok (.i2l, 1) := by decide +kernel
theorem d152_36 : decode (eb_b 152) 36 = .ok (.lreturn, 1) := by decide +kernel
theorem d152_37 : decode (eb_b 152) 37 = .ok (.lload_n 1, 1) := by decide +kernel
theorem d152_38 : decode (eb_b 152) 38 = .ok (.l2i, 1) := by decide +kernel
theorem d152_39 : decode (eb_b 152) 39 = .ok (.i2s, 1) := by decide +kernel
theorem d152_40 : decode (eb_b 152) 40 = .ok (.i2l, 1) := by decide +kernel
theorem d152_41 : decode (eb_b 152) 41 = .ok (.lreturn, 1) := by decide +kernel
theorem d152_42 : decode (eb_b 152) 42 = .ok (.lload_n 1, 1) := by decide +kernel
theorem d152_43 : decode (eb_b 152) 43 = .ok (.l2i, 1) := by decide +kernel
theorem d152_44 : decode (eb_b 152) 44 = .ok (.i2l, 1) := by decide +kernel
theorem d152_45 : decode (eb_b 152) 45 = .ok (.lreturn, 1) := by decide +kernel
theorem d152_46 : decode (eb_b 152) 46 = .ok (.lload_n 1, 1) := by decide +kernel
theorem d152_47 : decode (eb_b 152) 47 = .ok (.lreturn, 1) := by decide +kernel
theorem d152_48 : decode (eb_b 152) 48 = .ok (.lload_n 1, 1) := by decide +kernel
theorem d152_49 : decode (eb_b 152) 49 = .ok (.lconst 0, 1) := by decide +kernel
theorem d152_50 : decode (eb_b 152) 50 = .ok (.lcmp, 1) := by decide +kernel
theorem d152_51 : decode (eb_b 152) 51 = .ok (.ifCond .eq 7, 3) := by decide +kernel
theorem d152_54 : decode (eb_b 152) 54 = .ok (.lconst 1, 1) := by decide +kernel
theorem d152_55 : decode (eb_b 152) 55 = .ok (.goto 4, 3) := by decide +kernel
theorem d152_58 : decode (eb_b 152) 58 = .ok (.lconst 0, 1) := by decide +kernel
theorem d152_59 : decode (eb_b 152) 59 = .ok (.lreturn, 1) := by decide +kernel
theorem d153_0 : decode (eb_b 153) 0 = .ok (.iload_n 1, 1) := by decide +kernel
theorem d153_1 : decode (eb_b 153) 1 = .ok (.i2l, 1) := by decide +kernel
theorem d153_2 : decode (eb_b 153) 2 = .ok (.lconst 0, 1) := by decide +kernel
theorem d153_3 : decode (eb_b 153) 3 = .ok (.ldc2_w 85, 3) := by decide +kernel
theorem d153_6 : decode (eb_b 153) 6 = .ok (.invokestatic 76, 3) := by decide +kernel
theorem d153_9 : decode (eb_b 153) 9 = .ok (.ifCond .ne 10, 3) := by decide +kernel
theorem d153_12 : decode (eb_b 153) 12 = .ok (.aload_n 0, 1) := by decide +kernel
theorem d153_13 : decode (eb_b 153) 13 = .ok (.bipush (-2), 2) := by decide +kernel
theorem d153_15 : decode (eb_b 153) 15 = .ok (.invokevirtual 91, 3) := by decide +kernel
theorem d153_18 : decode (eb_b 153) 18 = .ok (.ireturn, 1) := by decide +kernel
theorem d153_19 : decode (eb_b 153) 19 = .ok (.aload_n 0, 1) := by decide +kernel
theorem d153_20 : decode (eb_b 153) 20 = .ok (.getfield 7, 3) := by decide +kernel
theorem d153_23 : decode (eb_b 153) 23 = .ok (.iload_n 1, 1) := by decide +kernel
theorem d153_24 : decode (eb_b 153) 24 = .ok (.iaload, 1) := by decide +kernel
theorem d153_25 : decode (eb_b 153) 25 = .ok (.iconst 2, 1) := by decide +kernel
theorem d153_26 : decode (eb_b 153) 26 = .ok (.if_icmp .ne 10, 3) := by decide +kernel
theorem d153_29 : decode (eb_b 153) 29 = .ok (.aload_n 0, 1) := by decide +kernel
theorem d153_30 : decode (eb_b 153) 30 = .ok (.bipush (-3), 2) := by decide +kernel
theorem d153_32 : decode (eb_b 153) 32 = .ok (.invokevirtual 91, 3) := by decide +kernel
theorem d153_35 : decode (eb_b 153) 35 = .ok (.ireturn, 1) := by decide +kernel
theorem d153_36 : decode (eb_b 153) 36 = .ok (.aload_n 0, 1) := by decide +kernel
theorem d153_37 : decode (eb_b 153) 37 = .ok (.getfield 7, 3) := by decide +kernel
theorem d153_40 : decode (eb_b 153) 40 = .ok (.iload_n 1, 1) := by decide +kernel
theorem d153_41 : decode (eb_b 153) 41 = .ok (.iaload, 1) := by decide +kernel
theorem d153_42 : decode (eb_b 153) 42 = .ok (.ifCond .ne 12, 3) := by decide +kernel
theorem d153_45 : decode (eb_b 153) 45 = .ok (.aload_n 0, 1) := by decide +kernel
theorem d153_46 : decode (eb_b 153) 46 = .ok (.bipush (-4), 2) := by decide +kernel
theorem d153_48 : decode (eb_b 153) 48 = .ok (.invokevirtual 91, 3) := by decide +kernel
theorem d153_51 : decode (eb_b 153) 51 = .ok (.goto 4, 3) := by decide +kernel
theorem d153_54 : decode (eb_b 153) 54 = .ok (.iconst 0, 1) := by decide +kernel
theorem d153_55 : decode (eb_b 153) 55 = .ok (.ireturn, 1) := by decide +kernel
theorem d154_0 : decode (eb_b 154) 0 = .ok (.aload_n 0, 1) := by decide +kernel
theorem d154_1 : decode (eb_b 154) 1 = .ok (.iload_n 1, 1) := by decide +kernel
theorem d154_2 : decode (eb_b 154) 2 = .ok (.invokevirtual 95, 3) := by decide +kernel
theorem wc_153 : Cond.code (eb_y 153) (eb_b 153) (eb_ml 153) (eb_rt 153) ∈ eb_LT := eb_lt 1080 (by decide +kernel)
theorem cy_153 : (eb_y 153).cls = eb_cN (eb_rc 153) ∧ (eb_y 153).cls ≠ "java/lang/invoke/MethodHandle" ∧ (eb_y 153).cls ≠ "java/lang/invoke/VarHandle" ∧ (parseMethodDescriptor (eb_y 153).desc).map (fun d => d.parameters.length) = some 1 := by decide +kernel
theorem wi_153 : Cond.instanceMethod (eb_y 153) ∈ eb_LT := eb_lt 1079 (by decide +kernel)
theorem wse_153 : Cond.selects (eb_cN (eb_rc 153)) (eb_y 153) (eb_y 153) ∈ eb_LT := eb_lt 35 (by decide +kernel)
theorem kV_153 {L q0 m pc : Nat} {lg : Nat → Bool} {ix : Nat} (hw : Cond.methodLink (eb_own m) ix (eb_y 153) ∈ eb_LT) (hd : decode (eb_b m) pc = .ok (.invokevirtual ix, 3)) : eb_Snd L q0 m pc lg (op_call 153 2 (pc + 3)) := sn_callV false rfl (Or.inr ⟨rfl, _, rfl⟩) (by decide) rfl (by decide) ⟨⟨hw, wi_153, wse_153⟩, wc_153⟩ cy_153 hd
theorem wm_6_95 : Cond.methodLink (eb_cN 6) 95 (eb_y 153) ∈ eb_LT := eb_lt 1077 (by decide +kernel)
theorem d154_5 : decode (eb_b 154) 5 = .ok (.istore 5, 2) := by decide +kernel
theorem hn154_5 : 5 < eb_ml 154 := by decide
theorem d154_7 : decode (eb_b 154) 7 = .ok (.iload 5, 2) := by decide +kernel
theorem d154_9 : decode (eb_b 154) 9 = .ok (.ifCond .eq 6, 3) := by decide +kernel
theorem d154_12 : decode (eb_b 154) 12 = .ok (.iload 5, 2) := by decide +kernel
theorem d154_14 : decode (eb_b 154) 14 = .ok (.ireturn, 1) := by decide +kernel
theorem d154_15 : decode (eb_b 154) 15 = .ok (.iload_n 2, 1) := by decide +kernel
theorem d154_16 : decode (eb_b 154) 16 = .ok (.i2l, 1) := by decide +kernel
theorem d154_17 : decode (eb_b 154) 17 = .ok (.lconst 0, 1) := by decide +kernel
theorem d154_18 : decode (eb_b 154) 18 = .ok (.aload_n 0, 1) := by decide +kernel
theorem d154_19 : decode (eb_b 154) 19 = .ok (.getfield 16, 3) := by decide +kernel
theorem d154_22 : decode (eb_b 154) 22 = .ok (.iload_n 1, 1) := by decide +kernel
theorem d154_23 : decode (eb_b 154) 23 = .ok (.iaload, 1) := by decide +kernel
theorem d154_24 : decode (eb_b 154) 24 = .ok (.iconst 1, 1) := by decide +kernel
theorem d154_25 : decode (eb_b 154) 25 = .ok (.isub, 1) := by decide +kernel
theorem d154_26 : decode (eb_b 154) 26 = .ok (.i2l, 1) := by decide +kernel
theorem d154_27 : decode (eb_b 154) 27 = .ok (.invokestatic 76, 3) := by decide +kernel
theorem d154_30 : decode (eb_b 154) 30 = .ok (.ifCond .ne 10, 3) := by decide +kernel
theorem d154_33 : decode (eb_b 154) 33 = .ok (.aload_n 0, 1) := by decide +kernel
theorem d154_34 : decode (eb_b 154) 34 = .ok (.bipush (-2), 2) := by decide +kernel
theorem d154_36 : decode (eb_b 154) 36 = .ok (.invokevirtual 91, 3) := by decide +kernel
theorem d154_39 : decode (eb_b 154) 39 = .ok (.ireturn, 1) := by decide +kernel
theorem d154_40 : decode (eb_b 154) 40 = .ok (.aload_n 0, 1) := by decide +kernel
theorem d154_41 : decode (eb_b 154) 41 = .ok (.getfield 21, 3) := by decide +kernel
theorem d154_44 : decode (eb_b 154) 44 = .ok (.iload_n 1, 1) := by decide +kernel
theorem d154_45 : decode (eb_b 154) 45 = .ok (.aaload, 1) := by decide +kernel
theorem d154_46 : decode (eb_b 154) 46 = .ok (.iload_n 2, 1) := by decide +kernel
theorem d154_47 : decode (eb_b 154) 47 = .ok (.aload_n 0, 1) := by decide +kernel
theorem d154_48 : decode (eb_b 154) 48 = .ok (.getfield 13, 3) := by decide +kernel
theorem d154_51 : decode (eb_b 154) 51 = .ok (.iload_n 1, 1) := by decide +kernel
theorem d154_52 : decode (eb_b 154) 52 = .ok (.iaload, 1) := by decide +kernel
theorem d154_53 : decode (eb_b 154) 53 = .ok (.lload_n 3, 1) := by decide +kernel
theorem d154_54 : decode (eb_b 154) 54 = .ok (.invokestatic 98, 3) := by decide +kernel
theorem wc_152 : Cond.code (eb_y 152) (eb_b 152) (eb_ml 152) (eb_rt 152) ∈ eb_LT := eb_lt 1083 (by decide +kernel)
theorem cy_152 : (eb_y 152).cls ≠ "java/lang/invoke/MethodHandle" ∧ (eb_y 152).cls ≠ "java/lang/invoke/VarHandle" ∧ (parseMethodDescriptor (eb_y 152).desc).map (fun d => d.parameters.length) = some 2 := by decide +kernel
theorem wst_152 : Cond.static (eb_y 152) ∈ eb_LT := eb_lt 1082 (by decide +kernel)
theorem wn_152 : Cond.initialized (eb_y 152).cls ∈ eb_LT := eb_lt 83 (by decide +kernel)
theorem kS_152 {L q0 m pc : Nat} {lg : Nat → Bool} {ix : Nat} (hw : Cond.methodLink (eb_own m) ix (eb_y 152) ∈ eb_LT) (hd : decode (eb_b m) pc = .ok (.invokestatic ix, 3)) : eb_Snd L q0 m pc lg (op_call 152 2 (pc + 3)) := sn_callS false rfl (Or.inr ⟨rfl, _, rfl⟩) (by decide) ⟨⟨hw, wst_152, wn_152⟩, wc_152⟩ cy_152 hd
theorem wm_6_98 : Cond.methodLink (eb_cN 6) 98 (eb_y 152) ∈ eb_LT := eb_lt 1081 (by decide +kernel)
theorem d154_57 : decode (eb_b 154) 57 = .ok (.lastore, 1) := by decide +kernel
theorem d154_58 : decode (eb_b 154) 58 = .ok (.iconst 1, 1) := by decide +kernel
theorem d154_59 : decode (eb_b 154) 59 = .ok (.ireturn, 1) := by decide +kernel
theorem d155_0 : decode (eb_b 155) 0 = .ok (.iload_n 1, 1) := by decide +kernel
theorem d155_1 : decode (eb_b 155) 1 = .ok (.i2l, 1) := by decide +kernel
theorem d155_2 : decode (eb_b 155) 2 = .ok (.lconst 0, 1) := by decide +kernel
theorem d155_3 : decode (eb_b 155) 3 = .ok (.ldc2_w 85, 3) := by decide +kernel
theorem d155_6 : decode (eb_b 155) 6 = .ok (.invokestatic 76, 3) := by decide +kernel
theorem d155_9 : decode (eb_b 155) 9 = .ok (.ifCond .eq 15, 3) := by decide +kernel
theorem d155_12 : decode (eb_b 155) 12 = .ok (.iload_n 2, 1) := by decide +kernel
theorem d155_13 : decode (eb_b 155) 13 = .ok (.i2l, 1) := by decide +kernel
theorem d155_14 : decode (eb_b 155) 14 = .ok (.lconst 0, 1) := by decide +kernel
theorem d155_15 : decode (eb_b 155) 15 = .ok (.ldc2_w 85, 3) := by decide +kernel
theorem d155_18 : decode (eb_b 155) 18 = .ok (.invokestatic 76, 3) := by decide +kernel
theorem d155_21 : decode (eb_b 155) 21 = .ok (.ifCond .ne 10, 3) := by decide +kernel
theorem d155_24 : decode (eb_b 155) 24 = .ok (.aload_n 0, 1) := by decide +kernel
theorem d155_25 : decode (eb_b 155) 25 = .ok (.bipush (-2), 2) := by decide +kernel
theorem d155_27 : decode (eb_b 155) 27 = .ok (.invokevirtual 91, 3) := by decide +kernel
theorem d155_30 : decode (eb_b 155) 30 = .ok (.ireturn, 1) := by decide +kernel
theorem d155_31 : decode (eb_b 155) 31 = .ok (.aload_n 0, 1) := by decide +kernel
theorem d155_32 : decode (eb_b 155) 32 = .ok (.getfield 7, 3) := by decide +kernel
theorem d155_35 : decode (eb_b 155) 35 = .ok (.iload_n 1, 1) := by decide +kernel
theorem d155_36 : decode (eb_b 155) 36 = .ok (.iaload, 1) := by decide +kernel
theorem d155_37 : decode (eb_b 155) 37 = .ok (.iconst 2, 1) := by decide +kernel
theorem d155_38 : decode (eb_b 155) 38 = .ok (.if_icmp .eq 48, 3) := by decide +kernel
theorem d155_41 : decode (eb_b 155) 41 = .ok (.aload_n 0, 1) := by decide +kernel
theorem d155_42 : decode (eb_b 155) 42 = .ok (.getfield 7, 3) := by decide +kernel
theorem d155_45 : decode (eb_b 155) 45 = .ok (.iload_n 2, 1) := by decide +kernel
theorem d155_46 : decode (eb_b 155) 46 = .ok (.iaload, 1) := by decide +kernel
theorem d155_47 : decode (eb_b 155) 47 = .ok (.iconst 2, 1) := by decide +kernel
theorem d155_48 : decode (eb_b 155) 48 = .ok (.if_icmp .eq 38, 3) := by decide +kernel
theorem d155_51 : decode (eb_b 155) 51 = .ok (.aload_n 0, 1) := by decide +kernel
theorem d155_52 : decode (eb_b 155) 52 = .ok (.getfield 7, 3) := by decide +kernel
theorem d155_55 : decode (eb_b 155) 55 = .ok (.iload_n 1, 1) := by decide +kernel
theorem d155_56 : decode (eb_b 155) 56 = .ok (.iaload, 1) := by decide +kernel
theorem d155_57 : decode (eb_b 155) 57 = .ok (.iconst 1, 1) := by decide +kernel
theorem d155_58 : decode (eb_b 155) 58 = .ok (.if_icmp .ne 35, 3) := by decide +kernel
theorem d155_61 : decode (eb_b 155) 61 = .ok (.aload_n 0, 1) := by decide +kernel
theorem d155_62 : decode (eb_b 155) 62 = .ok (.getfield 7, 3) := by decide +kernel
theorem d155_65 : decode (eb_b 155) 65 = .ok (.iload_n 2, 1) := by decide +kernel
theorem d155_66 : decode (eb_b 155) 66 = .ok (.iaload, 1) := by decide +kernel
theorem d155_67 : decode (eb_b 155) 67 = .ok (.iconst 1, 1) := by decide +kernel
theorem d155_68 : decode (eb_b 155) 68 = .ok (.if_icmp .ne 25, 3) := by decide +kernel
theorem d155_71 : decode (eb_b 155) 71 = .ok (.aload_n 0, 1) := by decide +kernel
theorem d155_72 : decode (eb_b 155) 72 = .ok (.getfield 13, 3) := by decide +kernel
theorem d155_75 : decode (eb_b 155) 75 = .ok (.iload_n 1, 1) := by decide +kernel
theorem d155_76 : decode (eb_b 155) 76 = .ok (.iaload, 1) := by decide +kernel
theorem d155_77 : decode (eb_b 155) 77 = .ok (.aload_n 0, 1) := by decide +kernel
theorem d155_78 : decode (eb_b 155) 78 = .ok (.getfield 13, 3) := by decide +kernel
theorem d155_81 : decode (eb_b 155) 81 = .ok (.iload_n 2, 1) := by decide +kernel
theorem d155_82 : decode (eb_b 155) 82 = .ok (.iaload, 1) := by decide +kernel
theorem d155_83 : decode (eb_b 155) 83 = .ok (.if_icmp .eq 10, 3) := by decide +kernel
theorem d155_86 : decode (eb_b 155) 86 = .ok (.aload_n 0, 1) := by decide +kernel
theorem d155_87 : decode (eb_b 155) 87 = .ok (.bipush (-3), 2) := by decide +kernel
theorem d155_89 : decode (eb_b 155) 89 = .ok (.invokevirtual 91, 3) := by decide +kernel
theorem d155_92 : decode (eb_b 155) 92 = .ok (.ireturn, 1) := by decide +kernel
theorem d155_93 : decode (eb_b 155) 93 = .ok (.aload_n 0, 1) := by decide +kernel
theorem d155_94 : decode (eb_b 155) 94 = .ok (.getfield 7, 3) := by decide +kernel
theorem d155_97 : decode (eb_b 155) 97 = .ok (.iload_n 1, 1) := by decide +kernel
theorem d155_98 : decode (eb_b 155) 98 = .ok (.iaload, 1) := by decide +kernel
theorem d155_99 : decode (eb_b 155) 99 = .ok (.ifCond .eq 12, 3) := by decide +kernel
theorem d155_102 : decode (eb_b 155) 102 = .ok (.aload_n 0, 1) := by decide +kernel
theorem d155_103 : decode (eb_b 155) 103 = .ok (.getfield 7, 3) := by decide +kernel
theorem d155_106 : decode (eb_b 155) 106 = .ok (.iload_n 2, 1) := by decide +kernel
theorem d155_107 : decode (eb_b 155) 107 = .ok (.iaload, 1) := by decide +kernel
theorem d155_108 : decode (eb_b 155) 108 = .ok (.ifCond .ne 10, 3) := by decide +kernel
theorem d155_111 : decode (eb_b 155) 111 = .ok (.aload_n 0, 1) := by decide +kernel
theorem d155_112 : decode (eb_b 155) 112 = .ok (.bipush (-4), 2) := by decide +kernel
theorem d155_114 : decode (eb_b 155) 114 = .ok (.invokevirtual 91, 3) := by decide +kernel
theorem d155_117 : decode (eb_b 155) 117 = .ok (.ireturn, 1) := by decide +kernel
theorem d155_118 : decode (eb_b 155) 118 = .ok (.iload 5, 2) := by decide +kernel
theorem d155_120 : decode (eb_b 155) 120 = .ok (.ifCond .lt 61, 3) := by decide +kernel
theorem d155_123 : decode (eb_b 155) 123 = .ok (.iload_n 3, 1) := by decide +kernel
theorem d155_124 : decode (eb_b 155) 124 = .ok (.ifCond .lt 57, 3) := by decide +kernel
theorem d155_127 : decode (eb_b 155) 127 = .ok (.iload 4, 2) := by decide +kernel
theorem d155_129 : decode (eb_b 155) 129 = .ok (.ifCond .lt 52, 3) := by decide +kernel
theorem d155_132 : decode (eb_b 155) 132 = .ok (.iload 5, 2) := by decide +kernel
theorem d155_134 : decode (eb_b 155) 134 = .ok (.aload_n 0, 1) := by decide +kernel
theorem d155_135 : decode (eb_b 155) 135 = .ok (.getfield 16, 3) := by decide +kernel
theorem d155_138 : decode (eb_b 155) 138 = .ok (.iload_n 1, 1) := by decide +kernel
theorem d155_139 : decode (eb_b 155) 139 = .ok (.iaload, 1) := by decide +kernel
theorem d155_140 : decode (eb_b 155) 140 = .ok (.if_icmp .gt 41, 3) := by decide +kernel
theorem d155_143 : decode (eb_b 155) 143 = .ok (.iload 5, 2) := by decide +kernel
theorem d155_145 : decode (eb_b 155) 145 = .ok (.aload_n 0, 1) := by decide +kernel
theorem d155_146 : decode (eb_b 155) 146 = .ok (.getfield 16, 3) := by decide +kernel
theorem d155_149 : decode (eb_b 155) 149 = .ok (.iload_n 2, 1) := by decide +kernel
theorem d155_150 : decode (eb_b 155) 150 = .ok (.iaload, 1) := by decide +kernel
theorem d155_151 : decode (eb_b 155) 151 = .ok (.if_icmp .gt 30, 3) := by decide +kernel
theorem d155_154 : decode (eb_b 155) 154 = .ok (.iload_n 3, 1) := by decide +kernel
theorem d155_155 : decode (eb_b 155) 155 = .ok (.aload_n 0, 1) := by decide +kernel
theorem d155_156 : decode (eb_b 155) 156 = .ok (.getfield 16, 3) := by decide +kernel
theorem d155_159 : decode (eb_b 155) 159 = .ok (.iload_n 1, 1) := by decide +kernel
theorem d155_160 : decode (eb_b 155) 160 = .ok (.iaload, 1) := by decide +kernel
theorem d155_161 : decode (eb_b 155) 161 = .ok (.iload 5, 2) := by decide +kernel
theorem d155_163 : decode (eb_b 155) 163 = .ok (.isub, 1) := by decide +kernel
theorem d155_164 : decode (eb_b 155) 164 = .ok (.if_icmp .gt 17, 3) := by decide +kernel
theorem d155_167 : decode (eb_b 155) 167 = .ok (.iload 4, 2) := by decide +kernel
theorem d155_169 : decode (eb_b 155) 169 = .ok (.aload_n 0, 1) := by decide +kernel
theorem d155_170 : decode (eb_b 155) 170 = .ok (.getfield 16, 3) := by decide +kernel
theorem d155_173 : decode (eb_b 155) 173 = .ok (.iload_n 2, 1) := by decide +kernel
theorem d155_174 : decode (eb_b 155) 174 = .ok (.iaload, 1) := by decide +kernel
theorem d155_175 : decode (eb_b 155) 175 = .ok (.iload 5, 2) := by decide +kernel
theorem d155_177 : decode (eb_b 155) 177 = .ok (.isub, 1) := by decide +kernel
theorem d155_178 : decode (eb_b 155) 178 = .ok (.if_icmp .le 10, 3) := by decide +kernel
theorem d155_181 : decode (eb_b 155) 181 = .ok (.aload_n 0, 1) := by decide +kernel
theorem d155_182 : decode (eb_b 155) 182 = .ok (.bipush (-2), 2) := by decide +kernel
theorem d155_184 : decode (eb_b 155) 184 = .ok (.invokevirtual 91, 3) := by decide +kernel
theorem d155_187 : decode (eb_b 155) 187 = .ok (.ireturn, 1) := by decide +kernel
theorem d155_188 : decode (eb_b 155) 188 = .ok (.iconst 0, 1) := by decide +kernel
theorem d155_189 : decode (eb_b 155) 189 = .ok (.istore 6, 2) := by decide +kernel
theorem hn155_6 : 6 < eb_ml 155 := by decide
theorem d155_191 : decode (eb_b 155) 191 = .ok (.iload 6, 2) := by decide +kernel
theorem d155_193 : decode (eb_b 155) 193 = .ok (.iload 5, 2) := by decide +kernel
theorem d155_195 : decode (eb_b 155) 195 = .ok (.if_icmp .ge 27, 3) := by decide +kernel
theorem d155_198 : decode (eb_b 155) 198 = .ok (.aload_n 0, 1) := by decide +kernel
theorem d155_199 : decode (eb_b 155) 199 = .ok (.getfield 24, 3) := by decide +kernel
theorem wf_6_24 : Cond.fieldLink (eb_cN 6) 24 (eb_tT 6 4).1 (eb_tT 6 4).2.1 (eb_tT 6 4).2.2.1 ∈ eb_LT := eb_lt 960 (by decide +kernel)
theorem fi_6_4 : 4 < eb_nf 6 ∧ (eb_tt 6 4).isReference = true := ⟨by decide, rfl⟩
theorem d155_202 : decode (eb_b 155) 202 = .ok (.iload 6, 2) := by decide +kernel
theorem d155_204 : decode (eb_b 155) 204 = .ok (.aload_n 0, 1) := by decide +kernel
theorem d155_205 : decode (eb_b 155) 205 = .ok (.getfield 21, 3) := by decide +kernel
theorem d155_208 : decode (eb_b 155) 208 = .ok (.iload_n 1, 1) := by decide +kernel
theorem d155_209 : decode (eb_b 155) 209 = .ok (.aaload, 1) := by decide +kernel
theorem d155_210 : decode (eb_b 155) 210 = .ok (.iload_n 3, 1) := by decide +kernel
theorem d155_211 : decode (eb_b 155) 211 = .ok (.iload 6, 2) := by decide +kernel
theorem d155_213 : decode (eb_b 155) 213 = .ok (.iadd, 1) := by decide +kernel
theorem d155_214 : decode (eb_b 155) 214 = .ok (.laload, 1) := by decide +kernel
theorem d155_215 : decode (eb_b 155) 215 = .ok (.lastore, 1) := by decide +kernel
theorem d155_216 : decode (eb_b 155) 216 = .ok (.iinc 6 1, 3) := by decide +kernel
theorem d155_219 : decode (eb_b 155) 219 = .ok (.goto (-28), 3) := by decide +kernel
theorem d155_222 : decode (eb_b 155) 222 = .ok (.iconst 0, 1) := by decide +kernel
theorem d155_223 : decode (eb_b 155) 223 = .ok (.istore 6, 2) := by decide +kernel
theorem d155_225 : decode (eb_b 155) 225 = .ok (.iload 6, 2) := by decide +kernel
theorem d155_227 : decode (eb_b 155) 227 = .ok (.iload 5, 2) := by decide +kernel
theorem d155_229 : decode (eb_b 155) 229 = .ok (.if_icmp .ge 28, 3) := by decide +kernel
theorem d155_232 : decode (eb_b 155) 232 = .ok (.aload_n 0, 1) := by decide +kernel
theorem d155_233 : decode (eb_b 155) 233 = .ok (.getfield 21, 3) := by decide +kernel
theorem d155_236 : decode (eb_b 155) 236 = .ok (.iload_n 2, 1) := by decide +kernel
theorem d155_237 : decode (eb_b 155) 237 = .ok (.aaload, 1) := by decide +kernel
theorem d155_238 : decode (eb_b 155) 238 = .ok (.iload 4, 2) := by decide +kernel
theorem d155_240 : decode (eb_b 155) 240 = .ok (.iload 6, 2) := by decide +kernel
theorem d155_242 : decode (eb_b 155) 242 = .ok (.iadd, 1) := by decide +kernel
theorem d155_243 : decode (eb_b 155) 243 = .ok (.aload_n 0, 1) := by decide +kernel
theorem d155_244 : decode (eb_b 155) 244 = .ok (.getfield 24, 3) := by decide +kernel
theorem d155_247 : decode (eb_b 155) 247 = .ok (.iload 6, 2) := by decide +kernel
theorem d155_249 : decode (eb_b 155) 249 = .ok (.laload, 1) := by decide +kernel
theorem d155_250 : decode (eb_b 155) 250 = .ok (.lastore, 1) := by decide +kernel
theorem d155_251 : decode (eb_b 155) 251 = .ok (.iinc 6 1, 3) := by decide +kernel
theorem d155_254 : decode (eb_b 155) 254 = .ok (.goto (-29), 3) := by decide +kernel
theorem d155_257 : decode (eb_b 155) 257 = .ok (.iload 5, 2) := by decide +kernel
theorem d155_259 : decode (eb_b 155) 259 = .ok (.ireturn, 1) := by decide +kernel
theorem d156_0 : decode (eb_b 156) 0 = .ok (.iload_n 1, 1) := by decide +kernel
theorem d156_1 : decode (eb_b 156) 1 = .ok (.i2l, 1) := by decide +kernel
theorem d156_2 : decode (eb_b 156) 2 = .ok (.lconst 0, 1) := by decide +kernel
theorem d156_3 : decode (eb_b 156) 3 = .ok (.ldc2_w 85, 3) := by decide +kernel
theorem d156_6 : decode (eb_b 156) 6 = .ok (.invokestatic 76, 3) := by decide +kernel
theorem d156_9 : decode (eb_b 156) 9 = .ok (.ifCond .eq 42, 3) := by decide +kernel
theorem d156_12 : decode (eb_b 156) 12 = .ok (.aload_n 0, 1) := by decide +kernel
theorem d156_13 : decode (eb_b 156) 13 = .ok (.getfield 7, 3) := by decide +kernel
theorem d156_16 : decode (eb_b 156) 16 = .ok (.iload_n 1, 1) := by decide +kernel
theorem d156_17 : decode (eb_b 156) 17 = .ok (.iaload, 1) := by decide +kernel
theorem d156_18 : decode (eb_b 156) 18 = .ok (.iconst 1, 1) := by decide +kernel
theorem d156_19 : decode (eb_b 156) 19 = .ok (.if_icmp .ne 32, 3) := by decide +kernel
theorem d156_22 : decode (eb_b 156) 22 = .ok (.iload_n 2, 1) := by decide +kernel
theorem d156_23 : decode (eb_b 156) 23 = .ok (.i2l, 1) := by decide +kernel
theorem d156_24 : decode (eb_b 156) 24 = .ok (.lconst 0, 1) := by decide +kernel
theorem d156_25 : decode (eb_b 156) 25 = .ok (.aload_n 0, 1) := by decide +kernel
theorem d156_26 : decode (eb_b 156) 26 = .ok (.getfield 16, 3) := by decide +kernel
theorem d156_29 : decode (eb_b 156) 29 = .ok (.iload_n 1, 1) := by decide +kernel
theorem d156_30 : decode (eb_b 156) 30 = .ok (.iaload, 1) := by decide +kernel
theorem d156_31 : decode (eb_b 156) 31 = .ok (.iconst 1, 1) := by decide +kernel
theorem d156_32 : decode (eb_b 156) 32 = .ok (.isub, 1) := by decide +kernel
theorem d156_33 : decode (eb_b 156) 33 = .ok (.i2l, 1) := by decide +kernel
theorem d156_34 : decode (eb_b 156) 34 = .ok (.invokestatic 76, 3) := by decide +kernel
theorem d156_37 : decode (eb_b 156) 37 = .ok (.ifCond .eq 14, 3) := by decide +kernel
theorem d156_40 : decode (eb_b 156) 40 = .ok (.aload_n 0, 1) := by decide +kernel
theorem d156_41 : decode (eb_b 156) 41 = .ok (.getfield 21, 3) := by decide +kernel
theorem d156_44 : decode (eb_b 156) 44 = .ok (.iload_n 1, 1) := by decide +kernel
theorem d156_45 : decode (eb_b 156) 45 = .ok (.aaload, 1) := by decide +kernel
theorem d156_46 : decode (eb_b 156) 46 = .ok (.iload_n 2, 1) := by decide +kernel
theorem d156_47 : decode (eb_b 156) 47 = .ok (.laload, 1) := by decide +kernel
theorem d156_48 : decode (eb_b 156) 48 = .ok (.goto 4, 3) := by decide +kernel
theorem d156_51 : decode (eb_b 156) 51 = .ok (.lconst 0, 1) := by decide +kernel
theorem d156_52 : decode (eb_b 156) 52 = .ok (.lreturn, 1) := by decide +kernel
theorem d157_0 : decode (eb_b 157) 0 = .ok (.iload_n 1, 1) := by decide +kernel
theorem d157_1 : decode (eb_b 157) 1 = .ok (.i2l, 1) := by decide +kernel
theorem d157_2 : decode (eb_b 157) 2 = .ok (.lconst 0, 1) := by decide +kernel
theorem d157_3 : decode (eb_b 157) 3 = .ok (.ldc2_w 85, 3) := by decide +kernel
theorem d157_6 : decode (eb_b 157) 6 = .ok (.invokestatic 76, 3) := by decide +kernel
theorem d157_9 : decode (eb_b 157) 9 = .ok (.ifCond .eq 12, 3) := by decide +kernel
theorem d157_12 : decode (eb_b 157) 12 = .ok (.aload_n 0, 1) := by decide +kernel
theorem d157_13 : decode (eb_b 157) 13 = .ok (.getfield 7, 3) := by decide +kernel
theorem d157_16 : decode (eb_b 157) 16 = .ok (.iload_n 1, 1) := by decide +kernel
theorem d157_17 : decode (eb_b 157) 17 = .ok (.iaload, 1) := by decide +kernel
theorem d157_18 : decode (eb_b 157) 18 = .ok (.ifCond .ne 5, 3) := by decide +kernel
theorem d157_21 : decode (eb_b 157) 21 = .ok (.iconst (-1), 1) := by decide +kernel
theorem d157_22 : decode (eb_b 157) 22 = .ok (.ireturn, 1) := by decide +kernel
theorem d157_23 : decode (eb_b 157) 23 = .ok (.aload_n 0, 1) := by decide +kernel
theorem d157_24 : decode (eb_b 157) 24 = .ok (.getfield 7, 3) := by decide +kernel
theorem d157_27 : decode (eb_b 157) 27 = .ok (.iload_n 1, 1) := by decide +kernel
theorem d157_28 : decode (eb_b 157) 28 = .ok (.iaload, 1) := by decide +kernel
theorem d157_29 : decode (eb_b 157) 29 = .ok (.iconst 1, 1) := by decide +kernel
theorem d157_30 : decode (eb_b 157) 30 = .ok (.if_icmp .ne 12, 3) := by decide +kernel
theorem d157_33 : decode (eb_b 157) 33 = .ok (.aload_n 0, 1) := by decide +kernel
theorem d157_34 : decode (eb_b 157) 34 = .ok (.getfield 13, 3) := by decide +kernel
theorem d157_37 : decode (eb_b 157) 37 = .ok (.iload_n 1, 1) := by decide +kernel
theorem d157_38 : decode (eb_b 157) 38 = .ok (.iaload, 1) := by decide +kernel
theorem d157_39 : decode (eb_b 157) 39 = .ok (.goto 12, 3) := by decide +kernel
theorem d157_42 : decode (eb_b 157) 42 = .ok (.bipush 10, 2) := by decide +kernel
theorem d157_44 : decode (eb_b 157) 44 = .ok (.aload_n 0, 1) := by decide +kernel
theorem d157_45 : decode (eb_b 157) 45 = .ok (.getfield 28, 3) := by decide +kernel
theorem wf_6_28 : Cond.fieldLink (eb_cN 6) 28 (eb_tT 6 5).1 (eb_tT 6 5).2.1 (eb_tT 6 5).2.2.1 ∈ eb_LT := eb_lt 961 (by decide +kernel)
theorem fi_6_5 : 5 < eb_nf 6 ∧ (eb_tt 6 5).isReference = true := ⟨by decide, rfl⟩
theorem d157_48 : decode (eb_b 157) 48 = .ok (.iload_n 1, 1) := by decide +kernel
theorem d157_49 : decode (eb_b 157) 49 = .ok (.iaload, 1) := by decide +kernel
theorem d157_50 : decode (eb_b 157) 50 = .ok (.iadd, 1) := by decide +kernel
theorem d157_51 : decode (eb_b 157) 51 = .ok (.ireturn, 1) := by decide +kernel
theorem d158_0 : decode (eb_b 158) 0 = .ok (.iload_n 1, 1) := by decide +kernel
theorem d158_1 : decode (eb_b 158) 1 = .ok (.i2l, 1) := by decide +kernel
theorem d158_2 : decode (eb_b 158) 2 = .ok (.lconst 0, 1) := by decide +kernel
theorem d158_3 : decode (eb_b 158) 3 = .ok (.ldc2_w 85, 3) := by decide +kernel
theorem d158_6 : decode (eb_b 158) 6 = .ok (.invokestatic 76, 3) := by decide +kernel
theorem d158_9 : decode (eb_b 158) 9 = .ok (.ifCond .eq 16, 3) := by decide +kernel
theorem d158_12 : decode (eb_b 158) 12 = .ok (.iload_n 2, 1) := by decide +kernel
theorem d158_13 : decode (eb_b 158) 13 = .ok (.iconst (-1), 1) := by decide +kernel
theorem d158_14 : decode (eb_b 158) 14 = .ok (.if_icmp .eq 18, 3) := by decide +kernel
theorem d158_17 : decode (eb_b 158) 17 = .ok (.aload_n 0, 1) := by decide +kernel
theorem d158_18 : decode (eb_b 158) 18 = .ok (.iload_n 2, 1) := by decide +kernel
theorem d158_19 : decode (eb_b 158) 19 = .ok (.invokevirtual 102, 3) := by decide +kernel
theorem wc_149 : Cond.code (eb_y 149) (eb_b 149) (eb_ml 149) (eb_rt 149) ∈ eb_LT := eb_lt 1103 (by decide +kernel)
theorem cy_149 : (eb_y 149).cls = eb_cN (eb_rc 149) ∧ (eb_y 149).cls ≠ "java/lang/invoke/MethodHandle" ∧ (eb_y 149).cls ≠ "java/lang/invoke/VarHandle" ∧ (parseMethodDescriptor (eb_y 149).desc).map (fun d => d.parameters.length) = some 1 := by decide +kernel
theorem wi_149 : Cond.instanceMethod (eb_y 149) ∈ eb_LT := eb_lt 1102 (by decide +kernel)
theorem wse_149 : Cond.selects (eb_cN (eb_rc 149)) (eb_y 149) (eb_y 149) ∈ eb_LT := eb_lt 36 (by decide +kernel)
theorem kV_149 {L q0 m pc : Nat} {lg : Nat → Bool} {ix : Nat} (hw : Cond.methodLink (eb_own m) ix (eb_y 149) ∈ eb_LT) (hd : decode (eb_b m) pc = .ok (.invokevirtual ix, 3)) : eb_Snd L q0 m pc lg (op_call 149 2 (pc + 3)) := sn_callV false rfl (Or.inr ⟨rfl, _, rfl⟩) (by decide) rfl (by decide) ⟨⟨hw, wi_149, wse_149⟩, wc_149⟩ cy_149 hd
theorem wm_6_102 : Cond.methodLink (eb_cN 6) 102 (eb_y 149) ∈ eb_LT := eb_lt 1100 (by decide +kernel)
theorem d158_22 : decode (eb_b 158) 22 = .ok (.ifCond .ne 10, 3) := by decide +kernel
theorem d158_25 : decode (eb_b 158) 25 = .ok (.aload_n 0, 1) := by decide +kernel
theorem d158_26 : decode (eb_b 158) 26 = .ok (.bipush (-2), 2) := by decide +kernel
theorem d158_28 : decode (eb_b 158) 28 = .ok (.invokevirtual 91, 3) := by decide +kernel
theorem d158_31 : decode (eb_b 158) 31 = .ok (.ireturn, 1) := by decide +kernel
theorem d158_32 : decode (eb_b 158) 32 = .ok (.aload_n 0, 1) := by decide +kernel
theorem d158_33 : decode (eb_b 158) 33 = .ok (.getfield 7, 3) := by decide +kernel
theorem d158_36 : decode (eb_b 158) 36 = .ok (.iload_n 1, 1) := by decide +kernel
theorem d158_37 : decode (eb_b 158) 37 = .ok (.iload_n 2, 1) := by decide +kernel
theorem d158_38 : decode (eb_b 158) 38 = .ok (.iconst (-1), 1) := by decide +kernel
theorem d158_39 : decode (eb_b 158) 39 = .ok (.if_icmp .ne 7, 3) := by decide +kernel
theorem d158_42 : decode (eb_b 158) 42 = .ok (.iconst 0, 1) := by decide +kernel
theorem d158_43 : decode (eb_b 158) 43 = .ok (.goto 4, 3) := by decide +kernel
theorem d158_46 : decode (eb_b 158) 46 = .ok (.iconst 2, 1) := by decide +kernel
theorem d158_47 : decode (eb_b 158) 47 = .ok (.iastore, 1) := by decide +kernel
theorem d158_48 : decode (eb_b 158) 48 = .ok (.aload_n 0, 1) := by decide +kernel
theorem d158_49 : decode (eb_b 158) 49 = .ok (.getfield 28, 3) := by decide +kernel
theorem d158_52 : decode (eb_b 158) 52 = .ok (.iload_n 1, 1) := by decide +kernel
theorem d158_53 : decode (eb_b 158) 53 = .ok (.iload_n 2, 1) := by decide +kernel
theorem d158_54 : decode (eb_b 158) 54 = .ok (.iastore, 1) := by decide +kernel
theorem d158_55 : decode (eb_b 158) 55 = .ok (.iconst 1, 1) := by decide +kernel
theorem d158_56 : decode (eb_b 158) 56 = .ok (.ireturn, 1) := by decide +kernel
theorem d159_0 : decode (eb_b 159) 0 = .ok (.iload_n 1, 1) := by decide +kernel
theorem d159_1 : decode (eb_b 159) 1 = .ok (.ifCond .eq 22, 3) := by decide +kernel
theorem d159_4 : decode (eb_b 159) 4 = .ok (.iload_n 0, 1) := by decide +kernel
theorem d159_5 : decode (eb_b 159) 5 = .ok (.iload_n 1, 1) := by decide +kernel
theorem d159_6 : decode (eb_b 159) 6 = .ok (.if_icmp .eq 17, 3) := by decide +kernel
theorem d159_9 : decode (eb_b 159) 9 = .ok (.iload_n 1, 1) := by decide +kernel
theorem d159_10 : decode (eb_b 159) 10 = .ok (.iconst 1, 1) := by decide +kernel
theorem d159_11 : decode (eb_b 159) 11 = .ok (.if_icmp .ne 16, 3) := by decide +kernel
theorem d159_14 : decode (eb_b 159) 14 = .ok (.iload_n 0, 1) := by decide +kernel
theorem d159_15 : decode (eb_b 159) 15 = .ok (.ifCond .eq 12, 3) := by decide +kernel
theorem d159_18 : decode (eb_b 159) 18 = .ok (.iload_n 0, 1) := by decide +kernel
theorem d159_19 : decode (eb_b 159) 19 = .ok (.iconst 3, 1) := by decide +kernel
theorem d159_20 : decode (eb_b 159) 20 = .ok (.if_icmp .eq 7, 3) := by decide +kernel
theorem d159_23 : decode (eb_b 159) 23 = .ok (.iconst 1, 1) := by decide +kernel
theorem d159_24 : decode (eb_b 159) 24 = .ok (.goto 4, 3) := by decide +kernel
theorem d159_27 : decode (eb_b 159) 27 = .ok (.iconst 0, 1) := by decide +kernel
theorem d159_28 : decode (eb_b 159) 28 = .ok (.ireturn, 1) := by decide +kernel
theorem d160_0 : decode (eb_b 160) 0 = .ok (.iload_n 1, 1) := by decide +kernel
theorem d160_1 : decode (eb_b 160) 1 = .ok (.i2l, 1) := by decide +kernel
theorem d160_2 : decode (eb_b 160) 2 = .ok (.lconst 0, 1) := by decide +kernel
theorem d160_3 : decode (eb_b 160) 3 = .ok (.ldc2_w 85, 3) := by decide +kernel
theorem d160_6 : decode (eb_b 160) 6 = .ok (.invokestatic 76, 3) := by decide +kernel
theorem d160_9 : decode (eb_b 160) 9 = .ok (.ifCond .eq 15, 3) := by decide +kernel
theorem d160_12 : decode (eb_b 160) 12 = .ok (.iload_n 2, 1) := by decide +kernel
theorem d160_13 : decode (eb_b 160) 13 = .ok (.i2l, 1) := by decide +kernel
theorem d160_14 : decode (eb_b 160) 14 = .ok (.lconst 0, 1) := by decide +kernel
theorem d160_15 : decode (eb_b 160) 15 = .ok (.ldc2_w 106, 3) := by decide +kernel
theorem wl_6_106 : Cond.constantLong (eb_cN 6) 106 5 ∈ eb_LT := eb_lt 1108 (by decide +kernel)
theorem d160_18 : decode (eb_b 160) 18 = .ok (.invokestatic 76, 3) := by decide +kernel
theorem d160_21 : decode (eb_b 160) 21 = .ok (.ifCond .ne 10, 3) := by decide +kernel
theorem d160_24 : decode (eb_b 160) 24 = .ok (.aload_n 0, 1) := by decide +kernel
theorem d160_25 : decode (eb_b 160) 25 = .ok (.bipush (-2), 2) := by decide +kernel
theorem d160_27 : decode (eb_b 160) 27 = .ok (.invokevirtual 91, 3) := by decide +kernel
theorem d160_30 : decode (eb_b 160) 30 = .ok (.ireturn, 1) := by decide +kernel
theorem d160_31 : decode (eb_b 160) 31 = .ok (.aload_n 0, 1) := by decide +kernel
theorem d160_32 : decode (eb_b 160) 32 = .ok (.getfield 7, 3) := by decide +kernel
theorem d160_35 : decode (eb_b 160) 35 = .ok (.iload_n 1, 1) := by decide +kernel
theorem d160_36 : decode (eb_b 160) 36 = .ok (.iaload, 1) := by decide +kernel
theorem d160_37 : decode (eb_b 160) 37 = .ok (.iconst 1, 1) := by decide +kernel
theorem d160_38 : decode (eb_b 160) 38 = .ok (.if_icmp .eq 33, 3) := by decide +kernel
theorem d160_41 : decode (eb_b 160) 41 = .ok (.aload_n 0, 1) := by decide +kernel
theorem d160_42 : decode (eb_b 160) 42 = .ok (.getfield 7, 3) := by decide +kernel
theorem d160_45 : decode (eb_b 160) 45 = .ok (.iload_n 1, 1) := by decide +kernel
theorem d160_46 : decode (eb_b 160) 46 = .ok (.iaload, 1) := by decide +kernel
theorem d160_47 : decode (eb_b 160) 47 = .ok (.iconst 2, 1) := by decide +kernel
theorem d160_48 : decode (eb_b 160) 48 = .ok (.if_icmp .ne 30, 3) := by decide +kernel
theorem d160_51 : decode (eb_b 160) 51 = .ok (.aload_n 0, 1) := by decide +kernel
theorem d160_52 : decode (eb_b 160) 52 = .ok (.getfield 42, 3) := by decide +kernel
theorem wf_6_42 : Cond.fieldLink (eb_cN 6) 42 (eb_tT 6 12).1 (eb_tT 6 12).2.1 (eb_tT 6 12).2.2.1 ∈ eb_LT := eb_lt 968 (by decide +kernel)
theorem fi_6_12 : 12 < eb_nf 6 ∧ (eb_tt 6 12).isReference = true := ⟨by decide, rfl⟩
theorem d160_55 : decode (eb_b 160) 55 = .ok (.aload_n 0, 1) := by decide +kernel
theorem d160_56 : decode (eb_b 160) 56 = .ok (.getfield 28, 3) := by decide +kernel
theorem d160_59 : decode (eb_b 160) 59 = .ok (.iload_n 1, 1) := by decide +kernel
theorem d160_60 : decode (eb_b 160) 60 = .ok (.iaload, 1) := by decide +kernel
theorem d160_61 : decode (eb_b 160) 61 = .ok (.aaload, 1) := by decide +kernel
theorem d160_62 : decode (eb_b 160) 62 = .ok (.iconst 0, 1) := by decide +kernel
theorem d160_63 : decode (eb_b 160) 63 = .ok (.iaload, 1) := by decide +kernel
theorem d160_64 : decode (eb_b 160) 64 = .ok (.iload_n 2, 1) := by decide +kernel
theorem d160_65 : decode (eb_b 160) 65 = .ok (.invokestatic 108, 3) := by decide +kernel
theorem wc_159 : Cond.code (eb_y 159) (eb_b 159) (eb_ml 159) (eb_rt 159) ∈ eb_LT := eb_lt 1111 (by decide +kernel)
theorem cy_159 : (eb_y 159).cls ≠ "java/lang/invoke/MethodHandle" ∧ (eb_y 159).cls ≠ "java/lang/invoke/VarHandle" ∧ (parseMethodDescriptor (eb_y 159).desc).map (fun d => d.parameters.length) = some 2 := by decide +kernel
theorem wst_159 : Cond.static (eb_y 159) ∈ eb_LT := eb_lt 1110 (by decide +kernel)
theorem wn_159 : Cond.initialized (eb_y 159).cls ∈ eb_LT := eb_lt 83 (by decide +kernel)
theorem kS_159 {L q0 m pc : Nat} {lg : Nat → Bool} {ix : Nat} (hw : Cond.methodLink (eb_own m) ix (eb_y 159) ∈ eb_LT) (hd : decode (eb_b m) pc = .ok (.invokestatic ix, 3)) : eb_Snd L q0 m pc lg (op_call 159 2 (pc + 3)) := sn_callS false rfl (Or.inr ⟨rfl, _, rfl⟩) (by decide) ⟨⟨hw, wst_159, wn_159⟩, wc_159⟩ cy_159 hd
theorem wm_6_108 : Cond.methodLink (eb_cN 6) 108 (eb_y 159) ∈ eb_LT := eb_lt 1109 (by decide +kernel)
theorem d160_68 : decode (eb_b 160) 68 = .ok (.ifCond .ne 10, 3) := by decide +kernel
theorem d160_71 : decode (eb_b 160) 71 = .ok (.aload_n 0, 1) := by decide +kernel
theorem d160_72 : decode (eb_b 160) 72 = .ok (.bipush (-3), 2) := by decide +kernel
theorem d160_74 : decode (eb_b 160) 74 = .ok (.invokevirtual 91, 3) := by decide +kernel
theorem d160_77 : decode (eb_b 160) 77 = .ok (.ireturn, 1) := by decide +kernel
theorem d160_78 : decode (eb_b 160) 78 = .ok (.aload_n 0, 1) := by decide +kernel
theorem d160_79 : decode (eb_b 160) 79 = .ok (.getfield 7, 3) := by decide +kernel
theorem d160_82 : decode (eb_b 160) 82 = .ok (.iload_n 1, 1) := by decide +kernel
theorem d160_83 : decode (eb_b 160) 83 = .ok (.iaload, 1) := by decide +kernel
theorem d160_84 : decode (eb_b 160) 84 = .ok (.ifCond .ne 10, 3) := by decide +kernel
theorem d160_87 : decode (eb_b 160) 87 = .ok (.aload_n 0, 1) := by decide +kernel
theorem d160_88 : decode (eb_b 160) 88 = .ok (.bipush (-4), 2) := by decide +kernel
theorem d160_90 : decode (eb_b 160) 90 = .ok (.invokevirtual 91, 3) := by decide +kernel
theorem d160_93 : decode (eb_b 160) 93 = .ok (.ireturn, 1) := by decide +kernel
theorem d160_94 : decode (eb_b 160) 94 = .ok (.iload_n 2, 1) := by decide +kernel
theorem d160_95 : decode (eb_b 160) 95 = .ok (.ifCond .ne 19, 3) := by decide +kernel
theorem d160_98 : decode (eb_b 160) 98 = .ok (.aload_n 0, 1) := by decide +kernel
theorem d160_99 : decode (eb_b 160) 99 = .ok (.getfield 42, 3) := by decide +kernel
theorem d160_102 : decode (eb_b 160) 102 = .ok (.aload_n 0, 1) := by decide +kernel
theorem d160_103 : decode (eb_b 160) 103 = .ok (.getfield 28, 3) := by decide +kernel
theorem d160_106 : decode (eb_b 160) 106 = .ok (.iload_n 1, 1) := by decide +kernel
theorem d160_107 : decode (eb_b 160) 107 = .ok (.iaload, 1) := by decide +kernel
theorem d160_108 : decode (eb_b 160) 108 = .ok (.aaload, 1) := by decide +kernel
theorem d160_109 : decode (eb_b 160) 109 = .ok (.iconst 1, 1) := by decide +kernel
theorem d160_110 : decode (eb_b 160) 110 = .ok (.iaload, 1) := by decide +kernel
theorem d160_111 : decode (eb_b 160) 111 = .ok (.goto 13, 3) := by decide +kernel
theorem d160_114 : decode (eb_b 160) 114 = .ok (.aload_n 0, 1) := by decide +kernel
theorem d160_115 : decode (eb_b 160) 115 = .ok (.aload_n 0, 1) := by decide +kernel
theorem d160_116 : decode (eb_b 160) 116 = .ok (.getfield 28, 3) := by decide +kernel
theorem d160_119 : decode (eb_b 160) 119 = .ok (.iload_n 1, 1) := by decide +kernel
theorem d160_120 : decode (eb_b 160) 120 = .ok (.iaload, 1) := by decide +kernel
theorem d160_121 : decode (eb_b 160) 121 = .ok (.invokevirtual 112, 3) := by decide +kernel
theorem wc_194 : Cond.code (eb_y 194) (eb_b 194) (eb_ml 194) (eb_rt 194) ∈ eb_LT := eb_lt 1115 (by decide +kernel)
theorem cy_194 : (eb_y 194).cls = eb_cN (eb_rc 194) ∧ (eb_y 194).cls ≠ "java/lang/invoke/MethodHandle" ∧ (eb_y 194).cls ≠ "java/lang/invoke/VarHandle" ∧ (parseMethodDescriptor (eb_y 194).desc).map (fun d => d.parameters.length) = some 1 := by decide +kernel
theorem wi_194 : Cond.instanceMethod (eb_y 194) ∈ eb_LT := eb_lt 1114 (by decide +kernel)
theorem wse_194 : Cond.selects (eb_cN (eb_rc 194)) (eb_y 194) (eb_y 194) ∈ eb_LT := eb_lt 37 (by decide +kernel)
theorem kV_194 {L q0 m pc : Nat} {lg : Nat → Bool} {ix : Nat} (hw : Cond.methodLink (eb_own m) ix (eb_y 194) ∈ eb_LT) (hd : decode (eb_b m) pc = .ok (.invokevirtual ix, 3)) : eb_Snd L q0 m pc lg (op_call 194 2 (pc + 3)) := sn_callV false rfl (Or.inr ⟨rfl, _, rfl⟩) (by decide) rfl (by decide) ⟨⟨hw, wi_194, wse_194⟩, wc_194⟩ cy_194 hd
theorem wm_6_112 : Cond.methodLink (eb_cN 6) 112 (eb_y 194) ∈ eb_LT := eb_lt 1112 (by decide +kernel)
theorem d160_124 : decode (eb_b 160) 124 = .ok (.ireturn, 1) := by decide +kernel
theorem d161_0 : decode (eb_b 161) 0 = .ok (.aload_n 0, 1) := by decide +kernel
theorem d161_1 : decode (eb_b 161) 1 = .ok (.getfield 39, 3) := by decide +kernel
theorem wf_6_39 : Cond.fieldLink (eb_cN 6) 39 (eb_tT 6 10).1 (eb_tT 6 10).2.1 (eb_tT 6 10).2.2.1 ∈ eb_LT := eb_lt 966 (by decide +kernel)
theorem fi_6_10 : 10 < eb_nf 6 ∧ (eb_tt 6 10).isReference = true := ⟨by decide, rfl⟩
theorem d161_4 : decode (eb_b 161) 4 = .ok (.aload_n 0, 1) := by decide +kernel
theorem d161_5 : decode (eb_b 161) 5 = .ok (.dup, 1) := by decide +kernel
theorem d161_6 : decode (eb_b 161) 6 = .ok (.getfield 73, 3) := by decide +kernel
theorem d161_9 : decode (eb_b 161) 9 = .ok (.dup_x1, 1) := by decide +kernel
theorem d161_10 : decode (eb_b 161) 10 = .ok (.iconst 1, 1) := by decide +kernel
theorem d161_11 : decode (eb_b 161) 11 = .ok (.iadd, 1) := by decide +kernel
theorem d161_12 : decode (eb_b 161) 12 = .ok (.putfield 73, 3) := by decide +kernel
theorem fp_6_9 : ∀ x : Int32, narrow (eb_tt 6 9) (.int x) = .int x ∧ fits (eb_tt 6 9) (.int x) = true := fun x => ⟨rfl, rfl⟩
theorem d161_15 : decode (eb_b 161) 15 = .ok (.aaload, 1) := by decide +kernel
theorem d161_16 : decode (eb_b 161) 16 = .ok (.astore 5, 2) := by decide +kernel
theorem hn161_5 : 5 < eb_ml 161 := by decide
theorem d161_18 : decode (eb_b 161) 18 = .ok (.aload 5, 2) := by decide +kernel
theorem d161_20 : decode (eb_b 161) 20 = .ok (.iconst 0, 1) := by decide +kernel
theorem d161_21 : decode (eb_b 161) 21 = .ok (.iload_n 1, 1) := by decide +kernel
theorem d161_22 : decode (eb_b 161) 22 = .ok (.iastore, 1) := by decide +kernel
theorem d161_23 : decode (eb_b 161) 23 = .ok (.aload 5, 2) := by decide +kernel
theorem d161_25 : decode (eb_b 161) 25 = .ok (.iconst 1, 1) := by decide +kernel
theorem d161_26 : decode (eb_b 161) 26 = .ok (.iload_n 1, 1) := by decide +kernel
theorem d161_27 : decode (eb_b 161) 27 = .ok (.iastore, 1) := by decide +kernel
theorem d161_28 : decode (eb_b 161) 28 = .ok (.aload 5, 2) := by decide +kernel
theorem d161_30 : decode (eb_b 161) 30 = .ok (.iconst 2, 1) := by decide +kernel
theorem d161_31 : decode (eb_b 161) 31 = .ok (.iload_n 2, 1) := by decide +kernel
theorem d161_32 : decode (eb_b 161) 32 = .ok (.iastore, 1) := by decide +kernel
theorem d161_33 : decode (eb_b 161) 33 = .ok (.aload 5, 2) := by decide +kernel
theorem d161_35 : decode (eb_b 161) 35 = .ok (.iconst 3, 1) := by decide +kernel
theorem d161_36 : decode (eb_b 161) 36 = .ok (.iload_n 3, 1) := by decide +kernel
theorem d161_37 : decode (eb_b 161) 37 = .ok (.iastore, 1) := by decide +kernel
theorem d161_38 : decode (eb_b 161) 38 = .ok (.aload 5, 2) := by decide +kernel
theorem d161_40 : decode (eb_b 161) 40 = .ok (.iconst 4, 1) := by decide +kernel
theorem d161_41 : decode (eb_b 161) 41 = .ok (.iload 4, 2) := by decide +kernel
theorem d161_43 : decode (eb_b 161) 43 = .ok (.iastore, 1) := by decide +kernel
theorem d161_44 : decode (eb_b 161) 44 = .ok (.aload 5, 2) := by decide +kernel
theorem d161_46 : decode (eb_b 161) 46 = .ok (.iconst 5, 1) := by decide +kernel
theorem d161_47 : decode (eb_b 161) 47 = .ok (.iconst 0, 1) := by decide +kernel
theorem d161_48 : decode (eb_b 161) 48 = .ok (.iastore, 1) := by decide +kernel
theorem d161_49 : decode (eb_b 161) 49 = .ok (.aload 5, 2) := by decide +kernel
theorem d161_51 : decode (eb_b 161) 51 = .ok (.bipush 6, 2) := by decide +kernel
theorem d161_53 : decode (eb_b 161) 53 = .ok (.iconst 0, 1) := by decide +kernel
theorem d161_54 : decode (eb_b 161) 54 = .ok (.iastore, 1) := by decide +kernel
theorem d161_55 : decode (eb_b 161) 55 = .ok (.return_, 1) := by decide +kernel
section
variable {L q0 : Nat}
theorem sc124_0 : eb_AS L q0 124 (eb_lg 124) [(0, op_iload 1 1), (1, op_sw [(0, 84), (1, 92), (2, 100), (3, 108), (4, 116), (5, 124), (6, 132), (7, 140), (8, 148), (9, 156), (10, 171), (11, 171), (12, 161), (13, 161), (14, 161), (15, 161), (16, 161)] 171), (84, op_aload 0 85), (85, op_getR L 5 0 88), (88, op_getI L 4 2 91), (91, op_iret), (92, op_aload 0 93), (93, op_getR L 5 0 96), (96, op_getI L 4 3 99), (99, op_iret), (100, op_aload 0 101), (101, op_getR L 5 0 104), (104, op_getI L 4 4 107), (107, op_iret), (108, op_aload 0 109), (109, op_getR L 5 0 112), (112, op_call 43 1 115), (115, op_iret), (116, op_aload 0 117), (117, op_getR L 5 0 120), (120, op_call 44 1 123), (123, op_iret), (124, op_aload 0 125), (125, op_getR L 5 0 128), (128, op_call 45 1 131), (131, op_iret), (132, op_aload 0 133), (133, op_getR L 5 0 136), (136, op_getI L 4 5 139), (139, op_iret), (140, op_aload 0 141), (141, op_getR L 5 5 144), (144, op_getI L 3 1 147), (147, op_iret), (148, op_aload 0 149), (149, op_getR L 5 0 152), (152, op_getI L 4 6 155), (155, op_iret), (156, op_aload 0 157), (157, op_call 136 1 160)] := ⟨sn_iload_n d124_0 rfl, sn_sw d124_1 (by decide) (by decide +kernel) (by decide), sn_aload_n d124_84 rfl, sn_getR (by decide) fi_5_0.1 fi_5_0.2 wf_5_10 d124_85, sn_getI (by decide) fi_4_2.1 fi_4_2.2 wf_5_235 d124_88, sn_iret d124_91 rfl, sn_aload_n d124_92 rfl, sn_getR (by decide) fi_5_0.1 fi_5_0.2 wf_5_10 d124_93, sn_getI (by decide) fi_4_3.1 fi_4_3.2 wf_5_252 d124_96, sn_iret d124_99 rfl, sn_aload_n d124_100 rfl, sn_getR (by decide) fi_5_0.1 fi_5_0.2 wf_5_10 d124_101, sn_getI (by decide) fi_4_4.1 fi_4_4.2 wf_5_153 d124_104, sn_iret d124_107 rfl, sn_aload_n d124_108 rfl, sn_getR (by decide) fi_5_0.1 fi_5_0.2 wf_5_10 d124_109, kV_43 wm_5_304 d124_112, sn_iret d124_115 rfl, sn_aload_n d124_116 rfl, sn_getR (by decide) fi_5_0.1 fi_5_0.2 wf_5_10 d124_117, kV_44 wm_5_307 d124_120, sn_iret d124_123 rfl, sn_aload_n d124_124 rfl, sn_getR (by decide) fi_5_0.1 fi_5_0.2 wf_5_10 d124_125, kV_45 wm_5_310 d124_128, sn_iret d124_131 rfl, sn_aload_n d124_132 rfl, sn_getR (by decide) fi_5_0.1 fi_5_0.2 wf_5_10 d124_133, sn_getI (by decide) fi_4_5.1 fi_4_5.2 wf_5_313 d124_136, sn_iret d124_139 rfl, sn_aload_n d124_140 rfl, sn_getR (by decide) fi_5_5.1 fi_5_5.2 wf_5_31 d124_141, sn_getI (by decide) fi_3_1.1 fi_3_1.2 wf_5_159 d124_144, sn_iret d124_147 rfl, sn_aload_n d124_148 rfl, sn_getR (by decide) fi_5_0.1 fi_5_0.2 wf_5_10 d124_149, sn_getI (by decide) fi_4_6.1 fi_4_6.2 wf_5_297 d124_152, sn_iret d124_155 rfl, sn_aload_n d124_156 rfl, kV_136 wm_5_316 d124_157, trivial⟩
theorem sc124_1 : eb_AS L q0 124 (eb_lg 124) [(160, op_iret), (161, op_aload 0 162), (162, op_getR L 5 6 165), (165, op_iload 1 166), (166, op_push (zi 12) 168), (168, op_ii (· - ·) 169), (169, op_iald L 170), (170, op_iret), (171, op_push (zi (-1)) 172), (172, op_iret)] := ⟨sn_iret d124_160 rfl, sn_aload_n d124_161 rfl, sn_getR (by decide) fi_5_6.1 fi_5_6.2 wf_5_35 d124_162, sn_iload_n d124_165 rfl, sn_bipush d124_166 (by decide), sn_isub d124_168, sn_iald d124_169, sn_iret d124_170 rfl, sn_iconst d124_171 (by decide), sn_iret d124_172 rfl, trivial⟩
theorem sd124 : ∀ pc, eb_Snd L q0 124 pc (eb_lg 124) (eb_cd L 124 pc) := eb_AS_all (hk124 (L := L)) (eb_AS_app sc124_0 (sc124_1))
theorem sc125_0 : eb_AS L q0 125 (eb_lg 125) [(0, op_push (zi (-2)) 2), (2, op_iload 1 3), (3, op_ii (· - ·) 4), (4, op_istore 2 5), (5, op_iload 2 6), (6, op_push (zi 0) 7), (7, op_push (zi 4) 8), (8, op_call 127 3 11), (11, op_ifeq 24 14), (14, op_aload 0 15), (15, op_getR L 5 6 18), (18, op_iload 2 19), (19, op_dup2 20), (20, op_iald L 21), (21, op_push (zi 1) 22), (22, op_ii (· + ·) 23), (23, op_iast L 24), (24, op_iload 1 25), (25, op_iret)] := ⟨sn_bipush d125_0 (by decide), sn_iload_n d125_2 rfl, sn_isub d125_3, sn_istore_n (eb_hlg (Or.inl rfl)) hn125_2 d125_4 rfl, sn_iload_n d125_5 rfl, sn_iconst d125_6 (by decide), sn_iconst d125_7 (by decide), kS_127 wm_5_44 d125_8, sn_ifeq d125_11 (by decide), sn_aload_n d125_14 rfl, sn_getR (by decide) fi_5_6.1 fi_5_6.2 wf_5_35 d125_15, sn_iload_n d125_18 rfl, sn_dup2 d125_19, sn_iald d125_20, sn_iconst d125_21 (by decide), sn_iadd d125_22, sn_iast d125_23, sn_iload_n d125_24 rfl, sn_iret d125_25 rfl, trivial⟩
theorem sd125 : ∀ pc, eb_Snd L q0 125 pc (eb_lg 125) (eb_cd L 125 pc) := eb_AS_all (hk125 (L := L)) (sc125_0)
theorem sc126_0 : eb_AS L q0 126 (eb_lg 126) [(0, op_push (zi (-1000000)) 3), (3, op_aload 0 4), (4, op_iload 1 5), (5, op_call 125 2 8), (8, op_ii (· + ·) 9), (9, op_iret)] := ⟨sn_ldcw d126_0 wk_5_319, sn_aload_n d126_3 rfl, sn_iload_n d126_4 rfl, kV_125 wm_5_48 d126_5, sn_iadd d126_8, sn_iret d126_9 rfl, trivial⟩
theorem sd126 : ∀ pc, eb_Snd L q0 126 pc (eb_lg 126) (eb_cd L 126 pc) := eb_AS_all (hk126 (L := L)) (sc126_0)
theorem sc127_0 : eb_AS L q0 127 (eb_lg 127) [(0, op_iload 0 1), (1, op_iload 1 2), (2, op_iclt 14 5), (5, op_iload 0 6), (6, op_iload 2 7), (7, op_icgt 14 10), (10, op_push (zi 1) 11), (11, op_goto 15), (14, op_push (zi 0) 15), (15, op_zret)] := ⟨sn_iload_n d127_0 rfl, sn_iload_n d127_1 rfl, sn_iclt d127_2 (by decide), sn_iload_n d127_5 rfl, sn_iload_n d127_6 rfl, sn_icgt d127_7 (by decide), sn_iconst d127_10 (by decide), sn_goto d127_11 (by decide), sn_iconst d127_14 (by decide), sn_zret d127_15 rfl, trivial⟩
theorem sd127 : ∀ pc, eb_Snd L q0 127 pc (eb_lg 127) (eb_cd L 127 pc) := eb_AS_all (hk127 (L := L)) (sc127_0)
theorem sc128_0 : eb_AS L q0 128 (eb_lg 128) [(0, op_iload 0 1), (1, op_push (zi 0) 2), (2, op_push (zi 7) 4), (4, op_call 127 3 7), (7, op_zret)] := ⟨sn_iload_n d128_0 rfl, sn_iconst d128_1 (by decide), sn_bipush d128_2 (by decide), kS_127 wm_5_44 d128_4, sn_zret d128_7 rfl, trivial⟩
theorem sd128 : ∀ pc, eb_Snd L q0 128 pc (eb_lg 128) (eb_cd L 128 pc) := eb_AS_all (hk128 (L := L)) (sc128_0)
theorem sc129_0 : eb_AS L q0 129 (eb_lg 129) [(0, op_iload 0 1), (1, op_push (zi 0) 2), (2, op_push (zi 100) 4), (4, op_call 127 3 7), (7, op_zret)] := ⟨sn_iload_n d129_0 rfl, sn_iconst d129_1 (by decide), sn_bipush d129_2 (by decide), kS_127 wm_5_44 d129_4, sn_zret d129_7 rfl, trivial⟩
theorem sd129 : ∀ pc, eb_Snd L q0 129 pc (eb_lg 129) (eb_cd L 129 pc) := eb_AS_all (hk129 (L := L)) (sc129_0)
theorem sc130_0 : eb_AS L q0 130 (eb_lg 130) [(0, op_iload 0 1), (1, op_push (zi 1) 2), (2, op_push (zi 12) 4), (4, op_call 127 3 7), (7, op_zret)] := ⟨sn_iload_n d130_0 rfl, sn_iconst d130_1 (by decide), sn_bipush d130_2 (by decide), kS_127 wm_5_44 d130_4, sn_zret d130_7 rfl, trivial⟩
theorem sd130 : ∀ pc, eb_Snd L q0 130 pc (eb_lg 130) (eb_cd L 130 pc) := eb_AS_all (hk130 (L := L)) (sc130_0)
theorem sc131_0 : eb_AS L q0 131 (eb_lg 131) [(0, op_iload 1 1), (1, op_push (zi 0) 2), (2, op_aload 0 3), (3, op_getR L 5 0 6), (6, op_getI L 4 2 9), (9, op_push (zi 1) 10), (10, op_ii (· - ·) 11), (11, op_call 127 3 14), (14, op_zret)] := ⟨sn_iload_n d131_0 rfl, sn_iconst d131_1 (by decide), sn_aload_n d131_2 rfl, sn_getR (by decide) fi_5_0.1 fi_5_0.2 wf_5_10 d131_3, sn_getI (by decide) fi_4_2.1 fi_4_2.2 wf_5_235 d131_6, sn_iconst d131_9 (by decide), sn_isub d131_10, kS_127 wm_5_44 d131_11, sn_zret d131_14 rfl, trivial⟩
theorem sd131 : ∀ pc, eb_Snd L q0 131 pc (eb_lg 131) (eb_cd L 131 pc) := eb_AS_all (hk131 (L := L)) (sc131_0)
theorem sc132_0 : eb_AS L q0 132 (eb_lg 132) [(0, op_iload 1 1), (1, op_push (zi 0) 2), (2, op_aload 0 3), (3, op_getR L 5 0 6), (6, op_getI L 4 3 9), (9, op_push (zi 1) 10), (10, op_ii (· - ·) 11), (11, op_call 127 3 14), (14, op_zret)] := ⟨sn_iload_n d132_0 rfl, sn_iconst d132_1 (by decide), sn_aload_n d132_2 rfl, sn_getR (by decide) fi_5_0.1 fi_5_0.2 wf_5_10 d132_3, sn_getI (by decide) fi_4_3.1 fi_4_3.2 wf_5_252 d132_6, sn_iconst d132_9 (by decide), sn_isub d132_10, kS_127 wm_5_44 d132_11, sn_zret d132_14 rfl, trivial⟩
theorem sd132 : ∀ pc, eb_Snd L q0 132 pc (eb_lg 132) (eb_cd L 132 pc) := eb_AS_all (hk132 (L := L)) (sc132_0)
theorem sc133_0 : eb_AS L q0 133 (eb_lg 133) [(0, op_iload 1 1), (1, op_push (zi (-1)) 2), (2, op_iceq 13 5), (5, op_aload 0 6), (6, op_iload 1 7), (7, op_call 132 2 10), (10, op_ifeq 17 13), (13, op_push (zi 1) 14), (14, op_goto 18), (17, op_push (zi 0) 18), (18, op_zret)] := ⟨sn_iload_n d133_0 rfl, sn_iconst d133_1 (by decide), sn_iceq d133_2 (by decide), sn_aload_n d133_5 rfl, sn_iload_n d133_6 rfl, kV_132 wm_5_94 d133_7, sn_ifeq d133_10 (by decide), sn_iconst d133_13 (by decide), sn_goto d133_14 (by decide), sn_iconst d133_17 (by decide), sn_zret d133_18 rfl, trivial⟩
theorem sd133 : ∀ pc, eb_Snd L q0 133 pc (eb_lg 133) (eb_cd L 133 pc) := eb_AS_all (hk133 (L := L)) (sc133_0)
theorem sc134_0 : eb_AS L q0 134 (eb_lg 134) [(0, op_iload 1 1), (1, op_push (zi 0) 2), (2, op_push (zi 1) 3), (3, op_aload 0 4), (4, op_getR L 5 0 7), (7, op_getI L 4 2 10), (10, op_ii (fun x y => x <<< (y &&& 31)) 11), (11, op_push (zi 1) 12), (12, op_ii (· - ·) 13), (13, op_call 127 3 16), (16, op_zret)] := ⟨sn_iload_n d134_0 rfl, sn_iconst d134_1 (by decide), sn_iconst d134_2 (by decide), sn_aload_n d134_3 rfl, sn_getR (by decide) fi_5_0.1 fi_5_0.2 wf_5_10 d134_4, sn_getI (by decide) fi_4_2.1 fi_4_2.2 wf_5_235 d134_7, sn_ishl d134_10, sn_iconst d134_11 (by decide), sn_isub d134_12, kS_127 wm_5_44 d134_13, sn_zret d134_16 rfl, trivial⟩
theorem sd134 : ∀ pc, eb_Snd L q0 134 pc (eb_lg 134) (eb_cd L 134 pc) := eb_AS_all (hk134 (L := L)) (sc134_0)
theorem sc135_0 : eb_AS L q0 135 (eb_lg 135) [(0, op_iload 1 1), (1, op_call 128 1 4), (4, op_ifne 10 7), (7, op_push (zi (-2)) 9), (9, op_iret), (10, op_aload 0 11), (11, op_getR L 5 4 14), (14, op_iload 1 15), (15, op_aald L 16), (16, op_call 18 1 19), (19, op_ifeq 25 22), (22, op_push (zi (-3)) 24), (24, op_iret), (25, op_aload 0 26), (26, op_getR L 5 4 29), (29, op_iload 1 30), (30, op_aald L 31), (31, op_call 17 1 34), (34, op_ifeq 41 37), (37, op_push (zi 0) 38), (38, op_goto 43), (41, op_push (zi (-4)) 43), (43, op_iret)] := ⟨sn_iload_n d135_0 rfl, kS_128 wm_5_40 d135_1, sn_ifne d135_4 (by decide), sn_bipush d135_7 (by decide), sn_iret d135_9 rfl, sn_aload_n d135_10 rfl, sn_getR (by decide) fi_5_4.1 fi_5_4.2 wf_5_24 d135_11, sn_iload_n d135_14 rfl, sn_aald d135_15, kV_18 wm_5_70 d135_16, sn_ifeq d135_19 (by decide), sn_bipush d135_22 (by decide), sn_iret d135_24 rfl, sn_aload_n d135_25 rfl, sn_getR (by decide) fi_5_4.1 fi_5_4.2 wf_5_24 d135_26, sn_iload_n d135_29 rfl, sn_aald d135_30, kV_17 wm_5_88 d135_31, sn_ifeq d135_34 (by decide), sn_iconst d135_37 (by decide), sn_goto d135_38 (by decide), sn_bipush d135_41 (by decide), sn_iret d135_43 rfl, trivial⟩
theorem sd135 : ∀ pc, eb_Snd L q0 135 pc (eb_lg 135) (eb_cd L 135 pc) := eb_AS_all (hk135 (L := L)) (sc135_0)
theorem sc136_0 : eb_AS L q0 136 (eb_lg 136) [(0, op_push (zi 0) 1), (1, op_istore 1 2), (2, op_push (zi 0) 3), (3, op_istore 2 4), (4, op_iload 2 5), (5, op_push (zi 8) 7), (7, op_icge 32 10), (10, op_aload 0 11), (11, op_getR L 5 4 14), (14, op_iload 2 15), (15, op_aald L 16), (16, op_getI L 2 0 19), (19, op_push (zi (-1)) 20), (20, op_iceq 26 23), (23, op_iinc 1 1 26), (26, op_iinc 2 1 29), (29, op_goto 4), (32, op_iload 1 33), (33, op_iret)] := ⟨sn_iconst d136_0 (by decide), sn_istore_n (eb_hlg (Or.inl rfl)) hn136_1 d136_1 rfl, sn_iconst d136_2 (by decide), sn_istore_n (eb_hlg (Or.inl rfl)) hn136_2 d136_3 rfl, sn_iload_n d136_4 rfl, sn_bipush d136_5 (by decide), sn_icge d136_7 (by decide), sn_aload_n d136_10 rfl, sn_getR (by decide) fi_5_4.1 fi_5_4.2 wf_5_24 d136_11, sn_iload_n d136_14 rfl, sn_aald d136_15, sn_getI (by decide) fi_2_0.1 fi_2_0.2 wf_5_67 d136_16, sn_iconst d136_19 (by decide), sn_iceq d136_20 (by decide), sn_iinc (eb_hlg (Or.inl rfl)) hn136_1 d136_23 (by decide), sn_iinc (eb_hlg (Or.inl rfl)) hn136_2 d136_26 (by decide), sn_goto d136_29 (by decide), sn_iload_n d136_32 rfl, sn_iret d136_33 rfl, trivial⟩
theorem sd136 : ∀ pc, eb_Snd L q0 136 pc (eb_lg 136) (eb_cd L 136 pc) := eb_AS_all (hk136 (L := L)) (sc136_0)
theorem sc137_0 : eb_AS L q0 137 (eb_lg 137) [(0, op_aload 0 1), (1, op_getR L 5 0 4), (4, op_callv 50 1 7), (7, op_aload 0 8), (8, op_getR L 5 0 11), (11, op_aret)] := ⟨sn_aload_n d137_0 rfl, sn_getR (by decide) fi_5_0.1 fi_5_0.2 wf_5_10 d137_1, kV_50 wm_5_243 d137_4, sn_aload_n d137_7 rfl, sn_getR (by decide) fi_5_0.1 fi_5_0.2 wf_5_10 d137_8, sn_aret d137_11 ⟨_, rfl⟩, trivial⟩
theorem sd137 : ∀ pc, eb_Snd L q0 137 pc (eb_lg 137) (eb_cd L 137 pc) := eb_AS_all (hk137 (L := L)) (sc137_0)
theorem sc138_0 : eb_AS L q0 138 (eb_lg 138) [(0, op_aload 0 1), (1, op_getR L 5 1 4), (4, op_aload 0 5), (5, op_getR L 5 0 8), (8, op_callv 39 2 11), (11, op_aload 0 12), (12, op_getR L 5 1 15), (15, op_aret)] := ⟨sn_aload_n d138_0 rfl, sn_getR (by decide) fi_5_1.1 fi_5_1.2 wf_5_16 d138_1, sn_aload_n d138_4 rfl, sn_getR (by decide) fi_5_0.1 fi_5_0.2 wf_5_10 d138_5, kV_39 wm_5_171 d138_8, sn_aload_n d138_11 rfl, sn_getR (by decide) fi_5_1.1 fi_5_1.2 wf_5_16 d138_12, sn_aret d138_15 ⟨_, rfl⟩, trivial⟩
theorem sd138 : ∀ pc, eb_Snd L q0 138 pc (eb_lg 138) (eb_cd L 138 pc) := eb_AS_all (hk138 (L := L)) (sc138_0)
theorem sc139_0 : eb_AS L q0 139 (eb_lg 139) [(0, op_aload 0 1), (1, op_call 138 1 4), (4, op_iload 2 5), (5, op_call 42 2 8), (8, op_pop 9), (9, op_aload 0 10), (10, op_getR L 5 1 13), (13, op_iload 1 14), (14, op_call 61 2 17), (17, op_iret)] := ⟨sn_aload_n d139_0 rfl, kV_138 wm_5_160 d139_1, sn_iload_n d139_4 rfl, kV_42 wm_5_144 d139_5, sn_pop d139_8, sn_aload_n d139_9 rfl, sn_getR (by decide) fi_5_1.1 fi_5_1.2 wf_5_16 d139_10, sn_iload_n d139_13 rfl, kV_61 wm_5_258 d139_14, sn_iret d139_17 rfl, trivial⟩
theorem sd139 : ∀ pc, eb_Snd L q0 139 pc (eb_lg 139) (eb_cd L 139 pc) := eb_AS_all (hk139 (L := L)) (sc139_0)
theorem sc140_0 : eb_AS L q0 140 (eb_lg 140) [(0, op_push (zi 0) 1), (1, op_istore 4 3), (3, op_aload 0 4), (4, op_iload 1 5), (5, op_push (zi 0) 6), (6, op_call 139 3 9), (9, op_istore 5 11), (11, op_push (zi 1) 12), (12, op_aload 0 13), (13, op_getR L 5 0 16), (16, op_getI L 4 2 19), (19, op_ii (fun x y => x <<< (y &&& 31)) 20), (20, op_istore 6 22), (22, op_push (zi 1) 23), (23, op_istore 7 25), (25, op_iload 7 27), (27, op_iload 6 29), (29, op_icge 111 32), (32, op_iload 7 34), (34, op_call 252 1 37), (37, op_istore 8 39), (39, op_iload 8 41), (41, op_iload 2 42), (42, op_icle 48 45), (45, op_goto 105), (48, op_aload 0 49), (49, op_iload 1 50), (50, op_iload 7 52), (52, op_call 139 3 55), (55, op_istore 9 57), (57, op_iload 3 58), (58, op_ifeq 75 61), (61, op_iload 8 63), (63, op_iload 4 65), (65, op_call 252 1 68), (68, op_icge 75 71), (71, op_push (zi 1) 72), (72, op_goto 76), (75, op_push (zi 0) 76), (76, op_istore 10 78)] := ⟨sn_iconst d140_0 (by decide), sn_istore (eb_hlg (Or.inl rfl)) hn140_4 d140_1, sn_aload_n d140_3 rfl, sn_iload_n d140_4 rfl, sn_iconst d140_5 (by decide), kV_139 wm_5_271 d140_6, sn_istore (eb_hlg (Or.inl rfl)) hn140_5 d140_9, sn_iconst d140_11 (by decide), sn_aload_n d140_12 rfl, sn_getR (by decide) fi_5_0.1 fi_5_0.2 wf_5_10 d140_13, sn_getI (by decide) fi_4_2.1 fi_4_2.2 wf_5_235 d140_16, sn_ishl d140_19, sn_istore (eb_hlg (Or.inl rfl)) hn140_6 d140_20, sn_iconst d140_22 (by decide), sn_istore (eb_hlg (Or.inl rfl)) hn140_7 d140_23, sn_iload d140_25, sn_iload d140_27, sn_icge d140_29 (by decide), sn_iload d140_32, kS_252 wm_5_274 d140_34, sn_istore (eb_hlg (Or.inl rfl)) hn140_8 d140_37, sn_iload d140_39, sn_iload_n d140_41 rfl, sn_icle d140_42 (by decide), sn_goto d140_45 (by decide), sn_aload_n d140_48 rfl, sn_iload_n d140_49 rfl, sn_iload d140_50, kV_139 wm_5_271 d140_52, sn_istore (eb_hlg (Or.inl rfl)) hn140_9 d140_55, sn_iload_n d140_57 rfl, sn_ifeq d140_58 (by decide), sn_iload d140_61, sn_iload d140_63, kS_252 wm_5_274 d140_65, sn_icge d140_68 (by decide), sn_iconst d140_71 (by decide), sn_goto d140_72 (by decide), sn_iconst d140_75 (by decide), sn_istore (eb_hlg (Or.inl rfl)) hn140_10 d140_76, trivial⟩
theorem sc140_1 : eb_AS L q0 140 (eb_lg 140) [(78, op_iload 9 80), (80, op_iload 5 82), (82, op_icgt 97 85), (85, op_iload 9 87), (87, op_iload 5 89), (89, op_icne 105 92), (92, op_iload 10 94), (94, op_ifeq 105 97), (97, op_iload 7 99), (99, op_istore 4 101), (101, op_iload 9 103), (103, op_istore 5 105), (105, op_iinc 7 1 108), (108, op_goto 25), (111, op_iload 4 113), (113, op_iret)] := ⟨sn_iload d140_78, sn_iload d140_80, sn_icgt d140_82 (by decide), sn_iload d140_85, sn_iload d140_87, sn_icne d140_89 (by decide), sn_iload d140_92, sn_ifeq d140_94 (by decide), sn_iload d140_97, sn_istore (eb_hlg (Or.inl rfl)) hn140_4 d140_99, sn_iload d140_101, sn_istore (eb_hlg (Or.inl rfl)) hn140_5 d140_103, sn_iinc (eb_hlg (Or.inl rfl)) hn140_7 d140_105 (by decide), sn_goto d140_108 (by decide), sn_iload d140_111, sn_iret d140_113 rfl, trivial⟩
theorem sd140 : ∀ pc, eb_Snd L q0 140 pc (eb_lg 140) (eb_cd L 140 pc) := eb_AS_all (hk140 (L := L)) (eb_AS_app sc140_0 (sc140_1))
theorem sc141_0 : eb_AS L q0 141 (eb_lg 141) [(0, op_aload 0 1), (1, op_call 138 1 4), (4, op_pop 5), (5, op_push (zi 0) 6), (6, op_istore 3 7), (7, op_push (zi 0) 8), (8, op_istore 4 10), (10, op_iload 4 12), (12, op_iload 1 13), (13, op_icge 78 16), (16, op_aload 0 17), (17, op_iload 1 18), (18, op_iload 2 19), (19, op_iload 4 21), (21, op_call 142 4 24), (24, op_istore 5 26), (26, op_aload 0 27), (27, op_iload 5 29), (29, op_call 131 2 32), (32, op_ifeq 61 35), (35, op_aload 0 36), (36, op_getR L 5 1 39), (39, op_getR L 4 0 42), (42, op_iload 5 44), (44, op_aald L 45), (45, op_aload 0 46), (46, op_getR L 5 1 49), (49, op_getR L 4 0 52), (52, op_iload 5 54), (54, op_aald L 55), (55, op_getI L 1 0 58), (58, op_putI L 1 4 61), (61, op_iload 3 62), (62, op_aload 0 63), (63, op_getR L 5 1 66), (66, op_push (zi 1) 67), (67, op_call 61 2 70), (70, op_ii (· + ·) 71), (71, op_istore 3 72), (72, op_iinc 4 1 75)] := ⟨sn_aload_n d141_0 rfl, kV_138 wm_5_160 d141_1, sn_pop d141_4, sn_iconst d141_5 (by decide), sn_istore_n (eb_hlg (Or.inl rfl)) hn141_3 d141_6 rfl, sn_iconst d141_7 (by decide), sn_istore (eb_hlg (Or.inl rfl)) hn141_4 d141_8, sn_iload d141_10, sn_iload_n d141_12 rfl, sn_icge d141_13 (by decide), sn_aload_n d141_16 rfl, sn_iload_n d141_17 rfl, sn_iload_n d141_18 rfl, sn_iload d141_19, kV_142 wm_5_285 d141_21, sn_istore (eb_hlg (Or.inl rfl)) hn141_5 d141_24, sn_aload_n d141_26 rfl, sn_iload d141_27, kV_131 wm_5_123 d141_29, sn_ifeq d141_32 (by decide), sn_aload_n d141_35 rfl, sn_getR (by decide) fi_5_1.1 fi_5_1.2 wf_5_16 d141_36, sn_getR (by decide) fi_4_0.1 fi_4_0.2 wf_5_126 d141_39, sn_iload d141_42, sn_aald d141_44, sn_aload_n d141_45 rfl, sn_getR (by decide) fi_5_1.1 fi_5_1.2 wf_5_16 d141_46, sn_getR (by decide) fi_4_0.1 fi_4_0.2 wf_5_126 d141_49, sn_iload d141_52, sn_aald d141_54, sn_getI (by decide) fi_1_0.1 fi_1_0.2 wf_5_130 d141_55, sn_putI (by decide) fi_1_4.1 fi_1_4.2 wf_5_138 (Or.inl rfl) fp_1_4 d141_58, sn_iload_n d141_61 rfl, sn_aload_n d141_62 rfl, sn_getR (by decide) fi_5_1.1 fi_5_1.2 wf_5_16 d141_63, sn_iconst d141_66 (by decide), kV_61 wm_5_258 d141_67, sn_iadd d141_70, sn_istore_n (eb_hlg (Or.inl rfl)) hn141_3 d141_71 rfl, sn_iinc (eb_hlg (Or.inl rfl)) hn141_4 d141_72 (by decide), trivial⟩
theorem sc141_1 : eb_AS L q0 141 (eb_lg 141) [(75, op_goto 10), (78, op_iload 3 79), (79, op_iret)] := ⟨sn_goto d141_75 (by decide), sn_iload_n d141_78 rfl, sn_iret d141_79 rfl, trivial⟩
theorem sd141 : ∀ pc, eb_Snd L q0 141 pc (eb_lg 141) (eb_cd L 141 pc) := eb_AS_all (hk141 (L := L)) (eb_AS_app sc141_0 (sc141_1))
theorem sc142_0 : eb_AS L q0 142 (eb_lg 142) [(0, op_aload 0 1), (1, op_getR L 5 0 4), (4, op_getI L 4 2 7), (7, op_push (zi 1) 8), (8, op_ii (· + ·) 9), (9, op_istore 4 11), (11, op_iload 4 13), (13, op_iload 1 14), (14, op_push (zi 1) 15), (15, op_ii (· - ·) 16), (16, op_iload 3 17), (17, op_ii (· - ·) 18), (18, op_call 143 2 21), (21, op_istore 5 23), (23, op_iload 4 25), (25, op_push (zi 1) 26), (26, op_iclt 35 29), (29, op_iload 5 31), (31, op_push (zi 1) 32), (32, op_icge 39 35), (35, op_push (zi (-1)) 36), (36, op_goto 48), (39, op_iload 2 40), (40, op_iload 5 42), (42, op_iid (· / ·) 43), (43, op_iload 4 45), (45, op_iid (fun x y => x - x / y * y) 46), (46, op_push (zi 1) 47), (47, op_ii (· - ·) 48), (48, op_iret)] := ⟨sn_aload_n d142_0 rfl, sn_getR (by decide) fi_5_0.1 fi_5_0.2 wf_5_10 d142_1, sn_getI (by decide) fi_4_2.1 fi_4_2.2 wf_5_235 d142_4, sn_iconst d142_7 (by decide), sn_iadd d142_8, sn_istore (eb_hlg (Or.inl rfl)) hn142_4 d142_9, sn_iload d142_11, sn_iload_n d142_13 rfl, sn_iconst d142_14 (by decide), sn_isub d142_15, sn_iload_n d142_16 rfl, sn_isub d142_17, kS_143 wm_5_282 d142_18, sn_istore (eb_hlg (Or.inl rfl)) hn142_5 d142_21, sn_iload d142_23, sn_iconst d142_25 (by decide), sn_iclt d142_26 (by decide), sn_iload d142_29, sn_iconst d142_31 (by decide), sn_icge d142_32 (by decide), sn_iconst d142_35 (by decide), sn_goto d142_36 (by decide), sn_iload_n d142_39 rfl, sn_iload d142_40, sn_idiv d142_42, sn_iload d142_43, sn_irem d142_45, sn_iconst d142_46 (by decide), sn_isub d142_47, sn_iret d142_48 rfl, trivial⟩
theorem sd142 : ∀ pc, eb_Snd L q0 142 pc (eb_lg 142) (eb_cd L 142 pc) := eb_AS_all (hk142 (L := L)) (sc142_0)
theorem sc143_0 : eb_AS L q0 143 (eb_lg 143) [(0, op_push (zi 1) 1), (1, op_istore 2 2), (2, op_push (zi 0) 3), (3, op_istore 3 4), (4, op_iload 3 5), (5, op_iload 1 6), (6, op_icge 19 9), (9, op_iload 2 10), (10, op_iload 0 11), (11, op_ii (· * ·) 12), (12, op_istore 2 13), (13, op_iinc 3 1 16), (16, op_goto 4), (19, op_iload 2 20), (20, op_iret)] := ⟨sn_iconst d143_0 (by decide), sn_istore_n (eb_hlg (Or.inl rfl)) hn143_2 d143_1 rfl, sn_iconst d143_2 (by decide), sn_istore_n (eb_hlg (Or.inl rfl)) hn143_3 d143_3 rfl, sn_iload_n d143_4 rfl, sn_iload_n d143_5 rfl, sn_icge d143_6 (by decide), sn_iload_n d143_9 rfl, sn_iload_n d143_10 rfl, sn_imul d143_11, sn_istore_n (eb_hlg (Or.inl rfl)) hn143_2 d143_12 rfl, sn_iinc (eb_hlg (Or.inl rfl)) hn143_3 d143_13 (by decide), sn_goto d143_16 (by decide), sn_iload_n d143_19 rfl, sn_iret d143_20 rfl, trivial⟩
theorem sd143 : ∀ pc, eb_Snd L q0 143 pc (eb_lg 143) (eb_cd L 143 pc) := eb_AS_all (hk143 (L := L)) (sc143_0)
theorem sc145_0 : eb_AS L q0 145 (eb_lg 145) [(0, op_aload 0 1), (1, op_getR L 6 8 4), (4, op_iload 1 5), (5, op_i (fun x => -x) 6), (6, op_dup2 7), (7, op_iald L 8), (8, op_push (zi 1) 9), (9, op_ii (· + ·) 10), (10, op_iast L 11), (11, op_iload 1 12), (12, op_iret)] := ⟨sn_aload_n d145_0 rfl, sn_getR (by decide) fi_6_8.1 fi_6_8.2 wf_6_34 d145_1, sn_iload_n d145_4 rfl, sn_ineg d145_5, sn_dup2 d145_6, sn_iald d145_7, sn_iconst d145_8 (by decide), sn_iadd d145_9, sn_iast d145_10, sn_iload_n d145_11 rfl, sn_iret d145_12 rfl, trivial⟩
theorem sd145 : ∀ pc, eb_Snd L q0 145 pc (eb_lg 145) (eb_cd L 145 pc) := eb_AS_all (hk145 (L := L)) (sc145_0)
theorem sc146_0 : eb_AS L q0 146 (eb_lg 146) [(0, op_lload 0 1), (1, op_lload 2 2), (2, op_lcmp 3), (3, op_iflt 17 6), (6, op_lload 0 7), (7, op_lload 4 9), (9, op_lcmp 10), (10, op_ifgt 17 13), (13, op_push (zi 1) 14), (14, op_goto 18), (17, op_push (zi 0) 18), (18, op_zret)] := ⟨sn_lload_n d146_0 rfl, sn_lload_n d146_1 rfl, sn_lcmp d146_2, sn_iflt d146_3 (by decide), sn_lload_n d146_6 rfl, sn_lload d146_7, sn_lcmp d146_9, sn_ifgt d146_10 (by decide), sn_iconst d146_13 (by decide), sn_goto d146_14 (by decide), sn_iconst d146_17 (by decide), sn_zret d146_18 rfl, trivial⟩
theorem sd146 : ∀ pc, eb_Snd L q0 146 pc (eb_lg 146) (eb_cd L 146 pc) := eb_AS_all (hk146 (L := L)) (sc146_0)
theorem sc147_0 : eb_AS L q0 147 (eb_lg 147) [(0, op_iload 0 1), (1, op_ifge 8 4), (4, op_push (zi 0) 5), (5, op_goto 18), (8, op_iload 0 9), (9, op_iload 1 10), (10, op_icle 17 13), (13, op_iload 1 14), (14, op_goto 18), (17, op_iload 0 18), (18, op_iret)] := ⟨sn_iload_n d147_0 rfl, sn_ifge d147_1 (by decide), sn_iconst d147_4 (by decide), sn_goto d147_5 (by decide), sn_iload_n d147_8 rfl, sn_iload_n d147_9 rfl, sn_icle d147_10 (by decide), sn_iload_n d147_13 rfl, sn_goto d147_14 (by decide), sn_iload_n d147_17 rfl, sn_iret d147_18 rfl, trivial⟩
theorem sd147 : ∀ pc, eb_Snd L q0 147 pc (eb_lg 147) (eb_cd L 147 pc) := eb_AS_all (hk147 (L := L)) (sc147_0)
theorem sc148_0 : eb_AS L q0 148 (eb_lg 148) [(0, op_iload 1 1), (1, op_i2l 2), (2, op_push (zl 0) 3), (3, op_aload 0 4), (4, op_getI L 6 9 7), (7, op_push (zi 1) 8), (8, op_ii (· - ·) 9), (9, op_i2l 10), (10, op_call 146 3 13), (13, op_zret)] := ⟨sn_iload_n d148_0 rfl, sn_i2l d148_1, sn_lconst d148_2 (by decide), sn_aload_n d148_3 rfl, sn_getI (by decide) fi_6_9.1 fi_6_9.2 wf_6_73 d148_4, sn_iconst d148_7 (by decide), sn_isub d148_8, sn_i2l d148_9, kS_146 wm_6_76 d148_10, sn_zret d148_13 rfl, trivial⟩
theorem sd148 : ∀ pc, eb_Snd L q0 148 pc (eb_lg 148) (eb_cd L 148 pc) := eb_AS_all (hk148 (L := L)) (sc148_0)
theorem sc149_0 : eb_AS L q0 149 (eb_lg 149) [(0, op_iload 1 1), (1, op_i2l 2), (2, op_push (zl 0) 3), (3, op_aload 0 4), (4, op_getI L 6 11 7), (7, op_push (zi 1) 8), (8, op_ii (· - ·) 9), (9, op_i2l 10), (10, op_call 146 3 13), (13, op_zret)] := ⟨sn_iload_n d149_0 rfl, sn_i2l d149_1, sn_lconst d149_2 (by decide), sn_aload_n d149_3 rfl, sn_getI (by decide) fi_6_11.1 fi_6_11.2 wf_6_80 d149_4, sn_iconst d149_7 (by decide), sn_isub d149_8, sn_i2l d149_9, kS_146 wm_6_76 d149_10, sn_zret d149_13 rfl, trivial⟩
theorem sd149 : ∀ pc, eb_Snd L q0 149 pc (eb_lg 149) (eb_cd L 149 pc) := eb_AS_all (hk149 (L := L)) (sc149_0)
theorem sc150_0 : eb_AS L q0 150 (eb_lg 150) [(0, op_iload 0 1), (1, op_i2l 2), (2, op_push (zl 1) 3), (3, op_push (zl 12) 6), (6, op_call 146 3 9), (9, op_zret)] := ⟨sn_iload_n d150_0 rfl, sn_i2l d150_1, sn_lconst d150_2 (by decide), sn_ldc2 d150_3 wl_6_83, kS_146 wm_6_76 d150_6, sn_zret d150_9 rfl, trivial⟩
theorem sd150 : ∀ pc, eb_Snd L q0 150 pc (eb_lg 150) (eb_cd L 150 pc) := eb_AS_all (hk150 (L := L)) (sc150_0)
theorem sc151_0 : eb_AS L q0 151 (eb_lg 151) [(0, op_iload 1 1), (1, op_i2l 2), (2, op_push (zl 0) 3), (3, op_push (zl 7) 6), (6, op_call 146 3 9), (9, op_ifeq 36 12), (12, op_iload 2 13), (13, op_i2l 14), (14, op_push (zl 0) 15), (15, op_push (zl 4) 18), (18, op_call 146 3 21), (21, op_ifeq 36 24), (24, op_iload 3 25), (25, op_i2l 26), (26, op_push (zl 0) 27), (27, op_push (zl 40) 30), (30, op_call 146 3 33), (33, op_ifne 43 36), (36, op_aload 0 37), (37, op_push (zi (-2)) 39), (39, op_call 145 2 42), (42, op_iret), (43, op_aload 0 44), (44, op_getR L 6 0 47), (47, op_iload 1 48), (48, op_push (zi 1) 49), (49, op_iast L 50), (50, op_aload 0 51), (51, op_getR L 6 1 54), (54, op_iload 1 55), (55, op_iload 2 56), (56, op_iast L 57), (57, op_aload 0 58), (58, op_getR L 6 2 61), (61, op_iload 1 62), (62, op_iload 3 63), (63, op_iast L 64), (64, op_push (zi 0) 65), (65, op_istore 4 67), (67, op_iload 4 69)] := ⟨sn_iload_n d151_0 rfl, sn_i2l d151_1, sn_lconst d151_2 (by decide), sn_ldc2 d151_3 wl_6_85, kS_146 wm_6_76 d151_6, sn_ifeq d151_9 (by decide), sn_iload_n d151_12 rfl, sn_i2l d151_13, sn_lconst d151_14 (by decide), sn_ldc2 d151_15 wl_6_87, kS_146 wm_6_76 d151_18, sn_ifeq d151_21 (by decide), sn_iload_n d151_24 rfl, sn_i2l d151_25, sn_lconst d151_26 (by decide), sn_ldc2 d151_27 wl_6_89, kS_146 wm_6_76 d151_30, sn_ifne d151_33 (by decide), sn_aload_n d151_36 rfl, sn_bipush d151_37 (by decide), kV_145 wm_6_91 d151_39, sn_iret d151_42 rfl, sn_aload_n d151_43 rfl, sn_getR (by decide) fi_6_0.1 fi_6_0.2 wf_6_7 d151_44, sn_iload_n d151_47 rfl, sn_iconst d151_48 (by decide), sn_iast d151_49, sn_aload_n d151_50 rfl, sn_getR (by decide) fi_6_1.1 fi_6_1.2 wf_6_13 d151_51, sn_iload_n d151_54 rfl, sn_iload_n d151_55 rfl, sn_iast d151_56, sn_aload_n d151_57 rfl, sn_getR (by decide) fi_6_2.1 fi_6_2.2 wf_6_16 d151_58, sn_iload_n d151_61 rfl, sn_iload_n d151_62 rfl, sn_iast d151_63, sn_iconst d151_64 (by decide), sn_istore (eb_hlg (Or.inl rfl)) hn151_4 d151_65, sn_iload d151_67, trivial⟩
theorem sc151_1 : eb_AS L q0 151 (eb_lg 151) [(69, op_push (zi 40) 71), (71, op_icge 90 74), (74, op_aload 0 75), (75, op_getR L 6 3 78), (78, op_iload 1 79), (79, op_aald L 80), (80, op_iload 4 82), (82, op_push (zl 0) 83), (83, op_last L 84), (84, op_iinc 4 1 87), (87, op_goto 67), (90, op_push (zi 1) 91), (91, op_iret)] := ⟨sn_bipush d151_69 (by decide), sn_icge d151_71 (by decide), sn_aload_n d151_74 rfl, sn_getR (by decide) fi_6_3.1 fi_6_3.2 wf_6_21 d151_75, sn_iload_n d151_78 rfl, sn_aald d151_79, sn_iload d151_80, sn_lconst d151_82 (by decide), sn_last d151_83, sn_iinc (eb_hlg (Or.inl rfl)) hn151_4 d151_84 (by decide), sn_goto d151_87 (by decide), sn_iconst d151_90 (by decide), sn_iret d151_91 rfl, trivial⟩
theorem sd151 : ∀ pc, eb_Snd L q0 151 pc (eb_lg 151) (eb_cd L 151 pc) := eb_AS_all (hk151 (L := L)) (eb_AS_app sc151_0 (sc151_1))
theorem sc152_0 : eb_AS L q0 152 (eb_lg 152) [(0, op_iload 0 1), (1, op_sw [(0, 32), (1, 37), (2, 42), (3, 46)] 48), (32, op_lload 1 33), (33, op_l2i 34), (34, op_i (fun x => x.toInt8.toInt32) 35), (35, op_i2l 36), (36, op_lret), (37, op_lload 1 38), (38, op_l2i 39), (39, op_i (fun x => x.toInt16.toInt32) 40), (40, op_i2l 41), (41, op_lret), (42, op_lload 1 43), (43, op_l2i 44), (44, op_i2l 45), (45, op_lret), (46, op_lload 1 47), (47, op_lret), (48, op_lload 1 49), (49, op_push (zl 0) 50), (50, op_lcmp 51), (51, op_ifeq 58 54), (54, op_push (zl 1) 55), (55, op_goto 59), (58, op_push (zl 0) 59), (59, op_lret)] := ⟨sn_iload_n d152_0 rfl, sn_sw d152_1 (by decide) (by decide +kernel) (by decide), sn_lload_n d152_32 rfl, sn_l2i d152_33, sn_i2b d152_34, sn_i2l d152_35, sn_lret d152_36 rfl, sn_lload_n d152_37 rfl, sn_l2i d152_38, sn_i2s d152_39, sn_i2l d152_40, sn_lret d152_41 rfl, sn_lload_n d152_42 rfl, sn_l2i d152_43, sn_i2l d152_44, sn_lret d152_45 rfl, sn_lload_n d152_46 rfl, sn_lret d152_47 rfl, sn_lload_n d152_48 rfl, sn_lconst d152_49 (by decide), sn_lcmp d152_50, sn_ifeq d152_51 (by decide), sn_lconst d152_54 (by decide), sn_goto d152_55 (by decide), sn_lconst d152_58 (by decide), sn_lret d152_59 rfl, trivial⟩
theorem sd152 : ∀ pc, eb_Snd L q0 152 pc (eb_lg 152) (eb_cd L 152 pc) := eb_AS_all (hk152 (L := L)) (sc152_0)
theorem sc153_0 : eb_AS L q0 153 (eb_lg 153) [(0, op_iload 1 1), (1, op_i2l 2), (2, op_push (zl 0) 3), (3, op_push (zl 7) 6), (6, op_call 146 3 9), (9, op_ifne 19 12), (12, op_aload 0 13), (13, op_push (zi (-2)) 15), (15, op_call 145 2 18), (18, op_iret), (19, op_aload 0 20), (20, op_getR L 6 0 23), (23, op_iload 1 24), (24, op_iald L 25), (25, op_push (zi 2) 26), (26, op_icne 36 29), (29, op_aload 0 30), (30, op_push (zi (-3)) 32), (32, op_call 145 2 35), (35, op_iret), (36, op_aload 0 37), (37, op_getR L 6 0 40), (40, op_iload 1 41), (41, op_iald L 42), (42, op_ifne 54 45), (45, op_aload 0 46), (46, op_push (zi (-4)) 48), (48, op_call 145 2 51), (51, op_goto 55), (54, op_push (zi 0) 55), (55, op_iret)] := ⟨sn_iload_n d153_0 rfl, sn_i2l d153_1, sn_lconst d153_2 (by decide), sn_ldc2 d153_3 wl_6_85, kS_146 wm_6_76 d153_6, sn_ifne d153_9 (by decide), sn_aload_n d153_12 rfl, sn_bipush d153_13 (by decide), kV_145 wm_6_91 d153_15, sn_iret d153_18 rfl, sn_aload_n d153_19 rfl, sn_getR (by decide) fi_6_0.1 fi_6_0.2 wf_6_7 d153_20, sn_iload_n d153_23 rfl, sn_iald d153_24, sn_iconst d153_25 (by decide), sn_icne d153_26 (by decide), sn_aload_n d153_29 rfl, sn_bipush d153_30 (by decide), kV_145 wm_6_91 d153_32, sn_iret d153_35 rfl, sn_aload_n d153_36 rfl, sn_getR (by decide) fi_6_0.1 fi_6_0.2 wf_6_7 d153_37, sn_iload_n d153_40 rfl, sn_iald d153_41, sn_ifne d153_42 (by decide), sn_aload_n d153_45 rfl, sn_bipush d153_46 (by decide), kV_145 wm_6_91 d153_48, sn_goto d153_51 (by decide), sn_iconst d153_54 (by decide), sn_iret d153_55 rfl, trivial⟩
theorem sd153 : ∀ pc, eb_Snd L q0 153 pc (eb_lg 153) (eb_cd L 153 pc) := eb_AS_all (hk153 (L := L)) (sc153_0)
theorem sc154_0 : eb_AS L q0 154 (eb_lg 154) [(0, op_aload 0 1), (1, op_iload 1 2), (2, op_call 153 2 5), (5, op_istore 5 7), (7, op_iload 5 9), (9, op_ifeq 15 12), (12, op_iload 5 14), (14, op_iret), (15, op_iload 2 16), (16, op_i2l 17), (17, op_push (zl 0) 18), (18, op_aload 0 19), (19, op_getR L 6 2 22), (22, op_iload 1 23), (23, op_iald L 24), (24, op_push (zi 1) 25), (25, op_ii (· - ·) 26), (26, op_i2l 27), (27, op_call 146 3 30), (30, op_ifne 40 33), (33, op_aload 0 34), (34, op_push (zi (-2)) 36), (36, op_call 145 2 39), (39, op_iret), (40, op_aload 0 41), (41, op_getR L 6 3 44), (44, op_iload 1 45), (45, op_aald L 46), (46, op_iload 2 47), (47, op_aload 0 48), (48, op_getR L 6 1 51), (51, op_iload 1 52), (52, op_iald L 53), (53, op_lload 3 54), (54, op_call 152 2 57), (57, op_last L 58), (58, op_push (zi 1) 59), (59, op_iret)] := ⟨sn_aload_n d154_0 rfl, sn_iload_n d154_1 rfl, kV_153 wm_6_95 d154_2, sn_istore (eb_hlg (Or.inl rfl)) hn154_5 d154_5, sn_iload d154_7, sn_ifeq d154_9 (by decide), sn_iload d154_12, sn_iret d154_14 rfl, sn_iload_n d154_15 rfl, sn_i2l d154_16, sn_lconst d154_17 (by decide), sn_aload_n d154_18 rfl, sn_getR (by decide) fi_6_2.1 fi_6_2.2 wf_6_16 d154_19, sn_iload_n d154_22 rfl, sn_iald d154_23, sn_iconst d154_24 (by decide), sn_isub d154_25, sn_i2l d154_26, kS_146 wm_6_76 d154_27, sn_ifne d154_30 (by decide), sn_aload_n d154_33 rfl, sn_bipush d154_34 (by decide), kV_145 wm_6_91 d154_36, sn_iret d154_39 rfl, sn_aload_n d154_40 rfl, sn_getR (by decide) fi_6_3.1 fi_6_3.2 wf_6_21 d154_41, sn_iload_n d154_44 rfl, sn_aald d154_45, sn_iload_n d154_46 rfl, sn_aload_n d154_47 rfl, sn_getR (by decide) fi_6_1.1 fi_6_1.2 wf_6_13 d154_48, sn_iload_n d154_51 rfl, sn_iald d154_52, sn_lload_n d154_53 rfl, kS_152 wm_6_98 d154_54, sn_last d154_57, sn_iconst d154_58 (by decide), sn_iret d154_59 rfl, trivial⟩
theorem sd154 : ∀ pc, eb_Snd L q0 154 pc (eb_lg 154) (eb_cd L 154 pc) := eb_AS_all (hk154 (L := L)) (sc154_0)
theorem sc155_0 : eb_AS L q0 155 (eb_lg 155) [(0, op_iload 1 1), (1, op_i2l 2), (2, op_push (zl 0) 3), (3, op_push (zl 7) 6), (6, op_call 146 3 9), (9, op_ifeq 24 12), (12, op_iload 2 13), (13, op_i2l 14), (14, op_push (zl 0) 15), (15, op_push (zl 7) 18), (18, op_call 146 3 21), (21, op_ifne 31 24), (24, op_aload 0 25), (25, op_push (zi (-2)) 27), (27, op_call 145 2 30), (30, op_iret), (31, op_aload 0 32), (32, op_getR L 6 0 35), (35, op_iload 1 36), (36, op_iald L 37), (37, op_push (zi 2) 38), (38, op_iceq 86 41), (41, op_aload 0 42), (42, op_getR L 6 0 45), (45, op_iload 2 46), (46, op_iald L 47), (47, op_push (zi 2) 48), (48, op_iceq 86 51), (51, op_aload 0 52), (52, op_getR L 6 0 55), (55, op_iload 1 56), (56, op_iald L 57), (57, op_push (zi 1) 58), (58, op_icne 93 61), (61, op_aload 0 62), (62, op_getR L 6 0 65), (65, op_iload 2 66), (66, op_iald L 67), (67, op_push (zi 1) 68), (68, op_icne 93 71)] := ⟨sn_iload_n d155_0 rfl, sn_i2l d155_1, sn_lconst d155_2 (by decide), sn_ldc2 d155_3 wl_6_85, kS_146 wm_6_76 d155_6, sn_ifeq d155_9 (by decide), sn_iload_n d155_12 rfl, sn_i2l d155_13, sn_lconst d155_14 (by decide), sn_ldc2 d155_15 wl_6_85, kS_146 wm_6_76 d155_18, sn_ifne d155_21 (by decide), sn_aload_n d155_24 rfl, sn_bipush d155_25 (by decide), kV_145 wm_6_91 d155_27, sn_iret d155_30 rfl, sn_aload_n d155_31 rfl, sn_getR (by decide) fi_6_0.1 fi_6_0.2 wf_6_7 d155_32, sn_iload_n d155_35 rfl, sn_iald d155_36, sn_iconst d155_37 (by decide), sn_iceq d155_38 (by decide), sn_aload_n d155_41 rfl, sn_getR (by decide) fi_6_0.1 fi_6_0.2 wf_6_7 d155_42, sn_iload_n d155_45 rfl, sn_iald d155_46, sn_iconst d155_47 (by decide), sn_iceq d155_48 (by decide), sn_aload_n d155_51 rfl, sn_getR (by decide) fi_6_0.1 fi_6_0.2 wf_6_7 d155_52, sn_iload_n d155_55 rfl, sn_iald d155_56, sn_iconst d155_57 (by decide), sn_icne d155_58 (by decide), sn_aload_n d155_61 rfl, sn_getR (by decide) fi_6_0.1 fi_6_0.2 wf_6_7 d155_62, sn_iload_n d155_65 rfl, sn_iald d155_66, sn_iconst d155_67 (by decide), sn_icne d155_68 (by decide), trivial⟩
theorem sc155_1 : eb_AS L q0 155 (eb_lg 155) [(71, op_aload 0 72), (72, op_getR L 6 1 75), (75, op_iload 1 76), (76, op_iald L 77), (77, op_aload 0 78), (78, op_getR L 6 1 81), (81, op_iload 2 82), (82, op_iald L 83), (83, op_iceq 93 86), (86, op_aload 0 87), (87, op_push (zi (-3)) 89), (89, op_call 145 2 92), (92, op_iret), (93, op_aload 0 94), (94, op_getR L 6 0 97), (97, op_iload 1 98), (98, op_iald L 99), (99, op_ifeq 111 102), (102, op_aload 0 103), (103, op_getR L 6 0 106), (106, op_iload 2 107), (107, op_iald L 108), (108, op_ifne 118 111), (111, op_aload 0 112), (112, op_push (zi (-4)) 114), (114, op_call 145 2 117), (117, op_iret), (118, op_iload 5 120), (120, op_iflt 181 123), (123, op_iload 3 124), (124, op_iflt 181 127), (127, op_iload 4 129), (129, op_iflt 181 132), (132, op_iload 5 134), (134, op_aload 0 135), (135, op_getR L 6 2 138), (138, op_iload 1 139), (139, op_iald L 140), (140, op_icgt 181 143), (143, op_iload 5 145)] := ⟨sn_aload_n d155_71 rfl, sn_getR (by decide) fi_6_1.1 fi_6_1.2 wf_6_13 d155_72, sn_iload_n d155_75 rfl, sn_iald d155_76, sn_aload_n d155_77 rfl, sn_getR (by decide) fi_6_1.1 fi_6_1.2 wf_6_13 d155_78, sn_iload_n d155_81 rfl, sn_iald d155_82, sn_iceq d155_83 (by decide), sn_aload_n d155_86 rfl, sn_bipush d155_87 (by decide), kV_145 wm_6_91 d155_89, sn_iret d155_92 rfl, sn_aload_n d155_93 rfl, sn_getR (by decide) fi_6_0.1 fi_6_0.2 wf_6_7 d155_94, sn_iload_n d155_97 rfl, sn_iald d155_98, sn_ifeq d155_99 (by decide), sn_aload_n d155_102 rfl, sn_getR (by decide) fi_6_0.1 fi_6_0.2 wf_6_7 d155_103, sn_iload_n d155_106 rfl, sn_iald d155_107, sn_ifne d155_108 (by decide), sn_aload_n d155_111 rfl, sn_bipush d155_112 (by decide), kV_145 wm_6_91 d155_114, sn_iret d155_117 rfl, sn_iload d155_118, sn_iflt d155_120 (by decide), sn_iload_n d155_123 rfl, sn_iflt d155_124 (by decide), sn_iload d155_127, sn_iflt d155_129 (by decide), sn_iload d155_132, sn_aload_n d155_134 rfl, sn_getR (by decide) fi_6_2.1 fi_6_2.2 wf_6_16 d155_135, sn_iload_n d155_138 rfl, sn_iald d155_139, sn_icgt d155_140 (by decide), sn_iload d155_143, trivial⟩
theorem sc155_2 : eb_AS L q0 155 (eb_lg 155) [(145, op_aload 0 146), (146, op_getR L 6 2 149), (149, op_iload 2 150), (150, op_iald L 151), (151, op_icgt 181 154), (154, op_iload 3 155), (155, op_aload 0 156), (156, op_getR L 6 2 159), (159, op_iload 1 160), (160, op_iald L 161), (161, op_iload 5 163), (163, op_ii (· - ·) 164), (164, op_icgt 181 167), (167, op_iload 4 169), (169, op_aload 0 170), (170, op_getR L 6 2 173), (173, op_iload 2 174), (174, op_iald L 175), (175, op_iload 5 177), (177, op_ii (· - ·) 178), (178, op_icle 188 181), (181, op_aload 0 182), (182, op_push (zi (-2)) 184), (184, op_call 145 2 187), (187, op_iret), (188, op_push (zi 0) 189), (189, op_istore 6 191), (191, op_iload 6 193), (193, op_iload 5 195), (195, op_icge 222 198), (198, op_aload 0 199), (199, op_getR L 6 4 202), (202, op_iload 6 204), (204, op_aload 0 205), (205, op_getR L 6 3 208), (208, op_iload 1 209), (209, op_aald L 210), (210, op_iload 3 211), (211, op_iload 6 213), (213, op_ii (· + ·) 214)] := ⟨sn_aload_n d155_145 rfl, sn_getR (by decide) fi_6_2.1 fi_6_2.2 wf_6_16 d155_146, sn_iload_n d155_149 rfl, sn_iald d155_150, sn_icgt d155_151 (by decide), sn_iload_n d155_154 rfl, sn_aload_n d155_155 rfl, sn_getR (by decide) fi_6_2.1 fi_6_2.2 wf_6_16 d155_156, sn_iload_n d155_159 rfl, sn_iald d155_160, sn_iload d155_161, sn_isub d155_163, sn_icgt d155_164 (by decide), sn_iload d155_167, sn_aload_n d155_169 rfl, sn_getR (by decide) fi_6_2.1 fi_6_2.2 wf_6_16 d155_170, sn_iload_n d155_173 rfl, sn_iald d155_174, sn_iload d155_175, sn_isub d155_177, sn_icle d155_178 (by decide), sn_aload_n d155_181 rfl, sn_bipush d155_182 (by decide), kV_145 wm_6_91 d155_184, sn_iret d155_187 rfl, sn_iconst d155_188 (by decide), sn_istore (eb_hlg (Or.inl rfl)) hn155_6 d155_189, sn_iload d155_191, sn_iload d155_193, sn_icge d155_195 (by decide), sn_aload_n d155_198 rfl, sn_getR (by decide) fi_6_4.1 fi_6_4.2 wf_6_24 d155_199, sn_iload d155_202, sn_aload_n d155_204 rfl, sn_getR (by decide) fi_6_3.1 fi_6_3.2 wf_6_21 d155_205, sn_iload_n d155_208 rfl, sn_aald d155_209, sn_iload_n d155_210 rfl, sn_iload d155_211, sn_iadd d155_213, trivial⟩
theorem sc155_3 : eb_AS L q0 155 (eb_lg 155) [(214, op_lald L 215), (215, op_last L 216), (216, op_iinc 6 1 219), (219, op_goto 191), (222, op_push (zi 0) 223), (223, op_istore 6 225), (225, op_iload 6 227), (227, op_iload 5 229), (229, op_icge 257 232), (232, op_aload 0 233), (233, op_getR L 6 3 236), (236, op_iload 2 237), (237, op_aald L 238), (238, op_iload 4 240), (240, op_iload 6 242), (242, op_ii (· + ·) 243), (243, op_aload 0 244), (244, op_getR L 6 4 247), (247, op_iload 6 249), (249, op_lald L 250), (250, op_last L 251), (251, op_iinc 6 1 254), (254, op_goto 225), (257, op_iload 5 259), (259, op_iret)] := ⟨sn_lald d155_214, sn_last d155_215, sn_iinc (eb_hlg (Or.inl rfl)) hn155_6 d155_216 (by decide), sn_goto d155_219 (by decide), sn_iconst d155_222 (by decide), sn_istore (eb_hlg (Or.inl rfl)) hn155_6 d155_223, sn_iload d155_225, sn_iload d155_227, sn_icge d155_229 (by decide), sn_aload_n d155_232 rfl, sn_getR (by decide) fi_6_3.1 fi_6_3.2 wf_6_21 d155_233, sn_iload_n d155_236 rfl, sn_aald d155_237, sn_iload d155_238, sn_iload d155_240, sn_iadd d155_242, sn_aload_n d155_243 rfl, sn_getR (by decide) fi_6_4.1 fi_6_4.2 wf_6_24 d155_244, sn_iload d155_247, sn_lald d155_249, sn_last d155_250, sn_iinc (eb_hlg (Or.inl rfl)) hn155_6 d155_251 (by decide), sn_goto d155_254 (by decide), sn_iload d155_257, sn_iret d155_259 rfl, trivial⟩
theorem sd155 : ∀ pc, eb_Snd L q0 155 pc (eb_lg 155) (eb_cd L 155 pc) := eb_AS_all (hk155 (L := L)) (eb_AS_app sc155_0 (eb_AS_app sc155_1 (eb_AS_app sc155_2 (sc155_3))))
theorem sc156_0 : eb_AS L q0 156 (eb_lg 156) [(0, op_iload 1 1), (1, op_i2l 2), (2, op_push (zl 0) 3), (3, op_push (zl 7) 6), (6, op_call 146 3 9), (9, op_ifeq 51 12), (12, op_aload 0 13), (13, op_getR L 6 0 16), (16, op_iload 1 17), (17, op_iald L 18), (18, op_push (zi 1) 19), (19, op_icne 51 22), (22, op_iload 2 23), (23, op_i2l 24), (24, op_push (zl 0) 25), (25, op_aload 0 26), (26, op_getR L 6 2 29), (29, op_iload 1 30), (30, op_iald L 31), (31, op_push (zi 1) 32), (32, op_ii (· - ·) 33), (33, op_i2l 34), (34, op_call 146 3 37), (37, op_ifeq 51 40), (40, op_aload 0 41), (41, op_getR L 6 3 44), (44, op_iload 1 45), (45, op_aald L 46), (46, op_iload 2 47), (47, op_lald L 48), (48, op_goto 52), (51, op_push (zl 0) 52), (52, op_lret)] := ⟨sn_iload_n d156_0 rfl, sn_i2l d156_1, sn_lconst d156_2 (by decide), sn_ldc2 d156_3 wl_6_85, kS_146 wm_6_76 d156_6, sn_ifeq d156_9 (by decide), sn_aload_n d156_12 rfl, sn_getR (by decide) fi_6_0.1 fi_6_0.2 wf_6_7 d156_13, sn_iload_n d156_16 rfl, sn_iald d156_17, sn_iconst d156_18 (by decide), sn_icne d156_19 (by decide), sn_iload_n d156_22 rfl, sn_i2l d156_23, sn_lconst d156_24 (by decide), sn_aload_n d156_25 rfl, sn_getR (by decide) fi_6_2.1 fi_6_2.2 wf_6_16 d156_26, sn_iload_n d156_29 rfl, sn_iald d156_30, sn_iconst d156_31 (by decide), sn_isub d156_32, sn_i2l d156_33, kS_146 wm_6_76 d156_34, sn_ifeq d156_37 (by decide), sn_aload_n d156_40 rfl, sn_getR (by decide) fi_6_3.1 fi_6_3.2 wf_6_21 d156_41, sn_iload_n d156_44 rfl, sn_aald d156_45, sn_iload_n d156_46 rfl, sn_lald d156_47, sn_goto d156_48 (by decide), sn_lconst d156_51 (by decide), sn_lret d156_52 rfl, trivial⟩
theorem sd156 : ∀ pc, eb_Snd L q0 156 pc (eb_lg 156) (eb_cd L 156 pc) := eb_AS_all (hk156 (L := L)) (sc156_0)
theorem sc157_0 : eb_AS L q0 157 (eb_lg 157) [(0, op_iload 1 1), (1, op_i2l 2), (2, op_push (zl 0) 3), (3, op_push (zl 7) 6), (6, op_call 146 3 9), (9, op_ifeq 21 12), (12, op_aload 0 13), (13, op_getR L 6 0 16), (16, op_iload 1 17), (17, op_iald L 18), (18, op_ifne 23 21), (21, op_push (zi (-1)) 22), (22, op_iret), (23, op_aload 0 24), (24, op_getR L 6 0 27), (27, op_iload 1 28), (28, op_iald L 29), (29, op_push (zi 1) 30), (30, op_icne 42 33), (33, op_aload 0 34), (34, op_getR L 6 1 37), (37, op_iload 1 38), (38, op_iald L 39), (39, op_goto 51), (42, op_push (zi 10) 44), (44, op_aload 0 45), (45, op_getR L 6 5 48), (48, op_iload 1 49), (49, op_iald L 50), (50, op_ii (· + ·) 51), (51, op_iret)] := ⟨sn_iload_n d157_0 rfl, sn_i2l d157_1, sn_lconst d157_2 (by decide), sn_ldc2 d157_3 wl_6_85, kS_146 wm_6_76 d157_6, sn_ifeq d157_9 (by decide), sn_aload_n d157_12 rfl, sn_getR (by decide) fi_6_0.1 fi_6_0.2 wf_6_7 d157_13, sn_iload_n d157_16 rfl, sn_iald d157_17, sn_ifne d157_18 (by decide), sn_iconst d157_21 (by decide), sn_iret d157_22 rfl, sn_aload_n d157_23 rfl, sn_getR (by decide) fi_6_0.1 fi_6_0.2 wf_6_7 d157_24, sn_iload_n d157_27 rfl, sn_iald d157_28, sn_iconst d157_29 (by decide), sn_icne d157_30 (by decide), sn_aload_n d157_33 rfl, sn_getR (by decide) fi_6_1.1 fi_6_1.2 wf_6_13 d157_34, sn_iload_n d157_37 rfl, sn_iald d157_38, sn_goto d157_39 (by decide), sn_bipush d157_42 (by decide), sn_aload_n d157_44 rfl, sn_getR (by decide) fi_6_5.1 fi_6_5.2 wf_6_28 d157_45, sn_iload_n d157_48 rfl, sn_iald d157_49, sn_iadd d157_50, sn_iret d157_51 rfl, trivial⟩
theorem sd157 : ∀ pc, eb_Snd L q0 157 pc (eb_lg 157) (eb_cd L 157 pc) := eb_AS_all (hk157 (L := L)) (sc157_0)
theorem sc158_0 : eb_AS L q0 158 (eb_lg 158) [(0, op_iload 1 1), (1, op_i2l 2), (2, op_push (zl 0) 3), (3, op_push (zl 7) 6), (6, op_call 146 3 9), (9, op_ifeq 25 12), (12, op_iload 2 13), (13, op_push (zi (-1)) 14), (14, op_iceq 32 17), (17, op_aload 0 18), (18, op_iload 2 19), (19, op_call 149 2 22), (22, op_ifne 32 25), (25, op_aload 0 26), (26, op_push (zi (-2)) 28), (28, op_call 145 2 31), (31, op_iret), (32, op_aload 0 33), (33, op_getR L 6 0 36), (36, op_iload 1 37), (37, op_iload 2 38), (38, op_push (zi (-1)) 39), (39, op_icne 46 42), (42, op_push (zi 0) 43), (43, op_goto 47), (46, op_push (zi 2) 47), (47, op_iast L 48), (48, op_aload 0 49), (49, op_getR L 6 5 52), (52, op_iload 1 53), (53, op_iload 2 54), (54, op_iast L 55), (55, op_push (zi 1) 56), (56, op_iret)] := ⟨sn_iload_n d158_0 rfl, sn_i2l d158_1, sn_lconst d158_2 (by decide), sn_ldc2 d158_3 wl_6_85, kS_146 wm_6_76 d158_6, sn_ifeq d158_9 (by decide), sn_iload_n d158_12 rfl, sn_iconst d158_13 (by decide), sn_iceq d158_14 (by decide), sn_aload_n d158_17 rfl, sn_iload_n d158_18 rfl, kV_149 wm_6_102 d158_19, sn_ifne d158_22 (by decide), sn_aload_n d158_25 rfl, sn_bipush d158_26 (by decide), kV_145 wm_6_91 d158_28, sn_iret d158_31 rfl, sn_aload_n d158_32 rfl, sn_getR (by decide) fi_6_0.1 fi_6_0.2 wf_6_7 d158_33, sn_iload_n d158_36 rfl, sn_iload_n d158_37 rfl, sn_iconst d158_38 (by decide), sn_icne d158_39 (by decide), sn_iconst d158_42 (by decide), sn_goto d158_43 (by decide), sn_iconst d158_46 (by decide), sn_iast d158_47, sn_aload_n d158_48 rfl, sn_getR (by decide) fi_6_5.1 fi_6_5.2 wf_6_28 d158_49, sn_iload_n d158_52 rfl, sn_iload_n d158_53 rfl, sn_iast d158_54, sn_iconst d158_55 (by decide), sn_iret d158_56 rfl, trivial⟩
theorem sd158 : ∀ pc, eb_Snd L q0 158 pc (eb_lg 158) (eb_cd L 158 pc) := eb_AS_all (hk158 (L := L)) (sc158_0)
theorem sc159_0 : eb_AS L q0 159 (eb_lg 159) [(0, op_iload 1 1), (1, op_ifeq 23 4), (4, op_iload 0 5), (5, op_iload 1 6), (6, op_iceq 23 9), (9, op_iload 1 10), (10, op_push (zi 1) 11), (11, op_icne 27 14), (14, op_iload 0 15), (15, op_ifeq 27 18), (18, op_iload 0 19), (19, op_push (zi 3) 20), (20, op_iceq 27 23), (23, op_push (zi 1) 24), (24, op_goto 28), (27, op_push (zi 0) 28), (28, op_zret)] := ⟨sn_iload_n d159_0 rfl, sn_ifeq d159_1 (by decide), sn_iload_n d159_4 rfl, sn_iload_n d159_5 rfl, sn_iceq d159_6 (by decide), sn_iload_n d159_9 rfl, sn_iconst d159_10 (by decide), sn_icne d159_11 (by decide), sn_iload_n d159_14 rfl, sn_ifeq d159_15 (by decide), sn_iload_n d159_18 rfl, sn_iconst d159_19 (by decide), sn_iceq d159_20 (by decide), sn_iconst d159_23 (by decide), sn_goto d159_24 (by decide), sn_iconst d159_27 (by decide), sn_zret d159_28 rfl, trivial⟩
theorem sd159 : ∀ pc, eb_Snd L q0 159 pc (eb_lg 159) (eb_cd L 159 pc) := eb_AS_all (hk159 (L := L)) (sc159_0)
theorem sc160_0 : eb_AS L q0 160 (eb_lg 160) [(0, op_iload 1 1), (1, op_i2l 2), (2, op_push (zl 0) 3), (3, op_push (zl 7) 6), (6, op_call 146 3 9), (9, op_ifeq 24 12), (12, op_iload 2 13), (13, op_i2l 14), (14, op_push (zl 0) 15), (15, op_push (zl 5) 18), (18, op_call 146 3 21), (21, op_ifne 31 24), (24, op_aload 0 25), (25, op_push (zi (-2)) 27), (27, op_call 145 2 30), (30, op_iret), (31, op_aload 0 32), (32, op_getR L 6 0 35), (35, op_iload 1 36), (36, op_iald L 37), (37, op_push (zi 1) 38), (38, op_iceq 71 41), (41, op_aload 0 42), (42, op_getR L 6 0 45), (45, op_iload 1 46), (46, op_iald L 47), (47, op_push (zi 2) 48), (48, op_icne 78 51), (51, op_aload 0 52), (52, op_getR L 6 12 55), (55, op_aload 0 56), (56, op_getR L 6 5 59), (59, op_iload 1 60), (60, op_iald L 61), (61, op_aald L 62), (62, op_push (zi 0) 63), (63, op_iald L 64), (64, op_iload 2 65), (65, op_call 159 2 68), (68, op_ifne 78 71)] := ⟨sn_iload_n d160_0 rfl, sn_i2l d160_1, sn_lconst d160_2 (by decide), sn_ldc2 d160_3 wl_6_85, kS_146 wm_6_76 d160_6, sn_ifeq d160_9 (by decide), sn_iload_n d160_12 rfl, sn_i2l d160_13, sn_lconst d160_14 (by decide), sn_ldc2 d160_15 wl_6_106, kS_146 wm_6_76 d160_18, sn_ifne d160_21 (by decide), sn_aload_n d160_24 rfl, sn_bipush d160_25 (by decide), kV_145 wm_6_91 d160_27, sn_iret d160_30 rfl, sn_aload_n d160_31 rfl, sn_getR (by decide) fi_6_0.1 fi_6_0.2 wf_6_7 d160_32, sn_iload_n d160_35 rfl, sn_iald d160_36, sn_iconst d160_37 (by decide), sn_iceq d160_38 (by decide), sn_aload_n d160_41 rfl, sn_getR (by decide) fi_6_0.1 fi_6_0.2 wf_6_7 d160_42, sn_iload_n d160_45 rfl, sn_iald d160_46, sn_iconst d160_47 (by decide), sn_icne d160_48 (by decide), sn_aload_n d160_51 rfl, sn_getR (by decide) fi_6_12.1 fi_6_12.2 wf_6_42 d160_52, sn_aload_n d160_55 rfl, sn_getR (by decide) fi_6_5.1 fi_6_5.2 wf_6_28 d160_56, sn_iload_n d160_59 rfl, sn_iald d160_60, sn_aald d160_61, sn_iconst d160_62 (by decide), sn_iald d160_63, sn_iload_n d160_64 rfl, kS_159 wm_6_108 d160_65, sn_ifne d160_68 (by decide), trivial⟩
theorem sc160_1 : eb_AS L q0 160 (eb_lg 160) [(71, op_aload 0 72), (72, op_push (zi (-3)) 74), (74, op_call 145 2 77), (77, op_iret), (78, op_aload 0 79), (79, op_getR L 6 0 82), (82, op_iload 1 83), (83, op_iald L 84), (84, op_ifne 94 87), (87, op_aload 0 88), (88, op_push (zi (-4)) 90), (90, op_call 145 2 93), (93, op_iret), (94, op_iload 2 95), (95, op_ifne 114 98), (98, op_aload 0 99), (99, op_getR L 6 12 102), (102, op_aload 0 103), (103, op_getR L 6 5 106), (106, op_iload 1 107), (107, op_iald L 108), (108, op_aald L 109), (109, op_push (zi 1) 110), (110, op_iald L 111), (111, op_goto 124), (114, op_aload 0 115), (115, op_aload 0 116), (116, op_getR L 6 5 119), (119, op_iload 1 120), (120, op_iald L 121), (121, op_call 194 2 124), (124, op_iret)] := ⟨sn_aload_n d160_71 rfl, sn_bipush d160_72 (by decide), kV_145 wm_6_91 d160_74, sn_iret d160_77 rfl, sn_aload_n d160_78 rfl, sn_getR (by decide) fi_6_0.1 fi_6_0.2 wf_6_7 d160_79, sn_iload_n d160_82 rfl, sn_iald d160_83, sn_ifne d160_84 (by decide), sn_aload_n d160_87 rfl, sn_bipush d160_88 (by decide), kV_145 wm_6_91 d160_90, sn_iret d160_93 rfl, sn_iload_n d160_94 rfl, sn_ifne d160_95 (by decide), sn_aload_n d160_98 rfl, sn_getR (by decide) fi_6_12.1 fi_6_12.2 wf_6_42 d160_99, sn_aload_n d160_102 rfl, sn_getR (by decide) fi_6_5.1 fi_6_5.2 wf_6_28 d160_103, sn_iload_n d160_106 rfl, sn_iald d160_107, sn_aald d160_108, sn_iconst d160_109 (by decide), sn_iald d160_110, sn_goto d160_111 (by decide), sn_aload_n d160_114 rfl, sn_aload_n d160_115 rfl, sn_getR (by decide) fi_6_5.1 fi_6_5.2 wf_6_28 d160_116, sn_iload_n d160_119 rfl, sn_iald d160_120, kV_194 wm_6_112 d160_121, sn_iret d160_124 rfl, trivial⟩
theorem sd160 : ∀ pc, eb_Snd L q0 160 pc (eb_lg 160) (eb_cd L 160 pc) := eb_AS_all (hk160 (L := L)) (eb_AS_app sc160_0 (sc160_1))
theorem sc161_0 : eb_AS L q0 161 (eb_lg 161) [(0, op_aload 0 1), (1, op_getR L 6 10 4), (4, op_aload 0 5), (5, op_dup 6), (6, op_getI L 6 9 9), (9, op_dup_x1 10), (10, op_push (zi 1) 11), (11, op_ii (· + ·) 12), (12, op_putI L 6 9 15), (15, op_aald L 16), (16, op_astore 5 18), (18, op_aload 5 20), (20, op_push (zi 0) 21), (21, op_iload 1 22), (22, op_iast L 23), (23, op_aload 5 25), (25, op_push (zi 1) 26), (26, op_iload 1 27), (27, op_iast L 28), (28, op_aload 5 30), (30, op_push (zi 2) 31), (31, op_iload 2 32), (32, op_iast L 33), (33, op_aload 5 35), (35, op_push (zi 3) 36), (36, op_iload 3 37), (37, op_iast L 38), (38, op_aload 5 40), (40, op_push (zi 4) 41), (41, op_iload 4 43), (43, op_iast L 44), (44, op_aload 5 46), (46, op_push (zi 5) 47), (47, op_push (zi 0) 48), (48, op_iast L 49), (49, op_aload 5 51), (51, op_push (zi 6) 53), (53, op_push (zi 0) 54), (54, op_iast L 55), (55, op_vret)] := ⟨sn_aload_n d161_0 rfl, sn_getR (by decide) fi_6_10.1 fi_6_10.2 wf_6_39 d161_1, sn_aload_n d161_4 rfl, sn_dup d161_5, sn_getI (by decide) fi_6_9.1 fi_6_9.2 wf_6_73 d161_6, sn_dup_x1 d161_9, sn_iconst d161_10 (by decide), sn_iadd d161_11, sn_putI (by decide) fi_6_9.1 fi_6_9.2 wf_6_73 (Or.inl rfl) fp_6_9 d161_12, sn_aald d161_15, sn_astore (eb_hlg (Or.inl rfl)) hn161_5 d161_16, sn_aload d161_18, sn_iconst d161_20 (by decide), sn_iload_n d161_21 rfl, sn_iast d161_22, sn_aload d161_23, sn_iconst d161_25 (by decide), sn_iload_n d161_26 rfl, sn_iast d161_27, sn_aload d161_28, sn_iconst d161_30 (by decide), sn_iload_n d161_31 rfl, sn_iast d161_32, sn_aload d161_33, sn_iconst d161_35 (by decide), sn_iload_n d161_36 rfl, sn_iast d161_37, sn_aload d161_38, sn_iconst d161_40 (by decide), sn_iload d161_41, sn_iast d161_43, sn_aload d161_44, sn_iconst d161_46 (by decide), sn_iconst d161_47 (by decide), sn_iast d161_48, sn_aload d161_49, sn_bipush d161_51 (by decide), sn_iconst d161_53 (by decide), sn_iast d161_54, sn_vret d161_55 rfl, trivial⟩
theorem sd161 : ∀ pc, eb_Snd L q0 161 pc (eb_lg 161) (eb_cd L 161 pc) := eb_AS_all (hk161 (L := L)) (sc161_0)
end

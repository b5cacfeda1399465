/-! every row of these methods is sound: by program -/
set_option maxRecDepth 100000
theorem d233_0 : decode (eb_b 233) 0 = .ok (.iload_n 1, 1) := by decide +kernel
theorem d233_1 : decode (eb_b 233) 1 = .ok (.i2l, 1) := by decide +kernel
theorem d233_2 : decode (eb_b 233) 2 = .ok (.lconst 1, 1) := by decide +kernel
theorem d233_3 : decode (eb_b 233) 3 = .ok (.ldc2_w 314, 3) := by decide +kernel
theorem wl_6_314 : Cond.constantLong (eb_cN 6) 314 3 ∈ eb_LT := eb_lt 1441 (by decide +kernel)
theorem d233_6 : decode (eb_b 233) 6 = .ok (.invokestatic 76, 3) := by decide +kernel
theorem d233_9 : decode (eb_b 233) 9 = .ok (.ifCond .eq 18, 3) := by decide +kernel
theorem d233_12 : decode (eb_b 233) 12 = .ok (.iload_n 2, 1) := by decide +kernel
theorem d233_13 : decode (eb_b 233) 13 = .ok (.i2l, 1) := by decide +kernel
theorem d233_14 : decode (eb_b 233) 14 = .ok (.ldc2_w 130, 3) := by decide +kernel
theorem d233_17 : decode (eb_b 233) 17 = .ok (.iload_n 1, 1) := by decide +kernel
theorem d233_18 : decode (eb_b 233) 18 = .ok (.iconst 1, 1) := by decide +kernel
theorem d233_19 : decode (eb_b 233) 19 = .ok (.isub, 1) := by decide +kernel
theorem d233_20 : decode (eb_b 233) 20 = .ok (.i2l, 1) := by decide +kernel
theorem d233_21 : decode (eb_b 233) 21 = .ok (.invokestatic 76, 3) := by decide +kernel
theorem d233_24 : decode (eb_b 233) 24 = .ok (.ifCond .ne 13, 3) := by decide +kernel
theorem d233_27 : decode (eb_b 233) 27 = .ok (.ldc 252, 2) := by decide +kernel
theorem d233_29 : decode (eb_b 233) 29 = .ok (.aload_n 0, 1) := by decide +kernel
theorem d233_30 : decode (eb_b 233) 30 = .ok (.bipush (-2), 2) := by decide +kernel
theorem d233_32 : decode (eb_b 233) 32 = .ok (.invokevirtual 91, 3) := by decide +kernel
theorem d233_35 : decode (eb_b 233) 35 = .ok (.iadd, 1) := by decide +kernel
theorem d233_36 : decode (eb_b 233) 36 = .ok (.ireturn, 1) := by decide +kernel
theorem d233_37 : decode (eb_b 233) 37 = .ok (.aload_n 0, 1) := by decide +kernel
theorem d233_38 : decode (eb_b 233) 38 = .ok (.iload_n 1, 1) := by decide +kernel
theorem d233_39 : decode (eb_b 233) 39 = .ok (.invokevirtual 316, 3) := by decide +kernel
theorem wc_232 : Cond.code (eb_y 232) (eb_b 232) (eb_ml 232) (eb_rt 232) ∈ eb_LT := eb_lt 1445 (by decide +kernel)
theorem cy_232 : (eb_y 232).cls = eb_cN (eb_rc 232) ∧ (eb_y 232).cls ≠ "java/lang/invoke/MethodHandle" ∧ (eb_y 232).cls ≠ "java/lang/invoke/VarHandle" ∧ (parseMethodDescriptor (eb_y 232).desc).map (fun d => d.parameters.length) = some 1 := by decide +kernel
theorem wi_232 : Cond.instanceMethod (eb_y 232) ∈ eb_LT := eb_lt 1444 (by decide +kernel)
theorem wse_232 : Cond.selects (eb_cN (eb_rc 232)) (eb_y 232) (eb_y 232) ∈ eb_LT := eb_lt 73 (by decide +kernel)
theorem kV_232 {L q0 m pc : Nat} {lg : Nat → Bool} {ix : Nat} (hw : Cond.methodLink (eb_own m) ix (eb_y 232) ∈ eb_LT) (hd : decode (eb_b m) pc = .ok (.invokevirtual ix, 3)) : eb_Snd L q0 m pc lg (op_callv 232 2 (pc + 3)) := sn_callV true rfl (Or.inl ⟨rfl, rfl⟩) (by decide) rfl (by decide) ⟨⟨hw, wi_232, wse_232⟩, wc_232⟩ cy_232 hd
theorem wm_6_316 : Cond.methodLink (eb_cN 6) 316 (eb_y 232) ∈ eb_LT := eb_lt 1442 (by decide +kernel)
theorem d233_42 : decode (eb_b 233) 42 = .ok (.iload_n 2, 1) := by decide +kernel
theorem d233_43 : decode (eb_b 233) 43 = .ok (.iconst (-1), 1) := by decide +kernel
theorem d233_44 : decode (eb_b 233) 44 = .ok (.if_icmp .ne 10, 3) := by decide +kernel
theorem d233_47 : decode (eb_b 233) 47 = .ok (.aload_n 0, 1) := by decide +kernel
theorem d233_48 : decode (eb_b 233) 48 = .ok (.getfield 308, 3) := by decide +kernel
theorem d233_51 : decode (eb_b 233) 51 = .ok (.goto 9, 3) := by decide +kernel
theorem d233_54 : decode (eb_b 233) 54 = .ok (.aload_n 0, 1) := by decide +kernel
theorem d233_55 : decode (eb_b 233) 55 = .ok (.getfield 70, 3) := by decide +kernel
theorem d233_58 : decode (eb_b 233) 58 = .ok (.iload_n 2, 1) := by decide +kernel
theorem d233_59 : decode (eb_b 233) 59 = .ok (.iaload, 1) := by decide +kernel
theorem d233_60 : decode (eb_b 233) 60 = .ok (.ireturn, 1) := by decide +kernel
theorem d234_0 : decode (eb_b 234) 0 = .ok (.iconst 0, 1) := by decide +kernel
theorem d234_1 : decode (eb_b 234) 1 = .ok (.istore_n 2, 1) := by decide +kernel
theorem hn234_2 : 2 < eb_ml 234 := by decide
theorem d234_2 : decode (eb_b 234) 2 = .ok (.iconst 0, 1) := by decide +kernel
theorem d234_3 : decode (eb_b 234) 3 = .ok (.istore_n 3, 1) := by decide +kernel
theorem hn234_3 : 3 < eb_ml 234 := by decide
theorem d234_4 : decode (eb_b 234) 4 = .ok (.iload_n 3, 1) := by decide +kernel
theorem d234_5 : decode (eb_b 234) 5 = .ok (.iload_n 1, 1) := by decide +kernel
theorem d234_6 : decode (eb_b 234) 6 = .ok (.if_icmp .ge 58, 3) := by decide +kernel
theorem d234_9 : decode (eb_b 234) 9 = .ok (.aload_n 0, 1) := by decide +kernel
theorem d234_10 : decode (eb_b 234) 10 = .ok (.invokevirtual 296, 3) := by decide +kernel
theorem d234_13 : decode (eb_b 234) 13 = .ok (.iconst 0, 1) := by decide +kernel
theorem d234_14 : decode (eb_b 234) 14 = .ok (.istore 4, 2) := by decide +kernel
theorem hn234_4 : 4 < eb_ml 234 := by decide
theorem d234_16 : decode (eb_b 234) 16 = .ok (.iload 4, 2) := by decide +kernel
theorem d234_18 : decode (eb_b 234) 18 = .ok (.aload_n 0, 1) := by decide +kernel
theorem d234_19 : decode (eb_b 234) 19 = .ok (.getfield 80, 3) := by decide +kernel
theorem d234_22 : decode (eb_b 234) 22 = .ok (.if_icmp .ge 36, 3) := by decide +kernel
theorem d234_25 : decode (eb_b 234) 25 = .ok (.iload_n 2, 1) := by decide +kernel
theorem d234_26 : decode (eb_b 234) 26 = .ok (.aload_n 0, 1) := by decide +kernel
theorem d234_27 : decode (eb_b 234) 27 = .ok (.getfield 42, 3) := by decide +kernel
theorem d234_30 : decode (eb_b 234) 30 = .ok (.iload 4, 2) := by decide +kernel
theorem d234_32 : decode (eb_b 234) 32 = .ok (.aaload, 1) := by decide +kernel
theorem d234_33 : decode (eb_b 234) 33 = .ok (.iconst 0, 1) := by decide +kernel
theorem d234_34 : decode (eb_b 234) 34 = .ok (.iaload, 1) := by decide +kernel
theorem d234_35 : decode (eb_b 234) 35 = .ok (.iconst 3, 1) := by decide +kernel
theorem d234_36 : decode (eb_b 234) 36 = .ok (.if_icmp .ne 13, 3) := by decide +kernel
theorem d234_39 : decode (eb_b 234) 39 = .ok (.aload_n 0, 1) := by decide +kernel
theorem d234_40 : decode (eb_b 234) 40 = .ok (.getfield 64, 3) := by decide +kernel
theorem d234_43 : decode (eb_b 234) 43 = .ok (.iload 4, 2) := by decide +kernel
theorem d234_45 : decode (eb_b 234) 45 = .ok (.iaload, 1) := by decide +kernel
theorem d234_46 : decode (eb_b 234) 46 = .ok (.goto 4, 3) := by decide +kernel
theorem d234_49 : decode (eb_b 234) 49 = .ok (.iconst 0, 1) := by decide +kernel
theorem d234_50 : decode (eb_b 234) 50 = .ok (.iadd, 1) := by decide +kernel
theorem d234_51 : decode (eb_b 234) 51 = .ok (.istore_n 2, 1) := by decide +kernel
theorem d234_52 : decode (eb_b 234) 52 = .ok (.iinc 4 1, 3) := by decide +kernel
theorem d234_55 : decode (eb_b 234) 55 = .ok (.goto (-39), 3) := by decide +kernel
theorem d234_58 : decode (eb_b 234) 58 = .ok (.iinc 3 1, 3) := by decide +kernel
theorem d234_61 : decode (eb_b 234) 61 = .ok (.goto (-57), 3) := by decide +kernel
theorem d234_64 : decode (eb_b 234) 64 = .ok (.iload_n 2, 1) := by decide +kernel
theorem d234_65 : decode (eb_b 234) 65 = .ok (.ireturn, 1) := by decide +kernel
theorem d235_0 : decode (eb_b 235) 0 = .ok (.iload_n 1, 1) := by decide +kernel
theorem d235_1 : decode (eb_b 235) 1 = .ok (.invokestatic 299, 3) := by decide +kernel
theorem d235_4 : decode (eb_b 235) 4 = .ok (.ifCond .eq 11, 3) := by decide +kernel
theorem d235_7 : decode (eb_b 235) 7 = .ok (.aload_n 0, 1) := by decide +kernel
theorem d235_8 : decode (eb_b 235) 8 = .ok (.iload_n 2, 1) := by decide +kernel
theorem d235_9 : decode (eb_b 235) 9 = .ok (.invokevirtual 127, 3) := by decide +kernel
theorem d235_12 : decode (eb_b 235) 12 = .ok (.ifCond .ne 13, 3) := by decide +kernel
theorem d235_15 : decode (eb_b 235) 15 = .ok (.ldc 252, 2) := by decide +kernel
theorem d235_17 : decode (eb_b 235) 17 = .ok (.aload_n 0, 1) := by decide +kernel
theorem d235_18 : decode (eb_b 235) 18 = .ok (.bipush (-2), 2) := by decide +kernel
theorem d235_20 : decode (eb_b 235) 20 = .ok (.invokevirtual 91, 3) := by decide +kernel
theorem d235_23 : decode (eb_b 235) 23 = .ok (.iadd, 1) := by decide +kernel
theorem d235_24 : decode (eb_b 235) 24 = .ok (.ireturn, 1) := by decide +kernel
theorem d235_25 : decode (eb_b 235) 25 = .ok (.aload_n 0, 1) := by decide +kernel
theorem d235_26 : decode (eb_b 235) 26 = .ok (.getfield 39, 3) := by decide +kernel
theorem d235_29 : decode (eb_b 235) 29 = .ok (.iload_n 2, 1) := by decide +kernel
theorem d235_30 : decode (eb_b 235) 30 = .ok (.aaload, 1) := by decide +kernel
theorem d235_31 : decode (eb_b 235) 31 = .ok (.iconst 4, 1) := by decide +kernel
theorem d235_32 : decode (eb_b 235) 32 = .ok (.iaload, 1) := by decide +kernel
theorem d235_33 : decode (eb_b 235) 33 = .ok (.iconst (-1), 1) := by decide +kernel
theorem d235_34 : decode (eb_b 235) 34 = .ok (.if_icmp .ne 13, 3) := by decide +kernel
theorem d235_37 : decode (eb_b 235) 37 = .ok (.ldc 252, 2) := by decide +kernel
theorem d235_39 : decode (eb_b 235) 39 = .ok (.aload_n 0, 1) := by decide +kernel
theorem d235_40 : decode (eb_b 235) 40 = .ok (.bipush (-5), 2) := by decide +kernel
theorem d235_42 : decode (eb_b 235) 42 = .ok (.invokevirtual 91, 3) := by decide +kernel
theorem d235_45 : decode (eb_b 235) 45 = .ok (.iadd, 1) := by decide +kernel
theorem d235_46 : decode (eb_b 235) 46 = .ok (.ireturn, 1) := by decide +kernel
theorem d235_47 : decode (eb_b 235) 47 = .ok (.aload_n 0, 1) := by decide +kernel
theorem d235_48 : decode (eb_b 235) 48 = .ok (.invokevirtual 227, 3) := by decide +kernel
theorem d235_51 : decode (eb_b 235) 51 = .ok (.iload_n 1, 1) := by decide +kernel
theorem d235_52 : decode (eb_b 235) 52 = .ok (.invokevirtual 319, 3) := by decide +kernel
theorem wc_234 : Cond.code (eb_y 234) (eb_b 234) (eb_ml 234) (eb_rt 234) ∈ eb_LT := eb_lt 1453 (by decide +kernel)
theorem cy_234 : (eb_y 234).cls = eb_cN (eb_rc 234) ∧ (eb_y 234).cls ≠ "java/lang/invoke/MethodHandle" ∧ (eb_y 234).cls ≠ "java/lang/invoke/VarHandle" ∧ (parseMethodDescriptor (eb_y 234).desc).map (fun d => d.parameters.length) = some 1 := by decide +kernel
theorem wi_234 : Cond.instanceMethod (eb_y 234) ∈ eb_LT := eb_lt 1452 (by decide +kernel)
theorem wse_234 : Cond.selects (eb_cN (eb_rc 234)) (eb_y 234) (eb_y 234) ∈ eb_LT := eb_lt 74 (by decide +kernel)
theorem kV_234 {L q0 m pc : Nat} {lg : Nat → Bool} {ix : Nat} (hw : Cond.methodLink (eb_own m) ix (eb_y 234) ∈ eb_LT) (hd : decode (eb_b m) pc = .ok (.invokevirtual ix, 3)) : eb_Snd L q0 m pc lg (op_call 234 2 (pc + 3)) := sn_callV false rfl (Or.inr ⟨rfl, _, rfl⟩) (by decide) rfl (by decide) ⟨⟨hw, wi_234, wse_234⟩, wc_234⟩ cy_234 hd
theorem wm_6_319 : Cond.methodLink (eb_cN 6) 319 (eb_y 234) ∈ eb_LT := eb_lt 1450 (by decide +kernel)
theorem d235_55 : decode (eb_b 235) 55 = .ok (.istore_n 3, 1) := by decide +kernel
theorem hn235_3 : 3 < eb_ml 235 := by decide
theorem d235_56 : decode (eb_b 235) 56 = .ok (.aload_n 0, 1) := by decide +kernel
theorem d235_57 : decode (eb_b 235) 57 = .ok (.invokevirtual 227, 3) := by decide +kernel
theorem d235_60 : decode (eb_b 235) 60 = .ok (.astore 4, 2) := by decide +kernel
theorem hn235_4 : 4 < eb_ml 235 := by decide
theorem d235_62 : decode (eb_b 235) 62 = .ok (.aload 4, 2) := by decide +kernel
theorem d235_64 : decode (eb_b 235) 64 = .ok (.getfield 39, 3) := by decide +kernel
theorem d235_67 : decode (eb_b 235) 67 = .ok (.iload_n 2, 1) := by decide +kernel
theorem d235_68 : decode (eb_b 235) 68 = .ok (.aaload, 1) := by decide +kernel
theorem d235_69 : decode (eb_b 235) 69 = .ok (.iconst 4, 1) := by decide +kernel
theorem d235_70 : decode (eb_b 235) 70 = .ok (.iconst (-1), 1) := by decide +kernel
theorem d235_71 : decode (eb_b 235) 71 = .ok (.iastore, 1) := by decide +kernel
theorem d235_72 : decode (eb_b 235) 72 = .ok (.aload 4, 2) := by decide +kernel
theorem d235_74 : decode (eb_b 235) 74 = .ok (.iload_n 1, 1) := by decide +kernel
theorem d235_75 : decode (eb_b 235) 75 = .ok (.invokevirtual 319, 3) := by decide +kernel
theorem d235_78 : decode (eb_b 235) 78 = .ok (.iload_n 3, 1) := by decide +kernel
theorem d235_79 : decode (eb_b 235) 79 = .ok (.isub, 1) := by decide +kernel
theorem d235_80 : decode (eb_b 235) 80 = .ok (.ireturn, 1) := by decide +kernel
theorem d236_0 : decode (eb_b 236) 0 = .ok (.iload_n 1, 1) := by decide +kernel
theorem d236_1 : decode (eb_b 236) 1 = .ok (.invokestatic 299, 3) := by decide +kernel
theorem d236_4 : decode (eb_b 236) 4 = .ok (.ifCond .eq 23, 3) := by decide +kernel
theorem d236_7 : decode (eb_b 236) 7 = .ok (.aload_n 0, 1) := by decide +kernel
theorem d236_8 : decode (eb_b 236) 8 = .ok (.iload_n 2, 1) := by decide +kernel
theorem d236_9 : decode (eb_b 236) 9 = .ok (.invokevirtual 127, 3) := by decide +kernel
theorem d236_12 : decode (eb_b 236) 12 = .ok (.ifCond .eq 15, 3) := by decide +kernel
theorem d236_15 : decode (eb_b 236) 15 = .ok (.iload_n 3, 1) := by decide +kernel
theorem d236_16 : decode (eb_b 236) 16 = .ok (.i2l, 1) := by decide +kernel
theorem d236_17 : decode (eb_b 236) 17 = .ok (.lconst 0, 1) := by decide +kernel
theorem d236_18 : decode (eb_b 236) 18 = .ok (.ldc2_w 115, 3) := by decide +kernel
theorem d236_21 : decode (eb_b 236) 21 = .ok (.invokestatic 76, 3) := by decide +kernel
theorem d236_24 : decode (eb_b 236) 24 = .ok (.ifCond .ne 13, 3) := by decide +kernel
theorem d236_27 : decode (eb_b 236) 27 = .ok (.ldc 252, 2) := by decide +kernel
theorem d236_29 : decode (eb_b 236) 29 = .ok (.aload_n 0, 1) := by decide +kernel
theorem d236_30 : decode (eb_b 236) 30 = .ok (.bipush (-2), 2) := by decide +kernel
theorem d236_32 : decode (eb_b 236) 32 = .ok (.invokevirtual 91, 3) := by decide +kernel
theorem d236_35 : decode (eb_b 236) 35 = .ok (.iadd, 1) := by decide +kernel
theorem d236_36 : decode (eb_b 236) 36 = .ok (.ireturn, 1) := by decide +kernel
theorem d236_37 : decode (eb_b 236) 37 = .ok (.aload_n 0, 1) := by decide +kernel
theorem d236_38 : decode (eb_b 236) 38 = .ok (.invokevirtual 227, 3) := by decide +kernel
theorem d236_41 : decode (eb_b 236) 41 = .ok (.iload_n 1, 1) := by decide +kernel
theorem d236_42 : decode (eb_b 236) 42 = .ok (.iconst (-1), 1) := by decide +kernel
theorem d236_43 : decode (eb_b 236) 43 = .ok (.invokevirtual 302, 3) := by decide +kernel
theorem d236_46 : decode (eb_b 236) 46 = .ok (.istore 4, 2) := by decide +kernel
theorem hn236_4 : 4 < eb_ml 236 := by decide
theorem d236_48 : decode (eb_b 236) 48 = .ok (.aload_n 0, 1) := by decide +kernel
theorem d236_49 : decode (eb_b 236) 49 = .ok (.invokevirtual 227, 3) := by decide +kernel
theorem d236_52 : decode (eb_b 236) 52 = .ok (.astore 5, 2) := by decide +kernel
theorem hn236_5 : 5 < eb_ml 236 := by decide
theorem d236_54 : decode (eb_b 236) 54 = .ok (.aload 5, 2) := by decide +kernel
theorem d236_56 : decode (eb_b 236) 56 = .ok (.getfield 39, 3) := by decide +kernel
theorem d236_59 : decode (eb_b 236) 59 = .ok (.iload_n 2, 1) := by decide +kernel
theorem d236_60 : decode (eb_b 236) 60 = .ok (.aaload, 1) := by decide +kernel
theorem d236_61 : decode (eb_b 236) 61 = .ok (.iconst 4, 1) := by decide +kernel
theorem d236_62 : decode (eb_b 236) 62 = .ok (.iload_n 3, 1) := by decide +kernel
theorem d236_63 : decode (eb_b 236) 63 = .ok (.iastore, 1) := by decide +kernel
theorem d236_64 : decode (eb_b 236) 64 = .ok (.aload 5, 2) := by decide +kernel
theorem d236_66 : decode (eb_b 236) 66 = .ok (.iload_n 1, 1) := by decide +kernel
theorem d236_67 : decode (eb_b 236) 67 = .ok (.iconst (-1), 1) := by decide +kernel
theorem d236_68 : decode (eb_b 236) 68 = .ok (.invokevirtual 302, 3) := by decide +kernel
theorem d236_71 : decode (eb_b 236) 71 = .ok (.iload 4, 2) := by decide +kernel
theorem d236_73 : decode (eb_b 236) 73 = .ok (.isub, 1) := by decide +kernel
theorem d236_74 : decode (eb_b 236) 74 = .ok (.ireturn, 1) := by decide +kernel
theorem d237_0 : decode (eb_b 237) 0 = .ok (.aload_n 0, 1) := by decide +kernel
theorem d237_1 : decode (eb_b 237) 1 = .ok (.iload_n 1, 1) := by decide +kernel
theorem d237_2 : decode (eb_b 237) 2 = .ok (.invokevirtual 127, 3) := by decide +kernel
theorem d237_5 : decode (eb_b 237) 5 = .ok (.ifCond .eq 15, 3) := by decide +kernel
theorem d237_8 : decode (eb_b 237) 8 = .ok (.iload_n 2, 1) := by decide +kernel
theorem d237_9 : decode (eb_b 237) 9 = .ok (.i2l, 1) := by decide +kernel
theorem d237_10 : decode (eb_b 237) 10 = .ok (.lconst 0, 1) := by decide +kernel
theorem d237_11 : decode (eb_b 237) 11 = .ok (.ldc2_w 115, 3) := by decide +kernel
theorem d237_14 : decode (eb_b 237) 14 = .ok (.invokestatic 76, 3) := by decide +kernel
theorem d237_17 : decode (eb_b 237) 17 = .ok (.ifCond .ne 10, 3) := by decide +kernel
theorem d237_20 : decode (eb_b 237) 20 = .ok (.aload_n 0, 1) := by decide +kernel
theorem d237_21 : decode (eb_b 237) 21 = .ok (.bipush (-2), 2) := by decide +kernel
theorem d237_23 : decode (eb_b 237) 23 = .ok (.invokevirtual 91, 3) := by decide +kernel
theorem d237_26 : decode (eb_b 237) 26 = .ok (.ireturn, 1) := by decide +kernel
theorem d237_27 : decode (eb_b 237) 27 = .ok (.aload_n 0, 1) := by decide +kernel
theorem d237_28 : decode (eb_b 237) 28 = .ok (.invokevirtual 227, 3) := by decide +kernel
theorem d237_31 : decode (eb_b 237) 31 = .ok (.astore_n 3, 1) := by decide +kernel
theorem hn237_3 : 3 < eb_ml 237 := by decide
theorem d237_32 : decode (eb_b 237) 32 = .ok (.iconst 1, 1) := by decide +kernel
theorem d237_33 : decode (eb_b 237) 33 = .ok (.istore 4, 2) := by decide +kernel
theorem hn237_4 : 4 < eb_ml 237 := by decide
theorem d237_35 : decode (eb_b 237) 35 = .ok (.iload 4, 2) := by decide +kernel
theorem d237_37 : decode (eb_b 237) 37 = .ok (.bipush 30, 2) := by decide +kernel
theorem d237_39 : decode (eb_b 237) 39 = .ok (.if_icmp .gt 28, 3) := by decide +kernel
theorem d237_42 : decode (eb_b 237) 42 = .ok (.aload_n 3, 1) := by decide +kernel
theorem d237_43 : decode (eb_b 237) 43 = .ok (.invokevirtual 296, 3) := by decide +kernel
theorem d237_46 : decode (eb_b 237) 46 = .ok (.aload_n 3, 1) := by decide +kernel
theorem d237_47 : decode (eb_b 237) 47 = .ok (.getfield 39, 3) := by decide +kernel
theorem d237_50 : decode (eb_b 237) 50 = .ok (.iload_n 1, 1) := by decide +kernel
theorem d237_51 : decode (eb_b 237) 51 = .ok (.aaload, 1) := by decide +kernel
theorem d237_52 : decode (eb_b 237) 52 = .ok (.iconst 0, 1) := by decide +kernel
theorem d237_53 : decode (eb_b 237) 53 = .ok (.iaload, 1) := by decide +kernel
theorem d237_54 : decode (eb_b 237) 54 = .ok (.iload_n 2, 1) := by decide +kernel
theorem d237_55 : decode (eb_b 237) 55 = .ok (.if_icmp .ge 6, 3) := by decide +kernel
theorem d237_58 : decode (eb_b 237) 58 = .ok (.iload 4, 2) := by decide +kernel
theorem d237_60 : decode (eb_b 237) 60 = .ok (.ireturn, 1) := by decide +kernel
theorem d237_61 : decode (eb_b 237) 61 = .ok (.iinc 4 1, 3) := by decide +kernel
theorem d237_64 : decode (eb_b 237) 64 = .ok (.goto (-29), 3) := by decide +kernel
theorem d237_67 : decode (eb_b 237) 67 = .ok (.iconst (-1), 1) := by decide +kernel
theorem d237_68 : decode (eb_b 237) 68 = .ok (.ireturn, 1) := by decide +kernel
theorem d238_0 : decode (eb_b 238) 0 = .ok (.aload_n 0, 1) := by decide +kernel
theorem d238_1 : decode (eb_b 238) 1 = .ok (.iload_n 1, 1) := by decide +kernel
theorem d238_2 : decode (eb_b 238) 2 = .ok (.invokevirtual 102, 3) := by decide +kernel
theorem d238_5 : decode (eb_b 238) 5 = .ok (.ifCond .eq 31, 3) := by decide +kernel
theorem d238_8 : decode (eb_b 238) 8 = .ok (.aload_n 0, 1) := by decide +kernel
theorem d238_9 : decode (eb_b 238) 9 = .ok (.iload_n 2, 1) := by decide +kernel
theorem d238_10 : decode (eb_b 238) 10 = .ok (.invokevirtual 127, 3) := by decide +kernel
theorem d238_13 : decode (eb_b 238) 13 = .ok (.ifCond .eq 23, 3) := by decide +kernel
theorem d238_16 : decode (eb_b 238) 16 = .ok (.iload_n 3, 1) := by decide +kernel
theorem d238_17 : decode (eb_b 238) 17 = .ok (.invokestatic 299, 3) := by decide +kernel
theorem d238_20 : decode (eb_b 238) 20 = .ok (.ifCond .eq 16, 3) := by decide +kernel
theorem d238_23 : decode (eb_b 238) 23 = .ok (.iload 4, 2) := by decide +kernel
theorem d238_25 : decode (eb_b 238) 25 = .ok (.i2l, 1) := by decide +kernel
theorem d238_26 : decode (eb_b 238) 26 = .ok (.lconst 0, 1) := by decide +kernel
theorem d238_27 : decode (eb_b 238) 27 = .ok (.ldc2_w 115, 3) := by decide +kernel
theorem d238_30 : decode (eb_b 238) 30 = .ok (.invokestatic 76, 3) := by decide +kernel
theorem d238_33 : decode (eb_b 238) 33 = .ok (.ifCond .ne 10, 3) := by decide +kernel
theorem d238_36 : decode (eb_b 238) 36 = .ok (.aload_n 0, 1) := by decide +kernel
theorem d238_37 : decode (eb_b 238) 37 = .ok (.bipush (-2), 2) := by decide +kernel
theorem d238_39 : decode (eb_b 238) 39 = .ok (.invokevirtual 91, 3) := by decide +kernel
theorem d238_42 : decode (eb_b 238) 42 = .ok (.ireturn, 1) := by decide +kernel
theorem d238_43 : decode (eb_b 238) 43 = .ok (.bipush 30, 2) := by decide +kernel
theorem d238_45 : decode (eb_b 238) 45 = .ok (.istore 5, 2) := by decide +kernel
theorem hn238_5 : 5 < eb_ml 238 := by decide
theorem d238_47 : decode (eb_b 238) 47 = .ok (.iload 5, 2) := by decide +kernel
theorem d238_49 : decode (eb_b 238) 49 = .ok (.iconst 1, 1) := by decide +kernel
theorem d238_50 : decode (eb_b 238) 50 = .ok (.if_icmp .lt 81, 3) := by decide +kernel
theorem d238_53 : decode (eb_b 238) 53 = .ok (.aload_n 0, 1) := by decide +kernel
theorem d238_54 : decode (eb_b 238) 54 = .ok (.invokevirtual 227, 3) := by decide +kernel
theorem d238_57 : decode (eb_b 238) 57 = .ok (.astore 6, 2) := by decide +kernel
theorem hn238_6 : 6 < eb_ml 238 := by decide
theorem d238_59 : decode (eb_b 238) 59 = .ok (.aload 6, 2) := by decide +kernel
theorem d238_61 : decode (eb_b 238) 61 = .ok (.getfield 42, 3) := by decide +kernel
theorem d238_64 : decode (eb_b 238) 64 = .ok (.iload_n 1, 1) := by decide +kernel
theorem d238_65 : decode (eb_b 238) 65 = .ok (.aaload, 1) := by decide +kernel
theorem d238_66 : decode (eb_b 238) 66 = .ok (.iconst 1, 1) := by decide +kernel
theorem d238_67 : decode (eb_b 238) 67 = .ok (.iload 5, 2) := by decide +kernel
theorem d238_69 : decode (eb_b 238) 69 = .ok (.iastore, 1) := by decide +kernel
theorem d238_70 : decode (eb_b 238) 70 = .ok (.iconst 1, 1) := by decide +kernel
theorem d238_71 : decode (eb_b 238) 71 = .ok (.istore 7, 2) := by decide +kernel
theorem hn238_7 : 7 < eb_ml 238 := by decide
theorem d238_73 : decode (eb_b 238) 73 = .ok (.iconst 0, 1) := by decide +kernel
theorem d238_74 : decode (eb_b 238) 74 = .ok (.istore 8, 2) := by decide +kernel
theorem hn238_8 : 8 < eb_ml 238 := by decide
theorem d238_76 : decode (eb_b 238) 76 = .ok (.iload 8, 2) := by decide +kernel
theorem d238_78 : decode (eb_b 238) 78 = .ok (.iload_n 3, 1) := by decide +kernel
theorem d238_79 : decode (eb_b 238) 79 = .ok (.if_icmp .ge 38, 3) := by decide +kernel
theorem d238_82 : decode (eb_b 238) 82 = .ok (.aload 6, 2) := by decide +kernel
theorem d238_84 : decode (eb_b 238) 84 = .ok (.invokevirtual 296, 3) := by decide +kernel
theorem d238_87 : decode (eb_b 238) 87 = .ok (.iload 7, 2) := by decide +kernel
theorem d238_89 : decode (eb_b 238) 89 = .ok (.aload 6, 2) := by decide +kernel
theorem d238_91 : decode (eb_b 238) 91 = .ok (.getfield 39, 3) := by decide +kernel
theorem d238_94 : decode (eb_b 238) 94 = .ok (.iload_n 2, 1) := by decide +kernel
theorem d238_95 : decode (eb_b 238) 95 = .ok (.aaload, 1) := by decide +kernel
theorem d238_96 : decode (eb_b 238) 96 = .ok (.iconst 0, 1) := by decide +kernel
theorem d238_97 : decode (eb_b 238) 97 = .ok (.iaload, 1) := by decide +kernel
theorem d238_98 : decode (eb_b 238) 98 = .ok (.iload 4, 2) := by decide +kernel
theorem d238_100 : decode (eb_b 238) 100 = .ok (.if_icmp .lt 7, 3) := by decide +kernel
theorem d238_103 : decode (eb_b 238) 103 = .ok (.iconst 1, 1) := by decide +kernel
theorem d238_104 : decode (eb_b 238) 104 = .ok (.goto 4, 3) := by decide +kernel
theorem d238_107 : decode (eb_b 238) 107 = .ok (.iconst 0, 1) := by decide +kernel
theorem d238_108 : decode (eb_b 238) 108 = .ok (.iand, 1) := by decide +kernel
theorem d238_109 : decode (eb_b 238) 109 = .ok (.istore 7, 2) := by decide +kernel
theorem d238_111 : decode (eb_b 238) 111 = .ok (.iinc 8 1, 3) := by decide +kernel
theorem d238_114 : decode (eb_b 238) 114 = .ok (.goto (-38), 3) := by decide +kernel
theorem d238_117 : decode (eb_b 238) 117 = .ok (.iload 7, 2) := by decide +kernel
theorem d238_119 : decode (eb_b 238) 119 = .ok (.ifCond .eq 6, 3) := by decide +kernel
theorem d238_122 : decode (eb_b 238) 122 = .ok (.iload 5, 2) := by decide +kernel
theorem d238_124 : decode (eb_b 238) 124 = .ok (.ireturn, 1) := by decide +kernel
theorem d238_125 : decode (eb_b 238) 125 = .ok (.iinc 5 (-1), 3) := by decide +kernel
theorem d238_128 : decode (eb_b 238) 128 = .ok (.goto (-81), 3) := by decide +kernel
theorem d238_131 : decode (eb_b 238) 131 = .ok (.iconst (-1), 1) := by decide +kernel
theorem d238_132 : decode (eb_b 238) 132 = .ok (.ireturn, 1) := by decide +kernel
theorem d239_0 : decode (eb_b 239) 0 = .ok (.aload_n 0, 1) := by decide +kernel
theorem d239_1 : decode (eb_b 239) 1 = .ok (.iload_n 1, 1) := by decide +kernel
theorem d239_2 : decode (eb_b 239) 2 = .ok (.invokevirtual 127, 3) := by decide +kernel
theorem d239_5 : decode (eb_b 239) 5 = .ok (.ifCond .ne 10, 3) := by decide +kernel
theorem d239_8 : decode (eb_b 239) 8 = .ok (.aload_n 0, 1) := by decide +kernel
theorem d239_9 : decode (eb_b 239) 9 = .ok (.bipush (-2), 2) := by decide +kernel
theorem d239_11 : decode (eb_b 239) 11 = .ok (.invokevirtual 91, 3) := by decide +kernel
theorem d239_14 : decode (eb_b 239) 14 = .ok (.ireturn, 1) := by decide +kernel
theorem d239_15 : decode (eb_b 239) 15 = .ok (.aload_n 0, 1) := by decide +kernel
theorem d239_16 : decode (eb_b 239) 16 = .ok (.invokevirtual 227, 3) := by decide +kernel
theorem d239_19 : decode (eb_b 239) 19 = .ok (.astore_n 2, 1) := by decide +kernel
theorem hn239_2 : 2 < eb_ml 239 := by decide
theorem d239_20 : decode (eb_b 239) 20 = .ok (.iconst 0, 1) := by decide +kernel
theorem d239_21 : decode (eb_b 239) 21 = .ok (.istore_n 3, 1) := by decide +kernel
theorem hn239_3 : 3 < eb_ml 239 := by decide
theorem d239_22 : decode (eb_b 239) 22 = .ok (.iload_n 3, 1) := by decide +kernel
theorem d239_23 : decode (eb_b 239) 23 = .ok (.aload_n 0, 1) := by decide +kernel
theorem d239_24 : decode (eb_b 239) 24 = .ok (.getfield 73, 3) := by decide +kernel
theorem d239_27 : decode (eb_b 239) 27 = .ok (.if_icmp .ge 18, 3) := by decide +kernel
theorem d239_30 : decode (eb_b 239) 30 = .ok (.aload_n 2, 1) := by decide +kernel
theorem d239_31 : decode (eb_b 239) 31 = .ok (.getfield 39, 3) := by decide +kernel
theorem d239_34 : decode (eb_b 239) 34 = .ok (.iload_n 3, 1) := by decide +kernel
theorem d239_35 : decode (eb_b 239) 35 = .ok (.aaload, 1) := by decide +kernel
theorem d239_36 : decode (eb_b 239) 36 = .ok (.iconst 4, 1) := by decide +kernel
theorem d239_37 : decode (eb_b 239) 37 = .ok (.iconst (-1), 1) := by decide +kernel
theorem d239_38 : decode (eb_b 239) 38 = .ok (.iastore, 1) := by decide +kernel
theorem d239_39 : decode (eb_b 239) 39 = .ok (.iinc 3 1, 3) := by decide +kernel
theorem d239_42 : decode (eb_b 239) 42 = .ok (.goto (-20), 3) := by decide +kernel
theorem d239_45 : decode (eb_b 239) 45 = .ok (.iconst 1, 1) := by decide +kernel
theorem d239_46 : decode (eb_b 239) 46 = .ok (.istore_n 3, 1) := by decide +kernel
theorem d239_47 : decode (eb_b 239) 47 = .ok (.iload_n 3, 1) := by decide +kernel
theorem d239_48 : decode (eb_b 239) 48 = .ok (.bipush 30, 2) := by decide +kernel
theorem d239_50 : decode (eb_b 239) 50 = .ok (.if_icmp .gt 34, 3) := by decide +kernel
theorem d239_53 : decode (eb_b 239) 53 = .ok (.aload_n 2, 1) := by decide +kernel
theorem d239_54 : decode (eb_b 239) 54 = .ok (.invokevirtual 296, 3) := by decide +kernel
theorem d239_57 : decode (eb_b 239) 57 = .ok (.aload_n 2, 1) := by decide +kernel
theorem d239_58 : decode (eb_b 239) 58 = .ok (.getfield 39, 3) := by decide +kernel
theorem d239_61 : decode (eb_b 239) 61 = .ok (.iload_n 1, 1) := by decide +kernel
theorem d239_62 : decode (eb_b 239) 62 = .ok (.aaload, 1) := by decide +kernel
theorem d239_63 : decode (eb_b 239) 63 = .ok (.iconst 0, 1) := by decide +kernel
theorem d239_64 : decode (eb_b 239) 64 = .ok (.iaload, 1) := by decide +kernel
theorem d239_65 : decode (eb_b 239) 65 = .ok (.aload_n 2, 1) := by decide +kernel
theorem d239_66 : decode (eb_b 239) 66 = .ok (.getfield 39, 3) := by decide +kernel
theorem d239_69 : decode (eb_b 239) 69 = .ok (.iload_n 1, 1) := by decide +kernel
theorem d239_70 : decode (eb_b 239) 70 = .ok (.aaload, 1) := by decide +kernel
theorem d239_71 : decode (eb_b 239) 71 = .ok (.iconst 1, 1) := by decide +kernel
theorem d239_72 : decode (eb_b 239) 72 = .ok (.iaload, 1) := by decide +kernel
theorem d239_73 : decode (eb_b 239) 73 = .ok (.if_icmp .lt 5, 3) := by decide +kernel
theorem d239_76 : decode (eb_b 239) 76 = .ok (.iload_n 3, 1) := by decide +kernel
theorem d239_77 : decode (eb_b 239) 77 = .ok (.ireturn, 1) := by decide +kernel
theorem d239_78 : decode (eb_b 239) 78 = .ok (.iinc 3 1, 3) := by decide +kernel
theorem d239_81 : decode (eb_b 239) 81 = .ok (.goto (-34), 3) := by decide +kernel
theorem d239_84 : decode (eb_b 239) 84 = .ok (.iconst (-1), 1) := by decide +kernel
theorem d239_85 : decode (eb_b 239) 85 = .ok (.ireturn, 1) := by decide +kernel
theorem d240_0 : decode (eb_b 240) 0 = .ok (.iload_n 1, 1) := by decide +kernel
theorem d240_1 : decode (eb_b 240) 1 = .ok (.invokestatic 299, 3) := by decide +kernel
theorem d240_4 : decode (eb_b 240) 4 = .ok (.ifCond .eq 11, 3) := by decide +kernel
theorem d240_7 : decode (eb_b 240) 7 = .ok (.aload_n 0, 1) := by decide +kernel
theorem d240_8 : decode (eb_b 240) 8 = .ok (.iload_n 2, 1) := by decide +kernel
theorem d240_9 : decode (eb_b 240) 9 = .ok (.invokevirtual 127, 3) := by decide +kernel
theorem d240_12 : decode (eb_b 240) 12 = .ok (.ifCond .ne 10, 3) := by decide +kernel
theorem d240_15 : decode (eb_b 240) 15 = .ok (.aload_n 0, 1) := by decide +kernel
theorem d240_16 : decode (eb_b 240) 16 = .ok (.bipush (-2), 2) := by decide +kernel
theorem d240_18 : decode (eb_b 240) 18 = .ok (.invokevirtual 91, 3) := by decide +kernel
theorem d240_21 : decode (eb_b 240) 21 = .ok (.ireturn, 1) := by decide +kernel
theorem d240_22 : decode (eb_b 240) 22 = .ok (.iconst 0, 1) := by decide +kernel
theorem d240_23 : decode (eb_b 240) 23 = .ok (.istore_n 3, 1) := by decide +kernel
theorem hn240_3 : 3 < eb_ml 240 := by decide
theorem d240_24 : decode (eb_b 240) 24 = .ok (.iconst (-1), 1) := by decide +kernel
theorem d240_25 : decode (eb_b 240) 25 = .ok (.istore 4, 2) := by decide +kernel
theorem hn240_4 : 4 < eb_ml 240 := by decide
theorem d240_27 : decode (eb_b 240) 27 = .ok (.iconst 0, 1) := by decide +kernel
theorem d240_28 : decode (eb_b 240) 28 = .ok (.istore 5, 2) := by decide +kernel
theorem hn240_5 : 5 < eb_ml 240 := by decide
theorem d240_30 : decode (eb_b 240) 30 = .ok (.iload 5, 2) := by decide +kernel
theorem d240_32 : decode (eb_b 240) 32 = .ok (.bipush 99, 2) := by decide +kernel
theorem d240_34 : decode (eb_b 240) 34 = .ok (.if_icmp .gt 75, 3) := by decide +kernel
theorem d240_37 : decode (eb_b 240) 37 = .ok (.aload_n 0, 1) := by decide +kernel
theorem d240_38 : decode (eb_b 240) 38 = .ok (.invokevirtual 227, 3) := by decide +kernel
theorem d240_41 : decode (eb_b 240) 41 = .ok (.astore 6, 2) := by decide +kernel
theorem hn240_6 : 6 < eb_ml 240 := by decide
theorem d240_43 : decode (eb_b 240) 43 = .ok (.aload 6, 2) := by decide +kernel
theorem d240_45 : decode (eb_b 240) 45 = .ok (.getfield 39, 3) := by decide +kernel
theorem d240_48 : decode (eb_b 240) 48 = .ok (.iload_n 2, 1) := by decide +kernel
theorem d240_49 : decode (eb_b 240) 49 = .ok (.aaload, 1) := by decide +kernel
theorem d240_50 : decode (eb_b 240) 50 = .ok (.iconst 3, 1) := by decide +kernel
theorem d240_51 : decode (eb_b 240) 51 = .ok (.iload 5, 2) := by decide +kernel
theorem d240_53 : decode (eb_b 240) 53 = .ok (.iastore, 1) := by decide +kernel
theorem d240_54 : decode (eb_b 240) 54 = .ok (.iconst 0, 1) := by decide +kernel
theorem d240_55 : decode (eb_b 240) 55 = .ok (.istore 7, 2) := by decide +kernel
theorem hn240_7 : 7 < eb_ml 240 := by decide
theorem d240_57 : decode (eb_b 240) 57 = .ok (.iconst 0, 1) := by decide +kernel
theorem d240_58 : decode (eb_b 240) 58 = .ok (.istore 8, 2) := by decide +kernel
theorem hn240_8 : 8 < eb_ml 240 := by decide
theorem d240_60 : decode (eb_b 240) 60 = .ok (.iload 8, 2) := by decide +kernel
theorem d240_62 : decode (eb_b 240) 62 = .ok (.iload_n 1, 1) := by decide +kernel
theorem d240_63 : decode (eb_b 240) 63 = .ok (.if_icmp .ge 26, 3) := by decide +kernel
theorem d240_66 : decode (eb_b 240) 66 = .ok (.aload 6, 2) := by decide +kernel
theorem d240_68 : decode (eb_b 240) 68 = .ok (.invokevirtual 296, 3) := by decide +kernel
theorem d240_71 : decode (eb_b 240) 71 = .ok (.iload 7, 2) := by decide +kernel
theorem d240_73 : decode (eb_b 240) 73 = .ok (.aload 6, 2) := by decide +kernel
theorem d240_75 : decode (eb_b 240) 75 = .ok (.getfield 67, 3) := by decide +kernel
theorem d240_78 : decode (eb_b 240) 78 = .ok (.iload_n 2, 1) := by decide +kernel
theorem d240_79 : decode (eb_b 240) 79 = .ok (.iaload, 1) := by decide +kernel
theorem d240_80 : decode (eb_b 240) 80 = .ok (.iadd, 1) := by decide +kernel
theorem d240_81 : decode (eb_b 240) 81 = .ok (.istore 7, 2) := by decide +kernel
theorem d240_83 : decode (eb_b 240) 83 = .ok (.iinc 8 1, 3) := by decide +kernel
theorem d240_86 : decode (eb_b 240) 86 = .ok (.goto (-26), 3) := by decide +kernel
theorem d240_89 : decode (eb_b 240) 89 = .ok (.iload 7, 2) := by decide +kernel
theorem d240_91 : decode (eb_b 240) 91 = .ok (.iload 4, 2) := by decide +kernel
theorem d240_93 : decode (eb_b 240) 93 = .ok (.if_icmp .le 10, 3) := by decide +kernel
theorem d240_96 : decode (eb_b 240) 96 = .ok (.iload 5, 2) := by decide +kernel
theorem d240_98 : decode (eb_b 240) 98 = .ok (.istore_n 3, 1) := by decide +kernel
theorem d240_99 : decode (eb_b 240) 99 = .ok (.iload 7, 2) := by decide +kernel
theorem d240_101 : decode (eb_b 240) 101 = .ok (.istore 4, 2) := by decide +kernel
theorem d240_103 : decode (eb_b 240) 103 = .ok (.iinc 5 1, 3) := by decide +kernel
theorem d240_106 : decode (eb_b 240) 106 = .ok (.goto (-76), 3) := by decide +kernel
theorem d240_109 : decode (eb_b 240) 109 = .ok (.iload_n 3, 1) := by decide +kernel
theorem d240_110 : decode (eb_b 240) 110 = .ok (.ireturn, 1) := by decide +kernel
theorem d241_0 : decode (eb_b 241) 0 = .ok (.aload_n 0, 1) := by decide +kernel
theorem d241_1 : decode (eb_b 241) 1 = .ok (.iconst 1, 1) := by decide +kernel
theorem d241_2 : decode (eb_b 241) 2 = .ok (.iconst (-1), 1) := by decide +kernel
theorem d241_3 : decode (eb_b 241) 3 = .ok (.invokevirtual 302, 3) := by decide +kernel
theorem d241_6 : decode (eb_b 241) 6 = .ok (.ireturn, 1) := by decide +kernel
theorem d242_0 : decode (eb_b 242) 0 = .ok (.iload_n 1, 1) := by decide +kernel
theorem d242_1 : decode (eb_b 242) 1 = .ok (.invokestatic 299, 3) := by decide +kernel
theorem d242_4 : decode (eb_b 242) 4 = .ok (.ifCond .eq 12, 3) := by decide +kernel
theorem d242_7 : decode (eb_b 242) 7 = .ok (.aload_n 0, 1) := by decide +kernel
theorem d242_8 : decode (eb_b 242) 8 = .ok (.iload_n 1, 1) := by decide +kernel
theorem d242_9 : decode (eb_b 242) 9 = .ok (.iconst (-1), 1) := by decide +kernel
theorem d242_10 : decode (eb_b 242) 10 = .ok (.invokevirtual 302, 3) := by decide +kernel
theorem d242_13 : decode (eb_b 242) 13 = .ok (.goto 12, 3) := by decide +kernel
theorem d242_16 : decode (eb_b 242) 16 = .ok (.ldc 252, 2) := by decide +kernel
theorem d242_18 : decode (eb_b 242) 18 = .ok (.aload_n 0, 1) := by decide +kernel
theorem d242_19 : decode (eb_b 242) 19 = .ok (.bipush (-2), 2) := by decide +kernel
theorem d242_21 : decode (eb_b 242) 21 = .ok (.invokevirtual 91, 3) := by decide +kernel
theorem d242_24 : decode (eb_b 242) 24 = .ok (.iadd, 1) := by decide +kernel
theorem d242_25 : decode (eb_b 242) 25 = .ok (.ireturn, 1) := by decide +kernel
theorem d243_0 : decode (eb_b 243) 0 = .ok (.aload_n 0, 1) := by decide +kernel
theorem d243_1 : decode (eb_b 243) 1 = .ok (.aload_n 0, 1) := by decide +kernel
theorem d243_2 : decode (eb_b 243) 2 = .ok (.getfield 45, 3) := by decide +kernel
theorem wf_6_45 : Cond.fieldLink (eb_cN 6) 45 (eb_tT 6 15).1 (eb_tT 6 15).2.1 (eb_tT 6 15).2.2.1 ∈ eb_LT := eb_lt 971 (by decide +kernel)
theorem fi_6_15 : 15 < eb_nf 6 ∧ (eb_tt 6 15).isReference = false := ⟨by decide, rfl⟩
theorem d243_5 : decode (eb_b 243) 5 = .ok (.ldc_w 322, 3) := by decide +kernel
theorem wk_6_322 : Cond.constant (eb_cN 6) 322 1103515245 ∈ eb_LT := eb_lt 1490 (by decide +kernel)
theorem d243_8 : decode (eb_b 243) 8 = .ok (.imul, 1) := by decide +kernel
theorem d243_9 : decode (eb_b 243) 9 = .ok (.sipush 12345, 3) := by decide +kernel
theorem d243_12 : decode (eb_b 243) 12 = .ok (.iadd, 1) := by decide +kernel
theorem d243_13 : decode (eb_b 243) 13 = .ok (.putfield 45, 3) := by decide +kernel
theorem fp_6_15 : ∀ x : Int32, narrow (eb_tt 6 15) (.int x) = .int x ∧ fits (eb_tt 6 15) (.int x) = true := fun x => ⟨rfl, rfl⟩
theorem d243_16 : decode (eb_b 243) 16 = .ok (.aload_n 0, 1) := by decide +kernel
theorem d243_17 : decode (eb_b 243) 17 = .ok (.getfield 45, 3) := by decide +kernel
theorem d243_20 : decode (eb_b 243) 20 = .ok (.bipush 16, 2) := by decide +kernel
theorem d243_22 : decode (eb_b 243) 22 = .ok (.iushr, 1) := by decide +kernel
theorem d243_23 : decode (eb_b 243) 23 = .ok (.iload_n 1, 1) := by decide +kernel
theorem d243_24 : decode (eb_b 243) 24 = .ok (.irem, 1) := by decide +kernel
theorem d243_25 : decode (eb_b 243) 25 = .ok (.ireturn, 1) := by decide +kernel
theorem d244_0 : decode (eb_b 244) 0 = .ok (.iload_n 1, 1) := by decide +kernel
theorem d244_1 : decode (eb_b 244) 1 = .ok (.i2l, 1) := by decide +kernel
theorem d244_2 : decode (eb_b 244) 2 = .ok (.lconst 1, 1) := by decide +kernel
theorem d244_3 : decode (eb_b 244) 3 = .ok (.ldc2_w 89, 3) := by decide +kernel
theorem d244_6 : decode (eb_b 244) 6 = .ok (.invokestatic 76, 3) := by decide +kernel
theorem d244_9 : decode (eb_b 244) 9 = .ok (.ifCond .ne 10, 3) := by decide +kernel
theorem d244_12 : decode (eb_b 244) 12 = .ok (.aload_n 0, 1) := by decide +kernel
theorem d244_13 : decode (eb_b 244) 13 = .ok (.bipush (-2), 2) := by decide +kernel
theorem d244_15 : decode (eb_b 244) 15 = .ok (.invokevirtual 91, 3) := by decide +kernel
theorem d244_18 : decode (eb_b 244) 18 = .ok (.ireturn, 1) := by decide +kernel
theorem d244_19 : decode (eb_b 244) 19 = .ok (.aload_n 0, 1) := by decide +kernel
theorem d244_20 : decode (eb_b 244) 20 = .ok (.getfield 73, 3) := by decide +kernel
theorem d244_23 : decode (eb_b 244) 23 = .ok (.ifCond .ne 10, 3) := by decide +kernel
theorem d244_26 : decode (eb_b 244) 26 = .ok (.aload_n 0, 1) := by decide +kernel
theorem d244_27 : decode (eb_b 244) 27 = .ok (.bipush (-5), 2) := by decide +kernel
theorem d244_29 : decode (eb_b 244) 29 = .ok (.invokevirtual 91, 3) := by decide +kernel
theorem d244_32 : decode (eb_b 244) 32 = .ok (.ireturn, 1) := by decide +kernel
theorem d244_33 : decode (eb_b 244) 33 = .ok (.iconst 0, 1) := by decide +kernel
theorem d244_34 : decode (eb_b 244) 34 = .ok (.istore_n 2, 1) := by decide +kernel
theorem hn244_2 : 2 < eb_ml 244 := by decide
theorem d244_35 : decode (eb_b 244) 35 = .ok (.iconst 0, 1) := by decide +kernel
theorem d244_36 : decode (eb_b 244) 36 = .ok (.istore_n 3, 1) := by decide +kernel
theorem hn244_3 : 3 < eb_ml 244 := by decide
theorem d244_37 : decode (eb_b 244) 37 = .ok (.iload_n 3, 1) := by decide +kernel
theorem d244_38 : decode (eb_b 244) 38 = .ok (.iload_n 1, 1) := by decide +kernel
theorem d244_39 : decode (eb_b 244) 39 = .ok (.if_icmp .ge 75, 3) := by decide +kernel
theorem d244_42 : decode (eb_b 244) 42 = .ok (.aload_n 0, 1) := by decide +kernel
theorem d244_43 : decode (eb_b 244) 43 = .ok (.aload_n 0, 1) := by decide +kernel
theorem d244_44 : decode (eb_b 244) 44 = .ok (.getfield 73, 3) := by decide +kernel
theorem d244_47 : decode (eb_b 244) 47 = .ok (.invokevirtual 323, 3) := by decide +kernel
theorem wc_243 : Cond.code (eb_y 243) (eb_b 243) (eb_ml 243) (eb_rt 243) ∈ eb_LT := eb_lt 1489 (by decide +kernel)
theorem cy_243 : (eb_y 243).cls = eb_cN (eb_rc 243) ∧ (eb_y 243).cls ≠ "java/lang/invoke/MethodHandle" ∧ (eb_y 243).cls ≠ "java/lang/invoke/VarHandle" ∧ (parseMethodDescriptor (eb_y 243).desc).map (fun d => d.parameters.length) = some 1 := by decide +kernel
theorem wi_243 : Cond.instanceMethod (eb_y 243) ∈ eb_LT := eb_lt 1488 (by decide +kernel)
theorem wse_243 : Cond.selects (eb_cN (eb_rc 243)) (eb_y 243) (eb_y 243) ∈ eb_LT := eb_lt 75 (by decide +kernel)
theorem kV_243 {L q0 m pc : Nat} {lg : Nat → Bool} {ix : Nat} (hw : Cond.methodLink (eb_own m) ix (eb_y 243) ∈ eb_LT) (hd : decode (eb_b m) pc = .ok (.invokevirtual ix, 3)) : eb_Snd L q0 m pc lg (op_call 243 2 (pc + 3)) := sn_callV false rfl (Or.inr ⟨rfl, _, rfl⟩) (by decide) rfl (by decide) ⟨⟨hw, wi_243, wse_243⟩, wc_243⟩ cy_243 hd
theorem wm_6_323 : Cond.methodLink (eb_cN 6) 323 (eb_y 243) ∈ eb_LT := eb_lt 1486 (by decide +kernel)
theorem d244_50 : decode (eb_b 244) 50 = .ok (.istore 4, 2) := by decide +kernel
theorem hn244_4 : 4 < eb_ml 244 := by decide
theorem d244_52 : decode (eb_b 244) 52 = .ok (.aload_n 0, 1) := by decide +kernel
theorem d244_53 : decode (eb_b 244) 53 = .ok (.getfield 39, 3) := by decide +kernel
theorem d244_56 : decode (eb_b 244) 56 = .ok (.iload 4, 2) := by decide +kernel
theorem d244_58 : decode (eb_b 244) 58 = .ok (.aaload, 1) := by decide +kernel
theorem d244_59 : decode (eb_b 244) 59 = .ok (.iconst 0, 1) := by decide +kernel
theorem d244_60 : decode (eb_b 244) 60 = .ok (.iaload, 1) := by decide +kernel
theorem d244_61 : decode (eb_b 244) 61 = .ok (.aload_n 0, 1) := by decide +kernel
theorem d244_62 : decode (eb_b 244) 62 = .ok (.bipush 21, 2) := by decide +kernel
theorem d244_64 : decode (eb_b 244) 64 = .ok (.invokevirtual 323, 3) := by decide +kernel
theorem d244_67 : decode (eb_b 244) 67 = .ok (.iadd, 1) := by decide +kernel
theorem d244_68 : decode (eb_b 244) 68 = .ok (.bipush 10, 2) := by decide +kernel
theorem d244_70 : decode (eb_b 244) 70 = .ok (.isub, 1) := by decide +kernel
theorem d244_71 : decode (eb_b 244) 71 = .ok (.bipush 100, 2) := by decide +kernel
theorem d244_73 : decode (eb_b 244) 73 = .ok (.invokestatic 290, 3) := by decide +kernel
theorem d244_76 : decode (eb_b 244) 76 = .ok (.istore 5, 2) := by decide +kernel
theorem hn244_5 : 5 < eb_ml 244 := by decide
theorem d244_78 : decode (eb_b 244) 78 = .ok (.iload_n 2, 1) := by decide +kernel
theorem d244_79 : decode (eb_b 244) 79 = .ok (.aload_n 0, 1) := by decide +kernel
theorem d244_80 : decode (eb_b 244) 80 = .ok (.getfield 39, 3) := by decide +kernel
theorem d244_83 : decode (eb_b 244) 83 = .ok (.iload 4, 2) := by decide +kernel
theorem d244_85 : decode (eb_b 244) 85 = .ok (.aaload, 1) := by decide +kernel
theorem d244_86 : decode (eb_b 244) 86 = .ok (.iconst 5, 1) := by decide +kernel
theorem d244_87 : decode (eb_b 244) 87 = .ok (.iaload, 1) := by decide +kernel
theorem d244_88 : decode (eb_b 244) 88 = .ok (.bipush 99, 2) := by decide +kernel
theorem d244_90 : decode (eb_b 244) 90 = .ok (.if_icmp .ge 7, 3) := by decide +kernel
theorem d244_93 : decode (eb_b 244) 93 = .ok (.iconst 1, 1) := by decide +kernel
theorem d244_94 : decode (eb_b 244) 94 = .ok (.goto 4, 3) := by decide +kernel
theorem d244_97 : decode (eb_b 244) 97 = .ok (.iconst 0, 1) := by decide +kernel
theorem d244_98 : decode (eb_b 244) 98 = .ok (.iadd, 1) := by decide +kernel
theorem d244_99 : decode (eb_b 244) 99 = .ok (.istore_n 2, 1) := by decide +kernel
theorem d244_100 : decode (eb_b 244) 100 = .ok (.aload_n 0, 1) := by decide +kernel
theorem d244_101 : decode (eb_b 244) 101 = .ok (.iload 4, 2) := by decide +kernel
theorem d244_103 : decode (eb_b 244) 103 = .ok (.iload 5, 2) := by decide +kernel
theorem d244_105 : decode (eb_b 244) 105 = .ok (.invokevirtual 141, 3) := by decide +kernel
theorem d244_108 : decode (eb_b 244) 108 = .ok (.iinc 3 1, 3) := by decide +kernel
theorem d244_111 : decode (eb_b 244) 111 = .ok (.goto (-74), 3) := by decide +kernel
theorem d244_114 : decode (eb_b 244) 114 = .ok (.iload_n 2, 1) := by decide +kernel
theorem d244_115 : decode (eb_b 244) 115 = .ok (.ireturn, 1) := by decide +kernel
theorem d245_0 : decode (eb_b 245) 0 = .ok (.aload_n 0, 1) := by decide +kernel
theorem d245_1 : decode (eb_b 245) 1 = .ok (.getfield 45, 3) := by decide +kernel
theorem d245_4 : decode (eb_b 245) 4 = .ok (.istore_n 2, 1) := by decide +kernel
theorem hn245_2 : 2 < eb_ml 245 := by decide
theorem d245_5 : decode (eb_b 245) 5 = .ok (.aload_n 0, 1) := by decide +kernel
theorem d245_6 : decode (eb_b 245) 6 = .ok (.iload_n 1, 1) := by decide +kernel
theorem d245_7 : decode (eb_b 245) 7 = .ok (.putfield 45, 3) := by decide +kernel
theorem d245_10 : decode (eb_b 245) 10 = .ok (.iload_n 2, 1) := by decide +kernel
theorem d245_11 : decode (eb_b 245) 11 = .ok (.ireturn, 1) := by decide +kernel
theorem d246_0 : decode (eb_b 246) 0 = .ok (.aload_n 0, 1) := by decide +kernel
theorem d246_1 : decode (eb_b 246) 1 = .ok (.getfield 326, 3) := by decide +kernel
theorem wf_6_326 : Cond.fieldLink (eb_cN 6) 326 (eb_tT 6 17).1 (eb_tT 6 17).2.1 (eb_tT 6 17).2.2.1 ∈ eb_LT := eb_lt 973 (by decide +kernel)
theorem fi_6_17 : 17 < eb_nf 6 ∧ (eb_tt 6 17).isReference = true := ⟨by decide, rfl⟩
theorem d246_4 : decode (eb_b 246) 4 = .ok (.ifnonnull 14, 3) := by decide +kernel
theorem d246_7 : decode (eb_b 246) 7 = .ok (.aload_n 0, 1) := by decide +kernel
theorem d246_8 : decode (eb_b 246) 8 = .ok (.new 8, 3) := by decide +kernel
theorem wq_6_8 : Cond.classLink (eb_cN 6) 8 (eb_cN 6) ∈ eb_LT := eb_lt 1202 (by decide +kernel)
theorem d246_11 : decode (eb_b 246) 11 = .ok (.dup, 1) := by decide +kernel
theorem d246_12 : decode (eb_b 246) 12 = .ok (.invokespecial 330, 3) := by decide +kernel
theorem wc_144 : Cond.code (eb_y 144) (eb_b 144) (eb_ml 144) (eb_rt 144) ∈ eb_LT := eb_lt 950 (by decide +kernel)
theorem cy_144 : (eb_y 144).cls ≠ "java/lang/invoke/MethodHandle" ∧ (eb_y 144).cls ≠ "java/lang/invoke/VarHandle" ∧ (parseMethodDescriptor (eb_y 144).desc).map (fun d => d.parameters.length) = some 0 := by decide +kernel
theorem wi_144 : Cond.instanceMethod (eb_y 144) ∈ eb_LT := eb_lt 949 (by decide +kernel)
theorem wn_144 : Cond.initialized (eb_y 144).cls ∈ eb_LT := eb_lt 83 (by decide +kernel)
theorem kI_144 {L q0 m pc : Nat} {lg : Nat → Bool} {ix : Nat} (hw : Cond.methodLink (eb_own m) ix (eb_y 144) ∈ eb_LT) (hd : decode (eb_b m) pc = .ok (.invokespecial ix, 3)) : eb_Snd L q0 m pc lg (op_callv 144 1 (pc + 3)) := sn_callI rfl (by decide) rfl ⟨⟨hw, wi_144, wn_144⟩, wc_144⟩ rfl cy_144 hd
theorem wm_6_330 : Cond.methodLink (eb_cN 6) 330 (eb_y 144) ∈ eb_LT := eb_lt 1203 (by decide +kernel)
theorem d246_15 : decode (eb_b 246) 15 = .ok (.putfield 326, 3) := by decide +kernel
theorem fp_6_17 : ∀ x : Option Nat, narrow (eb_tt 6 17) (va_rf x) = va_rf x ∧ fits (eb_tt 6 17) (va_rf x) = true := fun x => by cases x <;> exact ⟨rfl, rfl⟩
theorem d246_18 : decode (eb_b 246) 18 = .ok (.aload_n 0, 1) := by decide +kernel
theorem d246_19 : decode (eb_b 246) 19 = .ok (.getfield 326, 3) := by decide +kernel
theorem d246_22 : decode (eb_b 246) 22 = .ok (.aload_n 0, 1) := by decide +kernel
theorem d246_23 : decode (eb_b 246) 23 = .ok (.invokevirtual 234, 3) := by decide +kernel
theorem d246_26 : decode (eb_b 246) 26 = .ok (.aload_n 0, 1) := by decide +kernel
theorem d246_27 : decode (eb_b 246) 27 = .ok (.getfield 326, 3) := by decide +kernel
theorem d246_30 : decode (eb_b 246) 30 = .ok (.areturn, 1) := by decide +kernel
theorem d247_0 : decode (eb_b 247) 0 = .ok (.iconst 0, 1) := by decide +kernel
theorem d247_1 : decode (eb_b 247) 1 = .ok (.istore_n 2, 1) := by decide +kernel
theorem hn247_2 : 2 < eb_ml 247 := by decide
theorem d247_2 : decode (eb_b 247) 2 = .ok (.iload_n 2, 1) := by decide +kernel
theorem d247_3 : decode (eb_b 247) 3 = .ok (.aload_n 0, 1) := by decide +kernel
theorem d247_4 : decode (eb_b 247) 4 = .ok (.arraylength, 1) := by decide +kernel
theorem d247_5 : decode (eb_b 247) 5 = .ok (.if_icmp .ge 15, 3) := by decide +kernel
theorem d247_8 : decode (eb_b 247) 8 = .ok (.aload_n 1, 1) := by decide +kernel
theorem d247_9 : decode (eb_b 247) 9 = .ok (.iload_n 2, 1) := by decide +kernel
theorem d247_10 : decode (eb_b 247) 10 = .ok (.aload_n 0, 1) := by decide +kernel
theorem d247_11 : decode (eb_b 247) 11 = .ok (.iload_n 2, 1) := by decide +kernel
theorem d247_12 : decode (eb_b 247) 12 = .ok (.iaload, 1) := by decide +kernel
theorem d247_13 : decode (eb_b 247) 13 = .ok (.iastore, 1) := by decide +kernel
theorem d247_14 : decode (eb_b 247) 14 = .ok (.iinc 2 1, 3) := by decide +kernel
theorem d247_17 : decode (eb_b 247) 17 = .ok (.goto (-15), 3) := by decide +kernel
theorem d247_20 : decode (eb_b 247) 20 = .ok (.return_, 1) := by decide +kernel
theorem d248_0 : decode (eb_b 248) 0 = .ok (.aload_n 0, 1) := by decide +kernel
theorem d248_1 : decode (eb_b 248) 1 = .ok (.aload_n 1, 1) := by decide +kernel
theorem d248_2 : decode (eb_b 248) 2 = .ok (.getfield 73, 3) := by decide +kernel
theorem d248_5 : decode (eb_b 248) 5 = .ok (.putfield 73, 3) := by decide +kernel
theorem d248_8 : decode (eb_b 248) 8 = .ok (.aload_n 0, 1) := by decide +kernel
theorem d248_9 : decode (eb_b 248) 9 = .ok (.aload_n 1, 1) := by decide +kernel
theorem d248_10 : decode (eb_b 248) 10 = .ok (.getfield 80, 3) := by decide +kernel
theorem d248_13 : decode (eb_b 248) 13 = .ok (.putfield 80, 3) := by decide +kernel
theorem d248_16 : decode (eb_b 248) 16 = .ok (.iconst 0, 1) := by decide +kernel
theorem d248_17 : decode (eb_b 248) 17 = .ok (.istore_n 2, 1) := by decide +kernel
theorem hn248_2 : 2 < eb_ml 248 := by decide
theorem d248_18 : decode (eb_b 248) 18 = .ok (.iload_n 2, 1) := by decide +kernel
theorem d248_19 : decode (eb_b 248) 19 = .ok (.bipush 6, 2) := by decide +kernel
theorem d248_21 : decode (eb_b 248) 21 = .ok (.if_icmp .ge 39, 3) := by decide +kernel
theorem d248_24 : decode (eb_b 248) 24 = .ok (.aload_n 1, 1) := by decide +kernel
theorem d248_25 : decode (eb_b 248) 25 = .ok (.getfield 39, 3) := by decide +kernel
theorem d248_28 : decode (eb_b 248) 28 = .ok (.iload_n 2, 1) := by decide +kernel
theorem d248_29 : decode (eb_b 248) 29 = .ok (.aaload, 1) := by decide +kernel
theorem d248_30 : decode (eb_b 248) 30 = .ok (.aload_n 0, 1) := by decide +kernel
theorem d248_31 : decode (eb_b 248) 31 = .ok (.getfield 39, 3) := by decide +kernel
theorem d248_34 : decode (eb_b 248) 34 = .ok (.iload_n 2, 1) := by decide +kernel
theorem d248_35 : decode (eb_b 248) 35 = .ok (.aaload, 1) := by decide +kernel
theorem d248_36 : decode (eb_b 248) 36 = .ok (.invokestatic 331, 3) := by decide +kernel
theorem wc_247 : Cond.code (eb_y 247) (eb_b 247) (eb_ml 247) (eb_rt 247) ∈ eb_LT := eb_lt 1210 (by decide +kernel)
theorem cy_247 : (eb_y 247).cls ≠ "java/lang/invoke/MethodHandle" ∧ (eb_y 247).cls ≠ "java/lang/invoke/VarHandle" ∧ (parseMethodDescriptor (eb_y 247).desc).map (fun d => d.parameters.length) = some 2 := by decide +kernel
theorem wst_247 : Cond.static (eb_y 247) ∈ eb_LT := eb_lt 1209 (by decide +kernel)
theorem wn_247 : Cond.initialized (eb_y 247).cls ∈ eb_LT := eb_lt 83 (by decide +kernel)
theorem kS_247 {L q0 m pc : Nat} {lg : Nat → Bool} {ix : Nat} (hw : Cond.methodLink (eb_own m) ix (eb_y 247) ∈ eb_LT) (hd : decode (eb_b m) pc = .ok (.invokestatic ix, 3)) : eb_Snd L q0 m pc lg (op_callv 247 2 (pc + 3)) := sn_callS true rfl (Or.inl ⟨rfl, rfl⟩) (by decide) ⟨⟨hw, wst_247, wn_247⟩, wc_247⟩ cy_247 hd
theorem wm_6_331 : Cond.methodLink (eb_cN 6) 331 (eb_y 247) ∈ eb_LT := eb_lt 1208 (by decide +kernel)
theorem d248_39 : decode (eb_b 248) 39 = .ok (.aload_n 1, 1) := by decide +kernel
theorem d248_40 : decode (eb_b 248) 40 = .ok (.getfield 42, 3) := by decide +kernel
theorem d248_43 : decode (eb_b 248) 43 = .ok (.iload_n 2, 1) := by decide +kernel
theorem d248_44 : decode (eb_b 248) 44 = .ok (.aaload, 1) := by decide +kernel
theorem d248_45 : decode (eb_b 248) 45 = .ok (.aload_n 0, 1) := by decide +kernel
theorem d248_46 : decode (eb_b 248) 46 = .ok (.getfield 42, 3) := by decide +kernel
theorem d248_49 : decode (eb_b 248) 49 = .ok (.iload_n 2, 1) := by decide +kernel
theorem d248_50 : decode (eb_b 248) 50 = .ok (.aaload, 1) := by decide +kernel
theorem d248_51 : decode (eb_b 248) 51 = .ok (.invokestatic 331, 3) := by decide +kernel
theorem d248_54 : decode (eb_b 248) 54 = .ok (.iinc 2 1, 3) := by decide +kernel
theorem d248_57 : decode (eb_b 248) 57 = .ok (.goto (-39), 3) := by decide +kernel
theorem d248_60 : decode (eb_b 248) 60 = .ok (.aload_n 0, 1) := by decide +kernel
theorem d248_61 : decode (eb_b 248) 61 = .ok (.aload_n 1, 1) := by decide +kernel
theorem d248_62 : decode (eb_b 248) 62 = .ok (.getfield 132, 3) := by decide +kernel
theorem d248_65 : decode (eb_b 248) 65 = .ok (.putfield 132, 3) := by decide +kernel
theorem d248_68 : decode (eb_b 248) 68 = .ok (.aload_n 0, 1) := by decide +kernel
theorem d248_69 : decode (eb_b 248) 69 = .ok (.aload_n 1, 1) := by decide +kernel
theorem d248_70 : decode (eb_b 248) 70 = .ok (.getfield 293, 3) := by decide +kernel
theorem d248_73 : decode (eb_b 248) 73 = .ok (.putfield 293, 3) := by decide +kernel
theorem d248_76 : decode (eb_b 248) 76 = .ok (.aload_n 0, 1) := by decide +kernel
theorem d248_77 : decode (eb_b 248) 77 = .ok (.aload_n 1, 1) := by decide +kernel
theorem d248_78 : decode (eb_b 248) 78 = .ok (.getfield 45, 3) := by decide +kernel
theorem d248_81 : decode (eb_b 248) 81 = .ok (.putfield 45, 3) := by decide +kernel
theorem d248_84 : decode (eb_b 248) 84 = .ok (.return_, 1) := by decide +kernel
theorem d249_0 : decode (eb_b 249) 0 = .ok (.aload_n 0, 1) := by decide +kernel
theorem d249_1 : decode (eb_b 249) 1 = .ok (.getfield 335, 3) := by decide +kernel
theorem wf_6_335 : Cond.fieldLink (eb_cN 6) 335 (eb_tT 6 16).1 (eb_tT 6 16).2.1 (eb_tT 6 16).2.2.1 ∈ eb_LT := eb_lt 972 (by decide +kernel)
theorem fi_6_16 : 16 < eb_nf 6 ∧ (eb_tt 6 16).isReference = true := ⟨by decide, rfl⟩
theorem d249_4 : decode (eb_b 249) 4 = .ok (.ifnonnull 14, 3) := by decide +kernel
theorem d249_7 : decode (eb_b 249) 7 = .ok (.aload_n 0, 1) := by decide +kernel
theorem d249_8 : decode (eb_b 249) 8 = .ok (.new 8, 3) := by decide +kernel
theorem d249_11 : decode (eb_b 249) 11 = .ok (.dup, 1) := by decide +kernel
theorem d249_12 : decode (eb_b 249) 12 = .ok (.invokespecial 330, 3) := by decide +kernel
theorem d249_15 : decode (eb_b 249) 15 = .ok (.putfield 335, 3) := by decide +kernel
theorem fp_6_16 : ∀ x : Option Nat, narrow (eb_tt 6 16) (va_rf x) = va_rf x ∧ fits (eb_tt 6 16) (va_rf x) = true := fun x => by cases x <;> exact ⟨rfl, rfl⟩
theorem d249_18 : decode (eb_b 249) 18 = .ok (.aload_n 0, 1) := by decide +kernel
theorem d249_19 : decode (eb_b 249) 19 = .ok (.getfield 335, 3) := by decide +kernel
theorem d249_22 : decode (eb_b 249) 22 = .ok (.aload_n 0, 1) := by decide +kernel
theorem d249_23 : decode (eb_b 249) 23 = .ok (.invokevirtual 234, 3) := by decide +kernel
theorem d249_26 : decode (eb_b 249) 26 = .ok (.iconst 1, 1) := by decide +kernel
theorem d249_27 : decode (eb_b 249) 27 = .ok (.ireturn, 1) := by decide +kernel
theorem d250_0 : decode (eb_b 250) 0 = .ok (.aload_n 0, 1) := by decide +kernel
theorem d250_1 : decode (eb_b 250) 1 = .ok (.getfield 335, 3) := by decide +kernel
theorem d250_4 : decode (eb_b 250) 4 = .ok (.ifnonnull 10, 3) := by decide +kernel
theorem d250_7 : decode (eb_b 250) 7 = .ok (.aload_n 0, 1) := by decide +kernel
theorem d250_8 : decode (eb_b 250) 8 = .ok (.bipush (-5), 2) := by decide +kernel
theorem d250_10 : decode (eb_b 250) 10 = .ok (.invokevirtual 91, 3) := by decide +kernel
theorem d250_13 : decode (eb_b 250) 13 = .ok (.ireturn, 1) := by decide +kernel
theorem d250_14 : decode (eb_b 250) 14 = .ok (.aload_n 0, 1) := by decide +kernel
theorem d250_15 : decode (eb_b 250) 15 = .ok (.aload_n 0, 1) := by decide +kernel
theorem d250_16 : decode (eb_b 250) 16 = .ok (.getfield 335, 3) := by decide +kernel
theorem d250_19 : decode (eb_b 250) 19 = .ok (.invokevirtual 234, 3) := by decide +kernel
theorem d250_22 : decode (eb_b 250) 22 = .ok (.iconst 0, 1) := by decide +kernel
theorem d250_23 : decode (eb_b 250) 23 = .ok (.istore_n 1, 1) := by decide +kernel
theorem hn250_1 : 1 < eb_ml 250 := by decide
theorem d250_24 : decode (eb_b 250) 24 = .ok (.iload_n 1, 1) := by decide +kernel
theorem d250_25 : decode (eb_b 250) 25 = .ok (.bipush 8, 2) := by decide +kernel
theorem d250_27 : decode (eb_b 250) 27 = .ok (.if_icmp .ge 39, 3) := by decide +kernel
theorem d250_30 : decode (eb_b 250) 30 = .ok (.aload_n 0, 1) := by decide +kernel
theorem d250_31 : decode (eb_b 250) 31 = .ok (.getfield 7, 3) := by decide +kernel
theorem d250_34 : decode (eb_b 250) 34 = .ok (.iload_n 1, 1) := by decide +kernel
theorem d250_35 : decode (eb_b 250) 35 = .ok (.iaload, 1) := by decide +kernel
theorem d250_36 : decode (eb_b 250) 36 = .ok (.iconst 2, 1) := by decide +kernel
theorem d250_37 : decode (eb_b 250) 37 = .ok (.if_icmp .ne 23, 3) := by decide +kernel
theorem d250_40 : decode (eb_b 250) 40 = .ok (.aload_n 0, 1) := by decide +kernel
theorem d250_41 : decode (eb_b 250) 41 = .ok (.getfield 28, 3) := by decide +kernel
theorem d250_44 : decode (eb_b 250) 44 = .ok (.iload_n 1, 1) := by decide +kernel
theorem d250_45 : decode (eb_b 250) 45 = .ok (.iaload, 1) := by decide +kernel
theorem d250_46 : decode (eb_b 250) 46 = .ok (.aload_n 0, 1) := by decide +kernel
theorem d250_47 : decode (eb_b 250) 47 = .ok (.getfield 80, 3) := by decide +kernel
theorem d250_50 : decode (eb_b 250) 50 = .ok (.if_icmp .lt 10, 3) := by decide +kernel
theorem d250_53 : decode (eb_b 250) 53 = .ok (.aload_n 0, 1) := by decide +kernel
theorem d250_54 : decode (eb_b 250) 54 = .ok (.getfield 7, 3) := by decide +kernel
theorem d250_57 : decode (eb_b 250) 57 = .ok (.iload_n 1, 1) := by decide +kernel
theorem d250_58 : decode (eb_b 250) 58 = .ok (.iconst 0, 1) := by decide +kernel
theorem d250_59 : decode (eb_b 250) 59 = .ok (.iastore, 1) := by decide +kernel
theorem d250_60 : decode (eb_b 250) 60 = .ok (.iinc 1 1, 3) := by decide +kernel
theorem d250_63 : decode (eb_b 250) 63 = .ok (.goto (-39), 3) := by decide +kernel
theorem d250_66 : decode (eb_b 250) 66 = .ok (.iconst 1, 1) := by decide +kernel
theorem d250_67 : decode (eb_b 250) 67 = .ok (.ireturn, 1) := by decide +kernel
theorem d251_0 : decode (eb_b 251) 0 = .ok (.iconst 0, 1) := by decide +kernel
theorem d251_1 : decode (eb_b 251) 1 = .ok (.istore_n 2, 1) := by decide +kernel
theorem hn251_2 : 2 < eb_ml 251 := by decide
theorem d251_2 : decode (eb_b 251) 2 = .ok (.iload_n 1, 1) := by decide +kernel
theorem d251_3 : decode (eb_b 251) 3 = .ok (.tableswitch 214 0 9 #[53, 58, 63, 68, 108, 137, 166, 171, 176, 181], 53) := by decide +kernel
theorem d251_56 : decode (eb_b 251) 56 = .ok (.aload_n 0, 1) := by decide +kernel
theorem d251_57 : decode (eb_b 251) 57 = .ok (.getfield 73, 3) := by decide +kernel
theorem d251_60 : decode (eb_b 251) 60 = .ok (.ireturn, 1) := by decide +kernel
theorem d251_61 : decode (eb_b 251) 61 = .ok (.aload_n 0, 1) := by decide +kernel
theorem d251_62 : decode (eb_b 251) 62 = .ok (.getfield 80, 3) := by decide +kernel
theorem d251_65 : decode (eb_b 251) 65 = .ok (.ireturn, 1) := by decide +kernel
theorem d251_66 : decode (eb_b 251) 66 = .ok (.aload_n 0, 1) := by decide +kernel
theorem d251_67 : decode (eb_b 251) 67 = .ok (.getfield 132, 3) := by decide +kernel
theorem d251_70 : decode (eb_b 251) 70 = .ok (.ireturn, 1) := by decide +kernel
theorem d251_71 : decode (eb_b 251) 71 = .ok (.iconst 0, 1) := by decide +kernel
theorem d251_72 : decode (eb_b 251) 72 = .ok (.istore_n 3, 1) := by decide +kernel
theorem hn251_3 : 3 < eb_ml 251 := by decide
theorem d251_73 : decode (eb_b 251) 73 = .ok (.iload_n 3, 1) := by decide +kernel
theorem d251_74 : decode (eb_b 251) 74 = .ok (.aload_n 0, 1) := by decide +kernel
theorem d251_75 : decode (eb_b 251) 75 = .ok (.getfield 73, 3) := by decide +kernel
theorem d251_78 : decode (eb_b 251) 78 = .ok (.if_icmp .ge 31, 3) := by decide +kernel
theorem d251_81 : decode (eb_b 251) 81 = .ok (.iload_n 2, 1) := by decide +kernel
theorem d251_82 : decode (eb_b 251) 82 = .ok (.aload_n 0, 1) := by decide +kernel
theorem d251_83 : decode (eb_b 251) 83 = .ok (.getfield 39, 3) := by decide +kernel
theorem d251_86 : decode (eb_b 251) 86 = .ok (.iload_n 3, 1) := by decide +kernel
theorem d251_87 : decode (eb_b 251) 87 = .ok (.aaload, 1) := by decide +kernel
theorem d251_88 : decode (eb_b 251) 88 = .ok (.iconst 4, 1) := by decide +kernel
theorem d251_89 : decode (eb_b 251) 89 = .ok (.iaload, 1) := by decide +kernel
theorem d251_90 : decode (eb_b 251) 90 = .ok (.iconst (-1), 1) := by decide +kernel
theorem d251_91 : decode (eb_b 251) 91 = .ok (.if_icmp .eq 9, 3) := by decide +kernel
theorem d251_94 : decode (eb_b 251) 94 = .ok (.iconst 1, 1) := by decide +kernel
theorem d251_95 : decode (eb_b 251) 95 = .ok (.iload_n 3, 1) := by decide +kernel
theorem d251_96 : decode (eb_b 251) 96 = .ok (.ishl, 1) := by decide +kernel
theorem d251_97 : decode (eb_b 251) 97 = .ok (.goto 4, 3) := by decide +kernel
theorem d251_100 : decode (eb_b 251) 100 = .ok (.iconst 0, 1) := by decide +kernel
theorem d251_101 : decode (eb_b 251) 101 = .ok (.ior, 1) := by decide +kernel
theorem d251_102 : decode (eb_b 251) 102 = .ok (.istore_n 2, 1) := by decide +kernel
theorem d251_103 : decode (eb_b 251) 103 = .ok (.iinc 3 1, 3) := by decide +kernel
theorem d251_106 : decode (eb_b 251) 106 = .ok (.goto (-33), 3) := by decide +kernel
theorem d251_109 : decode (eb_b 251) 109 = .ok (.iload_n 2, 1) := by decide +kernel
theorem d251_110 : decode (eb_b 251) 110 = .ok (.ireturn, 1) := by decide +kernel
theorem d251_111 : decode (eb_b 251) 111 = .ok (.iconst 0, 1) := by decide +kernel
theorem d251_112 : decode (eb_b 251) 112 = .ok (.istore_n 3, 1) := by decide +kernel
theorem d251_113 : decode (eb_b 251) 113 = .ok (.iload_n 3, 1) := by decide +kernel
theorem d251_114 : decode (eb_b 251) 114 = .ok (.aload_n 0, 1) := by decide +kernel
theorem d251_115 : decode (eb_b 251) 115 = .ok (.getfield 73, 3) := by decide +kernel
theorem d251_118 : decode (eb_b 251) 118 = .ok (.if_icmp .ge 20, 3) := by decide +kernel
theorem d251_121 : decode (eb_b 251) 121 = .ok (.iload_n 2, 1) := by decide +kernel
theorem d251_122 : decode (eb_b 251) 122 = .ok (.aload_n 0, 1) := by decide +kernel
theorem d251_123 : decode (eb_b 251) 123 = .ok (.getfield 39, 3) := by decide +kernel
theorem d251_126 : decode (eb_b 251) 126 = .ok (.iload_n 3, 1) := by decide +kernel
theorem d251_127 : decode (eb_b 251) 127 = .ok (.aaload, 1) := by decide +kernel
theorem d251_128 : decode (eb_b 251) 128 = .ok (.iconst 2, 1) := by decide +kernel
theorem d251_129 : decode (eb_b 251) 129 = .ok (.iaload, 1) := by decide +kernel
theorem d251_130 : decode (eb_b 251) 130 = .ok (.iadd, 1) := by decide +kernel
theorem d251_131 : decode (eb_b 251) 131 = .ok (.istore_n 2, 1) := by decide +kernel
theorem d251_132 : decode (eb_b 251) 132 = .ok (.iinc 3 1, 3) := by decide +kernel
theorem d251_135 : decode (eb_b 251) 135 = .ok (.goto (-22), 3) := by decide +kernel
theorem d251_138 : decode (eb_b 251) 138 = .ok (.iload_n 2, 1) := by decide +kernel
theorem d251_139 : decode (eb_b 251) 139 = .ok (.ireturn, 1) := by decide +kernel
theorem d251_140 : decode (eb_b 251) 140 = .ok (.iconst 0, 1) := by decide +kernel
theorem d251_141 : decode (eb_b 251) 141 = .ok (.istore_n 3, 1) := by decide +kernel
theorem d251_142 : decode (eb_b 251) 142 = .ok (.iload_n 3, 1) := by decide +kernel
theorem d251_143 : decode (eb_b 251) 143 = .ok (.aload_n 0, 1) := by decide +kernel
theorem d251_144 : decode (eb_b 251) 144 = .ok (.getfield 80, 3) := by decide +kernel
theorem d251_147 : decode (eb_b 251) 147 = .ok (.if_icmp .ge 20, 3) := by decide +kernel
theorem d251_150 : decode (eb_b 251) 150 = .ok (.iload_n 2, 1) := by decide +kernel
theorem d251_151 : decode (eb_b 251) 151 = .ok (.aload_n 0, 1) := by decide +kernel
theorem d251_152 : decode (eb_b 251) 152 = .ok (.getfield 42, 3) := by decide +kernel
theorem d251_155 : decode (eb_b 251) 155 = .ok (.iload_n 3, 1) := by decide +kernel
theorem d251_156 : decode (eb_b 251) 156 = .ok (.aaload, 1) := by decide +kernel
theorem d251_157 : decode (eb_b 251) 157 = .ok (.iconst 1, 1) := by decide +kernel
theorem d251_158 : decode (eb_b 251) 158 = .ok (.iaload, 1) := by decide +kernel
theorem d251_159 : decode (eb_b 251) 159 = .ok (.iadd, 1) := by decide +kernel
theorem d251_160 : decode (eb_b 251) 160 = .ok (.istore_n 2, 1) := by decide +kernel
theorem d251_161 : decode (eb_b 251) 161 = .ok (.iinc 3 1, 3) := by decide +kernel
theorem d251_164 : decode (eb_b 251) 164 = .ok (.goto (-22), 3) := by decide +kernel
theorem d251_167 : decode (eb_b 251) 167 = .ok (.iload_n 2, 1) := by decide +kernel
theorem d251_168 : decode (eb_b 251) 168 = .ok (.ireturn, 1) := by decide +kernel
theorem d251_169 : decode (eb_b 251) 169 = .ok (.aload_n 0, 1) := by decide +kernel
theorem d251_170 : decode (eb_b 251) 170 = .ok (.getfield 293, 3) := by decide +kernel
theorem d251_173 : decode (eb_b 251) 173 = .ok (.ireturn, 1) := by decide +kernel
theorem d251_174 : decode (eb_b 251) 174 = .ok (.aload_n 0, 1) := by decide +kernel
theorem d251_175 : decode (eb_b 251) 175 = .ok (.getfield 147, 3) := by decide +kernel
theorem d251_178 : decode (eb_b 251) 178 = .ok (.ireturn, 1) := by decide +kernel
theorem d251_179 : decode (eb_b 251) 179 = .ok (.aload_n 0, 1) := by decide +kernel
theorem d251_180 : decode (eb_b 251) 180 = .ok (.getfield 45, 3) := by decide +kernel
theorem d251_183 : decode (eb_b 251) 183 = .ok (.ireturn, 1) := by decide +kernel
theorem d251_184 : decode (eb_b 251) 184 = .ok (.iconst 0, 1) := by decide +kernel
theorem d251_185 : decode (eb_b 251) 185 = .ok (.istore_n 3, 1) := by decide +kernel
theorem d251_186 : decode (eb_b 251) 186 = .ok (.iload_n 3, 1) := by decide +kernel
theorem d251_187 : decode (eb_b 251) 187 = .ok (.bipush 8, 2) := by decide +kernel
theorem d251_189 : decode (eb_b 251) 189 = .ok (.if_icmp .ge 26, 3) := by decide +kernel
theorem d251_192 : decode (eb_b 251) 192 = .ok (.iload_n 2, 1) := by decide +kernel
theorem d251_193 : decode (eb_b 251) 193 = .ok (.aload_n 0, 1) := by decide +kernel
theorem d251_194 : decode (eb_b 251) 194 = .ok (.getfield 7, 3) := by decide +kernel
theorem d251_197 : decode (eb_b 251) 197 = .ok (.iload_n 3, 1) := by decide +kernel
theorem d251_198 : decode (eb_b 251) 198 = .ok (.iaload, 1) := by decide +kernel
theorem d251_199 : decode (eb_b 251) 199 = .ok (.ifCond .eq 7, 3) := by decide +kernel
theorem d251_202 : decode (eb_b 251) 202 = .ok (.iconst 1, 1) := by decide +kernel
theorem d251_203 : decode (eb_b 251) 203 = .ok (.goto 4, 3) := by decide +kernel
theorem d251_206 : decode (eb_b 251) 206 = .ok (.iconst 0, 1) := by decide +kernel
theorem d251_207 : decode (eb_b 251) 207 = .ok (.iadd, 1) := by decide +kernel
theorem d251_208 : decode (eb_b 251) 208 = .ok (.istore_n 2, 1) := by decide +kernel
theorem d251_209 : decode (eb_b 251) 209 = .ok (.iinc 3 1, 3) := by decide +kernel
theorem d251_212 : decode (eb_b 251) 212 = .ok (.goto (-26), 3) := by decide +kernel
theorem d251_215 : decode (eb_b 251) 215 = .ok (.iload_n 2, 1) := by decide +kernel
theorem d251_216 : decode (eb_b 251) 216 = .ok (.ireturn, 1) := by decide +kernel
theorem d251_217 : decode (eb_b 251) 217 = .ok (.iload_n 1, 1) := by decide +kernel
theorem d251_218 : decode (eb_b 251) 218 = .ok (.i2l, 1) := by decide +kernel
theorem d251_219 : decode (eb_b 251) 219 = .ok (.ldc2_w 83, 3) := by decide +kernel
theorem d251_222 : decode (eb_b 251) 222 = .ok (.ldc2_w 338, 3) := by decide +kernel
theorem wl_6_338 : Cond.constantLong (eb_cN 6) 338 16 ∈ eb_LT := eb_lt 1507 (by decide +kernel)
theorem d251_225 : decode (eb_b 251) 225 = .ok (.invokestatic 76, 3) := by decide +kernel
theorem d251_228 : decode (eb_b 251) 228 = .ok (.ifCond .eq 15, 3) := by decide +kernel
theorem d251_231 : decode (eb_b 251) 231 = .ok (.aload_n 0, 1) := by decide +kernel
theorem d251_232 : decode (eb_b 251) 232 = .ok (.getfield 34, 3) := by decide +kernel
theorem d251_235 : decode (eb_b 251) 235 = .ok (.iload_n 1, 1) := by decide +kernel
theorem d251_236 : decode (eb_b 251) 236 = .ok (.bipush 10, 2) := by decide +kernel
theorem d251_238 : decode (eb_b 251) 238 = .ok (.isub, 1) := by decide +kernel
theorem d251_239 : decode (eb_b 251) 239 = .ok (.iaload, 1) := by decide +kernel
theorem d251_240 : decode (eb_b 251) 240 = .ok (.goto 4, 3) := by decide +kernel
theorem d251_243 : decode (eb_b 251) 243 = .ok (.iconst (-1), 1) := by decide +kernel
theorem d251_244 : decode (eb_b 251) 244 = .ok (.ireturn, 1) := by decide +kernel
theorem d252_0 : decode (eb_b 252) 0 = .ok (.iload_n 0, 1) := by decide +kernel
theorem d252_1 : decode (eb_b 252) 1 = .ok (.iload_n 0, 1) := by decide +kernel
theorem d252_2 : decode (eb_b 252) 2 = .ok (.iconst 1, 1) := by decide +kernel
theorem d252_3 : decode (eb_b 252) 3 = .ok (.iushr, 1) := by decide +kernel
theorem d252_4 : decode (eb_b 252) 4 = .ok (.ldc_w 265, 3) := by decide +kernel
theorem wk_7_265 : Cond.constant (eb_cN 7) 265 1431655765 ∈ eb_LT := eb_lt 833 (by decide +kernel)
theorem d252_7 : decode (eb_b 252) 7 = .ok (.iand, 1) := by decide +kernel
theorem d252_8 : decode (eb_b 252) 8 = .ok (.isub, 1) := by decide +kernel
theorem d252_9 : decode (eb_b 252) 9 = .ok (.istore_n 0, 1) := by decide +kernel
theorem hn252_0 : 0 < eb_ml 252 := by decide
theorem d252_10 : decode (eb_b 252) 10 = .ok (.iload_n 0, 1) := by decide +kernel
theorem d252_11 : decode (eb_b 252) 11 = .ok (.ldc_w 266, 3) := by decide +kernel
theorem wk_7_266 : Cond.constant (eb_cN 7) 266 858993459 ∈ eb_LT := eb_lt 834 (by decide +kernel)
theorem d252_14 : decode (eb_b 252) 14 = .ok (.iand, 1) := by decide +kernel
theorem d252_15 : decode (eb_b 252) 15 = .ok (.iload_n 0, 1) := by decide +kernel
theorem d252_16 : decode (eb_b 252) 16 = .ok (.iconst 2, 1) := by decide +kernel
theorem d252_17 : decode (eb_b 252) 17 = .ok (.iushr, 1) := by decide +kernel
theorem d252_18 : decode (eb_b 252) 18 = .ok (.ldc_w 266, 3) := by decide +kernel
theorem d252_21 : decode (eb_b 252) 21 = .ok (.iand, 1) := by decide +kernel
theorem d252_22 : decode (eb_b 252) 22 = .ok (.iadd, 1) := by decide +kernel
theorem d252_23 : decode (eb_b 252) 23 = .ok (.istore_n 0, 1) := by decide +kernel
theorem d252_24 : decode (eb_b 252) 24 = .ok (.iload_n 0, 1) := by decide +kernel
theorem d252_25 : decode (eb_b 252) 25 = .ok (.iload_n 0, 1) := by decide +kernel
theorem d252_26 : decode (eb_b 252) 26 = .ok (.iconst 4, 1) := by decide +kernel
theorem d252_27 : decode (eb_b 252) 27 = .ok (.iushr, 1) := by decide +kernel
theorem d252_28 : decode (eb_b 252) 28 = .ok (.iadd, 1) := by decide +kernel
theorem d252_29 : decode (eb_b 252) 29 = .ok (.ldc_w 267, 3) := by decide +kernel
theorem wk_7_267 : Cond.constant (eb_cN 7) 267 252645135 ∈ eb_LT := eb_lt 835 (by decide +kernel)
theorem d252_32 : decode (eb_b 252) 32 = .ok (.iand, 1) := by decide +kernel
theorem d252_33 : decode (eb_b 252) 33 = .ok (.istore_n 0, 1) := by decide +kernel
theorem d252_34 : decode (eb_b 252) 34 = .ok (.iload_n 0, 1) := by decide +kernel
theorem d252_35 : decode (eb_b 252) 35 = .ok (.iload_n 0, 1) := by decide +kernel
theorem d252_36 : decode (eb_b 252) 36 = .ok (.bipush 8, 2) := by decide +kernel
theorem d252_38 : decode (eb_b 252) 38 = .ok (.iushr, 1) := by decide +kernel
theorem d252_39 : decode (eb_b 252) 39 = .ok (.iadd, 1) := by decide +kernel
theorem d252_40 : decode (eb_b 252) 40 = .ok (.istore_n 0, 1) := by decide +kernel
theorem d252_41 : decode (eb_b 252) 41 = .ok (.iload_n 0, 1) := by decide +kernel
theorem d252_42 : decode (eb_b 252) 42 = .ok (.iload_n 0, 1) := by decide +kernel
theorem d252_43 : decode (eb_b 252) 43 = .ok (.bipush 16, 2) := by decide +kernel
theorem d252_45 : decode (eb_b 252) 45 = .ok (.iushr, 1) := by decide +kernel
theorem d252_46 : decode (eb_b 252) 46 = .ok (.iadd, 1) := by decide +kernel
theorem d252_47 : decode (eb_b 252) 47 = .ok (.istore_n 0, 1) := by decide +kernel
theorem d252_48 : decode (eb_b 252) 48 = .ok (.iload_n 0, 1) := by decide +kernel
theorem d252_49 : decode (eb_b 252) 49 = .ok (.bipush 63, 2) := by decide +kernel
theorem d252_51 : decode (eb_b 252) 51 = .ok (.iand, 1) := by decide +kernel
theorem d252_52 : decode (eb_b 252) 52 = .ok (.ireturn, 1) := by decide +kernel
section
variable {L q0 : Nat}
theorem sc233_0 : eb_AS L q0 233 (eb_lg 233) [(0, op_iload 1 1), (1, op_i2l 2), (2, op_push (zl 1) 3), (3, op_push (zl 3) 6), (6, op_call 146 3 9), (9, op_ifeq 27 12), (12, op_iload 2 13), (13, op_i2l 14), (14, op_push (zl (-1)) 17), (17, op_iload 1 18), (18, op_push (zi 1) 19), (19, op_ii (· - ·) 20), (20, op_i2l 21), (21, op_call 146 3 24), (24, op_ifne 37 27), (27, op_push (zi (-1000000)) 29), (29, op_aload 0 30), (30, op_push (zi (-2)) 32), (32, op_call 145 2 35), (35, op_ii (· + ·) 36), (36, op_iret), (37, op_aload 0 38), (38, op_iload 1 39), (39, op_callv 232 2 42), (42, op_iload 2 43), (43, op_push (zi (-1)) 44), (44, op_icne 54 47), (47, op_aload 0 48), (48, op_getI L 6 32 51), (51, op_goto 60), (54, op_aload 0 55), (55, op_getR L 6 33 58), (58, op_iload 2 59), (59, op_iald L 60), (60, op_iret)] := ⟨sn_iload_n d233_0 rfl, sn_i2l d233_1, sn_lconst d233_2 (by decide), sn_ldc2 d233_3 wl_6_314, kS_146 wm_6_76 d233_6, sn_ifeq d233_9 (by decide), sn_iload_n d233_12 rfl, sn_i2l d233_13, sn_ldc2 d233_14 wl_6_130, sn_iload_n d233_17 rfl, sn_iconst d233_18 (by decide), sn_isub d233_19, sn_i2l d233_20, kS_146 wm_6_76 d233_21, sn_ifne d233_24 (by decide), sn_ldc d233_27 wk_6_252, sn_aload_n d233_29 rfl, sn_bipush d233_30 (by decide), kV_145 wm_6_91 d233_32, sn_iadd d233_35, sn_iret d233_36 rfl, sn_aload_n d233_37 rfl, sn_iload_n d233_38 rfl, kV_232 wm_6_316 d233_39, sn_iload_n d233_42 rfl, sn_iconst d233_43 (by decide), sn_icne d233_44 (by decide), sn_aload_n d233_47 rfl, sn_getI (by decide) fi_6_32.1 fi_6_32.2 wf_6_308 d233_48, sn_goto d233_51 (by decide), sn_aload_n d233_54 rfl, sn_getR (by decide) fi_6_33.1 fi_6_33.2 wf_6_70 d233_55, sn_iload_n d233_58 rfl, sn_iald d233_59, sn_iret d233_60 rfl, trivial⟩
theorem sd233 : ∀ pc, eb_Snd L q0 233 pc (eb_lg 233) (eb_cd L 233 pc) := eb_AS_all (hk233 (L := L)) (sc233_0)
theorem sc234_0 : eb_AS L q0 234 (eb_lg 234) [(0, op_push (zi 0) 1), (1, op_istore 2 2), (2, op_push (zi 0) 3), (3, op_istore 3 4), (4, op_iload 3 5), (5, op_iload 1 6), (6, op_icge 64 9), (9, op_aload 0 10), (10, op_callv 223 1 13), (13, op_push (zi 0) 14), (14, op_istore 4 16), (16, op_iload 4 18), (18, op_aload 0 19), (19, op_getI L 6 11 22), (22, op_icge 58 25), (25, op_iload 2 26), (26, op_aload 0 27), (27, op_getR L 6 12 30), (30, op_iload 4 32), (32, op_aald L 33), (33, op_push (zi 0) 34), (34, op_iald L 35), (35, op_push (zi 3) 36), (36, op_icne 49 39), (39, op_aload 0 40), (40, op_getR L 6 30 43), (43, op_iload 4 45), (45, op_iald L 46), (46, op_goto 50), (49, op_push (zi 0) 50), (50, op_ii (· + ·) 51), (51, op_istore 2 52), (52, op_iinc 4 1 55), (55, op_goto 16), (58, op_iinc 3 1 61), (61, op_goto 4), (64, op_iload 2 65), (65, op_iret)] := ⟨sn_iconst d234_0 (by decide), sn_istore_n (eb_hlg (Or.inl rfl)) hn234_2 d234_1 rfl, sn_iconst d234_2 (by decide), sn_istore_n (eb_hlg (Or.inl rfl)) hn234_3 d234_3 rfl, sn_iload_n d234_4 rfl, sn_iload_n d234_5 rfl, sn_icge d234_6 (by decide), sn_aload_n d234_9 rfl, kV_223 wm_6_296 d234_10, sn_iconst d234_13 (by decide), sn_istore (eb_hlg (Or.inl rfl)) hn234_4 d234_14, sn_iload d234_16, sn_aload_n d234_18 rfl, sn_getI (by decide) fi_6_11.1 fi_6_11.2 wf_6_80 d234_19, sn_icge d234_22 (by decide), sn_iload_n d234_25 rfl, sn_aload_n d234_26 rfl, sn_getR (by decide) fi_6_12.1 fi_6_12.2 wf_6_42 d234_27, sn_iload d234_30, sn_aald d234_32, sn_iconst d234_33 (by decide), sn_iald d234_34, sn_iconst d234_35 (by decide), sn_icne d234_36 (by decide), sn_aload_n d234_39 rfl, sn_getR (by decide) fi_6_30.1 fi_6_30.2 wf_6_64 d234_40, sn_iload d234_43, sn_iald d234_45, sn_goto d234_46 (by decide), sn_iconst d234_49 (by decide), sn_iadd d234_50, sn_istore_n (eb_hlg (Or.inl rfl)) hn234_2 d234_51 rfl, sn_iinc (eb_hlg (Or.inl rfl)) hn234_4 d234_52 (by decide), sn_goto d234_55 (by decide), sn_iinc (eb_hlg (Or.inl rfl)) hn234_3 d234_58 (by decide), sn_goto d234_61 (by decide), sn_iload_n d234_64 rfl, sn_iret d234_65 rfl, trivial⟩
theorem sd234 : ∀ pc, eb_Snd L q0 234 pc (eb_lg 234) (eb_cd L 234 pc) := eb_AS_all (hk234 (L := L)) (sc234_0)
theorem sc235_0 : eb_AS L q0 235 (eb_lg 235) [(0, op_iload 1 1), (1, op_call 150 1 4), (4, op_ifeq 15 7), (7, op_aload 0 8), (8, op_iload 2 9), (9, op_call 148 2 12), (12, op_ifne 25 15), (15, op_push (zi (-1000000)) 17), (17, op_aload 0 18), (18, op_push (zi (-2)) 20), (20, op_call 145 2 23), (23, op_ii (· + ·) 24), (24, op_iret), (25, op_aload 0 26), (26, op_getR L 6 10 29), (29, op_iload 2 30), (30, op_aald L 31), (31, op_push (zi 4) 32), (32, op_iald L 33), (33, op_push (zi (-1)) 34), (34, op_icne 47 37), (37, op_push (zi (-1000000)) 39), (39, op_aload 0 40), (40, op_push (zi (-5)) 42), (42, op_call 145 2 45), (45, op_ii (· + ·) 46), (46, op_iret), (47, op_aload 0 48), (48, op_call 246 1 51), (51, op_iload 1 52), (52, op_call 234 2 55), (55, op_istore 3 56), (56, op_aload 0 57), (57, op_call 246 1 60), (60, op_astore 4 62), (62, op_aload 4 64), (64, op_getR L 6 10 67), (67, op_iload 2 68), (68, op_aald L 69), (69, op_push (zi 4) 70)] := ⟨sn_iload_n d235_0 rfl, kS_150 wm_6_299 d235_1, sn_ifeq d235_4 (by decide), sn_aload_n d235_7 rfl, sn_iload_n d235_8 rfl, kV_148 wm_6_127 d235_9, sn_ifne d235_12 (by decide), sn_ldc d235_15 wk_6_252, sn_aload_n d235_17 rfl, sn_bipush d235_18 (by decide), kV_145 wm_6_91 d235_20, sn_iadd d235_23, sn_iret d235_24 rfl, sn_aload_n d235_25 rfl, sn_getR (by decide) fi_6_10.1 fi_6_10.2 wf_6_39 d235_26, sn_iload_n d235_29 rfl, sn_aald d235_30, sn_iconst d235_31 (by decide), sn_iald d235_32, sn_iconst d235_33 (by decide), sn_icne d235_34 (by decide), sn_ldc d235_37 wk_6_252, sn_aload_n d235_39 rfl, sn_bipush d235_40 (by decide), kV_145 wm_6_91 d235_42, sn_iadd d235_45, sn_iret d235_46 rfl, sn_aload_n d235_47 rfl, kV_246 wm_6_227 d235_48, sn_iload_n d235_51 rfl, kV_234 wm_6_319 d235_52, sn_istore_n (eb_hlg (Or.inl rfl)) hn235_3 d235_55 rfl, sn_aload_n d235_56 rfl, kV_246 wm_6_227 d235_57, sn_astore (eb_hlg (Or.inl rfl)) hn235_4 d235_60, sn_aload d235_62, sn_getR (by decide) fi_6_10.1 fi_6_10.2 wf_6_39 d235_64, sn_iload_n d235_67 rfl, sn_aald d235_68, sn_iconst d235_69 (by decide), trivial⟩
theorem sc235_1 : eb_AS L q0 235 (eb_lg 235) [(70, op_push (zi (-1)) 71), (71, op_iast L 72), (72, op_aload 4 74), (74, op_iload 1 75), (75, op_call 234 2 78), (78, op_iload 3 79), (79, op_ii (· - ·) 80), (80, op_iret)] := ⟨sn_iconst d235_70 (by decide), sn_iast d235_71, sn_aload d235_72, sn_iload_n d235_74 rfl, kV_234 wm_6_319 d235_75, sn_iload_n d235_78 rfl, sn_isub d235_79, sn_iret d235_80 rfl, trivial⟩
theorem sd235 : ∀ pc, eb_Snd L q0 235 pc (eb_lg 235) (eb_cd L 235 pc) := eb_AS_all (hk235 (L := L)) (eb_AS_app sc235_0 (sc235_1))
theorem sc236_0 : eb_AS L q0 236 (eb_lg 236) [(0, op_iload 1 1), (1, op_call 150 1 4), (4, op_ifeq 27 7), (7, op_aload 0 8), (8, op_iload 2 9), (9, op_call 148 2 12), (12, op_ifeq 27 15), (15, op_iload 3 16), (16, op_i2l 17), (17, op_push (zl 0) 18), (18, op_push (zl 100) 21), (21, op_call 146 3 24), (24, op_ifne 37 27), (27, op_push (zi (-1000000)) 29), (29, op_aload 0 30), (30, op_push (zi (-2)) 32), (32, op_call 145 2 35), (35, op_ii (· + ·) 36), (36, op_iret), (37, op_aload 0 38), (38, op_call 246 1 41), (41, op_iload 1 42), (42, op_push (zi (-1)) 43), (43, op_call 224 3 46), (46, op_istore 4 48), (48, op_aload 0 49), (49, op_call 246 1 52), (52, op_astore 5 54), (54, op_aload 5 56), (56, op_getR L 6 10 59), (59, op_iload 2 60), (60, op_aald L 61), (61, op_push (zi 4) 62), (62, op_iload 3 63), (63, op_iast L 64), (64, op_aload 5 66), (66, op_iload 1 67), (67, op_push (zi (-1)) 68), (68, op_call 224 3 71), (71, op_iload 4 73)] := ⟨sn_iload_n d236_0 rfl, kS_150 wm_6_299 d236_1, sn_ifeq d236_4 (by decide), sn_aload_n d236_7 rfl, sn_iload_n d236_8 rfl, kV_148 wm_6_127 d236_9, sn_ifeq d236_12 (by decide), sn_iload_n d236_15 rfl, sn_i2l d236_16, sn_lconst d236_17 (by decide), sn_ldc2 d236_18 wl_6_115, kS_146 wm_6_76 d236_21, sn_ifne d236_24 (by decide), sn_ldc d236_27 wk_6_252, sn_aload_n d236_29 rfl, sn_bipush d236_30 (by decide), kV_145 wm_6_91 d236_32, sn_iadd d236_35, sn_iret d236_36 rfl, sn_aload_n d236_37 rfl, kV_246 wm_6_227 d236_38, sn_iload_n d236_41 rfl, sn_iconst d236_42 (by decide), kV_224 wm_6_302 d236_43, sn_istore (eb_hlg (Or.inl rfl)) hn236_4 d236_46, sn_aload_n d236_48 rfl, kV_246 wm_6_227 d236_49, sn_astore (eb_hlg (Or.inl rfl)) hn236_5 d236_52, sn_aload d236_54, sn_getR (by decide) fi_6_10.1 fi_6_10.2 wf_6_39 d236_56, sn_iload_n d236_59 rfl, sn_aald d236_60, sn_iconst d236_61 (by decide), sn_iload_n d236_62 rfl, sn_iast d236_63, sn_aload d236_64, sn_iload_n d236_66 rfl, sn_iconst d236_67 (by decide), kV_224 wm_6_302 d236_68, sn_iload d236_71, trivial⟩
theorem sc236_1 : eb_AS L q0 236 (eb_lg 236) [(73, op_ii (· - ·) 74), (74, op_iret)] := ⟨sn_isub d236_73, sn_iret d236_74 rfl, trivial⟩
theorem sd236 : ∀ pc, eb_Snd L q0 236 pc (eb_lg 236) (eb_cd L 236 pc) := eb_AS_all (hk236 (L := L)) (eb_AS_app sc236_0 (sc236_1))
theorem sc237_0 : eb_AS L q0 237 (eb_lg 237) [(0, op_aload 0 1), (1, op_iload 1 2), (2, op_call 148 2 5), (5, op_ifeq 20 8), (8, op_iload 2 9), (9, op_i2l 10), (10, op_push (zl 0) 11), (11, op_push (zl 100) 14), (14, op_call 146 3 17), (17, op_ifne 27 20), (20, op_aload 0 21), (21, op_push (zi (-2)) 23), (23, op_call 145 2 26), (26, op_iret), (27, op_aload 0 28), (28, op_call 246 1 31), (31, op_astore 3 32), (32, op_push (zi 1) 33), (33, op_istore 4 35), (35, op_iload 4 37), (37, op_push (zi 30) 39), (39, op_icgt 67 42), (42, op_aload 3 43), (43, op_callv 223 1 46), (46, op_aload 3 47), (47, op_getR L 6 10 50), (50, op_iload 1 51), (51, op_aald L 52), (52, op_push (zi 0) 53), (53, op_iald L 54), (54, op_iload 2 55), (55, op_icge 61 58), (58, op_iload 4 60), (60, op_iret), (61, op_iinc 4 1 64), (64, op_goto 35), (67, op_push (zi (-1)) 68), (68, op_iret)] := ⟨sn_aload_n d237_0 rfl, sn_iload_n d237_1 rfl, kV_148 wm_6_127 d237_2, sn_ifeq d237_5 (by decide), sn_iload_n d237_8 rfl, sn_i2l d237_9, sn_lconst d237_10 (by decide), sn_ldc2 d237_11 wl_6_115, kS_146 wm_6_76 d237_14, sn_ifne d237_17 (by decide), sn_aload_n d237_20 rfl, sn_bipush d237_21 (by decide), kV_145 wm_6_91 d237_23, sn_iret d237_26 rfl, sn_aload_n d237_27 rfl, kV_246 wm_6_227 d237_28, sn_astore_n (eb_hlg (Or.inl rfl)) hn237_3 d237_31 rfl, sn_iconst d237_32 (by decide), sn_istore (eb_hlg (Or.inl rfl)) hn237_4 d237_33, sn_iload d237_35, sn_bipush d237_37 (by decide), sn_icgt d237_39 (by decide), sn_aload_n d237_42 rfl, kV_223 wm_6_296 d237_43, sn_aload_n d237_46 rfl, sn_getR (by decide) fi_6_10.1 fi_6_10.2 wf_6_39 d237_47, sn_iload_n d237_50 rfl, sn_aald d237_51, sn_iconst d237_52 (by decide), sn_iald d237_53, sn_iload_n d237_54 rfl, sn_icge d237_55 (by decide), sn_iload d237_58, sn_iret d237_60 rfl, sn_iinc (eb_hlg (Or.inl rfl)) hn237_4 d237_61 (by decide), sn_goto d237_64 (by decide), sn_iconst d237_67 (by decide), sn_iret d237_68 rfl, trivial⟩
theorem sd237 : ∀ pc, eb_Snd L q0 237 pc (eb_lg 237) (eb_cd L 237 pc) := eb_AS_all (hk237 (L := L)) (sc237_0)
theorem sc238_0 : eb_AS L q0 238 (eb_lg 238) [(0, op_aload 0 1), (1, op_iload 1 2), (2, op_call 149 2 5), (5, op_ifeq 36 8), (8, op_aload 0 9), (9, op_iload 2 10), (10, op_call 148 2 13), (13, op_ifeq 36 16), (16, op_iload 3 17), (17, op_call 150 1 20), (20, op_ifeq 36 23), (23, op_iload 4 25), (25, op_i2l 26), (26, op_push (zl 0) 27), (27, op_push (zl 100) 30), (30, op_call 146 3 33), (33, op_ifne 43 36), (36, op_aload 0 37), (37, op_push (zi (-2)) 39), (39, op_call 145 2 42), (42, op_iret), (43, op_push (zi 30) 45), (45, op_istore 5 47), (47, op_iload 5 49), (49, op_push (zi 1) 50), (50, op_iclt 131 53), (53, op_aload 0 54), (54, op_call 246 1 57), (57, op_astore 6 59), (59, op_aload 6 61), (61, op_getR L 6 12 64), (64, op_iload 1 65), (65, op_aald L 66), (66, op_push (zi 1) 67), (67, op_iload 5 69), (69, op_iast L 70), (70, op_push (zi 1) 71), (71, op_istore 7 73), (73, op_push (zi 0) 74), (74, op_istore 8 76)] := ⟨sn_aload_n d238_0 rfl, sn_iload_n d238_1 rfl, kV_149 wm_6_102 d238_2, sn_ifeq d238_5 (by decide), sn_aload_n d238_8 rfl, sn_iload_n d238_9 rfl, kV_148 wm_6_127 d238_10, sn_ifeq d238_13 (by decide), sn_iload_n d238_16 rfl, kS_150 wm_6_299 d238_17, sn_ifeq d238_20 (by decide), sn_iload d238_23, sn_i2l d238_25, sn_lconst d238_26 (by decide), sn_ldc2 d238_27 wl_6_115, kS_146 wm_6_76 d238_30, sn_ifne d238_33 (by decide), sn_aload_n d238_36 rfl, sn_bipush d238_37 (by decide), kV_145 wm_6_91 d238_39, sn_iret d238_42 rfl, sn_bipush d238_43 (by decide), sn_istore (eb_hlg (Or.inl rfl)) hn238_5 d238_45, sn_iload d238_47, sn_iconst d238_49 (by decide), sn_iclt d238_50 (by decide), sn_aload_n d238_53 rfl, kV_246 wm_6_227 d238_54, sn_astore (eb_hlg (Or.inl rfl)) hn238_6 d238_57, sn_aload d238_59, sn_getR (by decide) fi_6_12.1 fi_6_12.2 wf_6_42 d238_61, sn_iload_n d238_64 rfl, sn_aald d238_65, sn_iconst d238_66 (by decide), sn_iload d238_67, sn_iast d238_69, sn_iconst d238_70 (by decide), sn_istore (eb_hlg (Or.inl rfl)) hn238_7 d238_71, sn_iconst d238_73 (by decide), sn_istore (eb_hlg (Or.inl rfl)) hn238_8 d238_74, trivial⟩
theorem sc238_1 : eb_AS L q0 238 (eb_lg 238) [(76, op_iload 8 78), (78, op_iload 3 79), (79, op_icge 117 82), (82, op_aload 6 84), (84, op_callv 223 1 87), (87, op_iload 7 89), (89, op_aload 6 91), (91, op_getR L 6 10 94), (94, op_iload 2 95), (95, op_aald L 96), (96, op_push (zi 0) 97), (97, op_iald L 98), (98, op_iload 4 100), (100, op_iclt 107 103), (103, op_push (zi 1) 104), (104, op_goto 108), (107, op_push (zi 0) 108), (108, op_ii (· &&& ·) 109), (109, op_istore 7 111), (111, op_iinc 8 1 114), (114, op_goto 76), (117, op_iload 7 119), (119, op_ifeq 125 122), (122, op_iload 5 124), (124, op_iret), (125, op_iinc 5 (-1) 128), (128, op_goto 47), (131, op_push (zi (-1)) 132), (132, op_iret)] := ⟨sn_iload d238_76, sn_iload_n d238_78 rfl, sn_icge d238_79 (by decide), sn_aload d238_82, kV_223 wm_6_296 d238_84, sn_iload d238_87, sn_aload d238_89, sn_getR (by decide) fi_6_10.1 fi_6_10.2 wf_6_39 d238_91, sn_iload_n d238_94 rfl, sn_aald d238_95, sn_iconst d238_96 (by decide), sn_iald d238_97, sn_iload d238_98, sn_iclt d238_100 (by decide), sn_iconst d238_103 (by decide), sn_goto d238_104 (by decide), sn_iconst d238_107 (by decide), sn_iand d238_108, sn_istore (eb_hlg (Or.inl rfl)) hn238_7 d238_109, sn_iinc (eb_hlg (Or.inl rfl)) hn238_8 d238_111 (by decide), sn_goto d238_114 (by decide), sn_iload d238_117, sn_ifeq d238_119 (by decide), sn_iload d238_122, sn_iret d238_124 rfl, sn_iinc (eb_hlg (Or.inl rfl)) hn238_5 d238_125 (by decide), sn_goto d238_128 (by decide), sn_iconst d238_131 (by decide), sn_iret d238_132 rfl, trivial⟩
theorem sd238 : ∀ pc, eb_Snd L q0 238 pc (eb_lg 238) (eb_cd L 238 pc) := eb_AS_all (hk238 (L := L)) (eb_AS_app sc238_0 (sc238_1))
theorem sc239_0 : eb_AS L q0 239 (eb_lg 239) [(0, op_aload 0 1), (1, op_iload 1 2), (2, op_call 148 2 5), (5, op_ifne 15 8), (8, op_aload 0 9), (9, op_push (zi (-2)) 11), (11, op_call 145 2 14), (14, op_iret), (15, op_aload 0 16), (16, op_call 246 1 19), (19, op_astore 2 20), (20, op_push (zi 0) 21), (21, op_istore 3 22), (22, op_iload 3 23), (23, op_aload 0 24), (24, op_getI L 6 9 27), (27, op_icge 45 30), (30, op_aload 2 31), (31, op_getR L 6 10 34), (34, op_iload 3 35), (35, op_aald L 36), (36, op_push (zi 4) 37), (37, op_push (zi (-1)) 38), (38, op_iast L 39), (39, op_iinc 3 1 42), (42, op_goto 22), (45, op_push (zi 1) 46), (46, op_istore 3 47), (47, op_iload 3 48), (48, op_push (zi 30) 50), (50, op_icgt 84 53), (53, op_aload 2 54), (54, op_callv 223 1 57), (57, op_aload 2 58), (58, op_getR L 6 10 61), (61, op_iload 1 62), (62, op_aald L 63), (63, op_push (zi 0) 64), (64, op_iald L 65), (65, op_aload 2 66)] := ⟨sn_aload_n d239_0 rfl, sn_iload_n d239_1 rfl, kV_148 wm_6_127 d239_2, sn_ifne d239_5 (by decide), sn_aload_n d239_8 rfl, sn_bipush d239_9 (by decide), kV_145 wm_6_91 d239_11, sn_iret d239_14 rfl, sn_aload_n d239_15 rfl, kV_246 wm_6_227 d239_16, sn_astore_n (eb_hlg (Or.inl rfl)) hn239_2 d239_19 rfl, sn_iconst d239_20 (by decide), sn_istore_n (eb_hlg (Or.inl rfl)) hn239_3 d239_21 rfl, sn_iload_n d239_22 rfl, sn_aload_n d239_23 rfl, sn_getI (by decide) fi_6_9.1 fi_6_9.2 wf_6_73 d239_24, sn_icge d239_27 (by decide), sn_aload_n d239_30 rfl, sn_getR (by decide) fi_6_10.1 fi_6_10.2 wf_6_39 d239_31, sn_iload_n d239_34 rfl, sn_aald d239_35, sn_iconst d239_36 (by decide), sn_iconst d239_37 (by decide), sn_iast d239_38, sn_iinc (eb_hlg (Or.inl rfl)) hn239_3 d239_39 (by decide), sn_goto d239_42 (by decide), sn_iconst d239_45 (by decide), sn_istore_n (eb_hlg (Or.inl rfl)) hn239_3 d239_46 rfl, sn_iload_n d239_47 rfl, sn_bipush d239_48 (by decide), sn_icgt d239_50 (by decide), sn_aload_n d239_53 rfl, kV_223 wm_6_296 d239_54, sn_aload_n d239_57 rfl, sn_getR (by decide) fi_6_10.1 fi_6_10.2 wf_6_39 d239_58, sn_iload_n d239_61 rfl, sn_aald d239_62, sn_iconst d239_63 (by decide), sn_iald d239_64, sn_aload_n d239_65 rfl, trivial⟩
theorem sc239_1 : eb_AS L q0 239 (eb_lg 239) [(66, op_getR L 6 10 69), (69, op_iload 1 70), (70, op_aald L 71), (71, op_push (zi 1) 72), (72, op_iald L 73), (73, op_iclt 78 76), (76, op_iload 3 77), (77, op_iret), (78, op_iinc 3 1 81), (81, op_goto 47), (84, op_push (zi (-1)) 85), (85, op_iret)] := ⟨sn_getR (by decide) fi_6_10.1 fi_6_10.2 wf_6_39 d239_66, sn_iload_n d239_69 rfl, sn_aald d239_70, sn_iconst d239_71 (by decide), sn_iald d239_72, sn_iclt d239_73 (by decide), sn_iload_n d239_76 rfl, sn_iret d239_77 rfl, sn_iinc (eb_hlg (Or.inl rfl)) hn239_3 d239_78 (by decide), sn_goto d239_81 (by decide), sn_iconst d239_84 (by decide), sn_iret d239_85 rfl, trivial⟩
theorem sd239 : ∀ pc, eb_Snd L q0 239 pc (eb_lg 239) (eb_cd L 239 pc) := eb_AS_all (hk239 (L := L)) (eb_AS_app sc239_0 (sc239_1))
theorem sc240_0 : eb_AS L q0 240 (eb_lg 240) [(0, op_iload 1 1), (1, op_call 150 1 4), (4, op_ifeq 15 7), (7, op_aload 0 8), (8, op_iload 2 9), (9, op_call 148 2 12), (12, op_ifne 22 15), (15, op_aload 0 16), (16, op_push (zi (-2)) 18), (18, op_call 145 2 21), (21, op_iret), (22, op_push (zi 0) 23), (23, op_istore 3 24), (24, op_push (zi (-1)) 25), (25, op_istore 4 27), (27, op_push (zi 0) 28), (28, op_istore 5 30), (30, op_iload 5 32), (32, op_push (zi 99) 34), (34, op_icgt 109 37), (37, op_aload 0 38), (38, op_call 246 1 41), (41, op_astore 6 43), (43, op_aload 6 45), (45, op_getR L 6 10 48), (48, op_iload 2 49), (49, op_aald L 50), (50, op_push (zi 3) 51), (51, op_iload 5 53), (53, op_iast L 54), (54, op_push (zi 0) 55), (55, op_istore 7 57), (57, op_push (zi 0) 58), (58, op_istore 8 60), (60, op_iload 8 62), (62, op_iload 1 63), (63, op_icge 89 66), (66, op_aload 6 68), (68, op_callv 223 1 71), (71, op_iload 7 73)] := ⟨sn_iload_n d240_0 rfl, kS_150 wm_6_299 d240_1, sn_ifeq d240_4 (by decide), sn_aload_n d240_7 rfl, sn_iload_n d240_8 rfl, kV_148 wm_6_127 d240_9, sn_ifne d240_12 (by decide), sn_aload_n d240_15 rfl, sn_bipush d240_16 (by decide), kV_145 wm_6_91 d240_18, sn_iret d240_21 rfl, sn_iconst d240_22 (by decide), sn_istore_n (eb_hlg (Or.inl rfl)) hn240_3 d240_23 rfl, sn_iconst d240_24 (by decide), sn_istore (eb_hlg (Or.inl rfl)) hn240_4 d240_25, sn_iconst d240_27 (by decide), sn_istore (eb_hlg (Or.inl rfl)) hn240_5 d240_28, sn_iload d240_30, sn_bipush d240_32 (by decide), sn_icgt d240_34 (by decide), sn_aload_n d240_37 rfl, kV_246 wm_6_227 d240_38, sn_astore (eb_hlg (Or.inl rfl)) hn240_6 d240_41, sn_aload d240_43, sn_getR (by decide) fi_6_10.1 fi_6_10.2 wf_6_39 d240_45, sn_iload_n d240_48 rfl, sn_aald d240_49, sn_iconst d240_50 (by decide), sn_iload d240_51, sn_iast d240_53, sn_iconst d240_54 (by decide), sn_istore (eb_hlg (Or.inl rfl)) hn240_7 d240_55, sn_iconst d240_57 (by decide), sn_istore (eb_hlg (Or.inl rfl)) hn240_8 d240_58, sn_iload d240_60, sn_iload_n d240_62 rfl, sn_icge d240_63 (by decide), sn_aload d240_66, kV_223 wm_6_296 d240_68, sn_iload d240_71, trivial⟩
theorem sc240_1 : eb_AS L q0 240 (eb_lg 240) [(73, op_aload 6 75), (75, op_getR L 6 31 78), (78, op_iload 2 79), (79, op_iald L 80), (80, op_ii (· + ·) 81), (81, op_istore 7 83), (83, op_iinc 8 1 86), (86, op_goto 60), (89, op_iload 7 91), (91, op_iload 4 93), (93, op_icle 103 96), (96, op_iload 5 98), (98, op_istore 3 99), (99, op_iload 7 101), (101, op_istore 4 103), (103, op_iinc 5 1 106), (106, op_goto 30), (109, op_iload 3 110), (110, op_iret)] := ⟨sn_aload d240_73, sn_getR (by decide) fi_6_31.1 fi_6_31.2 wf_6_67 d240_75, sn_iload_n d240_78 rfl, sn_iald d240_79, sn_iadd d240_80, sn_istore (eb_hlg (Or.inl rfl)) hn240_7 d240_81, sn_iinc (eb_hlg (Or.inl rfl)) hn240_8 d240_83 (by decide), sn_goto d240_86 (by decide), sn_iload d240_89, sn_iload d240_91, sn_icle d240_93 (by decide), sn_iload d240_96, sn_istore_n (eb_hlg (Or.inl rfl)) hn240_3 d240_98 rfl, sn_iload d240_99, sn_istore (eb_hlg (Or.inl rfl)) hn240_4 d240_101, sn_iinc (eb_hlg (Or.inl rfl)) hn240_5 d240_103 (by decide), sn_goto d240_106 (by decide), sn_iload_n d240_109 rfl, sn_iret d240_110 rfl, trivial⟩
theorem sd240 : ∀ pc, eb_Snd L q0 240 pc (eb_lg 240) (eb_cd L 240 pc) := eb_AS_all (hk240 (L := L)) (eb_AS_app sc240_0 (sc240_1))
theorem sc241_0 : eb_AS L q0 241 (eb_lg 241) [(0, op_aload 0 1), (1, op_push (zi 1) 2), (2, op_push (zi (-1)) 3), (3, op_call 224 3 6), (6, op_iret)] := ⟨sn_aload_n d241_0 rfl, sn_iconst d241_1 (by decide), sn_iconst d241_2 (by decide), kV_224 wm_6_302 d241_3, sn_iret d241_6 rfl, trivial⟩
theorem sd241 : ∀ pc, eb_Snd L q0 241 pc (eb_lg 241) (eb_cd L 241 pc) := eb_AS_all (hk241 (L := L)) (sc241_0)
theorem sc242_0 : eb_AS L q0 242 (eb_lg 242) [(0, op_iload 1 1), (1, op_call 150 1 4), (4, op_ifeq 16 7), (7, op_aload 0 8), (8, op_iload 1 9), (9, op_push (zi (-1)) 10), (10, op_call 224 3 13), (13, op_goto 25), (16, op_push (zi (-1000000)) 18), (18, op_aload 0 19), (19, op_push (zi (-2)) 21), (21, op_call 145 2 24), (24, op_ii (· + ·) 25), (25, op_iret)] := ⟨sn_iload_n d242_0 rfl, kS_150 wm_6_299 d242_1, sn_ifeq d242_4 (by decide), sn_aload_n d242_7 rfl, sn_iload_n d242_8 rfl, sn_iconst d242_9 (by decide), kV_224 wm_6_302 d242_10, sn_goto d242_13 (by decide), sn_ldc d242_16 wk_6_252, sn_aload_n d242_18 rfl, sn_bipush d242_19 (by decide), kV_145 wm_6_91 d242_21, sn_iadd d242_24, sn_iret d242_25 rfl, trivial⟩
theorem sd242 : ∀ pc, eb_Snd L q0 242 pc (eb_lg 242) (eb_cd L 242 pc) := eb_AS_all (hk242 (L := L)) (sc242_0)
theorem sc243_0 : eb_AS L q0 243 (eb_lg 243) [(0, op_aload 0 1), (1, op_aload 0 2), (2, op_getI L 6 15 5), (5, op_push (zi 1103515245) 8), (8, op_ii (· * ·) 9), (9, op_push (zi 12345) 12), (12, op_ii (· + ·) 13), (13, op_putI L 6 15 16), (16, op_aload 0 17), (17, op_getI L 6 15 20), (20, op_push (zi 16) 22), (22, op_ii (fun x y => (x.toUInt32 >>> (y.toUInt32 &&& Int32.toUInt32 31)).toInt32) 23), (23, op_iload 1 24), (24, op_iid (fun x y => x - x / y * y) 25), (25, op_iret)] := ⟨sn_aload_n d243_0 rfl, sn_aload_n d243_1 rfl, sn_getI (by decide) fi_6_15.1 fi_6_15.2 wf_6_45 d243_2, sn_ldcw d243_5 wk_6_322, sn_imul d243_8, sn_sipush d243_9 (by decide), sn_iadd d243_12, sn_putI (by decide) fi_6_15.1 fi_6_15.2 wf_6_45 (Or.inl rfl) fp_6_15 d243_13, sn_aload_n d243_16 rfl, sn_getI (by decide) fi_6_15.1 fi_6_15.2 wf_6_45 d243_17, sn_bipush d243_20 (by decide), sn_iushr d243_22, sn_iload_n d243_23 rfl, sn_irem d243_24, sn_iret d243_25 rfl, trivial⟩
theorem sd243 : ∀ pc, eb_Snd L q0 243 pc (eb_lg 243) (eb_cd L 243 pc) := eb_AS_all (hk243 (L := L)) (sc243_0)
theorem sc244_0 : eb_AS L q0 244 (eb_lg 244) [(0, op_iload 1 1), (1, op_i2l 2), (2, op_push (zl 1) 3), (3, op_push (zl 40) 6), (6, op_call 146 3 9), (9, op_ifne 19 12), (12, op_aload 0 13), (13, op_push (zi (-2)) 15), (15, op_call 145 2 18), (18, op_iret), (19, op_aload 0 20), (20, op_getI L 6 9 23), (23, op_ifne 33 26), (26, op_aload 0 27), (27, op_push (zi (-5)) 29), (29, op_call 145 2 32), (32, op_iret), (33, op_push (zi 0) 34), (34, op_istore 2 35), (35, op_push (zi 0) 36), (36, op_istore 3 37), (37, op_iload 3 38), (38, op_iload 1 39), (39, op_icge 114 42), (42, op_aload 0 43), (43, op_aload 0 44), (44, op_getI L 6 9 47), (47, op_call 243 2 50), (50, op_istore 4 52), (52, op_aload 0 53), (53, op_getR L 6 10 56), (56, op_iload 4 58), (58, op_aald L 59), (59, op_push (zi 0) 60), (60, op_iald L 61), (61, op_aload 0 62), (62, op_push (zi 21) 64), (64, op_call 243 2 67), (67, op_ii (· + ·) 68), (68, op_push (zi 10) 70)] := ⟨sn_iload_n d244_0 rfl, sn_i2l d244_1, sn_lconst d244_2 (by decide), sn_ldc2 d244_3 wl_6_89, kS_146 wm_6_76 d244_6, sn_ifne d244_9 (by decide), sn_aload_n d244_12 rfl, sn_bipush d244_13 (by decide), kV_145 wm_6_91 d244_15, sn_iret d244_18 rfl, sn_aload_n d244_19 rfl, sn_getI (by decide) fi_6_9.1 fi_6_9.2 wf_6_73 d244_20, sn_ifne d244_23 (by decide), sn_aload_n d244_26 rfl, sn_bipush d244_27 (by decide), kV_145 wm_6_91 d244_29, sn_iret d244_32 rfl, sn_iconst d244_33 (by decide), sn_istore_n (eb_hlg (Or.inl rfl)) hn244_2 d244_34 rfl, sn_iconst d244_35 (by decide), sn_istore_n (eb_hlg (Or.inl rfl)) hn244_3 d244_36 rfl, sn_iload_n d244_37 rfl, sn_iload_n d244_38 rfl, sn_icge d244_39 (by decide), sn_aload_n d244_42 rfl, sn_aload_n d244_43 rfl, sn_getI (by decide) fi_6_9.1 fi_6_9.2 wf_6_73 d244_44, kV_243 wm_6_323 d244_47, sn_istore (eb_hlg (Or.inl rfl)) hn244_4 d244_50, sn_aload_n d244_52 rfl, sn_getR (by decide) fi_6_10.1 fi_6_10.2 wf_6_39 d244_53, sn_iload d244_56, sn_aald d244_58, sn_iconst d244_59 (by decide), sn_iald d244_60, sn_aload_n d244_61 rfl, sn_bipush d244_62 (by decide), kV_243 wm_6_323 d244_64, sn_iadd d244_67, sn_bipush d244_68 (by decide), trivial⟩
theorem sc244_1 : eb_AS L q0 244 (eb_lg 244) [(70, op_ii (· - ·) 71), (71, op_push (zi 100) 73), (73, op_call 147 2 76), (76, op_istore 5 78), (78, op_iload 2 79), (79, op_aload 0 80), (80, op_getR L 6 10 83), (83, op_iload 4 85), (85, op_aald L 86), (86, op_push (zi 5) 87), (87, op_iald L 88), (88, op_push (zi 99) 90), (90, op_icge 97 93), (93, op_push (zi 1) 94), (94, op_goto 98), (97, op_push (zi 0) 98), (98, op_ii (· + ·) 99), (99, op_istore 2 100), (100, op_aload 0 101), (101, op_iload 4 103), (103, op_iload 5 105), (105, op_callv 169 3 108), (108, op_iinc 3 1 111), (111, op_goto 37), (114, op_iload 2 115), (115, op_iret)] := ⟨sn_isub d244_70, sn_bipush d244_71 (by decide), kS_147 wm_6_290 d244_73, sn_istore (eb_hlg (Or.inl rfl)) hn244_5 d244_76, sn_iload_n d244_78 rfl, sn_aload_n d244_79 rfl, sn_getR (by decide) fi_6_10.1 fi_6_10.2 wf_6_39 d244_80, sn_iload d244_83, sn_aald d244_85, sn_iconst d244_86 (by decide), sn_iald d244_87, sn_bipush d244_88 (by decide), sn_icge d244_90 (by decide), sn_iconst d244_93 (by decide), sn_goto d244_94 (by decide), sn_iconst d244_97 (by decide), sn_iadd d244_98, sn_istore_n (eb_hlg (Or.inl rfl)) hn244_2 d244_99 rfl, sn_aload_n d244_100 rfl, sn_iload d244_101, sn_iload d244_103, kV_169 wm_6_141 d244_105, sn_iinc (eb_hlg (Or.inl rfl)) hn244_3 d244_108 (by decide), sn_goto d244_111 (by decide), sn_iload_n d244_114 rfl, sn_iret d244_115 rfl, trivial⟩
theorem sd244 : ∀ pc, eb_Snd L q0 244 pc (eb_lg 244) (eb_cd L 244 pc) := eb_AS_all (hk244 (L := L)) (eb_AS_app sc244_0 (sc244_1))
theorem sc245_0 : eb_AS L q0 245 (eb_lg 245) [(0, op_aload 0 1), (1, op_getI L 6 15 4), (4, op_istore 2 5), (5, op_aload 0 6), (6, op_iload 1 7), (7, op_putI L 6 15 10), (10, op_iload 2 11), (11, op_iret)] := ⟨sn_aload_n d245_0 rfl, sn_getI (by decide) fi_6_15.1 fi_6_15.2 wf_6_45 d245_1, sn_istore_n (eb_hlg (Or.inl rfl)) hn245_2 d245_4 rfl, sn_aload_n d245_5 rfl, sn_iload_n d245_6 rfl, sn_putI (by decide) fi_6_15.1 fi_6_15.2 wf_6_45 (Or.inl rfl) fp_6_15 d245_7, sn_iload_n d245_10 rfl, sn_iret d245_11 rfl, trivial⟩
theorem sd245 : ∀ pc, eb_Snd L q0 245 pc (eb_lg 245) (eb_cd L 245 pc) := eb_AS_all (hk245 (L := L)) (sc245_0)
theorem sc246_0 : eb_AS L q0 246 (eb_lg 246) [(0, op_aload 0 1), (1, op_getR L 6 17 4), (4, op_ifnn 18 7), (7, op_aload 0 8), (8, op_new L 6 34 11), (11, op_dup 12), (12, op_callv 144 1 15), (15, op_putR L 6 17 18), (18, op_aload 0 19), (19, op_getR L 6 17 22), (22, op_aload 0 23), (23, op_callv 248 2 26), (26, op_aload 0 27), (27, op_getR L 6 17 30), (30, op_aret)] := ⟨sn_aload_n d246_0 rfl, sn_getR (by decide) fi_6_17.1 fi_6_17.2 wf_6_326 d246_1, sn_ifnn d246_4 (by decide), sn_aload_n d246_7 rfl, sn_new (by decide) rfl wq_6_8 d246_8, sn_dup d246_11, kI_144 wm_6_330 d246_12, sn_putR (by decide) fi_6_17.1 fi_6_17.2 wf_6_326 (Or.inl rfl) fp_6_17 d246_15, sn_aload_n d246_18 rfl, sn_getR (by decide) fi_6_17.1 fi_6_17.2 wf_6_326 d246_19, sn_aload_n d246_22 rfl, kV_248 wm_6_234 d246_23, sn_aload_n d246_26 rfl, sn_getR (by decide) fi_6_17.1 fi_6_17.2 wf_6_326 d246_27, sn_aret d246_30 ⟨_, rfl⟩, trivial⟩
theorem sd246 : ∀ pc, eb_Snd L q0 246 pc (eb_lg 246) (eb_cd L 246 pc) := eb_AS_all (hk246 (L := L)) (sc246_0)
theorem sc247_0 : eb_AS L q0 247 (eb_lg 247) [(0, op_push (zi 0) 1), (1, op_istore 2 2), (2, op_iload 2 3), (3, op_aload 0 4), (4, op_alen L 5), (5, op_icge 20 8), (8, op_aload 1 9), (9, op_iload 2 10), (10, op_aload 0 11), (11, op_iload 2 12), (12, op_iald L 13), (13, op_iast L 14), (14, op_iinc 2 1 17), (17, op_goto 2), (20, op_vret)] := ⟨sn_iconst d247_0 (by decide), sn_istore_n (eb_hlg (Or.inl rfl)) hn247_2 d247_1 rfl, sn_iload_n d247_2 rfl, sn_aload_n d247_3 rfl, sn_alen d247_4, sn_icge d247_5 (by decide), sn_aload_n d247_8 rfl, sn_iload_n d247_9 rfl, sn_aload_n d247_10 rfl, sn_iload_n d247_11 rfl, sn_iald d247_12, sn_iast d247_13, sn_iinc (eb_hlg (Or.inl rfl)) hn247_2 d247_14 (by decide), sn_goto d247_17 (by decide), sn_vret d247_20 rfl, trivial⟩
theorem sd247 : ∀ pc, eb_Snd L q0 247 pc (eb_lg 247) (eb_cd L 247 pc) := eb_AS_all (hk247 (L := L)) (sc247_0)
theorem sc248_0 : eb_AS L q0 248 (eb_lg 248) [(0, op_aload 0 1), (1, op_aload 1 2), (2, op_getI L 6 9 5), (5, op_putI L 6 9 8), (8, op_aload 0 9), (9, op_aload 1 10), (10, op_getI L 6 11 13), (13, op_putI L 6 11 16), (16, op_push (zi 0) 17), (17, op_istore 2 18), (18, op_iload 2 19), (19, op_push (zi 6) 21), (21, op_icge 60 24), (24, op_aload 1 25), (25, op_getR L 6 10 28), (28, op_iload 2 29), (29, op_aald L 30), (30, op_aload 0 31), (31, op_getR L 6 10 34), (34, op_iload 2 35), (35, op_aald L 36), (36, op_callv 247 2 39), (39, op_aload 1 40), (40, op_getR L 6 12 43), (43, op_iload 2 44), (44, op_aald L 45), (45, op_aload 0 46), (46, op_getR L 6 12 49), (49, op_iload 2 50), (50, op_aald L 51), (51, op_callv 247 2 54), (54, op_iinc 2 1 57), (57, op_goto 18), (60, op_aload 0 61), (61, op_aload 1 62), (62, op_getI L 6 13 65), (65, op_putI L 6 13 68), (68, op_aload 0 69), (69, op_aload 1 70), (70, op_getI L 6 14 73)] := ⟨sn_aload_n d248_0 rfl, sn_aload_n d248_1 rfl, sn_getI (by decide) fi_6_9.1 fi_6_9.2 wf_6_73 d248_2, sn_putI (by decide) fi_6_9.1 fi_6_9.2 wf_6_73 (Or.inl rfl) fp_6_9 d248_5, sn_aload_n d248_8 rfl, sn_aload_n d248_9 rfl, sn_getI (by decide) fi_6_11.1 fi_6_11.2 wf_6_80 d248_10, sn_putI (by decide) fi_6_11.1 fi_6_11.2 wf_6_80 (Or.inl rfl) fp_6_11 d248_13, sn_iconst d248_16 (by decide), sn_istore_n (eb_hlg (Or.inl rfl)) hn248_2 d248_17 rfl, sn_iload_n d248_18 rfl, sn_bipush d248_19 (by decide), sn_icge d248_21 (by decide), sn_aload_n d248_24 rfl, sn_getR (by decide) fi_6_10.1 fi_6_10.2 wf_6_39 d248_25, sn_iload_n d248_28 rfl, sn_aald d248_29, sn_aload_n d248_30 rfl, sn_getR (by decide) fi_6_10.1 fi_6_10.2 wf_6_39 d248_31, sn_iload_n d248_34 rfl, sn_aald d248_35, kS_247 wm_6_331 d248_36, sn_aload_n d248_39 rfl, sn_getR (by decide) fi_6_12.1 fi_6_12.2 wf_6_42 d248_40, sn_iload_n d248_43 rfl, sn_aald d248_44, sn_aload_n d248_45 rfl, sn_getR (by decide) fi_6_12.1 fi_6_12.2 wf_6_42 d248_46, sn_iload_n d248_49 rfl, sn_aald d248_50, kS_247 wm_6_331 d248_51, sn_iinc (eb_hlg (Or.inl rfl)) hn248_2 d248_54 (by decide), sn_goto d248_57 (by decide), sn_aload_n d248_60 rfl, sn_aload_n d248_61 rfl, sn_getI (by decide) fi_6_13.1 fi_6_13.2 wf_6_132 d248_62, sn_putI (by decide) fi_6_13.1 fi_6_13.2 wf_6_132 (Or.inl rfl) fp_6_13 d248_65, sn_aload_n d248_68 rfl, sn_aload_n d248_69 rfl, sn_getI (by decide) fi_6_14.1 fi_6_14.2 wf_6_293 d248_70, trivial⟩
theorem sc248_1 : eb_AS L q0 248 (eb_lg 248) [(73, op_putI L 6 14 76), (76, op_aload 0 77), (77, op_aload 1 78), (78, op_getI L 6 15 81), (81, op_putI L 6 15 84), (84, op_vret)] := ⟨sn_putI (by decide) fi_6_14.1 fi_6_14.2 wf_6_293 (Or.inl rfl) fp_6_14 d248_73, sn_aload_n d248_76 rfl, sn_aload_n d248_77 rfl, sn_getI (by decide) fi_6_15.1 fi_6_15.2 wf_6_45 d248_78, sn_putI (by decide) fi_6_15.1 fi_6_15.2 wf_6_45 (Or.inl rfl) fp_6_15 d248_81, sn_vret d248_84 rfl, trivial⟩
theorem sd248 : ∀ pc, eb_Snd L q0 248 pc (eb_lg 248) (eb_cd L 248 pc) := eb_AS_all (hk248 (L := L)) (eb_AS_app sc248_0 (sc248_1))
theorem sc249_0 : eb_AS L q0 249 (eb_lg 249) [(0, op_aload 0 1), (1, op_getR L 6 16 4), (4, op_ifnn 18 7), (7, op_aload 0 8), (8, op_new L 6 34 11), (11, op_dup 12), (12, op_callv 144 1 15), (15, op_putR L 6 16 18), (18, op_aload 0 19), (19, op_getR L 6 16 22), (22, op_aload 0 23), (23, op_callv 248 2 26), (26, op_push (zi 1) 27), (27, op_iret)] := ⟨sn_aload_n d249_0 rfl, sn_getR (by decide) fi_6_16.1 fi_6_16.2 wf_6_335 d249_1, sn_ifnn d249_4 (by decide), sn_aload_n d249_7 rfl, sn_new (by decide) rfl wq_6_8 d249_8, sn_dup d249_11, kI_144 wm_6_330 d249_12, sn_putR (by decide) fi_6_16.1 fi_6_16.2 wf_6_335 (Or.inl rfl) fp_6_16 d249_15, sn_aload_n d249_18 rfl, sn_getR (by decide) fi_6_16.1 fi_6_16.2 wf_6_335 d249_19, sn_aload_n d249_22 rfl, kV_248 wm_6_234 d249_23, sn_iconst d249_26 (by decide), sn_iret d249_27 rfl, trivial⟩
theorem sd249 : ∀ pc, eb_Snd L q0 249 pc (eb_lg 249) (eb_cd L 249 pc) := eb_AS_all (hk249 (L := L)) (sc249_0)
theorem sc250_0 : eb_AS L q0 250 (eb_lg 250) [(0, op_aload 0 1), (1, op_getR L 6 16 4), (4, op_ifnn 14 7), (7, op_aload 0 8), (8, op_push (zi (-5)) 10), (10, op_call 145 2 13), (13, op_iret), (14, op_aload 0 15), (15, op_aload 0 16), (16, op_getR L 6 16 19), (19, op_callv 248 2 22), (22, op_push (zi 0) 23), (23, op_istore 1 24), (24, op_iload 1 25), (25, op_push (zi 8) 27), (27, op_icge 66 30), (30, op_aload 0 31), (31, op_getR L 6 0 34), (34, op_iload 1 35), (35, op_iald L 36), (36, op_push (zi 2) 37), (37, op_icne 60 40), (40, op_aload 0 41), (41, op_getR L 6 5 44), (44, op_iload 1 45), (45, op_iald L 46), (46, op_aload 0 47), (47, op_getI L 6 11 50), (50, op_iclt 60 53), (53, op_aload 0 54), (54, op_getR L 6 0 57), (57, op_iload 1 58), (58, op_push (zi 0) 59), (59, op_iast L 60), (60, op_iinc 1 1 63), (63, op_goto 24), (66, op_push (zi 1) 67), (67, op_iret)] := ⟨sn_aload_n d250_0 rfl, sn_getR (by decide) fi_6_16.1 fi_6_16.2 wf_6_335 d250_1, sn_ifnn d250_4 (by decide), sn_aload_n d250_7 rfl, sn_bipush d250_8 (by decide), kV_145 wm_6_91 d250_10, sn_iret d250_13 rfl, sn_aload_n d250_14 rfl, sn_aload_n d250_15 rfl, sn_getR (by decide) fi_6_16.1 fi_6_16.2 wf_6_335 d250_16, kV_248 wm_6_234 d250_19, sn_iconst d250_22 (by decide), sn_istore_n (eb_hlg (Or.inl rfl)) hn250_1 d250_23 rfl, sn_iload_n d250_24 rfl, sn_bipush d250_25 (by decide), sn_icge d250_27 (by decide), sn_aload_n d250_30 rfl, sn_getR (by decide) fi_6_0.1 fi_6_0.2 wf_6_7 d250_31, sn_iload_n d250_34 rfl, sn_iald d250_35, sn_iconst d250_36 (by decide), sn_icne d250_37 (by decide), sn_aload_n d250_40 rfl, sn_getR (by decide) fi_6_5.1 fi_6_5.2 wf_6_28 d250_41, sn_iload_n d250_44 rfl, sn_iald d250_45, sn_aload_n d250_46 rfl, sn_getI (by decide) fi_6_11.1 fi_6_11.2 wf_6_80 d250_47, sn_iclt d250_50 (by decide), sn_aload_n d250_53 rfl, sn_getR (by decide) fi_6_0.1 fi_6_0.2 wf_6_7 d250_54, sn_iload_n d250_57 rfl, sn_iconst d250_58 (by decide), sn_iast d250_59, sn_iinc (eb_hlg (Or.inl rfl)) hn250_1 d250_60 (by decide), sn_goto d250_63 (by decide), sn_iconst d250_66 (by decide), sn_iret d250_67 rfl, trivial⟩
theorem sd250 : ∀ pc, eb_Snd L q0 250 pc (eb_lg 250) (eb_cd L 250 pc) := eb_AS_all (hk250 (L := L)) (sc250_0)
theorem sc251_0 : eb_AS L q0 251 (eb_lg 251) [(0, op_push (zi 0) 1), (1, op_istore 2 2), (2, op_iload 1 3), (3, op_sw [(0, 56), (1, 61), (2, 66), (3, 71), (4, 111), (5, 140), (6, 169), (7, 174), (8, 179), (9, 184)] 217), (56, op_aload 0 57), (57, op_getI L 6 9 60), (60, op_iret), (61, op_aload 0 62), (62, op_getI L 6 11 65), (65, op_iret), (66, op_aload 0 67), (67, op_getI L 6 13 70), (70, op_iret), (71, op_push (zi 0) 72), (72, op_istore 3 73), (73, op_iload 3 74), (74, op_aload 0 75), (75, op_getI L 6 9 78), (78, op_icge 109 81), (81, op_iload 2 82), (82, op_aload 0 83), (83, op_getR L 6 10 86), (86, op_iload 3 87), (87, op_aald L 88), (88, op_push (zi 4) 89), (89, op_iald L 90), (90, op_push (zi (-1)) 91), (91, op_iceq 100 94), (94, op_push (zi 1) 95), (95, op_iload 3 96), (96, op_ii (fun x y => x <<< (y &&& 31)) 97), (97, op_goto 101), (100, op_push (zi 0) 101), (101, op_ii (· ||| ·) 102), (102, op_istore 2 103), (103, op_iinc 3 1 106), (106, op_goto 73), (109, op_iload 2 110), (110, op_iret), (111, op_push (zi 0) 112)] := ⟨sn_iconst d251_0 (by decide), sn_istore_n (eb_hlg (Or.inl rfl)) hn251_2 d251_1 rfl, sn_iload_n d251_2 rfl, sn_sw d251_3 (by decide) (by decide +kernel) (by decide), sn_aload_n d251_56 rfl, sn_getI (by decide) fi_6_9.1 fi_6_9.2 wf_6_73 d251_57, sn_iret d251_60 rfl, sn_aload_n d251_61 rfl, sn_getI (by decide) fi_6_11.1 fi_6_11.2 wf_6_80 d251_62, sn_iret d251_65 rfl, sn_aload_n d251_66 rfl, sn_getI (by decide) fi_6_13.1 fi_6_13.2 wf_6_132 d251_67, sn_iret d251_70 rfl, sn_iconst d251_71 (by decide), sn_istore_n (eb_hlg (Or.inl rfl)) hn251_3 d251_72 rfl, sn_iload_n d251_73 rfl, sn_aload_n d251_74 rfl, sn_getI (by decide) fi_6_9.1 fi_6_9.2 wf_6_73 d251_75, sn_icge d251_78 (by decide), sn_iload_n d251_81 rfl, sn_aload_n d251_82 rfl, sn_getR (by decide) fi_6_10.1 fi_6_10.2 wf_6_39 d251_83, sn_iload_n d251_86 rfl, sn_aald d251_87, sn_iconst d251_88 (by decide), sn_iald d251_89, sn_iconst d251_90 (by decide), sn_iceq d251_91 (by decide), sn_iconst d251_94 (by decide), sn_iload_n d251_95 rfl, sn_ishl d251_96, sn_goto d251_97 (by decide), sn_iconst d251_100 (by decide), sn_ior d251_101, sn_istore_n (eb_hlg (Or.inl rfl)) hn251_2 d251_102 rfl, sn_iinc (eb_hlg (Or.inl rfl)) hn251_3 d251_103 (by decide), sn_goto d251_106 (by decide), sn_iload_n d251_109 rfl, sn_iret d251_110 rfl, sn_iconst d251_111 (by decide), trivial⟩
theorem sc251_1 : eb_AS L q0 251 (eb_lg 251) [(112, op_istore 3 113), (113, op_iload 3 114), (114, op_aload 0 115), (115, op_getI L 6 9 118), (118, op_icge 138 121), (121, op_iload 2 122), (122, op_aload 0 123), (123, op_getR L 6 10 126), (126, op_iload 3 127), (127, op_aald L 128), (128, op_push (zi 2) 129), (129, op_iald L 130), (130, op_ii (· + ·) 131), (131, op_istore 2 132), (132, op_iinc 3 1 135), (135, op_goto 113), (138, op_iload 2 139), (139, op_iret), (140, op_push (zi 0) 141), (141, op_istore 3 142), (142, op_iload 3 143), (143, op_aload 0 144), (144, op_getI L 6 11 147), (147, op_icge 167 150), (150, op_iload 2 151), (151, op_aload 0 152), (152, op_getR L 6 12 155), (155, op_iload 3 156), (156, op_aald L 157), (157, op_push (zi 1) 158), (158, op_iald L 159), (159, op_ii (· + ·) 160), (160, op_istore 2 161), (161, op_iinc 3 1 164), (164, op_goto 142), (167, op_iload 2 168), (168, op_iret), (169, op_aload 0 170), (170, op_getI L 6 14 173), (173, op_iret)] := ⟨sn_istore_n (eb_hlg (Or.inl rfl)) hn251_3 d251_112 rfl, sn_iload_n d251_113 rfl, sn_aload_n d251_114 rfl, sn_getI (by decide) fi_6_9.1 fi_6_9.2 wf_6_73 d251_115, sn_icge d251_118 (by decide), sn_iload_n d251_121 rfl, sn_aload_n d251_122 rfl, sn_getR (by decide) fi_6_10.1 fi_6_10.2 wf_6_39 d251_123, sn_iload_n d251_126 rfl, sn_aald d251_127, sn_iconst d251_128 (by decide), sn_iald d251_129, sn_iadd d251_130, sn_istore_n (eb_hlg (Or.inl rfl)) hn251_2 d251_131 rfl, sn_iinc (eb_hlg (Or.inl rfl)) hn251_3 d251_132 (by decide), sn_goto d251_135 (by decide), sn_iload_n d251_138 rfl, sn_iret d251_139 rfl, sn_iconst d251_140 (by decide), sn_istore_n (eb_hlg (Or.inl rfl)) hn251_3 d251_141 rfl, sn_iload_n d251_142 rfl, sn_aload_n d251_143 rfl, sn_getI (by decide) fi_6_11.1 fi_6_11.2 wf_6_80 d251_144, sn_icge d251_147 (by decide), sn_iload_n d251_150 rfl, sn_aload_n d251_151 rfl, sn_getR (by decide) fi_6_12.1 fi_6_12.2 wf_6_42 d251_152, sn_iload_n d251_155 rfl, sn_aald d251_156, sn_iconst d251_157 (by decide), sn_iald d251_158, sn_iadd d251_159, sn_istore_n (eb_hlg (Or.inl rfl)) hn251_2 d251_160 rfl, sn_iinc (eb_hlg (Or.inl rfl)) hn251_3 d251_161 (by decide), sn_goto d251_164 (by decide), sn_iload_n d251_167 rfl, sn_iret d251_168 rfl, sn_aload_n d251_169 rfl, sn_getI (by decide) fi_6_14.1 fi_6_14.2 wf_6_293 d251_170, sn_iret d251_173 rfl, trivial⟩
theorem sc251_2 : eb_AS L q0 251 (eb_lg 251) [(174, op_aload 0 175), (175, op_getI L 6 7 178), (178, op_iret), (179, op_aload 0 180), (180, op_getI L 6 15 183), (183, op_iret), (184, op_push (zi 0) 185), (185, op_istore 3 186), (186, op_iload 3 187), (187, op_push (zi 8) 189), (189, op_icge 215 192), (192, op_iload 2 193), (193, op_aload 0 194), (194, op_getR L 6 0 197), (197, op_iload 3 198), (198, op_iald L 199), (199, op_ifeq 206 202), (202, op_push (zi 1) 203), (203, op_goto 207), (206, op_push (zi 0) 207), (207, op_ii (· + ·) 208), (208, op_istore 2 209), (209, op_iinc 3 1 212), (212, op_goto 186), (215, op_iload 2 216), (216, op_iret), (217, op_iload 1 218), (218, op_i2l 219), (219, op_push (zl 12) 222), (222, op_push (zl 16) 225), (225, op_call 146 3 228), (228, op_ifeq 243 231), (231, op_aload 0 232), (232, op_getR L 6 8 235), (235, op_iload 1 236), (236, op_push (zi 10) 238), (238, op_ii (· - ·) 239), (239, op_iald L 240), (240, op_goto 244), (243, op_push (zi (-1)) 244)] := ⟨sn_aload_n d251_174 rfl, sn_getI (by decide) fi_6_7.1 fi_6_7.2 wf_6_147 d251_175, sn_iret d251_178 rfl, sn_aload_n d251_179 rfl, sn_getI (by decide) fi_6_15.1 fi_6_15.2 wf_6_45 d251_180, sn_iret d251_183 rfl, sn_iconst d251_184 (by decide), sn_istore_n (eb_hlg (Or.inl rfl)) hn251_3 d251_185 rfl, sn_iload_n d251_186 rfl, sn_bipush d251_187 (by decide), sn_icge d251_189 (by decide), sn_iload_n d251_192 rfl, sn_aload_n d251_193 rfl, sn_getR (by decide) fi_6_0.1 fi_6_0.2 wf_6_7 d251_194, sn_iload_n d251_197 rfl, sn_iald d251_198, sn_ifeq d251_199 (by decide), sn_iconst d251_202 (by decide), sn_goto d251_203 (by decide), sn_iconst d251_206 (by decide), sn_iadd d251_207, sn_istore_n (eb_hlg (Or.inl rfl)) hn251_2 d251_208 rfl, sn_iinc (eb_hlg (Or.inl rfl)) hn251_3 d251_209 (by decide), sn_goto d251_212 (by decide), sn_iload_n d251_215 rfl, sn_iret d251_216 rfl, sn_iload_n d251_217 rfl, sn_i2l d251_218, sn_ldc2 d251_219 wl_6_83, sn_ldc2 d251_222 wl_6_338, kS_146 wm_6_76 d251_225, sn_ifeq d251_228 (by decide), sn_aload_n d251_231 rfl, sn_getR (by decide) fi_6_8.1 fi_6_8.2 wf_6_34 d251_232, sn_iload_n d251_235 rfl, sn_bipush d251_236 (by decide), sn_isub d251_238, sn_iald d251_239, sn_goto d251_240 (by decide), sn_iconst d251_243 (by decide), trivial⟩
theorem sc251_3 : eb_AS L q0 251 (eb_lg 251) [(244, op_iret)] := ⟨sn_iret d251_244 rfl, trivial⟩
theorem sd251 : ∀ pc, eb_Snd L q0 251 pc (eb_lg 251) (eb_cd L 251 pc) := eb_AS_all (hk251 (L := L)) (eb_AS_app sc251_0 (eb_AS_app sc251_1 (eb_AS_app sc251_2 (sc251_3))))
theorem sc252_0 : eb_AS L q0 252 (eb_lg 252) [(0, op_iload 0 1), (1, op_iload 0 2), (2, op_push (zi 1) 3), (3, op_ii (fun x y => (x.toUInt32 >>> (y.toUInt32 &&& Int32.toUInt32 31)).toInt32) 4), (4, op_push (zi 1431655765) 7), (7, op_ii (· &&& ·) 8), (8, op_ii (· - ·) 9), (9, op_istore 0 10), (10, op_iload 0 11), (11, op_push (zi 858993459) 14), (14, op_ii (· &&& ·) 15), (15, op_iload 0 16), (16, op_push (zi 2) 17), (17, op_ii (fun x y => (x.toUInt32 >>> (y.toUInt32 &&& Int32.toUInt32 31)).toInt32) 18), (18, op_push (zi 858993459) 21), (21, op_ii (· &&& ·) 22), (22, op_ii (· + ·) 23), (23, op_istore 0 24), (24, op_iload 0 25), (25, op_iload 0 26), (26, op_push (zi 4) 27), (27, op_ii (fun x y => (x.toUInt32 >>> (y.toUInt32 &&& Int32.toUInt32 31)).toInt32) 28), (28, op_ii (· + ·) 29), (29, op_push (zi 252645135) 32), (32, op_ii (· &&& ·) 33), (33, op_istore 0 34), (34, op_iload 0 35), (35, op_iload 0 36), (36, op_push (zi 8) 38), (38, op_ii (fun x y => (x.toUInt32 >>> (y.toUInt32 &&& Int32.toUInt32 31)).toInt32) 39), (39, op_ii (· + ·) 40), (40, op_istore 0 41), (41, op_iload 0 42), (42, op_iload 0 43), (43, op_push (zi 16) 45), (45, op_ii (fun x y => (x.toUInt32 >>> (y.toUInt32 &&& Int32.toUInt32 31)).toInt32) 46), (46, op_ii (· + ·) 47), (47, op_istore 0 48), (48, op_iload 0 49), (49, op_push (zi 63) 51)] := ⟨sn_iload_n d252_0 rfl, sn_iload_n d252_1 rfl, sn_iconst d252_2 (by decide), sn_iushr d252_3, sn_ldcw d252_4 wk_7_265, sn_iand d252_7, sn_isub d252_8, sn_istore_n (eb_hlg (Or.inr rfl)) hn252_0 d252_9 rfl, sn_iload_n d252_10 rfl, sn_ldcw d252_11 wk_7_266, sn_iand d252_14, sn_iload_n d252_15 rfl, sn_iconst d252_16 (by decide), sn_iushr d252_17, sn_ldcw d252_18 wk_7_266, sn_iand d252_21, sn_iadd d252_22, sn_istore_n (eb_hlg (Or.inr rfl)) hn252_0 d252_23 rfl, sn_iload_n d252_24 rfl, sn_iload_n d252_25 rfl, sn_iconst d252_26 (by decide), sn_iushr d252_27, sn_iadd d252_28, sn_ldcw d252_29 wk_7_267, sn_iand d252_32, sn_istore_n (eb_hlg (Or.inr rfl)) hn252_0 d252_33 rfl, sn_iload_n d252_34 rfl, sn_iload_n d252_35 rfl, sn_bipush d252_36 (by decide), sn_iushr d252_38, sn_iadd d252_39, sn_istore_n (eb_hlg (Or.inr rfl)) hn252_0 d252_40 rfl, sn_iload_n d252_41 rfl, sn_iload_n d252_42 rfl, sn_bipush d252_43 (by decide), sn_iushr d252_45, sn_iadd d252_46, sn_istore_n (eb_hlg (Or.inr rfl)) hn252_0 d252_47 rfl, sn_iload_n d252_48 rfl, sn_bipush d252_49 (by decide), trivial⟩
theorem sc252_1 : eb_AS L q0 252 (eb_lg 252) [(51, op_ii (· &&& ·) 52), (52, op_iret)] := ⟨sn_iand d252_51, sn_iret d252_52 rfl, trivial⟩
theorem sd252 : ∀ pc, eb_Snd L q0 252 pc (eb_lg 252) (eb_cd L 252 pc) := eb_AS_all (hk252 (L := L)) (eb_AS_app sc252_0 (sc252_1))
end

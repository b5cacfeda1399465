/-! every row of these methods is sound: by program -/
set_option maxRecDepth 100000
theorem d215_0 : decode (eb_b 215) 0 = .ok (.aload_n 0, 1) := by decide +kernel
theorem d215_1 : decode (eb_b 215) 1 = .ok (.iload_n 1, 1) := by decide +kernel
theorem d215_2 : decode (eb_b 215) 2 = .ok (.invokevirtual 102, 3) := by decide +kernel
theorem d215_5 : decode (eb_b 215) 5 = .ok (.ifCond .ne 10, 3) := by decide +kernel
theorem d215_8 : decode (eb_b 215) 8 = .ok (.aload_n 0, 1) := by decide +kernel
theorem d215_9 : decode (eb_b 215) 9 = .ok (.bipush (-2), 2) := by decide +kernel
theorem d215_11 : decode (eb_b 215) 11 = .ok (.invokevirtual 91, 3) := by decide +kernel
theorem d215_14 : decode (eb_b 215) 14 = .ok (.ireturn, 1) := by decide +kernel
theorem d215_15 : decode (eb_b 215) 15 = .ok (.aload_n 0, 1) := by decide +kernel
theorem d215_16 : decode (eb_b 215) 16 = .ok (.getfield 42, 3) := by decide +kernel
theorem d215_19 : decode (eb_b 215) 19 = .ok (.iload_n 1, 1) := by decide +kernel
theorem d215_20 : decode (eb_b 215) 20 = .ok (.aaload, 1) := by decide +kernel
theorem d215_21 : decode (eb_b 215) 21 = .ok (.iconst 0, 1) := by decide +kernel
theorem d215_22 : decode (eb_b 215) 22 = .ok (.iaload, 1) := by decide +kernel
theorem d215_23 : decode (eb_b 215) 23 = .ok (.istore_n 2, 1) := by decide +kernel
theorem hn215_2 : 2 < eb_ml 215 := by decide
theorem d215_24 : decode (eb_b 215) 24 = .ok (.iconst 0, 1) := by decide +kernel
theorem d215_25 : decode (eb_b 215) 25 = .ok (.istore_n 3, 1) := by decide +kernel
theorem hn215_3 : 3 < eb_ml 215 := by decide
theorem d215_26 : decode (eb_b 215) 26 = .ok (.iconst 0, 1) := by decide +kernel
theorem d215_27 : decode (eb_b 215) 27 = .ok (.istore 4, 2) := by decide +kernel
theorem hn215_4 : 4 < eb_ml 215 := by decide
theorem d215_29 : decode (eb_b 215) 29 = .ok (.iconst 0, 1) := by decide +kernel
theorem d215_30 : decode (eb_b 215) 30 = .ok (.istore 5, 2) := by decide +kernel
theorem hn215_5 : 5 < eb_ml 215 := by decide
theorem d215_32 : decode (eb_b 215) 32 = .ok (.iload 5, 2) := by decide +kernel
theorem d215_34 : decode (eb_b 215) 34 = .ok (.iconst 5, 1) := by decide +kernel
theorem d215_35 : decode (eb_b 215) 35 = .ok (.if_icmp .gt 49, 3) := by decide +kernel
theorem d215_38 : decode (eb_b 215) 38 = .ok (.aload_n 0, 1) := by decide +kernel
theorem d215_39 : decode (eb_b 215) 39 = .ok (.getfield 42, 3) := by decide +kernel
theorem d215_42 : decode (eb_b 215) 42 = .ok (.iload_n 1, 1) := by decide +kernel
theorem d215_43 : decode (eb_b 215) 43 = .ok (.aaload, 1) := by decide +kernel
theorem d215_44 : decode (eb_b 215) 44 = .ok (.iconst 0, 1) := by decide +kernel
theorem d215_45 : decode (eb_b 215) 45 = .ok (.iload 5, 2) := by decide +kernel
theorem d215_47 : decode (eb_b 215) 47 = .ok (.iastore, 1) := by decide +kernel
theorem d215_48 : decode (eb_b 215) 48 = .ok (.aload_n 0, 1) := by decide +kernel
theorem d215_49 : decode (eb_b 215) 49 = .ok (.invokevirtual 259, 3) := by decide +kernel
theorem d215_52 : decode (eb_b 215) 52 = .ok (.aload_n 0, 1) := by decide +kernel
theorem d215_53 : decode (eb_b 215) 53 = .ok (.iload_n 1, 1) := by decide +kernel
theorem d215_54 : decode (eb_b 215) 54 = .ok (.invokevirtual 265, 3) := by decide +kernel
theorem d215_57 : decode (eb_b 215) 57 = .ok (.istore 6, 2) := by decide +kernel
theorem hn215_6 : 6 < eb_ml 215 := by decide
theorem d215_59 : decode (eb_b 215) 59 = .ok (.iload 5, 2) := by decide +kernel
theorem d215_61 : decode (eb_b 215) 61 = .ok (.ifCond .eq 10, 3) := by decide +kernel
theorem d215_64 : decode (eb_b 215) 64 = .ok (.iload 6, 2) := by decide +kernel
theorem d215_66 : decode (eb_b 215) 66 = .ok (.iload 4, 2) := by decide +kernel
theorem d215_68 : decode (eb_b 215) 68 = .ok (.if_icmp .le 10, 3) := by decide +kernel
theorem d215_71 : decode (eb_b 215) 71 = .ok (.iload 5, 2) := by decide +kernel
theorem d215_73 : decode (eb_b 215) 73 = .ok (.istore_n 3, 1) := by decide +kernel
theorem d215_74 : decode (eb_b 215) 74 = .ok (.iload 6, 2) := by decide +kernel
theorem d215_76 : decode (eb_b 215) 76 = .ok (.istore 4, 2) := by decide +kernel
theorem d215_78 : decode (eb_b 215) 78 = .ok (.iinc 5 1, 3) := by decide +kernel
theorem d215_81 : decode (eb_b 215) 81 = .ok (.goto (-49), 3) := by decide +kernel
theorem d215_84 : decode (eb_b 215) 84 = .ok (.aload_n 0, 1) := by decide +kernel
theorem d215_85 : decode (eb_b 215) 85 = .ok (.getfield 42, 3) := by decide +kernel
theorem d215_88 : decode (eb_b 215) 88 = .ok (.iload_n 1, 1) := by decide +kernel
theorem d215_89 : decode (eb_b 215) 89 = .ok (.aaload, 1) := by decide +kernel
theorem d215_90 : decode (eb_b 215) 90 = .ok (.iconst 0, 1) := by decide +kernel
theorem d215_91 : decode (eb_b 215) 91 = .ok (.iload_n 2, 1) := by decide +kernel
theorem d215_92 : decode (eb_b 215) 92 = .ok (.iastore, 1) := by decide +kernel
theorem d215_93 : decode (eb_b 215) 93 = .ok (.iload_n 3, 1) := by decide +kernel
theorem d215_94 : decode (eb_b 215) 94 = .ok (.ireturn, 1) := by decide +kernel
theorem d216_0 : decode (eb_b 216) 0 = .ok (.iconst 0, 1) := by decide +kernel
theorem d216_1 : decode (eb_b 216) 1 = .ok (.istore_n 2, 1) := by decide +kernel
theorem hn216_2 : 2 < eb_ml 216 := by decide
theorem d216_2 : decode (eb_b 216) 2 = .ok (.iload_n 2, 1) := by decide +kernel
theorem d216_3 : decode (eb_b 216) 3 = .ok (.aload_n 0, 1) := by decide +kernel
theorem d216_4 : decode (eb_b 216) 4 = .ok (.getfield 80, 3) := by decide +kernel
theorem d216_7 : decode (eb_b 216) 7 = .ok (.if_icmp .ge 28, 3) := by decide +kernel
theorem d216_10 : decode (eb_b 216) 10 = .ok (.aload_n 0, 1) := by decide +kernel
theorem d216_11 : decode (eb_b 216) 11 = .ok (.iload_n 2, 1) := by decide +kernel
theorem d216_12 : decode (eb_b 216) 12 = .ok (.invokevirtual 271, 3) := by decide +kernel
theorem d216_15 : decode (eb_b 216) 15 = .ok (.ifCond .eq 14, 3) := by decide +kernel
theorem d216_18 : decode (eb_b 216) 18 = .ok (.aload_n 0, 1) := by decide +kernel
theorem d216_19 : decode (eb_b 216) 19 = .ok (.iload_n 2, 1) := by decide +kernel
theorem d216_20 : decode (eb_b 216) 20 = .ok (.invokevirtual 112, 3) := by decide +kernel
theorem d216_23 : decode (eb_b 216) 23 = .ok (.iload_n 1, 1) := by decide +kernel
theorem d216_24 : decode (eb_b 216) 24 = .ok (.if_icmp .ne 5, 3) := by decide +kernel
theorem d216_27 : decode (eb_b 216) 27 = .ok (.iconst 1, 1) := by decide +kernel
theorem d216_28 : decode (eb_b 216) 28 = .ok (.ireturn, 1) := by decide +kernel
theorem d216_29 : decode (eb_b 216) 29 = .ok (.iinc 2 1, 3) := by decide +kernel
theorem d216_32 : decode (eb_b 216) 32 = .ok (.goto (-30), 3) := by decide +kernel
theorem d216_35 : decode (eb_b 216) 35 = .ok (.iconst 0, 1) := by decide +kernel
theorem d216_36 : decode (eb_b 216) 36 = .ok (.ireturn, 1) := by decide +kernel
theorem d217_0 : decode (eb_b 217) 0 = .ok (.aload_n 0, 1) := by decide +kernel
theorem d217_1 : decode (eb_b 217) 1 = .ok (.iload_n 1, 1) := by decide +kernel
theorem d217_2 : decode (eb_b 217) 2 = .ok (.invokevirtual 127, 3) := by decide +kernel
theorem d217_5 : decode (eb_b 217) 5 = .ok (.ifCond .ne 10, 3) := by decide +kernel
theorem d217_8 : decode (eb_b 217) 8 = .ok (.aload_n 0, 1) := by decide +kernel
theorem d217_9 : decode (eb_b 217) 9 = .ok (.bipush (-2), 2) := by decide +kernel
theorem d217_11 : decode (eb_b 217) 11 = .ok (.invokevirtual 91, 3) := by decide +kernel
theorem d217_14 : decode (eb_b 217) 14 = .ok (.ireturn, 1) := by decide +kernel
theorem d217_15 : decode (eb_b 217) 15 = .ok (.aload_n 0, 1) := by decide +kernel
theorem d217_16 : decode (eb_b 217) 16 = .ok (.getfield 132, 3) := by decide +kernel
theorem d217_19 : decode (eb_b 217) 19 = .ok (.istore_n 2, 1) := by decide +kernel
theorem hn217_2 : 2 < eb_ml 217 := by decide
theorem d217_20 : decode (eb_b 217) 20 = .ok (.iconst (-1), 1) := by decide +kernel
theorem d217_21 : decode (eb_b 217) 21 = .ok (.istore_n 3, 1) := by decide +kernel
theorem hn217_3 : 3 < eb_ml 217 := by decide
theorem d217_22 : decode (eb_b 217) 22 = .ok (.bipush 99, 2) := by decide +kernel
theorem d217_24 : decode (eb_b 217) 24 = .ok (.istore 4, 2) := by decide +kernel
theorem hn217_4 : 4 < eb_ml 217 := by decide
theorem d217_26 : decode (eb_b 217) 26 = .ok (.iload 4, 2) := by decide +kernel
theorem d217_28 : decode (eb_b 217) 28 = .ok (.ifCond .lt 35, 3) := by decide +kernel
theorem d217_31 : decode (eb_b 217) 31 = .ok (.iload_n 3, 1) := by decide +kernel
theorem d217_32 : decode (eb_b 217) 32 = .ok (.iconst (-1), 1) := by decide +kernel
theorem d217_33 : decode (eb_b 217) 33 = .ok (.if_icmp .ne 30, 3) := by decide +kernel
theorem d217_36 : decode (eb_b 217) 36 = .ok (.aload_n 0, 1) := by decide +kernel
theorem d217_37 : decode (eb_b 217) 37 = .ok (.iload 4, 2) := by decide +kernel
theorem d217_39 : decode (eb_b 217) 39 = .ok (.putfield 132, 3) := by decide +kernel
theorem d217_42 : decode (eb_b 217) 42 = .ok (.aload_n 0, 1) := by decide +kernel
theorem d217_43 : decode (eb_b 217) 43 = .ok (.iload_n 1, 1) := by decide +kernel
theorem d217_44 : decode (eb_b 217) 44 = .ok (.invokevirtual 280, 3) := by decide +kernel
theorem wc_216 : Cond.code (eb_y 216) (eb_b 216) (eb_ml 216) (eb_rt 216) ∈ eb_LT := eb_lt 1373 (by decide +kernel)
theorem cy_216 : (eb_y 216).cls = eb_cN (eb_rc 216) ∧ (eb_y 216).cls ≠ "java/lang/invoke/MethodHandle" ∧ (eb_y 216).cls ≠ "java/lang/invoke/VarHandle" ∧ (parseMethodDescriptor (eb_y 216).desc).map (fun d => d.parameters.length) = some 1 := by decide +kernel
theorem wi_216 : Cond.instanceMethod (eb_y 216) ∈ eb_LT := eb_lt 1372 (by decide +kernel)
theorem wse_216 : Cond.selects (eb_cN (eb_rc 216)) (eb_y 216) (eb_y 216) ∈ eb_LT := eb_lt 67 (by decide +kernel)
theorem kV_216 {L q0 m pc : Nat} {lg : Nat → Bool} {ix : Nat} (hw : Cond.methodLink (eb_own m) ix (eb_y 216) ∈ eb_LT) (hd : decode (eb_b m) pc = .ok (.invokevirtual ix, 3)) : eb_Snd L q0 m pc lg (op_call 216 2 (pc + 3)) := sn_callV false rfl (Or.inr ⟨rfl, _, rfl⟩) (by decide) rfl (by decide) ⟨⟨hw, wi_216, wse_216⟩, wc_216⟩ cy_216 hd
theorem wm_6_280 : Cond.methodLink (eb_cN 6) 280 (eb_y 216) ∈ eb_LT := eb_lt 1370 (by decide +kernel)
theorem d217_47 : decode (eb_b 217) 47 = .ok (.ifCond .eq 8, 3) := by decide +kernel
theorem d217_50 : decode (eb_b 217) 50 = .ok (.iload 4, 2) := by decide +kernel
theorem d217_52 : decode (eb_b 217) 52 = .ok (.goto 4, 3) := by decide +kernel
theorem d217_55 : decode (eb_b 217) 55 = .ok (.iconst (-1), 1) := by decide +kernel
theorem d217_56 : decode (eb_b 217) 56 = .ok (.istore_n 3, 1) := by decide +kernel
theorem d217_57 : decode (eb_b 217) 57 = .ok (.iinc 4 (-1), 3) := by decide +kernel
theorem d217_60 : decode (eb_b 217) 60 = .ok (.goto (-34), 3) := by decide +kernel
theorem d217_63 : decode (eb_b 217) 63 = .ok (.aload_n 0, 1) := by decide +kernel
theorem d217_64 : decode (eb_b 217) 64 = .ok (.iload_n 2, 1) := by decide +kernel
theorem d217_65 : decode (eb_b 217) 65 = .ok (.putfield 132, 3) := by decide +kernel
theorem d217_68 : decode (eb_b 217) 68 = .ok (.iload_n 3, 1) := by decide +kernel
theorem d217_69 : decode (eb_b 217) 69 = .ok (.ireturn, 1) := by decide +kernel
theorem d218_0 : decode (eb_b 218) 0 = .ok (.aload_n 0, 1) := by decide +kernel
theorem d218_1 : decode (eb_b 218) 1 = .ok (.iload_n 1, 1) := by decide +kernel
theorem d218_2 : decode (eb_b 218) 2 = .ok (.invokevirtual 102, 3) := by decide +kernel
theorem d218_5 : decode (eb_b 218) 5 = .ok (.ifCond .ne 10, 3) := by decide +kernel
theorem d218_8 : decode (eb_b 218) 8 = .ok (.aload_n 0, 1) := by decide +kernel
theorem d218_9 : decode (eb_b 218) 9 = .ok (.bipush (-2), 2) := by decide +kernel
theorem d218_11 : decode (eb_b 218) 11 = .ok (.invokevirtual 91, 3) := by decide +kernel
theorem d218_14 : decode (eb_b 218) 14 = .ok (.ireturn, 1) := by decide +kernel
theorem d218_15 : decode (eb_b 218) 15 = .ok (.aload_n 0, 1) := by decide +kernel
theorem d218_16 : decode (eb_b 218) 16 = .ok (.invokevirtual 274, 3) := by decide +kernel
theorem d218_19 : decode (eb_b 218) 19 = .ok (.istore_n 2, 1) := by decide +kernel
theorem hn218_2 : 2 < eb_ml 218 := by decide
theorem d218_20 : decode (eb_b 218) 20 = .ok (.iload_n 2, 1) := by decide +kernel
theorem d218_21 : decode (eb_b 218) 21 = .ok (.iconst (-1), 1) := by decide +kernel
theorem d218_22 : decode (eb_b 218) 22 = .ok (.if_icmp .ne 10, 3) := by decide +kernel
theorem d218_25 : decode (eb_b 218) 25 = .ok (.aload_n 0, 1) := by decide +kernel
theorem d218_26 : decode (eb_b 218) 26 = .ok (.bipush (-5), 2) := by decide +kernel
theorem d218_28 : decode (eb_b 218) 28 = .ok (.invokevirtual 91, 3) := by decide +kernel
theorem d218_31 : decode (eb_b 218) 31 = .ok (.ireturn, 1) := by decide +kernel
theorem d218_32 : decode (eb_b 218) 32 = .ok (.aload_n 0, 1) := by decide +kernel
theorem d218_33 : decode (eb_b 218) 33 = .ok (.invokevirtual 259, 3) := by decide +kernel
theorem d218_36 : decode (eb_b 218) 36 = .ok (.bipush 100, 2) := by decide +kernel
theorem d218_38 : decode (eb_b 218) 38 = .ok (.aload_n 0, 1) := by decide +kernel
theorem d218_39 : decode (eb_b 218) 39 = .ok (.getfield 52, 3) := by decide +kernel
theorem d218_42 : decode (eb_b 218) 42 = .ok (.iload_n 1, 1) := by decide +kernel
theorem d218_43 : decode (eb_b 218) 43 = .ok (.aaload, 1) := by decide +kernel
theorem d218_44 : decode (eb_b 218) 44 = .ok (.iload_n 2, 1) := by decide +kernel
theorem d218_45 : decode (eb_b 218) 45 = .ok (.iaload, 1) := by decide +kernel
theorem d218_46 : decode (eb_b 218) 46 = .ok (.imul, 1) := by decide +kernel
theorem d218_47 : decode (eb_b 218) 47 = .ok (.aload_n 0, 1) := by decide +kernel
theorem d218_48 : decode (eb_b 218) 48 = .ok (.getfield 42, 3) := by decide +kernel
theorem d218_51 : decode (eb_b 218) 51 = .ok (.iload_n 1, 1) := by decide +kernel
theorem d218_52 : decode (eb_b 218) 52 = .ok (.aaload, 1) := by decide +kernel
theorem d218_53 : decode (eb_b 218) 53 = .ok (.iconst 1, 1) := by decide +kernel
theorem d218_54 : decode (eb_b 218) 54 = .ok (.iaload, 1) := by decide +kernel
theorem d218_55 : decode (eb_b 218) 55 = .ok (.idiv, 1) := by decide +kernel
theorem d218_56 : decode (eb_b 218) 56 = .ok (.ireturn, 1) := by decide +kernel
theorem d219_0 : decode (eb_b 219) 0 = .ok (.aload_n 0, 1) := by decide +kernel
theorem d219_1 : decode (eb_b 219) 1 = .ok (.iload_n 1, 1) := by decide +kernel
theorem d219_2 : decode (eb_b 219) 2 = .ok (.invokevirtual 127, 3) := by decide +kernel
theorem d219_5 : decode (eb_b 219) 5 = .ok (.ifCond .eq 27, 3) := by decide +kernel
theorem d219_8 : decode (eb_b 219) 8 = .ok (.iload_n 2, 1) := by decide +kernel
theorem d219_9 : decode (eb_b 219) 9 = .ok (.i2l, 1) := by decide +kernel
theorem d219_10 : decode (eb_b 219) 10 = .ok (.lconst 1, 1) := by decide +kernel
theorem d219_11 : decode (eb_b 219) 11 = .ok (.ldc2_w 89, 3) := by decide +kernel
theorem d219_14 : decode (eb_b 219) 14 = .ok (.invokestatic 76, 3) := by decide +kernel
theorem d219_17 : decode (eb_b 219) 17 = .ok (.ifCond .eq 15, 3) := by decide +kernel
theorem d219_20 : decode (eb_b 219) 20 = .ok (.iload_n 3, 1) := by decide +kernel
theorem d219_21 : decode (eb_b 219) 21 = .ok (.i2l, 1) := by decide +kernel
theorem d219_22 : decode (eb_b 219) 22 = .ok (.lconst 0, 1) := by decide +kernel
theorem d219_23 : decode (eb_b 219) 23 = .ok (.ldc2_w 115, 3) := by decide +kernel
theorem d219_26 : decode (eb_b 219) 26 = .ok (.invokestatic 76, 3) := by decide +kernel
theorem d219_29 : decode (eb_b 219) 29 = .ok (.ifCond .ne 13, 3) := by decide +kernel
theorem d219_32 : decode (eb_b 219) 32 = .ok (.ldc 252, 2) := by decide +kernel
theorem d219_34 : decode (eb_b 219) 34 = .ok (.aload_n 0, 1) := by decide +kernel
theorem d219_35 : decode (eb_b 219) 35 = .ok (.bipush (-2), 2) := by decide +kernel
theorem d219_37 : decode (eb_b 219) 37 = .ok (.invokevirtual 91, 3) := by decide +kernel
theorem d219_40 : decode (eb_b 219) 40 = .ok (.iadd, 1) := by decide +kernel
theorem d219_41 : decode (eb_b 219) 41 = .ok (.ireturn, 1) := by decide +kernel
theorem d219_42 : decode (eb_b 219) 42 = .ok (.aload_n 0, 1) := by decide +kernel
theorem d219_43 : decode (eb_b 219) 43 = .ok (.getfield 39, 3) := by decide +kernel
theorem d219_46 : decode (eb_b 219) 46 = .ok (.iload_n 1, 1) := by decide +kernel
theorem d219_47 : decode (eb_b 219) 47 = .ok (.aaload, 1) := by decide +kernel
theorem d219_48 : decode (eb_b 219) 48 = .ok (.bipush 6, 2) := by decide +kernel
theorem d219_50 : decode (eb_b 219) 50 = .ok (.iaload, 1) := by decide +kernel
theorem d219_51 : decode (eb_b 219) 51 = .ok (.iload_n 2, 1) := by decide +kernel
theorem d219_52 : decode (eb_b 219) 52 = .ok (.iload_n 3, 1) := by decide +kernel
theorem d219_53 : decode (eb_b 219) 53 = .ok (.imul, 1) := by decide +kernel
theorem d219_54 : decode (eb_b 219) 54 = .ok (.iadd, 1) := by decide +kernel
theorem d219_55 : decode (eb_b 219) 55 = .ok (.aload_n 0, 1) := by decide +kernel
theorem d219_56 : decode (eb_b 219) 56 = .ok (.getfield 39, 3) := by decide +kernel
theorem d219_59 : decode (eb_b 219) 59 = .ok (.iload_n 1, 1) := by decide +kernel
theorem d219_60 : decode (eb_b 219) 60 = .ok (.aaload, 1) := by decide +kernel
theorem d219_61 : decode (eb_b 219) 61 = .ok (.iconst 5, 1) := by decide +kernel
theorem d219_62 : decode (eb_b 219) 62 = .ok (.iaload, 1) := by decide +kernel
theorem d219_63 : decode (eb_b 219) 63 = .ok (.iload_n 2, 1) := by decide +kernel
theorem d219_64 : decode (eb_b 219) 64 = .ok (.iadd, 1) := by decide +kernel
theorem d219_65 : decode (eb_b 219) 65 = .ok (.idiv, 1) := by decide +kernel
theorem d219_66 : decode (eb_b 219) 66 = .ok (.aload_n 0, 1) := by decide +kernel
theorem d219_67 : decode (eb_b 219) 67 = .ok (.getfield 39, 3) := by decide +kernel
theorem d219_70 : decode (eb_b 219) 70 = .ok (.iload_n 1, 1) := by decide +kernel
theorem d219_71 : decode (eb_b 219) 71 = .ok (.aaload, 1) := by decide +kernel
theorem d219_72 : decode (eb_b 219) 72 = .ok (.iconst 0, 1) := by decide +kernel
theorem d219_73 : decode (eb_b 219) 73 = .ok (.iaload, 1) := by decide +kernel
theorem d219_74 : decode (eb_b 219) 74 = .ok (.isub, 1) := by decide +kernel
theorem d219_75 : decode (eb_b 219) 75 = .ok (.ireturn, 1) := by decide +kernel
theorem d220_0 : decode (eb_b 220) 0 = .ok (.aload_n 0, 1) := by decide +kernel
theorem d220_1 : decode (eb_b 220) 1 = .ok (.iload_n 1, 1) := by decide +kernel
theorem d220_2 : decode (eb_b 220) 2 = .ok (.invokevirtual 135, 3) := by decide +kernel
theorem d220_5 : decode (eb_b 220) 5 = .ok (.ifCond .eq 11, 3) := by decide +kernel
theorem d220_8 : decode (eb_b 220) 8 = .ok (.aload_n 0, 1) := by decide +kernel
theorem d220_9 : decode (eb_b 220) 9 = .ok (.iload_n 2, 1) := by decide +kernel
theorem d220_10 : decode (eb_b 220) 10 = .ok (.invokevirtual 135, 3) := by decide +kernel
theorem d220_13 : decode (eb_b 220) 13 = .ok (.ifCond .ne 13, 3) := by decide +kernel
theorem d220_16 : decode (eb_b 220) 16 = .ok (.ldc 252, 2) := by decide +kernel
theorem d220_18 : decode (eb_b 220) 18 = .ok (.aload_n 0, 1) := by decide +kernel
theorem d220_19 : decode (eb_b 220) 19 = .ok (.bipush (-2), 2) := by decide +kernel
theorem d220_21 : decode (eb_b 220) 21 = .ok (.invokevirtual 91, 3) := by decide +kernel
theorem d220_24 : decode (eb_b 220) 24 = .ok (.iadd, 1) := by decide +kernel
theorem d220_25 : decode (eb_b 220) 25 = .ok (.ireturn, 1) := by decide +kernel
theorem d220_26 : decode (eb_b 220) 26 = .ok (.aload_n 0, 1) := by decide +kernel
theorem d220_27 : decode (eb_b 220) 27 = .ok (.invokevirtual 227, 3) := by decide +kernel
theorem d220_30 : decode (eb_b 220) 30 = .ok (.astore_n 3, 1) := by decide +kernel
theorem hn220_3 : 3 < eb_ml 220 := by decide
theorem d220_31 : decode (eb_b 220) 31 = .ok (.aload_n 3, 1) := by decide +kernel
theorem d220_32 : decode (eb_b 220) 32 = .ok (.iconst 0, 1) := by decide +kernel
theorem d220_33 : decode (eb_b 220) 33 = .ok (.putfield 132, 3) := by decide +kernel
theorem d220_36 : decode (eb_b 220) 36 = .ok (.aload_n 3, 1) := by decide +kernel
theorem d220_37 : decode (eb_b 220) 37 = .ok (.invokevirtual 253, 3) := by decide +kernel
theorem d220_40 : decode (eb_b 220) 40 = .ok (.iconst 0, 1) := by decide +kernel
theorem d220_41 : decode (eb_b 220) 41 = .ok (.istore 4, 2) := by decide +kernel
theorem hn220_4 : 4 < eb_ml 220 := by decide
theorem d220_43 : decode (eb_b 220) 43 = .ok (.iload 4, 2) := by decide +kernel
theorem d220_45 : decode (eb_b 220) 45 = .ok (.iconst 2, 1) := by decide +kernel
theorem d220_46 : decode (eb_b 220) 46 = .ok (.if_icmp .ge 121, 3) := by decide +kernel
theorem d220_49 : decode (eb_b 220) 49 = .ok (.iconst 0, 1) := by decide +kernel
theorem d220_50 : decode (eb_b 220) 50 = .ok (.istore 5, 2) := by decide +kernel
theorem hn220_5 : 5 < eb_ml 220 := by decide
theorem d220_52 : decode (eb_b 220) 52 = .ok (.iload 5, 2) := by decide +kernel
theorem d220_54 : decode (eb_b 220) 54 = .ok (.aload_n 0, 1) := by decide +kernel
theorem d220_55 : decode (eb_b 220) 55 = .ok (.getfield 80, 3) := by decide +kernel
theorem d220_58 : decode (eb_b 220) 58 = .ok (.if_icmp .ge 103, 3) := by decide +kernel
theorem d220_61 : decode (eb_b 220) 61 = .ok (.aload_n 0, 1) := by decide +kernel
theorem d220_62 : decode (eb_b 220) 62 = .ok (.getfield 42, 3) := by decide +kernel
theorem d220_65 : decode (eb_b 220) 65 = .ok (.iload 5, 2) := by decide +kernel
theorem d220_67 : decode (eb_b 220) 67 = .ok (.aaload, 1) := by decide +kernel
theorem d220_68 : decode (eb_b 220) 68 = .ok (.iconst 0, 1) := by decide +kernel
theorem d220_69 : decode (eb_b 220) 69 = .ok (.iaload, 1) := by decide +kernel
theorem d220_70 : decode (eb_b 220) 70 = .ok (.iconst 5, 1) := by decide +kernel
theorem d220_71 : decode (eb_b 220) 71 = .ok (.if_icmp .ne 7, 3) := by decide +kernel
theorem d220_74 : decode (eb_b 220) 74 = .ok (.iconst 1, 1) := by decide +kernel
theorem d220_75 : decode (eb_b 220) 75 = .ok (.goto 4, 3) := by decide +kernel
theorem d220_78 : decode (eb_b 220) 78 = .ok (.iconst 0, 1) := by decide +kernel
theorem d220_79 : decode (eb_b 220) 79 = .ok (.iload 4, 2) := by decide +kernel
theorem d220_81 : decode (eb_b 220) 81 = .ok (.iconst 1, 1) := by decide +kernel
theorem d220_82 : decode (eb_b 220) 82 = .ok (.if_icmp .ne 7, 3) := by decide +kernel
theorem d220_85 : decode (eb_b 220) 85 = .ok (.iconst 1, 1) := by decide +kernel
theorem d220_86 : decode (eb_b 220) 86 = .ok (.goto 4, 3) := by decide +kernel
theorem d220_89 : decode (eb_b 220) 89 = .ok (.iconst 0, 1) := by decide +kernel
theorem d220_90 : decode (eb_b 220) 90 = .ok (.if_icmp .ne 65, 3) := by decide +kernel
theorem d220_93 : decode (eb_b 220) 93 = .ok (.aload_n 0, 1) := by decide +kernel
theorem d220_94 : decode (eb_b 220) 94 = .ok (.iload 5, 2) := by decide +kernel
theorem d220_96 : decode (eb_b 220) 96 = .ok (.invokevirtual 271, 3) := by decide +kernel
theorem d220_99 : decode (eb_b 220) 99 = .ok (.ifCond .eq 17, 3) := by decide +kernel
theorem d220_102 : decode (eb_b 220) 102 = .ok (.aload_n 0, 1) := by decide +kernel
theorem d220_103 : decode (eb_b 220) 103 = .ok (.getfield 42, 3) := by decide +kernel
theorem d220_106 : decode (eb_b 220) 106 = .ok (.iload 5, 2) := by decide +kernel
theorem d220_108 : decode (eb_b 220) 108 = .ok (.aaload, 1) := by decide +kernel
theorem d220_109 : decode (eb_b 220) 109 = .ok (.iconst 1, 1) := by decide +kernel
theorem d220_110 : decode (eb_b 220) 110 = .ok (.iaload, 1) := by decide +kernel
theorem d220_111 : decode (eb_b 220) 111 = .ok (.iconst 2, 1) := by decide +kernel
theorem d220_112 : decode (eb_b 220) 112 = .ok (.idiv, 1) := by decide +kernel
theorem d220_113 : decode (eb_b 220) 113 = .ok (.goto 4, 3) := by decide +kernel
theorem d220_116 : decode (eb_b 220) 116 = .ok (.iconst 0, 1) := by decide +kernel
theorem d220_117 : decode (eb_b 220) 117 = .ok (.istore 6, 2) := by decide +kernel
theorem hn220_6 : 6 < eb_ml 220 := by decide
theorem d220_119 : decode (eb_b 220) 119 = .ok (.aload_n 3, 1) := by decide +kernel
theorem d220_120 : decode (eb_b 220) 120 = .ok (.iload_n 1, 1) := by decide +kernel
theorem d220_121 : decode (eb_b 220) 121 = .ok (.invokevirtual 283, 3) := by decide +kernel
theorem wc_221 : Cond.code (eb_y 221) (eb_b 221) (eb_ml 221) (eb_rt 221) ∈ eb_LT := eb_lt 1389 (by decide +kernel)
theorem cy_221 : (eb_y 221).cls = eb_cN (eb_rc 221) ∧ (eb_y 221).cls ≠ "java/lang/invoke/MethodHandle" ∧ (eb_y 221).cls ≠ "java/lang/invoke/VarHandle" ∧ (parseMethodDescriptor (eb_y 221).desc).map (fun d => d.parameters.length) = some 1 := by decide +kernel
theorem wi_221 : Cond.instanceMethod (eb_y 221) ∈ eb_LT := eb_lt 1388 (by decide +kernel)
theorem wse_221 : Cond.selects (eb_cN (eb_rc 221)) (eb_y 221) (eb_y 221) ∈ eb_LT := eb_lt 68 (by decide +kernel)
theorem kV_221 {L q0 m pc : Nat} {lg : Nat → Bool} {ix : Nat} (hw : Cond.methodLink (eb_own m) ix (eb_y 221) ∈ eb_LT) (hd : decode (eb_b m) pc = .ok (.invokevirtual ix, 3)) : eb_Snd L q0 m pc lg (op_callv 221 2 (pc + 3)) := sn_callV true rfl (Or.inl ⟨rfl, rfl⟩) (by decide) rfl (by decide) ⟨⟨hw, wi_221, wse_221⟩, wc_221⟩ cy_221 hd
theorem wm_6_283 : Cond.methodLink (eb_cN 6) 283 (eb_y 221) ∈ eb_LT := eb_lt 1386 (by decide +kernel)
theorem d220_124 : decode (eb_b 220) 124 = .ok (.aload_n 3, 1) := by decide +kernel
theorem d220_125 : decode (eb_b 220) 125 = .ok (.iload 5, 2) := by decide +kernel
theorem d220_127 : decode (eb_b 220) 127 = .ok (.aload_n 0, 1) := by decide +kernel
theorem d220_128 : decode (eb_b 220) 128 = .ok (.getfield 42, 3) := by decide +kernel
theorem d220_131 : decode (eb_b 220) 131 = .ok (.iload 5, 2) := by decide +kernel
theorem d220_133 : decode (eb_b 220) 133 = .ok (.aaload, 1) := by decide +kernel
theorem d220_134 : decode (eb_b 220) 134 = .ok (.iconst 1, 1) := by decide +kernel
theorem d220_135 : decode (eb_b 220) 135 = .ok (.iaload, 1) := by decide +kernel
theorem d220_136 : decode (eb_b 220) 136 = .ok (.iload 6, 2) := by decide +kernel
theorem d220_138 : decode (eb_b 220) 138 = .ok (.isub, 1) := by decide +kernel
theorem d220_139 : decode (eb_b 220) 139 = .ok (.invokevirtual 256, 3) := by decide +kernel
theorem d220_142 : decode (eb_b 220) 142 = .ok (.aload_n 3, 1) := by decide +kernel
theorem d220_143 : decode (eb_b 220) 143 = .ok (.iload_n 2, 1) := by decide +kernel
theorem d220_144 : decode (eb_b 220) 144 = .ok (.invokevirtual 283, 3) := by decide +kernel
theorem d220_147 : decode (eb_b 220) 147 = .ok (.aload_n 3, 1) := by decide +kernel
theorem d220_148 : decode (eb_b 220) 148 = .ok (.iload 5, 2) := by decide +kernel
theorem d220_150 : decode (eb_b 220) 150 = .ok (.iload 6, 2) := by decide +kernel
theorem d220_152 : decode (eb_b 220) 152 = .ok (.invokevirtual 256, 3) := by decide +kernel
theorem d220_155 : decode (eb_b 220) 155 = .ok (.iinc 5 1, 3) := by decide +kernel
theorem d220_158 : decode (eb_b 220) 158 = .ok (.goto (-106), 3) := by decide +kernel
theorem d220_161 : decode (eb_b 220) 161 = .ok (.iinc 4 1, 3) := by decide +kernel
theorem d220_164 : decode (eb_b 220) 164 = .ok (.goto (-121), 3) := by decide +kernel
theorem d220_167 : decode (eb_b 220) 167 = .ok (.aload_n 3, 1) := by decide +kernel
theorem d220_168 : decode (eb_b 220) 168 = .ok (.iconst (-1), 1) := by decide +kernel
theorem d220_169 : decode (eb_b 220) 169 = .ok (.invokevirtual 268, 3) := by decide +kernel
theorem d220_172 : decode (eb_b 220) 172 = .ok (.ireturn, 1) := by decide +kernel
theorem d221_0 : decode (eb_b 221) 0 = .ok (.iconst 0, 1) := by decide +kernel
theorem d221_1 : decode (eb_b 221) 1 = .ok (.istore_n 2, 1) := by decide +kernel
theorem hn221_2 : 2 < eb_ml 221 := by decide
theorem d221_2 : decode (eb_b 221) 2 = .ok (.iload_n 2, 1) := by decide +kernel
theorem d221_3 : decode (eb_b 221) 3 = .ok (.aload_n 0, 1) := by decide +kernel
theorem d221_4 : decode (eb_b 221) 4 = .ok (.getfield 73, 3) := by decide +kernel
theorem d221_7 : decode (eb_b 221) 7 = .ok (.if_icmp .ge 35, 3) := by decide +kernel
theorem d221_10 : decode (eb_b 221) 10 = .ok (.aload_n 0, 1) := by decide +kernel
theorem d221_11 : decode (eb_b 221) 11 = .ok (.getfield 61, 3) := by decide +kernel
theorem d221_14 : decode (eb_b 221) 14 = .ok (.iload_n 2, 1) := by decide +kernel
theorem d221_15 : decode (eb_b 221) 15 = .ok (.iload_n 1, 1) := by decide +kernel
theorem d221_16 : decode (eb_b 221) 16 = .ok (.iload_n 2, 1) := by decide +kernel
theorem d221_17 : decode (eb_b 221) 17 = .ok (.ishr, 1) := by decide +kernel
theorem d221_18 : decode (eb_b 221) 18 = .ok (.iconst 1, 1) := by decide +kernel
theorem d221_19 : decode (eb_b 221) 19 = .ok (.iand, 1) := by decide +kernel
theorem d221_20 : decode (eb_b 221) 20 = .ok (.ifCond .eq 14, 3) := by decide +kernel
theorem d221_23 : decode (eb_b 221) 23 = .ok (.aload_n 0, 1) := by decide +kernel
theorem d221_24 : decode (eb_b 221) 24 = .ok (.getfield 39, 3) := by decide +kernel
theorem d221_27 : decode (eb_b 221) 27 = .ok (.iload_n 2, 1) := by decide +kernel
theorem d221_28 : decode (eb_b 221) 28 = .ok (.aaload, 1) := by decide +kernel
theorem d221_29 : decode (eb_b 221) 29 = .ok (.iconst 0, 1) := by decide +kernel
theorem d221_30 : decode (eb_b 221) 30 = .ok (.iaload, 1) := by decide +kernel
theorem d221_31 : decode (eb_b 221) 31 = .ok (.goto 4, 3) := by decide +kernel
theorem d221_34 : decode (eb_b 221) 34 = .ok (.iconst (-1), 1) := by decide +kernel
theorem d221_35 : decode (eb_b 221) 35 = .ok (.iastore, 1) := by decide +kernel
theorem d221_36 : decode (eb_b 221) 36 = .ok (.iinc 2 1, 3) := by decide +kernel
theorem d221_39 : decode (eb_b 221) 39 = .ok (.goto (-37), 3) := by decide +kernel
theorem d221_42 : decode (eb_b 221) 42 = .ok (.return_, 1) := by decide +kernel
theorem d222_0 : decode (eb_b 222) 0 = .ok (.aload_n 0, 1) := by decide +kernel
theorem d222_1 : decode (eb_b 222) 1 = .ok (.iload_n 1, 1) := by decide +kernel
theorem d222_2 : decode (eb_b 222) 2 = .ok (.invokevirtual 95, 3) := by decide +kernel
theorem d222_5 : decode (eb_b 222) 5 = .ok (.istore_n 2, 1) := by decide +kernel
theorem hn222_2 : 2 < eb_ml 222 := by decide
theorem d222_6 : decode (eb_b 222) 6 = .ok (.iload_n 2, 1) := by decide +kernel
theorem d222_7 : decode (eb_b 222) 7 = .ok (.ifCond .eq 5, 3) := by decide +kernel
theorem d222_10 : decode (eb_b 222) 10 = .ok (.iload_n 2, 1) := by decide +kernel
theorem d222_11 : decode (eb_b 222) 11 = .ok (.ireturn, 1) := by decide +kernel
theorem d222_12 : decode (eb_b 222) 12 = .ok (.aload_n 0, 1) := by decide +kernel
theorem d222_13 : decode (eb_b 222) 13 = .ok (.getfield 16, 3) := by decide +kernel
theorem d222_16 : decode (eb_b 222) 16 = .ok (.iload_n 1, 1) := by decide +kernel
theorem d222_17 : decode (eb_b 222) 17 = .ok (.iaload, 1) := by decide +kernel
theorem d222_18 : decode (eb_b 222) 18 = .ok (.aload_n 0, 1) := by decide +kernel
theorem d222_19 : decode (eb_b 222) 19 = .ok (.getfield 80, 3) := by decide +kernel
theorem d222_22 : decode (eb_b 222) 22 = .ok (.aload_n 0, 1) := by decide +kernel
theorem d222_23 : decode (eb_b 222) 23 = .ok (.getfield 73, 3) := by decide +kernel
theorem d222_26 : decode (eb_b 222) 26 = .ok (.imul, 1) := by decide +kernel
theorem d222_27 : decode (eb_b 222) 27 = .ok (.if_icmp .ge 10, 3) := by decide +kernel
theorem d222_30 : decode (eb_b 222) 30 = .ok (.aload_n 0, 1) := by decide +kernel
theorem d222_31 : decode (eb_b 222) 31 = .ok (.bipush (-2), 2) := by decide +kernel
theorem d222_33 : decode (eb_b 222) 33 = .ok (.invokevirtual 91, 3) := by decide +kernel
theorem d222_36 : decode (eb_b 222) 36 = .ok (.ireturn, 1) := by decide +kernel
theorem d222_37 : decode (eb_b 222) 37 = .ok (.aload_n 0, 1) := by decide +kernel
theorem d222_38 : decode (eb_b 222) 38 = .ok (.invokevirtual 259, 3) := by decide +kernel
theorem d222_41 : decode (eb_b 222) 41 = .ok (.iconst 0, 1) := by decide +kernel
theorem d222_42 : decode (eb_b 222) 42 = .ok (.istore_n 3, 1) := by decide +kernel
theorem hn222_3 : 3 < eb_ml 222 := by decide
theorem d222_43 : decode (eb_b 222) 43 = .ok (.iload_n 3, 1) := by decide +kernel
theorem d222_44 : decode (eb_b 222) 44 = .ok (.aload_n 0, 1) := by decide +kernel
theorem d222_45 : decode (eb_b 222) 45 = .ok (.getfield 80, 3) := by decide +kernel
theorem d222_48 : decode (eb_b 222) 48 = .ok (.aload_n 0, 1) := by decide +kernel
theorem d222_49 : decode (eb_b 222) 49 = .ok (.getfield 73, 3) := by decide +kernel
theorem d222_52 : decode (eb_b 222) 52 = .ok (.imul, 1) := by decide +kernel
theorem d222_53 : decode (eb_b 222) 53 = .ok (.if_icmp .ge 42, 3) := by decide +kernel
theorem d222_56 : decode (eb_b 222) 56 = .ok (.aload_n 0, 1) := by decide +kernel
theorem d222_57 : decode (eb_b 222) 57 = .ok (.getfield 21, 3) := by decide +kernel
theorem d222_60 : decode (eb_b 222) 60 = .ok (.iload_n 1, 1) := by decide +kernel
theorem d222_61 : decode (eb_b 222) 61 = .ok (.aaload, 1) := by decide +kernel
theorem d222_62 : decode (eb_b 222) 62 = .ok (.iload_n 3, 1) := by decide +kernel
theorem d222_63 : decode (eb_b 222) 63 = .ok (.laload, 1) := by decide +kernel
theorem d222_64 : decode (eb_b 222) 64 = .ok (.aload_n 0, 1) := by decide +kernel
theorem d222_65 : decode (eb_b 222) 65 = .ok (.getfield 52, 3) := by decide +kernel
theorem d222_68 : decode (eb_b 222) 68 = .ok (.iload_n 3, 1) := by decide +kernel
theorem d222_69 : decode (eb_b 222) 69 = .ok (.aload_n 0, 1) := by decide +kernel
theorem d222_70 : decode (eb_b 222) 70 = .ok (.getfield 73, 3) := by decide +kernel
theorem d222_73 : decode (eb_b 222) 73 = .ok (.idiv, 1) := by decide +kernel
theorem d222_74 : decode (eb_b 222) 74 = .ok (.aaload, 1) := by decide +kernel
theorem d222_75 : decode (eb_b 222) 75 = .ok (.iload_n 3, 1) := by decide +kernel
theorem d222_76 : decode (eb_b 222) 76 = .ok (.aload_n 0, 1) := by decide +kernel
theorem d222_77 : decode (eb_b 222) 77 = .ok (.getfield 73, 3) := by decide +kernel
theorem d222_80 : decode (eb_b 222) 80 = .ok (.irem, 1) := by decide +kernel
theorem d222_81 : decode (eb_b 222) 81 = .ok (.iaload, 1) := by decide +kernel
theorem d222_82 : decode (eb_b 222) 82 = .ok (.i2l, 1) := by decide +kernel
theorem d222_83 : decode (eb_b 222) 83 = .ok (.lcmp, 1) := by decide +kernel
theorem d222_84 : decode (eb_b 222) 84 = .ok (.ifCond .eq 5, 3) := by decide +kernel
theorem d222_87 : decode (eb_b 222) 87 = .ok (.iload_n 3, 1) := by decide +kernel
theorem d222_88 : decode (eb_b 222) 88 = .ok (.ireturn, 1) := by decide +kernel
theorem d222_89 : decode (eb_b 222) 89 = .ok (.iinc 3 1, 3) := by decide +kernel
theorem d222_92 : decode (eb_b 222) 92 = .ok (.goto (-49), 3) := by decide +kernel
theorem d222_95 : decode (eb_b 222) 95 = .ok (.iconst (-1), 1) := by decide +kernel
theorem d222_96 : decode (eb_b 222) 96 = .ok (.ireturn, 1) := by decide +kernel
theorem d223_0 : decode (eb_b 223) 0 = .ok (.aload_n 0, 1) := by decide +kernel
theorem d223_1 : decode (eb_b 223) 1 = .ok (.invokevirtual 259, 3) := by decide +kernel
theorem d223_4 : decode (eb_b 223) 4 = .ok (.iconst 0, 1) := by decide +kernel
theorem d223_5 : decode (eb_b 223) 5 = .ok (.istore_n 1, 1) := by decide +kernel
theorem hn223_1 : 1 < eb_ml 223 := by decide
theorem d223_6 : decode (eb_b 223) 6 = .ok (.iload_n 1, 1) := by decide +kernel
theorem d223_7 : decode (eb_b 223) 7 = .ok (.aload_n 0, 1) := by decide +kernel
theorem d223_8 : decode (eb_b 223) 8 = .ok (.getfield 73, 3) := by decide +kernel
theorem d223_11 : decode (eb_b 223) 11 = .ok (.if_icmp .ge 83, 3) := by decide +kernel
theorem d223_14 : decode (eb_b 223) 14 = .ok (.aload_n 0, 1) := by decide +kernel
theorem d223_15 : decode (eb_b 223) 15 = .ok (.getfield 39, 3) := by decide +kernel
theorem d223_18 : decode (eb_b 223) 18 = .ok (.iload_n 1, 1) := by decide +kernel
theorem d223_19 : decode (eb_b 223) 19 = .ok (.aaload, 1) := by decide +kernel
theorem d223_20 : decode (eb_b 223) 20 = .ok (.astore_n 2, 1) := by decide +kernel
theorem hn223_2 : 2 < eb_ml 223 := by decide
theorem d223_21 : decode (eb_b 223) 21 = .ok (.aload_n 0, 1) := by decide +kernel
theorem d223_22 : decode (eb_b 223) 22 = .ok (.iload_n 1, 1) := by decide +kernel
theorem d223_23 : decode (eb_b 223) 23 = .ok (.invokevirtual 262, 3) := by decide +kernel
theorem d223_26 : decode (eb_b 223) 26 = .ok (.istore_n 3, 1) := by decide +kernel
theorem hn223_3 : 3 < eb_ml 223 := by decide
theorem d223_27 : decode (eb_b 223) 27 = .ok (.iload_n 3, 1) := by decide +kernel
theorem d223_28 : decode (eb_b 223) 28 = .ok (.ifCond .le 49, 3) := by decide +kernel
theorem d223_31 : decode (eb_b 223) 31 = .ok (.aload_n 2, 1) := by decide +kernel
theorem d223_32 : decode (eb_b 223) 32 = .ok (.iconst 4, 1) := by decide +kernel
theorem d223_33 : decode (eb_b 223) 33 = .ok (.iaload, 1) := by decide +kernel
theorem d223_34 : decode (eb_b 223) 34 = .ok (.iconst (-1), 1) := by decide +kernel
theorem d223_35 : decode (eb_b 223) 35 = .ok (.if_icmp .eq 21, 3) := by decide +kernel
theorem d223_38 : decode (eb_b 223) 38 = .ok (.aload_n 2, 1) := by decide +kernel
theorem d223_39 : decode (eb_b 223) 39 = .ok (.iconst 0, 1) := by decide +kernel
theorem d223_40 : decode (eb_b 223) 40 = .ok (.iaload, 1) := by decide +kernel
theorem d223_41 : decode (eb_b 223) 41 = .ok (.aload_n 2, 1) := by decide +kernel
theorem d223_42 : decode (eb_b 223) 42 = .ok (.iconst 4, 1) := by decide +kernel
theorem d223_43 : decode (eb_b 223) 43 = .ok (.iaload, 1) := by decide +kernel
theorem d223_44 : decode (eb_b 223) 44 = .ok (.if_icmp .ge 12, 3) := by decide +kernel
theorem d223_47 : decode (eb_b 223) 47 = .ok (.aload_n 2, 1) := by decide +kernel
theorem d223_48 : decode (eb_b 223) 48 = .ok (.iconst 0, 1) := by decide +kernel
theorem d223_49 : decode (eb_b 223) 49 = .ok (.iaload, 1) := by decide +kernel
theorem d223_50 : decode (eb_b 223) 50 = .ok (.bipush 10, 2) := by decide +kernel
theorem d223_52 : decode (eb_b 223) 52 = .ok (.isub, 1) := by decide +kernel
theorem d223_53 : decode (eb_b 223) 53 = .ok (.goto 6, 3) := by decide +kernel
theorem d223_56 : decode (eb_b 223) 56 = .ok (.aload_n 2, 1) := by decide +kernel
theorem d223_57 : decode (eb_b 223) 57 = .ok (.iconst 0, 1) := by decide +kernel
theorem d223_58 : decode (eb_b 223) 58 = .ok (.iaload, 1) := by decide +kernel
theorem d223_59 : decode (eb_b 223) 59 = .ok (.istore 4, 2) := by decide +kernel
theorem hn223_4 : 4 < eb_ml 223 := by decide
theorem d223_61 : decode (eb_b 223) 61 = .ok (.aload_n 0, 1) := by decide +kernel
theorem d223_62 : decode (eb_b 223) 62 = .ok (.iload_n 1, 1) := by decide +kernel
theorem d223_63 : decode (eb_b 223) 63 = .ok (.iload 4, 2) := by decide +kernel
theorem d223_65 : decode (eb_b 223) 65 = .ok (.ifCond .ge 7, 3) := by decide +kernel
theorem d223_68 : decode (eb_b 223) 68 = .ok (.iconst 0, 1) := by decide +kernel
theorem d223_69 : decode (eb_b 223) 69 = .ok (.goto 5, 3) := by decide +kernel
theorem d223_72 : decode (eb_b 223) 72 = .ok (.iload 4, 2) := by decide +kernel
theorem d223_74 : decode (eb_b 223) 74 = .ok (.invokevirtual 141, 3) := by decide +kernel
theorem d223_77 : decode (eb_b 223) 77 = .ok (.aload_n 0, 1) := by decide +kernel
theorem d223_78 : decode (eb_b 223) 78 = .ok (.getfield 67, 3) := by decide +kernel
theorem wf_6_67 : Cond.fieldLink (eb_cN 6) 67 (eb_tT 6 31).1 (eb_tT 6 31).2.1 (eb_tT 6 31).2.2.1 ∈ eb_LT := eb_lt 987 (by decide +kernel)
theorem fi_6_31 : 31 < eb_nf 6 ∧ (eb_tt 6 31).isReference = true := ⟨by decide, rfl⟩
theorem d223_81 : decode (eb_b 223) 81 = .ok (.iload_n 1, 1) := by decide +kernel
theorem d223_82 : decode (eb_b 223) 82 = .ok (.iload_n 3, 1) := by decide +kernel
theorem d223_83 : decode (eb_b 223) 83 = .ok (.aload_n 2, 1) := by decide +kernel
theorem d223_84 : decode (eb_b 223) 84 = .ok (.iconst 3, 1) := by decide +kernel
theorem d223_85 : decode (eb_b 223) 85 = .ok (.iaload, 1) := by decide +kernel
theorem d223_86 : decode (eb_b 223) 86 = .ok (.imul, 1) := by decide +kernel
theorem d223_87 : decode (eb_b 223) 87 = .ok (.iastore, 1) := by decide +kernel
theorem d223_88 : decode (eb_b 223) 88 = .ok (.iinc 1 1, 3) := by decide +kernel
theorem d223_91 : decode (eb_b 223) 91 = .ok (.goto (-85), 3) := by decide +kernel
theorem d223_94 : decode (eb_b 223) 94 = .ok (.aload_n 0, 1) := by decide +kernel
theorem d223_95 : decode (eb_b 223) 95 = .ok (.aload_n 0, 1) := by decide +kernel
theorem d223_96 : decode (eb_b 223) 96 = .ok (.iconst (-1), 1) := by decide +kernel
theorem d223_97 : decode (eb_b 223) 97 = .ok (.invokevirtual 268, 3) := by decide +kernel
theorem d223_100 : decode (eb_b 223) 100 = .ok (.putfield 287, 3) := by decide +kernel
theorem wf_6_287 : Cond.fieldLink (eb_cN 6) 287 (eb_tT 6 29).1 (eb_tT 6 29).2.1 (eb_tT 6 29).2.2.1 ∈ eb_LT := eb_lt 985 (by decide +kernel)
theorem fi_6_29 : 29 < eb_nf 6 ∧ (eb_tt 6 29).isReference = false := ⟨by decide, rfl⟩
theorem fp_6_29 : ∀ x : Int32, narrow (eb_tt 6 29) (.int x) = .int x ∧ fits (eb_tt 6 29) (.int x) = true := fun x => ⟨rfl, rfl⟩
theorem d223_103 : decode (eb_b 223) 103 = .ok (.iconst 0, 1) := by decide +kernel
theorem d223_104 : decode (eb_b 223) 104 = .ok (.istore_n 1, 1) := by decide +kernel
theorem d223_105 : decode (eb_b 223) 105 = .ok (.iload_n 1, 1) := by decide +kernel
theorem d223_106 : decode (eb_b 223) 106 = .ok (.aload_n 0, 1) := by decide +kernel
theorem d223_107 : decode (eb_b 223) 107 = .ok (.getfield 80, 3) := by decide +kernel
theorem d223_110 : decode (eb_b 223) 110 = .ok (.if_icmp .ge 20, 3) := by decide +kernel
theorem d223_113 : decode (eb_b 223) 113 = .ok (.aload_n 0, 1) := by decide +kernel
theorem d223_114 : decode (eb_b 223) 114 = .ok (.getfield 64, 3) := by decide +kernel
theorem wf_6_64 : Cond.fieldLink (eb_cN 6) 64 (eb_tT 6 30).1 (eb_tT 6 30).2.1 (eb_tT 6 30).2.2.1 ∈ eb_LT := eb_lt 986 (by decide +kernel)
theorem fi_6_30 : 30 < eb_nf 6 ∧ (eb_tt 6 30).isReference = true := ⟨by decide, rfl⟩
theorem d223_117 : decode (eb_b 223) 117 = .ok (.iload_n 1, 1) := by decide +kernel
theorem d223_118 : decode (eb_b 223) 118 = .ok (.aload_n 0, 1) := by decide +kernel
theorem d223_119 : decode (eb_b 223) 119 = .ok (.iload_n 1, 1) := by decide +kernel
theorem d223_120 : decode (eb_b 223) 120 = .ok (.invokevirtual 265, 3) := by decide +kernel
theorem d223_123 : decode (eb_b 223) 123 = .ok (.iastore, 1) := by decide +kernel
theorem d223_124 : decode (eb_b 223) 124 = .ok (.iinc 1 1, 3) := by decide +kernel
theorem d223_127 : decode (eb_b 223) 127 = .ok (.goto (-22), 3) := by decide +kernel
theorem d223_130 : decode (eb_b 223) 130 = .ok (.iconst 0, 1) := by decide +kernel
theorem d223_131 : decode (eb_b 223) 131 = .ok (.istore_n 1, 1) := by decide +kernel
theorem d223_132 : decode (eb_b 223) 132 = .ok (.iload_n 1, 1) := by decide +kernel
theorem d223_133 : decode (eb_b 223) 133 = .ok (.aload_n 0, 1) := by decide +kernel
theorem d223_134 : decode (eb_b 223) 134 = .ok (.getfield 73, 3) := by decide +kernel
theorem d223_137 : decode (eb_b 223) 137 = .ok (.if_icmp .ge 129, 3) := by decide +kernel
theorem d223_140 : decode (eb_b 223) 140 = .ok (.aload_n 0, 1) := by decide +kernel
theorem d223_141 : decode (eb_b 223) 141 = .ok (.getfield 39, 3) := by decide +kernel
theorem d223_144 : decode (eb_b 223) 144 = .ok (.iload_n 1, 1) := by decide +kernel
theorem d223_145 : decode (eb_b 223) 145 = .ok (.aaload, 1) := by decide +kernel
theorem d223_146 : decode (eb_b 223) 146 = .ok (.astore_n 2, 1) := by decide +kernel
theorem d223_147 : decode (eb_b 223) 147 = .ok (.aload_n 0, 1) := by decide +kernel
theorem d223_148 : decode (eb_b 223) 148 = .ok (.getfield 58, 3) := by decide +kernel
theorem d223_151 : decode (eb_b 223) 151 = .ok (.iload_n 1, 1) := by decide +kernel
theorem d223_152 : decode (eb_b 223) 152 = .ok (.iaload, 1) := by decide +kernel
theorem d223_153 : decode (eb_b 223) 153 = .ok (.ifCond .ne 39, 3) := by decide +kernel
theorem d223_156 : decode (eb_b 223) 156 = .ok (.aload_n 2, 1) := by decide +kernel
theorem d223_157 : decode (eb_b 223) 157 = .ok (.iconst 0, 1) := by decide +kernel
theorem d223_158 : decode (eb_b 223) 158 = .ok (.aload_n 2, 1) := by decide +kernel
theorem d223_159 : decode (eb_b 223) 159 = .ok (.iconst 0, 1) := by decide +kernel
theorem d223_160 : decode (eb_b 223) 160 = .ok (.iaload, 1) := by decide +kernel
theorem d223_161 : decode (eb_b 223) 161 = .ok (.bipush 6, 2) := by decide +kernel
theorem d223_163 : decode (eb_b 223) 163 = .ok (.isub, 1) := by decide +kernel
theorem d223_164 : decode (eb_b 223) 164 = .ok (.bipush 100, 2) := by decide +kernel
theorem d223_166 : decode (eb_b 223) 166 = .ok (.invokestatic 290, 3) := by decide +kernel
theorem wc_147 : Cond.code (eb_y 147) (eb_b 147) (eb_ml 147) (eb_rt 147) ∈ eb_LT := eb_lt 1412 (by decide +kernel)
theorem cy_147 : (eb_y 147).cls ≠ "java/lang/invoke/MethodHandle" ∧ (eb_y 147).cls ≠ "java/lang/invoke/VarHandle" ∧ (parseMethodDescriptor (eb_y 147).desc).map (fun d => d.parameters.length) = some 2 := by decide +kernel
theorem wst_147 : Cond.static (eb_y 147) ∈ eb_LT := eb_lt 1411 (by decide +kernel)
theorem wn_147 : Cond.initialized (eb_y 147).cls ∈ eb_LT := eb_lt 83 (by decide +kernel)
theorem kS_147 {L q0 m pc : Nat} {lg : Nat → Bool} {ix : Nat} (hw : Cond.methodLink (eb_own m) ix (eb_y 147) ∈ eb_LT) (hd : decode (eb_b m) pc = .ok (.invokestatic ix, 3)) : eb_Snd L q0 m pc lg (op_call 147 2 (pc + 3)) := sn_callS false rfl (Or.inr ⟨rfl, _, rfl⟩) (by decide) ⟨⟨hw, wst_147, wn_147⟩, wc_147⟩ cy_147 hd
theorem wm_6_290 : Cond.methodLink (eb_cN 6) 290 (eb_y 147) ∈ eb_LT := eb_lt 1410 (by decide +kernel)
theorem d223_169 : decode (eb_b 223) 169 = .ok (.iastore, 1) := by decide +kernel
theorem d223_170 : decode (eb_b 223) 170 = .ok (.aload_n 2, 1) := by decide +kernel
theorem d223_171 : decode (eb_b 223) 171 = .ok (.iconst 3, 1) := by decide +kernel
theorem d223_172 : decode (eb_b 223) 172 = .ok (.aload_n 2, 1) := by decide +kernel
theorem d223_173 : decode (eb_b 223) 173 = .ok (.iconst 3, 1) := by decide +kernel
theorem d223_174 : decode (eb_b 223) 174 = .ok (.iaload, 1) := by decide +kernel
theorem d223_175 : decode (eb_b 223) 175 = .ok (.aload_n 2, 1) := by decide +kernel
theorem d223_176 : decode (eb_b 223) 176 = .ok (.iconst 3, 1) := by decide +kernel
theorem d223_177 : decode (eb_b 223) 177 = .ok (.iaload, 1) := by decide +kernel
theorem d223_178 : decode (eb_b 223) 178 = .ok (.iconst 4, 1) := by decide +kernel
theorem d223_179 : decode (eb_b 223) 179 = .ok (.idiv, 1) := by decide +kernel
theorem d223_180 : decode (eb_b 223) 180 = .ok (.iadd, 1) := by decide +kernel
theorem d223_181 : decode (eb_b 223) 181 = .ok (.iconst 1, 1) := by decide +kernel
theorem d223_182 : decode (eb_b 223) 182 = .ok (.iadd, 1) := by decide +kernel
theorem d223_183 : decode (eb_b 223) 183 = .ok (.bipush 99, 2) := by decide +kernel
theorem d223_185 : decode (eb_b 223) 185 = .ok (.invokestatic 290, 3) := by decide +kernel
theorem d223_188 : decode (eb_b 223) 188 = .ok (.iastore, 1) := by decide +kernel
theorem d223_189 : decode (eb_b 223) 189 = .ok (.goto 71, 3) := by decide +kernel
theorem d223_192 : decode (eb_b 223) 192 = .ok (.iconst 2, 1) := by decide +kernel
theorem d223_193 : decode (eb_b 223) 193 = .ok (.aload_n 0, 1) := by decide +kernel
theorem d223_194 : decode (eb_b 223) 194 = .ok (.iload_n 1, 1) := by decide +kernel
theorem d223_195 : decode (eb_b 223) 195 = .ok (.invokevirtual 262, 3) := by decide +kernel
theorem d223_198 : decode (eb_b 223) 198 = .ok (.imul, 1) := by decide +kernel
theorem d223_199 : decode (eb_b 223) 199 = .ok (.aload_n 2, 1) := by decide +kernel
theorem d223_200 : decode (eb_b 223) 200 = .ok (.iconst 2, 1) := by decide +kernel
theorem d223_201 : decode (eb_b 223) 201 = .ok (.iaload, 1) := by decide +kernel
theorem d223_202 : decode (eb_b 223) 202 = .ok (.if_icmp .ge 58, 3) := by decide +kernel
theorem d223_205 : decode (eb_b 223) 205 = .ok (.aload_n 2, 1) := by decide +kernel
theorem d223_206 : decode (eb_b 223) 206 = .ok (.iconst 0, 1) := by decide +kernel
theorem d223_207 : decode (eb_b 223) 207 = .ok (.iaload, 1) := by decide +kernel
theorem d223_208 : decode (eb_b 223) 208 = .ok (.iconst 3, 1) := by decide +kernel
theorem d223_209 : decode (eb_b 223) 209 = .ok (.iadd, 1) := by decide +kernel
theorem d223_210 : decode (eb_b 223) 210 = .ok (.aload_n 2, 1) := by decide +kernel
theorem d223_211 : decode (eb_b 223) 211 = .ok (.iconst 1, 1) := by decide +kernel
theorem d223_212 : decode (eb_b 223) 212 = .ok (.iaload, 1) := by decide +kernel
theorem d223_213 : decode (eb_b 223) 213 = .ok (.if_icmp .le 9, 3) := by decide +kernel
theorem d223_216 : decode (eb_b 223) 216 = .ok (.aload_n 2, 1) := by decide +kernel
theorem d223_217 : decode (eb_b 223) 217 = .ok (.iconst 1, 1) := by decide +kernel
theorem d223_218 : decode (eb_b 223) 218 = .ok (.iaload, 1) := by decide +kernel
theorem d223_219 : decode (eb_b 223) 219 = .ok (.goto 8, 3) := by decide +kernel
theorem d223_222 : decode (eb_b 223) 222 = .ok (.aload_n 2, 1) := by decide +kernel
theorem d223_223 : decode (eb_b 223) 223 = .ok (.iconst 0, 1) := by decide +kernel
theorem d223_224 : decode (eb_b 223) 224 = .ok (.iaload, 1) := by decide +kernel
theorem d223_225 : decode (eb_b 223) 225 = .ok (.iconst 3, 1) := by decide +kernel
theorem d223_226 : decode (eb_b 223) 226 = .ok (.iadd, 1) := by decide +kernel
theorem d223_227 : decode (eb_b 223) 227 = .ok (.istore_n 3, 1) := by decide +kernel
theorem d223_228 : decode (eb_b 223) 228 = .ok (.aload_n 2, 1) := by decide +kernel
theorem d223_229 : decode (eb_b 223) 229 = .ok (.iconst 0, 1) := by decide +kernel
theorem d223_230 : decode (eb_b 223) 230 = .ok (.aload_n 2, 1) := by decide +kernel
theorem d223_231 : decode (eb_b 223) 231 = .ok (.iconst 0, 1) := by decide +kernel
theorem d223_232 : decode (eb_b 223) 232 = .ok (.iaload, 1) := by decide +kernel
theorem d223_233 : decode (eb_b 223) 233 = .ok (.aload_n 2, 1) := by decide +kernel
theorem d223_234 : decode (eb_b 223) 234 = .ok (.iconst 1, 1) := by decide +kernel
theorem d223_235 : decode (eb_b 223) 235 = .ok (.iaload, 1) := by decide +kernel
theorem d223_236 : decode (eb_b 223) 236 = .ok (.if_icmp .le 9, 3) := by decide +kernel
theorem d223_239 : decode (eb_b 223) 239 = .ok (.aload_n 2, 1) := by decide +kernel
theorem d223_240 : decode (eb_b 223) 240 = .ok (.iconst 0, 1) := by decide +kernel
theorem d223_241 : decode (eb_b 223) 241 = .ok (.iaload, 1) := by decide +kernel
theorem d223_242 : decode (eb_b 223) 242 = .ok (.goto 4, 3) := by decide +kernel
theorem d223_245 : decode (eb_b 223) 245 = .ok (.iload_n 3, 1) := by decide +kernel
theorem d223_246 : decode (eb_b 223) 246 = .ok (.iastore, 1) := by decide +kernel
theorem d223_247 : decode (eb_b 223) 247 = .ok (.aload_n 2, 1) := by decide +kernel
theorem d223_248 : decode (eb_b 223) 248 = .ok (.iconst 3, 1) := by decide +kernel
theorem d223_249 : decode (eb_b 223) 249 = .ok (.aload_n 2, 1) := by decide +kernel
theorem d223_250 : decode (eb_b 223) 250 = .ok (.iconst 3, 1) := by decide +kernel
theorem d223_251 : decode (eb_b 223) 251 = .ok (.iaload, 1) := by decide +kernel
theorem d223_252 : decode (eb_b 223) 252 = .ok (.iconst 1, 1) := by decide +kernel
theorem d223_253 : decode (eb_b 223) 253 = .ok (.isub, 1) := by decide +kernel
theorem d223_254 : decode (eb_b 223) 254 = .ok (.bipush 99, 2) := by decide +kernel
theorem d223_256 : decode (eb_b 223) 256 = .ok (.invokestatic 290, 3) := by decide +kernel
theorem d223_259 : decode (eb_b 223) 259 = .ok (.iastore, 1) := by decide +kernel
theorem d223_260 : decode (eb_b 223) 260 = .ok (.iinc 1 1, 3) := by decide +kernel
theorem d223_263 : decode (eb_b 223) 263 = .ok (.goto (-131), 3) := by decide +kernel
theorem d223_266 : decode (eb_b 223) 266 = .ok (.aload_n 0, 1) := by decide +kernel
theorem d223_267 : decode (eb_b 223) 267 = .ok (.aload_n 0, 1) := by decide +kernel
theorem d223_268 : decode (eb_b 223) 268 = .ok (.getfield 132, 3) := by decide +kernel
theorem d223_271 : decode (eb_b 223) 271 = .ok (.iconst 1, 1) := by decide +kernel
theorem d223_272 : decode (eb_b 223) 272 = .ok (.iadd, 1) := by decide +kernel
theorem d223_273 : decode (eb_b 223) 273 = .ok (.bipush 99, 2) := by decide +kernel
theorem d223_275 : decode (eb_b 223) 275 = .ok (.invokestatic 290, 3) := by decide +kernel
theorem d223_278 : decode (eb_b 223) 278 = .ok (.putfield 132, 3) := by decide +kernel
theorem d223_281 : decode (eb_b 223) 281 = .ok (.aload_n 0, 1) := by decide +kernel
theorem d223_282 : decode (eb_b 223) 282 = .ok (.dup, 1) := by decide +kernel
theorem d223_283 : decode (eb_b 223) 283 = .ok (.getfield 293, 3) := by decide +kernel
theorem wf_6_293 : Cond.fieldLink (eb_cN 6) 293 (eb_tT 6 14).1 (eb_tT 6 14).2.1 (eb_tT 6 14).2.2.1 ∈ eb_LT := eb_lt 970 (by decide +kernel)
theorem fi_6_14 : 14 < eb_nf 6 ∧ (eb_tt 6 14).isReference = false := ⟨by decide, rfl⟩
theorem d223_286 : decode (eb_b 223) 286 = .ok (.iconst 1, 1) := by decide +kernel
theorem d223_287 : decode (eb_b 223) 287 = .ok (.iadd, 1) := by decide +kernel
theorem d223_288 : decode (eb_b 223) 288 = .ok (.putfield 293, 3) := by decide +kernel
theorem fp_6_14 : ∀ x : Int32, narrow (eb_tt 6 14) (.int x) = .int x ∧ fits (eb_tt 6 14) (.int x) = true := fun x => ⟨rfl, rfl⟩
theorem d223_291 : decode (eb_b 223) 291 = .ok (.return_, 1) := by decide +kernel
theorem d224_0 : decode (eb_b 224) 0 = .ok (.iconst 0, 1) := by decide +kernel
theorem d224_1 : decode (eb_b 224) 1 = .ok (.istore_n 3, 1) := by decide +kernel
theorem hn224_3 : 3 < eb_ml 224 := by decide
theorem d224_2 : decode (eb_b 224) 2 = .ok (.iconst 0, 1) := by decide +kernel
theorem d224_3 : decode (eb_b 224) 3 = .ok (.istore 4, 2) := by decide +kernel
theorem hn224_4 : 4 < eb_ml 224 := by decide
theorem d224_5 : decode (eb_b 224) 5 = .ok (.iload 4, 2) := by decide +kernel
theorem d224_7 : decode (eb_b 224) 7 = .ok (.iload_n 1, 1) := by decide +kernel
theorem d224_8 : decode (eb_b 224) 8 = .ok (.if_icmp .ge 34, 3) := by decide +kernel
theorem d224_11 : decode (eb_b 224) 11 = .ok (.aload_n 0, 1) := by decide +kernel
theorem d224_12 : decode (eb_b 224) 12 = .ok (.invokevirtual 296, 3) := by decide +kernel
theorem wc_223 : Cond.code (eb_y 223) (eb_b 223) (eb_ml 223) (eb_rt 223) ∈ eb_LT := eb_lt 1409 (by decide +kernel)
theorem cy_223 : (eb_y 223).cls = eb_cN (eb_rc 223) ∧ (eb_y 223).cls ≠ "java/lang/invoke/MethodHandle" ∧ (eb_y 223).cls ≠ "java/lang/invoke/VarHandle" ∧ (parseMethodDescriptor (eb_y 223).desc).map (fun d => d.parameters.length) = some 0 := by decide +kernel
theorem wi_223 : Cond.instanceMethod (eb_y 223) ∈ eb_LT := eb_lt 1408 (by decide +kernel)
theorem wse_223 : Cond.selects (eb_cN (eb_rc 223)) (eb_y 223) (eb_y 223) ∈ eb_LT := eb_lt 70 (by decide +kernel)
theorem kV_223 {L q0 m pc : Nat} {lg : Nat → Bool} {ix : Nat} (hw : Cond.methodLink (eb_own m) ix (eb_y 223) ∈ eb_LT) (hd : decode (eb_b m) pc = .ok (.invokevirtual ix, 3)) : eb_Snd L q0 m pc lg (op_callv 223 1 (pc + 3)) := sn_callV true rfl (Or.inl ⟨rfl, rfl⟩) (by decide) rfl (by decide) ⟨⟨hw, wi_223, wse_223⟩, wc_223⟩ cy_223 hd
theorem wm_6_296 : Cond.methodLink (eb_cN 6) 296 (eb_y 223) ∈ eb_LT := eb_lt 1406 (by decide +kernel)
theorem d224_15 : decode (eb_b 224) 15 = .ok (.iload_n 3, 1) := by decide +kernel
theorem d224_16 : decode (eb_b 224) 16 = .ok (.iload_n 2, 1) := by decide +kernel
theorem d224_17 : decode (eb_b 224) 17 = .ok (.iconst (-1), 1) := by decide +kernel
theorem d224_18 : decode (eb_b 224) 18 = .ok (.if_icmp .ne 10, 3) := by decide +kernel
theorem d224_21 : decode (eb_b 224) 21 = .ok (.aload_n 0, 1) := by decide +kernel
theorem d224_22 : decode (eb_b 224) 22 = .ok (.getfield 287, 3) := by decide +kernel
theorem d224_25 : decode (eb_b 224) 25 = .ok (.goto 9, 3) := by decide +kernel
theorem d224_28 : decode (eb_b 224) 28 = .ok (.aload_n 0, 1) := by decide +kernel
theorem d224_29 : decode (eb_b 224) 29 = .ok (.getfield 64, 3) := by decide +kernel
theorem d224_32 : decode (eb_b 224) 32 = .ok (.iload_n 2, 1) := by decide +kernel
theorem d224_33 : decode (eb_b 224) 33 = .ok (.iaload, 1) := by decide +kernel
theorem d224_34 : decode (eb_b 224) 34 = .ok (.iadd, 1) := by decide +kernel
theorem d224_35 : decode (eb_b 224) 35 = .ok (.istore_n 3, 1) := by decide +kernel
theorem d224_36 : decode (eb_b 224) 36 = .ok (.iinc 4 1, 3) := by decide +kernel
theorem d224_39 : decode (eb_b 224) 39 = .ok (.goto (-34), 3) := by decide +kernel
theorem d224_42 : decode (eb_b 224) 42 = .ok (.iload_n 3, 1) := by decide +kernel
theorem d224_43 : decode (eb_b 224) 43 = .ok (.ireturn, 1) := by decide +kernel
theorem d225_0 : decode (eb_b 225) 0 = .ok (.iload_n 1, 1) := by decide +kernel
theorem d225_1 : decode (eb_b 225) 1 = .ok (.invokestatic 299, 3) := by decide +kernel
theorem wc_150 : Cond.code (eb_y 150) (eb_b 150) (eb_ml 150) (eb_rt 150) ∈ eb_LT := eb_lt 1400 (by decide +kernel)
theorem cy_150 : (eb_y 150).cls ≠ "java/lang/invoke/MethodHandle" ∧ (eb_y 150).cls ≠ "java/lang/invoke/VarHandle" ∧ (parseMethodDescriptor (eb_y 150).desc).map (fun d => d.parameters.length) = some 1 := by decide +kernel
theorem wst_150 : Cond.static (eb_y 150) ∈ eb_LT := eb_lt 1399 (by decide +kernel)
theorem wn_150 : Cond.initialized (eb_y 150).cls ∈ eb_LT := eb_lt 83 (by decide +kernel)
theorem kS_150 {L q0 m pc : Nat} {lg : Nat → Bool} {ix : Nat} (hw : Cond.methodLink (eb_own m) ix (eb_y 150) ∈ eb_LT) (hd : decode (eb_b m) pc = .ok (.invokestatic ix, 3)) : eb_Snd L q0 m pc lg (op_call 150 1 (pc + 3)) := sn_callS false rfl (Or.inr ⟨rfl, _, rfl⟩) (by decide) ⟨⟨hw, wst_150, wn_150⟩, wc_150⟩ cy_150 hd
theorem wm_6_299 : Cond.methodLink (eb_cN 6) 299 (eb_y 150) ∈ eb_LT := eb_lt 1398 (by decide +kernel)
theorem d225_4 : decode (eb_b 225) 4 = .ok (.ifCond .eq 16, 3) := by decide +kernel
theorem d225_7 : decode (eb_b 225) 7 = .ok (.iload_n 2, 1) := by decide +kernel
theorem d225_8 : decode (eb_b 225) 8 = .ok (.iconst (-1), 1) := by decide +kernel
theorem d225_9 : decode (eb_b 225) 9 = .ok (.if_icmp .eq 21, 3) := by decide +kernel
theorem d225_12 : decode (eb_b 225) 12 = .ok (.aload_n 0, 1) := by decide +kernel
theorem d225_13 : decode (eb_b 225) 13 = .ok (.iload_n 2, 1) := by decide +kernel
theorem d225_14 : decode (eb_b 225) 14 = .ok (.invokevirtual 102, 3) := by decide +kernel
theorem d225_17 : decode (eb_b 225) 17 = .ok (.ifCond .ne 13, 3) := by decide +kernel
theorem d225_20 : decode (eb_b 225) 20 = .ok (.ldc 252, 2) := by decide +kernel
theorem d225_22 : decode (eb_b 225) 22 = .ok (.aload_n 0, 1) := by decide +kernel
theorem d225_23 : decode (eb_b 225) 23 = .ok (.bipush (-2), 2) := by decide +kernel
theorem d225_25 : decode (eb_b 225) 25 = .ok (.invokevirtual 91, 3) := by decide +kernel
theorem d225_28 : decode (eb_b 225) 28 = .ok (.iadd, 1) := by decide +kernel
theorem d225_29 : decode (eb_b 225) 29 = .ok (.ireturn, 1) := by decide +kernel
theorem d225_30 : decode (eb_b 225) 30 = .ok (.aload_n 0, 1) := by decide +kernel
theorem d225_31 : decode (eb_b 225) 31 = .ok (.invokevirtual 227, 3) := by decide +kernel
theorem d225_34 : decode (eb_b 225) 34 = .ok (.iload_n 1, 1) := by decide +kernel
theorem d225_35 : decode (eb_b 225) 35 = .ok (.iload_n 2, 1) := by decide +kernel
theorem d225_36 : decode (eb_b 225) 36 = .ok (.invokevirtual 302, 3) := by decide +kernel
theorem wc_224 : Cond.code (eb_y 224) (eb_b 224) (eb_ml 224) (eb_rt 224) ∈ eb_LT := eb_lt 1405 (by decide +kernel)
theorem cy_224 : (eb_y 224).cls = eb_cN (eb_rc 224) ∧ (eb_y 224).cls ≠ "java/lang/invoke/MethodHandle" ∧ (eb_y 224).cls ≠ "java/lang/invoke/VarHandle" ∧ (parseMethodDescriptor (eb_y 224).desc).map (fun d => d.parameters.length) = some 2 := by decide +kernel
theorem wi_224 : Cond.instanceMethod (eb_y 224) ∈ eb_LT := eb_lt 1404 (by decide +kernel)
theorem wse_224 : Cond.selects (eb_cN (eb_rc 224)) (eb_y 224) (eb_y 224) ∈ eb_LT := eb_lt 69 (by decide +kernel)
theorem kV_224 {L q0 m pc : Nat} {lg : Nat → Bool} {ix : Nat} (hw : Cond.methodLink (eb_own m) ix (eb_y 224) ∈ eb_LT) (hd : decode (eb_b m) pc = .ok (.invokevirtual ix, 3)) : eb_Snd L q0 m pc lg (op_call 224 3 (pc + 3)) := sn_callV false rfl (Or.inr ⟨rfl, _, rfl⟩) (by decide) rfl (by decide) ⟨⟨hw, wi_224, wse_224⟩, wc_224⟩ cy_224 hd
theorem wm_6_302 : Cond.methodLink (eb_cN 6) 302 (eb_y 224) ∈ eb_LT := eb_lt 1402 (by decide +kernel)
theorem d225_39 : decode (eb_b 225) 39 = .ok (.ireturn, 1) := by decide +kernel
theorem d226_0 : decode (eb_b 226) 0 = .ok (.iload_n 1, 1) := by decide +kernel
theorem d226_1 : decode (eb_b 226) 1 = .ok (.invokestatic 299, 3) := by decide +kernel
theorem d226_4 : decode (eb_b 226) 4 = .ok (.ifCond .eq 23, 3) := by decide +kernel
theorem d226_7 : decode (eb_b 226) 7 = .ok (.aload_n 0, 1) := by decide +kernel
theorem d226_8 : decode (eb_b 226) 8 = .ok (.iload_n 2, 1) := by decide +kernel
theorem d226_9 : decode (eb_b 226) 9 = .ok (.invokevirtual 127, 3) := by decide +kernel
theorem d226_12 : decode (eb_b 226) 12 = .ok (.ifCond .eq 15, 3) := by decide +kernel
theorem d226_15 : decode (eb_b 226) 15 = .ok (.iload_n 3, 1) := by decide +kernel
theorem d226_16 : decode (eb_b 226) 16 = .ok (.i2l, 1) := by decide +kernel
theorem d226_17 : decode (eb_b 226) 17 = .ok (.lconst 0, 1) := by decide +kernel
theorem d226_18 : decode (eb_b 226) 18 = .ok (.ldc2_w 240, 3) := by decide +kernel
theorem d226_21 : decode (eb_b 226) 21 = .ok (.invokestatic 76, 3) := by decide +kernel
theorem d226_24 : decode (eb_b 226) 24 = .ok (.ifCond .ne 10, 3) := by decide +kernel
theorem d226_27 : decode (eb_b 226) 27 = .ok (.aload_n 0, 1) := by decide +kernel
theorem d226_28 : decode (eb_b 226) 28 = .ok (.bipush (-2), 2) := by decide +kernel
theorem d226_30 : decode (eb_b 226) 30 = .ok (.invokevirtual 91, 3) := by decide +kernel
theorem d226_33 : decode (eb_b 226) 33 = .ok (.ireturn, 1) := by decide +kernel
theorem d226_34 : decode (eb_b 226) 34 = .ok (.aload_n 0, 1) := by decide +kernel
theorem d226_35 : decode (eb_b 226) 35 = .ok (.invokevirtual 227, 3) := by decide +kernel
theorem d226_38 : decode (eb_b 226) 38 = .ok (.astore 4, 2) := by decide +kernel
theorem hn226_4 : 4 < eb_ml 226 := by decide
theorem d226_40 : decode (eb_b 226) 40 = .ok (.iconst 0, 1) := by decide +kernel
theorem d226_41 : decode (eb_b 226) 41 = .ok (.istore 5, 2) := by decide +kernel
theorem hn226_5 : 5 < eb_ml 226 := by decide
theorem d226_43 : decode (eb_b 226) 43 = .ok (.iconst 0, 1) := by decide +kernel
theorem d226_44 : decode (eb_b 226) 44 = .ok (.istore 6, 2) := by decide +kernel
theorem hn226_6 : 6 < eb_ml 226 := by decide
theorem d226_46 : decode (eb_b 226) 46 = .ok (.iload 6, 2) := by decide +kernel
theorem d226_48 : decode (eb_b 226) 48 = .ok (.iload_n 1, 1) := by decide +kernel
theorem d226_49 : decode (eb_b 226) 49 = .ok (.if_icmp .ge 26, 3) := by decide +kernel
theorem d226_52 : decode (eb_b 226) 52 = .ok (.aload 4, 2) := by decide +kernel
theorem d226_54 : decode (eb_b 226) 54 = .ok (.invokevirtual 296, 3) := by decide +kernel
theorem d226_57 : decode (eb_b 226) 57 = .ok (.iload 5, 2) := by decide +kernel
theorem d226_59 : decode (eb_b 226) 59 = .ok (.aload 4, 2) := by decide +kernel
theorem d226_61 : decode (eb_b 226) 61 = .ok (.getfield 67, 3) := by decide +kernel
theorem d226_64 : decode (eb_b 226) 64 = .ok (.iload_n 2, 1) := by decide +kernel
theorem d226_65 : decode (eb_b 226) 65 = .ok (.iaload, 1) := by decide +kernel
theorem d226_66 : decode (eb_b 226) 66 = .ok (.iadd, 1) := by decide +kernel
theorem d226_67 : decode (eb_b 226) 67 = .ok (.istore 5, 2) := by decide +kernel
theorem d226_69 : decode (eb_b 226) 69 = .ok (.iinc 6 1, 3) := by decide +kernel
theorem d226_72 : decode (eb_b 226) 72 = .ok (.goto (-26), 3) := by decide +kernel
theorem d226_75 : decode (eb_b 226) 75 = .ok (.iload_n 3, 1) := by decide +kernel
theorem d226_76 : decode (eb_b 226) 76 = .ok (.ifCond .ne 15, 3) := by decide +kernel
theorem d226_79 : decode (eb_b 226) 79 = .ok (.aload 4, 2) := by decide +kernel
theorem d226_81 : decode (eb_b 226) 81 = .ok (.getfield 39, 3) := by decide +kernel
theorem d226_84 : decode (eb_b 226) 84 = .ok (.iload_n 2, 1) := by decide +kernel
theorem d226_85 : decode (eb_b 226) 85 = .ok (.aaload, 1) := by decide +kernel
theorem d226_86 : decode (eb_b 226) 86 = .ok (.iconst 0, 1) := by decide +kernel
theorem d226_87 : decode (eb_b 226) 87 = .ok (.iaload, 1) := by decide +kernel
theorem d226_88 : decode (eb_b 226) 88 = .ok (.goto 22, 3) := by decide +kernel
theorem d226_91 : decode (eb_b 226) 91 = .ok (.iload_n 3, 1) := by decide +kernel
theorem d226_92 : decode (eb_b 226) 92 = .ok (.iconst 1, 1) := by decide +kernel
theorem d226_93 : decode (eb_b 226) 93 = .ok (.if_icmp .ne 15, 3) := by decide +kernel
theorem d226_96 : decode (eb_b 226) 96 = .ok (.aload 4, 2) := by decide +kernel
theorem d226_98 : decode (eb_b 226) 98 = .ok (.getfield 39, 3) := by decide +kernel
theorem d226_101 : decode (eb_b 226) 101 = .ok (.iload_n 2, 1) := by decide +kernel
theorem d226_102 : decode (eb_b 226) 102 = .ok (.aaload, 1) := by decide +kernel
theorem d226_103 : decode (eb_b 226) 103 = .ok (.iconst 3, 1) := by decide +kernel
theorem d226_104 : decode (eb_b 226) 104 = .ok (.iaload, 1) := by decide +kernel
theorem d226_105 : decode (eb_b 226) 105 = .ok (.goto 5, 3) := by decide +kernel
theorem d226_108 : decode (eb_b 226) 108 = .ok (.iload 5, 2) := by decide +kernel
theorem d226_110 : decode (eb_b 226) 110 = .ok (.ireturn, 1) := by decide +kernel
theorem d227_0 : decode (eb_b 227) 0 = .ok (.aload_n 0, 1) := by decide +kernel
theorem d227_1 : decode (eb_b 227) 1 = .ok (.invokevirtual 227, 3) := by decide +kernel
theorem d227_4 : decode (eb_b 227) 4 = .ok (.astore_n 3, 1) := by decide +kernel
theorem hn227_3 : 3 < eb_ml 227 := by decide
theorem d227_5 : decode (eb_b 227) 5 = .ok (.aload_n 3, 1) := by decide +kernel
theorem d227_6 : decode (eb_b 227) 6 = .ok (.iload_n 2, 1) := by decide +kernel
theorem d227_7 : decode (eb_b 227) 7 = .ok (.invokevirtual 138, 3) := by decide +kernel
theorem d227_10 : decode (eb_b 227) 10 = .ok (.pop, 1) := by decide +kernel
theorem d227_11 : decode (eb_b 227) 11 = .ok (.aload_n 3, 1) := by decide +kernel
theorem d227_12 : decode (eb_b 227) 12 = .ok (.iload_n 1, 1) := by decide +kernel
theorem d227_13 : decode (eb_b 227) 13 = .ok (.iconst (-1), 1) := by decide +kernel
theorem d227_14 : decode (eb_b 227) 14 = .ok (.invokevirtual 302, 3) := by decide +kernel
theorem d227_17 : decode (eb_b 227) 17 = .ok (.ireturn, 1) := by decide +kernel
theorem d228_0 : decode (eb_b 228) 0 = .ok (.iconst (-1), 1) := by decide +kernel
theorem d228_1 : decode (eb_b 228) 1 = .ok (.istore_n 3, 1) := by decide +kernel
theorem hn228_3 : 3 < eb_ml 228 := by decide
theorem d228_2 : decode (eb_b 228) 2 = .ok (.iconst 0, 1) := by decide +kernel
theorem d228_3 : decode (eb_b 228) 3 = .ok (.istore 4, 2) := by decide +kernel
theorem hn228_4 : 4 < eb_ml 228 := by decide
theorem d228_5 : decode (eb_b 228) 5 = .ok (.iload 4, 2) := by decide +kernel
theorem d228_7 : decode (eb_b 228) 7 = .ok (.iconst 1, 1) := by decide +kernel
theorem d228_8 : decode (eb_b 228) 8 = .ok (.aload_n 0, 1) := by decide +kernel
theorem d228_9 : decode (eb_b 228) 9 = .ok (.getfield 73, 3) := by decide +kernel
theorem d228_12 : decode (eb_b 228) 12 = .ok (.ishl, 1) := by decide +kernel
theorem d228_13 : decode (eb_b 228) 13 = .ok (.if_icmp .ge 80, 3) := by decide +kernel
theorem d228_16 : decode (eb_b 228) 16 = .ok (.iconst 0, 1) := by decide +kernel
theorem d228_17 : decode (eb_b 228) 17 = .ok (.istore 5, 2) := by decide +kernel
theorem hn228_5 : 5 < eb_ml 228 := by decide
theorem d228_19 : decode (eb_b 228) 19 = .ok (.iconst 0, 1) := by decide +kernel
theorem d228_20 : decode (eb_b 228) 20 = .ok (.istore 6, 2) := by decide +kernel
theorem hn228_6 : 6 < eb_ml 228 := by decide
theorem d228_22 : decode (eb_b 228) 22 = .ok (.iload 6, 2) := by decide +kernel
theorem d228_24 : decode (eb_b 228) 24 = .ok (.aload_n 0, 1) := by decide +kernel
theorem d228_25 : decode (eb_b 228) 25 = .ok (.getfield 73, 3) := by decide +kernel
theorem d228_28 : decode (eb_b 228) 28 = .ok (.if_icmp .ge 21, 3) := by decide +kernel
theorem d228_31 : decode (eb_b 228) 31 = .ok (.iload 5, 2) := by decide +kernel
theorem d228_33 : decode (eb_b 228) 33 = .ok (.iload 4, 2) := by decide +kernel
theorem d228_35 : decode (eb_b 228) 35 = .ok (.iload 6, 2) := by decide +kernel
theorem d228_37 : decode (eb_b 228) 37 = .ok (.ishr, 1) := by decide +kernel
theorem d228_38 : decode (eb_b 228) 38 = .ok (.iconst 1, 1) := by decide +kernel
theorem d228_39 : decode (eb_b 228) 39 = .ok (.iand, 1) := by decide +kernel
theorem d228_40 : decode (eb_b 228) 40 = .ok (.iadd, 1) := by decide +kernel
theorem d228_41 : decode (eb_b 228) 41 = .ok (.istore 5, 2) := by decide +kernel
theorem d228_43 : decode (eb_b 228) 43 = .ok (.iinc 6 1, 3) := by decide +kernel
theorem d228_46 : decode (eb_b 228) 46 = .ok (.goto (-24), 3) := by decide +kernel
theorem d228_49 : decode (eb_b 228) 49 = .ok (.iload 5, 2) := by decide +kernel
theorem d228_51 : decode (eb_b 228) 51 = .ok (.iload_n 2, 1) := by decide +kernel
theorem d228_52 : decode (eb_b 228) 52 = .ok (.if_icmp .gt 35, 3) := by decide +kernel
theorem d228_55 : decode (eb_b 228) 55 = .ok (.aload_n 0, 1) := by decide +kernel
theorem d228_56 : decode (eb_b 228) 56 = .ok (.iload_n 1, 1) := by decide +kernel
theorem d228_57 : decode (eb_b 228) 57 = .ok (.iload 4, 2) := by decide +kernel
theorem d228_59 : decode (eb_b 228) 59 = .ok (.invokevirtual 305, 3) := by decide +kernel
theorem wc_227 : Cond.code (eb_y 227) (eb_b 227) (eb_ml 227) (eb_rt 227) ∈ eb_LT := eb_lt 1428 (by decide +kernel)
theorem cy_227 : (eb_y 227).cls = eb_cN (eb_rc 227) ∧ (eb_y 227).cls ≠ "java/lang/invoke/MethodHandle" ∧ (eb_y 227).cls ≠ "java/lang/invoke/VarHandle" ∧ (parseMethodDescriptor (eb_y 227).desc).map (fun d => d.parameters.length) = some 2 := by decide +kernel
theorem wi_227 : Cond.instanceMethod (eb_y 227) ∈ eb_LT := eb_lt 1427 (by decide +kernel)
theorem wse_227 : Cond.selects (eb_cN (eb_rc 227)) (eb_y 227) (eb_y 227) ∈ eb_LT := eb_lt 72 (by decide +kernel)
theorem kV_227 {L q0 m pc : Nat} {lg : Nat → Bool} {ix : Nat} (hw : Cond.methodLink (eb_own m) ix (eb_y 227) ∈ eb_LT) (hd : decode (eb_b m) pc = .ok (.invokevirtual ix, 3)) : eb_Snd L q0 m pc lg (op_call 227 3 (pc + 3)) := sn_callV false rfl (Or.inr ⟨rfl, _, rfl⟩) (by decide) rfl (by decide) ⟨⟨hw, wi_227, wse_227⟩, wc_227⟩ cy_227 hd
theorem wm_6_305 : Cond.methodLink (eb_cN 6) 305 (eb_y 227) ∈ eb_LT := eb_lt 1425 (by decide +kernel)
theorem d228_62 : decode (eb_b 228) 62 = .ok (.istore 6, 2) := by decide +kernel
theorem d228_64 : decode (eb_b 228) 64 = .ok (.iload_n 3, 1) := by decide +kernel
theorem d228_65 : decode (eb_b 228) 65 = .ok (.iconst (-1), 1) := by decide +kernel
theorem d228_66 : decode (eb_b 228) 66 = .ok (.if_icmp .eq 12, 3) := by decide +kernel
theorem d228_69 : decode (eb_b 228) 69 = .ok (.iload 6, 2) := by decide +kernel
theorem d228_71 : decode (eb_b 228) 71 = .ok (.aload_n 0, 1) := by decide +kernel
theorem d228_72 : decode (eb_b 228) 72 = .ok (.getfield 308, 3) := by decide +kernel
theorem wf_6_308 : Cond.fieldLink (eb_cN 6) 308 (eb_tT 6 32).1 (eb_tT 6 32).2.1 (eb_tT 6 32).2.2.1 ∈ eb_LT := eb_lt 988 (by decide +kernel)
theorem fi_6_32 : 32 < eb_nf 6 ∧ (eb_tt 6 32).isReference = false := ⟨by decide, rfl⟩
theorem d228_75 : decode (eb_b 228) 75 = .ok (.if_icmp .le 12, 3) := by decide +kernel
theorem d228_78 : decode (eb_b 228) 78 = .ok (.iload 4, 2) := by decide +kernel
theorem d228_80 : decode (eb_b 228) 80 = .ok (.istore_n 3, 1) := by decide +kernel
theorem d228_81 : decode (eb_b 228) 81 = .ok (.aload_n 0, 1) := by decide +kernel
theorem d228_82 : decode (eb_b 228) 82 = .ok (.iload 6, 2) := by decide +kernel
theorem d228_84 : decode (eb_b 228) 84 = .ok (.putfield 308, 3) := by decide +kernel
theorem fp_6_32 : ∀ x : Int32, narrow (eb_tt 6 32) (.int x) = .int x ∧ fits (eb_tt 6 32) (.int x) = true := fun x => ⟨rfl, rfl⟩
theorem d228_87 : decode (eb_b 228) 87 = .ok (.iinc 4 1, 3) := by decide +kernel
theorem d228_90 : decode (eb_b 228) 90 = .ok (.goto (-85), 3) := by decide +kernel
theorem d228_93 : decode (eb_b 228) 93 = .ok (.iload_n 3, 1) := by decide +kernel
theorem d228_94 : decode (eb_b 228) 94 = .ok (.ireturn, 1) := by decide +kernel
theorem d229_0 : decode (eb_b 229) 0 = .ok (.iload_n 1, 1) := by decide +kernel
theorem d229_1 : decode (eb_b 229) 1 = .ok (.invokestatic 299, 3) := by decide +kernel
theorem d229_4 : decode (eb_b 229) 4 = .ok (.ifCond .eq 24, 3) := by decide +kernel
theorem d229_7 : decode (eb_b 229) 7 = .ok (.iload_n 2, 1) := by decide +kernel
theorem d229_8 : decode (eb_b 229) 8 = .ok (.i2l, 1) := by decide +kernel
theorem d229_9 : decode (eb_b 229) 9 = .ok (.lconst 0, 1) := by decide +kernel
theorem d229_10 : decode (eb_b 229) 10 = .ok (.ldc2_w 238, 3) := by decide +kernel
theorem d229_13 : decode (eb_b 229) 13 = .ok (.invokestatic 76, 3) := by decide +kernel
theorem d229_16 : decode (eb_b 229) 16 = .ok (.ifCond .eq 12, 3) := by decide +kernel
theorem d229_19 : decode (eb_b 229) 19 = .ok (.aload_n 0, 1) := by decide +kernel
theorem d229_20 : decode (eb_b 229) 20 = .ok (.iload_n 1, 1) := by decide +kernel
theorem d229_21 : decode (eb_b 229) 21 = .ok (.iload_n 2, 1) := by decide +kernel
theorem d229_22 : decode (eb_b 229) 22 = .ok (.invokevirtual 311, 3) := by decide +kernel
theorem wc_228 : Cond.code (eb_y 228) (eb_b 228) (eb_ml 228) (eb_rt 228) ∈ eb_LT := eb_lt 1424 (by decide +kernel)
theorem cy_228 : (eb_y 228).cls = eb_cN (eb_rc 228) ∧ (eb_y 228).cls ≠ "java/lang/invoke/MethodHandle" ∧ (eb_y 228).cls ≠ "java/lang/invoke/VarHandle" ∧ (parseMethodDescriptor (eb_y 228).desc).map (fun d => d.parameters.length) = some 2 := by decide +kernel
theorem wi_228 : Cond.instanceMethod (eb_y 228) ∈ eb_LT := eb_lt 1423 (by decide +kernel)
theorem wse_228 : Cond.selects (eb_cN (eb_rc 228)) (eb_y 228) (eb_y 228) ∈ eb_LT := eb_lt 71 (by decide +kernel)
theorem kV_228 {L q0 m pc : Nat} {lg : Nat → Bool} {ix : Nat} (hw : Cond.methodLink (eb_own m) ix (eb_y 228) ∈ eb_LT) (hd : decode (eb_b m) pc = .ok (.invokevirtual ix, 3)) : eb_Snd L q0 m pc lg (op_call 228 3 (pc + 3)) := sn_callV false rfl (Or.inr ⟨rfl, _, rfl⟩) (by decide) rfl (by decide) ⟨⟨hw, wi_228, wse_228⟩, wc_228⟩ cy_228 hd
theorem wm_6_311 : Cond.methodLink (eb_cN 6) 311 (eb_y 228) ∈ eb_LT := eb_lt 1421 (by decide +kernel)
theorem d229_25 : decode (eb_b 229) 25 = .ok (.goto 9, 3) := by decide +kernel
theorem d229_28 : decode (eb_b 229) 28 = .ok (.aload_n 0, 1) := by decide +kernel
theorem d229_29 : decode (eb_b 229) 29 = .ok (.bipush (-2), 2) := by decide +kernel
theorem d229_31 : decode (eb_b 229) 31 = .ok (.invokevirtual 91, 3) := by decide +kernel
theorem d229_34 : decode (eb_b 229) 34 = .ok (.ireturn, 1) := by decide +kernel
theorem d230_0 : decode (eb_b 230) 0 = .ok (.iload_n 1, 1) := by decide +kernel
theorem d230_1 : decode (eb_b 230) 1 = .ok (.invokestatic 299, 3) := by decide +kernel
theorem d230_4 : decode (eb_b 230) 4 = .ok (.ifCond .eq 20, 3) := by decide +kernel
theorem d230_7 : decode (eb_b 230) 7 = .ok (.aload_n 0, 1) := by decide +kernel
theorem d230_8 : decode (eb_b 230) 8 = .ok (.iload_n 2, 1) := by decide +kernel
theorem d230_9 : decode (eb_b 230) 9 = .ok (.invokevirtual 135, 3) := by decide +kernel
theorem d230_12 : decode (eb_b 230) 12 = .ok (.ifCond .eq 12, 3) := by decide +kernel
theorem d230_15 : decode (eb_b 230) 15 = .ok (.aload_n 0, 1) := by decide +kernel
theorem d230_16 : decode (eb_b 230) 16 = .ok (.iload_n 1, 1) := by decide +kernel
theorem d230_17 : decode (eb_b 230) 17 = .ok (.iload_n 2, 1) := by decide +kernel
theorem d230_18 : decode (eb_b 230) 18 = .ok (.invokevirtual 305, 3) := by decide +kernel
theorem d230_21 : decode (eb_b 230) 21 = .ok (.goto 12, 3) := by decide +kernel
theorem d230_24 : decode (eb_b 230) 24 = .ok (.ldc 252, 2) := by decide +kernel
theorem d230_26 : decode (eb_b 230) 26 = .ok (.aload_n 0, 1) := by decide +kernel
theorem d230_27 : decode (eb_b 230) 27 = .ok (.bipush (-2), 2) := by decide +kernel
theorem d230_29 : decode (eb_b 230) 29 = .ok (.invokevirtual 91, 3) := by decide +kernel
theorem d230_32 : decode (eb_b 230) 32 = .ok (.iadd, 1) := by decide +kernel
theorem d230_33 : decode (eb_b 230) 33 = .ok (.ireturn, 1) := by decide +kernel
theorem d231_0 : decode (eb_b 231) 0 = .ok (.iload_n 1, 1) := by decide +kernel
theorem d231_1 : decode (eb_b 231) 1 = .ok (.invokestatic 299, 3) := by decide +kernel
theorem d231_4 : decode (eb_b 231) 4 = .ok (.ifCond .ne 10, 3) := by decide +kernel
theorem d231_7 : decode (eb_b 231) 7 = .ok (.aload_n 0, 1) := by decide +kernel
theorem d231_8 : decode (eb_b 231) 8 = .ok (.bipush (-2), 2) := by decide +kernel
theorem d231_10 : decode (eb_b 231) 10 = .ok (.invokevirtual 91, 3) := by decide +kernel
theorem d231_13 : decode (eb_b 231) 13 = .ok (.ireturn, 1) := by decide +kernel
theorem d231_14 : decode (eb_b 231) 14 = .ok (.aload_n 0, 1) := by decide +kernel
theorem d231_15 : decode (eb_b 231) 15 = .ok (.iload_n 1, 1) := by decide +kernel
theorem d231_16 : decode (eb_b 231) 16 = .ok (.bipush 6, 2) := by decide +kernel
theorem d231_18 : decode (eb_b 231) 18 = .ok (.invokevirtual 311, 3) := by decide +kernel
theorem d231_21 : decode (eb_b 231) 21 = .ok (.pop, 1) := by decide +kernel
theorem d231_22 : decode (eb_b 231) 22 = .ok (.aload_n 0, 1) := by decide +kernel
theorem d231_23 : decode (eb_b 231) 23 = .ok (.getfield 308, 3) := by decide +kernel
theorem d231_26 : decode (eb_b 231) 26 = .ok (.istore_n 2, 1) := by decide +kernel
theorem hn231_2 : 2 < eb_ml 231 := by decide
theorem d231_27 : decode (eb_b 231) 27 = .ok (.iconst 0, 1) := by decide +kernel
theorem d231_28 : decode (eb_b 231) 28 = .ok (.istore_n 3, 1) := by decide +kernel
theorem hn231_3 : 3 < eb_ml 231 := by decide
theorem d231_29 : decode (eb_b 231) 29 = .ok (.aload_n 0, 1) := by decide +kernel
theorem d231_30 : decode (eb_b 231) 30 = .ok (.iload_n 1, 1) := by decide +kernel
theorem d231_31 : decode (eb_b 231) 31 = .ok (.iconst 0, 1) := by decide +kernel
theorem d231_32 : decode (eb_b 231) 32 = .ok (.invokevirtual 311, 3) := by decide +kernel
theorem d231_35 : decode (eb_b 231) 35 = .ok (.pop, 1) := by decide +kernel
theorem d231_36 : decode (eb_b 231) 36 = .ok (.aload_n 0, 1) := by decide +kernel
theorem d231_37 : decode (eb_b 231) 37 = .ok (.getfield 308, 3) := by decide +kernel
theorem d231_40 : decode (eb_b 231) 40 = .ok (.iload_n 2, 1) := by decide +kernel
theorem d231_41 : decode (eb_b 231) 41 = .ok (.if_icmp .eq 16, 3) := by decide +kernel
theorem d231_44 : decode (eb_b 231) 44 = .ok (.iinc 3 1, 3) := by decide +kernel
theorem d231_47 : decode (eb_b 231) 47 = .ok (.aload_n 0, 1) := by decide +kernel
theorem d231_48 : decode (eb_b 231) 48 = .ok (.iload_n 1, 1) := by decide +kernel
theorem d231_49 : decode (eb_b 231) 49 = .ok (.iload_n 3, 1) := by decide +kernel
theorem d231_50 : decode (eb_b 231) 50 = .ok (.invokevirtual 311, 3) := by decide +kernel
theorem d231_53 : decode (eb_b 231) 53 = .ok (.pop, 1) := by decide +kernel
theorem d231_54 : decode (eb_b 231) 54 = .ok (.goto (-18), 3) := by decide +kernel
theorem d231_57 : decode (eb_b 231) 57 = .ok (.iload_n 3, 1) := by decide +kernel
theorem d231_58 : decode (eb_b 231) 58 = .ok (.ireturn, 1) := by decide +kernel
theorem d232_0 : decode (eb_b 232) 0 = .ok (.iconst 1, 1) := by decide +kernel
theorem d232_1 : decode (eb_b 232) 1 = .ok (.istore_n 2, 1) := by decide +kernel
theorem hn232_2 : 2 < eb_ml 232 := by decide
theorem d232_2 : decode (eb_b 232) 2 = .ok (.iconst 0, 1) := by decide +kernel
theorem d232_3 : decode (eb_b 232) 3 = .ok (.istore_n 3, 1) := by decide +kernel
theorem hn232_3 : 3 < eb_ml 232 := by decide
theorem d232_4 : decode (eb_b 232) 4 = .ok (.iload_n 3, 1) := by decide +kernel
theorem d232_5 : decode (eb_b 232) 5 = .ok (.iload_n 1, 1) := by decide +kernel
theorem d232_6 : decode (eb_b 232) 6 = .ok (.if_icmp .ge 18, 3) := by decide +kernel
theorem d232_9 : decode (eb_b 232) 9 = .ok (.iload_n 2, 1) := by decide +kernel
theorem d232_10 : decode (eb_b 232) 10 = .ok (.aload_n 0, 1) := by decide +kernel
theorem d232_11 : decode (eb_b 232) 11 = .ok (.getfield 73, 3) := by decide +kernel
theorem d232_14 : decode (eb_b 232) 14 = .ok (.iconst 1, 1) := by decide +kernel
theorem d232_15 : decode (eb_b 232) 15 = .ok (.iadd, 1) := by decide +kernel
theorem d232_16 : decode (eb_b 232) 16 = .ok (.imul, 1) := by decide +kernel
theorem d232_17 : decode (eb_b 232) 17 = .ok (.istore_n 2, 1) := by decide +kernel
theorem d232_18 : decode (eb_b 232) 18 = .ok (.iinc 3 1, 3) := by decide +kernel
theorem d232_21 : decode (eb_b 232) 21 = .ok (.goto (-17), 3) := by decide +kernel
theorem d232_24 : decode (eb_b 232) 24 = .ok (.iconst 0, 1) := by decide +kernel
theorem d232_25 : decode (eb_b 232) 25 = .ok (.istore_n 3, 1) := by decide +kernel
theorem d232_26 : decode (eb_b 232) 26 = .ok (.iload_n 3, 1) := by decide +kernel
theorem d232_27 : decode (eb_b 232) 27 = .ok (.iload_n 2, 1) := by decide +kernel
theorem d232_28 : decode (eb_b 232) 28 = .ok (.if_icmp .ge 168, 3) := by decide +kernel
theorem d232_31 : decode (eb_b 232) 31 = .ok (.aload_n 0, 1) := by decide +kernel
theorem d232_32 : decode (eb_b 232) 32 = .ok (.invokevirtual 227, 3) := by decide +kernel
theorem d232_35 : decode (eb_b 232) 35 = .ok (.astore 4, 2) := by decide +kernel
theorem hn232_4 : 4 < eb_ml 232 := by decide
theorem d232_37 : decode (eb_b 232) 37 = .ok (.iload_n 2, 1) := by decide +kernel
theorem d232_38 : decode (eb_b 232) 38 = .ok (.istore 5, 2) := by decide +kernel
theorem hn232_5 : 5 < eb_ml 232 := by decide
theorem d232_40 : decode (eb_b 232) 40 = .ok (.iconst 0, 1) := by decide +kernel
theorem d232_41 : decode (eb_b 232) 41 = .ok (.istore 6, 2) := by decide +kernel
theorem hn232_6 : 6 < eb_ml 232 := by decide
theorem d232_43 : decode (eb_b 232) 43 = .ok (.iconst 0, 1) := by decide +kernel
theorem d232_44 : decode (eb_b 232) 44 = .ok (.istore 7, 2) := by decide +kernel
theorem hn232_7 : 7 < eb_ml 232 := by decide
theorem d232_46 : decode (eb_b 232) 46 = .ok (.iload 7, 2) := by decide +kernel
theorem d232_48 : decode (eb_b 232) 48 = .ok (.iload_n 1, 1) := by decide +kernel
theorem d232_49 : decode (eb_b 232) 49 = .ok (.if_icmp .ge 73, 3) := by decide +kernel
theorem d232_52 : decode (eb_b 232) 52 = .ok (.iload 5, 2) := by decide +kernel
theorem d232_54 : decode (eb_b 232) 54 = .ok (.aload_n 0, 1) := by decide +kernel
theorem d232_55 : decode (eb_b 232) 55 = .ok (.getfield 73, 3) := by decide +kernel
theorem d232_58 : decode (eb_b 232) 58 = .ok (.iconst 1, 1) := by decide +kernel
theorem d232_59 : decode (eb_b 232) 59 = .ok (.iadd, 1) := by decide +kernel
theorem d232_60 : decode (eb_b 232) 60 = .ok (.idiv, 1) := by decide +kernel
theorem d232_61 : decode (eb_b 232) 61 = .ok (.istore 5, 2) := by decide +kernel
theorem d232_63 : decode (eb_b 232) 63 = .ok (.iload_n 3, 1) := by decide +kernel
theorem d232_64 : decode (eb_b 232) 64 = .ok (.iload 5, 2) := by decide +kernel
theorem d232_66 : decode (eb_b 232) 66 = .ok (.idiv, 1) := by decide +kernel
theorem d232_67 : decode (eb_b 232) 67 = .ok (.aload_n 0, 1) := by decide +kernel
theorem d232_68 : decode (eb_b 232) 68 = .ok (.getfield 73, 3) := by decide +kernel
theorem d232_71 : decode (eb_b 232) 71 = .ok (.iconst 1, 1) := by decide +kernel
theorem d232_72 : decode (eb_b 232) 72 = .ok (.iadd, 1) := by decide +kernel
theorem d232_73 : decode (eb_b 232) 73 = .ok (.irem, 1) := by decide +kernel
theorem d232_74 : decode (eb_b 232) 74 = .ok (.iconst 1, 1) := by decide +kernel
theorem d232_75 : decode (eb_b 232) 75 = .ok (.isub, 1) := by decide +kernel
theorem d232_76 : decode (eb_b 232) 76 = .ok (.istore 8, 2) := by decide +kernel
theorem hn232_8 : 8 < eb_ml 232 := by decide
theorem d232_78 : decode (eb_b 232) 78 = .ok (.iload 8, 2) := by decide +kernel
theorem d232_80 : decode (eb_b 232) 80 = .ok (.iconst (-1), 1) := by decide +kernel
theorem d232_81 : decode (eb_b 232) 81 = .ok (.if_icmp .eq 23, 3) := by decide +kernel
theorem d232_84 : decode (eb_b 232) 84 = .ok (.aload 4, 2) := by decide +kernel
theorem d232_86 : decode (eb_b 232) 86 = .ok (.getfield 39, 3) := by decide +kernel
theorem d232_89 : decode (eb_b 232) 89 = .ok (.iload 8, 2) := by decide +kernel
theorem d232_91 : decode (eb_b 232) 91 = .ok (.aaload, 1) := by decide +kernel
theorem d232_92 : decode (eb_b 232) 92 = .ok (.iconst 4, 1) := by decide +kernel
theorem d232_93 : decode (eb_b 232) 93 = .ok (.aload 4, 2) := by decide +kernel
theorem d232_95 : decode (eb_b 232) 95 = .ok (.getfield 39, 3) := by decide +kernel
theorem d232_98 : decode (eb_b 232) 98 = .ok (.iload 8, 2) := by decide +kernel
theorem d232_100 : decode (eb_b 232) 100 = .ok (.aaload, 1) := by decide +kernel
theorem d232_101 : decode (eb_b 232) 101 = .ok (.iconst 0, 1) := by decide +kernel
theorem d232_102 : decode (eb_b 232) 102 = .ok (.iaload, 1) := by decide +kernel
theorem d232_103 : decode (eb_b 232) 103 = .ok (.iastore, 1) := by decide +kernel
theorem d232_104 : decode (eb_b 232) 104 = .ok (.iload 6, 2) := by decide +kernel
theorem d232_106 : decode (eb_b 232) 106 = .ok (.aload 4, 2) := by decide +kernel
theorem d232_108 : decode (eb_b 232) 108 = .ok (.iconst 1, 1) := by decide +kernel
theorem d232_109 : decode (eb_b 232) 109 = .ok (.iconst (-1), 1) := by decide +kernel
theorem d232_110 : decode (eb_b 232) 110 = .ok (.invokevirtual 302, 3) := by decide +kernel
theorem d232_113 : decode (eb_b 232) 113 = .ok (.iadd, 1) := by decide +kernel
theorem d232_114 : decode (eb_b 232) 114 = .ok (.istore 6, 2) := by decide +kernel
theorem d232_116 : decode (eb_b 232) 116 = .ok (.iinc 7 1, 3) := by decide +kernel
theorem d232_119 : decode (eb_b 232) 119 = .ok (.goto (-73), 3) := by decide +kernel
theorem d232_122 : decode (eb_b 232) 122 = .ok (.iload_n 3, 1) := by decide +kernel
theorem d232_123 : decode (eb_b 232) 123 = .ok (.ifCond .eq 12, 3) := by decide +kernel
theorem d232_126 : decode (eb_b 232) 126 = .ok (.iload 6, 2) := by decide +kernel
theorem d232_128 : decode (eb_b 232) 128 = .ok (.aload_n 0, 1) := by decide +kernel
theorem d232_129 : decode (eb_b 232) 129 = .ok (.getfield 308, 3) := by decide +kernel
theorem d232_132 : decode (eb_b 232) 132 = .ok (.if_icmp .le 58, 3) := by decide +kernel
theorem d232_135 : decode (eb_b 232) 135 = .ok (.aload_n 0, 1) := by decide +kernel
theorem d232_136 : decode (eb_b 232) 136 = .ok (.iload 6, 2) := by decide +kernel
theorem d232_138 : decode (eb_b 232) 138 = .ok (.putfield 308, 3) := by decide +kernel
theorem d232_141 : decode (eb_b 232) 141 = .ok (.iload_n 2, 1) := by decide +kernel
theorem d232_142 : decode (eb_b 232) 142 = .ok (.istore 5, 2) := by decide +kernel
theorem d232_144 : decode (eb_b 232) 144 = .ok (.iconst 0, 1) := by decide +kernel
theorem d232_145 : decode (eb_b 232) 145 = .ok (.istore 7, 2) := by decide +kernel
theorem d232_147 : decode (eb_b 232) 147 = .ok (.iload 7, 2) := by decide +kernel
theorem d232_149 : decode (eb_b 232) 149 = .ok (.iload_n 1, 1) := by decide +kernel
theorem d232_150 : decode (eb_b 232) 150 = .ok (.if_icmp .ge 40, 3) := by decide +kernel
theorem d232_153 : decode (eb_b 232) 153 = .ok (.iload 5, 2) := by decide +kernel
theorem d232_155 : decode (eb_b 232) 155 = .ok (.aload_n 0, 1) := by decide +kernel
theorem d232_156 : decode (eb_b 232) 156 = .ok (.getfield 73, 3) := by decide +kernel
theorem d232_159 : decode (eb_b 232) 159 = .ok (.iconst 1, 1) := by decide +kernel
theorem d232_160 : decode (eb_b 232) 160 = .ok (.iadd, 1) := by decide +kernel
theorem d232_161 : decode (eb_b 232) 161 = .ok (.idiv, 1) := by decide +kernel
theorem d232_162 : decode (eb_b 232) 162 = .ok (.istore 5, 2) := by decide +kernel
theorem d232_164 : decode (eb_b 232) 164 = .ok (.aload_n 0, 1) := by decide +kernel
theorem d232_165 : decode (eb_b 232) 165 = .ok (.getfield 70, 3) := by decide +kernel
theorem wf_6_70 : Cond.fieldLink (eb_cN 6) 70 (eb_tT 6 33).1 (eb_tT 6 33).2.1 (eb_tT 6 33).2.2.1 ∈ eb_LT := eb_lt 989 (by decide +kernel)
theorem fi_6_33 : 33 < eb_nf 6 ∧ (eb_tt 6 33).isReference = true := ⟨by decide, rfl⟩
theorem d232_168 : decode (eb_b 232) 168 = .ok (.iload 7, 2) := by decide +kernel
theorem d232_170 : decode (eb_b 232) 170 = .ok (.iload_n 3, 1) := by decide +kernel
theorem d232_171 : decode (eb_b 232) 171 = .ok (.iload 5, 2) := by decide +kernel
theorem d232_173 : decode (eb_b 232) 173 = .ok (.idiv, 1) := by decide +kernel
theorem d232_174 : decode (eb_b 232) 174 = .ok (.aload_n 0, 1) := by decide +kernel
theorem d232_175 : decode (eb_b 232) 175 = .ok (.getfield 73, 3) := by decide +kernel
theorem d232_178 : decode (eb_b 232) 178 = .ok (.iconst 1, 1) := by decide +kernel
theorem d232_179 : decode (eb_b 232) 179 = .ok (.iadd, 1) := by decide +kernel
theorem d232_180 : decode (eb_b 232) 180 = .ok (.irem, 1) := by decide +kernel
theorem d232_181 : decode (eb_b 232) 181 = .ok (.iconst 1, 1) := by decide +kernel
theorem d232_182 : decode (eb_b 232) 182 = .ok (.isub, 1) := by decide +kernel
theorem d232_183 : decode (eb_b 232) 183 = .ok (.iastore, 1) := by decide +kernel
theorem d232_184 : decode (eb_b 232) 184 = .ok (.iinc 7 1, 3) := by decide +kernel
theorem d232_187 : decode (eb_b 232) 187 = .ok (.goto (-40), 3) := by decide +kernel
theorem d232_190 : decode (eb_b 232) 190 = .ok (.iinc 3 1, 3) := by decide +kernel
theorem d232_193 : decode (eb_b 232) 193 = .ok (.goto (-167), 3) := by decide +kernel
theorem d232_196 : decode (eb_b 232) 196 = .ok (.return_, 1) := by decide +kernel
section
variable {L q0 : Nat}
theorem sc215_0 : eb_AS L q0 215 (eb_lg 215) [(0, op_aload 0 1), (1, op_iload 1 2), (2, op_call 149 2 5), (5, op_ifne 15 8), (8, op_aload 0 9), (9, op_push (zi (-2)) 11), (11, op_call 145 2 14), (14, op_iret), (15, op_aload 0 16), (16, op_getR L 6 12 19), (19, op_iload 1 20), (20, op_aald L 21), (21, op_push (zi 0) 22), (22, op_iald L 23), (23, op_istore 2 24), (24, op_push (zi 0) 25), (25, op_istore 3 26), (26, op_push (zi 0) 27), (27, op_istore 4 29), (29, op_push (zi 0) 30), (30, op_istore 5 32), (32, op_iload 5 34), (34, op_push (zi 5) 35), (35, op_icgt 84 38), (38, op_aload 0 39), (39, op_getR L 6 12 42), (42, op_iload 1 43), (43, op_aald L 44), (44, op_push (zi 0) 45), (45, op_iload 5 47), (47, op_iast L 48), (48, op_aload 0 49), (49, op_callv 197 1 52), (52, op_aload 0 53), (53, op_iload 1 54), (54, op_call 203 2 57), (57, op_istore 6 59), (59, op_iload 5 61), (61, op_ifeq 71 64), (64, op_iload 6 66)] := ⟨sn_aload_n d215_0 rfl, sn_iload_n d215_1 rfl, kV_149 wm_6_102 d215_2, sn_ifne d215_5 (by decide), sn_aload_n d215_8 rfl, sn_bipush d215_9 (by decide), kV_145 wm_6_91 d215_11, sn_iret d215_14 rfl, sn_aload_n d215_15 rfl, sn_getR (by decide) fi_6_12.1 fi_6_12.2 wf_6_42 d215_16, sn_iload_n d215_19 rfl, sn_aald d215_20, sn_iconst d215_21 (by decide), sn_iald d215_22, sn_istore_n (eb_hlg (Or.inl rfl)) hn215_2 d215_23 rfl, sn_iconst d215_24 (by decide), sn_istore_n (eb_hlg (Or.inl rfl)) hn215_3 d215_25 rfl, sn_iconst d215_26 (by decide), sn_istore (eb_hlg (Or.inl rfl)) hn215_4 d215_27, sn_iconst d215_29 (by decide), sn_istore (eb_hlg (Or.inl rfl)) hn215_5 d215_30, sn_iload d215_32, sn_iconst d215_34 (by decide), sn_icgt d215_35 (by decide), sn_aload_n d215_38 rfl, sn_getR (by decide) fi_6_12.1 fi_6_12.2 wf_6_42 d215_39, sn_iload_n d215_42 rfl, sn_aald d215_43, sn_iconst d215_44 (by decide), sn_iload d215_45, sn_iast d215_47, sn_aload_n d215_48 rfl, kV_197 wm_6_259 d215_49, sn_aload_n d215_52 rfl, sn_iload_n d215_53 rfl, kV_203 wm_6_265 d215_54, sn_istore (eb_hlg (Or.inl rfl)) hn215_6 d215_57, sn_iload d215_59, sn_ifeq d215_61 (by decide), sn_iload d215_64, trivial⟩
theorem sc215_1 : eb_AS L q0 215 (eb_lg 215) [(66, op_iload 4 68), (68, op_icle 78 71), (71, op_iload 5 73), (73, op_istore 3 74), (74, op_iload 6 76), (76, op_istore 4 78), (78, op_iinc 5 1 81), (81, op_goto 32), (84, op_aload 0 85), (85, op_getR L 6 12 88), (88, op_iload 1 89), (89, op_aald L 90), (90, op_push (zi 0) 91), (91, op_iload 2 92), (92, op_iast L 93), (93, op_iload 3 94), (94, op_iret)] := ⟨sn_iload d215_66, sn_icle d215_68 (by decide), sn_iload d215_71, sn_istore_n (eb_hlg (Or.inl rfl)) hn215_3 d215_73 rfl, sn_iload d215_74, sn_istore (eb_hlg (Or.inl rfl)) hn215_4 d215_76, sn_iinc (eb_hlg (Or.inl rfl)) hn215_5 d215_78 (by decide), sn_goto d215_81 (by decide), sn_aload_n d215_84 rfl, sn_getR (by decide) fi_6_12.1 fi_6_12.2 wf_6_42 d215_85, sn_iload_n d215_88 rfl, sn_aald d215_89, sn_iconst d215_90 (by decide), sn_iload_n d215_91 rfl, sn_iast d215_92, sn_iload_n d215_93 rfl, sn_iret d215_94 rfl, trivial⟩
theorem sd215 : ∀ pc, eb_Snd L q0 215 pc (eb_lg 215) (eb_cd L 215 pc) := eb_AS_all (hk215 (L := L)) (eb_AS_app sc215_0 (sc215_1))
theorem sc216_0 : eb_AS L q0 216 (eb_lg 216) [(0, op_push (zi 0) 1), (1, op_istore 2 2), (2, op_iload 2 3), (3, op_aload 0 4), (4, op_getI L 6 11 7), (7, op_icge 35 10), (10, op_aload 0 11), (11, op_iload 2 12), (12, op_call 207 2 15), (15, op_ifeq 29 18), (18, op_aload 0 19), (19, op_iload 2 20), (20, op_call 194 2 23), (23, op_iload 1 24), (24, op_icne 29 27), (27, op_push (zi 1) 28), (28, op_zret), (29, op_iinc 2 1 32), (32, op_goto 2), (35, op_push (zi 0) 36), (36, op_zret)] := ⟨sn_iconst d216_0 (by decide), sn_istore_n (eb_hlg (Or.inl rfl)) hn216_2 d216_1 rfl, sn_iload_n d216_2 rfl, sn_aload_n d216_3 rfl, sn_getI (by decide) fi_6_11.1 fi_6_11.2 wf_6_80 d216_4, sn_icge d216_7 (by decide), sn_aload_n d216_10 rfl, sn_iload_n d216_11 rfl, kV_207 wm_6_271 d216_12, sn_ifeq d216_15 (by decide), sn_aload_n d216_18 rfl, sn_iload_n d216_19 rfl, kV_194 wm_6_112 d216_20, sn_iload_n d216_23 rfl, sn_icne d216_24 (by decide), sn_iconst d216_27 (by decide), sn_zret d216_28 rfl, sn_iinc (eb_hlg (Or.inl rfl)) hn216_2 d216_29 (by decide), sn_goto d216_32 (by decide), sn_iconst d216_35 (by decide), sn_zret d216_36 rfl, trivial⟩
theorem sd216 : ∀ pc, eb_Snd L q0 216 pc (eb_lg 216) (eb_cd L 216 pc) := eb_AS_all (hk216 (L := L)) (sc216_0)
theorem sc217_0 : eb_AS L q0 217 (eb_lg 217) [(0, op_aload 0 1), (1, op_iload 1 2), (2, op_call 148 2 5), (5, op_ifne 15 8), (8, op_aload 0 9), (9, op_push (zi (-2)) 11), (11, op_call 145 2 14), (14, op_iret), (15, op_aload 0 16), (16, op_getI L 6 13 19), (19, op_istore 2 20), (20, op_push (zi (-1)) 21), (21, op_istore 3 22), (22, op_push (zi 99) 24), (24, op_istore 4 26), (26, op_iload 4 28), (28, op_iflt 63 31), (31, op_iload 3 32), (32, op_push (zi (-1)) 33), (33, op_icne 63 36), (36, op_aload 0 37), (37, op_iload 4 39), (39, op_putI L 6 13 42), (42, op_aload 0 43), (43, op_iload 1 44), (44, op_call 216 2 47), (47, op_ifeq 55 50), (50, op_iload 4 52), (52, op_goto 56), (55, op_push (zi (-1)) 56), (56, op_istore 3 57), (57, op_iinc 4 (-1) 60), (60, op_goto 26), (63, op_aload 0 64), (64, op_iload 2 65), (65, op_putI L 6 13 68), (68, op_iload 3 69), (69, op_iret)] := ⟨sn_aload_n d217_0 rfl, sn_iload_n d217_1 rfl, kV_148 wm_6_127 d217_2, sn_ifne d217_5 (by decide), sn_aload_n d217_8 rfl, sn_bipush d217_9 (by decide), kV_145 wm_6_91 d217_11, sn_iret d217_14 rfl, sn_aload_n d217_15 rfl, sn_getI (by decide) fi_6_13.1 fi_6_13.2 wf_6_132 d217_16, sn_istore_n (eb_hlg (Or.inl rfl)) hn217_2 d217_19 rfl, sn_iconst d217_20 (by decide), sn_istore_n (eb_hlg (Or.inl rfl)) hn217_3 d217_21 rfl, sn_bipush d217_22 (by decide), sn_istore (eb_hlg (Or.inl rfl)) hn217_4 d217_24, sn_iload d217_26, sn_iflt d217_28 (by decide), sn_iload_n d217_31 rfl, sn_iconst d217_32 (by decide), sn_icne d217_33 (by decide), sn_aload_n d217_36 rfl, sn_iload d217_37, sn_putI (by decide) fi_6_13.1 fi_6_13.2 wf_6_132 (Or.inl rfl) fp_6_13 d217_39, sn_aload_n d217_42 rfl, sn_iload_n d217_43 rfl, kV_216 wm_6_280 d217_44, sn_ifeq d217_47 (by decide), sn_iload d217_50, sn_goto d217_52 (by decide), sn_iconst d217_55 (by decide), sn_istore_n (eb_hlg (Or.inl rfl)) hn217_3 d217_56 rfl, sn_iinc (eb_hlg (Or.inl rfl)) hn217_4 d217_57 (by decide), sn_goto d217_60 (by decide), sn_aload_n d217_63 rfl, sn_iload_n d217_64 rfl, sn_putI (by decide) fi_6_13.1 fi_6_13.2 wf_6_132 (Or.inl rfl) fp_6_13 d217_65, sn_iload_n d217_68 rfl, sn_iret d217_69 rfl, trivial⟩
theorem sd217 : ∀ pc, eb_Snd L q0 217 pc (eb_lg 217) (eb_cd L 217 pc) := eb_AS_all (hk217 (L := L)) (sc217_0)
theorem sc218_0 : eb_AS L q0 218 (eb_lg 218) [(0, op_aload 0 1), (1, op_iload 1 2), (2, op_call 149 2 5), (5, op_ifne 15 8), (8, op_aload 0 9), (9, op_push (zi (-2)) 11), (11, op_call 145 2 14), (14, op_iret), (15, op_aload 0 16), (16, op_call 210 1 19), (19, op_istore 2 20), (20, op_iload 2 21), (21, op_push (zi (-1)) 22), (22, op_icne 32 25), (25, op_aload 0 26), (26, op_push (zi (-5)) 28), (28, op_call 145 2 31), (31, op_iret), (32, op_aload 0 33), (33, op_callv 197 1 36), (36, op_push (zi 100) 38), (38, op_aload 0 39), (39, op_getR L 6 25 42), (42, op_iload 1 43), (43, op_aald L 44), (44, op_iload 2 45), (45, op_iald L 46), (46, op_ii (· * ·) 47), (47, op_aload 0 48), (48, op_getR L 6 12 51), (51, op_iload 1 52), (52, op_aald L 53), (53, op_push (zi 1) 54), (54, op_iald L 55), (55, op_iid (· / ·) 56), (56, op_iret)] := ⟨sn_aload_n d218_0 rfl, sn_iload_n d218_1 rfl, kV_149 wm_6_102 d218_2, sn_ifne d218_5 (by decide), sn_aload_n d218_8 rfl, sn_bipush d218_9 (by decide), kV_145 wm_6_91 d218_11, sn_iret d218_14 rfl, sn_aload_n d218_15 rfl, kV_210 wm_6_274 d218_16, sn_istore_n (eb_hlg (Or.inl rfl)) hn218_2 d218_19 rfl, sn_iload_n d218_20 rfl, sn_iconst d218_21 (by decide), sn_icne d218_22 (by decide), sn_aload_n d218_25 rfl, sn_bipush d218_26 (by decide), kV_145 wm_6_91 d218_28, sn_iret d218_31 rfl, sn_aload_n d218_32 rfl, kV_197 wm_6_259 d218_33, sn_bipush d218_36 (by decide), sn_aload_n d218_38 rfl, sn_getR (by decide) fi_6_25.1 fi_6_25.2 wf_6_52 d218_39, sn_iload_n d218_42 rfl, sn_aald d218_43, sn_iload_n d218_44 rfl, sn_iald d218_45, sn_imul d218_46, sn_aload_n d218_47 rfl, sn_getR (by decide) fi_6_12.1 fi_6_12.2 wf_6_42 d218_48, sn_iload_n d218_51 rfl, sn_aald d218_52, sn_iconst d218_53 (by decide), sn_iald d218_54, sn_idiv d218_55, sn_iret d218_56 rfl, trivial⟩
theorem sd218 : ∀ pc, eb_Snd L q0 218 pc (eb_lg 218) (eb_cd L 218 pc) := eb_AS_all (hk218 (L := L)) (sc218_0)
theorem sc219_0 : eb_AS L q0 219 (eb_lg 219) [(0, op_aload 0 1), (1, op_iload 1 2), (2, op_call 148 2 5), (5, op_ifeq 32 8), (8, op_iload 2 9), (9, op_i2l 10), (10, op_push (zl 1) 11), (11, op_push (zl 40) 14), (14, op_call 146 3 17), (17, op_ifeq 32 20), (20, op_iload 3 21), (21, op_i2l 22), (22, op_push (zl 0) 23), (23, op_push (zl 100) 26), (26, op_call 146 3 29), (29, op_ifne 42 32), (32, op_push (zi (-1000000)) 34), (34, op_aload 0 35), (35, op_push (zi (-2)) 37), (37, op_call 145 2 40), (40, op_ii (· + ·) 41), (41, op_iret), (42, op_aload 0 43), (43, op_getR L 6 10 46), (46, op_iload 1 47), (47, op_aald L 48), (48, op_push (zi 6) 50), (50, op_iald L 51), (51, op_iload 2 52), (52, op_iload 3 53), (53, op_ii (· * ·) 54), (54, op_ii (· + ·) 55), (55, op_aload 0 56), (56, op_getR L 6 10 59), (59, op_iload 1 60), (60, op_aald L 61), (61, op_push (zi 5) 62), (62, op_iald L 63), (63, op_iload 2 64), (64, op_ii (· + ·) 65)] := ⟨sn_aload_n d219_0 rfl, sn_iload_n d219_1 rfl, kV_148 wm_6_127 d219_2, sn_ifeq d219_5 (by decide), sn_iload_n d219_8 rfl, sn_i2l d219_9, sn_lconst d219_10 (by decide), sn_ldc2 d219_11 wl_6_89, kS_146 wm_6_76 d219_14, sn_ifeq d219_17 (by decide), sn_iload_n d219_20 rfl, sn_i2l d219_21, sn_lconst d219_22 (by decide), sn_ldc2 d219_23 wl_6_115, kS_146 wm_6_76 d219_26, sn_ifne d219_29 (by decide), sn_ldc d219_32 wk_6_252, sn_aload_n d219_34 rfl, sn_bipush d219_35 (by decide), kV_145 wm_6_91 d219_37, sn_iadd d219_40, sn_iret d219_41 rfl, sn_aload_n d219_42 rfl, sn_getR (by decide) fi_6_10.1 fi_6_10.2 wf_6_39 d219_43, sn_iload_n d219_46 rfl, sn_aald d219_47, sn_bipush d219_48 (by decide), sn_iald d219_50, sn_iload_n d219_51 rfl, sn_iload_n d219_52 rfl, sn_imul d219_53, sn_iadd d219_54, sn_aload_n d219_55 rfl, sn_getR (by decide) fi_6_10.1 fi_6_10.2 wf_6_39 d219_56, sn_iload_n d219_59 rfl, sn_aald d219_60, sn_iconst d219_61 (by decide), sn_iald d219_62, sn_iload_n d219_63 rfl, sn_iadd d219_64, trivial⟩
theorem sc219_1 : eb_AS L q0 219 (eb_lg 219) [(65, op_iid (· / ·) 66), (66, op_aload 0 67), (67, op_getR L 6 10 70), (70, op_iload 1 71), (71, op_aald L 72), (72, op_push (zi 0) 73), (73, op_iald L 74), (74, op_ii (· - ·) 75), (75, op_iret)] := ⟨sn_idiv d219_65, sn_aload_n d219_66 rfl, sn_getR (by decide) fi_6_10.1 fi_6_10.2 wf_6_39 d219_67, sn_iload_n d219_70 rfl, sn_aald d219_71, sn_iconst d219_72 (by decide), sn_iald d219_73, sn_isub d219_74, sn_iret d219_75 rfl, trivial⟩
theorem sd219 : ∀ pc, eb_Snd L q0 219 pc (eb_lg 219) (eb_cd L 219 pc) := eb_AS_all (hk219 (L := L)) (eb_AS_app sc219_0 (sc219_1))
theorem sc220_0 : eb_AS L q0 220 (eb_lg 220) [(0, op_aload 0 1), (1, op_iload 1 2), (2, op_call 167 2 5), (5, op_ifeq 16 8), (8, op_aload 0 9), (9, op_iload 2 10), (10, op_call 167 2 13), (13, op_ifne 26 16), (16, op_push (zi (-1000000)) 18), (18, op_aload 0 19), (19, op_push (zi (-2)) 21), (21, op_call 145 2 24), (24, op_ii (· + ·) 25), (25, op_iret), (26, op_aload 0 27), (27, op_call 246 1 30), (30, op_astore 3 31), (31, op_aload 3 32), (32, op_push (zi 0) 33), (33, op_putI L 6 13 36), (36, op_aload 3 37), (37, op_callv 195 1 40), (40, op_push (zi 0) 41), (41, op_istore 4 43), (43, op_iload 4 45), (45, op_push (zi 2) 46), (46, op_icge 167 49), (49, op_push (zi 0) 50), (50, op_istore 5 52), (52, op_iload 5 54), (54, op_aload 0 55), (55, op_getI L 6 11 58), (58, op_icge 161 61), (61, op_aload 0 62), (62, op_getR L 6 12 65), (65, op_iload 5 67), (67, op_aald L 68), (68, op_push (zi 0) 69), (69, op_iald L 70), (70, op_push (zi 5) 71)] := ⟨sn_aload_n d220_0 rfl, sn_iload_n d220_1 rfl, kV_167 wm_6_135 d220_2, sn_ifeq d220_5 (by decide), sn_aload_n d220_8 rfl, sn_iload_n d220_9 rfl, kV_167 wm_6_135 d220_10, sn_ifne d220_13 (by decide), sn_ldc d220_16 wk_6_252, sn_aload_n d220_18 rfl, sn_bipush d220_19 (by decide), kV_145 wm_6_91 d220_21, sn_iadd d220_24, sn_iret d220_25 rfl, sn_aload_n d220_26 rfl, kV_246 wm_6_227 d220_27, sn_astore_n (eb_hlg (Or.inl rfl)) hn220_3 d220_30 rfl, sn_aload_n d220_31 rfl, sn_iconst d220_32 (by decide), sn_putI (by decide) fi_6_13.1 fi_6_13.2 wf_6_132 (Or.inl rfl) fp_6_13 d220_33, sn_aload_n d220_36 rfl, kV_195 wm_6_253 d220_37, sn_iconst d220_40 (by decide), sn_istore (eb_hlg (Or.inl rfl)) hn220_4 d220_41, sn_iload d220_43, sn_iconst d220_45 (by decide), sn_icge d220_46 (by decide), sn_iconst d220_49 (by decide), sn_istore (eb_hlg (Or.inl rfl)) hn220_5 d220_50, sn_iload d220_52, sn_aload_n d220_54 rfl, sn_getI (by decide) fi_6_11.1 fi_6_11.2 wf_6_80 d220_55, sn_icge d220_58 (by decide), sn_aload_n d220_61 rfl, sn_getR (by decide) fi_6_12.1 fi_6_12.2 wf_6_42 d220_62, sn_iload d220_65, sn_aald d220_67, sn_iconst d220_68 (by decide), sn_iald d220_69, sn_iconst d220_70 (by decide), trivial⟩
theorem sc220_1 : eb_AS L q0 220 (eb_lg 220) [(71, op_icne 78 74), (74, op_push (zi 1) 75), (75, op_goto 79), (78, op_push (zi 0) 79), (79, op_iload 4 81), (81, op_push (zi 1) 82), (82, op_icne 89 85), (85, op_push (zi 1) 86), (86, op_goto 90), (89, op_push (zi 0) 90), (90, op_icne 155 93), (93, op_aload 0 94), (94, op_iload 5 96), (96, op_call 207 2 99), (99, op_ifeq 116 102), (102, op_aload 0 103), (103, op_getR L 6 12 106), (106, op_iload 5 108), (108, op_aald L 109), (109, op_push (zi 1) 110), (110, op_iald L 111), (111, op_push (zi 2) 112), (112, op_iid (· / ·) 113), (113, op_goto 117), (116, op_push (zi 0) 117), (117, op_istore 6 119), (119, op_aload 3 120), (120, op_iload 1 121), (121, op_callv 221 2 124), (124, op_aload 3 125), (125, op_iload 5 127), (127, op_aload 0 128), (128, op_getR L 6 12 131), (131, op_iload 5 133), (133, op_aald L 134), (134, op_push (zi 1) 135), (135, op_iald L 136), (136, op_iload 6 138), (138, op_ii (· - ·) 139), (139, op_callv 196 3 142)] := ⟨sn_icne d220_71 (by decide), sn_iconst d220_74 (by decide), sn_goto d220_75 (by decide), sn_iconst d220_78 (by decide), sn_iload d220_79, sn_iconst d220_81 (by decide), sn_icne d220_82 (by decide), sn_iconst d220_85 (by decide), sn_goto d220_86 (by decide), sn_iconst d220_89 (by decide), sn_icne d220_90 (by decide), sn_aload_n d220_93 rfl, sn_iload d220_94, kV_207 wm_6_271 d220_96, sn_ifeq d220_99 (by decide), sn_aload_n d220_102 rfl, sn_getR (by decide) fi_6_12.1 fi_6_12.2 wf_6_42 d220_103, sn_iload d220_106, sn_aald d220_108, sn_iconst d220_109 (by decide), sn_iald d220_110, sn_iconst d220_111 (by decide), sn_idiv d220_112, sn_goto d220_113 (by decide), sn_iconst d220_116 (by decide), sn_istore (eb_hlg (Or.inl rfl)) hn220_6 d220_117, sn_aload_n d220_119 rfl, sn_iload_n d220_120 rfl, kV_221 wm_6_283 d220_121, sn_aload_n d220_124 rfl, sn_iload d220_125, sn_aload_n d220_127 rfl, sn_getR (by decide) fi_6_12.1 fi_6_12.2 wf_6_42 d220_128, sn_iload d220_131, sn_aald d220_133, sn_iconst d220_134 (by decide), sn_iald d220_135, sn_iload d220_136, sn_isub d220_138, kV_196 wm_6_256 d220_139, trivial⟩
theorem sc220_2 : eb_AS L q0 220 (eb_lg 220) [(142, op_aload 3 143), (143, op_iload 2 144), (144, op_callv 221 2 147), (147, op_aload 3 148), (148, op_iload 5 150), (150, op_iload 6 152), (152, op_callv 196 3 155), (155, op_iinc 5 1 158), (158, op_goto 52), (161, op_iinc 4 1 164), (164, op_goto 43), (167, op_aload 3 168), (168, op_push (zi (-1)) 169), (169, op_call 204 2 172), (172, op_iret)] := ⟨sn_aload_n d220_142 rfl, sn_iload_n d220_143 rfl, kV_221 wm_6_283 d220_144, sn_aload_n d220_147 rfl, sn_iload d220_148, sn_iload d220_150, kV_196 wm_6_256 d220_152, sn_iinc (eb_hlg (Or.inl rfl)) hn220_5 d220_155 (by decide), sn_goto d220_158 (by decide), sn_iinc (eb_hlg (Or.inl rfl)) hn220_4 d220_161 (by decide), sn_goto d220_164 (by decide), sn_aload_n d220_167 rfl, sn_iconst d220_168 (by decide), kV_204 wm_6_268 d220_169, sn_iret d220_172 rfl, trivial⟩
theorem sd220 : ∀ pc, eb_Snd L q0 220 pc (eb_lg 220) (eb_cd L 220 pc) := eb_AS_all (hk220 (L := L)) (eb_AS_app sc220_0 (eb_AS_app sc220_1 (sc220_2)))
theorem sc221_0 : eb_AS L q0 221 (eb_lg 221) [(0, op_push (zi 0) 1), (1, op_istore 2 2), (2, op_iload 2 3), (3, op_aload 0 4), (4, op_getI L 6 9 7), (7, op_icge 42 10), (10, op_aload 0 11), (11, op_getR L 6 28 14), (14, op_iload 2 15), (15, op_iload 1 16), (16, op_iload 2 17), (17, op_ii (fun x y => x >>> (y &&& 31)) 18), (18, op_push (zi 1) 19), (19, op_ii (· &&& ·) 20), (20, op_ifeq 34 23), (23, op_aload 0 24), (24, op_getR L 6 10 27), (27, op_iload 2 28), (28, op_aald L 29), (29, op_push (zi 0) 30), (30, op_iald L 31), (31, op_goto 35), (34, op_push (zi (-1)) 35), (35, op_iast L 36), (36, op_iinc 2 1 39), (39, op_goto 2), (42, op_vret)] := ⟨sn_iconst d221_0 (by decide), sn_istore_n (eb_hlg (Or.inl rfl)) hn221_2 d221_1 rfl, sn_iload_n d221_2 rfl, sn_aload_n d221_3 rfl, sn_getI (by decide) fi_6_9.1 fi_6_9.2 wf_6_73 d221_4, sn_icge d221_7 (by decide), sn_aload_n d221_10 rfl, sn_getR (by decide) fi_6_28.1 fi_6_28.2 wf_6_61 d221_11, sn_iload_n d221_14 rfl, sn_iload_n d221_15 rfl, sn_iload_n d221_16 rfl, sn_ishr d221_17, sn_iconst d221_18 (by decide), sn_iand d221_19, sn_ifeq d221_20 (by decide), sn_aload_n d221_23 rfl, sn_getR (by decide) fi_6_10.1 fi_6_10.2 wf_6_39 d221_24, sn_iload_n d221_27 rfl, sn_aald d221_28, sn_iconst d221_29 (by decide), sn_iald d221_30, sn_goto d221_31 (by decide), sn_iconst d221_34 (by decide), sn_iast d221_35, sn_iinc (eb_hlg (Or.inl rfl)) hn221_2 d221_36 (by decide), sn_goto d221_39 (by decide), sn_vret d221_42 rfl, trivial⟩
theorem sd221 : ∀ pc, eb_Snd L q0 221 pc (eb_lg 221) (eb_cd L 221 pc) := eb_AS_all (hk221 (L := L)) (sc221_0)
theorem sc222_0 : eb_AS L q0 222 (eb_lg 222) [(0, op_aload 0 1), (1, op_iload 1 2), (2, op_call 153 2 5), (5, op_istore 2 6), (6, op_iload 2 7), (7, op_ifeq 12 10), (10, op_iload 2 11), (11, op_iret), (12, op_aload 0 13), (13, op_getR L 6 2 16), (16, op_iload 1 17), (17, op_iald L 18), (18, op_aload 0 19), (19, op_getI L 6 11 22), (22, op_aload 0 23), (23, op_getI L 6 9 26), (26, op_ii (· * ·) 27), (27, op_icge 37 30), (30, op_aload 0 31), (31, op_push (zi (-2)) 33), (33, op_call 145 2 36), (36, op_iret), (37, op_aload 0 38), (38, op_callv 197 1 41), (41, op_push (zi 0) 42), (42, op_istore 3 43), (43, op_iload 3 44), (44, op_aload 0 45), (45, op_getI L 6 11 48), (48, op_aload 0 49), (49, op_getI L 6 9 52), (52, op_ii (· * ·) 53), (53, op_icge 95 56), (56, op_aload 0 57), (57, op_getR L 6 3 60), (60, op_iload 1 61), (61, op_aald L 62), (62, op_iload 3 63), (63, op_lald L 64), (64, op_aload 0 65)] := ⟨sn_aload_n d222_0 rfl, sn_iload_n d222_1 rfl, kV_153 wm_6_95 d222_2, sn_istore_n (eb_hlg (Or.inl rfl)) hn222_2 d222_5 rfl, sn_iload_n d222_6 rfl, sn_ifeq d222_7 (by decide), sn_iload_n d222_10 rfl, sn_iret d222_11 rfl, sn_aload_n d222_12 rfl, sn_getR (by decide) fi_6_2.1 fi_6_2.2 wf_6_16 d222_13, sn_iload_n d222_16 rfl, sn_iald d222_17, sn_aload_n d222_18 rfl, sn_getI (by decide) fi_6_11.1 fi_6_11.2 wf_6_80 d222_19, sn_aload_n d222_22 rfl, sn_getI (by decide) fi_6_9.1 fi_6_9.2 wf_6_73 d222_23, sn_imul d222_26, sn_icge d222_27 (by decide), sn_aload_n d222_30 rfl, sn_bipush d222_31 (by decide), kV_145 wm_6_91 d222_33, sn_iret d222_36 rfl, sn_aload_n d222_37 rfl, kV_197 wm_6_259 d222_38, sn_iconst d222_41 (by decide), sn_istore_n (eb_hlg (Or.inl rfl)) hn222_3 d222_42 rfl, sn_iload_n d222_43 rfl, sn_aload_n d222_44 rfl, sn_getI (by decide) fi_6_11.1 fi_6_11.2 wf_6_80 d222_45, sn_aload_n d222_48 rfl, sn_getI (by decide) fi_6_9.1 fi_6_9.2 wf_6_73 d222_49, sn_imul d222_52, sn_icge d222_53 (by decide), sn_aload_n d222_56 rfl, sn_getR (by decide) fi_6_3.1 fi_6_3.2 wf_6_21 d222_57, sn_iload_n d222_60 rfl, sn_aald d222_61, sn_iload_n d222_62 rfl, sn_lald d222_63, sn_aload_n d222_64 rfl, trivial⟩
theorem sc222_1 : eb_AS L q0 222 (eb_lg 222) [(65, op_getR L 6 25 68), (68, op_iload 3 69), (69, op_aload 0 70), (70, op_getI L 6 9 73), (73, op_iid (· / ·) 74), (74, op_aald L 75), (75, op_iload 3 76), (76, op_aload 0 77), (77, op_getI L 6 9 80), (80, op_iid (fun x y => x - x / y * y) 81), (81, op_iald L 82), (82, op_i2l 83), (83, op_lcmp 84), (84, op_ifeq 89 87), (87, op_iload 3 88), (88, op_iret), (89, op_iinc 3 1 92), (92, op_goto 43), (95, op_push (zi (-1)) 96), (96, op_iret)] := ⟨sn_getR (by decide) fi_6_25.1 fi_6_25.2 wf_6_52 d222_65, sn_iload_n d222_68 rfl, sn_aload_n d222_69 rfl, sn_getI (by decide) fi_6_9.1 fi_6_9.2 wf_6_73 d222_70, sn_idiv d222_73, sn_aald d222_74, sn_iload_n d222_75 rfl, sn_aload_n d222_76 rfl, sn_getI (by decide) fi_6_9.1 fi_6_9.2 wf_6_73 d222_77, sn_irem d222_80, sn_iald d222_81, sn_i2l d222_82, sn_lcmp d222_83, sn_ifeq d222_84 (by decide), sn_iload_n d222_87 rfl, sn_iret d222_88 rfl, sn_iinc (eb_hlg (Or.inl rfl)) hn222_3 d222_89 (by decide), sn_goto d222_92 (by decide), sn_iconst d222_95 (by decide), sn_iret d222_96 rfl, trivial⟩
theorem sd222 : ∀ pc, eb_Snd L q0 222 pc (eb_lg 222) (eb_cd L 222 pc) := eb_AS_all (hk222 (L := L)) (eb_AS_app sc222_0 (sc222_1))
theorem sc223_0 : eb_AS L q0 223 (eb_lg 223) [(0, op_aload 0 1), (1, op_callv 197 1 4), (4, op_push (zi 0) 5), (5, op_istore 1 6), (6, op_iload 1 7), (7, op_aload 0 8), (8, op_getI L 6 9 11), (11, op_icge 94 14), (14, op_aload 0 15), (15, op_getR L 6 10 18), (18, op_iload 1 19), (19, op_aald L 20), (20, op_astore 2 21), (21, op_aload 0 22), (22, op_iload 1 23), (23, op_call 198 2 26), (26, op_istore 3 27), (27, op_iload 3 28), (28, op_ifle 77 31), (31, op_aload 2 32), (32, op_push (zi 4) 33), (33, op_iald L 34), (34, op_push (zi (-1)) 35), (35, op_iceq 56 38), (38, op_aload 2 39), (39, op_push (zi 0) 40), (40, op_iald L 41), (41, op_aload 2 42), (42, op_push (zi 4) 43), (43, op_iald L 44), (44, op_icge 56 47), (47, op_aload 2 48), (48, op_push (zi 0) 49), (49, op_iald L 50), (50, op_push (zi 10) 52), (52, op_ii (· - ·) 53), (53, op_goto 59), (56, op_aload 2 57), (57, op_push (zi 0) 58), (58, op_iald L 59)] := ⟨sn_aload_n d223_0 rfl, kV_197 wm_6_259 d223_1, sn_iconst d223_4 (by decide), sn_istore_n (eb_hlg (Or.inl rfl)) hn223_1 d223_5 rfl, sn_iload_n d223_6 rfl, sn_aload_n d223_7 rfl, sn_getI (by decide) fi_6_9.1 fi_6_9.2 wf_6_73 d223_8, sn_icge d223_11 (by decide), sn_aload_n d223_14 rfl, sn_getR (by decide) fi_6_10.1 fi_6_10.2 wf_6_39 d223_15, sn_iload_n d223_18 rfl, sn_aald d223_19, sn_astore_n (eb_hlg (Or.inl rfl)) hn223_2 d223_20 rfl, sn_aload_n d223_21 rfl, sn_iload_n d223_22 rfl, kV_198 wm_6_262 d223_23, sn_istore_n (eb_hlg (Or.inl rfl)) hn223_3 d223_26 rfl, sn_iload_n d223_27 rfl, sn_ifle d223_28 (by decide), sn_aload_n d223_31 rfl, sn_iconst d223_32 (by decide), sn_iald d223_33, sn_iconst d223_34 (by decide), sn_iceq d223_35 (by decide), sn_aload_n d223_38 rfl, sn_iconst d223_39 (by decide), sn_iald d223_40, sn_aload_n d223_41 rfl, sn_iconst d223_42 (by decide), sn_iald d223_43, sn_icge d223_44 (by decide), sn_aload_n d223_47 rfl, sn_iconst d223_48 (by decide), sn_iald d223_49, sn_bipush d223_50 (by decide), sn_isub d223_52, sn_goto d223_53 (by decide), sn_aload_n d223_56 rfl, sn_iconst d223_57 (by decide), sn_iald d223_58, trivial⟩
theorem sc223_1 : eb_AS L q0 223 (eb_lg 223) [(59, op_istore 4 61), (61, op_aload 0 62), (62, op_iload 1 63), (63, op_iload 4 65), (65, op_ifge 72 68), (68, op_push (zi 0) 69), (69, op_goto 74), (72, op_iload 4 74), (74, op_callv 169 3 77), (77, op_aload 0 78), (78, op_getR L 6 31 81), (81, op_iload 1 82), (82, op_iload 3 83), (83, op_aload 2 84), (84, op_push (zi 3) 85), (85, op_iald L 86), (86, op_ii (· * ·) 87), (87, op_iast L 88), (88, op_iinc 1 1 91), (91, op_goto 6), (94, op_aload 0 95), (95, op_aload 0 96), (96, op_push (zi (-1)) 97), (97, op_call 204 2 100), (100, op_putI L 6 29 103), (103, op_push (zi 0) 104), (104, op_istore 1 105), (105, op_iload 1 106), (106, op_aload 0 107), (107, op_getI L 6 11 110), (110, op_icge 130 113), (113, op_aload 0 114), (114, op_getR L 6 30 117), (117, op_iload 1 118), (118, op_aload 0 119), (119, op_iload 1 120), (120, op_call 203 2 123), (123, op_iast L 124), (124, op_iinc 1 1 127), (127, op_goto 105)] := ⟨sn_istore (eb_hlg (Or.inl rfl)) hn223_4 d223_59, sn_aload_n d223_61 rfl, sn_iload_n d223_62 rfl, sn_iload d223_63, sn_ifge d223_65 (by decide), sn_iconst d223_68 (by decide), sn_goto d223_69 (by decide), sn_iload d223_72, kV_169 wm_6_141 d223_74, sn_aload_n d223_77 rfl, sn_getR (by decide) fi_6_31.1 fi_6_31.2 wf_6_67 d223_78, sn_iload_n d223_81 rfl, sn_iload_n d223_82 rfl, sn_aload_n d223_83 rfl, sn_iconst d223_84 (by decide), sn_iald d223_85, sn_imul d223_86, sn_iast d223_87, sn_iinc (eb_hlg (Or.inl rfl)) hn223_1 d223_88 (by decide), sn_goto d223_91 (by decide), sn_aload_n d223_94 rfl, sn_aload_n d223_95 rfl, sn_iconst d223_96 (by decide), kV_204 wm_6_268 d223_97, sn_putI (by decide) fi_6_29.1 fi_6_29.2 wf_6_287 (Or.inl rfl) fp_6_29 d223_100, sn_iconst d223_103 (by decide), sn_istore_n (eb_hlg (Or.inl rfl)) hn223_1 d223_104 rfl, sn_iload_n d223_105 rfl, sn_aload_n d223_106 rfl, sn_getI (by decide) fi_6_11.1 fi_6_11.2 wf_6_80 d223_107, sn_icge d223_110 (by decide), sn_aload_n d223_113 rfl, sn_getR (by decide) fi_6_30.1 fi_6_30.2 wf_6_64 d223_114, sn_iload_n d223_117 rfl, sn_aload_n d223_118 rfl, sn_iload_n d223_119 rfl, kV_203 wm_6_265 d223_120, sn_iast d223_123, sn_iinc (eb_hlg (Or.inl rfl)) hn223_1 d223_124 (by decide), sn_goto d223_127 (by decide), trivial⟩
theorem sc223_2 : eb_AS L q0 223 (eb_lg 223) [(130, op_push (zi 0) 131), (131, op_istore 1 132), (132, op_iload 1 133), (133, op_aload 0 134), (134, op_getI L 6 9 137), (137, op_icge 266 140), (140, op_aload 0 141), (141, op_getR L 6 10 144), (144, op_iload 1 145), (145, op_aald L 146), (146, op_astore 2 147), (147, op_aload 0 148), (148, op_getR L 6 27 151), (151, op_iload 1 152), (152, op_iald L 153), (153, op_ifne 192 156), (156, op_aload 2 157), (157, op_push (zi 0) 158), (158, op_aload 2 159), (159, op_push (zi 0) 160), (160, op_iald L 161), (161, op_push (zi 6) 163), (163, op_ii (· - ·) 164), (164, op_push (zi 100) 166), (166, op_call 147 2 169), (169, op_iast L 170), (170, op_aload 2 171), (171, op_push (zi 3) 172), (172, op_aload 2 173), (173, op_push (zi 3) 174), (174, op_iald L 175), (175, op_aload 2 176), (176, op_push (zi 3) 177), (177, op_iald L 178), (178, op_push (zi 4) 179), (179, op_iid (· / ·) 180), (180, op_ii (· + ·) 181), (181, op_push (zi 1) 182), (182, op_ii (· + ·) 183), (183, op_push (zi 99) 185)] := ⟨sn_iconst d223_130 (by decide), sn_istore_n (eb_hlg (Or.inl rfl)) hn223_1 d223_131 rfl, sn_iload_n d223_132 rfl, sn_aload_n d223_133 rfl, sn_getI (by decide) fi_6_9.1 fi_6_9.2 wf_6_73 d223_134, sn_icge d223_137 (by decide), sn_aload_n d223_140 rfl, sn_getR (by decide) fi_6_10.1 fi_6_10.2 wf_6_39 d223_141, sn_iload_n d223_144 rfl, sn_aald d223_145, sn_astore_n (eb_hlg (Or.inl rfl)) hn223_2 d223_146 rfl, sn_aload_n d223_147 rfl, sn_getR (by decide) fi_6_27.1 fi_6_27.2 wf_6_58 d223_148, sn_iload_n d223_151 rfl, sn_iald d223_152, sn_ifne d223_153 (by decide), sn_aload_n d223_156 rfl, sn_iconst d223_157 (by decide), sn_aload_n d223_158 rfl, sn_iconst d223_159 (by decide), sn_iald d223_160, sn_bipush d223_161 (by decide), sn_isub d223_163, sn_bipush d223_164 (by decide), kS_147 wm_6_290 d223_166, sn_iast d223_169, sn_aload_n d223_170 rfl, sn_iconst d223_171 (by decide), sn_aload_n d223_172 rfl, sn_iconst d223_173 (by decide), sn_iald d223_174, sn_aload_n d223_175 rfl, sn_iconst d223_176 (by decide), sn_iald d223_177, sn_iconst d223_178 (by decide), sn_idiv d223_179, sn_iadd d223_180, sn_iconst d223_181 (by decide), sn_iadd d223_182, sn_bipush d223_183 (by decide), trivial⟩
theorem sc223_3 : eb_AS L q0 223 (eb_lg 223) [(185, op_call 147 2 188), (188, op_iast L 189), (189, op_goto 260), (192, op_push (zi 2) 193), (193, op_aload 0 194), (194, op_iload 1 195), (195, op_call 198 2 198), (198, op_ii (· * ·) 199), (199, op_aload 2 200), (200, op_push (zi 2) 201), (201, op_iald L 202), (202, op_icge 260 205), (205, op_aload 2 206), (206, op_push (zi 0) 207), (207, op_iald L 208), (208, op_push (zi 3) 209), (209, op_ii (· + ·) 210), (210, op_aload 2 211), (211, op_push (zi 1) 212), (212, op_iald L 213), (213, op_icle 222 216), (216, op_aload 2 217), (217, op_push (zi 1) 218), (218, op_iald L 219), (219, op_goto 227), (222, op_aload 2 223), (223, op_push (zi 0) 224), (224, op_iald L 225), (225, op_push (zi 3) 226), (226, op_ii (· + ·) 227), (227, op_istore 3 228), (228, op_aload 2 229), (229, op_push (zi 0) 230), (230, op_aload 2 231), (231, op_push (zi 0) 232), (232, op_iald L 233), (233, op_aload 2 234), (234, op_push (zi 1) 235), (235, op_iald L 236), (236, op_icle 245 239)] := ⟨kS_147 wm_6_290 d223_185, sn_iast d223_188, sn_goto d223_189 (by decide), sn_iconst d223_192 (by decide), sn_aload_n d223_193 rfl, sn_iload_n d223_194 rfl, kV_198 wm_6_262 d223_195, sn_imul d223_198, sn_aload_n d223_199 rfl, sn_iconst d223_200 (by decide), sn_iald d223_201, sn_icge d223_202 (by decide), sn_aload_n d223_205 rfl, sn_iconst d223_206 (by decide), sn_iald d223_207, sn_iconst d223_208 (by decide), sn_iadd d223_209, sn_aload_n d223_210 rfl, sn_iconst d223_211 (by decide), sn_iald d223_212, sn_icle d223_213 (by decide), sn_aload_n d223_216 rfl, sn_iconst d223_217 (by decide), sn_iald d223_218, sn_goto d223_219 (by decide), sn_aload_n d223_222 rfl, sn_iconst d223_223 (by decide), sn_iald d223_224, sn_iconst d223_225 (by decide), sn_iadd d223_226, sn_istore_n (eb_hlg (Or.inl rfl)) hn223_3 d223_227 rfl, sn_aload_n d223_228 rfl, sn_iconst d223_229 (by decide), sn_aload_n d223_230 rfl, sn_iconst d223_231 (by decide), sn_iald d223_232, sn_aload_n d223_233 rfl, sn_iconst d223_234 (by decide), sn_iald d223_235, sn_icle d223_236 (by decide), trivial⟩
theorem sc223_4 : eb_AS L q0 223 (eb_lg 223) [(239, op_aload 2 240), (240, op_push (zi 0) 241), (241, op_iald L 242), (242, op_goto 246), (245, op_iload 3 246), (246, op_iast L 247), (247, op_aload 2 248), (248, op_push (zi 3) 249), (249, op_aload 2 250), (250, op_push (zi 3) 251), (251, op_iald L 252), (252, op_push (zi 1) 253), (253, op_ii (· - ·) 254), (254, op_push (zi 99) 256), (256, op_call 147 2 259), (259, op_iast L 260), (260, op_iinc 1 1 263), (263, op_goto 132), (266, op_aload 0 267), (267, op_aload 0 268), (268, op_getI L 6 13 271), (271, op_push (zi 1) 272), (272, op_ii (· + ·) 273), (273, op_push (zi 99) 275), (275, op_call 147 2 278), (278, op_putI L 6 13 281), (281, op_aload 0 282), (282, op_dup 283), (283, op_getI L 6 14 286), (286, op_push (zi 1) 287), (287, op_ii (· + ·) 288), (288, op_putI L 6 14 291), (291, op_vret)] := ⟨sn_aload_n d223_239 rfl, sn_iconst d223_240 (by decide), sn_iald d223_241, sn_goto d223_242 (by decide), sn_iload_n d223_245 rfl, sn_iast d223_246, sn_aload_n d223_247 rfl, sn_iconst d223_248 (by decide), sn_aload_n d223_249 rfl, sn_iconst d223_250 (by decide), sn_iald d223_251, sn_iconst d223_252 (by decide), sn_isub d223_253, sn_bipush d223_254 (by decide), kS_147 wm_6_290 d223_256, sn_iast d223_259, sn_iinc (eb_hlg (Or.inl rfl)) hn223_1 d223_260 (by decide), sn_goto d223_263 (by decide), sn_aload_n d223_266 rfl, sn_aload_n d223_267 rfl, sn_getI (by decide) fi_6_13.1 fi_6_13.2 wf_6_132 d223_268, sn_iconst d223_271 (by decide), sn_iadd d223_272, sn_bipush d223_273 (by decide), kS_147 wm_6_290 d223_275, sn_putI (by decide) fi_6_13.1 fi_6_13.2 wf_6_132 (Or.inl rfl) fp_6_13 d223_278, sn_aload_n d223_281 rfl, sn_dup d223_282, sn_getI (by decide) fi_6_14.1 fi_6_14.2 wf_6_293 d223_283, sn_iconst d223_286 (by decide), sn_iadd d223_287, sn_putI (by decide) fi_6_14.1 fi_6_14.2 wf_6_293 (Or.inl rfl) fp_6_14 d223_288, sn_vret d223_291 rfl, trivial⟩
theorem sd223 : ∀ pc, eb_Snd L q0 223 pc (eb_lg 223) (eb_cd L 223 pc) := eb_AS_all (hk223 (L := L)) (eb_AS_app sc223_0 (eb_AS_app sc223_1 (eb_AS_app sc223_2 (eb_AS_app sc223_3 (sc223_4)))))
theorem sc224_0 : eb_AS L q0 224 (eb_lg 224) [(0, op_push (zi 0) 1), (1, op_istore 3 2), (2, op_push (zi 0) 3), (3, op_istore 4 5), (5, op_iload 4 7), (7, op_iload 1 8), (8, op_icge 42 11), (11, op_aload 0 12), (12, op_callv 223 1 15), (15, op_iload 3 16), (16, op_iload 2 17), (17, op_push (zi (-1)) 18), (18, op_icne 28 21), (21, op_aload 0 22), (22, op_getI L 6 29 25), (25, op_goto 34), (28, op_aload 0 29), (29, op_getR L 6 30 32), (32, op_iload 2 33), (33, op_iald L 34), (34, op_ii (· + ·) 35), (35, op_istore 3 36), (36, op_iinc 4 1 39), (39, op_goto 5), (42, op_iload 3 43), (43, op_iret)] := ⟨sn_iconst d224_0 (by decide), sn_istore_n (eb_hlg (Or.inl rfl)) hn224_3 d224_1 rfl, sn_iconst d224_2 (by decide), sn_istore (eb_hlg (Or.inl rfl)) hn224_4 d224_3, sn_iload d224_5, sn_iload_n d224_7 rfl, sn_icge d224_8 (by decide), sn_aload_n d224_11 rfl, kV_223 wm_6_296 d224_12, sn_iload_n d224_15 rfl, sn_iload_n d224_16 rfl, sn_iconst d224_17 (by decide), sn_icne d224_18 (by decide), sn_aload_n d224_21 rfl, sn_getI (by decide) fi_6_29.1 fi_6_29.2 wf_6_287 d224_22, sn_goto d224_25 (by decide), sn_aload_n d224_28 rfl, sn_getR (by decide) fi_6_30.1 fi_6_30.2 wf_6_64 d224_29, sn_iload_n d224_32 rfl, sn_iald d224_33, sn_iadd d224_34, sn_istore_n (eb_hlg (Or.inl rfl)) hn224_3 d224_35 rfl, sn_iinc (eb_hlg (Or.inl rfl)) hn224_4 d224_36 (by decide), sn_goto d224_39 (by decide), sn_iload_n d224_42 rfl, sn_iret d224_43 rfl, trivial⟩
theorem sd224 : ∀ pc, eb_Snd L q0 224 pc (eb_lg 224) (eb_cd L 224 pc) := eb_AS_all (hk224 (L := L)) (sc224_0)
theorem sc225_0 : eb_AS L q0 225 (eb_lg 225) [(0, op_iload 1 1), (1, op_call 150 1 4), (4, op_ifeq 20 7), (7, op_iload 2 8), (8, op_push (zi (-1)) 9), (9, op_iceq 30 12), (12, op_aload 0 13), (13, op_iload 2 14), (14, op_call 149 2 17), (17, op_ifne 30 20), (20, op_push (zi (-1000000)) 22), (22, op_aload 0 23), (23, op_push (zi (-2)) 25), (25, op_call 145 2 28), (28, op_ii (· + ·) 29), (29, op_iret), (30, op_aload 0 31), (31, op_call 246 1 34), (34, op_iload 1 35), (35, op_iload 2 36), (36, op_call 224 3 39), (39, op_iret)] := ⟨sn_iload_n d225_0 rfl, kS_150 wm_6_299 d225_1, sn_ifeq d225_4 (by decide), sn_iload_n d225_7 rfl, sn_iconst d225_8 (by decide), sn_iceq d225_9 (by decide), sn_aload_n d225_12 rfl, sn_iload_n d225_13 rfl, kV_149 wm_6_102 d225_14, sn_ifne d225_17 (by decide), sn_ldc d225_20 wk_6_252, sn_aload_n d225_22 rfl, sn_bipush d225_23 (by decide), kV_145 wm_6_91 d225_25, sn_iadd d225_28, sn_iret d225_29 rfl, sn_aload_n d225_30 rfl, kV_246 wm_6_227 d225_31, sn_iload_n d225_34 rfl, sn_iload_n d225_35 rfl, kV_224 wm_6_302 d225_36, sn_iret d225_39 rfl, trivial⟩
theorem sd225 : ∀ pc, eb_Snd L q0 225 pc (eb_lg 225) (eb_cd L 225 pc) := eb_AS_all (hk225 (L := L)) (sc225_0)
theorem sc226_0 : eb_AS L q0 226 (eb_lg 226) [(0, op_iload 1 1), (1, op_call 150 1 4), (4, op_ifeq 27 7), (7, op_aload 0 8), (8, op_iload 2 9), (9, op_call 148 2 12), (12, op_ifeq 27 15), (15, op_iload 3 16), (16, op_i2l 17), (17, op_push (zl 0) 18), (18, op_push (zl 2) 21), (21, op_call 146 3 24), (24, op_ifne 34 27), (27, op_aload 0 28), (28, op_push (zi (-2)) 30), (30, op_call 145 2 33), (33, op_iret), (34, op_aload 0 35), (35, op_call 246 1 38), (38, op_astore 4 40), (40, op_push (zi 0) 41), (41, op_istore 5 43), (43, op_push (zi 0) 44), (44, op_istore 6 46), (46, op_iload 6 48), (48, op_iload 1 49), (49, op_icge 75 52), (52, op_aload 4 54), (54, op_callv 223 1 57), (57, op_iload 5 59), (59, op_aload 4 61), (61, op_getR L 6 31 64), (64, op_iload 2 65), (65, op_iald L 66), (66, op_ii (· + ·) 67), (67, op_istore 5 69), (69, op_iinc 6 1 72), (72, op_goto 46), (75, op_iload 3 76), (76, op_ifne 91 79)] := ⟨sn_iload_n d226_0 rfl, kS_150 wm_6_299 d226_1, sn_ifeq d226_4 (by decide), sn_aload_n d226_7 rfl, sn_iload_n d226_8 rfl, kV_148 wm_6_127 d226_9, sn_ifeq d226_12 (by decide), sn_iload_n d226_15 rfl, sn_i2l d226_16, sn_lconst d226_17 (by decide), sn_ldc2 d226_18 wl_6_240, kS_146 wm_6_76 d226_21, sn_ifne d226_24 (by decide), sn_aload_n d226_27 rfl, sn_bipush d226_28 (by decide), kV_145 wm_6_91 d226_30, sn_iret d226_33 rfl, sn_aload_n d226_34 rfl, kV_246 wm_6_227 d226_35, sn_astore (eb_hlg (Or.inl rfl)) hn226_4 d226_38, sn_iconst d226_40 (by decide), sn_istore (eb_hlg (Or.inl rfl)) hn226_5 d226_41, sn_iconst d226_43 (by decide), sn_istore (eb_hlg (Or.inl rfl)) hn226_6 d226_44, sn_iload d226_46, sn_iload_n d226_48 rfl, sn_icge d226_49 (by decide), sn_aload d226_52, kV_223 wm_6_296 d226_54, sn_iload d226_57, sn_aload d226_59, sn_getR (by decide) fi_6_31.1 fi_6_31.2 wf_6_67 d226_61, sn_iload_n d226_64 rfl, sn_iald d226_65, sn_iadd d226_66, sn_istore (eb_hlg (Or.inl rfl)) hn226_5 d226_67, sn_iinc (eb_hlg (Or.inl rfl)) hn226_6 d226_69 (by decide), sn_goto d226_72 (by decide), sn_iload_n d226_75 rfl, sn_ifne d226_76 (by decide), trivial⟩
theorem sc226_1 : eb_AS L q0 226 (eb_lg 226) [(79, op_aload 4 81), (81, op_getR L 6 10 84), (84, op_iload 2 85), (85, op_aald L 86), (86, op_push (zi 0) 87), (87, op_iald L 88), (88, op_goto 110), (91, op_iload 3 92), (92, op_push (zi 1) 93), (93, op_icne 108 96), (96, op_aload 4 98), (98, op_getR L 6 10 101), (101, op_iload 2 102), (102, op_aald L 103), (103, op_push (zi 3) 104), (104, op_iald L 105), (105, op_goto 110), (108, op_iload 5 110), (110, op_iret)] := ⟨sn_aload d226_79, sn_getR (by decide) fi_6_10.1 fi_6_10.2 wf_6_39 d226_81, sn_iload_n d226_84 rfl, sn_aald d226_85, sn_iconst d226_86 (by decide), sn_iald d226_87, sn_goto d226_88 (by decide), sn_iload_n d226_91 rfl, sn_iconst d226_92 (by decide), sn_icne d226_93 (by decide), sn_aload d226_96, sn_getR (by decide) fi_6_10.1 fi_6_10.2 wf_6_39 d226_98, sn_iload_n d226_101 rfl, sn_aald d226_102, sn_iconst d226_103 (by decide), sn_iald d226_104, sn_goto d226_105 (by decide), sn_iload d226_108, sn_iret d226_110 rfl, trivial⟩
theorem sd226 : ∀ pc, eb_Snd L q0 226 pc (eb_lg 226) (eb_cd L 226 pc) := eb_AS_all (hk226 (L := L)) (eb_AS_app sc226_0 (sc226_1))
theorem sc227_0 : eb_AS L q0 227 (eb_lg 227) [(0, op_aload 0 1), (1, op_call 246 1 4), (4, op_astore 3 5), (5, op_aload 3 6), (6, op_iload 2 7), (7, op_call 166 2 10), (10, op_pop 11), (11, op_aload 3 12), (12, op_iload 1 13), (13, op_push (zi (-1)) 14), (14, op_call 224 3 17), (17, op_iret)] := ⟨sn_aload_n d227_0 rfl, kV_246 wm_6_227 d227_1, sn_astore_n (eb_hlg (Or.inl rfl)) hn227_3 d227_4 rfl, sn_aload_n d227_5 rfl, sn_iload_n d227_6 rfl, kV_166 wm_6_138 d227_7, sn_pop d227_10, sn_aload_n d227_11 rfl, sn_iload_n d227_12 rfl, sn_iconst d227_13 (by decide), kV_224 wm_6_302 d227_14, sn_iret d227_17 rfl, trivial⟩
theorem sd227 : ∀ pc, eb_Snd L q0 227 pc (eb_lg 227) (eb_cd L 227 pc) := eb_AS_all (hk227 (L := L)) (sc227_0)
theorem sc228_0 : eb_AS L q0 228 (eb_lg 228) [(0, op_push (zi (-1)) 1), (1, op_istore 3 2), (2, op_push (zi 0) 3), (3, op_istore 4 5), (5, op_iload 4 7), (7, op_push (zi 1) 8), (8, op_aload 0 9), (9, op_getI L 6 9 12), (12, op_ii (fun x y => x <<< (y &&& 31)) 13), (13, op_icge 93 16), (16, op_push (zi 0) 17), (17, op_istore 5 19), (19, op_push (zi 0) 20), (20, op_istore 6 22), (22, op_iload 6 24), (24, op_aload 0 25), (25, op_getI L 6 9 28), (28, op_icge 49 31), (31, op_iload 5 33), (33, op_iload 4 35), (35, op_iload 6 37), (37, op_ii (fun x y => x >>> (y &&& 31)) 38), (38, op_push (zi 1) 39), (39, op_ii (· &&& ·) 40), (40, op_ii (· + ·) 41), (41, op_istore 5 43), (43, op_iinc 6 1 46), (46, op_goto 22), (49, op_iload 5 51), (51, op_iload 2 52), (52, op_icgt 87 55), (55, op_aload 0 56), (56, op_iload 1 57), (57, op_iload 4 59), (59, op_call 227 3 62), (62, op_istore 6 64), (64, op_iload 3 65), (65, op_push (zi (-1)) 66), (66, op_iceq 78 69), (69, op_iload 6 71)] := ⟨sn_iconst d228_0 (by decide), sn_istore_n (eb_hlg (Or.inl rfl)) hn228_3 d228_1 rfl, sn_iconst d228_2 (by decide), sn_istore (eb_hlg (Or.inl rfl)) hn228_4 d228_3, sn_iload d228_5, sn_iconst d228_7 (by decide), sn_aload_n d228_8 rfl, sn_getI (by decide) fi_6_9.1 fi_6_9.2 wf_6_73 d228_9, sn_ishl d228_12, sn_icge d228_13 (by decide), sn_iconst d228_16 (by decide), sn_istore (eb_hlg (Or.inl rfl)) hn228_5 d228_17, sn_iconst d228_19 (by decide), sn_istore (eb_hlg (Or.inl rfl)) hn228_6 d228_20, sn_iload d228_22, sn_aload_n d228_24 rfl, sn_getI (by decide) fi_6_9.1 fi_6_9.2 wf_6_73 d228_25, sn_icge d228_28 (by decide), sn_iload d228_31, sn_iload d228_33, sn_iload d228_35, sn_ishr d228_37, sn_iconst d228_38 (by decide), sn_iand d228_39, sn_iadd d228_40, sn_istore (eb_hlg (Or.inl rfl)) hn228_5 d228_41, sn_iinc (eb_hlg (Or.inl rfl)) hn228_6 d228_43 (by decide), sn_goto d228_46 (by decide), sn_iload d228_49, sn_iload_n d228_51 rfl, sn_icgt d228_52 (by decide), sn_aload_n d228_55 rfl, sn_iload_n d228_56 rfl, sn_iload d228_57, kV_227 wm_6_305 d228_59, sn_istore (eb_hlg (Or.inl rfl)) hn228_6 d228_62, sn_iload_n d228_64 rfl, sn_iconst d228_65 (by decide), sn_iceq d228_66 (by decide), sn_iload d228_69, trivial⟩
theorem sc228_1 : eb_AS L q0 228 (eb_lg 228) [(71, op_aload 0 72), (72, op_getI L 6 32 75), (75, op_icle 87 78), (78, op_iload 4 80), (80, op_istore 3 81), (81, op_aload 0 82), (82, op_iload 6 84), (84, op_putI L 6 32 87), (87, op_iinc 4 1 90), (90, op_goto 5), (93, op_iload 3 94), (94, op_iret)] := ⟨sn_aload_n d228_71 rfl, sn_getI (by decide) fi_6_32.1 fi_6_32.2 wf_6_308 d228_72, sn_icle d228_75 (by decide), sn_iload d228_78, sn_istore_n (eb_hlg (Or.inl rfl)) hn228_3 d228_80 rfl, sn_aload_n d228_81 rfl, sn_iload d228_82, sn_putI (by decide) fi_6_32.1 fi_6_32.2 wf_6_308 (Or.inl rfl) fp_6_32 d228_84, sn_iinc (eb_hlg (Or.inl rfl)) hn228_4 d228_87 (by decide), sn_goto d228_90 (by decide), sn_iload_n d228_93 rfl, sn_iret d228_94 rfl, trivial⟩
theorem sd228 : ∀ pc, eb_Snd L q0 228 pc (eb_lg 228) (eb_cd L 228 pc) := eb_AS_all (hk228 (L := L)) (eb_AS_app sc228_0 (sc228_1))
theorem sc229_0 : eb_AS L q0 229 (eb_lg 229) [(0, op_iload 1 1), (1, op_call 150 1 4), (4, op_ifeq 28 7), (7, op_iload 2 8), (8, op_i2l 9), (9, op_push (zl 0) 10), (10, op_push (zl 6) 13), (13, op_call 146 3 16), (16, op_ifeq 28 19), (19, op_aload 0 20), (20, op_iload 1 21), (21, op_iload 2 22), (22, op_call 228 3 25), (25, op_goto 34), (28, op_aload 0 29), (29, op_push (zi (-2)) 31), (31, op_call 145 2 34), (34, op_iret)] := ⟨sn_iload_n d229_0 rfl, kS_150 wm_6_299 d229_1, sn_ifeq d229_4 (by decide), sn_iload_n d229_7 rfl, sn_i2l d229_8, sn_lconst d229_9 (by decide), sn_ldc2 d229_10 wl_6_238, kS_146 wm_6_76 d229_13, sn_ifeq d229_16 (by decide), sn_aload_n d229_19 rfl, sn_iload_n d229_20 rfl, sn_iload_n d229_21 rfl, kV_228 wm_6_311 d229_22, sn_goto d229_25 (by decide), sn_aload_n d229_28 rfl, sn_bipush d229_29 (by decide), kV_145 wm_6_91 d229_31, sn_iret d229_34 rfl, trivial⟩
theorem sd229 : ∀ pc, eb_Snd L q0 229 pc (eb_lg 229) (eb_cd L 229 pc) := eb_AS_all (hk229 (L := L)) (sc229_0)
theorem sc230_0 : eb_AS L q0 230 (eb_lg 230) [(0, op_iload 1 1), (1, op_call 150 1 4), (4, op_ifeq 24 7), (7, op_aload 0 8), (8, op_iload 2 9), (9, op_call 167 2 12), (12, op_ifeq 24 15), (15, op_aload 0 16), (16, op_iload 1 17), (17, op_iload 2 18), (18, op_call 227 3 21), (21, op_goto 33), (24, op_push (zi (-1000000)) 26), (26, op_aload 0 27), (27, op_push (zi (-2)) 29), (29, op_call 145 2 32), (32, op_ii (· + ·) 33), (33, op_iret)] := ⟨sn_iload_n d230_0 rfl, kS_150 wm_6_299 d230_1, sn_ifeq d230_4 (by decide), sn_aload_n d230_7 rfl, sn_iload_n d230_8 rfl, kV_167 wm_6_135 d230_9, sn_ifeq d230_12 (by decide), sn_aload_n d230_15 rfl, sn_iload_n d230_16 rfl, sn_iload_n d230_17 rfl, kV_227 wm_6_305 d230_18, sn_goto d230_21 (by decide), sn_ldc d230_24 wk_6_252, sn_aload_n d230_26 rfl, sn_bipush d230_27 (by decide), kV_145 wm_6_91 d230_29, sn_iadd d230_32, sn_iret d230_33 rfl, trivial⟩
theorem sd230 : ∀ pc, eb_Snd L q0 230 pc (eb_lg 230) (eb_cd L 230 pc) := eb_AS_all (hk230 (L := L)) (sc230_0)
theorem sc231_0 : eb_AS L q0 231 (eb_lg 231) [(0, op_iload 1 1), (1, op_call 150 1 4), (4, op_ifne 14 7), (7, op_aload 0 8), (8, op_push (zi (-2)) 10), (10, op_call 145 2 13), (13, op_iret), (14, op_aload 0 15), (15, op_iload 1 16), (16, op_push (zi 6) 18), (18, op_call 228 3 21), (21, op_pop 22), (22, op_aload 0 23), (23, op_getI L 6 32 26), (26, op_istore 2 27), (27, op_push (zi 0) 28), (28, op_istore 3 29), (29, op_aload 0 30), (30, op_iload 1 31), (31, op_push (zi 0) 32), (32, op_call 228 3 35), (35, op_pop 36), (36, op_aload 0 37), (37, op_getI L 6 32 40), (40, op_iload 2 41), (41, op_iceq 57 44), (44, op_iinc 3 1 47), (47, op_aload 0 48), (48, op_iload 1 49), (49, op_iload 3 50), (50, op_call 228 3 53), (53, op_pop 54), (54, op_goto 36), (57, op_iload 3 58), (58, op_iret)] := ⟨sn_iload_n d231_0 rfl, kS_150 wm_6_299 d231_1, sn_ifne d231_4 (by decide), sn_aload_n d231_7 rfl, sn_bipush d231_8 (by decide), kV_145 wm_6_91 d231_10, sn_iret d231_13 rfl, sn_aload_n d231_14 rfl, sn_iload_n d231_15 rfl, sn_bipush d231_16 (by decide), kV_228 wm_6_311 d231_18, sn_pop d231_21, sn_aload_n d231_22 rfl, sn_getI (by decide) fi_6_32.1 fi_6_32.2 wf_6_308 d231_23, sn_istore_n (eb_hlg (Or.inl rfl)) hn231_2 d231_26 rfl, sn_iconst d231_27 (by decide), sn_istore_n (eb_hlg (Or.inl rfl)) hn231_3 d231_28 rfl, sn_aload_n d231_29 rfl, sn_iload_n d231_30 rfl, sn_iconst d231_31 (by decide), kV_228 wm_6_311 d231_32, sn_pop d231_35, sn_aload_n d231_36 rfl, sn_getI (by decide) fi_6_32.1 fi_6_32.2 wf_6_308 d231_37, sn_iload_n d231_40 rfl, sn_iceq d231_41 (by decide), sn_iinc (eb_hlg (Or.inl rfl)) hn231_3 d231_44 (by decide), sn_aload_n d231_47 rfl, sn_iload_n d231_48 rfl, sn_iload_n d231_49 rfl, kV_228 wm_6_311 d231_50, sn_pop d231_53, sn_goto d231_54 (by decide), sn_iload_n d231_57 rfl, sn_iret d231_58 rfl, trivial⟩
theorem sd231 : ∀ pc, eb_Snd L q0 231 pc (eb_lg 231) (eb_cd L 231 pc) := eb_AS_all (hk231 (L := L)) (sc231_0)
theorem sc232_0 : eb_AS L q0 232 (eb_lg 232) [(0, op_push (zi 1) 1), (1, op_istore 2 2), (2, op_push (zi 0) 3), (3, op_istore 3 4), (4, op_iload 3 5), (5, op_iload 1 6), (6, op_icge 24 9), (9, op_iload 2 10), (10, op_aload 0 11), (11, op_getI L 6 9 14), (14, op_push (zi 1) 15), (15, op_ii (· + ·) 16), (16, op_ii (· * ·) 17), (17, op_istore 2 18), (18, op_iinc 3 1 21), (21, op_goto 4), (24, op_push (zi 0) 25), (25, op_istore 3 26), (26, op_iload 3 27), (27, op_iload 2 28), (28, op_icge 196 31), (31, op_aload 0 32), (32, op_call 246 1 35), (35, op_astore 4 37), (37, op_iload 2 38), (38, op_istore 5 40), (40, op_push (zi 0) 41), (41, op_istore 6 43), (43, op_push (zi 0) 44), (44, op_istore 7 46), (46, op_iload 7 48), (48, op_iload 1 49), (49, op_icge 122 52), (52, op_iload 5 54), (54, op_aload 0 55), (55, op_getI L 6 9 58), (58, op_push (zi 1) 59), (59, op_ii (· + ·) 60), (60, op_iid (· / ·) 61), (61, op_istore 5 63)] := ⟨sn_iconst d232_0 (by decide), sn_istore_n (eb_hlg (Or.inl rfl)) hn232_2 d232_1 rfl, sn_iconst d232_2 (by decide), sn_istore_n (eb_hlg (Or.inl rfl)) hn232_3 d232_3 rfl, sn_iload_n d232_4 rfl, sn_iload_n d232_5 rfl, sn_icge d232_6 (by decide), sn_iload_n d232_9 rfl, sn_aload_n d232_10 rfl, sn_getI (by decide) fi_6_9.1 fi_6_9.2 wf_6_73 d232_11, sn_iconst d232_14 (by decide), sn_iadd d232_15, sn_imul d232_16, sn_istore_n (eb_hlg (Or.inl rfl)) hn232_2 d232_17 rfl, sn_iinc (eb_hlg (Or.inl rfl)) hn232_3 d232_18 (by decide), sn_goto d232_21 (by decide), sn_iconst d232_24 (by decide), sn_istore_n (eb_hlg (Or.inl rfl)) hn232_3 d232_25 rfl, sn_iload_n d232_26 rfl, sn_iload_n d232_27 rfl, sn_icge d232_28 (by decide), sn_aload_n d232_31 rfl, kV_246 wm_6_227 d232_32, sn_astore (eb_hlg (Or.inl rfl)) hn232_4 d232_35, sn_iload_n d232_37 rfl, sn_istore (eb_hlg (Or.inl rfl)) hn232_5 d232_38, sn_iconst d232_40 (by decide), sn_istore (eb_hlg (Or.inl rfl)) hn232_6 d232_41, sn_iconst d232_43 (by decide), sn_istore (eb_hlg (Or.inl rfl)) hn232_7 d232_44, sn_iload d232_46, sn_iload_n d232_48 rfl, sn_icge d232_49 (by decide), sn_iload d232_52, sn_aload_n d232_54 rfl, sn_getI (by decide) fi_6_9.1 fi_6_9.2 wf_6_73 d232_55, sn_iconst d232_58 (by decide), sn_iadd d232_59, sn_idiv d232_60, sn_istore (eb_hlg (Or.inl rfl)) hn232_5 d232_61, trivial⟩
theorem sc232_1 : eb_AS L q0 232 (eb_lg 232) [(63, op_iload 3 64), (64, op_iload 5 66), (66, op_iid (· / ·) 67), (67, op_aload 0 68), (68, op_getI L 6 9 71), (71, op_push (zi 1) 72), (72, op_ii (· + ·) 73), (73, op_iid (fun x y => x - x / y * y) 74), (74, op_push (zi 1) 75), (75, op_ii (· - ·) 76), (76, op_istore 8 78), (78, op_iload 8 80), (80, op_push (zi (-1)) 81), (81, op_iceq 104 84), (84, op_aload 4 86), (86, op_getR L 6 10 89), (89, op_iload 8 91), (91, op_aald L 92), (92, op_push (zi 4) 93), (93, op_aload 4 95), (95, op_getR L 6 10 98), (98, op_iload 8 100), (100, op_aald L 101), (101, op_push (zi 0) 102), (102, op_iald L 103), (103, op_iast L 104), (104, op_iload 6 106), (106, op_aload 4 108), (108, op_push (zi 1) 109), (109, op_push (zi (-1)) 110), (110, op_call 224 3 113), (113, op_ii (· + ·) 114), (114, op_istore 6 116), (116, op_iinc 7 1 119), (119, op_goto 46), (122, op_iload 3 123), (123, op_ifeq 135 126), (126, op_iload 6 128), (128, op_aload 0 129), (129, op_getI L 6 32 132)] := ⟨sn_iload_n d232_63 rfl, sn_iload d232_64, sn_idiv d232_66, sn_aload_n d232_67 rfl, sn_getI (by decide) fi_6_9.1 fi_6_9.2 wf_6_73 d232_68, sn_iconst d232_71 (by decide), sn_iadd d232_72, sn_irem d232_73, sn_iconst d232_74 (by decide), sn_isub d232_75, sn_istore (eb_hlg (Or.inl rfl)) hn232_8 d232_76, sn_iload d232_78, sn_iconst d232_80 (by decide), sn_iceq d232_81 (by decide), sn_aload d232_84, sn_getR (by decide) fi_6_10.1 fi_6_10.2 wf_6_39 d232_86, sn_iload d232_89, sn_aald d232_91, sn_iconst d232_92 (by decide), sn_aload d232_93, sn_getR (by decide) fi_6_10.1 fi_6_10.2 wf_6_39 d232_95, sn_iload d232_98, sn_aald d232_100, sn_iconst d232_101 (by decide), sn_iald d232_102, sn_iast d232_103, sn_iload d232_104, sn_aload d232_106, sn_iconst d232_108 (by decide), sn_iconst d232_109 (by decide), kV_224 wm_6_302 d232_110, sn_iadd d232_113, sn_istore (eb_hlg (Or.inl rfl)) hn232_6 d232_114, sn_iinc (eb_hlg (Or.inl rfl)) hn232_7 d232_116 (by decide), sn_goto d232_119 (by decide), sn_iload_n d232_122 rfl, sn_ifeq d232_123 (by decide), sn_iload d232_126, sn_aload_n d232_128 rfl, sn_getI (by decide) fi_6_32.1 fi_6_32.2 wf_6_308 d232_129, trivial⟩
theorem sc232_2 : eb_AS L q0 232 (eb_lg 232) [(132, op_icle 190 135), (135, op_aload 0 136), (136, op_iload 6 138), (138, op_putI L 6 32 141), (141, op_iload 2 142), (142, op_istore 5 144), (144, op_push (zi 0) 145), (145, op_istore 7 147), (147, op_iload 7 149), (149, op_iload 1 150), (150, op_icge 190 153), (153, op_iload 5 155), (155, op_aload 0 156), (156, op_getI L 6 9 159), (159, op_push (zi 1) 160), (160, op_ii (· + ·) 161), (161, op_iid (· / ·) 162), (162, op_istore 5 164), (164, op_aload 0 165), (165, op_getR L 6 33 168), (168, op_iload 7 170), (170, op_iload 3 171), (171, op_iload 5 173), (173, op_iid (· / ·) 174), (174, op_aload 0 175), (175, op_getI L 6 9 178), (178, op_push (zi 1) 179), (179, op_ii (· + ·) 180), (180, op_iid (fun x y => x - x / y * y) 181), (181, op_push (zi 1) 182), (182, op_ii (· - ·) 183), (183, op_iast L 184), (184, op_iinc 7 1 187), (187, op_goto 147), (190, op_iinc 3 1 193), (193, op_goto 26), (196, op_vret)] := ⟨sn_icle d232_132 (by decide), sn_aload_n d232_135 rfl, sn_iload d232_136, sn_putI (by decide) fi_6_32.1 fi_6_32.2 wf_6_308 (Or.inl rfl) fp_6_32 d232_138, sn_iload_n d232_141 rfl, sn_istore (eb_hlg (Or.inl rfl)) hn232_5 d232_142, sn_iconst d232_144 (by decide), sn_istore (eb_hlg (Or.inl rfl)) hn232_7 d232_145, sn_iload d232_147, sn_iload_n d232_149 rfl, sn_icge d232_150 (by decide), sn_iload d232_153, sn_aload_n d232_155 rfl, sn_getI (by decide) fi_6_9.1 fi_6_9.2 wf_6_73 d232_156, sn_iconst d232_159 (by decide), sn_iadd d232_160, sn_idiv d232_161, sn_istore (eb_hlg (Or.inl rfl)) hn232_5 d232_162, sn_aload_n d232_164 rfl, sn_getR (by decide) fi_6_33.1 fi_6_33.2 wf_6_70 d232_165, sn_iload d232_168, sn_iload_n d232_170 rfl, sn_iload d232_171, sn_idiv d232_173, sn_aload_n d232_174 rfl, sn_getI (by decide) fi_6_9.1 fi_6_9.2 wf_6_73 d232_175, sn_iconst d232_178 (by decide), sn_iadd d232_179, sn_irem d232_180, sn_iconst d232_181 (by decide), sn_isub d232_182, sn_iast d232_183, sn_iinc (eb_hlg (Or.inl rfl)) hn232_7 d232_184 (by decide), sn_goto d232_187 (by decide), sn_iinc (eb_hlg (Or.inl rfl)) hn232_3 d232_190 (by decide), sn_goto d232_193 (by decide), sn_vret d232_196 rfl, trivial⟩
theorem sd232 : ∀ pc, eb_Snd L q0 232 pc (eb_lg 232) (eb_cd L 232 pc) := eb_AS_all (hk232 (L := L)) (eb_AS_app sc232_0 (eb_AS_app sc232_1 (sc232_2)))
end

/-! every row of these methods is sound: by program -/
set_option maxRecDepth 100000
theorem d144_0 : decode (eb_b 144) 0 = .ok (.aload_n 0, 1) := by decide +kernel
theorem d144_1 : decode (eb_b 144) 1 = .ok (.invokespecial 1, 3) := by decide +kernel
theorem wm_6_1 : Cond.methodLink (eb_cN 6) 1 objectInit ∈ eb_LT := eb_lt 951 (by decide +kernel)
theorem d144_4 : decode (eb_b 144) 4 = .ok (.aload_n 0, 1) := by decide +kernel
theorem d144_5 : decode (eb_b 144) 5 = .ok (.bipush 8, 2) := by decide +kernel
theorem d144_7 : decode (eb_b 144) 7 = .ok (.newarray .int, 2) := by decide +kernel
theorem d144_9 : decode (eb_b 144) 9 = .ok (.putfield 7, 3) := by decide +kernel
theorem fp_6_0 : ∀ x : Option Nat, narrow (eb_tt 6 0) (va_rf x) = va_rf x ∧ fits (eb_tt 6 0) (va_rf x) = true := fun x => by cases x <;> exact ⟨rfl, rfl⟩
theorem d144_12 : decode (eb_b 144) 12 = .ok (.aload_n 0, 1) := by decide +kernel
theorem d144_13 : decode (eb_b 144) 13 = .ok (.bipush 8, 2) := by decide +kernel
theorem d144_15 : decode (eb_b 144) 15 = .ok (.newarray .int, 2) := by decide +kernel
theorem d144_17 : decode (eb_b 144) 17 = .ok (.putfield 13, 3) := by decide +kernel
theorem fp_6_1 : ∀ x : Option Nat, narrow (eb_tt 6 1) (va_rf x) = va_rf x ∧ fits (eb_tt 6 1) (va_rf x) = true := fun x => by cases x <;> exact ⟨rfl, rfl⟩
theorem d144_20 : decode (eb_b 144) 20 = .ok (.aload_n 0, 1) := by decide +kernel
theorem d144_21 : decode (eb_b 144) 21 = .ok (.bipush 8, 2) := by decide +kernel
theorem d144_23 : decode (eb_b 144) 23 = .ok (.newarray .int, 2) := by decide +kernel
theorem d144_25 : decode (eb_b 144) 25 = .ok (.putfield 16, 3) := by decide +kernel
theorem fp_6_2 : ∀ x : Option Nat, narrow (eb_tt 6 2) (va_rf x) = va_rf x ∧ fits (eb_tt 6 2) (va_rf x) = true := fun x => by cases x <;> exact ⟨rfl, rfl⟩
theorem d144_28 : decode (eb_b 144) 28 = .ok (.aload_n 0, 1) := by decide +kernel
theorem d144_29 : decode (eb_b 144) 29 = .ok (.bipush 8, 2) := by decide +kernel
theorem d144_31 : decode (eb_b 144) 31 = .ok (.bipush 40, 2) := by decide +kernel
theorem d144_33 : decode (eb_b 144) 33 = .ok (.multianewarray 19 2, 4) := by decide +kernel
theorem wg_6_19 : Cond.classLink (eb_cN 6) 19 ("[" ++ (FieldType.array .long).toString) ∈ eb_LT := eb_lt 952 (by decide +kernel)
theorem d144_37 : decode (eb_b 144) 37 = .ok (.putfield 21, 3) := by decide +kernel
theorem fp_6_3 : ∀ x : Option Nat, narrow (eb_tt 6 3) (va_rf x) = va_rf x ∧ fits (eb_tt 6 3) (va_rf x) = true := fun x => by cases x <;> exact ⟨rfl, rfl⟩
theorem d144_40 : decode (eb_b 144) 40 = .ok (.aload_n 0, 1) := by decide +kernel
theorem d144_41 : decode (eb_b 144) 41 = .ok (.bipush 40, 2) := by decide +kernel
theorem d144_43 : decode (eb_b 144) 43 = .ok (.newarray .long, 2) := by decide +kernel
theorem d144_45 : decode (eb_b 144) 45 = .ok (.putfield 24, 3) := by decide +kernel
theorem fp_6_4 : ∀ x : Option Nat, narrow (eb_tt 6 4) (va_rf x) = va_rf x ∧ fits (eb_tt 6 4) (va_rf x) = true := fun x => by cases x <;> exact ⟨rfl, rfl⟩
theorem d144_48 : decode (eb_b 144) 48 = .ok (.aload_n 0, 1) := by decide +kernel
theorem d144_49 : decode (eb_b 144) 49 = .ok (.bipush 8, 2) := by decide +kernel
theorem d144_51 : decode (eb_b 144) 51 = .ok (.newarray .int, 2) := by decide +kernel
theorem d144_53 : decode (eb_b 144) 53 = .ok (.putfield 28, 3) := by decide +kernel
theorem fp_6_5 : ∀ x : Option Nat, narrow (eb_tt 6 5) (va_rf x) = va_rf x ∧ fits (eb_tt 6 5) (va_rf x) = true := fun x => by cases x <;> exact ⟨rfl, rfl⟩
theorem d144_56 : decode (eb_b 144) 56 = .ok (.aload_n 0, 1) := by decide +kernel
theorem d144_57 : decode (eb_b 144) 57 = .ok (.sipush 250, 3) := by decide +kernel
theorem d144_60 : decode (eb_b 144) 60 = .ok (.newarray .int, 2) := by decide +kernel
theorem d144_62 : decode (eb_b 144) 62 = .ok (.putfield 31, 3) := by decide +kernel
theorem fp_6_6 : ∀ x : Option Nat, narrow (eb_tt 6 6) (va_rf x) = va_rf x ∧ fits (eb_tt 6 6) (va_rf x) = true := fun x => by cases x <;> exact ⟨rfl, rfl⟩
theorem d144_65 : decode (eb_b 144) 65 = .ok (.aload_n 0, 1) := by decide +kernel
theorem d144_66 : decode (eb_b 144) 66 = .ok (.bipush 8, 2) := by decide +kernel
theorem d144_68 : decode (eb_b 144) 68 = .ok (.newarray .int, 2) := by decide +kernel
theorem d144_70 : decode (eb_b 144) 70 = .ok (.putfield 34, 3) := by decide +kernel
theorem fp_6_8 : ∀ x : Option Nat, narrow (eb_tt 6 8) (va_rf x) = va_rf x ∧ fits (eb_tt 6 8) (va_rf x) = true := fun x => by cases x <;> exact ⟨rfl, rfl⟩
theorem d144_73 : decode (eb_b 144) 73 = .ok (.aload_n 0, 1) := by decide +kernel
theorem d144_74 : decode (eb_b 144) 74 = .ok (.bipush 6, 2) := by decide +kernel
theorem d144_76 : decode (eb_b 144) 76 = .ok (.bipush 7, 2) := by decide +kernel
theorem d144_78 : decode (eb_b 144) 78 = .ok (.multianewarray 37 2, 4) := by decide +kernel
theorem wg_6_37 : Cond.classLink (eb_cN 6) 37 ("[" ++ (FieldType.array .int).toString) ∈ eb_LT := eb_lt 954 (by decide +kernel)
theorem d144_82 : decode (eb_b 144) 82 = .ok (.putfield 39, 3) := by decide +kernel
theorem fp_6_10 : ∀ x : Option Nat, narrow (eb_tt 6 10) (va_rf x) = va_rf x ∧ fits (eb_tt 6 10) (va_rf x) = true := fun x => by cases x <;> exact ⟨rfl, rfl⟩
theorem d144_85 : decode (eb_b 144) 85 = .ok (.aload_n 0, 1) := by decide +kernel
theorem d144_86 : decode (eb_b 144) 86 = .ok (.bipush 6, 2) := by decide +kernel
theorem d144_88 : decode (eb_b 144) 88 = .ok (.iconst 3, 1) := by decide +kernel
theorem d144_89 : decode (eb_b 144) 89 = .ok (.multianewarray 37 2, 4) := by decide +kernel
theorem d144_93 : decode (eb_b 144) 93 = .ok (.putfield 42, 3) := by decide +kernel
theorem fp_6_12 : ∀ x : Option Nat, narrow (eb_tt 6 12) (va_rf x) = va_rf x ∧ fits (eb_tt 6 12) (va_rf x) = true := fun x => by cases x <;> exact ⟨rfl, rfl⟩
theorem d144_96 : decode (eb_b 144) 96 = .ok (.aload_n 0, 1) := by decide +kernel
theorem d144_97 : decode (eb_b 144) 97 = .ok (.iconst 1, 1) := by decide +kernel
theorem d144_98 : decode (eb_b 144) 98 = .ok (.putfield 45, 3) := by decide +kernel
theorem d144_101 : decode (eb_b 144) 101 = .ok (.aload_n 0, 1) := by decide +kernel
theorem d144_102 : decode (eb_b 144) 102 = .ok (.iconst 3, 1) := by decide +kernel
theorem d144_103 : decode (eb_b 144) 103 = .ok (.newarray .int, 2) := by decide +kernel
theorem d144_105 : decode (eb_b 144) 105 = .ok (.putfield 49, 3) := by decide +kernel
theorem fp_6_23 : ∀ x : Option Nat, narrow (eb_tt 6 23) (va_rf x) = va_rf x ∧ fits (eb_tt 6 23) (va_rf x) = true := fun x => by cases x <;> exact ⟨rfl, rfl⟩
theorem d144_108 : decode (eb_b 144) 108 = .ok (.aload_n 0, 1) := by decide +kernel
theorem d144_109 : decode (eb_b 144) 109 = .ok (.bipush 6, 2) := by decide +kernel
theorem d144_111 : decode (eb_b 144) 111 = .ok (.bipush 6, 2) := by decide +kernel
theorem d144_113 : decode (eb_b 144) 113 = .ok (.multianewarray 37 2, 4) := by decide +kernel
theorem d144_117 : decode (eb_b 144) 117 = .ok (.putfield 52, 3) := by decide +kernel
theorem fp_6_25 : ∀ x : Option Nat, narrow (eb_tt 6 25) (va_rf x) = va_rf x ∧ fits (eb_tt 6 25) (va_rf x) = true := fun x => by cases x <;> exact ⟨rfl, rfl⟩
theorem d144_120 : decode (eb_b 144) 120 = .ok (.aload_n 0, 1) := by decide +kernel
theorem d144_121 : decode (eb_b 144) 121 = .ok (.bipush 6, 2) := by decide +kernel
theorem d144_123 : decode (eb_b 144) 123 = .ok (.newarray .int, 2) := by decide +kernel
theorem d144_125 : decode (eb_b 144) 125 = .ok (.putfield 55, 3) := by decide +kernel
theorem fp_6_26 : ∀ x : Option Nat, narrow (eb_tt 6 26) (va_rf x) = va_rf x ∧ fits (eb_tt 6 26) (va_rf x) = true := fun x => by cases x <;> exact ⟨rfl, rfl⟩
theorem d144_128 : decode (eb_b 144) 128 = .ok (.aload_n 0, 1) := by decide +kernel
theorem d144_129 : decode (eb_b 144) 129 = .ok (.bipush 6, 2) := by decide +kernel
theorem d144_131 : decode (eb_b 144) 131 = .ok (.newarray .int, 2) := by decide +kernel
theorem d144_133 : decode (eb_b 144) 133 = .ok (.putfield 58, 3) := by decide +kernel
theorem fp_6_27 : ∀ x : Option Nat, narrow (eb_tt 6 27) (va_rf x) = va_rf x ∧ fits (eb_tt 6 27) (va_rf x) = true := fun x => by cases x <;> exact ⟨rfl, rfl⟩
theorem d144_136 : decode (eb_b 144) 136 = .ok (.aload_n 0, 1) := by decide +kernel
theorem d144_137 : decode (eb_b 144) 137 = .ok (.bipush 6, 2) := by decide +kernel
theorem d144_139 : decode (eb_b 144) 139 = .ok (.newarray .int, 2) := by decide +kernel
theorem d144_141 : decode (eb_b 144) 141 = .ok (.putfield 61, 3) := by decide +kernel
theorem fp_6_28 : ∀ x : Option Nat, narrow (eb_tt 6 28) (va_rf x) = va_rf x ∧ fits (eb_tt 6 28) (va_rf x) = true := fun x => by cases x <;> exact ⟨rfl, rfl⟩
theorem d144_144 : decode (eb_b 144) 144 = .ok (.aload_n 0, 1) := by decide +kernel
theorem d144_145 : decode (eb_b 144) 145 = .ok (.bipush 6, 2) := by decide +kernel
theorem d144_147 : decode (eb_b 144) 147 = .ok (.newarray .int, 2) := by decide +kernel
theorem d144_149 : decode (eb_b 144) 149 = .ok (.putfield 64, 3) := by decide +kernel
theorem fp_6_30 : ∀ x : Option Nat, narrow (eb_tt 6 30) (va_rf x) = va_rf x ∧ fits (eb_tt 6 30) (va_rf x) = true := fun x => by cases x <;> exact ⟨rfl, rfl⟩
theorem d144_152 : decode (eb_b 144) 152 = .ok (.aload_n 0, 1) := by decide +kernel
theorem d144_153 : decode (eb_b 144) 153 = .ok (.bipush 6, 2) := by decide +kernel
theorem d144_155 : decode (eb_b 144) 155 = .ok (.newarray .int, 2) := by decide +kernel
theorem d144_157 : decode (eb_b 144) 157 = .ok (.putfield 67, 3) := by decide +kernel
theorem fp_6_31 : ∀ x : Option Nat, narrow (eb_tt 6 31) (va_rf x) = va_rf x ∧ fits (eb_tt 6 31) (va_rf x) = true := fun x => by cases x <;> exact ⟨rfl, rfl⟩
theorem d144_160 : decode (eb_b 144) 160 = .ok (.aload_n 0, 1) := by decide +kernel
theorem d144_161 : decode (eb_b 144) 161 = .ok (.iconst 3, 1) := by decide +kernel
theorem d144_162 : decode (eb_b 144) 162 = .ok (.newarray .int, 2) := by decide +kernel
theorem d144_164 : decode (eb_b 144) 164 = .ok (.putfield 70, 3) := by decide +kernel
theorem fp_6_33 : ∀ x : Option Nat, narrow (eb_tt 6 33) (va_rf x) = va_rf x ∧ fits (eb_tt 6 33) (va_rf x) = true := fun x => by cases x <;> exact ⟨rfl, rfl⟩
theorem d144_167 : decode (eb_b 144) 167 = .ok (.return_, 1) := by decide +kernel
section
variable {L q0 : Nat}
theorem sc144_0 : eb_AS L q0 144 (eb_lg 144) [(0, op_aload 0 1), (1, op_callv 903 1 4), (4, op_aload 0 5), (5, op_push (zi 8) 7), (7, op_newI L 9), (9, op_putR L 6 0 12), (12, op_aload 0 13), (13, op_push (zi 8) 15), (15, op_newI L 17), (17, op_putR L 6 1 20), (20, op_aload 0 21), (21, op_push (zi 8) 23), (23, op_newI L 25), (25, op_putR L 6 2 28), (28, op_aload 0 29), (29, op_push (zi 8) 31), (31, op_push (zi 40) 33), (33, op_newJJ L 37), (37, op_putR L 6 3 40), (40, op_aload 0 41), (41, op_push (zi 40) 43), (43, op_newJ L 45), (45, op_putR L 6 4 48), (48, op_aload 0 49), (49, op_push (zi 8) 51), (51, op_newI L 53), (53, op_putR L 6 5 56), (56, op_aload 0 57), (57, op_push (zi 250) 60), (60, op_newI L 62), (62, op_putR L 6 6 65), (65, op_aload 0 66), (66, op_push (zi 8) 68), (68, op_newI L 70), (70, op_putR L 6 8 73), (73, op_aload 0 74), (74, op_push (zi 6) 76), (76, op_push (zi 7) 78), (78, op_newII L 82), (82, op_putR L 6 10 85)] := ⟨sn_aload_n d144_0 rfl, sn_obj wm_6_1 d144_1, sn_aload_n d144_4 rfl, sn_bipush d144_5 (by decide), sn_newI d144_7, sn_putR (by decide) fi_6_0.1 fi_6_0.2 wf_6_7 (Or.inr ⟨rfl, rfl⟩) fp_6_0 d144_9, sn_aload_n d144_12 rfl, sn_bipush d144_13 (by decide), sn_newI d144_15, sn_putR (by decide) fi_6_1.1 fi_6_1.2 wf_6_13 (Or.inr ⟨rfl, rfl⟩) fp_6_1 d144_17, sn_aload_n d144_20 rfl, sn_bipush d144_21 (by decide), sn_newI d144_23, sn_putR (by decide) fi_6_2.1 fi_6_2.2 wf_6_16 (Or.inr ⟨rfl, rfl⟩) fp_6_2 d144_25, sn_aload_n d144_28 rfl, sn_bipush d144_29 (by decide), sn_bipush d144_31 (by decide), sn_newJJ wg_6_19 d144_33, sn_putR (by decide) fi_6_3.1 fi_6_3.2 wf_6_21 (Or.inr ⟨rfl, rfl⟩) fp_6_3 d144_37, sn_aload_n d144_40 rfl, sn_bipush d144_41 (by decide), sn_newJ d144_43, sn_putR (by decide) fi_6_4.1 fi_6_4.2 wf_6_24 (Or.inr ⟨rfl, rfl⟩) fp_6_4 d144_45, sn_aload_n d144_48 rfl, sn_bipush d144_49 (by decide), sn_newI d144_51, sn_putR (by decide) fi_6_5.1 fi_6_5.2 wf_6_28 (Or.inr ⟨rfl, rfl⟩) fp_6_5 d144_53, sn_aload_n d144_56 rfl, sn_sipush d144_57 (by decide), sn_newI d144_60, sn_putR (by decide) fi_6_6.1 fi_6_6.2 wf_6_31 (Or.inr ⟨rfl, rfl⟩) fp_6_6 d144_62, sn_aload_n d144_65 rfl, sn_bipush d144_66 (by decide), sn_newI d144_68, sn_putR (by decide) fi_6_8.1 fi_6_8.2 wf_6_34 (Or.inr ⟨rfl, rfl⟩) fp_6_8 d144_70, sn_aload_n d144_73 rfl, sn_bipush d144_74 (by decide), sn_bipush d144_76 (by decide), sn_newII wg_6_37 d144_78, sn_putR (by decide) fi_6_10.1 fi_6_10.2 wf_6_39 (Or.inr ⟨rfl, rfl⟩) fp_6_10 d144_82, trivial⟩
theorem sc144_1 : eb_AS L q0 144 (eb_lg 144) [(85, op_aload 0 86), (86, op_push (zi 6) 88), (88, op_push (zi 3) 89), (89, op_newII L 93), (93, op_putR L 6 12 96), (96, op_aload 0 97), (97, op_push (zi 1) 98), (98, op_putI L 6 15 101), (101, op_aload 0 102), (102, op_push (zi 3) 103), (103, op_newI L 105), (105, op_putR L 6 23 108), (108, op_aload 0 109), (109, op_push (zi 6) 111), (111, op_push (zi 6) 113), (113, op_newII L 117), (117, op_putR L 6 25 120), (120, op_aload 0 121), (121, op_push (zi 6) 123), (123, op_newI L 125), (125, op_putR L 6 26 128), (128, op_aload 0 129), (129, op_push (zi 6) 131), (131, op_newI L 133), (133, op_putR L 6 27 136), (136, op_aload 0 137), (137, op_push (zi 6) 139), (139, op_newI L 141), (141, op_putR L 6 28 144), (144, op_aload 0 145), (145, op_push (zi 6) 147), (147, op_newI L 149), (149, op_putR L 6 30 152), (152, op_aload 0 153), (153, op_push (zi 6) 155), (155, op_newI L 157), (157, op_putR L 6 31 160), (160, op_aload 0 161), (161, op_push (zi 3) 162), (162, op_newI L 164)] := ⟨sn_aload_n d144_85 rfl, sn_bipush d144_86 (by decide), sn_iconst d144_88 (by decide), sn_newII wg_6_37 d144_89, sn_putR (by decide) fi_6_12.1 fi_6_12.2 wf_6_42 (Or.inr ⟨rfl, rfl⟩) fp_6_12 d144_93, sn_aload_n d144_96 rfl, sn_iconst d144_97 (by decide), sn_putI (by decide) fi_6_15.1 fi_6_15.2 wf_6_45 (Or.inl rfl) fp_6_15 d144_98, sn_aload_n d144_101 rfl, sn_iconst d144_102 (by decide), sn_newI d144_103, sn_putR (by decide) fi_6_23.1 fi_6_23.2 wf_6_49 (Or.inr ⟨rfl, rfl⟩) fp_6_23 d144_105, sn_aload_n d144_108 rfl, sn_bipush d144_109 (by decide), sn_bipush d144_111 (by decide), sn_newII wg_6_37 d144_113, sn_putR (by decide) fi_6_25.1 fi_6_25.2 wf_6_52 (Or.inr ⟨rfl, rfl⟩) fp_6_25 d144_117, sn_aload_n d144_120 rfl, sn_bipush d144_121 (by decide), sn_newI d144_123, sn_putR (by decide) fi_6_26.1 fi_6_26.2 wf_6_55 (Or.inr ⟨rfl, rfl⟩) fp_6_26 d144_125, sn_aload_n d144_128 rfl, sn_bipush d144_129 (by decide), sn_newI d144_131, sn_putR (by decide) fi_6_27.1 fi_6_27.2 wf_6_58 (Or.inr ⟨rfl, rfl⟩) fp_6_27 d144_133, sn_aload_n d144_136 rfl, sn_bipush d144_137 (by decide), sn_newI d144_139, sn_putR (by decide) fi_6_28.1 fi_6_28.2 wf_6_61 (Or.inr ⟨rfl, rfl⟩) fp_6_28 d144_141, sn_aload_n d144_144 rfl, sn_bipush d144_145 (by decide), sn_newI d144_147, sn_putR (by decide) fi_6_30.1 fi_6_30.2 wf_6_64 (Or.inr ⟨rfl, rfl⟩) fp_6_30 d144_149, sn_aload_n d144_152 rfl, sn_bipush d144_153 (by decide), sn_newI d144_155, sn_putR (by decide) fi_6_31.1 fi_6_31.2 wf_6_67 (Or.inr ⟨rfl, rfl⟩) fp_6_31 d144_157, sn_aload_n d144_160 rfl, sn_iconst d144_161 (by decide), sn_newI d144_162, trivial⟩
theorem sc144_2 : eb_AS L q0 144 (eb_lg 144) [(164, op_putR L 6 33 167), (167, op_vret)] := ⟨sn_putR (by decide) fi_6_33.1 fi_6_33.2 wf_6_70 (Or.inr ⟨rfl, rfl⟩) fp_6_33 d144_164, sn_vret d144_167 rfl, trivial⟩
theorem sd144 : ∀ pc, eb_Snd L q0 144 pc (eb_lg 144) (eb_cd L 144 pc) := eb_AS_all (hk144 (L := L)) (eb_AS_app sc144_0 (eb_AS_app sc144_1 (sc144_2)))
end

section
variable {L d : Nat} {v0 v1 v2 v3 v4 v5 v6 v7 v8 v9 v10 : Option eb_V} {a0 a1 a2 a3 a4 a5 : eb_V} {ls : List (Option eb_V)} {st : List eb_V} {M : eb_M} {nc ns : Nat} {I : eb_A → Nat → Int32} {J : eb_A → Nat → Int64} {R : eb_A → Nat → Option eb_A} {a b : eb_A}

/-! X5_init -/
theorem hk67 : eb_cd L 67 = eb_look (kt67 L) := rfl
theorem h67 (ha : (eb_ty L a.1).1 = 5) : eb_ev L (d + 1) 67 [zr a] M = eb_E L d 67 0 [some (zr a), none] [] M := eb_ev_s rfl (eb_chk_i ha rfl)
theorem e67_0 {x : Option eb_A} : eb_E L d 67 0 [some (Sum.inr x), v1] (st) M = eb_E L d 67 1 [some (Sum.inr x), v1] (Sum.inr x :: st) M := eb_E_s hk67 rfl
theorem e67_1  : eb_E L d 67 1 ls ([a0]) M = (eb_ev L d 903 [a0] M).bind (fun q => eb_E L d 67 4 ls [] q.2) := eb_E_c hk67 rfl
theorem e67_4 {x : Option eb_A} : eb_E L d 67 4 [some (Sum.inr x), v1] (st) M = eb_E L d 67 5 [some (Sum.inr x), v1] (Sum.inr x :: st) M := eb_E_s hk67 rfl
theorem e67_5  : eb_E L d 67 5 ls (st) (nc, ns, I, J, R) = if (eb_ty L (eb_nm nc).1).1 = 4 then eb_E L d 67 8 ls (zr (eb_nm nc) :: st) (nc + 1, ns + 9, eb_zI I (eb_nm nc), J, eb_zR R (eb_nm nc) 9) else none := eb_E_iy hk67 rfl
theorem e67_8a {x : Int32} : eb_E L d 67 8 ls (zi x :: st) M = eb_E L d 67 9 ls (zi x :: zi x :: st) M := eb_E_s hk67 rfl
theorem e67_8b {x : Option eb_A} : eb_E L d 67 8 ls (Sum.inr x :: st) M = eb_E L d 67 9 ls (Sum.inr x :: Sum.inr x :: st) M := eb_E_s hk67 rfl
theorem e67_9 {s0 : Option eb_A} {s1 : Option eb_A} : eb_E L d 67 9 ls ([a0, Sum.inr s0, Sum.inr s1]) M = (eb_ev L d 38 [a0] M).bind (fun q => eb_E L d 67 12 ls [Sum.inr s0, Sum.inr s1] q.2) := eb_E_c hk67 rfl
theorem e67_12 {x : Option eb_A} : eb_E L d 67 12 ls (Sum.inr x :: Sum.inr (some a) :: st) (nc, ns, I, J, R) = if (eb_ty L a.1).1 = 5 then eb_E L d 67 15 ls (st) (nc, ns, I, J, eb_u R a 0 x) else none := eb_E_iy hk67 rfl
theorem e67_15 {x : Option eb_A} : eb_E L d 67 15 [some (Sum.inr x), v1] (st) M = eb_E L d 67 16 [some (Sum.inr x), v1] (Sum.inr x :: st) M := eb_E_s hk67 rfl
theorem e67_16  : eb_E L d 67 16 ls (st) (nc, ns, I, J, R) = if (eb_ty L (eb_nm nc).1).1 = 4 then eb_E L d 67 19 ls (zr (eb_nm nc) :: st) (nc + 1, ns + 9, eb_zI I (eb_nm nc), J, eb_zR R (eb_nm nc) 9) else none := eb_E_iy hk67 rfl
theorem e67_19a {x : Int32} : eb_E L d 67 19 ls (zi x :: st) M = eb_E L d 67 20 ls (zi x :: zi x :: st) M := eb_E_s hk67 rfl
theorem e67_19b {x : Option eb_A} : eb_E L d 67 19 ls (Sum.inr x :: st) M = eb_E L d 67 20 ls (Sum.inr x :: Sum.inr x :: st) M := eb_E_s hk67 rfl
theorem e67_20 {s0 : Option eb_A} {s1 : Option eb_A} : eb_E L d 67 20 ls ([a0, Sum.inr s0, Sum.inr s1]) M = (eb_ev L d 38 [a0] M).bind (fun q => eb_E L d 67 23 ls [Sum.inr s0, Sum.inr s1] q.2) := eb_E_c hk67 rfl
theorem e67_23 {x : Option eb_A} : eb_E L d 67 23 ls (Sum.inr x :: Sum.inr (some a) :: st) (nc, ns, I, J, R) = if (eb_ty L a.1).1 = 5 then eb_E L d 67 26 ls (st) (nc, ns, I, J, eb_u R a 1 x) else none := eb_E_iy hk67 rfl
theorem e67_26 {x : Option eb_A} : eb_E L d 67 26 [some (Sum.inr x), v1] (st) M = eb_E L d 67 27 [some (Sum.inr x), v1] (Sum.inr x :: st) M := eb_E_s hk67 rfl
theorem e67_27  : eb_E L d 67 27 ls (st) (nc, ns, I, J, R) = if (eb_ty L (eb_nm nc).1).1 = 4 then eb_E L d 67 30 ls (zr (eb_nm nc) :: st) (nc + 1, ns + 9, eb_zI I (eb_nm nc), J, eb_zR R (eb_nm nc) 9) else none := eb_E_iy hk67 rfl
theorem e67_30a {x : Int32} : eb_E L d 67 30 ls (zi x :: st) M = eb_E L d 67 31 ls (zi x :: zi x :: st) M := eb_E_s hk67 rfl
theorem e67_30b {x : Option eb_A} : eb_E L d 67 30 ls (Sum.inr x :: st) M = eb_E L d 67 31 ls (Sum.inr x :: Sum.inr x :: st) M := eb_E_s hk67 rfl
theorem e67_31 {s0 : Option eb_A} {s1 : Option eb_A} : eb_E L d 67 31 ls ([a0, Sum.inr s0, Sum.inr s1]) M = (eb_ev L d 38 [a0] M).bind (fun q => eb_E L d 67 34 ls [Sum.inr s0, Sum.inr s1] q.2) := eb_E_c hk67 rfl
theorem e67_34 {x : Option eb_A} : eb_E L d 67 34 ls (Sum.inr x :: Sum.inr (some a) :: st) (nc, ns, I, J, R) = if (eb_ty L a.1).1 = 5 then eb_E L d 67 37 ls (st) (nc, ns, I, J, eb_u R a 2 x) else none := eb_E_iy hk67 rfl
theorem e67_37 {x : Option eb_A} : eb_E L d 67 37 [some (Sum.inr x), v1] (st) M = eb_E L d 67 38 [some (Sum.inr x), v1] (Sum.inr x :: st) M := eb_E_s hk67 rfl
theorem e67_38  : eb_E L d 67 38 ls (st) M = eb_E L d 67 40 ls (zi 8 :: st) M := eb_E_s hk67 rfl
theorem e67_40 {x : Int32} : eb_E L d 67 40 ls (zi x :: st) (nc, ns, I, J, R) = if eb_ty L (eb_nm nc).1 = (14, x.toNatClampNeg) ∧ ¬ x < 0 ∧ x.toNatClampNeg ≤ 1000 then eb_E L d 67 43 ls (zr (eb_nm nc) :: st) (nc + 1, ns + x.toNatClampNeg, I, J, eb_zR R (eb_nm nc) x.toNatClampNeg) else none := eb_E_iy hk67 rfl
theorem e67_43 {x : Option eb_A} : eb_E L d 67 43 ls (Sum.inr x :: Sum.inr (some a) :: st) (nc, ns, I, J, R) = if (eb_ty L a.1).1 = 5 then eb_E L d 67 46 ls (st) (nc, ns, I, J, eb_u R a 4 x) else none := eb_E_iy hk67 rfl
theorem e67_46 {x : Option eb_A} : eb_E L d 67 46 [some (Sum.inr x), v1] (st) M = eb_E L d 67 47 [some (Sum.inr x), v1] (Sum.inr x :: st) M := eb_E_s hk67 rfl
theorem e67_47  : eb_E L d 67 47 ls (st) (nc, ns, I, J, R) = if (eb_ty L (eb_nm nc).1).1 = 3 then eb_E L d 67 50 ls (zr (eb_nm nc) :: st) (nc + 1, ns + 5, eb_zI I (eb_nm nc), J, eb_zR R (eb_nm nc) 5) else none := eb_E_iy hk67 rfl
theorem e67_50a {x : Int32} : eb_E L d 67 50 ls (zi x :: st) M = eb_E L d 67 51 ls (zi x :: zi x :: st) M := eb_E_s hk67 rfl
theorem e67_50b {x : Option eb_A} : eb_E L d 67 50 ls (Sum.inr x :: st) M = eb_E L d 67 51 ls (Sum.inr x :: Sum.inr x :: st) M := eb_E_s hk67 rfl
theorem e67_51 {s0 : Option eb_A} {s1 : Option eb_A} : eb_E L d 67 51 ls ([a0, Sum.inr s0, Sum.inr s1]) M = (eb_ev L d 23 [a0] M).bind (fun q => eb_E L d 67 54 ls [Sum.inr s0, Sum.inr s1] q.2) := eb_E_c hk67 rfl
theorem e67_54 {x : Option eb_A} : eb_E L d 67 54 ls (Sum.inr x :: Sum.inr (some a) :: st) (nc, ns, I, J, R) = if (eb_ty L a.1).1 = 5 then eb_E L d 67 57 ls (st) (nc, ns, I, J, eb_u R a 5 x) else none := eb_E_iy hk67 rfl
theorem e67_57 {x : Option eb_A} : eb_E L d 67 57 [some (Sum.inr x), v1] (st) M = eb_E L d 67 58 [some (Sum.inr x), v1] (Sum.inr x :: st) M := eb_E_s hk67 rfl
theorem e67_58  : eb_E L d 67 58 ls (st) M = eb_E L d 67 59 ls (zi 5 :: st) M := eb_E_s hk67 rfl
theorem e67_59 {x : Int32} : eb_E L d 67 59 ls (zi x :: st) (nc, ns, I, J, R) = if eb_ty L (eb_nm nc).1 = (10, x.toNatClampNeg) ∧ ¬ x < 0 ∧ x.toNatClampNeg ≤ 1000 then eb_E L d 67 61 ls (zr (eb_nm nc) :: st) (nc + 1, ns + x.toNatClampNeg, eb_zI I (eb_nm nc), J, R) else none := eb_E_iy hk67 rfl
theorem e67_61 {x : Option eb_A} : eb_E L d 67 61 ls (Sum.inr x :: Sum.inr (some a) :: st) (nc, ns, I, J, R) = if (eb_ty L a.1).1 = 5 then eb_E L d 67 64 ls (st) (nc, ns, I, J, eb_u R a 6 x) else none := eb_E_iy hk67 rfl
theorem e67_64  : eb_E L d 67 64 ls (st) M = eb_E L d 67 65 ls (zi 0 :: st) M := eb_E_s hk67 rfl
theorem e67_65 {x : Int32} : eb_E L d 67 65 [v0, v1] (zi x :: st) M = eb_E L d 67 66 [v0, some (zi x)] (st) M := eb_E_s hk67 rfl
theorem e67_66 {x : Int32} : eb_E L d 67 66 [v0, some (zi x)] (st) M = eb_E L d 67 67 [v0, some (zi x)] (zi x :: st) M := eb_E_s hk67 rfl
theorem e67_67  : eb_E L d 67 67 ls (st) M = eb_E L d 67 69 ls (zi 8 :: st) M := eb_E_s hk67 rfl
theorem e67_69 {x : Int32} {y : Int32} : eb_E L d 67 69 ls (zi y :: zi x :: st) M = if x < y then eb_E L d 67 72 ls st M else eb_E L d 67 91 ls st M := eb_E_b hk67 rfl
theorem e67_72 {x : Option eb_A} : eb_E L d 67 72 [some (Sum.inr x), v1] (st) M = eb_E L d 67 73 [some (Sum.inr x), v1] (Sum.inr x :: st) M := eb_E_s hk67 rfl
theorem e67_73  : eb_E L d 67 73 ls (Sum.inr (some a) :: st) (nc, ns, I, J, R) = if (eb_ty L a.1).1 = 5 then eb_E L d 67 76 ls (Sum.inr (R a 4) :: st) (nc, ns, I, J, R) else none := eb_E_iy hk67 rfl
theorem e67_76 {x : Int32} : eb_E L d 67 76 [v0, some (zi x)] (st) M = eb_E L d 67 77 [v0, some (zi x)] (zi x :: st) M := eb_E_s hk67 rfl
theorem e67_77  : eb_E L d 67 77 ls (st) (nc, ns, I, J, R) = if (eb_ty L (eb_nm nc).1).1 = 2 then eb_E L d 67 80 ls (zr (eb_nm nc) :: st) (nc + 1, ns + 3, eb_zI I (eb_nm nc), J, eb_zR R (eb_nm nc) 3) else none := eb_E_iy hk67 rfl
theorem e67_80a {x : Int32} : eb_E L d 67 80 ls (zi x :: st) M = eb_E L d 67 81 ls (zi x :: zi x :: st) M := eb_E_s hk67 rfl
theorem e67_80b {x : Option eb_A} : eb_E L d 67 80 ls (Sum.inr x :: st) M = eb_E L d 67 81 ls (Sum.inr x :: Sum.inr x :: st) M := eb_E_s hk67 rfl
theorem e67_81 {s0 : Option eb_A} {s1 : Int32} {s2 : Option eb_A} : eb_E L d 67 81 ls ([a0, Sum.inr s0, zi s1, Sum.inr s2]) M = (eb_ev L d 16 [a0] M).bind (fun q => eb_E L d 67 84 ls [Sum.inr s0, zi s1, Sum.inr s2] q.2) := eb_E_c hk67 rfl
theorem e67_84 {x : Int32} : eb_E L d 67 84 ls (Sum.inr (some b) :: zi x :: Sum.inr (some a) :: st) (nc, ns, I, J, R) = if (eb_ty L b.1).1 = eb_el (eb_ty L a.1).1 ∧ eb_in x (eb_ty L a.1).2 = true then eb_E L d 67 85 ls (st) (nc, ns, I, J, eb_u R a x.toNatClampNeg (some b)) else none := eb_E_iy hk67 rfl
theorem e67_85 {x : Int32} : eb_E L d 67 85 [v0, some (zi x)] (st) M = eb_E L d 67 88 [v0, some (zi (x + 1))] (st) M := eb_E_s hk67 rfl
theorem e67_88  : eb_E L d 67 88 ls (st) M = eb_E L d 67 66 ls (st) M := eb_E_s hk67 rfl
theorem e67_91  : eb_E L d 67 91 ls ([]) M = some (zn, M) := eb_E_r hk67 rfl
/-! X5_row -/
theorem hk68 : eb_cd L 68 = eb_look (kt68 L) := rfl
theorem h68 (ha : (eb_ty L a.1).1 = 5) {x1 : Int32} {x2 : Int32} {x3 : Int32} : eb_ev L (d + 1) 68 [zr a, zi x1, zi x2, zi x3] M = eb_E L d 68 0 [some (zr a), some (zi x1), some (zi x2), some (zi x3)] [] M := eb_ev_s rfl (eb_chk_i ha rfl)
theorem e68_0 {x : Int32} : eb_E L d 68 0 [v0, some (zi x), v2, v3] (st) M = eb_E L d 68 1 [v0, some (zi x), v2, v3] (zi x :: st) M := eb_E_s hk68 rfl
theorem e68_1  : eb_E L d 68 1 ls ([a0]) M = (eb_ev L d 128 [a0] M).bind (fun q => eb_E L d 68 4 ls [q.1] q.2) := eb_E_c hk68 rfl
theorem e68_4 {x : Int32} : eb_E L d 68 4 ls (zi x :: st) M = if x = 0 then eb_E L d 68 26 ls st M else eb_E L d 68 7 ls st M := eb_E_b hk68 rfl
theorem e68_7 {x : Int32} : eb_E L d 68 7 [v0, v1, some (zi x), v3] (st) M = eb_E L d 68 8 [v0, v1, some (zi x), v3] (zi x :: st) M := eb_E_s hk68 rfl
theorem e68_8  : eb_E L d 68 8 ls (st) M = eb_E L d 68 9 ls (zi 0 :: st) M := eb_E_s hk68 rfl
theorem e68_9  : eb_E L d 68 9 ls (st) M = eb_E L d 68 10 ls (zi 4 :: st) M := eb_E_s hk68 rfl
theorem e68_10  : eb_E L d 68 10 ls ([a2, a1, a0]) M = (eb_ev L d 127 [a0, a1, a2] M).bind (fun q => eb_E L d 68 13 ls [q.1] q.2) := eb_E_c hk68 rfl
theorem e68_13 {x : Int32} : eb_E L d 68 13 ls (zi x :: st) M = if x = 0 then eb_E L d 68 26 ls st M else eb_E L d 68 16 ls st M := eb_E_b hk68 rfl
theorem e68_16 {x : Int32} : eb_E L d 68 16 [v0, v1, v2, some (zi x)] (st) M = eb_E L d 68 17 [v0, v1, v2, some (zi x)] (zi x :: st) M := eb_E_s hk68 rfl
theorem e68_17  : eb_E L d 68 17 ls (st) M = eb_E L d 68 18 ls (zi 0 :: st) M := eb_E_s hk68 rfl
theorem e68_18  : eb_E L d 68 18 ls (st) M = eb_E L d 68 20 ls (zi 40 :: st) M := eb_E_s hk68 rfl
theorem e68_20  : eb_E L d 68 20 ls ([a2, a1, a0]) M = (eb_ev L d 127 [a0, a1, a2] M).bind (fun q => eb_E L d 68 23 ls [q.1] q.2) := eb_E_c hk68 rfl
theorem e68_23 {x : Int32} : eb_E L d 68 23 ls (zi x :: st) M = if x = 0 then eb_E L d 68 26 ls st M else eb_E L d 68 33 ls st M := eb_E_b hk68 rfl
theorem e68_26 {x : Option eb_A} : eb_E L d 68 26 [some (Sum.inr x), v1, v2, v3] (st) M = eb_E L d 68 27 [some (Sum.inr x), v1, v2, v3] (Sum.inr x :: st) M := eb_E_s hk68 rfl
theorem e68_27  : eb_E L d 68 27 ls (st) M = eb_E L d 68 29 ls (zi (-2) :: st) M := eb_E_s hk68 rfl
theorem e68_29  : eb_E L d 68 29 ls ([a1, a0]) M = (eb_ev L d 125 [a0, a1] M).bind (fun q => eb_E L d 68 32 ls [q.1] q.2) := eb_E_c hk68 rfl
theorem e68_32 {x : Int32} : eb_E L d 68 32 ls ([zi x]) M = some (zi x, M) := eb_E_r hk68 rfl
theorem e68_33 {x : Option eb_A} : eb_E L d 68 33 [some (Sum.inr x), v1, v2, v3] (st) M = eb_E L d 68 34 [some (Sum.inr x), v1, v2, v3] (Sum.inr x :: st) M := eb_E_s hk68 rfl
theorem e68_34  : eb_E L d 68 34 ls (Sum.inr (some a) :: st) (nc, ns, I, J, R) = if (eb_ty L a.1).1 = 5 then eb_E L d 68 37 ls (Sum.inr (R a 4) :: st) (nc, ns, I, J, R) else none := eb_E_iy hk68 rfl
theorem e68_37 {x : Int32} : eb_E L d 68 37 [v0, some (zi x), v2, v3] (st) M = eb_E L d 68 38 [v0, some (zi x), v2, v3] (zi x :: st) M := eb_E_s hk68 rfl
theorem e68_38 {x : Int32} : eb_E L d 68 38 ls (zi x :: Sum.inr (some a) :: st) (nc, ns, I, J, R) = if (12 ≤ (eb_ty L a.1).1 ∧ (eb_ty L a.1).1 ≤ 16) ∧ eb_in x (eb_ty L a.1).2 = true then eb_E L d 68 39 ls (Sum.inr (R a x.toNatClampNeg) :: st) (nc, ns, I, J, R) else none := eb_E_iy hk68 rfl
theorem e68_39 {x : Int32} : eb_E L d 68 39 [v0, v1, some (zi x), v3] (st) M = eb_E L d 68 40 [v0, v1, some (zi x), v3] (zi x :: st) M := eb_E_s hk68 rfl
theorem e68_40 {x : Int32} : eb_E L d 68 40 [v0, v1, v2, some (zi x)] (st) M = eb_E L d 68 41 [v0, v1, v2, some (zi x)] (zi x :: st) M := eb_E_s hk68 rfl
theorem e68_41  : eb_E L d 68 41 ls ([a2, a1, a0]) M = (eb_ev L d 19 [a0, a1, a2] M).bind (fun q => eb_E L d 68 44 ls [] q.2) := eb_E_c hk68 rfl
theorem e68_44  : eb_E L d 68 44 ls (st) M = eb_E L d 68 45 ls (zi 1 :: st) M := eb_E_s hk68 rfl
theorem e68_45 {x : Int32} : eb_E L d 68 45 ls ([zi x]) M = some (zi x, M) := eb_E_r hk68 rfl
/-! X5_set -/
theorem hk69 : eb_cd L 69 = eb_look (kt69 L) := rfl
theorem h69 (ha : (eb_ty L a.1).1 = 5) {x1 : Int32} {x2 : Int32} {l3 : Int64} : eb_ev L (d + 1) 69 [zr a, zi x1, zi x2, zl l3] M = eb_E L d 69 0 [some (zr a), some (zi x1), some (zi x2), some (zl l3), none, none] [] M := eb_ev_s rfl (eb_chk_i ha rfl)
theorem e69_0 {x : Option eb_A} : eb_E L d 69 0 [some (Sum.inr x), v1, v2, v3, v4, v5] (st) M = eb_E L d 69 1 [some (Sum.inr x), v1, v2, v3, v4, v5] (Sum.inr x :: st) M := eb_E_s hk69 rfl
theorem e69_1 {x : Int32} : eb_E L d 69 1 [v0, some (zi x), v2, v3, v4, v5] (st) M = eb_E L d 69 2 [v0, some (zi x), v2, v3, v4, v5] (zi x :: st) M := eb_E_s hk69 rfl
theorem e69_2  : eb_E L d 69 2 ls ([a1, a0]) M = (eb_ev L d 135 [a0, a1] M).bind (fun q => eb_E L d 69 5 ls [q.1] q.2) := eb_E_c hk69 rfl
theorem e69_5 {x : Int32} : eb_E L d 69 5 [v0, v1, v2, v3, v4, v5] (zi x :: st) M = eb_E L d 69 7 [v0, v1, v2, v3, v4, some (zi x)] (st) M := eb_E_s hk69 rfl
theorem e69_7 {x : Int32} : eb_E L d 69 7 [v0, v1, v2, v3, v4, some (zi x)] (st) M = eb_E L d 69 9 [v0, v1, v2, v3, v4, some (zi x)] (zi x :: st) M := eb_E_s hk69 rfl
theorem e69_9 {x : Int32} : eb_E L d 69 9 ls (zi x :: st) M = if x = 0 then eb_E L d 69 19 ls st M else eb_E L d 69 12 ls st M := eb_E_b hk69 rfl
theorem e69_12 {x : Option eb_A} : eb_E L d 69 12 [some (Sum.inr x), v1, v2, v3, v4, v5] (st) M = eb_E L d 69 13 [some (Sum.inr x), v1, v2, v3, v4, v5] (Sum.inr x :: st) M := eb_E_s hk69 rfl
theorem e69_13 {x : Int32} : eb_E L d 69 13 [v0, v1, v2, v3, v4, some (zi x)] (st) M = eb_E L d 69 15 [v0, v1, v2, v3, v4, some (zi x)] (zi x :: st) M := eb_E_s hk69 rfl
theorem e69_15  : eb_E L d 69 15 ls ([a1, a0]) M = (eb_ev L d 125 [a0, a1] M).bind (fun q => eb_E L d 69 18 ls [q.1] q.2) := eb_E_c hk69 rfl
theorem e69_18 {x : Int32} : eb_E L d 69 18 ls ([zi x]) M = some (zi x, M) := eb_E_r hk69 rfl
theorem e69_19 {x : Int32} : eb_E L d 69 19 [v0, v1, some (zi x), v3, v4, v5] (st) M = eb_E L d 69 20 [v0, v1, some (zi x), v3, v4, v5] (zi x :: st) M := eb_E_s hk69 rfl
theorem e69_20  : eb_E L d 69 20 ls (st) M = eb_E L d 69 21 ls (zi 0 :: st) M := eb_E_s hk69 rfl
theorem e69_21 {x : Option eb_A} : eb_E L d 69 21 [some (Sum.inr x), v1, v2, v3, v4, v5] (st) M = eb_E L d 69 22 [some (Sum.inr x), v1, v2, v3, v4, v5] (Sum.inr x :: st) M := eb_E_s hk69 rfl
theorem e69_22  : eb_E L d 69 22 ls (Sum.inr (some a) :: st) (nc, ns, I, J, R) = if (eb_ty L a.1).1 = 5 then eb_E L d 69 25 ls (Sum.inr (R a 4) :: st) (nc, ns, I, J, R) else none := eb_E_iy hk69 rfl
theorem e69_25 {x : Int32} : eb_E L d 69 25 [v0, some (zi x), v2, v3, v4, v5] (st) M = eb_E L d 69 26 [v0, some (zi x), v2, v3, v4, v5] (zi x :: st) M := eb_E_s hk69 rfl
theorem e69_26 {x : Int32} : eb_E L d 69 26 ls (zi x :: Sum.inr (some a) :: st) (nc, ns, I, J, R) = if (12 ≤ (eb_ty L a.1).1 ∧ (eb_ty L a.1).1 ≤ 16) ∧ eb_in x (eb_ty L a.1).2 = true then eb_E L d 69 27 ls (Sum.inr (R a x.toNatClampNeg) :: st) (nc, ns, I, J, R) else none := eb_E_iy hk69 rfl
theorem e69_27  : eb_E L d 69 27 ls (Sum.inr (some a) :: st) (nc, ns, I, J, R) = if (eb_ty L a.1).1 = 2 then eb_E L d 69 30 ls (zi (I a 1) :: st) (nc, ns, I, J, R) else none := eb_E_iy hk69 rfl
theorem e69_30  : eb_E L d 69 30 ls (st) M = eb_E L d 69 31 ls (zi 1 :: st) M := eb_E_s hk69 rfl
theorem e69_31 {x : Int32} {y : Int32} : eb_E L d 69 31 ls (zi y :: zi x :: st) M = eb_E L d 69 32 ls (zi (x - y) :: st) M := eb_E_s hk69 rfl
theorem e69_32  : eb_E L d 69 32 ls ([a2, a1, a0]) M = (eb_ev L d 127 [a0, a1, a2] M).bind (fun q => eb_E L d 69 35 ls [q.1] q.2) := eb_E_c hk69 rfl
theorem e69_35 {x : Int32} : eb_E L d 69 35 ls (zi x :: st) M = if x = 0 then eb_E L d 69 38 ls st M else eb_E L d 69 45 ls st M := eb_E_b hk69 rfl
theorem e69_38 {x : Option eb_A} : eb_E L d 69 38 [some (Sum.inr x), v1, v2, v3, v4, v5] (st) M = eb_E L d 69 39 [some (Sum.inr x), v1, v2, v3, v4, v5] (Sum.inr x :: st) M := eb_E_s hk69 rfl
theorem e69_39  : eb_E L d 69 39 ls (st) M = eb_E L d 69 41 ls (zi (-2) :: st) M := eb_E_s hk69 rfl
theorem e69_41  : eb_E L d 69 41 ls ([a1, a0]) M = (eb_ev L d 125 [a0, a1] M).bind (fun q => eb_E L d 69 44 ls [q.1] q.2) := eb_E_c hk69 rfl
theorem e69_44 {x : Int32} : eb_E L d 69 44 ls ([zi x]) M = some (zi x, M) := eb_E_r hk69 rfl
theorem e69_45 {x : Option eb_A} : eb_E L d 69 45 [some (Sum.inr x), v1, v2, v3, v4, v5] (st) M = eb_E L d 69 46 [some (Sum.inr x), v1, v2, v3, v4, v5] (Sum.inr x :: st) M := eb_E_s hk69 rfl
theorem e69_46  : eb_E L d 69 46 ls (Sum.inr (some a) :: st) (nc, ns, I, J, R) = if (eb_ty L a.1).1 = 5 then eb_E L d 69 49 ls (Sum.inr (R a 4) :: st) (nc, ns, I, J, R) else none := eb_E_iy hk69 rfl
theorem e69_49 {x : Int32} : eb_E L d 69 49 [v0, some (zi x), v2, v3, v4, v5] (st) M = eb_E L d 69 50 [v0, some (zi x), v2, v3, v4, v5] (zi x :: st) M := eb_E_s hk69 rfl
theorem e69_50 {x : Int32} : eb_E L d 69 50 ls (zi x :: Sum.inr (some a) :: st) (nc, ns, I, J, R) = if (12 ≤ (eb_ty L a.1).1 ∧ (eb_ty L a.1).1 ≤ 16) ∧ eb_in x (eb_ty L a.1).2 = true then eb_E L d 69 51 ls (Sum.inr (R a x.toNatClampNeg) :: st) (nc, ns, I, J, R) else none := eb_E_iy hk69 rfl
theorem e69_51 {x : Int32} : eb_E L d 69 51 [v0, v1, some (zi x), v3, v4, v5] (st) M = eb_E L d 69 52 [v0, v1, some (zi x), v3, v4, v5] (zi x :: st) M := eb_E_s hk69 rfl
theorem e69_52 {x : Int64} : eb_E L d 69 52 [v0, v1, v2, some (zl x), v4, v5] (st) M = eb_E L d 69 53 [v0, v1, v2, some (zl x), v4, v5] (zl x :: st) M := eb_E_s hk69 rfl
theorem e69_53  : eb_E L d 69 53 ls ([a2, a1, a0]) M = (eb_ev L d 21 [a0, a1, a2] M).bind (fun q => eb_E L d 69 56 ls [] q.2) := eb_E_c hk69 rfl
theorem e69_56  : eb_E L d 69 56 ls (st) M = eb_E L d 69 57 ls (zi 1 :: st) M := eb_E_s hk69 rfl
theorem e69_57 {x : Int32} : eb_E L d 69 57 ls ([zi x]) M = some (zi x, M) := eb_E_r hk69 rfl
/-! X5_copy -/
theorem hk70 : eb_cd L 70 = eb_look (kt70 L) := rfl
theorem h70 (ha : (eb_ty L a.1).1 = 5) {x1 : Int32} {x2 : Int32} {x3 : Int32} {x4 : Int32} {x5 : Int32} : eb_ev L (d + 1) 70 [zr a, zi x1, zi x2, zi x3, zi x4, zi x5] M = eb_E L d 70 0 [some (zr a), some (zi x1), some (zi x2), some (zi x3), some (zi x4), some (zi x5), none, none, none] [] M := eb_ev_s rfl (eb_chk_i ha rfl)
theorem e70_0 {x : Int32} : eb_E L d 70 0 [v0, some (zi x), v2, v3, v4, v5, v6, v7, v8] (st) M = eb_E L d 70 1 [v0, some (zi x), v2, v3, v4, v5, v6, v7, v8] (zi x :: st) M := eb_E_s hk70 rfl
theorem e70_1  : eb_E L d 70 1 ls ([a0]) M = (eb_ev L d 128 [a0] M).bind (fun q => eb_E L d 70 4 ls [q.1] q.2) := eb_E_c hk70 rfl
theorem e70_4 {x : Int32} : eb_E L d 70 4 ls (zi x :: st) M = if x = 0 then eb_E L d 70 14 ls st M else eb_E L d 70 7 ls st M := eb_E_b hk70 rfl
theorem e70_7 {x : Int32} : eb_E L d 70 7 [v0, v1, some (zi x), v3, v4, v5, v6, v7, v8] (st) M = eb_E L d 70 8 [v0, v1, some (zi x), v3, v4, v5, v6, v7, v8] (zi x :: st) M := eb_E_s hk70 rfl
theorem e70_8  : eb_E L d 70 8 ls ([a0]) M = (eb_ev L d 128 [a0] M).bind (fun q => eb_E L d 70 11 ls [q.1] q.2) := eb_E_c hk70 rfl
theorem e70_11 {x : Int32} : eb_E L d 70 11 ls (zi x :: st) M = if x = 0 then eb_E L d 70 14 ls st M else eb_E L d 70 21 ls st M := eb_E_b hk70 rfl
theorem e70_14 {x : Option eb_A} : eb_E L d 70 14 [some (Sum.inr x), v1, v2, v3, v4, v5, v6, v7, v8] (st) M = eb_E L d 70 15 [some (Sum.inr x), v1, v2, v3, v4, v5, v6, v7, v8] (Sum.inr x :: st) M := eb_E_s hk70 rfl
theorem e70_15  : eb_E L d 70 15 ls (st) M = eb_E L d 70 17 ls (zi (-2) :: st) M := eb_E_s hk70 rfl
theorem e70_17  : eb_E L d 70 17 ls ([a1, a0]) M = (eb_ev L d 125 [a0, a1] M).bind (fun q => eb_E L d 70 20 ls [q.1] q.2) := eb_E_c hk70 rfl
theorem e70_20 {x : Int32} : eb_E L d 70 20 ls ([zi x]) M = some (zi x, M) := eb_E_r hk70 rfl
theorem e70_21 {x : Option eb_A} : eb_E L d 70 21 [some (Sum.inr x), v1, v2, v3, v4, v5, v6, v7, v8] (st) M = eb_E L d 70 22 [some (Sum.inr x), v1, v2, v3, v4, v5, v6, v7, v8] (Sum.inr x :: st) M := eb_E_s hk70 rfl
theorem e70_22  : eb_E L d 70 22 ls (Sum.inr (some a) :: st) (nc, ns, I, J, R) = if (eb_ty L a.1).1 = 5 then eb_E L d 70 25 ls (Sum.inr (R a 4) :: st) (nc, ns, I, J, R) else none := eb_E_iy hk70 rfl
theorem e70_25 {x : Int32} : eb_E L d 70 25 [v0, some (zi x), v2, v3, v4, v5, v6, v7, v8] (st) M = eb_E L d 70 26 [v0, some (zi x), v2, v3, v4, v5, v6, v7, v8] (zi x :: st) M := eb_E_s hk70 rfl
theorem e70_26 {x : Int32} : eb_E L d 70 26 ls (zi x :: Sum.inr (some a) :: st) (nc, ns, I, J, R) = if (12 ≤ (eb_ty L a.1).1 ∧ (eb_ty L a.1).1 ≤ 16) ∧ eb_in x (eb_ty L a.1).2 = true then eb_E L d 70 27 ls (Sum.inr (R a x.toNatClampNeg) :: st) (nc, ns, I, J, R) else none := eb_E_iy hk70 rfl
theorem e70_27 {x : Option eb_A} : eb_E L d 70 27 [v0, v1, v2, v3, v4, v5, v6, v7, v8] (Sum.inr x :: st) M = eb_E L d 70 29 [v0, v1, v2, v3, v4, v5, some (Sum.inr x), v7, v8] (st) M := eb_E_s hk70 rfl
theorem e70_29 {x : Option eb_A} : eb_E L d 70 29 [some (Sum.inr x), v1, v2, v3, v4, v5, v6, v7, v8] (st) M = eb_E L d 70 30 [some (Sum.inr x), v1, v2, v3, v4, v5, v6, v7, v8] (Sum.inr x :: st) M := eb_E_s hk70 rfl
theorem e70_30  : eb_E L d 70 30 ls (Sum.inr (some a) :: st) (nc, ns, I, J, R) = if (eb_ty L a.1).1 = 5 then eb_E L d 70 33 ls (Sum.inr (R a 4) :: st) (nc, ns, I, J, R) else none := eb_E_iy hk70 rfl
theorem e70_33 {x : Int32} : eb_E L d 70 33 [v0, v1, some (zi x), v3, v4, v5, v6, v7, v8] (st) M = eb_E L d 70 34 [v0, v1, some (zi x), v3, v4, v5, v6, v7, v8] (zi x :: st) M := eb_E_s hk70 rfl
theorem e70_34 {x : Int32} : eb_E L d 70 34 ls (zi x :: Sum.inr (some a) :: st) (nc, ns, I, J, R) = if (12 ≤ (eb_ty L a.1).1 ∧ (eb_ty L a.1).1 ≤ 16) ∧ eb_in x (eb_ty L a.1).2 = true then eb_E L d 70 35 ls (Sum.inr (R a x.toNatClampNeg) :: st) (nc, ns, I, J, R) else none := eb_E_iy hk70 rfl
theorem e70_35 {x : Option eb_A} : eb_E L d 70 35 [v0, v1, v2, v3, v4, v5, v6, v7, v8] (Sum.inr x :: st) M = eb_E L d 70 37 [v0, v1, v2, v3, v4, v5, v6, some (Sum.inr x), v8] (st) M := eb_E_s hk70 rfl
theorem e70_37 {x : Option eb_A} : eb_E L d 70 37 [v0, v1, v2, v3, v4, v5, some (Sum.inr x), v7, v8] (st) M = eb_E L d 70 39 [v0, v1, v2, v3, v4, v5, some (Sum.inr x), v7, v8] (Sum.inr x :: st) M := eb_E_s hk70 rfl
theorem e70_39  : eb_E L d 70 39 ls (Sum.inr (some a) :: st) (nc, ns, I, J, R) = if (eb_ty L a.1).1 = 2 then eb_E L d 70 42 ls (zi (I a 0) :: st) (nc, ns, I, J, R) else none := eb_E_iy hk70 rfl
theorem e70_42  : eb_E L d 70 42 ls (st) M = eb_E L d 70 43 ls (zi (-1) :: st) M := eb_E_s hk70 rfl
theorem e70_43 {x : Int32} {y : Int32} : eb_E L d 70 43 ls (zi y :: zi x :: st) M = if x = y then eb_E L d 70 59 ls st M else eb_E L d 70 46 ls st M := eb_E_b hk70 rfl
theorem e70_46 {x : Option eb_A} : eb_E L d 70 46 [v0, v1, v2, v3, v4, v5, v6, some (Sum.inr x), v8] (st) M = eb_E L d 70 48 [v0, v1, v2, v3, v4, v5, v6, some (Sum.inr x), v8] (Sum.inr x :: st) M := eb_E_s hk70 rfl
theorem e70_48  : eb_E L d 70 48 ls (Sum.inr (some a) :: st) (nc, ns, I, J, R) = if (eb_ty L a.1).1 = 2 then eb_E L d 70 51 ls (zi (I a 0) :: st) (nc, ns, I, J, R) else none := eb_E_iy hk70 rfl
theorem e70_51  : eb_E L d 70 51 ls (st) M = eb_E L d 70 52 ls (zi (-1) :: st) M := eb_E_s hk70 rfl
theorem e70_52 {x : Int32} {y : Int32} : eb_E L d 70 52 ls (zi y :: zi x :: st) M = if x = y then eb_E L d 70 59 ls st M else eb_E L d 70 55 ls st M := eb_E_b hk70 rfl
theorem e70_55  : eb_E L d 70 55 ls (st) M = eb_E L d 70 56 ls (zi 1 :: st) M := eb_E_s hk70 rfl
theorem e70_56  : eb_E L d 70 56 ls (st) M = eb_E L d 70 60 ls (st) M := eb_E_s hk70 rfl
theorem e70_59  : eb_E L d 70 59 ls (st) M = eb_E L d 70 60 ls (zi 0 :: st) M := eb_E_s hk70 rfl
theorem e70_60 {x : Int32} : eb_E L d 70 60 [v0, v1, v2, v3, v4, v5, v6, v7, v8] (zi x :: st) M = eb_E L d 70 62 [v0, v1, v2, v3, v4, v5, v6, v7, some (zi x)] (st) M := eb_E_s hk70 rfl
theorem e70_62 {x : Option eb_A} : eb_E L d 70 62 [v0, v1, v2, v3, v4, v5, some (Sum.inr x), v7, v8] (st) M = eb_E L d 70 64 [v0, v1, v2, v3, v4, v5, some (Sum.inr x), v7, v8] (Sum.inr x :: st) M := eb_E_s hk70 rfl
theorem e70_64  : eb_E L d 70 64 ls ([a0]) M = (eb_ev L d 18 [a0] M).bind (fun q => eb_E L d 70 67 ls [q.1] q.2) := eb_E_c hk70 rfl
theorem e70_67 {x : Int32} : eb_E L d 70 67 ls (zi x :: st) M = if x = 0 then eb_E L d 70 70 ls st M else eb_E L d 70 96 ls st M := eb_E_b hk70 rfl
theorem e70_70 {x : Option eb_A} : eb_E L d 70 70 [v0, v1, v2, v3, v4, v5, v6, some (Sum.inr x), v8] (st) M = eb_E L d 70 72 [v0, v1, v2, v3, v4, v5, v6, some (Sum.inr x), v8] (Sum.inr x :: st) M := eb_E_s hk70 rfl
theorem e70_72  : eb_E L d 70 72 ls ([a0]) M = (eb_ev L d 18 [a0] M).bind (fun q => eb_E L d 70 75 ls [q.1] q.2) := eb_E_c hk70 rfl
theorem e70_75 {x : Int32} : eb_E L d 70 75 ls (zi x :: st) M = if x = 0 then eb_E L d 70 78 ls st M else eb_E L d 70 96 ls st M := eb_E_b hk70 rfl
theorem e70_78 {x : Int32} : eb_E L d 70 78 [v0, v1, v2, v3, v4, v5, v6, v7, some (zi x)] (st) M = eb_E L d 70 80 [v0, v1, v2, v3, v4, v5, v6, v7, some (zi x)] (zi x :: st) M := eb_E_s hk70 rfl
theorem e70_80 {x : Int32} : eb_E L d 70 80 ls (zi x :: st) M = if x = 0 then eb_E L d 70 103 ls st M else eb_E L d 70 83 ls st M := eb_E_b hk70 rfl
theorem e70_83 {x : Option eb_A} : eb_E L d 70 83 [v0, v1, v2, v3, v4, v5, some (Sum.inr x), v7, v8] (st) M = eb_E L d 70 85 [v0, v1, v2, v3, v4, v5, some (Sum.inr x), v7, v8] (Sum.inr x :: st) M := eb_E_s hk70 rfl
theorem e70_85  : eb_E L d 70 85 ls (Sum.inr (some a) :: st) (nc, ns, I, J, R) = if (eb_ty L a.1).1 = 2 then eb_E L d 70 88 ls (zi (I a 0) :: st) (nc, ns, I, J, R) else none := eb_E_iy hk70 rfl
theorem e70_88 {x : Option eb_A} : eb_E L d 70 88 [v0, v1, v2, v3, v4, v5, v6, some (Sum.inr x), v8] (st) M = eb_E L d 70 90 [v0, v1, v2, v3, v4, v5, v6, some (Sum.inr x), v8] (Sum.inr x :: st) M := eb_E_s hk70 rfl
theorem e70_90  : eb_E L d 70 90 ls (Sum.inr (some a) :: st) (nc, ns, I, J, R) = if (eb_ty L a.1).1 = 2 then eb_E L d 70 93 ls (zi (I a 0) :: st) (nc, ns, I, J, R) else none := eb_E_iy hk70 rfl
theorem e70_93 {x : Int32} {y : Int32} : eb_E L d 70 93 ls (zi y :: zi x :: st) M = if x = y then eb_E L d 70 103 ls st M else eb_E L d 70 96 ls st M := eb_E_b hk70 rfl
theorem e70_96 {x : Option eb_A} : eb_E L d 70 96 [some (Sum.inr x), v1, v2, v3, v4, v5, v6, v7, v8] (st) M = eb_E L d 70 97 [some (Sum.inr x), v1, v2, v3, v4, v5, v6, v7, v8] (Sum.inr x :: st) M := eb_E_s hk70 rfl
theorem e70_97  : eb_E L d 70 97 ls (st) M = eb_E L d 70 99 ls (zi (-3) :: st) M := eb_E_s hk70 rfl
theorem e70_99  : eb_E L d 70 99 ls ([a1, a0]) M = (eb_ev L d 125 [a0, a1] M).bind (fun q => eb_E L d 70 102 ls [q.1] q.2) := eb_E_c hk70 rfl
theorem e70_102 {x : Int32} : eb_E L d 70 102 ls ([zi x]) M = some (zi x, M) := eb_E_r hk70 rfl
theorem e70_103 {x : Int32} : eb_E L d 70 103 [v0, v1, v2, v3, v4, v5, v6, v7, some (zi x)] (st) M = eb_E L d 70 105 [v0, v1, v2, v3, v4, v5, v6, v7, some (zi x)] (zi x :: st) M := eb_E_s hk70 rfl
theorem e70_105 {x : Int32} : eb_E L d 70 105 ls (zi x :: st) M = if x = 0 then eb_E L d 70 108 ls st M else eb_E L d 70 115 ls st M := eb_E_b hk70 rfl
theorem e70_108 {x : Option eb_A} : eb_E L d 70 108 [some (Sum.inr x), v1, v2, v3, v4, v5, v6, v7, v8] (st) M = eb_E L d 70 109 [some (Sum.inr x), v1, v2, v3, v4, v5, v6, v7, v8] (Sum.inr x :: st) M := eb_E_s hk70 rfl
theorem e70_109  : eb_E L d 70 109 ls (st) M = eb_E L d 70 111 ls (zi (-4) :: st) M := eb_E_s hk70 rfl
theorem e70_111  : eb_E L d 70 111 ls ([a1, a0]) M = (eb_ev L d 125 [a0, a1] M).bind (fun q => eb_E L d 70 114 ls [q.1] q.2) := eb_E_c hk70 rfl
theorem e70_114 {x : Int32} : eb_E L d 70 114 ls ([zi x]) M = some (zi x, M) := eb_E_r hk70 rfl
theorem e70_115 {x : Option eb_A} : eb_E L d 70 115 [v0, v1, v2, v3, v4, v5, some (Sum.inr x), v7, v8] (st) M = eb_E L d 70 117 [v0, v1, v2, v3, v4, v5, some (Sum.inr x), v7, v8] (Sum.inr x :: st) M := eb_E_s hk70 rfl
theorem e70_117 {x : Int32} : eb_E L d 70 117 [v0, v1, v2, some (zi x), v4, v5, v6, v7, v8] (st) M = eb_E L d 70 118 [v0, v1, v2, some (zi x), v4, v5, v6, v7, v8] (zi x :: st) M := eb_E_s hk70 rfl
theorem e70_118 {x : Int32} : eb_E L d 70 118 [v0, v1, v2, v3, v4, some (zi x), v6, v7, v8] (st) M = eb_E L d 70 120 [v0, v1, v2, v3, v4, some (zi x), v6, v7, v8] (zi x :: st) M := eb_E_s hk70 rfl
theorem e70_120  : eb_E L d 70 120 ls ([a2, a1, a0]) M = (eb_ev L d 20 [a0, a1, a2] M).bind (fun q => eb_E L d 70 123 ls [q.1] q.2) := eb_E_c hk70 rfl
theorem e70_123 {x : Int32} : eb_E L d 70 123 ls (zi x :: st) M = if x = 0 then eb_E L d 70 138 ls st M else eb_E L d 70 126 ls st M := eb_E_b hk70 rfl
theorem e70_126 {x : Option eb_A} : eb_E L d 70 126 [v0, v1, v2, v3, v4, v5, v6, some (Sum.inr x), v8] (st) M = eb_E L d 70 128 [v0, v1, v2, v3, v4, v5, v6, some (Sum.inr x), v8] (Sum.inr x :: st) M := eb_E_s hk70 rfl
theorem e70_128 {x : Int32} : eb_E L d 70 128 [v0, v1, v2, v3, some (zi x), v5, v6, v7, v8] (st) M = eb_E L d 70 130 [v0, v1, v2, v3, some (zi x), v5, v6, v7, v8] (zi x :: st) M := eb_E_s hk70 rfl
theorem e70_130 {x : Int32} : eb_E L d 70 130 [v0, v1, v2, v3, v4, some (zi x), v6, v7, v8] (st) M = eb_E L d 70 132 [v0, v1, v2, v3, v4, some (zi x), v6, v7, v8] (zi x :: st) M := eb_E_s hk70 rfl
theorem e70_132  : eb_E L d 70 132 ls ([a2, a1, a0]) M = (eb_ev L d 20 [a0, a1, a2] M).bind (fun q => eb_E L d 70 135 ls [q.1] q.2) := eb_E_c hk70 rfl
theorem e70_135 {x : Int32} : eb_E L d 70 135 ls (zi x :: st) M = if x = 0 then eb_E L d 70 138 ls st M else eb_E L d 70 145 ls st M := eb_E_b hk70 rfl
theorem e70_138 {x : Option eb_A} : eb_E L d 70 138 [some (Sum.inr x), v1, v2, v3, v4, v5, v6, v7, v8] (st) M = eb_E L d 70 139 [some (Sum.inr x), v1, v2, v3, v4, v5, v6, v7, v8] (Sum.inr x :: st) M := eb_E_s hk70 rfl
theorem e70_139  : eb_E L d 70 139 ls (st) M = eb_E L d 70 141 ls (zi (-2) :: st) M := eb_E_s hk70 rfl
theorem e70_141  : eb_E L d 70 141 ls ([a1, a0]) M = (eb_ev L d 125 [a0, a1] M).bind (fun q => eb_E L d 70 144 ls [q.1] q.2) := eb_E_c hk70 rfl
theorem e70_144 {x : Int32} : eb_E L d 70 144 ls ([zi x]) M = some (zi x, M) := eb_E_r hk70 rfl
theorem e70_145 {x : Option eb_A} : eb_E L d 70 145 [v0, v1, v2, v3, v4, v5, some (Sum.inr x), v7, v8] (st) M = eb_E L d 70 147 [v0, v1, v2, v3, v4, v5, some (Sum.inr x), v7, v8] (Sum.inr x :: st) M := eb_E_s hk70 rfl
theorem e70_147  : eb_E L d 70 147 ls (Sum.inr (some a) :: st) (nc, ns, I, J, R) = if (eb_ty L a.1).1 = 2 then eb_E L d 70 150 ls (Sum.inr (R a 2) :: st) (nc, ns, I, J, R) else none := eb_E_iy hk70 rfl
theorem e70_150 {x : Int32} : eb_E L d 70 150 [v0, v1, v2, some (zi x), v4, v5, v6, v7, v8] (st) M = eb_E L d 70 151 [v0, v1, v2, some (zi x), v4, v5, v6, v7, v8] (zi x :: st) M := eb_E_s hk70 rfl
theorem e70_151 {x : Option eb_A} : eb_E L d 70 151 [v0, v1, v2, v3, v4, v5, v6, some (Sum.inr x), v8] (st) M = eb_E L d 70 153 [v0, v1, v2, v3, v4, v5, v6, some (Sum.inr x), v8] (Sum.inr x :: st) M := eb_E_s hk70 rfl
theorem e70_153  : eb_E L d 70 153 ls (Sum.inr (some a) :: st) (nc, ns, I, J, R) = if (eb_ty L a.1).1 = 2 then eb_E L d 70 156 ls (Sum.inr (R a 2) :: st) (nc, ns, I, J, R) else none := eb_E_iy hk70 rfl
theorem e70_156 {x : Int32} : eb_E L d 70 156 [v0, v1, v2, v3, some (zi x), v5, v6, v7, v8] (st) M = eb_E L d 70 158 [v0, v1, v2, v3, some (zi x), v5, v6, v7, v8] (zi x :: st) M := eb_E_s hk70 rfl
theorem e70_158 {x : Int32} : eb_E L d 70 158 [v0, v1, v2, v3, v4, some (zi x), v6, v7, v8] (st) M = eb_E L d 70 160 [v0, v1, v2, v3, v4, some (zi x), v6, v7, v8] (zi x :: st) M := eb_E_s hk70 rfl
theorem e70_160  : eb_E L d 70 160 ls ([a4, a3, a2, a1, a0]) M = (eb_ev L d 904 [a0, a1, a2, a3, a4] M).bind (fun q => eb_E L d 70 163 ls [] q.2) := eb_E_c hk70 rfl
theorem e70_163 {x : Int32} : eb_E L d 70 163 [v0, v1, v2, v3, v4, some (zi x), v6, v7, v8] (st) M = eb_E L d 70 165 [v0, v1, v2, v3, v4, some (zi x), v6, v7, v8] (zi x :: st) M := eb_E_s hk70 rfl
theorem e70_165 {x : Int32} : eb_E L d 70 165 ls ([zi x]) M = some (zi x, M) := eb_E_r hk70 rfl
/-! X5_element -/
theorem hk71 : eb_cd L 71 = eb_look (kt71 L) := rfl
theorem h71 (ha : (eb_ty L a.1).1 = 5) {x1 : Int32} {x2 : Int32} : eb_ev L (d + 1) 71 [zr a, zi x1, zi x2] M = eb_E L d 71 0 [some (zr a), some (zi x1), some (zi x2)] [] M := eb_ev_s rfl (eb_chk_i ha rfl)
theorem e71_0 {x : Int32} : eb_E L d 71 0 [v0, some (zi x), v2] (st) M = eb_E L d 71 1 [v0, some (zi x), v2] (zi x :: st) M := eb_E_s hk71 rfl
theorem e71_1  : eb_E L d 71 1 ls ([a0]) M = (eb_ev L d 128 [a0] M).bind (fun q => eb_E L d 71 4 ls [q.1] q.2) := eb_E_c hk71 rfl
theorem e71_4 {x : Int32} : eb_E L d 71 4 ls (zi x :: st) M = if x = 0 then eb_E L d 71 38 ls st M else eb_E L d 71 7 ls st M := eb_E_b hk71 rfl
theorem e71_7 {x : Option eb_A} : eb_E L d 71 7 [some (Sum.inr x), v1, v2] (st) M = eb_E L d 71 8 [some (Sum.inr x), v1, v2] (Sum.inr x :: st) M := eb_E_s hk71 rfl
theorem e71_8  : eb_E L d 71 8 ls (Sum.inr (some a) :: st) (nc, ns, I, J, R) = if (eb_ty L a.1).1 = 5 then eb_E L d 71 11 ls (Sum.inr (R a 4) :: st) (nc, ns, I, J, R) else none := eb_E_iy hk71 rfl
theorem e71_11 {x : Int32} : eb_E L d 71 11 [v0, some (zi x), v2] (st) M = eb_E L d 71 12 [v0, some (zi x), v2] (zi x :: st) M := eb_E_s hk71 rfl
theorem e71_12 {x : Int32} : eb_E L d 71 12 ls (zi x :: Sum.inr (some a) :: st) (nc, ns, I, J, R) = if (12 ≤ (eb_ty L a.1).1 ∧ (eb_ty L a.1).1 ≤ 16) ∧ eb_in x (eb_ty L a.1).2 = true then eb_E L d 71 13 ls (Sum.inr (R a x.toNatClampNeg) :: st) (nc, ns, I, J, R) else none := eb_E_iy hk71 rfl
theorem e71_13  : eb_E L d 71 13 ls ([a0]) M = (eb_ev L d 17 [a0] M).bind (fun q => eb_E L d 71 16 ls [q.1] q.2) := eb_E_c hk71 rfl
theorem e71_16 {x : Int32} : eb_E L d 71 16 ls (zi x :: st) M = if x = 0 then eb_E L d 71 38 ls st M else eb_E L d 71 19 ls st M := eb_E_b hk71 rfl
theorem e71_19 {x : Int32} : eb_E L d 71 19 [v0, v1, some (zi x)] (st) M = eb_E L d 71 20 [v0, v1, some (zi x)] (zi x :: st) M := eb_E_s hk71 rfl
theorem e71_20  : eb_E L d 71 20 ls (st) M = eb_E L d 71 21 ls (zi 0 :: st) M := eb_E_s hk71 rfl
theorem e71_21 {x : Option eb_A} : eb_E L d 71 21 [some (Sum.inr x), v1, v2] (st) M = eb_E L d 71 22 [some (Sum.inr x), v1, v2] (Sum.inr x :: st) M := eb_E_s hk71 rfl
theorem e71_22  : eb_E L d 71 22 ls (Sum.inr (some a) :: st) (nc, ns, I, J, R) = if (eb_ty L a.1).1 = 5 then eb_E L d 71 25 ls (Sum.inr (R a 4) :: st) (nc, ns, I, J, R) else none := eb_E_iy hk71 rfl
theorem e71_25 {x : Int32} : eb_E L d 71 25 [v0, some (zi x), v2] (st) M = eb_E L d 71 26 [v0, some (zi x), v2] (zi x :: st) M := eb_E_s hk71 rfl
theorem e71_26 {x : Int32} : eb_E L d 71 26 ls (zi x :: Sum.inr (some a) :: st) (nc, ns, I, J, R) = if (12 ≤ (eb_ty L a.1).1 ∧ (eb_ty L a.1).1 ≤ 16) ∧ eb_in x (eb_ty L a.1).2 = true then eb_E L d 71 27 ls (Sum.inr (R a x.toNatClampNeg) :: st) (nc, ns, I, J, R) else none := eb_E_iy hk71 rfl
theorem e71_27  : eb_E L d 71 27 ls (Sum.inr (some a) :: st) (nc, ns, I, J, R) = if (eb_ty L a.1).1 = 2 then eb_E L d 71 30 ls (zi (I a 1) :: st) (nc, ns, I, J, R) else none := eb_E_iy hk71 rfl
theorem e71_30  : eb_E L d 71 30 ls (st) M = eb_E L d 71 31 ls (zi 1 :: st) M := eb_E_s hk71 rfl
theorem e71_31 {x : Int32} {y : Int32} : eb_E L d 71 31 ls (zi y :: zi x :: st) M = eb_E L d 71 32 ls (zi (x - y) :: st) M := eb_E_s hk71 rfl
theorem e71_32  : eb_E L d 71 32 ls ([a2, a1, a0]) M = (eb_ev L d 127 [a0, a1, a2] M).bind (fun q => eb_E L d 71 35 ls [q.1] q.2) := eb_E_c hk71 rfl
theorem e71_35 {x : Int32} : eb_E L d 71 35 ls (zi x :: st) M = if x = 0 then eb_E L d 71 38 ls st M else eb_E L d 71 40 ls st M := eb_E_b hk71 rfl
theorem e71_38  : eb_E L d 71 38 ls (st) M = eb_E L d 71 39 ls (zl 0 :: st) M := eb_E_s hk71 rfl
theorem e71_39 {x : Int64} : eb_E L d 71 39 ls ([zl x]) M = some (zl x, M) := eb_E_r hk71 rfl
theorem e71_40 {x : Option eb_A} : eb_E L d 71 40 [some (Sum.inr x), v1, v2] (st) M = eb_E L d 71 41 [some (Sum.inr x), v1, v2] (Sum.inr x :: st) M := eb_E_s hk71 rfl
theorem e71_41  : eb_E L d 71 41 ls (Sum.inr (some a) :: st) (nc, ns, I, J, R) = if (eb_ty L a.1).1 = 5 then eb_E L d 71 44 ls (Sum.inr (R a 4) :: st) (nc, ns, I, J, R) else none := eb_E_iy hk71 rfl
theorem e71_44 {x : Int32} : eb_E L d 71 44 [v0, some (zi x), v2] (st) M = eb_E L d 71 45 [v0, some (zi x), v2] (zi x :: st) M := eb_E_s hk71 rfl
theorem e71_45 {x : Int32} : eb_E L d 71 45 ls (zi x :: Sum.inr (some a) :: st) (nc, ns, I, J, R) = if (12 ≤ (eb_ty L a.1).1 ∧ (eb_ty L a.1).1 ≤ 16) ∧ eb_in x (eb_ty L a.1).2 = true then eb_E L d 71 46 ls (Sum.inr (R a x.toNatClampNeg) :: st) (nc, ns, I, J, R) else none := eb_E_iy hk71 rfl
theorem e71_46  : eb_E L d 71 46 ls (Sum.inr (some a) :: st) (nc, ns, I, J, R) = if (eb_ty L a.1).1 = 2 then eb_E L d 71 49 ls (Sum.inr (R a 2) :: st) (nc, ns, I, J, R) else none := eb_E_iy hk71 rfl
theorem e71_49 {x : Int32} : eb_E L d 71 49 [v0, v1, some (zi x)] (st) M = eb_E L d 71 50 [v0, v1, some (zi x)] (zi x :: st) M := eb_E_s hk71 rfl
theorem e71_50 {x : Int32} : eb_E L d 71 50 ls (zi x :: Sum.inr (some a) :: st) (nc, ns, I, J, R) = if (eb_ty L a.1).1 = 11 ∧ eb_in x (eb_ty L a.1).2 = true then eb_E L d 71 51 ls (zl (J a x.toNatClampNeg) :: st) (nc, ns, I, J, R) else none := eb_E_iy hk71 rfl
theorem e71_51 {x : Int64} : eb_E L d 71 51 ls ([zl x]) M = some (zl x, M) := eb_E_r hk71 rfl
/-! X5_holds -/
theorem hk72 : eb_cd L 72 = eb_look (kt72 L) := rfl
theorem h72 (ha : (eb_ty L a.1).1 = 5) {x1 : Int32} : eb_ev L (d + 1) 72 [zr a, zi x1] M = eb_E L d 72 0 [some (zr a), some (zi x1)] [] M := eb_ev_s rfl (eb_chk_i ha rfl)
theorem e72_0 {x : Int32} : eb_E L d 72 0 [v0, some (zi x)] (st) M = eb_E L d 72 1 [v0, some (zi x)] (zi x :: st) M := eb_E_s hk72 rfl
theorem e72_1  : eb_E L d 72 1 ls ([a0]) M = (eb_ev L d 128 [a0] M).bind (fun q => eb_E L d 72 4 ls [q.1] q.2) := eb_E_c hk72 rfl
theorem e72_4 {x : Int32} : eb_E L d 72 4 ls (zi x :: st) M = if x = 0 then eb_E L d 72 19 ls st M else eb_E L d 72 7 ls st M := eb_E_b hk72 rfl
theorem e72_7 {x : Option eb_A} : eb_E L d 72 7 [some (Sum.inr x), v1] (st) M = eb_E L d 72 8 [some (Sum.inr x), v1] (Sum.inr x :: st) M := eb_E_s hk72 rfl
theorem e72_8  : eb_E L d 72 8 ls (Sum.inr (some a) :: st) (nc, ns, I, J, R) = if (eb_ty L a.1).1 = 5 then eb_E L d 72 11 ls (Sum.inr (R a 4) :: st) (nc, ns, I, J, R) else none := eb_E_iy hk72 rfl
theorem e72_11 {x : Int32} : eb_E L d 72 11 [v0, some (zi x)] (st) M = eb_E L d 72 12 [v0, some (zi x)] (zi x :: st) M := eb_E_s hk72 rfl
theorem e72_12 {x : Int32} : eb_E L d 72 12 ls (zi x :: Sum.inr (some a) :: st) (nc, ns, I, J, R) = if (12 ≤ (eb_ty L a.1).1 ∧ (eb_ty L a.1).1 ≤ 16) ∧ eb_in x (eb_ty L a.1).2 = true then eb_E L d 72 13 ls (Sum.inr (R a x.toNatClampNeg) :: st) (nc, ns, I, J, R) else none := eb_E_iy hk72 rfl
theorem e72_13  : eb_E L d 72 13 ls (Sum.inr (some a) :: st) (nc, ns, I, J, R) = if (eb_ty L a.1).1 = 2 then eb_E L d 72 16 ls (zi (I a 0) :: st) (nc, ns, I, J, R) else none := eb_E_iy hk72 rfl
theorem e72_16  : eb_E L d 72 16 ls (st) M = eb_E L d 72 20 ls (st) M := eb_E_s hk72 rfl
theorem e72_19  : eb_E L d 72 19 ls (st) M = eb_E L d 72 20 ls (zi (-1) :: st) M := eb_E_s hk72 rfl
theorem e72_20 {x : Int32} : eb_E L d 72 20 ls ([zi x]) M = some (zi x, M) := eb_E_r hk72 rfl
/-! X5_show -/
theorem hk73 : eb_cd L 73 = eb_look (kt73 L) := rfl
theorem h73 (ha : (eb_ty L a.1).1 = 5) {x1 : Int32} {x2 : Int32} : eb_ev L (d + 1) 73 [zr a, zi x1, zi x2] M = eb_E L d 73 0 [some (zr a), some (zi x1), some (zi x2)] [] M := eb_ev_s rfl (eb_chk_i ha rfl)
theorem e73_0 {x : Int32} : eb_E L d 73 0 [v0, some (zi x), v2] (st) M = eb_E L d 73 1 [v0, some (zi x), v2] (zi x :: st) M := eb_E_s hk73 rfl
theorem e73_1  : eb_E L d 73 1 ls ([a0]) M = (eb_ev L d 128 [a0] M).bind (fun q => eb_E L d 73 4 ls [q.1] q.2) := eb_E_c hk73 rfl
theorem e73_4 {x : Int32} : eb_E L d 73 4 ls (zi x :: st) M = if x = 0 then eb_E L d 73 15 ls st M else eb_E L d 73 7 ls st M := eb_E_b hk73 rfl
theorem e73_7 {x : Option eb_A} : eb_E L d 73 7 [some (Sum.inr x), v1, v2] (st) M = eb_E L d 73 8 [some (Sum.inr x), v1, v2] (Sum.inr x :: st) M := eb_E_s hk73 rfl
theorem e73_8 {x : Int32} : eb_E L d 73 8 [v0, v1, some (zi x)] (st) M = eb_E L d 73 9 [v0, v1, some (zi x)] (zi x :: st) M := eb_E_s hk73 rfl
theorem e73_9  : eb_E L d 73 9 ls ([a1, a0]) M = (eb_ev L d 133 [a0, a1] M).bind (fun q => eb_E L d 73 12 ls [q.1] q.2) := eb_E_c hk73 rfl
theorem e73_12 {x : Int32} : eb_E L d 73 12 ls (zi x :: st) M = if x = 0 then eb_E L d 73 15 ls st M else eb_E L d 73 22 ls st M := eb_E_b hk73 rfl
theorem e73_15 {x : Option eb_A} : eb_E L d 73 15 [some (Sum.inr x), v1, v2] (st) M = eb_E L d 73 16 [some (Sum.inr x), v1, v2] (Sum.inr x :: st) M := eb_E_s hk73 rfl
theorem e73_16  : eb_E L d 73 16 ls (st) M = eb_E L d 73 18 ls (zi (-2) :: st) M := eb_E_s hk73 rfl
theorem e73_18  : eb_E L d 73 18 ls ([a1, a0]) M = (eb_ev L d 125 [a0, a1] M).bind (fun q => eb_E L d 73 21 ls [q.1] q.2) := eb_E_c hk73 rfl
theorem e73_21 {x : Int32} : eb_E L d 73 21 ls ([zi x]) M = some (zi x, M) := eb_E_r hk73 rfl
theorem e73_22 {x : Option eb_A} : eb_E L d 73 22 [some (Sum.inr x), v1, v2] (st) M = eb_E L d 73 23 [some (Sum.inr x), v1, v2] (Sum.inr x :: st) M := eb_E_s hk73 rfl
theorem e73_23  : eb_E L d 73 23 ls (Sum.inr (some a) :: st) (nc, ns, I, J, R) = if (eb_ty L a.1).1 = 5 then eb_E L d 73 26 ls (Sum.inr (R a 4) :: st) (nc, ns, I, J, R) else none := eb_E_iy hk73 rfl
theorem e73_26 {x : Int32} : eb_E L d 73 26 [v0, some (zi x), v2] (st) M = eb_E L d 73 27 [v0, some (zi x), v2] (zi x :: st) M := eb_E_s hk73 rfl
theorem e73_27 {x : Int32} : eb_E L d 73 27 ls (zi x :: Sum.inr (some a) :: st) (nc, ns, I, J, R) = if (12 ≤ (eb_ty L a.1).1 ∧ (eb_ty L a.1).1 ≤ 16) ∧ eb_in x (eb_ty L a.1).2 = true then eb_E L d 73 28 ls (Sum.inr (R a x.toNatClampNeg) :: st) (nc, ns, I, J, R) else none := eb_E_iy hk73 rfl
theorem e73_28 {x : Int32} : eb_E L d 73 28 [v0, v1, some (zi x)] (st) M = eb_E L d 73 29 [v0, v1, some (zi x)] (zi x :: st) M := eb_E_s hk73 rfl
theorem e73_29  : eb_E L d 73 29 ls (st) M = eb_E L d 73 30 ls (zi (-1) :: st) M := eb_E_s hk73 rfl
theorem e73_30 {x : Int32} {y : Int32} : eb_E L d 73 30 ls (zi y :: zi x :: st) M = if x = y then eb_E L d 73 33 ls st M else eb_E L d 73 37 ls st M := eb_E_b hk73 rfl
theorem e73_33  : eb_E L d 73 33 ls (st) M = eb_E L d 73 34 ls (zi (-1) :: st) M := eb_E_s hk73 rfl
theorem e73_34  : eb_E L d 73 34 ls (st) M = eb_E L d 73 41 ls (st) M := eb_E_s hk73 rfl
theorem e73_37  : eb_E L d 73 37 ls (st) M = eb_E L d 73 39 ls (zi 10 :: st) M := eb_E_s hk73 rfl
theorem e73_39 {x : Int32} : eb_E L d 73 39 [v0, v1, some (zi x)] (st) M = eb_E L d 73 40 [v0, v1, some (zi x)] (zi x :: st) M := eb_E_s hk73 rfl
theorem e73_40 {x : Int32} {y : Int32} : eb_E L d 73 40 ls (zi y :: zi x :: st) M = eb_E L d 73 41 ls (zi (x + y) :: st) M := eb_E_s hk73 rfl
theorem e73_41 {x : Int32} : eb_E L d 73 41 ls (zi x :: Sum.inr (some a) :: st) (nc, ns, I, J, R) = if (eb_ty L a.1).1 = 2 then eb_E L d 73 44 ls (st) (nc, ns, eb_u I a 0 x, J, R) else none := eb_E_iy hk73 rfl
theorem e73_44  : eb_E L d 73 44 ls (st) M = eb_E L d 73 45 ls (zi 1 :: st) M := eb_E_s hk73 rfl
theorem e73_45 {x : Int32} : eb_E L d 73 45 ls ([zi x]) M = some (zi x, M) := eb_E_r hk73 rfl
/-! X5_says -/
theorem hk74 : eb_cd L 74 = eb_look (kt74 L) := rfl
theorem h74 (ha : (eb_ty L a.1).1 = 5) {x1 : Int32} {x2 : Int32} : eb_ev L (d + 1) 74 [zr a, zi x1, zi x2] M = eb_E L d 74 0 [some (zr a), some (zi x1), some (zi x2), none, none, none] [] M := eb_ev_s rfl (eb_chk_i ha rfl)
theorem e74_0 {x : Int32} : eb_E L d 74 0 [v0, some (zi x), v2, v3, v4, v5] (st) M = eb_E L d 74 1 [v0, some (zi x), v2, v3, v4, v5] (zi x :: st) M := eb_E_s hk74 rfl
theorem e74_1  : eb_E L d 74 1 ls ([a0]) M = (eb_ev L d 128 [a0] M).bind (fun q => eb_E L d 74 4 ls [q.1] q.2) := eb_E_c hk74 rfl
theorem e74_4 {x : Int32} : eb_E L d 74 4 ls (zi x :: st) M = if x = 0 then eb_E L d 74 16 ls st M else eb_E L d 74 7 ls st M := eb_E_b hk74 rfl
theorem e74_7 {x : Int32} : eb_E L d 74 7 [v0, v1, some (zi x), v3, v4, v5] (st) M = eb_E L d 74 8 [v0, v1, some (zi x), v3, v4, v5] (zi x :: st) M := eb_E_s hk74 rfl
theorem e74_8  : eb_E L d 74 8 ls (st) M = eb_E L d 74 9 ls (zi 0 :: st) M := eb_E_s hk74 rfl
theorem e74_9  : eb_E L d 74 9 ls (st) M = eb_E L d 74 10 ls (zi 5 :: st) M := eb_E_s hk74 rfl
theorem e74_10  : eb_E L d 74 10 ls ([a2, a1, a0]) M = (eb_ev L d 127 [a0, a1, a2] M).bind (fun q => eb_E L d 74 13 ls [q.1] q.2) := eb_E_c hk74 rfl
theorem e74_13 {x : Int32} : eb_E L d 74 13 ls (zi x :: st) M = if x = 0 then eb_E L d 74 16 ls st M else eb_E L d 74 23 ls st M := eb_E_b hk74 rfl
theorem e74_16 {x : Option eb_A} : eb_E L d 74 16 [some (Sum.inr x), v1, v2, v3, v4, v5] (st) M = eb_E L d 74 17 [some (Sum.inr x), v1, v2, v3, v4, v5] (Sum.inr x :: st) M := eb_E_s hk74 rfl
theorem e74_17  : eb_E L d 74 17 ls (st) M = eb_E L d 74 19 ls (zi (-2) :: st) M := eb_E_s hk74 rfl
theorem e74_19  : eb_E L d 74 19 ls ([a1, a0]) M = (eb_ev L d 125 [a0, a1] M).bind (fun q => eb_E L d 74 22 ls [q.1] q.2) := eb_E_c hk74 rfl
theorem e74_22 {x : Int32} : eb_E L d 74 22 ls ([zi x]) M = some (zi x, M) := eb_E_r hk74 rfl
theorem e74_23 {x : Option eb_A} : eb_E L d 74 23 [some (Sum.inr x), v1, v2, v3, v4, v5] (st) M = eb_E L d 74 24 [some (Sum.inr x), v1, v2, v3, v4, v5] (Sum.inr x :: st) M := eb_E_s hk74 rfl
theorem e74_24  : eb_E L d 74 24 ls (Sum.inr (some a) :: st) (nc, ns, I, J, R) = if (eb_ty L a.1).1 = 5 then eb_E L d 74 27 ls (Sum.inr (R a 4) :: st) (nc, ns, I, J, R) else none := eb_E_iy hk74 rfl
theorem e74_27 {x : Int32} : eb_E L d 74 27 [v0, some (zi x), v2, v3, v4, v5] (st) M = eb_E L d 74 28 [v0, some (zi x), v2, v3, v4, v5] (zi x :: st) M := eb_E_s hk74 rfl
theorem e74_28 {x : Int32} : eb_E L d 74 28 ls (zi x :: Sum.inr (some a) :: st) (nc, ns, I, J, R) = if (12 ≤ (eb_ty L a.1).1 ∧ (eb_ty L a.1).1 ≤ 16) ∧ eb_in x (eb_ty L a.1).2 = true then eb_E L d 74 29 ls (Sum.inr (R a x.toNatClampNeg) :: st) (nc, ns, I, J, R) else none := eb_E_iy hk74 rfl
theorem e74_29 {x : Option eb_A} : eb_E L d 74 29 [v0, v1, v2, v3, v4, v5] (Sum.inr x :: st) M = eb_E L d 74 30 [v0, v1, v2, some (Sum.inr x), v4, v5] (st) M := eb_E_s hk74 rfl
theorem e74_30 {x : Option eb_A} : eb_E L d 74 30 [v0, v1, v2, some (Sum.inr x), v4, v5] (st) M = eb_E L d 74 31 [v0, v1, v2, some (Sum.inr x), v4, v5] (Sum.inr x :: st) M := eb_E_s hk74 rfl
theorem e74_31  : eb_E L d 74 31 ls ([a0]) M = (eb_ev L d 17 [a0] M).bind (fun q => eb_E L d 74 34 ls [q.1] q.2) := eb_E_c hk74 rfl
theorem e74_34 {x : Int32} : eb_E L d 74 34 ls (zi x :: st) M = if x = 0 then eb_E L d 74 44 ls st M else eb_E L d 74 37 ls st M := eb_E_b hk74 rfl
theorem e74_37 {x : Option eb_A} : eb_E L d 74 37 [some (Sum.inr x), v1, v2, v3, v4, v5] (st) M = eb_E L d 74 38 [some (Sum.inr x), v1, v2, v3, v4, v5] (Sum.inr x :: st) M := eb_E_s hk74 rfl
theorem e74_38  : eb_E L d 74 38 ls (st) M = eb_E L d 74 40 ls (zi (-3) :: st) M := eb_E_s hk74 rfl
theorem e74_40  : eb_E L d 74 40 ls ([a1, a0]) M = (eb_ev L d 125 [a0, a1] M).bind (fun q => eb_E L d 74 43 ls [q.1] q.2) := eb_E_c hk74 rfl
theorem e74_43 {x : Int32} : eb_E L d 74 43 ls ([zi x]) M = some (zi x, M) := eb_E_r hk74 rfl
theorem e74_44 {x : Option eb_A} : eb_E L d 74 44 [v0, v1, v2, some (Sum.inr x), v4, v5] (st) M = eb_E L d 74 45 [v0, v1, v2, some (Sum.inr x), v4, v5] (Sum.inr x :: st) M := eb_E_s hk74 rfl
theorem e74_45  : eb_E L d 74 45 ls (Sum.inr (some a) :: st) (nc, ns, I, J, R) = if (eb_ty L a.1).1 = 2 then eb_E L d 74 48 ls (zi (I a 0) :: st) (nc, ns, I, J, R) else none := eb_E_iy hk74 rfl
theorem e74_48  : eb_E L d 74 48 ls (st) M = eb_E L d 74 50 ls (zi 10 :: st) M := eb_E_s hk74 rfl
theorem e74_50 {x : Int32} {y : Int32} : eb_E L d 74 50 ls (zi y :: zi x :: st) M = eb_E L d 74 51 ls (zi (x - y) :: st) M := eb_E_s hk74 rfl
theorem e74_51 {x : Int32} : eb_E L d 74 51 [v0, v1, v2, v3, v4, v5] (zi x :: st) M = eb_E L d 74 53 [v0, v1, v2, v3, some (zi x), v5] (st) M := eb_E_s hk74 rfl
theorem e74_53 {x : Option eb_A} : eb_E L d 74 53 [some (Sum.inr x), v1, v2, v3, v4, v5] (st) M = eb_E L d 74 54 [some (Sum.inr x), v1, v2, v3, v4, v5] (Sum.inr x :: st) M := eb_E_s hk74 rfl
theorem e74_54 {x : Int32} : eb_E L d 74 54 [v0, v1, v2, v3, some (zi x), v5] (st) M = eb_E L d 74 56 [v0, v1, v2, v3, some (zi x), v5] (zi x :: st) M := eb_E_s hk74 rfl
theorem e74_56  : eb_E L d 74 56 ls ([a1, a0]) M = (eb_ev L d 132 [a0, a1] M).bind (fun q => eb_E L d 74 59 ls [q.1] q.2) := eb_E_c hk74 rfl
theorem e74_59 {x : Int32} : eb_E L d 74 59 ls (zi x :: st) M = if x = 0 then eb_E L d 74 62 ls st M else eb_E L d 74 69 ls st M := eb_E_b hk74 rfl
theorem e74_62 {x : Option eb_A} : eb_E L d 74 62 [some (Sum.inr x), v1, v2, v3, v4, v5] (st) M = eb_E L d 74 63 [some (Sum.inr x), v1, v2, v3, v4, v5] (Sum.inr x :: st) M := eb_E_s hk74 rfl
theorem e74_63  : eb_E L d 74 63 ls (st) M = eb_E L d 74 65 ls (zi (-4) :: st) M := eb_E_s hk74 rfl
theorem e74_65  : eb_E L d 74 65 ls ([a1, a0]) M = (eb_ev L d 125 [a0, a1] M).bind (fun q => eb_E L d 74 68 ls [q.1] q.2) := eb_E_c hk74 rfl
theorem e74_68 {x : Int32} : eb_E L d 74 68 ls ([zi x]) M = some (zi x, M) := eb_E_r hk74 rfl
theorem e74_69 {x : Option eb_A} : eb_E L d 74 69 [some (Sum.inr x), v1, v2, v3, v4, v5] (st) M = eb_E L d 74 70 [some (Sum.inr x), v1, v2, v3, v4, v5] (Sum.inr x :: st) M := eb_E_s hk74 rfl
theorem e74_70  : eb_E L d 74 70 ls (Sum.inr (some a) :: st) (nc, ns, I, J, R) = if (eb_ty L a.1).1 = 5 then eb_E L d 74 73 ls (Sum.inr (R a 0) :: st) (nc, ns, I, J, R) else none := eb_E_iy hk74 rfl
theorem e74_73  : eb_E L d 74 73 ls (Sum.inr (some a) :: st) (nc, ns, I, J, R) = if (eb_ty L a.1).1 = 4 then eb_E L d 74 76 ls (Sum.inr (R a 1) :: st) (nc, ns, I, J, R) else none := eb_E_iy hk74 rfl
theorem e74_76 {x : Int32} : eb_E L d 74 76 [v0, v1, v2, v3, some (zi x), v5] (st) M = eb_E L d 74 78 [v0, v1, v2, v3, some (zi x), v5] (zi x :: st) M := eb_E_s hk74 rfl
theorem e74_78 {x : Int32} : eb_E L d 74 78 ls (zi x :: Sum.inr (some a) :: st) (nc, ns, I, J, R) = if (12 ≤ (eb_ty L a.1).1 ∧ (eb_ty L a.1).1 ≤ 16) ∧ eb_in x (eb_ty L a.1).2 = true then eb_E L d 74 79 ls (Sum.inr (R a x.toNatClampNeg) :: st) (nc, ns, I, J, R) else none := eb_E_iy hk74 rfl
theorem e74_79 {x : Option eb_A} : eb_E L d 74 79 [v0, v1, v2, v3, v4, v5] (Sum.inr x :: st) M = eb_E L d 74 81 [v0, v1, v2, v3, v4, some (Sum.inr x)] (st) M := eb_E_s hk74 rfl
theorem e74_81 {x : Option eb_A} : eb_E L d 74 81 [v0, v1, v2, v3, v4, some (Sum.inr x)] (st) M = eb_E L d 74 83 [v0, v1, v2, v3, v4, some (Sum.inr x)] (Sum.inr x :: st) M := eb_E_s hk74 rfl
theorem e74_83 {x : Int32} : eb_E L d 74 83 [v0, v1, some (zi x), v3, v4, v5] (st) M = eb_E L d 74 84 [v0, v1, some (zi x), v3, v4, v5] (zi x :: st) M := eb_E_s hk74 rfl
theorem e74_84  : eb_E L d 74 84 ls ([a1, a0]) M = (eb_ev L d 2 [a0, a1] M).bind (fun q => eb_E L d 74 87 ls [q.1] q.2) := eb_E_c hk74 rfl
theorem e74_87 {x : Int32} : eb_E L d 74 87 ls (zi x :: st) M = if x = 0 then eb_E L d 74 90 ls st M else eb_E L d 74 97 ls st M := eb_E_b hk74 rfl
theorem e74_90 {x : Option eb_A} : eb_E L d 74 90 [some (Sum.inr x), v1, v2, v3, v4, v5] (st) M = eb_E L d 74 91 [some (Sum.inr x), v1, v2, v3, v4, v5] (Sum.inr x :: st) M := eb_E_s hk74 rfl
theorem e74_91  : eb_E L d 74 91 ls (st) M = eb_E L d 74 93 ls (zi (-3) :: st) M := eb_E_s hk74 rfl
theorem e74_93  : eb_E L d 74 93 ls ([a1, a0]) M = (eb_ev L d 125 [a0, a1] M).bind (fun q => eb_E L d 74 96 ls [q.1] q.2) := eb_E_c hk74 rfl
theorem e74_96 {x : Int32} : eb_E L d 74 96 ls ([zi x]) M = some (zi x, M) := eb_E_r hk74 rfl
theorem e74_97 {x : Int32} : eb_E L d 74 97 [v0, v1, some (zi x), v3, v4, v5] (st) M = eb_E L d 74 98 [v0, v1, some (zi x), v3, v4, v5] (zi x :: st) M := eb_E_s hk74 rfl
theorem e74_98 {x : Int32} : eb_E L d 74 98 ls (zi x :: st) M = if x = 0 then eb_E L d 74 101 ls st M else eb_E L d 74 109 ls st M := eb_E_b hk74 rfl
theorem e74_101 {x : Option eb_A} : eb_E L d 74 101 [v0, v1, v2, v3, v4, some (Sum.inr x)] (st) M = eb_E L d 74 103 [v0, v1, v2, v3, v4, some (Sum.inr x)] (Sum.inr x :: st) M := eb_E_s hk74 rfl
theorem e74_103  : eb_E L d 74 103 ls (Sum.inr (some a) :: st) (nc, ns, I, J, R) = if (eb_ty L a.1).1 = 0 then eb_E L d 74 106 ls (zi (I a 1) :: st) (nc, ns, I, J, R) else none := eb_E_iy hk74 rfl
theorem e74_106  : eb_E L d 74 106 ls (st) M = eb_E L d 74 118 ls (st) M := eb_E_s hk74 rfl
theorem e74_109 {x : Option eb_A} : eb_E L d 74 109 [some (Sum.inr x), v1, v2, v3, v4, v5] (st) M = eb_E L d 74 110 [some (Sum.inr x), v1, v2, v3, v4, v5] (Sum.inr x :: st) M := eb_E_s hk74 rfl
theorem e74_110  : eb_E L d 74 110 ls (Sum.inr (some a) :: st) (nc, ns, I, J, R) = if (eb_ty L a.1).1 = 5 then eb_E L d 74 113 ls (Sum.inr (R a 0) :: st) (nc, ns, I, J, R) else none := eb_E_iy hk74 rfl
theorem e74_113 {x : Option eb_A} : eb_E L d 74 113 [v0, v1, v2, v3, v4, some (Sum.inr x)] (st) M = eb_E L d 74 115 [v0, v1, v2, v3, v4, some (Sum.inr x)] (Sum.inr x :: st) M := eb_E_s hk74 rfl
theorem e74_115  : eb_E L d 74 115 ls ([a1, a0]) M = (eb_ev L d 48 [a0, a1] M).bind (fun q => eb_E L d 74 118 ls [q.1] q.2) := eb_E_c hk74 rfl
theorem e74_118 {x : Int32} : eb_E L d 74 118 ls ([zi x]) M = some (zi x, M) := eb_E_r hk74 rfl
/-! X5_inn -/
theorem hk75 : eb_cd L 75 = eb_look (kt75 L) := rfl
theorem h75 (ha : (eb_ty L a.1).1 = 5) {x1 : Int32} {x2 : Int32} {x3 : Int32} : eb_ev L (d + 1) 75 [zr a, zi x1, zi x2, zi x3] M = eb_E L d 75 0 [some (zr a), some (zi x1), some (zi x2), some (zi x3), none] [] M := eb_ev_s rfl (eb_chk_i ha rfl)
theorem e75_0 {x : Int32} : eb_E L d 75 0 [v0, some (zi x), v2, v3, v4] (st) M = eb_E L d 75 1 [v0, some (zi x), v2, v3, v4] (zi x :: st) M := eb_E_s hk75 rfl
theorem e75_1  : eb_E L d 75 1 ls ([a0]) M = (eb_ev L d 129 [a0] M).bind (fun q => eb_E L d 75 4 ls [q.1] q.2) := eb_E_c hk75 rfl
theorem e75_4 {x : Int32} : eb_E L d 75 4 ls (zi x :: st) M = if x = 0 then eb_E L d 75 27 ls st M else eb_E L d 75 7 ls st M := eb_E_b hk75 rfl
theorem e75_7 {x : Int32} : eb_E L d 75 7 [v0, v1, some (zi x), v3, v4] (st) M = eb_E L d 75 8 [v0, v1, some (zi x), v3, v4] (zi x :: st) M := eb_E_s hk75 rfl
theorem e75_8  : eb_E L d 75 8 ls (st) M = eb_E L d 75 9 ls (zi 1 :: st) M := eb_E_s hk75 rfl
theorem e75_9  : eb_E L d 75 9 ls (st) M = eb_E L d 75 11 ls (zi 20 :: st) M := eb_E_s hk75 rfl
theorem e75_11  : eb_E L d 75 11 ls ([a2, a1, a0]) M = (eb_ev L d 127 [a0, a1, a2] M).bind (fun q => eb_E L d 75 14 ls [q.1] q.2) := eb_E_c hk75 rfl
theorem e75_14 {x : Int32} : eb_E L d 75 14 ls (zi x :: st) M = if x = 0 then eb_E L d 75 27 ls st M else eb_E L d 75 17 ls st M := eb_E_b hk75 rfl
theorem e75_17 {x : Int32} : eb_E L d 75 17 [v0, v1, v2, some (zi x), v4] (st) M = eb_E L d 75 18 [v0, v1, v2, some (zi x), v4] (zi x :: st) M := eb_E_s hk75 rfl
theorem e75_18  : eb_E L d 75 18 ls (st) M = eb_E L d 75 19 ls (zi 0 :: st) M := eb_E_s hk75 rfl
theorem e75_19  : eb_E L d 75 19 ls (st) M = eb_E L d 75 21 ls (zi 99 :: st) M := eb_E_s hk75 rfl
theorem e75_21  : eb_E L d 75 21 ls ([a2, a1, a0]) M = (eb_ev L d 127 [a0, a1, a2] M).bind (fun q => eb_E L d 75 24 ls [q.1] q.2) := eb_E_c hk75 rfl
theorem e75_24 {x : Int32} : eb_E L d 75 24 ls (zi x :: st) M = if x = 0 then eb_E L d 75 27 ls st M else eb_E L d 75 34 ls st M := eb_E_b hk75 rfl
theorem e75_27 {x : Option eb_A} : eb_E L d 75 27 [some (Sum.inr x), v1, v2, v3, v4] (st) M = eb_E L d 75 28 [some (Sum.inr x), v1, v2, v3, v4] (Sum.inr x :: st) M := eb_E_s hk75 rfl
theorem e75_28  : eb_E L d 75 28 ls (st) M = eb_E L d 75 30 ls (zi (-2) :: st) M := eb_E_s hk75 rfl
theorem e75_30  : eb_E L d 75 30 ls ([a1, a0]) M = (eb_ev L d 125 [a0, a1] M).bind (fun q => eb_E L d 75 33 ls [q.1] q.2) := eb_E_c hk75 rfl
theorem e75_33 {x : Int32} : eb_E L d 75 33 ls ([zi x]) M = some (zi x, M) := eb_E_r hk75 rfl
theorem e75_34 {x : Option eb_A} : eb_E L d 75 34 [some (Sum.inr x), v1, v2, v3, v4] (st) M = eb_E L d 75 35 [some (Sum.inr x), v1, v2, v3, v4] (Sum.inr x :: st) M := eb_E_s hk75 rfl
theorem e75_35  : eb_E L d 75 35 ls (Sum.inr (some a) :: st) (nc, ns, I, J, R) = if (eb_ty L a.1).1 = 5 then eb_E L d 75 38 ls (Sum.inr (R a 0) :: st) (nc, ns, I, J, R) else none := eb_E_iy hk75 rfl
theorem e75_38 {x : Int32} : eb_E L d 75 38 [v0, some (zi x), v2, v3, v4] (st) M = eb_E L d 75 39 [v0, some (zi x), v2, v3, v4] (zi x :: st) M := eb_E_s hk75 rfl
theorem e75_39 {x : Int32} : eb_E L d 75 39 [v0, v1, some (zi x), v3, v4] (st) M = eb_E L d 75 40 [v0, v1, some (zi x), v3, v4] (zi x :: st) M := eb_E_s hk75 rfl
theorem e75_40 {x : Int32} : eb_E L d 75 40 [v0, v1, v2, some (zi x), v4] (st) M = eb_E L d 75 41 [v0, v1, v2, some (zi x), v4] (zi x :: st) M := eb_E_s hk75 rfl
theorem e75_41  : eb_E L d 75 41 ls ([a3, a2, a1, a0]) M = (eb_ev L d 40 [a0, a1, a2, a3] M).bind (fun q => eb_E L d 75 44 ls [q.1] q.2) := eb_E_c hk75 rfl
theorem e75_44 {x : Int32} : eb_E L d 75 44 [v0, v1, v2, v3, v4] (zi x :: st) M = eb_E L d 75 46 [v0, v1, v2, v3, some (zi x)] (st) M := eb_E_s hk75 rfl
theorem e75_46 {x : Int32} : eb_E L d 75 46 [v0, v1, v2, v3, some (zi x)] (st) M = eb_E L d 75 48 [v0, v1, v2, v3, some (zi x)] (zi x :: st) M := eb_E_s hk75 rfl
theorem e75_48  : eb_E L d 75 48 ls (st) M = eb_E L d 75 49 ls (zi (-1) :: st) M := eb_E_s hk75 rfl
theorem e75_49 {x : Int32} {y : Int32} : eb_E L d 75 49 ls (zi y :: zi x :: st) M = if x = y then eb_E L d 75 52 ls st M else eb_E L d 75 61 ls st M := eb_E_b hk75 rfl
theorem e75_52 {x : Option eb_A} : eb_E L d 75 52 [some (Sum.inr x), v1, v2, v3, v4] (st) M = eb_E L d 75 53 [some (Sum.inr x), v1, v2, v3, v4] (Sum.inr x :: st) M := eb_E_s hk75 rfl
theorem e75_53  : eb_E L d 75 53 ls (st) M = eb_E L d 75 55 ls (zi (-6) :: st) M := eb_E_s hk75 rfl
theorem e75_55  : eb_E L d 75 55 ls ([a1, a0]) M = (eb_ev L d 125 [a0, a1] M).bind (fun q => eb_E L d 75 58 ls [q.1] q.2) := eb_E_c hk75 rfl
theorem e75_58  : eb_E L d 75 58 ls (st) M = eb_E L d 75 63 ls (st) M := eb_E_s hk75 rfl
theorem e75_61 {x : Int32} : eb_E L d 75 61 [v0, v1, v2, v3, some (zi x)] (st) M = eb_E L d 75 63 [v0, v1, v2, v3, some (zi x)] (zi x :: st) M := eb_E_s hk75 rfl
theorem e75_63 {x : Int32} : eb_E L d 75 63 ls ([zi x]) M = some (zi x, M) := eb_E_r hk75 rfl
/-! X5_goer -/
theorem hk76 : eb_cd L 76 = eb_look (kt76 L) := rfl
theorem h76 (ha : (eb_ty L a.1).1 = 5) {x1 : Int32} {x2 : Int32} {x3 : Int32} : eb_ev L (d + 1) 76 [zr a, zi x1, zi x2, zi x3] M = eb_E L d 76 0 [some (zr a), some (zi x1), some (zi x2), some (zi x3), none] [] M := eb_ev_s rfl (eb_chk_i ha rfl)
theorem e76_0 {x : Int32} : eb_E L d 76 0 [v0, some (zi x), v2, v3, v4] (st) M = eb_E L d 76 1 [v0, some (zi x), v2, v3, v4] (zi x :: st) M := eb_E_s hk76 rfl
theorem e76_1  : eb_E L d 76 1 ls (st) M = eb_E L d 76 2 ls (zi 0 :: st) M := eb_E_s hk76 rfl
theorem e76_2  : eb_E L d 76 2 ls (st) M = eb_E L d 76 3 ls (zi 5 :: st) M := eb_E_s hk76 rfl
theorem e76_3  : eb_E L d 76 3 ls ([a2, a1, a0]) M = (eb_ev L d 127 [a0, a1, a2] M).bind (fun q => eb_E L d 76 6 ls [q.1] q.2) := eb_E_c hk76 rfl
theorem e76_6 {x : Int32} : eb_E L d 76 6 ls (zi x :: st) M = if x = 0 then eb_E L d 76 29 ls st M else eb_E L d 76 9 ls st M := eb_E_b hk76 rfl
theorem e76_9 {x : Int32} : eb_E L d 76 9 [v0, v1, some (zi x), v3, v4] (st) M = eb_E L d 76 10 [v0, v1, some (zi x), v3, v4] (zi x :: st) M := eb_E_s hk76 rfl
theorem e76_10  : eb_E L d 76 10 ls (st) M = eb_E L d 76 11 ls (zi 1 :: st) M := eb_E_s hk76 rfl
theorem e76_11  : eb_E L d 76 11 ls (st) M = eb_E L d 76 13 ls (zi 30 :: st) M := eb_E_s hk76 rfl
theorem e76_13  : eb_E L d 76 13 ls ([a2, a1, a0]) M = (eb_ev L d 127 [a0, a1, a2] M).bind (fun q => eb_E L d 76 16 ls [q.1] q.2) := eb_E_c hk76 rfl
theorem e76_16 {x : Int32} : eb_E L d 76 16 ls (zi x :: st) M = if x = 0 then eb_E L d 76 29 ls st M else eb_E L d 76 19 ls st M := eb_E_b hk76 rfl
theorem e76_19 {x : Int32} : eb_E L d 76 19 [v0, v1, v2, some (zi x), v4] (st) M = eb_E L d 76 20 [v0, v1, v2, some (zi x), v4] (zi x :: st) M := eb_E_s hk76 rfl
theorem e76_20  : eb_E L d 76 20 ls (st) M = eb_E L d 76 21 ls (zi 0 :: st) M := eb_E_s hk76 rfl
theorem e76_21  : eb_E L d 76 21 ls (st) M = eb_E L d 76 23 ls (zi 99 :: st) M := eb_E_s hk76 rfl
theorem e76_23  : eb_E L d 76 23 ls ([a2, a1, a0]) M = (eb_ev L d 127 [a0, a1, a2] M).bind (fun q => eb_E L d 76 26 ls [q.1] q.2) := eb_E_c hk76 rfl
theorem e76_26 {x : Int32} : eb_E L d 76 26 ls (zi x :: st) M = if x = 0 then eb_E L d 76 29 ls st M else eb_E L d 76 36 ls st M := eb_E_b hk76 rfl
theorem e76_29 {x : Option eb_A} : eb_E L d 76 29 [some (Sum.inr x), v1, v2, v3, v4] (st) M = eb_E L d 76 30 [some (Sum.inr x), v1, v2, v3, v4] (Sum.inr x :: st) M := eb_E_s hk76 rfl
theorem e76_30  : eb_E L d 76 30 ls (st) M = eb_E L d 76 32 ls (zi (-2) :: st) M := eb_E_s hk76 rfl
theorem e76_32  : eb_E L d 76 32 ls ([a1, a0]) M = (eb_ev L d 125 [a0, a1] M).bind (fun q => eb_E L d 76 35 ls [q.1] q.2) := eb_E_c hk76 rfl
theorem e76_35 {x : Int32} : eb_E L d 76 35 ls ([zi x]) M = some (zi x, M) := eb_E_r hk76 rfl
theorem e76_36 {x : Option eb_A} : eb_E L d 76 36 [some (Sum.inr x), v1, v2, v3, v4] (st) M = eb_E L d 76 37 [some (Sum.inr x), v1, v2, v3, v4] (Sum.inr x :: st) M := eb_E_s hk76 rfl
theorem e76_37  : eb_E L d 76 37 ls (Sum.inr (some a) :: st) (nc, ns, I, J, R) = if (eb_ty L a.1).1 = 5 then eb_E L d 76 40 ls (Sum.inr (R a 0) :: st) (nc, ns, I, J, R) else none := eb_E_iy hk76 rfl
theorem e76_40 {x : Int32} : eb_E L d 76 40 [v0, some (zi x), v2, v3, v4] (st) M = eb_E L d 76 41 [v0, some (zi x), v2, v3, v4] (zi x :: st) M := eb_E_s hk76 rfl
theorem e76_41 {x : Int32} : eb_E L d 76 41 [v0, v1, some (zi x), v3, v4] (st) M = eb_E L d 76 42 [v0, v1, some (zi x), v3, v4] (zi x :: st) M := eb_E_s hk76 rfl
theorem e76_42 {x : Int32} : eb_E L d 76 42 [v0, v1, v2, some (zi x), v4] (st) M = eb_E L d 76 43 [v0, v1, v2, some (zi x), v4] (zi x :: st) M := eb_E_s hk76 rfl
theorem e76_43  : eb_E L d 76 43 ls ([a3, a2, a1, a0]) M = (eb_ev L d 41 [a0, a1, a2, a3] M).bind (fun q => eb_E L d 76 46 ls [q.1] q.2) := eb_E_c hk76 rfl
theorem e76_46 {x : Int32} : eb_E L d 76 46 [v0, v1, v2, v3, v4] (zi x :: st) M = eb_E L d 76 48 [v0, v1, v2, v3, some (zi x)] (st) M := eb_E_s hk76 rfl
theorem e76_48 {x : Int32} : eb_E L d 76 48 [v0, v1, v2, v3, some (zi x)] (st) M = eb_E L d 76 50 [v0, v1, v2, v3, some (zi x)] (zi x :: st) M := eb_E_s hk76 rfl
theorem e76_50  : eb_E L d 76 50 ls (st) M = eb_E L d 76 51 ls (zi (-1) :: st) M := eb_E_s hk76 rfl
theorem e76_51 {x : Int32} {y : Int32} : eb_E L d 76 51 ls (zi y :: zi x :: st) M = if x = y then eb_E L d 76 54 ls st M else eb_E L d 76 63 ls st M := eb_E_b hk76 rfl
theorem e76_54 {x : Option eb_A} : eb_E L d 76 54 [some (Sum.inr x), v1, v2, v3, v4] (st) M = eb_E L d 76 55 [some (Sum.inr x), v1, v2, v3, v4] (Sum.inr x :: st) M := eb_E_s hk76 rfl
theorem e76_55  : eb_E L d 76 55 ls (st) M = eb_E L d 76 57 ls (zi (-6) :: st) M := eb_E_s hk76 rfl
theorem e76_57  : eb_E L d 76 57 ls ([a1, a0]) M = (eb_ev L d 125 [a0, a1] M).bind (fun q => eb_E L d 76 60 ls [q.1] q.2) := eb_E_c hk76 rfl
theorem e76_60  : eb_E L d 76 60 ls (st) M = eb_E L d 76 65 ls (st) M := eb_E_s hk76 rfl
theorem e76_63 {x : Int32} : eb_E L d 76 63 [v0, v1, v2, v3, some (zi x)] (st) M = eb_E L d 76 65 [v0, v1, v2, v3, some (zi x)] (zi x :: st) M := eb_E_s hk76 rfl
theorem e76_65 {x : Int32} : eb_E L d 76 65 ls ([zi x]) M = some (zi x, M) := eb_E_r hk76 rfl
/-! X5_change -/
theorem hk77 : eb_cd L 77 = eb_look (kt77 L) := rfl
theorem h77 (ha : (eb_ty L a.1).1 = 5) {x1 : Int32} {x2 : Int32} {x3 : Int32} : eb_ev L (d + 1) 77 [zr a, zi x1, zi x2, zi x3] M = eb_E L d 77 0 [some (zr a), some (zi x1), some (zi x2), some (zi x3), none, none] [] M := eb_ev_s rfl (eb_chk_i ha rfl)
theorem e77_0 {x : Option eb_A} : eb_E L d 77 0 [some (Sum.inr x), v1, v2, v3, v4, v5] (st) M = eb_E L d 77 1 [some (Sum.inr x), v1, v2, v3, v4, v5] (Sum.inr x :: st) M := eb_E_s hk77 rfl
theorem e77_1 {x : Int32} : eb_E L d 77 1 [v0, some (zi x), v2, v3, v4, v5] (st) M = eb_E L d 77 2 [v0, some (zi x), v2, v3, v4, v5] (zi x :: st) M := eb_E_s hk77 rfl
theorem e77_2  : eb_E L d 77 2 ls ([a1, a0]) M = (eb_ev L d 131 [a0, a1] M).bind (fun q => eb_E L d 77 5 ls [q.1] q.2) := eb_E_c hk77 rfl
theorem e77_5 {x : Int32} : eb_E L d 77 5 ls (zi x :: st) M = if x = 0 then eb_E L d 77 36 ls st M else eb_E L d 77 8 ls st M := eb_E_b hk77 rfl
theorem e77_8 {x : Int32} : eb_E L d 77 8 [v0, v1, some (zi x), v3, v4, v5] (st) M = eb_E L d 77 9 [v0, v1, some (zi x), v3, v4, v5] (zi x :: st) M := eb_E_s hk77 rfl
theorem e77_9  : eb_E L d 77 9 ls (st) M = eb_E L d 77 10 ls (zi 0 :: st) M := eb_E_s hk77 rfl
theorem e77_10  : eb_E L d 77 10 ls (st) M = eb_E L d 77 11 ls (zi 1 :: st) M := eb_E_s hk77 rfl
theorem e77_11  : eb_E L d 77 11 ls ([a2, a1, a0]) M = (eb_ev L d 127 [a0, a1, a2] M).bind (fun q => eb_E L d 77 14 ls [q.1] q.2) := eb_E_c hk77 rfl
theorem e77_14 {x : Int32} : eb_E L d 77 14 ls (zi x :: st) M = if x = 0 then eb_E L d 77 36 ls st M else eb_E L d 77 17 ls st M := eb_E_b hk77 rfl
theorem e77_17 {x : Int32} : eb_E L d 77 17 [v0, v1, v2, some (zi x), v4, v5] (st) M = eb_E L d 77 18 [v0, v1, v2, some (zi x), v4, v5] (zi x :: st) M := eb_E_s hk77 rfl
theorem e77_18  : eb_E L d 77 18 ls (st) M = eb_E L d 77 19 ls (zi 0 :: st) M := eb_E_s hk77 rfl
theorem e77_19 {x : Int32} : eb_E L d 77 19 [v0, v1, some (zi x), v3, v4, v5] (st) M = eb_E L d 77 20 [v0, v1, some (zi x), v3, v4, v5] (zi x :: st) M := eb_E_s hk77 rfl
theorem e77_20 {x : Int32} : eb_E L d 77 20 ls (zi x :: st) M = if x = 0 then eb_E L d 77 23 ls st M else eb_E L d 77 28 ls st M := eb_E_b hk77 rfl
theorem e77_23  : eb_E L d 77 23 ls (st) M = eb_E L d 77 25 ls (zi 100 :: st) M := eb_E_s hk77 rfl
theorem e77_25  : eb_E L d 77 25 ls (st) M = eb_E L d 77 30 ls (st) M := eb_E_s hk77 rfl
theorem e77_28  : eb_E L d 77 28 ls (st) M = eb_E L d 77 30 ls (zi 99 :: st) M := eb_E_s hk77 rfl
theorem e77_30  : eb_E L d 77 30 ls ([a2, a1, a0]) M = (eb_ev L d 127 [a0, a1, a2] M).bind (fun q => eb_E L d 77 33 ls [q.1] q.2) := eb_E_c hk77 rfl
theorem e77_33 {x : Int32} : eb_E L d 77 33 ls (zi x :: st) M = if x = 0 then eb_E L d 77 36 ls st M else eb_E L d 77 43 ls st M := eb_E_b hk77 rfl
theorem e77_36 {x : Option eb_A} : eb_E L d 77 36 [some (Sum.inr x), v1, v2, v3, v4, v5] (st) M = eb_E L d 77 37 [some (Sum.inr x), v1, v2, v3, v4, v5] (Sum.inr x :: st) M := eb_E_s hk77 rfl
theorem e77_37  : eb_E L d 77 37 ls (st) M = eb_E L d 77 39 ls (zi (-2) :: st) M := eb_E_s hk77 rfl
theorem e77_39  : eb_E L d 77 39 ls ([a1, a0]) M = (eb_ev L d 125 [a0, a1] M).bind (fun q => eb_E L d 77 42 ls [q.1] q.2) := eb_E_c hk77 rfl
theorem e77_42 {x : Int32} : eb_E L d 77 42 ls ([zi x]) M = some (zi x, M) := eb_E_r hk77 rfl
theorem e77_43 {x : Option eb_A} : eb_E L d 77 43 [some (Sum.inr x), v1, v2, v3, v4, v5] (st) M = eb_E L d 77 44 [some (Sum.inr x), v1, v2, v3, v4, v5] (Sum.inr x :: st) M := eb_E_s hk77 rfl
theorem e77_44  : eb_E L d 77 44 ls (Sum.inr (some a) :: st) (nc, ns, I, J, R) = if (eb_ty L a.1).1 = 5 then eb_E L d 77 47 ls (Sum.inr (R a 0) :: st) (nc, ns, I, J, R) else none := eb_E_iy hk77 rfl
theorem e77_47  : eb_E L d 77 47 ls (Sum.inr (some a) :: st) (nc, ns, I, J, R) = if (eb_ty L a.1).1 = 4 then eb_E L d 77 50 ls (Sum.inr (R a 0) :: st) (nc, ns, I, J, R) else none := eb_E_iy hk77 rfl
theorem e77_50 {x : Int32} : eb_E L d 77 50 [v0, some (zi x), v2, v3, v4, v5] (st) M = eb_E L d 77 51 [v0, some (zi x), v2, v3, v4, v5] (zi x :: st) M := eb_E_s hk77 rfl
theorem e77_51 {x : Int32} : eb_E L d 77 51 ls (zi x :: Sum.inr (some a) :: st) (nc, ns, I, J, R) = if (12 ≤ (eb_ty L a.1).1 ∧ (eb_ty L a.1).1 ≤ 16) ∧ eb_in x (eb_ty L a.1).2 = true then eb_E L d 77 52 ls (Sum.inr (R a x.toNatClampNeg) :: st) (nc, ns, I, J, R) else none := eb_E_iy hk77 rfl
theorem e77_52 {x : Option eb_A} : eb_E L d 77 52 [v0, v1, v2, v3, v4, v5] (Sum.inr x :: st) M = eb_E L d 77 54 [v0, v1, v2, v3, some (Sum.inr x), v5] (st) M := eb_E_s hk77 rfl
theorem e77_54 {x : Int32} : eb_E L d 77 54 [v0, v1, some (zi x), v3, v4, v5] (st) M = eb_E L d 77 55 [v0, v1, some (zi x), v3, v4, v5] (zi x :: st) M := eb_E_s hk77 rfl
theorem e77_55 {x : Int32} : eb_E L d 77 55 ls (zi x :: st) M = if x = 0 then eb_E L d 77 58 ls st M else eb_E L d 77 66 ls st M := eb_E_b hk77 rfl
theorem e77_58 {x : Option eb_A} : eb_E L d 77 58 [v0, v1, v2, v3, some (Sum.inr x), v5] (st) M = eb_E L d 77 60 [v0, v1, v2, v3, some (Sum.inr x), v5] (Sum.inr x :: st) M := eb_E_s hk77 rfl
theorem e77_60  : eb_E L d 77 60 ls (Sum.inr (some a) :: st) (nc, ns, I, J, R) = if (eb_ty L a.1).1 = 1 then eb_E L d 77 63 ls (zi (I a 0) :: st) (nc, ns, I, J, R) else none := eb_E_iy hk77 rfl
theorem e77_63  : eb_E L d 77 63 ls (st) M = eb_E L d 77 71 ls (st) M := eb_E_s hk77 rfl
theorem e77_66 {x : Option eb_A} : eb_E L d 77 66 [v0, v1, v2, v3, some (Sum.inr x), v5] (st) M = eb_E L d 77 68 [v0, v1, v2, v3, some (Sum.inr x), v5] (Sum.inr x :: st) M := eb_E_s hk77 rfl
theorem e77_68  : eb_E L d 77 68 ls (Sum.inr (some a) :: st) (nc, ns, I, J, R) = if (eb_ty L a.1).1 = 1 then eb_E L d 77 71 ls (zi (I a 3) :: st) (nc, ns, I, J, R) else none := eb_E_iy hk77 rfl
theorem e77_71 {x : Int32} : eb_E L d 77 71 [v0, v1, v2, v3, v4, v5] (zi x :: st) M = eb_E L d 77 73 [v0, v1, v2, v3, v4, some (zi x)] (st) M := eb_E_s hk77 rfl
theorem e77_73 {x : Int32} : eb_E L d 77 73 [v0, v1, some (zi x), v3, v4, v5] (st) M = eb_E L d 77 74 [v0, v1, some (zi x), v3, v4, v5] (zi x :: st) M := eb_E_s hk77 rfl
theorem e77_74 {x : Int32} : eb_E L d 77 74 ls (zi x :: st) M = if x = 0 then eb_E L d 77 77 ls st M else eb_E L d 77 86 ls st M := eb_E_b hk77 rfl
theorem e77_77 {x : Option eb_A} : eb_E L d 77 77 [v0, v1, v2, v3, some (Sum.inr x), v5] (st) M = eb_E L d 77 79 [v0, v1, v2, v3, some (Sum.inr x), v5] (Sum.inr x :: st) M := eb_E_s hk77 rfl
theorem e77_79 {x : Int32} : eb_E L d 77 79 [v0, v1, v2, some (zi x), v4, v5] (st) M = eb_E L d 77 80 [v0, v1, v2, some (zi x), v4, v5] (zi x :: st) M := eb_E_s hk77 rfl
theorem e77_80 {x : Int32} : eb_E L d 77 80 ls (zi x :: Sum.inr (some a) :: st) (nc, ns, I, J, R) = if (eb_ty L a.1).1 = 1 then eb_E L d 77 83 ls (st) (nc, ns, eb_u I a 0 x, J, R) else none := eb_E_iy hk77 rfl
theorem e77_83  : eb_E L d 77 83 ls (st) M = eb_E L d 77 92 ls (st) M := eb_E_s hk77 rfl
theorem e77_86 {x : Option eb_A} : eb_E L d 77 86 [v0, v1, v2, v3, some (Sum.inr x), v5] (st) M = eb_E L d 77 88 [v0, v1, v2, v3, some (Sum.inr x), v5] (Sum.inr x :: st) M := eb_E_s hk77 rfl
theorem e77_88 {x : Int32} : eb_E L d 77 88 [v0, v1, v2, some (zi x), v4, v5] (st) M = eb_E L d 77 89 [v0, v1, v2, some (zi x), v4, v5] (zi x :: st) M := eb_E_s hk77 rfl
theorem e77_89 {x : Int32} : eb_E L d 77 89 ls (zi x :: Sum.inr (some a) :: st) (nc, ns, I, J, R) = if (eb_ty L a.1).1 = 1 then eb_E L d 77 92 ls (st) (nc, ns, eb_u I a 3 x, J, R) else none := eb_E_iy hk77 rfl
theorem e77_92 {x : Int32} : eb_E L d 77 92 [v0, v1, v2, v3, v4, some (zi x)] (st) M = eb_E L d 77 94 [v0, v1, v2, v3, v4, some (zi x)] (zi x :: st) M := eb_E_s hk77 rfl
theorem e77_94 {x : Int32} : eb_E L d 77 94 ls ([zi x]) M = some (zi x, M) := eb_E_r hk77 rfl
/-! X5_say -/
theorem hk78 : eb_cd L 78 = eb_look (kt78 L) := rfl
theorem h78 (ha : (eb_ty L a.1).1 = 5) {x1 : Int32} {x2 : Int32} : eb_ev L (d + 1) 78 [zr a, zi x1, zi x2] M = eb_E L d 78 0 [some (zr a), some (zi x1), some (zi x2), none] [] M := eb_ev_s rfl (eb_chk_i ha rfl)
theorem e78_0 {x : Option eb_A} : eb_E L d 78 0 [some (Sum.inr x), v1, v2, v3] (st) M = eb_E L d 78 1 [some (Sum.inr x), v1, v2, v3] (Sum.inr x :: st) M := eb_E_s hk78 rfl
theorem e78_1 {x : Int32} : eb_E L d 78 1 [v0, some (zi x), v2, v3] (st) M = eb_E L d 78 2 [v0, some (zi x), v2, v3] (zi x :: st) M := eb_E_s hk78 rfl
theorem e78_2  : eb_E L d 78 2 ls ([a1, a0]) M = (eb_ev L d 131 [a0, a1] M).bind (fun q => eb_E L d 78 5 ls [q.1] q.2) := eb_E_c hk78 rfl
theorem e78_5 {x : Int32} : eb_E L d 78 5 ls (zi x :: st) M = if x = 0 then eb_E L d 78 20 ls st M else eb_E L d 78 8 ls st M := eb_E_b hk78 rfl
theorem e78_8 {x : Int32} : eb_E L d 78 8 [v0, v1, some (zi x), v3] (st) M = eb_E L d 78 9 [v0, v1, some (zi x), v3] (zi x :: st) M := eb_E_s hk78 rfl
theorem e78_9  : eb_E L d 78 9 ls (st) M = eb_E L d 78 10 ls (zi (-1) :: st) M := eb_E_s hk78 rfl
theorem e78_10 {x : Int32} {y : Int32} : eb_E L d 78 10 ls (zi y :: zi x :: st) M = if x = y then eb_E L d 78 27 ls st M else eb_E L d 78 13 ls st M := eb_E_b hk78 rfl
theorem e78_13 {x : Int32} : eb_E L d 78 13 [v0, v1, some (zi x), v3] (st) M = eb_E L d 78 14 [v0, v1, some (zi x), v3] (zi x :: st) M := eb_E_s hk78 rfl
theorem e78_14  : eb_E L d 78 14 ls ([a0]) M = (eb_ev L d 129 [a0] M).bind (fun q => eb_E L d 78 17 ls [q.1] q.2) := eb_E_c hk78 rfl
theorem e78_17 {x : Int32} : eb_E L d 78 17 ls (zi x :: st) M = if x = 0 then eb_E L d 78 20 ls st M else eb_E L d 78 27 ls st M := eb_E_b hk78 rfl
theorem e78_20 {x : Option eb_A} : eb_E L d 78 20 [some (Sum.inr x), v1, v2, v3] (st) M = eb_E L d 78 21 [some (Sum.inr x), v1, v2, v3] (Sum.inr x :: st) M := eb_E_s hk78 rfl
theorem e78_21  : eb_E L d 78 21 ls (st) M = eb_E L d 78 23 ls (zi (-2) :: st) M := eb_E_s hk78 rfl
theorem e78_23  : eb_E L d 78 23 ls ([a1, a0]) M = (eb_ev L d 125 [a0, a1] M).bind (fun q => eb_E L d 78 26 ls [q.1] q.2) := eb_E_c hk78 rfl
theorem e78_26 {x : Int32} : eb_E L d 78 26 ls ([zi x]) M = some (zi x, M) := eb_E_r hk78 rfl
theorem e78_27 {x : Option eb_A} : eb_E L d 78 27 [some (Sum.inr x), v1, v2, v3] (st) M = eb_E L d 78 28 [some (Sum.inr x), v1, v2, v3] (Sum.inr x :: st) M := eb_E_s hk78 rfl
theorem e78_28  : eb_E L d 78 28 ls (Sum.inr (some a) :: st) (nc, ns, I, J, R) = if (eb_ty L a.1).1 = 5 then eb_E L d 78 31 ls (Sum.inr (R a 0) :: st) (nc, ns, I, J, R) else none := eb_E_iy hk78 rfl
theorem e78_31  : eb_E L d 78 31 ls (Sum.inr (some a) :: st) (nc, ns, I, J, R) = if (eb_ty L a.1).1 = 4 then eb_E L d 78 34 ls (Sum.inr (R a 0) :: st) (nc, ns, I, J, R) else none := eb_E_iy hk78 rfl
theorem e78_34 {x : Int32} : eb_E L d 78 34 [v0, some (zi x), v2, v3] (st) M = eb_E L d 78 35 [v0, some (zi x), v2, v3] (zi x :: st) M := eb_E_s hk78 rfl
theorem e78_35 {x : Int32} : eb_E L d 78 35 ls (zi x :: Sum.inr (some a) :: st) (nc, ns, I, J, R) = if (12 ≤ (eb_ty L a.1).1 ∧ (eb_ty L a.1).1 ≤ 16) ∧ eb_in x (eb_ty L a.1).2 = true then eb_E L d 78 36 ls (Sum.inr (R a x.toNatClampNeg) :: st) (nc, ns, I, J, R) else none := eb_E_iy hk78 rfl
theorem e78_36  : eb_E L d 78 36 ls (Sum.inr (some a) :: st) (nc, ns, I, J, R) = if (eb_ty L a.1).1 = 1 then eb_E L d 78 39 ls (zi (I a 4) :: st) (nc, ns, I, J, R) else none := eb_E_iy hk78 rfl
theorem e78_39 {x : Int32} : eb_E L d 78 39 [v0, v1, v2, v3] (zi x :: st) M = eb_E L d 78 40 [v0, v1, v2, some (zi x)] (st) M := eb_E_s hk78 rfl
theorem e78_40 {x : Option eb_A} : eb_E L d 78 40 [some (Sum.inr x), v1, v2, v3] (st) M = eb_E L d 78 41 [some (Sum.inr x), v1, v2, v3] (Sum.inr x :: st) M := eb_E_s hk78 rfl
theorem e78_41  : eb_E L d 78 41 ls (Sum.inr (some a) :: st) (nc, ns, I, J, R) = if (eb_ty L a.1).1 = 5 then eb_E L d 78 44 ls (Sum.inr (R a 0) :: st) (nc, ns, I, J, R) else none := eb_E_iy hk78 rfl
theorem e78_44  : eb_E L d 78 44 ls (Sum.inr (some a) :: st) (nc, ns, I, J, R) = if (eb_ty L a.1).1 = 4 then eb_E L d 78 47 ls (Sum.inr (R a 0) :: st) (nc, ns, I, J, R) else none := eb_E_iy hk78 rfl
theorem e78_47 {x : Int32} : eb_E L d 78 47 [v0, some (zi x), v2, v3] (st) M = eb_E L d 78 48 [v0, some (zi x), v2, v3] (zi x :: st) M := eb_E_s hk78 rfl
theorem e78_48 {x : Int32} : eb_E L d 78 48 ls (zi x :: Sum.inr (some a) :: st) (nc, ns, I, J, R) = if (12 ≤ (eb_ty L a.1).1 ∧ (eb_ty L a.1).1 ≤ 16) ∧ eb_in x (eb_ty L a.1).2 = true then eb_E L d 78 49 ls (Sum.inr (R a x.toNatClampNeg) :: st) (nc, ns, I, J, R) else none := eb_E_iy hk78 rfl
theorem e78_49 {x : Int32} : eb_E L d 78 49 [v0, v1, some (zi x), v3] (st) M = eb_E L d 78 50 [v0, v1, some (zi x), v3] (zi x :: st) M := eb_E_s hk78 rfl
theorem e78_50 {x : Int32} : eb_E L d 78 50 ls (zi x :: Sum.inr (some a) :: st) (nc, ns, I, J, R) = if (eb_ty L a.1).1 = 1 then eb_E L d 78 53 ls (st) (nc, ns, eb_u I a 4 x, J, R) else none := eb_E_iy hk78 rfl
theorem e78_53 {x : Int32} : eb_E L d 78 53 [v0, v1, v2, some (zi x)] (st) M = eb_E L d 78 54 [v0, v1, v2, some (zi x)] (zi x :: st) M := eb_E_s hk78 rfl
theorem e78_54 {x : Int32} : eb_E L d 78 54 ls ([zi x]) M = some (zi x, M) := eb_E_r hk78 rfl
/-! X5_write -/
theorem hk79 : eb_cd L 79 = eb_look (kt79 L) := rfl
theorem h79 (ha : (eb_ty L a.1).1 = 5) {x1 : Int32} : eb_ev L (d + 1) 79 [zr a, zi x1] M = eb_E L d 79 0 [some (zr a), some (zi x1)] [] M := eb_ev_s rfl (eb_chk_i ha rfl)
theorem e79_0 {x : Option eb_A} : eb_E L d 79 0 [some (Sum.inr x), v1] (st) M = eb_E L d 79 1 [some (Sum.inr x), v1] (Sum.inr x :: st) M := eb_E_s hk79 rfl
theorem e79_1 {x : Int32} : eb_E L d 79 1 [v0, some (zi x)] (st) M = eb_E L d 79 2 [v0, some (zi x)] (zi x :: st) M := eb_E_s hk79 rfl
theorem e79_2  : eb_E L d 79 2 ls ([a1, a0]) M = (eb_ev L d 134 [a0, a1] M).bind (fun q => eb_E L d 79 5 ls [q.1] q.2) := eb_E_c hk79 rfl
theorem e79_5 {x : Int32} : eb_E L d 79 5 ls (zi x :: st) M = if x = 0 then eb_E L d 79 19 ls st M else eb_E L d 79 8 ls st M := eb_E_b hk79 rfl
theorem e79_8 {x : Option eb_A} : eb_E L d 79 8 [some (Sum.inr x), v1] (st) M = eb_E L d 79 9 [some (Sum.inr x), v1] (Sum.inr x :: st) M := eb_E_s hk79 rfl
theorem e79_9  : eb_E L d 79 9 ls (Sum.inr (some a) :: st) (nc, ns, I, J, R) = if (eb_ty L a.1).1 = 5 then eb_E L d 79 12 ls (Sum.inr (R a 0) :: st) (nc, ns, I, J, R) else none := eb_E_iy hk79 rfl
theorem e79_12 {x : Int32} : eb_E L d 79 12 [v0, some (zi x)] (st) M = eb_E L d 79 13 [v0, some (zi x)] (zi x :: st) M := eb_E_s hk79 rfl
theorem e79_13  : eb_E L d 79 13 ls ([a1, a0]) M = (eb_ev L d 42 [a0, a1] M).bind (fun q => eb_E L d 79 16 ls [q.1] q.2) := eb_E_c hk79 rfl
theorem e79_16  : eb_E L d 79 16 ls (st) M = eb_E L d 79 25 ls (st) M := eb_E_s hk79 rfl
theorem e79_19 {x : Option eb_A} : eb_E L d 79 19 [some (Sum.inr x), v1] (st) M = eb_E L d 79 20 [some (Sum.inr x), v1] (Sum.inr x :: st) M := eb_E_s hk79 rfl
theorem e79_20  : eb_E L d 79 20 ls (st) M = eb_E L d 79 22 ls (zi (-2) :: st) M := eb_E_s hk79 rfl
theorem e79_22  : eb_E L d 79 22 ls ([a1, a0]) M = (eb_ev L d 125 [a0, a1] M).bind (fun q => eb_E L d 79 25 ls [q.1] q.2) := eb_E_c hk79 rfl
theorem e79_25 {x : Int32} : eb_E L d 79 25 ls ([zi x]) M = some (zi x, M) := eb_E_r hk79 rfl
/-! X5_letter -/
theorem hk80 : eb_cd L 80 = eb_look (kt80 L) := rfl
theorem h80 (ha : (eb_ty L a.1).1 = 5) {x1 : Int32} {x2 : Int32} : eb_ev L (d + 1) 80 [zr a, zi x1, zi x2] M = eb_E L d 80 0 [some (zr a), some (zi x1), some (zi x2)] [] M := eb_ev_s rfl (eb_chk_i ha rfl)
theorem e80_0 {x : Option eb_A} : eb_E L d 80 0 [some (Sum.inr x), v1, v2] (st) M = eb_E L d 80 1 [some (Sum.inr x), v1, v2] (Sum.inr x :: st) M := eb_E_s hk80 rfl
theorem e80_1 {x : Int32} : eb_E L d 80 1 [v0, some (zi x), v2] (st) M = eb_E L d 80 2 [v0, some (zi x), v2] (zi x :: st) M := eb_E_s hk80 rfl
theorem e80_2  : eb_E L d 80 2 ls ([a1, a0]) M = (eb_ev L d 131 [a0, a1] M).bind (fun q => eb_E L d 80 5 ls [q.1] q.2) := eb_E_c hk80 rfl
theorem e80_5 {x : Int32} : eb_E L d 80 5 ls (zi x :: st) M = if x = 0 then eb_E L d 80 15 ls st M else eb_E L d 80 8 ls st M := eb_E_b hk80 rfl
theorem e80_8 {x : Int32} : eb_E L d 80 8 [v0, v1, some (zi x)] (st) M = eb_E L d 80 9 [v0, v1, some (zi x)] (zi x :: st) M := eb_E_s hk80 rfl
theorem e80_9  : eb_E L d 80 9 ls ([a0]) M = (eb_ev L d 129 [a0] M).bind (fun q => eb_E L d 80 12 ls [q.1] q.2) := eb_E_c hk80 rfl
theorem e80_12 {x : Int32} : eb_E L d 80 12 ls (zi x :: st) M = if x = 0 then eb_E L d 80 15 ls st M else eb_E L d 80 22 ls st M := eb_E_b hk80 rfl
theorem e80_15 {x : Option eb_A} : eb_E L d 80 15 [some (Sum.inr x), v1, v2] (st) M = eb_E L d 80 16 [some (Sum.inr x), v1, v2] (Sum.inr x :: st) M := eb_E_s hk80 rfl
theorem e80_16  : eb_E L d 80 16 ls (st) M = eb_E L d 80 18 ls (zi (-2) :: st) M := eb_E_s hk80 rfl
theorem e80_18  : eb_E L d 80 18 ls ([a1, a0]) M = (eb_ev L d 125 [a0, a1] M).bind (fun q => eb_E L d 80 21 ls [q.1] q.2) := eb_E_c hk80 rfl
theorem e80_21 {x : Int32} : eb_E L d 80 21 ls ([zi x]) M = some (zi x, M) := eb_E_r hk80 rfl
theorem e80_22 {x : Option eb_A} : eb_E L d 80 22 [some (Sum.inr x), v1, v2] (st) M = eb_E L d 80 23 [some (Sum.inr x), v1, v2] (Sum.inr x :: st) M := eb_E_s hk80 rfl
theorem e80_23  : eb_E L d 80 23 ls (Sum.inr (some a) :: st) (nc, ns, I, J, R) = if (eb_ty L a.1).1 = 5 then eb_E L d 80 26 ls (Sum.inr (R a 0) :: st) (nc, ns, I, J, R) else none := eb_E_iy hk80 rfl
theorem e80_26  : eb_E L d 80 26 ls (Sum.inr (some a) :: st) (nc, ns, I, J, R) = if (eb_ty L a.1).1 = 4 then eb_E L d 80 29 ls (Sum.inr (R a 0) :: st) (nc, ns, I, J, R) else none := eb_E_iy hk80 rfl
theorem e80_29 {x : Int32} : eb_E L d 80 29 [v0, some (zi x), v2] (st) M = eb_E L d 80 30 [v0, some (zi x), v2] (zi x :: st) M := eb_E_s hk80 rfl
theorem e80_30 {x : Int32} : eb_E L d 80 30 ls (zi x :: Sum.inr (some a) :: st) (nc, ns, I, J, R) = if (12 ≤ (eb_ty L a.1).1 ∧ (eb_ty L a.1).1 ≤ 16) ∧ eb_in x (eb_ty L a.1).2 = true then eb_E L d 80 31 ls (Sum.inr (R a x.toNatClampNeg) :: st) (nc, ns, I, J, R) else none := eb_E_iy hk80 rfl
theorem e80_31 {x : Int32} : eb_E L d 80 31 [v0, v1, some (zi x)] (st) M = eb_E L d 80 32 [v0, v1, some (zi x)] (zi x :: st) M := eb_E_s hk80 rfl
theorem e80_32  : eb_E L d 80 32 ls ([a1, a0]) M = (eb_ev L d 10 [a0, a1] M).bind (fun q => eb_E L d 80 35 ls [q.1] q.2) := eb_E_c hk80 rfl
theorem e80_35 {x : Int32} : eb_E L d 80 35 ls (zi x :: st) M = if x = 0 then eb_E L d 80 53 ls st M else eb_E L d 80 38 ls st M := eb_E_b hk80 rfl
theorem e80_38 {x : Option eb_A} : eb_E L d 80 38 [some (Sum.inr x), v1, v2] (st) M = eb_E L d 80 39 [some (Sum.inr x), v1, v2] (Sum.inr x :: st) M := eb_E_s hk80 rfl
theorem e80_39  : eb_E L d 80 39 ls (Sum.inr (some a) :: st) (nc, ns, I, J, R) = if (eb_ty L a.1).1 = 5 then eb_E L d 80 42 ls (Sum.inr (R a 0) :: st) (nc, ns, I, J, R) else none := eb_E_iy hk80 rfl
theorem e80_42  : eb_E L d 80 42 ls (Sum.inr (some a) :: st) (nc, ns, I, J, R) = if (eb_ty L a.1).1 = 4 then eb_E L d 80 45 ls (Sum.inr (R a 0) :: st) (nc, ns, I, J, R) else none := eb_E_iy hk80 rfl
theorem e80_45 {x : Int32} : eb_E L d 80 45 [v0, some (zi x), v2] (st) M = eb_E L d 80 46 [v0, some (zi x), v2] (zi x :: st) M := eb_E_s hk80 rfl
theorem e80_46 {x : Int32} : eb_E L d 80 46 ls (zi x :: Sum.inr (some a) :: st) (nc, ns, I, J, R) = if (12 ≤ (eb_ty L a.1).1 ∧ (eb_ty L a.1).1 ≤ 16) ∧ eb_in x (eb_ty L a.1).2 = true then eb_E L d 80 47 ls (Sum.inr (R a x.toNatClampNeg) :: st) (nc, ns, I, J, R) else none := eb_E_iy hk80 rfl
theorem e80_47  : eb_E L d 80 47 ls (Sum.inr (some a) :: st) (nc, ns, I, J, R) = if (eb_ty L a.1).1 = 1 then eb_E L d 80 50 ls (zi (I a 5) :: st) (nc, ns, I, J, R) else none := eb_E_iy hk80 rfl
theorem e80_50  : eb_E L d 80 50 ls (st) M = eb_E L d 80 59 ls (st) M := eb_E_s hk80 rfl
theorem e80_53 {x : Option eb_A} : eb_E L d 80 53 [some (Sum.inr x), v1, v2] (st) M = eb_E L d 80 54 [some (Sum.inr x), v1, v2] (Sum.inr x :: st) M := eb_E_s hk80 rfl
theorem e80_54  : eb_E L d 80 54 ls (st) M = eb_E L d 80 56 ls (zi (-6) :: st) M := eb_E_s hk80 rfl
theorem e80_56  : eb_E L d 80 56 ls ([a1, a0]) M = (eb_ev L d 125 [a0, a1] M).bind (fun q => eb_E L d 80 59 ls [q.1] q.2) := eb_E_c hk80 rfl
theorem e80_59 {x : Int32} : eb_E L d 80 59 ls ([zi x]) M = some (zi x, M) := eb_E_r hk80 rfl
/-! X5_age -/
theorem hk81 : eb_cd L 81 = eb_look (kt81 L) := rfl
theorem h81 (ha : (eb_ty L a.1).1 = 5) {x1 : Int32} : eb_ev L (d + 1) 81 [zr a, zi x1] M = eb_E L d 81 0 [some (zr a), some (zi x1), none] [] M := eb_ev_s rfl (eb_chk_i ha rfl)
theorem e81_0 {x : Int32} : eb_E L d 81 0 [v0, some (zi x), v2] (st) M = eb_E L d 81 1 [v0, some (zi x), v2] (zi x :: st) M := eb_E_s hk81 rfl
theorem e81_1  : eb_E L d 81 1 ls (st) M = eb_E L d 81 2 ls (zi 0 :: st) M := eb_E_s hk81 rfl
theorem e81_2  : eb_E L d 81 2 ls (st) M = eb_E L d 81 4 ls (zi 99 :: st) M := eb_E_s hk81 rfl
theorem e81_4  : eb_E L d 81 4 ls ([a2, a1, a0]) M = (eb_ev L d 127 [a0, a1, a2] M).bind (fun q => eb_E L d 81 7 ls [q.1] q.2) := eb_E_c hk81 rfl
theorem e81_7 {x : Int32} : eb_E L d 81 7 ls (zi x :: st) M = if x = 0 then eb_E L d 81 10 ls st M else eb_E L d 81 17 ls st M := eb_E_b hk81 rfl
theorem e81_10 {x : Option eb_A} : eb_E L d 81 10 [some (Sum.inr x), v1, v2] (st) M = eb_E L d 81 11 [some (Sum.inr x), v1, v2] (Sum.inr x :: st) M := eb_E_s hk81 rfl
theorem e81_11  : eb_E L d 81 11 ls (st) M = eb_E L d 81 13 ls (zi (-2) :: st) M := eb_E_s hk81 rfl
theorem e81_13  : eb_E L d 81 13 ls ([a1, a0]) M = (eb_ev L d 125 [a0, a1] M).bind (fun q => eb_E L d 81 16 ls [q.1] q.2) := eb_E_c hk81 rfl
theorem e81_16 {x : Int32} : eb_E L d 81 16 ls ([zi x]) M = some (zi x, M) := eb_E_r hk81 rfl
theorem e81_17 {x : Option eb_A} : eb_E L d 81 17 [some (Sum.inr x), v1, v2] (st) M = eb_E L d 81 18 [some (Sum.inr x), v1, v2] (Sum.inr x :: st) M := eb_E_s hk81 rfl
theorem e81_18  : eb_E L d 81 18 ls (Sum.inr (some a) :: st) (nc, ns, I, J, R) = if (eb_ty L a.1).1 = 5 then eb_E L d 81 21 ls (Sum.inr (R a 0) :: st) (nc, ns, I, J, R) else none := eb_E_iy hk81 rfl
theorem e81_21  : eb_E L d 81 21 ls (Sum.inr (some a) :: st) (nc, ns, I, J, R) = if (eb_ty L a.1).1 = 4 then eb_E L d 81 24 ls (zi (I a 4) :: st) (nc, ns, I, J, R) else none := eb_E_iy hk81 rfl
theorem e81_24 {x : Int32} : eb_E L d 81 24 [v0, v1, v2] (zi x :: st) M = eb_E L d 81 25 [v0, v1, some (zi x)] (st) M := eb_E_s hk81 rfl
theorem e81_25 {x : Option eb_A} : eb_E L d 81 25 [some (Sum.inr x), v1, v2] (st) M = eb_E L d 81 26 [some (Sum.inr x), v1, v2] (Sum.inr x :: st) M := eb_E_s hk81 rfl
theorem e81_26  : eb_E L d 81 26 ls (Sum.inr (some a) :: st) (nc, ns, I, J, R) = if (eb_ty L a.1).1 = 5 then eb_E L d 81 29 ls (Sum.inr (R a 0) :: st) (nc, ns, I, J, R) else none := eb_E_iy hk81 rfl
theorem e81_29 {x : Int32} : eb_E L d 81 29 [v0, some (zi x), v2] (st) M = eb_E L d 81 30 [v0, some (zi x), v2] (zi x :: st) M := eb_E_s hk81 rfl
theorem e81_30 {x : Int32} : eb_E L d 81 30 ls (zi x :: Sum.inr (some a) :: st) (nc, ns, I, J, R) = if (eb_ty L a.1).1 = 4 then eb_E L d 81 33 ls (st) (nc, ns, eb_u I a 4 x, J, R) else none := eb_E_iy hk81 rfl
theorem e81_33 {x : Int32} : eb_E L d 81 33 [v0, v1, some (zi x)] (st) M = eb_E L d 81 34 [v0, v1, some (zi x)] (zi x :: st) M := eb_E_s hk81 rfl
theorem e81_34 {x : Int32} : eb_E L d 81 34 ls ([zi x]) M = some (zi x, M) := eb_E_r hk81 rfl
/-! X5_heads -/
theorem hk82 : eb_cd L 82 = eb_look (kt82 L) := rfl
theorem h82 (ha : (eb_ty L a.1).1 = 5) {x1 : Int32} {x2 : Int32} : eb_ev L (d + 1) 82 [zr a, zi x1, zi x2] M = eb_E L d 82 0 [some (zr a), some (zi x1), some (zi x2), none] [] M := eb_ev_s rfl (eb_chk_i ha rfl)
theorem e82_0 {x : Option eb_A} : eb_E L d 82 0 [some (Sum.inr x), v1, v2, v3] (st) M = eb_E L d 82 1 [some (Sum.inr x), v1, v2, v3] (Sum.inr x :: st) M := eb_E_s hk82 rfl
theorem e82_1 {x : Int32} : eb_E L d 82 1 [v0, some (zi x), v2, v3] (st) M = eb_E L d 82 2 [v0, some (zi x), v2, v3] (zi x :: st) M := eb_E_s hk82 rfl
theorem e82_2  : eb_E L d 82 2 ls ([a1, a0]) M = (eb_ev L d 132 [a0, a1] M).bind (fun q => eb_E L d 82 5 ls [q.1] q.2) := eb_E_c hk82 rfl
theorem e82_5 {x : Int32} : eb_E L d 82 5 ls (zi x :: st) M = if x = 0 then eb_E L d 82 18 ls st M else eb_E L d 82 8 ls st M := eb_E_b hk82 rfl
theorem e82_8 {x : Int32} : eb_E L d 82 8 [v0, v1, some (zi x), v3] (st) M = eb_E L d 82 9 [v0, v1, some (zi x), v3] (zi x :: st) M := eb_E_s hk82 rfl
theorem e82_9  : eb_E L d 82 9 ls (st) M = eb_E L d 82 10 ls (zi 1 :: st) M := eb_E_s hk82 rfl
theorem e82_10  : eb_E L d 82 10 ls (st) M = eb_E L d 82 12 ls (zi 30 :: st) M := eb_E_s hk82 rfl
theorem e82_12  : eb_E L d 82 12 ls ([a2, a1, a0]) M = (eb_ev L d 127 [a0, a1, a2] M).bind (fun q => eb_E L d 82 15 ls [q.1] q.2) := eb_E_c hk82 rfl
theorem e82_15 {x : Int32} : eb_E L d 82 15 ls (zi x :: st) M = if x = 0 then eb_E L d 82 18 ls st M else eb_E L d 82 25 ls st M := eb_E_b hk82 rfl
theorem e82_18 {x : Option eb_A} : eb_E L d 82 18 [some (Sum.inr x), v1, v2, v3] (st) M = eb_E L d 82 19 [some (Sum.inr x), v1, v2, v3] (Sum.inr x :: st) M := eb_E_s hk82 rfl
theorem e82_19  : eb_E L d 82 19 ls (st) M = eb_E L d 82 21 ls (zi (-2) :: st) M := eb_E_s hk82 rfl
theorem e82_21  : eb_E L d 82 21 ls ([a1, a0]) M = (eb_ev L d 125 [a0, a1] M).bind (fun q => eb_E L d 82 24 ls [q.1] q.2) := eb_E_c hk82 rfl
theorem e82_24 {x : Int32} : eb_E L d 82 24 ls ([zi x]) M = some (zi x, M) := eb_E_r hk82 rfl
theorem e82_25 {x : Option eb_A} : eb_E L d 82 25 [some (Sum.inr x), v1, v2, v3] (st) M = eb_E L d 82 26 [some (Sum.inr x), v1, v2, v3] (Sum.inr x :: st) M := eb_E_s hk82 rfl
theorem e82_26  : eb_E L d 82 26 ls (Sum.inr (some a) :: st) (nc, ns, I, J, R) = if (eb_ty L a.1).1 = 5 then eb_E L d 82 29 ls (Sum.inr (R a 0) :: st) (nc, ns, I, J, R) else none := eb_E_iy hk82 rfl
theorem e82_29  : eb_E L d 82 29 ls (Sum.inr (some a) :: st) (nc, ns, I, J, R) = if (eb_ty L a.1).1 = 4 then eb_E L d 82 32 ls (Sum.inr (R a 1) :: st) (nc, ns, I, J, R) else none := eb_E_iy hk82 rfl
theorem e82_32 {x : Int32} : eb_E L d 82 32 [v0, some (zi x), v2, v3] (st) M = eb_E L d 82 33 [v0, some (zi x), v2, v3] (zi x :: st) M := eb_E_s hk82 rfl
theorem e82_33 {x : Int32} : eb_E L d 82 33 ls (zi x :: Sum.inr (some a) :: st) (nc, ns, I, J, R) = if (12 ≤ (eb_ty L a.1).1 ∧ (eb_ty L a.1).1 ≤ 16) ∧ eb_in x (eb_ty L a.1).2 = true then eb_E L d 82 34 ls (Sum.inr (R a x.toNatClampNeg) :: st) (nc, ns, I, J, R) else none := eb_E_iy hk82 rfl
theorem e82_34  : eb_E L d 82 34 ls (Sum.inr (some a) :: st) (nc, ns, I, J, R) = if (eb_ty L a.1).1 = 0 then eb_E L d 82 37 ls (zi (I a 1) :: st) (nc, ns, I, J, R) else none := eb_E_iy hk82 rfl
theorem e82_37 {x : Int32} : eb_E L d 82 37 [v0, v1, v2, v3] (zi x :: st) M = eb_E L d 82 38 [v0, v1, v2, some (zi x)] (st) M := eb_E_s hk82 rfl
theorem e82_38 {x : Option eb_A} : eb_E L d 82 38 [some (Sum.inr x), v1, v2, v3] (st) M = eb_E L d 82 39 [some (Sum.inr x), v1, v2, v3] (Sum.inr x :: st) M := eb_E_s hk82 rfl
theorem e82_39  : eb_E L d 82 39 ls (Sum.inr (some a) :: st) (nc, ns, I, J, R) = if (eb_ty L a.1).1 = 5 then eb_E L d 82 42 ls (Sum.inr (R a 0) :: st) (nc, ns, I, J, R) else none := eb_E_iy hk82 rfl
theorem e82_42  : eb_E L d 82 42 ls (Sum.inr (some a) :: st) (nc, ns, I, J, R) = if (eb_ty L a.1).1 = 4 then eb_E L d 82 45 ls (Sum.inr (R a 1) :: st) (nc, ns, I, J, R) else none := eb_E_iy hk82 rfl
theorem e82_45 {x : Int32} : eb_E L d 82 45 [v0, some (zi x), v2, v3] (st) M = eb_E L d 82 46 [v0, some (zi x), v2, v3] (zi x :: st) M := eb_E_s hk82 rfl
theorem e82_46 {x : Int32} : eb_E L d 82 46 ls (zi x :: Sum.inr (some a) :: st) (nc, ns, I, J, R) = if (12 ≤ (eb_ty L a.1).1 ∧ (eb_ty L a.1).1 ≤ 16) ∧ eb_in x (eb_ty L a.1).2 = true then eb_E L d 82 47 ls (Sum.inr (R a x.toNatClampNeg) :: st) (nc, ns, I, J, R) else none := eb_E_iy hk82 rfl
theorem e82_47 {x : Int32} : eb_E L d 82 47 [v0, v1, some (zi x), v3] (st) M = eb_E L d 82 48 [v0, v1, some (zi x), v3] (zi x :: st) M := eb_E_s hk82 rfl
theorem e82_48 {x : Int32} : eb_E L d 82 48 ls (zi x :: Sum.inr (some a) :: st) (nc, ns, I, J, R) = if (eb_ty L a.1).1 = 0 then eb_E L d 82 51 ls (st) (nc, ns, eb_u I a 1 x, J, R) else none := eb_E_iy hk82 rfl
theorem e82_51 {x : Int32} : eb_E L d 82 51 [v0, v1, v2, some (zi x)] (st) M = eb_E L d 82 52 [v0, v1, v2, some (zi x)] (zi x :: st) M := eb_E_s hk82 rfl
theorem e82_52 {x : Int32} : eb_E L d 82 52 ls ([zi x]) M = some (zi x, M) := eb_E_r hk82 rfl
/-! X5_feed -/
theorem hk83 : eb_cd L 83 = eb_look (kt83 L) := rfl
theorem h83 (ha : (eb_ty L a.1).1 = 5) {x1 : Int32} : eb_ev L (d + 1) 83 [zr a, zi x1] M = eb_E L d 83 0 [some (zr a), some (zi x1)] [] M := eb_ev_s rfl (eb_chk_i ha rfl)
theorem e83_0 {x : Int32} : eb_E L d 83 0 [v0, some (zi x)] (st) M = eb_E L d 83 1 [v0, some (zi x)] (zi x :: st) M := eb_E_s hk83 rfl
theorem e83_1  : eb_E L d 83 1 ls (st) M = eb_E L d 83 2 ls (zi 0 :: st) M := eb_E_s hk83 rfl
theorem e83_2  : eb_E L d 83 2 ls (st) M = eb_E L d 83 5 ls (zi 255 :: st) M := eb_E_s hk83 rfl
theorem e83_5  : eb_E L d 83 5 ls ([a2, a1, a0]) M = (eb_ev L d 127 [a0, a1, a2] M).bind (fun q => eb_E L d 83 8 ls [q.1] q.2) := eb_E_c hk83 rfl
theorem e83_8 {x : Int32} : eb_E L d 83 8 ls (zi x :: st) M = if x = 0 then eb_E L d 83 11 ls st M else eb_E L d 83 18 ls st M := eb_E_b hk83 rfl
theorem e83_11 {x : Option eb_A} : eb_E L d 83 11 [some (Sum.inr x), v1] (st) M = eb_E L d 83 12 [some (Sum.inr x), v1] (Sum.inr x :: st) M := eb_E_s hk83 rfl
theorem e83_12  : eb_E L d 83 12 ls (st) M = eb_E L d 83 14 ls (zi (-2) :: st) M := eb_E_s hk83 rfl
theorem e83_14  : eb_E L d 83 14 ls ([a1, a0]) M = (eb_ev L d 125 [a0, a1] M).bind (fun q => eb_E L d 83 17 ls [q.1] q.2) := eb_E_c hk83 rfl
theorem e83_17 {x : Int32} : eb_E L d 83 17 ls ([zi x]) M = some (zi x, M) := eb_E_r hk83 rfl
theorem e83_18 {x : Option eb_A} : eb_E L d 83 18 [some (Sum.inr x), v1] (st) M = eb_E L d 83 19 [some (Sum.inr x), v1] (Sum.inr x :: st) M := eb_E_s hk83 rfl
theorem e83_19  : eb_E L d 83 19 ls (Sum.inr (some a) :: st) (nc, ns, I, J, R) = if (eb_ty L a.1).1 = 5 then eb_E L d 83 22 ls (Sum.inr (R a 5) :: st) (nc, ns, I, J, R) else none := eb_E_iy hk83 rfl
theorem e83_22 {x : Int32} : eb_E L d 83 22 [v0, some (zi x)] (st) M = eb_E L d 83 23 [v0, some (zi x)] (zi x :: st) M := eb_E_s hk83 rfl
theorem e83_23  : eb_E L d 83 23 ls ([a1, a0]) M = (eb_ev L d 24 [a0, a1] M).bind (fun q => eb_E L d 83 26 ls [q.1] q.2) := eb_E_c hk83 rfl
theorem e83_26 {x : Int32} : eb_E L d 83 26 ls (zi x :: st) M = if x = 0 then eb_E L d 83 39 ls st M else eb_E L d 83 29 ls st M := eb_E_b hk83 rfl
theorem e83_29 {x : Option eb_A} : eb_E L d 83 29 [some (Sum.inr x), v1] (st) M = eb_E L d 83 30 [some (Sum.inr x), v1] (Sum.inr x :: st) M := eb_E_s hk83 rfl
theorem e83_30  : eb_E L d 83 30 ls (Sum.inr (some a) :: st) (nc, ns, I, J, R) = if (eb_ty L a.1).1 = 5 then eb_E L d 83 33 ls (Sum.inr (R a 5) :: st) (nc, ns, I, J, R) else none := eb_E_iy hk83 rfl
theorem e83_33  : eb_E L d 83 33 ls (Sum.inr (some a) :: st) (nc, ns, I, J, R) = if (eb_ty L a.1).1 = 3 then eb_E L d 83 36 ls (zi (I a 1) :: st) (nc, ns, I, J, R) else none := eb_E_iy hk83 rfl
theorem e83_36  : eb_E L d 83 36 ls (st) M = eb_E L d 83 45 ls (st) M := eb_E_s hk83 rfl
theorem e83_39 {x : Option eb_A} : eb_E L d 83 39 [some (Sum.inr x), v1] (st) M = eb_E L d 83 40 [some (Sum.inr x), v1] (Sum.inr x :: st) M := eb_E_s hk83 rfl
theorem e83_40  : eb_E L d 83 40 ls (st) M = eb_E L d 83 42 ls (zi (-6) :: st) M := eb_E_s hk83 rfl
theorem e83_42  : eb_E L d 83 42 ls ([a1, a0]) M = (eb_ev L d 125 [a0, a1] M).bind (fun q => eb_E L d 83 45 ls [q.1] q.2) := eb_E_c hk83 rfl
theorem e83_45 {x : Int32} : eb_E L d 83 45 ls ([zi x]) M = some (zi x, M) := eb_E_r hk83 rfl
/-! X5_wipe -/
theorem hk84 : eb_cd L 84 = eb_look (kt84 L) := rfl
theorem h84 (ha : (eb_ty L a.1).1 = 5) : eb_ev L (d + 1) 84 [zr a] M = eb_E L d 84 0 [some (zr a), none] [] M := eb_ev_s rfl (eb_chk_i ha rfl)
theorem e84_0 {x : Option eb_A} : eb_E L d 84 0 [some (Sum.inr x), v1] (st) M = eb_E L d 84 1 [some (Sum.inr x), v1] (Sum.inr x :: st) M := eb_E_s hk84 rfl
theorem e84_1  : eb_E L d 84 1 ls (Sum.inr (some a) :: st) (nc, ns, I, J, R) = if (eb_ty L a.1).1 = 5 then eb_E L d 84 4 ls (Sum.inr (R a 5) :: st) (nc, ns, I, J, R) else none := eb_E_iy hk84 rfl
theorem e84_4  : eb_E L d 84 4 ls (Sum.inr (some a) :: st) (nc, ns, I, J, R) = if (eb_ty L a.1).1 = 3 then eb_E L d 84 7 ls (zi (I a 1) :: st) (nc, ns, I, J, R) else none := eb_E_iy hk84 rfl
theorem e84_7 {x : Int32} : eb_E L d 84 7 [v0, v1] (zi x :: st) M = eb_E L d 84 8 [v0, some (zi x)] (st) M := eb_E_s hk84 rfl
theorem e84_8 {x : Option eb_A} : eb_E L d 84 8 [some (Sum.inr x), v1] (st) M = eb_E L d 84 9 [some (Sum.inr x), v1] (Sum.inr x :: st) M := eb_E_s hk84 rfl
theorem e84_9  : eb_E L d 84 9 ls (Sum.inr (some a) :: st) (nc, ns, I, J, R) = if (eb_ty L a.1).1 = 5 then eb_E L d 84 12 ls (Sum.inr (R a 5) :: st) (nc, ns, I, J, R) else none := eb_E_iy hk84 rfl
theorem e84_12  : eb_E L d 84 12 ls (st) M = eb_E L d 84 13 ls (zi 0 :: st) M := eb_E_s hk84 rfl
theorem e84_13 {x : Int32} : eb_E L d 84 13 ls (zi x :: Sum.inr (some a) :: st) (nc, ns, I, J, R) = if (eb_ty L a.1).1 = 3 then eb_E L d 84 16 ls (st) (nc, ns, eb_u I a 1 x, J, R) else none := eb_E_iy hk84 rfl
theorem e84_16 {x : Int32} : eb_E L d 84 16 [v0, some (zi x)] (st) M = eb_E L d 84 17 [v0, some (zi x)] (zi x :: st) M := eb_E_s hk84 rfl
theorem e84_17 {x : Int32} : eb_E L d 84 17 ls ([zi x]) M = some (zi x, M) := eb_E_r hk84 rfl
/-! X5_valley -/
theorem hk85 : eb_cd L 85 = eb_look (kt85 L) := rfl
theorem h85 (ha : (eb_ty L a.1).1 = 5) : eb_ev L (d + 1) 85 [zr a] M = eb_E L d 85 0 [some (zr a), none] [] M := eb_ev_s rfl (eb_chk_i ha rfl)
theorem e85_0 {x : Option eb_A} : eb_E L d 85 0 [some (Sum.inr x), v1] (st) M = eb_E L d 85 1 [some (Sum.inr x), v1] (Sum.inr x :: st) M := eb_E_s hk85 rfl
theorem e85_1  : eb_E L d 85 1 ls (Sum.inr (some a) :: st) (nc, ns, I, J, R) = if (eb_ty L a.1).1 = 5 then eb_E L d 85 4 ls (Sum.inr (R a 5) :: st) (nc, ns, I, J, R) else none := eb_E_iy hk85 rfl
theorem e85_4 {x : Option eb_A} : eb_E L d 85 4 [some (Sum.inr x), v1] (st) M = eb_E L d 85 5 [some (Sum.inr x), v1] (Sum.inr x :: st) M := eb_E_s hk85 rfl
theorem e85_5 {s0 : Option eb_A} : eb_E L d 85 5 ls ([a0, Sum.inr s0]) M = (eb_ev L d 138 [a0] M).bind (fun q => eb_E L d 85 8 ls [q.1, Sum.inr s0] q.2) := eb_E_c hk85 rfl
theorem e85_8  : eb_E L d 85 8 ls ([a1, a0]) M = (eb_ev L d 25 [a0, a1] M).bind (fun q => eb_E L d 85 11 ls [q.1] q.2) := eb_E_c hk85 rfl
theorem e85_11 {x : Int32} : eb_E L d 85 11 [v0, v1] (zi x :: st) M = eb_E L d 85 12 [v0, some (zi x)] (st) M := eb_E_s hk85 rfl
theorem e85_12 {x : Option eb_A} : eb_E L d 85 12 [some (Sum.inr x), v1] (st) M = eb_E L d 85 13 [some (Sum.inr x), v1] (Sum.inr x :: st) M := eb_E_s hk85 rfl
theorem e85_13  : eb_E L d 85 13 ls (Sum.inr (some a) :: st) (nc, ns, I, J, R) = if (eb_ty L a.1).1 = 5 then eb_E L d 85 16 ls (Sum.inr (R a 5) :: st) (nc, ns, I, J, R) else none := eb_E_iy hk85 rfl
theorem e85_16  : eb_E L d 85 16 ls (st) M = eb_E L d 85 17 ls (zi 0 :: st) M := eb_E_s hk85 rfl
theorem e85_17 {x : Int32} : eb_E L d 85 17 ls (zi x :: Sum.inr (some a) :: st) (nc, ns, I, J, R) = if (eb_ty L a.1).1 = 3 then eb_E L d 85 20 ls (st) (nc, ns, eb_u I a 1 x, J, R) else none := eb_E_iy hk85 rfl
theorem e85_20 {x : Int32} : eb_E L d 85 20 [v0, some (zi x)] (st) M = eb_E L d 85 21 [v0, some (zi x)] (zi x :: st) M := eb_E_s hk85 rfl
theorem e85_21  : eb_E L d 85 21 ls (st) M = eb_E L d 85 22 ls (zi (-1) :: st) M := eb_E_s hk85 rfl
theorem e85_22 {x : Int32} {y : Int32} : eb_E L d 85 22 ls (zi y :: zi x :: st) M = if x = y then eb_E L d 85 25 ls st M else eb_E L d 85 43 ls st M := eb_E_b hk85 rfl
theorem e85_25 {x : Option eb_A} : eb_E L d 85 25 [some (Sum.inr x), v1] (st) M = eb_E L d 85 26 [some (Sum.inr x), v1] (Sum.inr x :: st) M := eb_E_s hk85 rfl
theorem e85_26  : eb_E L d 85 26 ls (st) M = eb_E L d 85 28 ls (zi (-2) :: st) M := eb_E_s hk85 rfl
theorem e85_28  : eb_E L d 85 28 ls ([a1, a0]) M = (eb_ev L d 125 [a0, a1] M).bind (fun q => eb_E L d 85 31 ls [q.1] q.2) := eb_E_c hk85 rfl
theorem e85_31a {x : Int32} : eb_E L d 85 31 ls (zi x :: st) M = eb_E L d 85 32 ls (st) M := eb_E_s hk85 rfl
theorem e85_31b {x : Option eb_A} : eb_E L d 85 31 ls (Sum.inr x :: st) M = eb_E L d 85 32 ls (st) M := eb_E_s hk85 rfl
theorem e85_32  : eb_E L d 85 32 ls (st) M = eb_E L d 85 34 ls (zi (-20) :: st) M := eb_E_s hk85 rfl
theorem e85_34 {x : Option eb_A} : eb_E L d 85 34 [some (Sum.inr x), v1] (st) M = eb_E L d 85 35 [some (Sum.inr x), v1] (Sum.inr x :: st) M := eb_E_s hk85 rfl
theorem e85_35  : eb_E L d 85 35 ls (Sum.inr (some a) :: st) (nc, ns, I, J, R) = if (eb_ty L a.1).1 = 5 then eb_E L d 85 38 ls (Sum.inr (R a 5) :: st) (nc, ns, I, J, R) else none := eb_E_iy hk85 rfl
theorem e85_38  : eb_E L d 85 38 ls (Sum.inr (some a) :: st) (nc, ns, I, J, R) = if (eb_ty L a.1).1 = 3 then eb_E L d 85 41 ls (zi (I a 2) :: st) (nc, ns, I, J, R) else none := eb_E_iy hk85 rfl
theorem e85_41 {x : Int32} {y : Int32} : eb_E L d 85 41 ls (zi y :: zi x :: st) M = eb_E L d 85 42 ls (zi (x - y) :: st) M := eb_E_s hk85 rfl
theorem e85_42 {x : Int32} : eb_E L d 85 42 ls ([zi x]) M = some (zi x, M) := eb_E_r hk85 rfl
theorem e85_43 {x : Option eb_A} : eb_E L d 85 43 [some (Sum.inr x), v1] (st) M = eb_E L d 85 44 [some (Sum.inr x), v1] (Sum.inr x :: st) M := eb_E_s hk85 rfl
theorem e85_44  : eb_E L d 85 44 ls (Sum.inr (some a) :: st) (nc, ns, I, J, R) = if (eb_ty L a.1).1 = 5 then eb_E L d 85 47 ls (Sum.inr (R a 0) :: st) (nc, ns, I, J, R) else none := eb_E_iy hk85 rfl
theorem e85_47 {x : Option eb_A} : eb_E L d 85 47 [some (Sum.inr x), v1] (st) M = eb_E L d 85 48 [some (Sum.inr x), v1] (Sum.inr x :: st) M := eb_E_s hk85 rfl
theorem e85_48  : eb_E L d 85 48 ls (Sum.inr (some a) :: st) (nc, ns, I, J, R) = if (eb_ty L a.1).1 = 5 then eb_E L d 85 51 ls (Sum.inr (R a 1) :: st) (nc, ns, I, J, R) else none := eb_E_iy hk85 rfl
theorem e85_51  : eb_E L d 85 51 ls ([a1, a0]) M = (eb_ev L d 39 [a0, a1] M).bind (fun q => eb_E L d 85 54 ls [] q.2) := eb_E_c hk85 rfl
theorem e85_54 {x : Int32} : eb_E L d 85 54 [v0, some (zi x)] (st) M = eb_E L d 85 55 [v0, some (zi x)] (zi x :: st) M := eb_E_s hk85 rfl
theorem e85_55 {x : Int32} : eb_E L d 85 55 ls ([zi x]) M = some (zi x, M) := eb_E_r hk85 rfl
/-! X5_innOf -/
theorem hk86 : eb_cd L 86 = eb_look (kt86 L) := rfl
theorem h86 (ha : (eb_ty L a.1).1 = 5) {x1 : Int32} {x2 : Int32} : eb_ev L (d + 1) 86 [zr a, zi x1, zi x2] M = eb_E L d 86 0 [some (zr a), some (zi x1), some (zi x2), none] [] M := eb_ev_s rfl (eb_chk_i ha rfl)
theorem e86_0 {x : Option eb_A} : eb_E L d 86 0 [some (Sum.inr x), v1, v2, v3] (st) M = eb_E L d 86 1 [some (Sum.inr x), v1, v2, v3] (Sum.inr x :: st) M := eb_E_s hk86 rfl
theorem e86_1 {x : Int32} : eb_E L d 86 1 [v0, some (zi x), v2, v3] (st) M = eb_E L d 86 2 [v0, some (zi x), v2, v3] (zi x :: st) M := eb_E_s hk86 rfl
theorem e86_2  : eb_E L d 86 2 ls ([a1, a0]) M = (eb_ev L d 131 [a0, a1] M).bind (fun q => eb_E L d 86 5 ls [q.1] q.2) := eb_E_c hk86 rfl
theorem e86_5 {x : Int32} : eb_E L d 86 5 ls (zi x :: st) M = if x = 0 then eb_E L d 86 8 ls st M else eb_E L d 86 15 ls st M := eb_E_b hk86 rfl
theorem e86_8 {x : Option eb_A} : eb_E L d 86 8 [some (Sum.inr x), v1, v2, v3] (st) M = eb_E L d 86 9 [some (Sum.inr x), v1, v2, v3] (Sum.inr x :: st) M := eb_E_s hk86 rfl
theorem e86_9  : eb_E L d 86 9 ls (st) M = eb_E L d 86 11 ls (zi (-2) :: st) M := eb_E_s hk86 rfl
theorem e86_11  : eb_E L d 86 11 ls ([a1, a0]) M = (eb_ev L d 125 [a0, a1] M).bind (fun q => eb_E L d 86 14 ls [q.1] q.2) := eb_E_c hk86 rfl
theorem e86_14 {x : Int32} : eb_E L d 86 14 ls ([zi x]) M = some (zi x, M) := eb_E_r hk86 rfl
theorem e86_15 {x : Option eb_A} : eb_E L d 86 15 [some (Sum.inr x), v1, v2, v3] (st) M = eb_E L d 86 16 [some (Sum.inr x), v1, v2, v3] (Sum.inr x :: st) M := eb_E_s hk86 rfl
theorem e86_16  : eb_E L d 86 16 ls (Sum.inr (some a) :: st) (nc, ns, I, J, R) = if (eb_ty L a.1).1 = 5 then eb_E L d 86 19 ls (Sum.inr (R a 0) :: st) (nc, ns, I, J, R) else none := eb_E_iy hk86 rfl
theorem e86_19  : eb_E L d 86 19 ls (Sum.inr (some a) :: st) (nc, ns, I, J, R) = if (eb_ty L a.1).1 = 4 then eb_E L d 86 22 ls (Sum.inr (R a 0) :: st) (nc, ns, I, J, R) else none := eb_E_iy hk86 rfl
theorem e86_22 {x : Int32} : eb_E L d 86 22 [v0, some (zi x), v2, v3] (st) M = eb_E L d 86 23 [v0, some (zi x), v2, v3] (zi x :: st) M := eb_E_s hk86 rfl
theorem e86_23 {x : Int32} : eb_E L d 86 23 ls (zi x :: Sum.inr (some a) :: st) (nc, ns, I, J, R) = if (12 ≤ (eb_ty L a.1).1 ∧ (eb_ty L a.1).1 ≤ 16) ∧ eb_in x (eb_ty L a.1).2 = true then eb_E L d 86 24 ls (Sum.inr (R a x.toNatClampNeg) :: st) (nc, ns, I, J, R) else none := eb_E_iy hk86 rfl
theorem e86_24 {x : Option eb_A} : eb_E L d 86 24 [v0, v1, v2, v3] (Sum.inr x :: st) M = eb_E L d 86 25 [v0, v1, v2, some (Sum.inr x)] (st) M := eb_E_s hk86 rfl
theorem e86_25 {x : Int32} : eb_E L d 86 25 [v0, v1, some (zi x), v3] (st) M = eb_E L d 86 26 [v0, v1, some (zi x), v3] (zi x :: st) M := eb_E_s hk86 rfl
theorem e86_26 {x : Int32} : eb_E L d 86 26 ls (zi x :: st) M = eb_sw x (fun t => eb_E L d 86 t ls st M) 103 [(0, 68), (1, 73), (2, 78), (3, 83), (4, 88), (5, 93), (6, 98)] := eb_E_w hk86 rfl
theorem e86_68 {x : Option eb_A} : eb_E L d 86 68 [v0, v1, v2, some (Sum.inr x)] (st) M = eb_E L d 86 69 [v0, v1, v2, some (Sum.inr x)] (Sum.inr x :: st) M := eb_E_s hk86 rfl
theorem e86_69  : eb_E L d 86 69 ls (Sum.inr (some a) :: st) (nc, ns, I, J, R) = if (eb_ty L a.1).1 = 1 then eb_E L d 86 72 ls (zi (I a 0) :: st) (nc, ns, I, J, R) else none := eb_E_iy hk86 rfl
theorem e86_72 {x : Int32} : eb_E L d 86 72 ls ([zi x]) M = some (zi x, M) := eb_E_r hk86 rfl
theorem e86_73 {x : Option eb_A} : eb_E L d 86 73 [v0, v1, v2, some (Sum.inr x)] (st) M = eb_E L d 86 74 [v0, v1, v2, some (Sum.inr x)] (Sum.inr x :: st) M := eb_E_s hk86 rfl
theorem e86_74  : eb_E L d 86 74 ls (Sum.inr (some a) :: st) (nc, ns, I, J, R) = if (eb_ty L a.1).1 = 1 then eb_E L d 86 77 ls (zi (I a 1) :: st) (nc, ns, I, J, R) else none := eb_E_iy hk86 rfl
theorem e86_77 {x : Int32} : eb_E L d 86 77 ls ([zi x]) M = some (zi x, M) := eb_E_r hk86 rfl
theorem e86_78 {x : Option eb_A} : eb_E L d 86 78 [v0, v1, v2, some (Sum.inr x)] (st) M = eb_E L d 86 79 [v0, v1, v2, some (Sum.inr x)] (Sum.inr x :: st) M := eb_E_s hk86 rfl
theorem e86_79  : eb_E L d 86 79 ls (Sum.inr (some a) :: st) (nc, ns, I, J, R) = if (eb_ty L a.1).1 = 1 then eb_E L d 86 82 ls (zi (I a 2) :: st) (nc, ns, I, J, R) else none := eb_E_iy hk86 rfl
theorem e86_82 {x : Int32} : eb_E L d 86 82 ls ([zi x]) M = some (zi x, M) := eb_E_r hk86 rfl
theorem e86_83 {x : Option eb_A} : eb_E L d 86 83 [v0, v1, v2, some (Sum.inr x)] (st) M = eb_E L d 86 84 [v0, v1, v2, some (Sum.inr x)] (Sum.inr x :: st) M := eb_E_s hk86 rfl
theorem e86_84  : eb_E L d 86 84 ls (Sum.inr (some a) :: st) (nc, ns, I, J, R) = if (eb_ty L a.1).1 = 1 then eb_E L d 86 87 ls (zi (I a 3) :: st) (nc, ns, I, J, R) else none := eb_E_iy hk86 rfl
theorem e86_87 {x : Int32} : eb_E L d 86 87 ls ([zi x]) M = some (zi x, M) := eb_E_r hk86 rfl
theorem e86_88 {x : Option eb_A} : eb_E L d 86 88 [v0, v1, v2, some (Sum.inr x)] (st) M = eb_E L d 86 89 [v0, v1, v2, some (Sum.inr x)] (Sum.inr x :: st) M := eb_E_s hk86 rfl
theorem e86_89  : eb_E L d 86 89 ls (Sum.inr (some a) :: st) (nc, ns, I, J, R) = if (eb_ty L a.1).1 = 1 then eb_E L d 86 92 ls (zi (I a 4) :: st) (nc, ns, I, J, R) else none := eb_E_iy hk86 rfl
theorem e86_92 {x : Int32} : eb_E L d 86 92 ls ([zi x]) M = some (zi x, M) := eb_E_r hk86 rfl
theorem e86_93 {x : Option eb_A} : eb_E L d 86 93 [v0, v1, v2, some (Sum.inr x)] (st) M = eb_E L d 86 94 [v0, v1, v2, some (Sum.inr x)] (Sum.inr x :: st) M := eb_E_s hk86 rfl
theorem e86_94  : eb_E L d 86 94 ls (Sum.inr (some a) :: st) (nc, ns, I, J, R) = if (eb_ty L a.1).1 = 1 then eb_E L d 86 97 ls (zi (I a 5) :: st) (nc, ns, I, J, R) else none := eb_E_iy hk86 rfl
theorem e86_97 {x : Int32} : eb_E L d 86 97 ls ([zi x]) M = some (zi x, M) := eb_E_r hk86 rfl
theorem e86_98 {x : Option eb_A} : eb_E L d 86 98 [v0, v1, v2, some (Sum.inr x)] (st) M = eb_E L d 86 99 [v0, v1, v2, some (Sum.inr x)] (Sum.inr x :: st) M := eb_E_s hk86 rfl
theorem e86_99  : eb_E L d 86 99 ls (Sum.inr (some a) :: st) (nc, ns, I, J, R) = if (eb_ty L a.1).1 = 1 then eb_E L d 86 102 ls (zi (I a 6) :: st) (nc, ns, I, J, R) else none := eb_E_iy hk86 rfl
theorem e86_102 {x : Int32} : eb_E L d 86 102 ls ([zi x]) M = some (zi x, M) := eb_E_r hk86 rfl
theorem e86_103 {x : Option eb_A} : eb_E L d 86 103 [some (Sum.inr x), v1, v2, v3] (st) M = eb_E L d 86 104 [some (Sum.inr x), v1, v2, v3] (Sum.inr x :: st) M := eb_E_s hk86 rfl
theorem e86_104  : eb_E L d 86 104 ls (st) M = eb_E L d 86 106 ls (zi (-2) :: st) M := eb_E_s hk86 rfl
theorem e86_106  : eb_E L d 86 106 ls ([a1, a0]) M = (eb_ev L d 125 [a0, a1] M).bind (fun q => eb_E L d 86 109 ls [q.1] q.2) := eb_E_c hk86 rfl
theorem e86_109 {x : Int32} : eb_E L d 86 109 ls ([zi x]) M = some (zi x, M) := eb_E_r hk86 rfl
/-! X5_goerOf -/
theorem hk87 : eb_cd L 87 = eb_look (kt87 L) := rfl
theorem h87 (ha : (eb_ty L a.1).1 = 5) {x1 : Int32} {x2 : Int32} : eb_ev L (d + 1) 87 [zr a, zi x1, zi x2] M = eb_E L d 87 0 [some (zr a), some (zi x1), some (zi x2), none] [] M := eb_ev_s rfl (eb_chk_i ha rfl)
theorem e87_0 {x : Option eb_A} : eb_E L d 87 0 [some (Sum.inr x), v1, v2, v3] (st) M = eb_E L d 87 1 [some (Sum.inr x), v1, v2, v3] (Sum.inr x :: st) M := eb_E_s hk87 rfl
theorem e87_1 {x : Int32} : eb_E L d 87 1 [v0, some (zi x), v2, v3] (st) M = eb_E L d 87 2 [v0, some (zi x), v2, v3] (zi x :: st) M := eb_E_s hk87 rfl
theorem e87_2  : eb_E L d 87 2 ls ([a1, a0]) M = (eb_ev L d 132 [a0, a1] M).bind (fun q => eb_E L d 87 5 ls [q.1] q.2) := eb_E_c hk87 rfl
theorem e87_5 {x : Int32} : eb_E L d 87 5 ls (zi x :: st) M = if x = 0 then eb_E L d 87 8 ls st M else eb_E L d 87 15 ls st M := eb_E_b hk87 rfl
theorem e87_8 {x : Option eb_A} : eb_E L d 87 8 [some (Sum.inr x), v1, v2, v3] (st) M = eb_E L d 87 9 [some (Sum.inr x), v1, v2, v3] (Sum.inr x :: st) M := eb_E_s hk87 rfl
theorem e87_9  : eb_E L d 87 9 ls (st) M = eb_E L d 87 11 ls (zi (-2) :: st) M := eb_E_s hk87 rfl
theorem e87_11  : eb_E L d 87 11 ls ([a1, a0]) M = (eb_ev L d 125 [a0, a1] M).bind (fun q => eb_E L d 87 14 ls [q.1] q.2) := eb_E_c hk87 rfl
theorem e87_14 {x : Int32} : eb_E L d 87 14 ls ([zi x]) M = some (zi x, M) := eb_E_r hk87 rfl
theorem e87_15 {x : Option eb_A} : eb_E L d 87 15 [some (Sum.inr x), v1, v2, v3] (st) M = eb_E L d 87 16 [some (Sum.inr x), v1, v2, v3] (Sum.inr x :: st) M := eb_E_s hk87 rfl
theorem e87_16  : eb_E L d 87 16 ls (Sum.inr (some a) :: st) (nc, ns, I, J, R) = if (eb_ty L a.1).1 = 5 then eb_E L d 87 19 ls (Sum.inr (R a 0) :: st) (nc, ns, I, J, R) else none := eb_E_iy hk87 rfl
theorem e87_19  : eb_E L d 87 19 ls (Sum.inr (some a) :: st) (nc, ns, I, J, R) = if (eb_ty L a.1).1 = 4 then eb_E L d 87 22 ls (Sum.inr (R a 1) :: st) (nc, ns, I, J, R) else none := eb_E_iy hk87 rfl
theorem e87_22 {x : Int32} : eb_E L d 87 22 [v0, some (zi x), v2, v3] (st) M = eb_E L d 87 23 [v0, some (zi x), v2, v3] (zi x :: st) M := eb_E_s hk87 rfl
theorem e87_23 {x : Int32} : eb_E L d 87 23 ls (zi x :: Sum.inr (some a) :: st) (nc, ns, I, J, R) = if (12 ≤ (eb_ty L a.1).1 ∧ (eb_ty L a.1).1 ≤ 16) ∧ eb_in x (eb_ty L a.1).2 = true then eb_E L d 87 24 ls (Sum.inr (R a x.toNatClampNeg) :: st) (nc, ns, I, J, R) else none := eb_E_iy hk87 rfl
theorem e87_24 {x : Option eb_A} : eb_E L d 87 24 [v0, v1, v2, v3] (Sum.inr x :: st) M = eb_E L d 87 25 [v0, v1, v2, some (Sum.inr x)] (st) M := eb_E_s hk87 rfl
theorem e87_25 {x : Int32} : eb_E L d 87 25 [v0, v1, some (zi x), v3] (st) M = eb_E L d 87 26 [v0, v1, some (zi x), v3] (zi x :: st) M := eb_E_s hk87 rfl
theorem e87_26 {x : Int32} : eb_E L d 87 26 ls (zi x :: st) M = eb_sw x (fun t => eb_E L d 87 t ls st M) 67 [(0, 52), (1, 57), (2, 62)] := eb_E_w hk87 rfl
theorem e87_52 {x : Option eb_A} : eb_E L d 87 52 [v0, v1, v2, some (Sum.inr x)] (st) M = eb_E L d 87 53 [v0, v1, v2, some (Sum.inr x)] (Sum.inr x :: st) M := eb_E_s hk87 rfl
theorem e87_53  : eb_E L d 87 53 ls (Sum.inr (some a) :: st) (nc, ns, I, J, R) = if (eb_ty L a.1).1 = 0 then eb_E L d 87 56 ls (zi (I a 0) :: st) (nc, ns, I, J, R) else none := eb_E_iy hk87 rfl
theorem e87_56 {x : Int32} : eb_E L d 87 56 ls ([zi x]) M = some (zi x, M) := eb_E_r hk87 rfl
theorem e87_57 {x : Option eb_A} : eb_E L d 87 57 [v0, v1, v2, some (Sum.inr x)] (st) M = eb_E L d 87 58 [v0, v1, v2, some (Sum.inr x)] (Sum.inr x :: st) M := eb_E_s hk87 rfl
theorem e87_58  : eb_E L d 87 58 ls (Sum.inr (some a) :: st) (nc, ns, I, J, R) = if (eb_ty L a.1).1 = 0 then eb_E L d 87 61 ls (zi (I a 1) :: st) (nc, ns, I, J, R) else none := eb_E_iy hk87 rfl
theorem e87_61 {x : Int32} : eb_E L d 87 61 ls ([zi x]) M = some (zi x, M) := eb_E_r hk87 rfl
theorem e87_62 {x : Option eb_A} : eb_E L d 87 62 [v0, v1, v2, some (Sum.inr x)] (st) M = eb_E L d 87 63 [v0, v1, v2, some (Sum.inr x)] (Sum.inr x :: st) M := eb_E_s hk87 rfl
theorem e87_63  : eb_E L d 87 63 ls (Sum.inr (some a) :: st) (nc, ns, I, J, R) = if (eb_ty L a.1).1 = 0 then eb_E L d 87 66 ls (zi (I a 2) :: st) (nc, ns, I, J, R) else none := eb_E_iy hk87 rfl
theorem e87_66 {x : Int32} : eb_E L d 87 66 ls ([zi x]) M = some (zi x, M) := eb_E_r hk87 rfl
theorem e87_67 {x : Option eb_A} : eb_E L d 87 67 [some (Sum.inr x), v1, v2, v3] (st) M = eb_E L d 87 68 [some (Sum.inr x), v1, v2, v3] (Sum.inr x :: st) M := eb_E_s hk87 rfl
theorem e87_68  : eb_E L d 87 68 ls (st) M = eb_E L d 87 70 ls (zi (-2) :: st) M := eb_E_s hk87 rfl
theorem e87_70  : eb_E L d 87 70 ls ([a1, a0]) M = (eb_ev L d 125 [a0, a1] M).bind (fun q => eb_E L d 87 73 ls [q.1] q.2) := eb_E_c hk87 rfl
theorem e87_73 {x : Int32} : eb_E L d 87 73 ls ([zi x]) M = some (zi x, M) := eb_E_r hk87 rfl
/-! X5_score -/
theorem hk88 : eb_cd L 88 = eb_look (kt88 L) := rfl
theorem h88 (ha : (eb_ty L a.1).1 = 5) {x1 : Int32} {x2 : Int32} : eb_ev L (d + 1) 88 [zr a, zi x1, zi x2] M = eb_E L d 88 0 [some (zr a), some (zi x1), some (zi x2)] [] M := eb_ev_s rfl (eb_chk_i ha rfl)
theorem e88_0 {x : Option eb_A} : eb_E L d 88 0 [some (Sum.inr x), v1, v2] (st) M = eb_E L d 88 1 [some (Sum.inr x), v1, v2] (Sum.inr x :: st) M := eb_E_s hk88 rfl
theorem e88_1 {x : Int32} : eb_E L d 88 1 [v0, some (zi x), v2] (st) M = eb_E L d 88 2 [v0, some (zi x), v2] (zi x :: st) M := eb_E_s hk88 rfl
theorem e88_2  : eb_E L d 88 2 ls ([a1, a0]) M = (eb_ev L d 132 [a0, a1] M).bind (fun q => eb_E L d 88 5 ls [q.1] q.2) := eb_E_c hk88 rfl
theorem e88_5 {x : Int32} : eb_E L d 88 5 ls (zi x :: st) M = if x = 0 then eb_E L d 88 16 ls st M else eb_E L d 88 8 ls st M := eb_E_b hk88 rfl
theorem e88_8 {x : Option eb_A} : eb_E L d 88 8 [some (Sum.inr x), v1, v2] (st) M = eb_E L d 88 9 [some (Sum.inr x), v1, v2] (Sum.inr x :: st) M := eb_E_s hk88 rfl
theorem e88_9 {x : Int32} : eb_E L d 88 9 [v0, v1, some (zi x)] (st) M = eb_E L d 88 10 [v0, v1, some (zi x)] (zi x :: st) M := eb_E_s hk88 rfl
theorem e88_10  : eb_E L d 88 10 ls ([a1, a0]) M = (eb_ev L d 131 [a0, a1] M).bind (fun q => eb_E L d 88 13 ls [q.1] q.2) := eb_E_c hk88 rfl
theorem e88_13 {x : Int32} : eb_E L d 88 13 ls (zi x :: st) M = if x = 0 then eb_E L d 88 16 ls st M else eb_E L d 88 23 ls st M := eb_E_b hk88 rfl
theorem e88_16 {x : Option eb_A} : eb_E L d 88 16 [some (Sum.inr x), v1, v2] (st) M = eb_E L d 88 17 [some (Sum.inr x), v1, v2] (Sum.inr x :: st) M := eb_E_s hk88 rfl
theorem e88_17  : eb_E L d 88 17 ls (st) M = eb_E L d 88 19 ls (zi (-2) :: st) M := eb_E_s hk88 rfl
theorem e88_19  : eb_E L d 88 19 ls ([a1, a0]) M = (eb_ev L d 126 [a0, a1] M).bind (fun q => eb_E L d 88 22 ls [q.1] q.2) := eb_E_c hk88 rfl
theorem e88_22 {x : Int32} : eb_E L d 88 22 ls ([zi x]) M = some (zi x, M) := eb_E_r hk88 rfl
theorem e88_23 {x : Option eb_A} : eb_E L d 88 23 [some (Sum.inr x), v1, v2] (st) M = eb_E L d 88 24 [some (Sum.inr x), v1, v2] (Sum.inr x :: st) M := eb_E_s hk88 rfl
theorem e88_24  : eb_E L d 88 24 ls (Sum.inr (some a) :: st) (nc, ns, I, J, R) = if (eb_ty L a.1).1 = 5 then eb_E L d 88 27 ls (Sum.inr (R a 0) :: st) (nc, ns, I, J, R) else none := eb_E_iy hk88 rfl
theorem e88_27 {x : Option eb_A} : eb_E L d 88 27 [some (Sum.inr x), v1, v2] (st) M = eb_E L d 88 28 [some (Sum.inr x), v1, v2] (Sum.inr x :: st) M := eb_E_s hk88 rfl
theorem e88_28  : eb_E L d 88 28 ls (Sum.inr (some a) :: st) (nc, ns, I, J, R) = if (eb_ty L a.1).1 = 5 then eb_E L d 88 31 ls (Sum.inr (R a 0) :: st) (nc, ns, I, J, R) else none := eb_E_iy hk88 rfl
theorem e88_31  : eb_E L d 88 31 ls (Sum.inr (some a) :: st) (nc, ns, I, J, R) = if (eb_ty L a.1).1 = 4 then eb_E L d 88 34 ls (Sum.inr (R a 1) :: st) (nc, ns, I, J, R) else none := eb_E_iy hk88 rfl
theorem e88_34 {x : Int32} : eb_E L d 88 34 [v0, some (zi x), v2] (st) M = eb_E L d 88 35 [v0, some (zi x), v2] (zi x :: st) M := eb_E_s hk88 rfl
theorem e88_35 {x : Int32} : eb_E L d 88 35 ls (zi x :: Sum.inr (some a) :: st) (nc, ns, I, J, R) = if (12 ≤ (eb_ty L a.1).1 ∧ (eb_ty L a.1).1 ≤ 16) ∧ eb_in x (eb_ty L a.1).2 = true then eb_E L d 88 36 ls (Sum.inr (R a x.toNatClampNeg) :: st) (nc, ns, I, J, R) else none := eb_E_iy hk88 rfl
theorem e88_36 {x : Option eb_A} : eb_E L d 88 36 [some (Sum.inr x), v1, v2] (st) M = eb_E L d 88 37 [some (Sum.inr x), v1, v2] (Sum.inr x :: st) M := eb_E_s hk88 rfl
theorem e88_37  : eb_E L d 88 37 ls (Sum.inr (some a) :: st) (nc, ns, I, J, R) = if (eb_ty L a.1).1 = 5 then eb_E L d 88 40 ls (Sum.inr (R a 0) :: st) (nc, ns, I, J, R) else none := eb_E_iy hk88 rfl
theorem e88_40  : eb_E L d 88 40 ls (Sum.inr (some a) :: st) (nc, ns, I, J, R) = if (eb_ty L a.1).1 = 4 then eb_E L d 88 43 ls (Sum.inr (R a 0) :: st) (nc, ns, I, J, R) else none := eb_E_iy hk88 rfl
theorem e88_43 {x : Int32} : eb_E L d 88 43 [v0, v1, some (zi x)] (st) M = eb_E L d 88 44 [v0, v1, some (zi x)] (zi x :: st) M := eb_E_s hk88 rfl
theorem e88_44 {x : Int32} : eb_E L d 88 44 ls (zi x :: Sum.inr (some a) :: st) (nc, ns, I, J, R) = if (12 ≤ (eb_ty L a.1).1 ∧ (eb_ty L a.1).1 ≤ 16) ∧ eb_in x (eb_ty L a.1).2 = true then eb_E L d 88 45 ls (Sum.inr (R a x.toNatClampNeg) :: st) (nc, ns, I, J, R) else none := eb_E_iy hk88 rfl
theorem e88_45  : eb_E L d 88 45 ls ([a2, a1, a0]) M = (eb_ev L d 47 [a0, a1, a2] M).bind (fun q => eb_E L d 88 48 ls [q.1] q.2) := eb_E_c hk88 rfl
theorem e88_48 {x : Int32} : eb_E L d 88 48 ls ([zi x]) M = some (zi x, M) := eb_E_r hk88 rfl
/-! X5_sleeps -/
theorem hk89 : eb_cd L 89 = eb_look (kt89 L) := rfl
theorem h89 (ha : (eb_ty L a.1).1 = 5) {x1 : Int32} {x2 : Int32} : eb_ev L (d + 1) 89 [zr a, zi x1, zi x2] M = eb_E L d 89 0 [some (zr a), some (zi x1), some (zi x2)] [] M := eb_ev_s rfl (eb_chk_i ha rfl)
theorem e89_0 {x : Option eb_A} : eb_E L d 89 0 [some (Sum.inr x), v1, v2] (st) M = eb_E L d 89 1 [some (Sum.inr x), v1, v2] (Sum.inr x :: st) M := eb_E_s hk89 rfl
theorem e89_1 {x : Int32} : eb_E L d 89 1 [v0, some (zi x), v2] (st) M = eb_E L d 89 2 [v0, some (zi x), v2] (zi x :: st) M := eb_E_s hk89 rfl
theorem e89_2  : eb_E L d 89 2 ls ([a1, a0]) M = (eb_ev L d 132 [a0, a1] M).bind (fun q => eb_E L d 89 5 ls [q.1] q.2) := eb_E_c hk89 rfl
theorem e89_5 {x : Int32} : eb_E L d 89 5 ls (zi x :: st) M = if x = 0 then eb_E L d 89 16 ls st M else eb_E L d 89 8 ls st M := eb_E_b hk89 rfl
theorem e89_8 {x : Option eb_A} : eb_E L d 89 8 [some (Sum.inr x), v1, v2] (st) M = eb_E L d 89 9 [some (Sum.inr x), v1, v2] (Sum.inr x :: st) M := eb_E_s hk89 rfl
theorem e89_9 {x : Int32} : eb_E L d 89 9 [v0, v1, some (zi x)] (st) M = eb_E L d 89 10 [v0, v1, some (zi x)] (zi x :: st) M := eb_E_s hk89 rfl
theorem e89_10  : eb_E L d 89 10 ls ([a1, a0]) M = (eb_ev L d 131 [a0, a1] M).bind (fun q => eb_E L d 89 13 ls [q.1] q.2) := eb_E_c hk89 rfl
theorem e89_13 {x : Int32} : eb_E L d 89 13 ls (zi x :: st) M = if x = 0 then eb_E L d 89 16 ls st M else eb_E L d 89 23 ls st M := eb_E_b hk89 rfl
theorem e89_16 {x : Option eb_A} : eb_E L d 89 16 [some (Sum.inr x), v1, v2] (st) M = eb_E L d 89 17 [some (Sum.inr x), v1, v2] (Sum.inr x :: st) M := eb_E_s hk89 rfl
theorem e89_17  : eb_E L d 89 17 ls (st) M = eb_E L d 89 19 ls (zi (-2) :: st) M := eb_E_s hk89 rfl
theorem e89_19  : eb_E L d 89 19 ls ([a1, a0]) M = (eb_ev L d 125 [a0, a1] M).bind (fun q => eb_E L d 89 22 ls [q.1] q.2) := eb_E_c hk89 rfl
theorem e89_22 {x : Int32} : eb_E L d 89 22 ls ([zi x]) M = some (zi x, M) := eb_E_r hk89 rfl
theorem e89_23 {x : Option eb_A} : eb_E L d 89 23 [some (Sum.inr x), v1, v2] (st) M = eb_E L d 89 24 [some (Sum.inr x), v1, v2] (Sum.inr x :: st) M := eb_E_s hk89 rfl
theorem e89_24  : eb_E L d 89 24 ls ([a0]) M = (eb_ev L d 137 [a0] M).bind (fun q => eb_E L d 89 27 ls [q.1] q.2) := eb_E_c hk89 rfl
theorem e89_27  : eb_E L d 89 27 ls (Sum.inr (some a) :: st) (nc, ns, I, J, R) = if (eb_ty L a.1).1 = 4 then eb_E L d 89 30 ls (Sum.inr (R a 1) :: st) (nc, ns, I, J, R) else none := eb_E_iy hk89 rfl
theorem e89_30 {x : Int32} : eb_E L d 89 30 [v0, some (zi x), v2] (st) M = eb_E L d 89 31 [v0, some (zi x), v2] (zi x :: st) M := eb_E_s hk89 rfl
theorem e89_31 {x : Int32} : eb_E L d 89 31 ls (zi x :: Sum.inr (some a) :: st) (nc, ns, I, J, R) = if (12 ≤ (eb_ty L a.1).1 ∧ (eb_ty L a.1).1 ≤ 16) ∧ eb_in x (eb_ty L a.1).2 = true then eb_E L d 89 32 ls (Sum.inr (R a x.toNatClampNeg) :: st) (nc, ns, I, J, R) else none := eb_E_iy hk89 rfl
theorem e89_32  : eb_E L d 89 32 ls (Sum.inr (some a) :: st) (nc, ns, I, J, R) = if (eb_ty L a.1).1 = 0 then eb_E L d 89 35 ls (Sum.inr (R a 3) :: st) (nc, ns, I, J, R) else none := eb_E_iy hk89 rfl
theorem e89_35 {x : Int32} : eb_E L d 89 35 [v0, v1, some (zi x)] (st) M = eb_E L d 89 36 [v0, v1, some (zi x)] (zi x :: st) M := eb_E_s hk89 rfl
theorem e89_36 {x : Int32} : eb_E L d 89 36 ls (zi x :: Sum.inr (some a) :: st) (nc, ns, I, J, R) = if (eb_ty L a.1).1 = 10 ∧ eb_in x (eb_ty L a.1).2 = true then eb_E L d 89 37 ls (zi (I a x.toNatClampNeg) :: st) (nc, ns, I, J, R) else none := eb_E_iy hk89 rfl
theorem e89_37 {x : Int32} : eb_E L d 89 37 ls ([zi x]) M = some (zi x, M) := eb_E_r hk89 rfl
/-! X5_guests -/
theorem hk90 : eb_cd L 90 = eb_look (kt90 L) := rfl
theorem h90 (ha : (eb_ty L a.1).1 = 5) {x1 : Int32} : eb_ev L (d + 1) 90 [zr a, zi x1] M = eb_E L d 90 0 [some (zr a), some (zi x1)] [] M := eb_ev_s rfl (eb_chk_i ha rfl)
theorem e90_0 {x : Option eb_A} : eb_E L d 90 0 [some (Sum.inr x), v1] (st) M = eb_E L d 90 1 [some (Sum.inr x), v1] (Sum.inr x :: st) M := eb_E_s hk90 rfl
theorem e90_1 {x : Int32} : eb_E L d 90 1 [v0, some (zi x)] (st) M = eb_E L d 90 2 [v0, some (zi x)] (zi x :: st) M := eb_E_s hk90 rfl
theorem e90_2  : eb_E L d 90 2 ls ([a1, a0]) M = (eb_ev L d 131 [a0, a1] M).bind (fun q => eb_E L d 90 5 ls [q.1] q.2) := eb_E_c hk90 rfl
theorem e90_5 {x : Int32} : eb_E L d 90 5 ls (zi x :: st) M = if x = 0 then eb_E L d 90 23 ls st M else eb_E L d 90 8 ls st M := eb_E_b hk90 rfl
theorem e90_8 {x : Option eb_A} : eb_E L d 90 8 [some (Sum.inr x), v1] (st) M = eb_E L d 90 9 [some (Sum.inr x), v1] (Sum.inr x :: st) M := eb_E_s hk90 rfl
theorem e90_9  : eb_E L d 90 9 ls ([a0]) M = (eb_ev L d 137 [a0] M).bind (fun q => eb_E L d 90 12 ls [q.1] q.2) := eb_E_c hk90 rfl
theorem e90_12  : eb_E L d 90 12 ls (Sum.inr (some a) :: st) (nc, ns, I, J, R) = if (eb_ty L a.1).1 = 4 then eb_E L d 90 15 ls (Sum.inr (R a 0) :: st) (nc, ns, I, J, R) else none := eb_E_iy hk90 rfl
theorem e90_15 {x : Int32} : eb_E L d 90 15 [v0, some (zi x)] (st) M = eb_E L d 90 16 [v0, some (zi x)] (zi x :: st) M := eb_E_s hk90 rfl
theorem e90_16 {x : Int32} : eb_E L d 90 16 ls (zi x :: Sum.inr (some a) :: st) (nc, ns, I, J, R) = if (12 ≤ (eb_ty L a.1).1 ∧ (eb_ty L a.1).1 ≤ 16) ∧ eb_in x (eb_ty L a.1).2 = true then eb_E L d 90 17 ls (Sum.inr (R a x.toNatClampNeg) :: st) (nc, ns, I, J, R) else none := eb_E_iy hk90 rfl
theorem e90_17  : eb_E L d 90 17 ls (Sum.inr (some a) :: st) (nc, ns, I, J, R) = if (eb_ty L a.1).1 = 1 then eb_E L d 90 20 ls (zi (I a 7) :: st) (nc, ns, I, J, R) else none := eb_E_iy hk90 rfl
theorem e90_20  : eb_E L d 90 20 ls (st) M = eb_E L d 90 29 ls (st) M := eb_E_s hk90 rfl
theorem e90_23 {x : Option eb_A} : eb_E L d 90 23 [some (Sum.inr x), v1] (st) M = eb_E L d 90 24 [some (Sum.inr x), v1] (Sum.inr x :: st) M := eb_E_s hk90 rfl
theorem e90_24  : eb_E L d 90 24 ls (st) M = eb_E L d 90 26 ls (zi (-2) :: st) M := eb_E_s hk90 rfl
theorem e90_26  : eb_E L d 90 26 ls ([a1, a0]) M = (eb_ev L d 125 [a0, a1] M).bind (fun q => eb_E L d 90 29 ls [q.1] q.2) := eb_E_c hk90 rfl
theorem e90_29 {x : Int32} : eb_E L d 90 29 ls ([zi x]) M = some (zi x, M) := eb_E_r hk90 rfl
/-! X5_out -/
theorem hk91 : eb_cd L 91 = eb_look (kt91 L) := rfl
theorem h91 (ha : (eb_ty L a.1).1 = 5) {x1 : Int32} : eb_ev L (d + 1) 91 [zr a, zi x1] M = eb_E L d 91 0 [some (zr a), some (zi x1)] [] M := eb_ev_s rfl (eb_chk_i ha rfl)
theorem e91_0 {x : Option eb_A} : eb_E L d 91 0 [some (Sum.inr x), v1] (st) M = eb_E L d 91 1 [some (Sum.inr x), v1] (Sum.inr x :: st) M := eb_E_s hk91 rfl
theorem e91_1 {x : Int32} : eb_E L d 91 1 [v0, some (zi x)] (st) M = eb_E L d 91 2 [v0, some (zi x)] (zi x :: st) M := eb_E_s hk91 rfl
theorem e91_2  : eb_E L d 91 2 ls ([a1, a0]) M = (eb_ev L d 133 [a0, a1] M).bind (fun q => eb_E L d 91 5 ls [q.1] q.2) := eb_E_c hk91 rfl
theorem e91_5 {x : Int32} : eb_E L d 91 5 ls (zi x :: st) M = if x = 0 then eb_E L d 91 8 ls st M else eb_E L d 91 15 ls st M := eb_E_b hk91 rfl
theorem e91_8 {x : Option eb_A} : eb_E L d 91 8 [some (Sum.inr x), v1] (st) M = eb_E L d 91 9 [some (Sum.inr x), v1] (Sum.inr x :: st) M := eb_E_s hk91 rfl
theorem e91_9  : eb_E L d 91 9 ls (st) M = eb_E L d 91 11 ls (zi (-2) :: st) M := eb_E_s hk91 rfl
theorem e91_11  : eb_E L d 91 11 ls ([a1, a0]) M = (eb_ev L d 125 [a0, a1] M).bind (fun q => eb_E L d 91 14 ls [q.1] q.2) := eb_E_c hk91 rfl
theorem e91_14 {x : Int32} : eb_E L d 91 14 ls ([zi x]) M = some (zi x, M) := eb_E_r hk91 rfl
theorem e91_15 {x : Int32} : eb_E L d 91 15 [v0, some (zi x)] (st) M = eb_E L d 91 16 [v0, some (zi x)] (zi x :: st) M := eb_E_s hk91 rfl
theorem e91_16  : eb_E L d 91 16 ls (st) M = eb_E L d 91 17 ls (zi (-1) :: st) M := eb_E_s hk91 rfl
theorem e91_17 {x : Int32} {y : Int32} : eb_E L d 91 17 ls (zi y :: zi x :: st) M = if x = y then eb_E L d 91 20 ls st M else eb_E L d 91 30 ls st M := eb_E_b hk91 rfl
theorem e91_20 {x : Option eb_A} : eb_E L d 91 20 [some (Sum.inr x), v1] (st) M = eb_E L d 91 21 [some (Sum.inr x), v1] (Sum.inr x :: st) M := eb_E_s hk91 rfl
theorem e91_21  : eb_E L d 91 21 ls ([a0]) M = (eb_ev L d 137 [a0] M).bind (fun q => eb_E L d 91 24 ls [q.1] q.2) := eb_E_c hk91 rfl
theorem e91_24  : eb_E L d 91 24 ls ([a0]) M = (eb_ev L d 58 [a0] M).bind (fun q => eb_E L d 91 27 ls [q.1] q.2) := eb_E_c hk91 rfl
theorem e91_27  : eb_E L d 91 27 ls (st) M = eb_E L d 91 42 ls (st) M := eb_E_s hk91 rfl
theorem e91_30 {x : Option eb_A} : eb_E L d 91 30 [some (Sum.inr x), v1] (st) M = eb_E L d 91 31 [some (Sum.inr x), v1] (Sum.inr x :: st) M := eb_E_s hk91 rfl
theorem e91_31  : eb_E L d 91 31 ls ([a0]) M = (eb_ev L d 137 [a0] M).bind (fun q => eb_E L d 91 34 ls [q.1] q.2) := eb_E_c hk91 rfl
theorem e91_34  : eb_E L d 91 34 ls (Sum.inr (some a) :: st) (nc, ns, I, J, R) = if (eb_ty L a.1).1 = 4 then eb_E L d 91 37 ls (Sum.inr (R a 1) :: st) (nc, ns, I, J, R) else none := eb_E_iy hk91 rfl
theorem e91_37 {x : Int32} : eb_E L d 91 37 [v0, some (zi x)] (st) M = eb_E L d 91 38 [v0, some (zi x)] (zi x :: st) M := eb_E_s hk91 rfl
theorem e91_38 {x : Int32} : eb_E L d 91 38 ls (zi x :: Sum.inr (some a) :: st) (nc, ns, I, J, R) = if (12 ≤ (eb_ty L a.1).1 ∧ (eb_ty L a.1).1 ≤ 16) ∧ eb_in x (eb_ty L a.1).2 = true then eb_E L d 91 39 ls (Sum.inr (R a x.toNatClampNeg) :: st) (nc, ns, I, J, R) else none := eb_E_iy hk91 rfl
theorem e91_39  : eb_E L d 91 39 ls (Sum.inr (some a) :: st) (nc, ns, I, J, R) = if (eb_ty L a.1).1 = 0 then eb_E L d 91 42 ls (zi (I a 4) :: st) (nc, ns, I, J, R) else none := eb_E_iy hk91 rfl
theorem e91_42 {x : Int32} : eb_E L d 91 42 ls ([zi x]) M = some (zi x, M) := eb_E_r hk91 rfl
/-! X5_full -/
theorem hk92 : eb_cd L 92 = eb_look (kt92 L) := rfl
theorem h92 (ha : (eb_ty L a.1).1 = 5) : eb_ev L (d + 1) 92 [zr a] M = eb_E L d 92 0 [some (zr a)] [] M := eb_ev_s rfl (eb_chk_i ha rfl)
theorem e92_0 {x : Option eb_A} : eb_E L d 92 0 [some (Sum.inr x)] (st) M = eb_E L d 92 1 [some (Sum.inr x)] (Sum.inr x :: st) M := eb_E_s hk92 rfl
theorem e92_1  : eb_E L d 92 1 ls ([a0]) M = (eb_ev L d 137 [a0] M).bind (fun q => eb_E L d 92 4 ls [q.1] q.2) := eb_E_c hk92 rfl
theorem e92_4  : eb_E L d 92 4 ls ([a0]) M = (eb_ev L d 57 [a0] M).bind (fun q => eb_E L d 92 7 ls [q.1] q.2) := eb_E_c hk92 rfl
theorem e92_7 {x : Int32} : eb_E L d 92 7 ls ([zi x]) M = some (zi x, M) := eb_E_r hk92 rfl
/-! X5_joy -/
theorem hk93 : eb_cd L 93 = eb_look (kt93 L) := rfl
theorem h93 (ha : (eb_ty L a.1).1 = 5) {x1 : Int32} : eb_ev L (d + 1) 93 [zr a, zi x1] M = eb_E L d 93 0 [some (zr a), some (zi x1)] [] M := eb_ev_s rfl (eb_chk_i ha rfl)
theorem e93_0 {x : Option eb_A} : eb_E L d 93 0 [some (Sum.inr x), v1] (st) M = eb_E L d 93 1 [some (Sum.inr x), v1] (Sum.inr x :: st) M := eb_E_s hk93 rfl
theorem e93_1 {x : Int32} : eb_E L d 93 1 [v0, some (zi x)] (st) M = eb_E L d 93 2 [v0, some (zi x)] (zi x :: st) M := eb_E_s hk93 rfl
theorem e93_2  : eb_E L d 93 2 ls ([a1, a0]) M = (eb_ev L d 133 [a0, a1] M).bind (fun q => eb_E L d 93 5 ls [q.1] q.2) := eb_E_c hk93 rfl
theorem e93_5 {x : Int32} : eb_E L d 93 5 ls (zi x :: st) M = if x = 0 then eb_E L d 93 8 ls st M else eb_E L d 93 15 ls st M := eb_E_b hk93 rfl
theorem e93_8 {x : Option eb_A} : eb_E L d 93 8 [some (Sum.inr x), v1] (st) M = eb_E L d 93 9 [some (Sum.inr x), v1] (Sum.inr x :: st) M := eb_E_s hk93 rfl
theorem e93_9  : eb_E L d 93 9 ls (st) M = eb_E L d 93 11 ls (zi (-2) :: st) M := eb_E_s hk93 rfl
theorem e93_11  : eb_E L d 93 11 ls ([a1, a0]) M = (eb_ev L d 126 [a0, a1] M).bind (fun q => eb_E L d 93 14 ls [q.1] q.2) := eb_E_c hk93 rfl
theorem e93_14 {x : Int32} : eb_E L d 93 14 ls ([zi x]) M = some (zi x, M) := eb_E_r hk93 rfl
theorem e93_15 {x : Int32} : eb_E L d 93 15 [v0, some (zi x)] (st) M = eb_E L d 93 16 [v0, some (zi x)] (zi x :: st) M := eb_E_s hk93 rfl
theorem e93_16  : eb_E L d 93 16 ls (st) M = eb_E L d 93 17 ls (zi (-1) :: st) M := eb_E_s hk93 rfl
theorem e93_17 {x : Int32} {y : Int32} : eb_E L d 93 17 ls (zi y :: zi x :: st) M = if x = y then eb_E L d 93 20 ls st M else eb_E L d 93 30 ls st M := eb_E_b hk93 rfl
theorem e93_20 {x : Option eb_A} : eb_E L d 93 20 [some (Sum.inr x), v1] (st) M = eb_E L d 93 21 [some (Sum.inr x), v1] (Sum.inr x :: st) M := eb_E_s hk93 rfl
theorem e93_21  : eb_E L d 93 21 ls ([a0]) M = (eb_ev L d 137 [a0] M).bind (fun q => eb_E L d 93 24 ls [q.1] q.2) := eb_E_c hk93 rfl
theorem e93_24  : eb_E L d 93 24 ls ([a0]) M = (eb_ev L d 60 [a0] M).bind (fun q => eb_E L d 93 27 ls [q.1] q.2) := eb_E_c hk93 rfl
theorem e93_27  : eb_E L d 93 27 ls (st) M = eb_E L d 93 46 ls (st) M := eb_E_s hk93 rfl
theorem e93_30 {x : Option eb_A} : eb_E L d 93 30 [some (Sum.inr x), v1] (st) M = eb_E L d 93 31 [some (Sum.inr x), v1] (Sum.inr x :: st) M := eb_E_s hk93 rfl
theorem e93_31  : eb_E L d 93 31 ls ([a0]) M = (eb_ev L d 137 [a0] M).bind (fun q => eb_E L d 93 34 ls [q.1] q.2) := eb_E_c hk93 rfl
theorem e93_34 {x : Option eb_A} : eb_E L d 93 34 [some (Sum.inr x), v1] (st) M = eb_E L d 93 35 [some (Sum.inr x), v1] (Sum.inr x :: st) M := eb_E_s hk93 rfl
theorem e93_35  : eb_E L d 93 35 ls (Sum.inr (some a) :: st) (nc, ns, I, J, R) = if (eb_ty L a.1).1 = 5 then eb_E L d 93 38 ls (Sum.inr (R a 0) :: st) (nc, ns, I, J, R) else none := eb_E_iy hk93 rfl
theorem e93_38  : eb_E L d 93 38 ls (Sum.inr (some a) :: st) (nc, ns, I, J, R) = if (eb_ty L a.1).1 = 4 then eb_E L d 93 41 ls (Sum.inr (R a 1) :: st) (nc, ns, I, J, R) else none := eb_E_iy hk93 rfl
theorem e93_41 {x : Int32} : eb_E L d 93 41 [v0, some (zi x)] (st) M = eb_E L d 93 42 [v0, some (zi x)] (zi x :: st) M := eb_E_s hk93 rfl
theorem e93_42 {x : Int32} : eb_E L d 93 42 ls (zi x :: Sum.inr (some a) :: st) (nc, ns, I, J, R) = if (12 ≤ (eb_ty L a.1).1 ∧ (eb_ty L a.1).1 ≤ 16) ∧ eb_in x (eb_ty L a.1).2 = true then eb_E L d 93 43 ls (Sum.inr (R a x.toNatClampNeg) :: st) (nc, ns, I, J, R) else none := eb_E_iy hk93 rfl
theorem e93_43  : eb_E L d 93 43 ls ([a1, a0]) M = (eb_ev L d 59 [a0, a1] M).bind (fun q => eb_E L d 93 46 ls [q.1] q.2) := eb_E_c hk93 rfl
theorem e93_46 {x : Int32} : eb_E L d 93 46 ls ([zi x]) M = some (zi x, M) := eb_E_r hk93 rfl
/-! X5_taken -/
theorem hk94 : eb_cd L 94 = eb_look (kt94 L) := rfl
theorem h94 (ha : (eb_ty L a.1).1 = 5) {x1 : Int32} : eb_ev L (d + 1) 94 [zr a, zi x1] M = eb_E L d 94 0 [some (zr a), some (zi x1)] [] M := eb_ev_s rfl (eb_chk_i ha rfl)
theorem e94_0 {x : Option eb_A} : eb_E L d 94 0 [some (Sum.inr x), v1] (st) M = eb_E L d 94 1 [some (Sum.inr x), v1] (Sum.inr x :: st) M := eb_E_s hk94 rfl
theorem e94_1 {x : Int32} : eb_E L d 94 1 [v0, some (zi x)] (st) M = eb_E L d 94 2 [v0, some (zi x)] (zi x :: st) M := eb_E_s hk94 rfl
theorem e94_2  : eb_E L d 94 2 ls ([a1, a0]) M = (eb_ev L d 131 [a0, a1] M).bind (fun q => eb_E L d 94 5 ls [q.1] q.2) := eb_E_c hk94 rfl
theorem e94_5 {x : Int32} : eb_E L d 94 5 ls (zi x :: st) M = if x = 0 then eb_E L d 94 23 ls st M else eb_E L d 94 8 ls st M := eb_E_b hk94 rfl
theorem e94_8 {x : Option eb_A} : eb_E L d 94 8 [some (Sum.inr x), v1] (st) M = eb_E L d 94 9 [some (Sum.inr x), v1] (Sum.inr x :: st) M := eb_E_s hk94 rfl
theorem e94_9  : eb_E L d 94 9 ls ([a0]) M = (eb_ev L d 137 [a0] M).bind (fun q => eb_E L d 94 12 ls [q.1] q.2) := eb_E_c hk94 rfl
theorem e94_12  : eb_E L d 94 12 ls (Sum.inr (some a) :: st) (nc, ns, I, J, R) = if (eb_ty L a.1).1 = 4 then eb_E L d 94 15 ls (Sum.inr (R a 0) :: st) (nc, ns, I, J, R) else none := eb_E_iy hk94 rfl
theorem e94_15 {x : Int32} : eb_E L d 94 15 [v0, some (zi x)] (st) M = eb_E L d 94 16 [v0, some (zi x)] (zi x :: st) M := eb_E_s hk94 rfl
theorem e94_16 {x : Int32} : eb_E L d 94 16 ls (zi x :: Sum.inr (some a) :: st) (nc, ns, I, J, R) = if (12 ≤ (eb_ty L a.1).1 ∧ (eb_ty L a.1).1 ≤ 16) ∧ eb_in x (eb_ty L a.1).2 = true then eb_E L d 94 17 ls (Sum.inr (R a x.toNatClampNeg) :: st) (nc, ns, I, J, R) else none := eb_E_iy hk94 rfl
theorem e94_17  : eb_E L d 94 17 ls ([a0]) M = (eb_ev L d 14 [a0] M).bind (fun q => eb_E L d 94 20 ls [q.1] q.2) := eb_E_c hk94 rfl
theorem e94_20  : eb_E L d 94 20 ls (st) M = eb_E L d 94 29 ls (st) M := eb_E_s hk94 rfl
theorem e94_23 {x : Option eb_A} : eb_E L d 94 23 [some (Sum.inr x), v1] (st) M = eb_E L d 94 24 [some (Sum.inr x), v1] (Sum.inr x :: st) M := eb_E_s hk94 rfl
theorem e94_24  : eb_E L d 94 24 ls (st) M = eb_E L d 94 26 ls (zi (-2) :: st) M := eb_E_s hk94 rfl
theorem e94_26  : eb_E L d 94 26 ls ([a1, a0]) M = (eb_ev L d 125 [a0, a1] M).bind (fun q => eb_E L d 94 29 ls [q.1] q.2) := eb_E_c hk94 rfl
theorem e94_29 {x : Int32} : eb_E L d 94 29 ls ([zi x]) M = some (zi x, M) := eb_E_r hk94 rfl
/-! X5_crowd -/
theorem hk95 : eb_cd L 95 = eb_look (kt95 L) := rfl
theorem h95 (ha : (eb_ty L a.1).1 = 5) {x1 : Int32} : eb_ev L (d + 1) 95 [zr a, zi x1] M = eb_E L d 95 0 [some (zr a), some (zi x1)] [] M := eb_ev_s rfl (eb_chk_i ha rfl)
theorem e95_0 {x : Option eb_A} : eb_E L d 95 0 [some (Sum.inr x), v1] (st) M = eb_E L d 95 1 [some (Sum.inr x), v1] (Sum.inr x :: st) M := eb_E_s hk95 rfl
theorem e95_1 {x : Int32} : eb_E L d 95 1 [v0, some (zi x)] (st) M = eb_E L d 95 2 [v0, some (zi x)] (zi x :: st) M := eb_E_s hk95 rfl
theorem e95_2  : eb_E L d 95 2 ls ([a1, a0]) M = (eb_ev L d 131 [a0, a1] M).bind (fun q => eb_E L d 95 5 ls [q.1] q.2) := eb_E_c hk95 rfl
theorem e95_5 {x : Int32} : eb_E L d 95 5 ls (zi x :: st) M = if x = 0 then eb_E L d 95 19 ls st M else eb_E L d 95 8 ls st M := eb_E_b hk95 rfl
theorem e95_8 {x : Option eb_A} : eb_E L d 95 8 [some (Sum.inr x), v1] (st) M = eb_E L d 95 9 [some (Sum.inr x), v1] (Sum.inr x :: st) M := eb_E_s hk95 rfl
theorem e95_9  : eb_E L d 95 9 ls (Sum.inr (some a) :: st) (nc, ns, I, J, R) = if (eb_ty L a.1).1 = 5 then eb_E L d 95 12 ls (Sum.inr (R a 0) :: st) (nc, ns, I, J, R) else none := eb_E_iy hk95 rfl
theorem e95_12 {x : Int32} : eb_E L d 95 12 [v0, some (zi x)] (st) M = eb_E L d 95 13 [v0, some (zi x)] (zi x :: st) M := eb_E_s hk95 rfl
theorem e95_13  : eb_E L d 95 13 ls ([a1, a0]) M = (eb_ev L d 49 [a0, a1] M).bind (fun q => eb_E L d 95 16 ls [q.1] q.2) := eb_E_c hk95 rfl
theorem e95_16  : eb_E L d 95 16 ls (st) M = eb_E L d 95 25 ls (st) M := eb_E_s hk95 rfl
theorem e95_19 {x : Option eb_A} : eb_E L d 95 19 [some (Sum.inr x), v1] (st) M = eb_E L d 95 20 [some (Sum.inr x), v1] (Sum.inr x :: st) M := eb_E_s hk95 rfl
theorem e95_20  : eb_E L d 95 20 ls (st) M = eb_E L d 95 22 ls (zi (-2) :: st) M := eb_E_s hk95 rfl
theorem e95_22  : eb_E L d 95 22 ls ([a1, a0]) M = (eb_ev L d 125 [a0, a1] M).bind (fun q => eb_E L d 95 25 ls [q.1] q.2) := eb_E_c hk95 rfl
theorem e95_25 {x : Int32} : eb_E L d 95 25 ls ([zi x]) M = some (zi x, M) := eb_E_r hk95 rfl
/-! X5_lean -/
theorem hk96 : eb_cd L 96 = eb_look (kt96 L) := rfl
theorem h96 (ha : (eb_ty L a.1).1 = 5) {x1 : Int32} : eb_ev L (d + 1) 96 [zr a, zi x1] M = eb_E L d 96 0 [some (zr a), some (zi x1)] [] M := eb_ev_s rfl (eb_chk_i ha rfl)
theorem e96_0 {x : Option eb_A} : eb_E L d 96 0 [some (Sum.inr x), v1] (st) M = eb_E L d 96 1 [some (Sum.inr x), v1] (Sum.inr x :: st) M := eb_E_s hk96 rfl
theorem e96_1 {x : Int32} : eb_E L d 96 1 [v0, some (zi x)] (st) M = eb_E L d 96 2 [v0, some (zi x)] (zi x :: st) M := eb_E_s hk96 rfl
theorem e96_2  : eb_E L d 96 2 ls ([a1, a0]) M = (eb_ev L d 131 [a0, a1] M).bind (fun q => eb_E L d 96 5 ls [q.1] q.2) := eb_E_c hk96 rfl
theorem e96_5 {x : Int32} : eb_E L d 96 5 ls (zi x :: st) M = if x = 0 then eb_E L d 96 8 ls st M else eb_E L d 96 15 ls st M := eb_E_b hk96 rfl
theorem e96_8 {x : Option eb_A} : eb_E L d 96 8 [some (Sum.inr x), v1] (st) M = eb_E L d 96 9 [some (Sum.inr x), v1] (Sum.inr x :: st) M := eb_E_s hk96 rfl
theorem e96_9  : eb_E L d 96 9 ls (st) M = eb_E L d 96 11 ls (zi (-2) :: st) M := eb_E_s hk96 rfl
theorem e96_11  : eb_E L d 96 11 ls ([a1, a0]) M = (eb_ev L d 126 [a0, a1] M).bind (fun q => eb_E L d 96 14 ls [q.1] q.2) := eb_E_c hk96 rfl
theorem e96_14 {x : Int32} : eb_E L d 96 14 ls ([zi x]) M = some (zi x, M) := eb_E_r hk96 rfl
theorem e96_15 {x : Option eb_A} : eb_E L d 96 15 [some (Sum.inr x), v1] (st) M = eb_E L d 96 16 [some (Sum.inr x), v1] (Sum.inr x :: st) M := eb_E_s hk96 rfl
theorem e96_16  : eb_E L d 96 16 ls (Sum.inr (some a) :: st) (nc, ns, I, J, R) = if (eb_ty L a.1).1 = 5 then eb_E L d 96 19 ls (Sum.inr (R a 0) :: st) (nc, ns, I, J, R) else none := eb_E_iy hk96 rfl
theorem e96_19  : eb_E L d 96 19 ls (Sum.inr (some a) :: st) (nc, ns, I, J, R) = if (eb_ty L a.1).1 = 4 then eb_E L d 96 22 ls (Sum.inr (R a 0) :: st) (nc, ns, I, J, R) else none := eb_E_iy hk96 rfl
theorem e96_22 {x : Int32} : eb_E L d 96 22 [v0, some (zi x)] (st) M = eb_E L d 96 23 [v0, some (zi x)] (zi x :: st) M := eb_E_s hk96 rfl
theorem e96_23 {x : Int32} : eb_E L d 96 23 ls (zi x :: Sum.inr (some a) :: st) (nc, ns, I, J, R) = if (12 ≤ (eb_ty L a.1).1 ∧ (eb_ty L a.1).1 ≤ 16) ∧ eb_in x (eb_ty L a.1).2 = true then eb_E L d 96 24 ls (Sum.inr (R a x.toNatClampNeg) :: st) (nc, ns, I, J, R) else none := eb_E_iy hk96 rfl
theorem e96_24  : eb_E L d 96 24 ls (Sum.inr (some a) :: st) (nc, ns, I, J, R) = if (eb_ty L a.1).1 = 1 then eb_E L d 96 27 ls (zi (I a 5) :: st) (nc, ns, I, J, R) else none := eb_E_iy hk96 rfl
theorem e96_27  : eb_E L d 96 27 ls (st) M = eb_E L d 96 28 ls (zi 1 :: st) M := eb_E_s hk96 rfl
theorem e96_28 {x : Int32} {y : Int32} : eb_E L d 96 28 ls (zi y :: zi x :: st) M = if x < y then eb_E L d 96 31 ls st M else eb_E L d 96 38 ls st M := eb_E_b hk96 rfl
theorem e96_31 {x : Option eb_A} : eb_E L d 96 31 [some (Sum.inr x), v1] (st) M = eb_E L d 96 32 [some (Sum.inr x), v1] (Sum.inr x :: st) M := eb_E_s hk96 rfl
theorem e96_32  : eb_E L d 96 32 ls (st) M = eb_E L d 96 34 ls (zi (-5) :: st) M := eb_E_s hk96 rfl
theorem e96_34  : eb_E L d 96 34 ls ([a1, a0]) M = (eb_ev L d 126 [a0, a1] M).bind (fun q => eb_E L d 96 37 ls [q.1] q.2) := eb_E_c hk96 rfl
theorem e96_37 {x : Int32} : eb_E L d 96 37 ls ([zi x]) M = some (zi x, M) := eb_E_r hk96 rfl
theorem e96_38 {x : Option eb_A} : eb_E L d 96 38 [some (Sum.inr x), v1] (st) M = eb_E L d 96 39 [some (Sum.inr x), v1] (Sum.inr x :: st) M := eb_E_s hk96 rfl
theorem e96_39  : eb_E L d 96 39 ls (Sum.inr (some a) :: st) (nc, ns, I, J, R) = if (eb_ty L a.1).1 = 5 then eb_E L d 96 42 ls (Sum.inr (R a 0) :: st) (nc, ns, I, J, R) else none := eb_E_iy hk96 rfl
theorem e96_42  : eb_E L d 96 42 ls (Sum.inr (some a) :: st) (nc, ns, I, J, R) = if (eb_ty L a.1).1 = 4 then eb_E L d 96 45 ls (Sum.inr (R a 0) :: st) (nc, ns, I, J, R) else none := eb_E_iy hk96 rfl
theorem e96_45 {x : Int32} : eb_E L d 96 45 [v0, some (zi x)] (st) M = eb_E L d 96 46 [v0, some (zi x)] (zi x :: st) M := eb_E_s hk96 rfl
theorem e96_46 {x : Int32} : eb_E L d 96 46 ls (zi x :: Sum.inr (some a) :: st) (nc, ns, I, J, R) = if (12 ≤ (eb_ty L a.1).1 ∧ (eb_ty L a.1).1 ≤ 16) ∧ eb_in x (eb_ty L a.1).2 = true then eb_E L d 96 47 ls (Sum.inr (R a x.toNatClampNeg) :: st) (nc, ns, I, J, R) else none := eb_E_iy hk96 rfl
theorem e96_47  : eb_E L d 96 47 ls (st) M = eb_E L d 96 48 ls (zi 0 :: st) M := eb_E_s hk96 rfl
theorem e96_48  : eb_E L d 96 48 ls (st) M = eb_E L d 96 49 ls (zi 0 :: st) M := eb_E_s hk96 rfl
theorem e96_49  : eb_E L d 96 49 ls ([a2, a1, a0]) M = (eb_ev L d 11 [a0, a1, a2] M).bind (fun q => eb_E L d 96 52 ls [q.1] q.2) := eb_E_c hk96 rfl
theorem e96_52 {x : Int32} : eb_E L d 96 52 ls ([zi x]) M = some (zi x, M) := eb_E_r hk96 rfl
/-! X5_truest -/
theorem hk97 : eb_cd L 97 = eb_look (kt97 L) := rfl
theorem h97 (ha : (eb_ty L a.1).1 = 5) : eb_ev L (d + 1) 97 [zr a] M = eb_E L d 97 0 [some (zr a), none] [] M := eb_ev_s rfl (eb_chk_i ha rfl)
theorem e97_0 {x : Option eb_A} : eb_E L d 97 0 [some (Sum.inr x), v1] (st) M = eb_E L d 97 1 [some (Sum.inr x), v1] (Sum.inr x :: st) M := eb_E_s hk97 rfl
theorem e97_1  : eb_E L d 97 1 ls (Sum.inr (some a) :: st) (nc, ns, I, J, R) = if (eb_ty L a.1).1 = 5 then eb_E L d 97 4 ls (Sum.inr (R a 0) :: st) (nc, ns, I, J, R) else none := eb_E_iy hk97 rfl
theorem e97_4  : eb_E L d 97 4 ls ([a0]) M = (eb_ev L d 46 [a0] M).bind (fun q => eb_E L d 97 7 ls [q.1] q.2) := eb_E_c hk97 rfl
theorem e97_7 {x : Int32} : eb_E L d 97 7 [v0, v1] (zi x :: st) M = eb_E L d 97 8 [v0, some (zi x)] (st) M := eb_E_s hk97 rfl
theorem e97_8 {x : Int32} : eb_E L d 97 8 [v0, some (zi x)] (st) M = eb_E L d 97 9 [v0, some (zi x)] (zi x :: st) M := eb_E_s hk97 rfl
theorem e97_9  : eb_E L d 97 9 ls (st) M = eb_E L d 97 10 ls (zi (-1) :: st) M := eb_E_s hk97 rfl
theorem e97_10 {x : Int32} {y : Int32} : eb_E L d 97 10 ls (zi y :: zi x :: st) M = if x = y then eb_E L d 97 13 ls st M else eb_E L d 97 22 ls st M := eb_E_b hk97 rfl
theorem e97_13 {x : Option eb_A} : eb_E L d 97 13 [some (Sum.inr x), v1] (st) M = eb_E L d 97 14 [some (Sum.inr x), v1] (Sum.inr x :: st) M := eb_E_s hk97 rfl
theorem e97_14  : eb_E L d 97 14 ls (st) M = eb_E L d 97 16 ls (zi (-5) :: st) M := eb_E_s hk97 rfl
theorem e97_16  : eb_E L d 97 16 ls ([a1, a0]) M = (eb_ev L d 125 [a0, a1] M).bind (fun q => eb_E L d 97 19 ls [q.1] q.2) := eb_E_c hk97 rfl
theorem e97_19  : eb_E L d 97 19 ls (st) M = eb_E L d 97 23 ls (st) M := eb_E_s hk97 rfl
theorem e97_22 {x : Int32} : eb_E L d 97 22 [v0, some (zi x)] (st) M = eb_E L d 97 23 [v0, some (zi x)] (zi x :: st) M := eb_E_s hk97 rfl
theorem e97_23 {x : Int32} : eb_E L d 97 23 ls ([zi x]) M = some (zi x, M) := eb_E_r hk97 rfl
/-! X5_oldest -/
theorem hk98 : eb_cd L 98 = eb_look (kt98 L) := rfl
theorem h98 (ha : (eb_ty L a.1).1 = 5) : eb_ev L (d + 1) 98 [zr a] M = eb_E L d 98 0 [some (zr a), none, none, none, none, none] [] M := eb_ev_s rfl (eb_chk_i ha rfl)
theorem e98_0  : eb_E L d 98 0 ls (st) M = eb_E L d 98 1 ls (zi (-1) :: st) M := eb_E_s hk98 rfl
theorem e98_1 {x : Int32} : eb_E L d 98 1 [v0, v1, v2, v3, v4, v5] (zi x :: st) M = eb_E L d 98 2 [v0, some (zi x), v2, v3, v4, v5] (st) M := eb_E_s hk98 rfl
theorem e98_2  : eb_E L d 98 2 ls (st) M = eb_E L d 98 3 ls (zi (-1) :: st) M := eb_E_s hk98 rfl
theorem e98_3 {x : Int32} : eb_E L d 98 3 [v0, v1, v2, v3, v4, v5] (zi x :: st) M = eb_E L d 98 4 [v0, v1, some (zi x), v3, v4, v5] (st) M := eb_E_s hk98 rfl
theorem e98_4  : eb_E L d 98 4 ls (st) M = eb_E L d 98 5 ls (zi 0 :: st) M := eb_E_s hk98 rfl
theorem e98_5 {x : Int32} : eb_E L d 98 5 [v0, v1, v2, v3, v4, v5] (zi x :: st) M = eb_E L d 98 6 [v0, v1, v2, some (zi x), v4, v5] (st) M := eb_E_s hk98 rfl
theorem e98_6 {x : Int32} : eb_E L d 98 6 [v0, v1, v2, some (zi x), v4, v5] (st) M = eb_E L d 98 7 [v0, v1, v2, some (zi x), v4, v5] (zi x :: st) M := eb_E_s hk98 rfl
theorem e98_7 {x : Option eb_A} : eb_E L d 98 7 [some (Sum.inr x), v1, v2, v3, v4, v5] (st) M = eb_E L d 98 8 [some (Sum.inr x), v1, v2, v3, v4, v5] (Sum.inr x :: st) M := eb_E_s hk98 rfl
theorem e98_8  : eb_E L d 98 8 ls (Sum.inr (some a) :: st) (nc, ns, I, J, R) = if (eb_ty L a.1).1 = 5 then eb_E L d 98 11 ls (Sum.inr (R a 0) :: st) (nc, ns, I, J, R) else none := eb_E_iy hk98 rfl
theorem e98_11  : eb_E L d 98 11 ls (Sum.inr (some a) :: st) (nc, ns, I, J, R) = if (eb_ty L a.1).1 = 4 then eb_E L d 98 14 ls (zi (I a 2) :: st) (nc, ns, I, J, R) else none := eb_E_iy hk98 rfl
theorem e98_14 {x : Int32} {y : Int32} : eb_E L d 98 14 ls (zi y :: zi x :: st) M = if x < y then eb_E L d 98 17 ls st M else eb_E L d 98 74 ls st M := eb_E_b hk98 rfl
theorem e98_17 {x : Option eb_A} : eb_E L d 98 17 [some (Sum.inr x), v1, v2, v3, v4, v5] (st) M = eb_E L d 98 18 [some (Sum.inr x), v1, v2, v3, v4, v5] (Sum.inr x :: st) M := eb_E_s hk98 rfl
theorem e98_18  : eb_E L d 98 18 ls (Sum.inr (some a) :: st) (nc, ns, I, J, R) = if (eb_ty L a.1).1 = 5 then eb_E L d 98 21 ls (Sum.inr (R a 0) :: st) (nc, ns, I, J, R) else none := eb_E_iy hk98 rfl
theorem e98_21  : eb_E L d 98 21 ls (Sum.inr (some a) :: st) (nc, ns, I, J, R) = if (eb_ty L a.1).1 = 4 then eb_E L d 98 24 ls (Sum.inr (R a 0) :: st) (nc, ns, I, J, R) else none := eb_E_iy hk98 rfl
theorem e98_24 {x : Int32} : eb_E L d 98 24 [v0, v1, v2, some (zi x), v4, v5] (st) M = eb_E L d 98 25 [v0, v1, v2, some (zi x), v4, v5] (zi x :: st) M := eb_E_s hk98 rfl
theorem e98_25 {x : Int32} : eb_E L d 98 25 ls (zi x :: Sum.inr (some a) :: st) (nc, ns, I, J, R) = if (12 ≤ (eb_ty L a.1).1 ∧ (eb_ty L a.1).1 ≤ 16) ∧ eb_in x (eb_ty L a.1).2 = true then eb_E L d 98 26 ls (Sum.inr (R a x.toNatClampNeg) :: st) (nc, ns, I, J, R) else none := eb_E_iy hk98 rfl
theorem e98_26 {x : Option eb_A} : eb_E L d 98 26 [v0, v1, v2, v3, v4, v5] (Sum.inr x :: st) M = eb_E L d 98 28 [v0, v1, v2, v3, some (Sum.inr x), v5] (st) M := eb_E_s hk98 rfl
theorem e98_28 {x : Option eb_A} : eb_E L d 98 28 [v0, v1, v2, v3, some (Sum.inr x), v5] (st) M = eb_E L d 98 30 [v0, v1, v2, v3, some (Sum.inr x), v5] (Sum.inr x :: st) M := eb_E_s hk98 rfl
theorem e98_30  : eb_E L d 98 30 ls (Sum.inr (some a) :: st) (nc, ns, I, J, R) = if (eb_ty L a.1).1 = 1 then eb_E L d 98 33 ls (zi (I a 4) :: st) (nc, ns, I, J, R) else none := eb_E_iy hk98 rfl
theorem e98_33  : eb_E L d 98 33 ls (st) M = eb_E L d 98 34 ls (zi (-1) :: st) M := eb_E_s hk98 rfl
theorem e98_34 {x : Int32} {y : Int32} : eb_E L d 98 34 ls (zi y :: zi x :: st) M = if x = y then eb_E L d 98 37 ls st M else eb_E L d 98 41 ls st M := eb_E_b hk98 rfl
theorem e98_37  : eb_E L d 98 37 ls (st) M = eb_E L d 98 38 ls (zi (-1) :: st) M := eb_E_s hk98 rfl
theorem e98_38  : eb_E L d 98 38 ls (st) M = eb_E L d 98 55 ls (st) M := eb_E_s hk98 rfl
theorem e98_41 {x : Option eb_A} : eb_E L d 98 41 [v0, v1, v2, v3, some (Sum.inr x), v5] (st) M = eb_E L d 98 43 [v0, v1, v2, v3, some (Sum.inr x), v5] (Sum.inr x :: st) M := eb_E_s hk98 rfl
theorem e98_43  : eb_E L d 98 43 ls (Sum.inr (some a) :: st) (nc, ns, I, J, R) = if (eb_ty L a.1).1 = 1 then eb_E L d 98 46 ls (zi (I a 4) :: st) (nc, ns, I, J, R) else none := eb_E_iy hk98 rfl
theorem e98_46 {x : Option eb_A} : eb_E L d 98 46 [v0, v1, v2, v3, some (Sum.inr x), v5] (st) M = eb_E L d 98 48 [v0, v1, v2, v3, some (Sum.inr x), v5] (Sum.inr x :: st) M := eb_E_s hk98 rfl
theorem e98_48  : eb_E L d 98 48 ls (Sum.inr (some a) :: st) (nc, ns, I, J, R) = if (eb_ty L a.1).1 = 1 then eb_E L d 98 51 ls (zi (I a 0) :: st) (nc, ns, I, J, R) else none := eb_E_iy hk98 rfl
theorem e98_51 {x : Int32} {y : Int32} : eb_E L d 98 51 ls (zi y :: zi x :: st) M = eb_E L d 98 52 ls (zi (x - y) :: st) M := eb_E_s hk98 rfl
theorem e98_52  : eb_E L d 98 52 ls ([a0]) M = (eb_ev L d 902 [a0] M).bind (fun q => eb_E L d 98 55 ls [q.1] q.2) := eb_E_c hk98 rfl
theorem e98_55 {x : Int32} : eb_E L d 98 55 [v0, v1, v2, v3, v4, v5] (zi x :: st) M = eb_E L d 98 57 [v0, v1, v2, v3, v4, some (zi x)] (st) M := eb_E_s hk98 rfl
theorem e98_57 {x : Int32} : eb_E L d 98 57 [v0, v1, v2, v3, v4, some (zi x)] (st) M = eb_E L d 98 59 [v0, v1, v2, v3, v4, some (zi x)] (zi x :: st) M := eb_E_s hk98 rfl
theorem e98_59 {x : Int32} : eb_E L d 98 59 [v0, v1, some (zi x), v3, v4, v5] (st) M = eb_E L d 98 60 [v0, v1, some (zi x), v3, v4, v5] (zi x :: st) M := eb_E_s hk98 rfl
theorem e98_60 {x : Int32} {y : Int32} : eb_E L d 98 60 ls (zi y :: zi x :: st) M = if y < x then eb_E L d 98 63 ls st M else eb_E L d 98 68 ls st M := eb_E_b hk98 rfl
theorem e98_63 {x : Int32} : eb_E L d 98 63 [v0, v1, v2, some (zi x), v4, v5] (st) M = eb_E L d 98 64 [v0, v1, v2, some (zi x), v4, v5] (zi x :: st) M := eb_E_s hk98 rfl
theorem e98_64 {x : Int32} : eb_E L d 98 64 [v0, v1, v2, v3, v4, v5] (zi x :: st) M = eb_E L d 98 65 [v0, some (zi x), v2, v3, v4, v5] (st) M := eb_E_s hk98 rfl
theorem e98_65 {x : Int32} : eb_E L d 98 65 [v0, v1, v2, v3, v4, some (zi x)] (st) M = eb_E L d 98 67 [v0, v1, v2, v3, v4, some (zi x)] (zi x :: st) M := eb_E_s hk98 rfl
theorem e98_67 {x : Int32} : eb_E L d 98 67 [v0, v1, v2, v3, v4, v5] (zi x :: st) M = eb_E L d 98 68 [v0, v1, some (zi x), v3, v4, v5] (st) M := eb_E_s hk98 rfl
theorem e98_68 {x : Int32} : eb_E L d 98 68 [v0, v1, v2, some (zi x), v4, v5] (st) M = eb_E L d 98 71 [v0, v1, v2, some (zi (x + 1)), v4, v5] (st) M := eb_E_s hk98 rfl
theorem e98_71  : eb_E L d 98 71 ls (st) M = eb_E L d 98 6 ls (st) M := eb_E_s hk98 rfl
theorem e98_74 {x : Int32} : eb_E L d 98 74 [v0, some (zi x), v2, v3, v4, v5] (st) M = eb_E L d 98 75 [v0, some (zi x), v2, v3, v4, v5] (zi x :: st) M := eb_E_s hk98 rfl
theorem e98_75 {x : Int32} : eb_E L d 98 75 ls ([zi x]) M = some (zi x, M) := eb_E_r hk98 rfl
/-! X5_enough -/
theorem hk99 : eb_cd L 99 = eb_look (kt99 L) := rfl
theorem h99 (ha : (eb_ty L a.1).1 = 5) {x1 : Int32} : eb_ev L (d + 1) 99 [zr a, zi x1] M = eb_E L d 99 0 [some (zr a), some (zi x1), none] [] M := eb_ev_s rfl (eb_chk_i ha rfl)
theorem e99_0 {x : Option eb_A} : eb_E L d 99 0 [some (Sum.inr x), v1, v2] (st) M = eb_E L d 99 1 [some (Sum.inr x), v1, v2] (Sum.inr x :: st) M := eb_E_s hk99 rfl
theorem e99_1 {x : Int32} : eb_E L d 99 1 [v0, some (zi x), v2] (st) M = eb_E L d 99 2 [v0, some (zi x), v2] (zi x :: st) M := eb_E_s hk99 rfl
theorem e99_2  : eb_E L d 99 2 ls ([a1, a0]) M = (eb_ev L d 131 [a0, a1] M).bind (fun q => eb_E L d 99 5 ls [q.1] q.2) := eb_E_c hk99 rfl
theorem e99_5 {x : Int32} : eb_E L d 99 5 ls (zi x :: st) M = if x = 0 then eb_E L d 99 8 ls st M else eb_E L d 99 15 ls st M := eb_E_b hk99 rfl
theorem e99_8 {x : Option eb_A} : eb_E L d 99 8 [some (Sum.inr x), v1, v2] (st) M = eb_E L d 99 9 [some (Sum.inr x), v1, v2] (Sum.inr x :: st) M := eb_E_s hk99 rfl
theorem e99_9  : eb_E L d 99 9 ls (st) M = eb_E L d 99 11 ls (zi (-2) :: st) M := eb_E_s hk99 rfl
theorem e99_11  : eb_E L d 99 11 ls ([a1, a0]) M = (eb_ev L d 125 [a0, a1] M).bind (fun q => eb_E L d 99 14 ls [q.1] q.2) := eb_E_c hk99 rfl
theorem e99_14 {x : Int32} : eb_E L d 99 14 ls ([zi x]) M = some (zi x, M) := eb_E_r hk99 rfl
theorem e99_15  : eb_E L d 99 15 ls (st) M = eb_E L d 99 16 ls (zi 1 :: st) M := eb_E_s hk99 rfl
theorem e99_16 {x : Int32} : eb_E L d 99 16 [v0, v1, v2] (zi x :: st) M = eb_E L d 99 17 [v0, v1, some (zi x)] (st) M := eb_E_s hk99 rfl
theorem e99_17 {x : Int32} : eb_E L d 99 17 [v0, v1, some (zi x)] (st) M = eb_E L d 99 18 [v0, v1, some (zi x)] (zi x :: st) M := eb_E_s hk99 rfl
theorem e99_18  : eb_E L d 99 18 ls (st) M = eb_E L d 99 20 ls (zi 20 :: st) M := eb_E_s hk99 rfl
theorem e99_20 {x : Int32} {y : Int32} : eb_E L d 99 20 ls (zi y :: zi x :: st) M = if y < x then eb_E L d 99 66 ls st M else eb_E L d 99 23 ls st M := eb_E_b hk99 rfl
theorem e99_23 {x : Option eb_A} : eb_E L d 99 23 [some (Sum.inr x), v1, v2] (st) M = eb_E L d 99 24 [some (Sum.inr x), v1, v2] (Sum.inr x :: st) M := eb_E_s hk99 rfl
theorem e99_24  : eb_E L d 99 24 ls ([a0]) M = (eb_ev L d 138 [a0] M).bind (fun q => eb_E L d 99 27 ls [q.1] q.2) := eb_E_c hk99 rfl
theorem e99_27  : eb_E L d 99 27 ls (Sum.inr (some a) :: st) (nc, ns, I, J, R) = if (eb_ty L a.1).1 = 4 then eb_E L d 99 30 ls (Sum.inr (R a 0) :: st) (nc, ns, I, J, R) else none := eb_E_iy hk99 rfl
theorem e99_30 {x : Int32} : eb_E L d 99 30 [v0, some (zi x), v2] (st) M = eb_E L d 99 31 [v0, some (zi x), v2] (zi x :: st) M := eb_E_s hk99 rfl
theorem e99_31 {x : Int32} : eb_E L d 99 31 ls (zi x :: Sum.inr (some a) :: st) (nc, ns, I, J, R) = if (12 ≤ (eb_ty L a.1).1 ∧ (eb_ty L a.1).1 ≤ 16) ∧ eb_in x (eb_ty L a.1).2 = true then eb_E L d 99 32 ls (Sum.inr (R a x.toNatClampNeg) :: st) (nc, ns, I, J, R) else none := eb_E_iy hk99 rfl
theorem e99_32 {x : Int32} : eb_E L d 99 32 [v0, v1, some (zi x)] (st) M = eb_E L d 99 33 [v0, v1, some (zi x)] (zi x :: st) M := eb_E_s hk99 rfl
theorem e99_33 {x : Int32} : eb_E L d 99 33 ls (zi x :: Sum.inr (some a) :: st) (nc, ns, I, J, R) = if (eb_ty L a.1).1 = 1 then eb_E L d 99 36 ls (st) (nc, ns, eb_u I a 2 x, J, R) else none := eb_E_iy hk99 rfl
theorem e99_36 {x : Option eb_A} : eb_E L d 99 36 [some (Sum.inr x), v1, v2] (st) M = eb_E L d 99 37 [some (Sum.inr x), v1, v2] (Sum.inr x :: st) M := eb_E_s hk99 rfl
theorem e99_37  : eb_E L d 99 37 ls (Sum.inr (some a) :: st) (nc, ns, I, J, R) = if (eb_ty L a.1).1 = 5 then eb_E L d 99 40 ls (Sum.inr (R a 1) :: st) (nc, ns, I, J, R) else none := eb_E_iy hk99 rfl
theorem e99_40  : eb_E L d 99 40 ls ([a0]) M = (eb_ev L d 50 [a0] M).bind (fun q => eb_E L d 99 43 ls [] q.2) := eb_E_c hk99 rfl
theorem e99_43 {x : Option eb_A} : eb_E L d 99 43 [some (Sum.inr x), v1, v2] (st) M = eb_E L d 99 44 [some (Sum.inr x), v1, v2] (Sum.inr x :: st) M := eb_E_s hk99 rfl
theorem e99_44  : eb_E L d 99 44 ls (Sum.inr (some a) :: st) (nc, ns, I, J, R) = if (eb_ty L a.1).1 = 5 then eb_E L d 99 47 ls (Sum.inr (R a 1) :: st) (nc, ns, I, J, R) else none := eb_E_iy hk99 rfl
theorem e99_47  : eb_E L d 99 47 ls (Sum.inr (some a) :: st) (nc, ns, I, J, R) = if (eb_ty L a.1).1 = 4 then eb_E L d 99 50 ls (Sum.inr (R a 0) :: st) (nc, ns, I, J, R) else none := eb_E_iy hk99 rfl
theorem e99_50 {x : Int32} : eb_E L d 99 50 [v0, some (zi x), v2] (st) M = eb_E L d 99 51 [v0, some (zi x), v2] (zi x :: st) M := eb_E_s hk99 rfl
theorem e99_51 {x : Int32} : eb_E L d 99 51 ls (zi x :: Sum.inr (some a) :: st) (nc, ns, I, J, R) = if (12 ≤ (eb_ty L a.1).1 ∧ (eb_ty L a.1).1 ≤ 16) ∧ eb_in x (eb_ty L a.1).2 = true then eb_E L d 99 52 ls (Sum.inr (R a x.toNatClampNeg) :: st) (nc, ns, I, J, R) else none := eb_E_iy hk99 rfl
theorem e99_52  : eb_E L d 99 52 ls ([a0]) M = (eb_ev L d 12 [a0] M).bind (fun q => eb_E L d 99 55 ls [q.1] q.2) := eb_E_c hk99 rfl
theorem e99_55 {x : Int32} : eb_E L d 99 55 ls (zi x :: st) M = if x = 0 then eb_E L d 99 58 ls st M else eb_E L d 99 60 ls st M := eb_E_b hk99 rfl
theorem e99_58 {x : Int32} : eb_E L d 99 58 [v0, v1, some (zi x)] (st) M = eb_E L d 99 59 [v0, v1, some (zi x)] (zi x :: st) M := eb_E_s hk99 rfl
theorem e99_59 {x : Int32} : eb_E L d 99 59 ls ([zi x]) M = some (zi x, M) := eb_E_r hk99 rfl
theorem e99_60 {x : Int32} : eb_E L d 99 60 [v0, v1, some (zi x)] (st) M = eb_E L d 99 63 [v0, v1, some (zi (x + 1))] (st) M := eb_E_s hk99 rfl
theorem e99_63  : eb_E L d 99 63 ls (st) M = eb_E L d 99 17 ls (st) M := eb_E_s hk99 rfl
theorem e99_66  : eb_E L d 99 66 ls (st) M = eb_E L d 99 67 ls (zi (-1) :: st) M := eb_E_s hk99 rfl
theorem e99_67 {x : Int32} : eb_E L d 99 67 ls ([zi x]) M = some (zi x, M) := eb_E_r hk99 rfl
/-! X5_better -/
theorem hk100 : eb_cd L 100 = eb_look (kt100 L) := rfl
theorem h100 (ha : (eb_ty L a.1).1 = 5) {x1 : Int32} : eb_ev L (d + 1) 100 [zr a, zi x1] M = eb_E L d 100 0 [some (zr a), some (zi x1), none, none, none, none] [] M := eb_ev_s rfl (eb_chk_i ha rfl)
theorem e100_0 {x : Option eb_A} : eb_E L d 100 0 [some (Sum.inr x), v1, v2, v3, v4, v5] (st) M = eb_E L d 100 1 [some (Sum.inr x), v1, v2, v3, v4, v5] (Sum.inr x :: st) M := eb_E_s hk100 rfl
theorem e100_1 {x : Int32} : eb_E L d 100 1 [v0, some (zi x), v2, v3, v4, v5] (st) M = eb_E L d 100 2 [v0, some (zi x), v2, v3, v4, v5] (zi x :: st) M := eb_E_s hk100 rfl
theorem e100_2  : eb_E L d 100 2 ls ([a1, a0]) M = (eb_ev L d 132 [a0, a1] M).bind (fun q => eb_E L d 100 5 ls [q.1] q.2) := eb_E_c hk100 rfl
theorem e100_5 {x : Int32} : eb_E L d 100 5 ls (zi x :: st) M = if x = 0 then eb_E L d 100 8 ls st M else eb_E L d 100 15 ls st M := eb_E_b hk100 rfl
theorem e100_8 {x : Option eb_A} : eb_E L d 100 8 [some (Sum.inr x), v1, v2, v3, v4, v5] (st) M = eb_E L d 100 9 [some (Sum.inr x), v1, v2, v3, v4, v5] (Sum.inr x :: st) M := eb_E_s hk100 rfl
theorem e100_9  : eb_E L d 100 9 ls (st) M = eb_E L d 100 11 ls (zi (-2) :: st) M := eb_E_s hk100 rfl
theorem e100_11  : eb_E L d 100 11 ls ([a1, a0]) M = (eb_ev L d 125 [a0, a1] M).bind (fun q => eb_E L d 100 14 ls [q.1] q.2) := eb_E_c hk100 rfl
theorem e100_14 {x : Int32} : eb_E L d 100 14 ls ([zi x]) M = some (zi x, M) := eb_E_r hk100 rfl
theorem e100_15  : eb_E L d 100 15 ls (st) M = eb_E L d 100 16 ls (zi (-1) :: st) M := eb_E_s hk100 rfl
theorem e100_16 {x : Int32} : eb_E L d 100 16 [v0, v1, v2, v3, v4, v5] (zi x :: st) M = eb_E L d 100 17 [v0, v1, some (zi x), v3, v4, v5] (st) M := eb_E_s hk100 rfl
theorem e100_17  : eb_E L d 100 17 ls (st) M = eb_E L d 100 18 ls (zi 0 :: st) M := eb_E_s hk100 rfl
theorem e100_18 {x : Int32} : eb_E L d 100 18 [v0, v1, v2, v3, v4, v5] (zi x :: st) M = eb_E L d 100 19 [v0, v1, v2, some (zi x), v4, v5] (st) M := eb_E_s hk100 rfl
theorem e100_19  : eb_E L d 100 19 ls (st) M = eb_E L d 100 20 ls (zi 0 :: st) M := eb_E_s hk100 rfl
theorem e100_20 {x : Int32} : eb_E L d 100 20 [v0, v1, v2, v3, v4, v5] (zi x :: st) M = eb_E L d 100 22 [v0, v1, v2, v3, some (zi x), v5] (st) M := eb_E_s hk100 rfl
theorem e100_22 {x : Int32} : eb_E L d 100 22 [v0, v1, v2, v3, some (zi x), v5] (st) M = eb_E L d 100 24 [v0, v1, v2, v3, some (zi x), v5] (zi x :: st) M := eb_E_s hk100 rfl
theorem e100_24  : eb_E L d 100 24 ls (st) M = eb_E L d 100 26 ls (zi 6 :: st) M := eb_E_s hk100 rfl
theorem e100_26 {x : Int32} {y : Int32} : eb_E L d 100 26 ls (zi y :: zi x :: st) M = if x < y then eb_E L d 100 29 ls st M else eb_E L d 100 91 ls st M := eb_E_b hk100 rfl
theorem e100_29 {x : Option eb_A} : eb_E L d 100 29 [some (Sum.inr x), v1, v2, v3, v4, v5] (st) M = eb_E L d 100 30 [some (Sum.inr x), v1, v2, v3, v4, v5] (Sum.inr x :: st) M := eb_E_s hk100 rfl
theorem e100_30  : eb_E L d 100 30 ls ([a0]) M = (eb_ev L d 138 [a0] M).bind (fun q => eb_E L d 100 33 ls [q.1] q.2) := eb_E_c hk100 rfl
theorem e100_33  : eb_E L d 100 33 ls (Sum.inr (some a) :: st) (nc, ns, I, J, R) = if (eb_ty L a.1).1 = 4 then eb_E L d 100 36 ls (Sum.inr (R a 1) :: st) (nc, ns, I, J, R) else none := eb_E_iy hk100 rfl
theorem e100_36 {x : Int32} : eb_E L d 100 36 [v0, some (zi x), v2, v3, v4, v5] (st) M = eb_E L d 100 37 [v0, some (zi x), v2, v3, v4, v5] (zi x :: st) M := eb_E_s hk100 rfl
theorem e100_37 {x : Int32} : eb_E L d 100 37 ls (zi x :: Sum.inr (some a) :: st) (nc, ns, I, J, R) = if (12 ≤ (eb_ty L a.1).1 ∧ (eb_ty L a.1).1 ≤ 16) ∧ eb_in x (eb_ty L a.1).2 = true then eb_E L d 100 38 ls (Sum.inr (R a x.toNatClampNeg) :: st) (nc, ns, I, J, R) else none := eb_E_iy hk100 rfl
theorem e100_38 {x : Int32} : eb_E L d 100 38 [v0, v1, v2, v3, some (zi x), v5] (st) M = eb_E L d 100 40 [v0, v1, v2, v3, some (zi x), v5] (zi x :: st) M := eb_E_s hk100 rfl
theorem e100_40 {x : Int32} : eb_E L d 100 40 ls (zi x :: Sum.inr (some a) :: st) (nc, ns, I, J, R) = if (eb_ty L a.1).1 = 0 then eb_E L d 100 43 ls (st) (nc, ns, eb_u I a 0 x, J, R) else none := eb_E_iy hk100 rfl
theorem e100_43 {x : Option eb_A} : eb_E L d 100 43 [some (Sum.inr x), v1, v2, v3, v4, v5] (st) M = eb_E L d 100 44 [some (Sum.inr x), v1, v2, v3, v4, v5] (Sum.inr x :: st) M := eb_E_s hk100 rfl
theorem e100_44  : eb_E L d 100 44 ls (Sum.inr (some a) :: st) (nc, ns, I, J, R) = if (eb_ty L a.1).1 = 5 then eb_E L d 100 47 ls (Sum.inr (R a 1) :: st) (nc, ns, I, J, R) else none := eb_E_iy hk100 rfl
theorem e100_47  : eb_E L d 100 47 ls ([a0]) M = (eb_ev L d 50 [a0] M).bind (fun q => eb_E L d 100 50 ls [] q.2) := eb_E_c hk100 rfl
theorem e100_50 {x : Option eb_A} : eb_E L d 100 50 [some (Sum.inr x), v1, v2, v3, v4, v5] (st) M = eb_E L d 100 51 [some (Sum.inr x), v1, v2, v3, v4, v5] (Sum.inr x :: st) M := eb_E_s hk100 rfl
theorem e100_51  : eb_E L d 100 51 ls (Sum.inr (some a) :: st) (nc, ns, I, J, R) = if (eb_ty L a.1).1 = 5 then eb_E L d 100 54 ls (Sum.inr (R a 1) :: st) (nc, ns, I, J, R) else none := eb_E_iy hk100 rfl
theorem e100_54 {x : Option eb_A} : eb_E L d 100 54 [some (Sum.inr x), v1, v2, v3, v4, v5] (st) M = eb_E L d 100 55 [some (Sum.inr x), v1, v2, v3, v4, v5] (Sum.inr x :: st) M := eb_E_s hk100 rfl
theorem e100_55  : eb_E L d 100 55 ls (Sum.inr (some a) :: st) (nc, ns, I, J, R) = if (eb_ty L a.1).1 = 5 then eb_E L d 100 58 ls (Sum.inr (R a 1) :: st) (nc, ns, I, J, R) else none := eb_E_iy hk100 rfl
theorem e100_58  : eb_E L d 100 58 ls (Sum.inr (some a) :: st) (nc, ns, I, J, R) = if (eb_ty L a.1).1 = 4 then eb_E L d 100 61 ls (Sum.inr (R a 1) :: st) (nc, ns, I, J, R) else none := eb_E_iy hk100 rfl
theorem e100_61 {x : Int32} : eb_E L d 100 61 [v0, some (zi x), v2, v3, v4, v5] (st) M = eb_E L d 100 62 [v0, some (zi x), v2, v3, v4, v5] (zi x :: st) M := eb_E_s hk100 rfl
theorem e100_62 {x : Int32} : eb_E L d 100 62 ls (zi x :: Sum.inr (some a) :: st) (nc, ns, I, J, R) = if (12 ≤ (eb_ty L a.1).1 ∧ (eb_ty L a.1).1 ≤ 16) ∧ eb_in x (eb_ty L a.1).2 = true then eb_E L d 100 63 ls (Sum.inr (R a x.toNatClampNeg) :: st) (nc, ns, I, J, R) else none := eb_E_iy hk100 rfl
theorem e100_63  : eb_E L d 100 63 ls ([a1, a0]) M = (eb_ev L d 59 [a0, a1] M).bind (fun q => eb_E L d 100 66 ls [q.1] q.2) := eb_E_c hk100 rfl
theorem e100_66 {x : Int32} : eb_E L d 100 66 [v0, v1, v2, v3, v4, v5] (zi x :: st) M = eb_E L d 100 68 [v0, v1, v2, v3, v4, some (zi x)] (st) M := eb_E_s hk100 rfl
theorem e100_68 {x : Int32} : eb_E L d 100 68 [v0, v1, some (zi x), v3, v4, v5] (st) M = eb_E L d 100 69 [v0, v1, some (zi x), v3, v4, v5] (zi x :: st) M := eb_E_s hk100 rfl
theorem e100_69  : eb_E L d 100 69 ls (st) M = eb_E L d 100 70 ls (zi (-1) :: st) M := eb_E_s hk100 rfl
theorem e100_70 {x : Int32} {y : Int32} : eb_E L d 100 70 ls (zi y :: zi x :: st) M = if x = y then eb_E L d 100 79 ls st M else eb_E L d 100 73 ls st M := eb_E_b hk100 rfl
theorem e100_73 {x : Int32} : eb_E L d 100 73 [v0, v1, v2, v3, v4, some (zi x)] (st) M = eb_E L d 100 75 [v0, v1, v2, v3, v4, some (zi x)] (zi x :: st) M := eb_E_s hk100 rfl
theorem e100_75 {x : Int32} : eb_E L d 100 75 [v0, v1, v2, some (zi x), v4, v5] (st) M = eb_E L d 100 76 [v0, v1, v2, some (zi x), v4, v5] (zi x :: st) M := eb_E_s hk100 rfl
theorem e100_76 {x : Int32} {y : Int32} : eb_E L d 100 76 ls (zi y :: zi x :: st) M = if y < x then eb_E L d 100 79 ls st M else eb_E L d 100 85 ls st M := eb_E_b hk100 rfl
theorem e100_79 {x : Int32} : eb_E L d 100 79 [v0, v1, v2, v3, some (zi x), v5] (st) M = eb_E L d 100 81 [v0, v1, v2, v3, some (zi x), v5] (zi x :: st) M := eb_E_s hk100 rfl
theorem e100_81 {x : Int32} : eb_E L d 100 81 [v0, v1, v2, v3, v4, v5] (zi x :: st) M = eb_E L d 100 82 [v0, v1, some (zi x), v3, v4, v5] (st) M := eb_E_s hk100 rfl
theorem e100_82 {x : Int32} : eb_E L d 100 82 [v0, v1, v2, v3, v4, some (zi x)] (st) M = eb_E L d 100 84 [v0, v1, v2, v3, v4, some (zi x)] (zi x :: st) M := eb_E_s hk100 rfl
theorem e100_84 {x : Int32} : eb_E L d 100 84 [v0, v1, v2, v3, v4, v5] (zi x :: st) M = eb_E L d 100 85 [v0, v1, v2, some (zi x), v4, v5] (st) M := eb_E_s hk100 rfl
theorem e100_85 {x : Int32} : eb_E L d 100 85 [v0, v1, v2, v3, some (zi x), v5] (st) M = eb_E L d 100 88 [v0, v1, v2, v3, some (zi (x + 1)), v5] (st) M := eb_E_s hk100 rfl
theorem e100_88  : eb_E L d 100 88 ls (st) M = eb_E L d 100 22 ls (st) M := eb_E_s hk100 rfl
theorem e100_91 {x : Int32} : eb_E L d 100 91 [v0, v1, some (zi x), v3, v4, v5] (st) M = eb_E L d 100 92 [v0, v1, some (zi x), v3, v4, v5] (zi x :: st) M := eb_E_s hk100 rfl
theorem e100_92 {x : Int32} : eb_E L d 100 92 ls ([zi x]) M = some (zi x, M) := eb_E_r hk100 rfl
/-! X5_trust -/
theorem hk101 : eb_cd L 101 = eb_look (kt101 L) := rfl
theorem h101 (ha : (eb_ty L a.1).1 = 5) {x1 : Int32} : eb_ev L (d + 1) 101 [zr a, zi x1] M = eb_E L d 101 0 [some (zr a), some (zi x1), none] [] M := eb_ev_s rfl (eb_chk_i ha rfl)
theorem e101_0 {x : Option eb_A} : eb_E L d 101 0 [some (Sum.inr x), v1, v2] (st) M = eb_E L d 101 1 [some (Sum.inr x), v1, v2] (Sum.inr x :: st) M := eb_E_s hk101 rfl
theorem e101_1 {x : Int32} : eb_E L d 101 1 [v0, some (zi x), v2] (st) M = eb_E L d 101 2 [v0, some (zi x), v2] (zi x :: st) M := eb_E_s hk101 rfl
theorem e101_2  : eb_E L d 101 2 ls ([a1, a0]) M = (eb_ev L d 131 [a0, a1] M).bind (fun q => eb_E L d 101 5 ls [q.1] q.2) := eb_E_c hk101 rfl
theorem e101_5 {x : Int32} : eb_E L d 101 5 ls (zi x :: st) M = if x = 0 then eb_E L d 101 8 ls st M else eb_E L d 101 15 ls st M := eb_E_b hk101 rfl
theorem e101_8 {x : Option eb_A} : eb_E L d 101 8 [some (Sum.inr x), v1, v2] (st) M = eb_E L d 101 9 [some (Sum.inr x), v1, v2] (Sum.inr x :: st) M := eb_E_s hk101 rfl
theorem e101_9  : eb_E L d 101 9 ls (st) M = eb_E L d 101 11 ls (zi (-2) :: st) M := eb_E_s hk101 rfl
theorem e101_11  : eb_E L d 101 11 ls ([a1, a0]) M = (eb_ev L d 125 [a0, a1] M).bind (fun q => eb_E L d 101 14 ls [q.1] q.2) := eb_E_c hk101 rfl
theorem e101_14 {x : Int32} : eb_E L d 101 14 ls ([zi x]) M = some (zi x, M) := eb_E_r hk101 rfl
theorem e101_15 {x : Option eb_A} : eb_E L d 101 15 [some (Sum.inr x), v1, v2] (st) M = eb_E L d 101 16 [some (Sum.inr x), v1, v2] (Sum.inr x :: st) M := eb_E_s hk101 rfl
theorem e101_16  : eb_E L d 101 16 ls ([a0]) M = (eb_ev L d 138 [a0] M).bind (fun q => eb_E L d 101 19 ls [q.1] q.2) := eb_E_c hk101 rfl
theorem e101_19a {x : Int32} : eb_E L d 101 19 ls (zi x :: st) M = eb_E L d 101 20 ls (st) M := eb_E_s hk101 rfl
theorem e101_19b {x : Option eb_A} : eb_E L d 101 19 ls (Sum.inr x :: st) M = eb_E L d 101 20 ls (st) M := eb_E_s hk101 rfl
theorem e101_20  : eb_E L d 101 20 ls (st) M = eb_E L d 101 22 ls (zi 99 :: st) M := eb_E_s hk101 rfl
theorem e101_22 {x : Int32} : eb_E L d 101 22 [v0, v1, v2] (zi x :: st) M = eb_E L d 101 23 [v0, v1, some (zi x)] (st) M := eb_E_s hk101 rfl
theorem e101_23 {x : Int32} : eb_E L d 101 23 [v0, v1, some (zi x)] (st) M = eb_E L d 101 24 [v0, v1, some (zi x)] (zi x :: st) M := eb_E_s hk101 rfl
theorem e101_24 {x : Int32} : eb_E L d 101 24 ls (zi x :: st) M = if x < 0 then eb_E L d 101 54 ls st M else eb_E L d 101 27 ls st M := eb_E_b hk101 rfl
theorem e101_27 {x : Option eb_A} : eb_E L d 101 27 [some (Sum.inr x), v1, v2] (st) M = eb_E L d 101 28 [some (Sum.inr x), v1, v2] (Sum.inr x :: st) M := eb_E_s hk101 rfl
theorem e101_28  : eb_E L d 101 28 ls (Sum.inr (some a) :: st) (nc, ns, I, J, R) = if (eb_ty L a.1).1 = 5 then eb_E L d 101 31 ls (Sum.inr (R a 1) :: st) (nc, ns, I, J, R) else none := eb_E_iy hk101 rfl
theorem e101_31 {x : Int32} : eb_E L d 101 31 [v0, v1, some (zi x)] (st) M = eb_E L d 101 32 [v0, v1, some (zi x)] (zi x :: st) M := eb_E_s hk101 rfl
theorem e101_32 {x : Int32} : eb_E L d 101 32 ls (zi x :: Sum.inr (some a) :: st) (nc, ns, I, J, R) = if (eb_ty L a.1).1 = 4 then eb_E L d 101 35 ls (st) (nc, ns, eb_u I a 4 x, J, R) else none := eb_E_iy hk101 rfl
theorem e101_35 {x : Option eb_A} : eb_E L d 101 35 [some (Sum.inr x), v1, v2] (st) M = eb_E L d 101 36 [some (Sum.inr x), v1, v2] (Sum.inr x :: st) M := eb_E_s hk101 rfl
theorem e101_36  : eb_E L d 101 36 ls (Sum.inr (some a) :: st) (nc, ns, I, J, R) = if (eb_ty L a.1).1 = 5 then eb_E L d 101 39 ls (Sum.inr (R a 1) :: st) (nc, ns, I, J, R) else none := eb_E_iy hk101 rfl
theorem e101_39 {x : Int32} : eb_E L d 101 39 [v0, some (zi x), v2] (st) M = eb_E L d 101 40 [v0, some (zi x), v2] (zi x :: st) M := eb_E_s hk101 rfl
theorem e101_40  : eb_E L d 101 40 ls ([a1, a0]) M = (eb_ev L d 49 [a0, a1] M).bind (fun q => eb_E L d 101 43 ls [q.1] q.2) := eb_E_c hk101 rfl
theorem e101_43 {x : Int32} : eb_E L d 101 43 ls (zi x :: st) M = if 0 < x then eb_E L d 101 46 ls st M else eb_E L d 101 48 ls st M := eb_E_b hk101 rfl
theorem e101_46 {x : Int32} : eb_E L d 101 46 [v0, v1, some (zi x)] (st) M = eb_E L d 101 47 [v0, v1, some (zi x)] (zi x :: st) M := eb_E_s hk101 rfl
theorem e101_47 {x : Int32} : eb_E L d 101 47 ls ([zi x]) M = some (zi x, M) := eb_E_r hk101 rfl
theorem e101_48 {x : Int32} : eb_E L d 101 48 [v0, v1, some (zi x)] (st) M = eb_E L d 101 51 [v0, v1, some (zi (x + (-1)))] (st) M := eb_E_s hk101 rfl
theorem e101_51  : eb_E L d 101 51 ls (st) M = eb_E L d 101 23 ls (st) M := eb_E_s hk101 rfl
theorem e101_54  : eb_E L d 101 54 ls (st) M = eb_E L d 101 55 ls (zi (-1) :: st) M := eb_E_s hk101 rfl
theorem e101_55 {x : Int32} : eb_E L d 101 55 ls ([zi x]) M = some (zi x, M) := eb_E_r hk101 rfl
/-! X5_share -/
theorem hk102 : eb_cd L 102 = eb_look (kt102 L) := rfl
theorem h102 (ha : (eb_ty L a.1).1 = 5) {x1 : Int32} : eb_ev L (d + 1) 102 [zr a, zi x1] M = eb_E L d 102 0 [some (zr a), some (zi x1), none, none] [] M := eb_ev_s rfl (eb_chk_i ha rfl)
theorem e102_0 {x : Option eb_A} : eb_E L d 102 0 [some (Sum.inr x), v1, v2, v3] (st) M = eb_E L d 102 1 [some (Sum.inr x), v1, v2, v3] (Sum.inr x :: st) M := eb_E_s hk102 rfl
theorem e102_1 {x : Int32} : eb_E L d 102 1 [v0, some (zi x), v2, v3] (st) M = eb_E L d 102 2 [v0, some (zi x), v2, v3] (zi x :: st) M := eb_E_s hk102 rfl
theorem e102_2  : eb_E L d 102 2 ls ([a1, a0]) M = (eb_ev L d 132 [a0, a1] M).bind (fun q => eb_E L d 102 5 ls [q.1] q.2) := eb_E_c hk102 rfl
theorem e102_5 {x : Int32} : eb_E L d 102 5 ls (zi x :: st) M = if x = 0 then eb_E L d 102 8 ls st M else eb_E L d 102 15 ls st M := eb_E_b hk102 rfl
theorem e102_8 {x : Option eb_A} : eb_E L d 102 8 [some (Sum.inr x), v1, v2, v3] (st) M = eb_E L d 102 9 [some (Sum.inr x), v1, v2, v3] (Sum.inr x :: st) M := eb_E_s hk102 rfl
theorem e102_9  : eb_E L d 102 9 ls (st) M = eb_E L d 102 11 ls (zi (-2) :: st) M := eb_E_s hk102 rfl
theorem e102_11  : eb_E L d 102 11 ls ([a1, a0]) M = (eb_ev L d 125 [a0, a1] M).bind (fun q => eb_E L d 102 14 ls [q.1] q.2) := eb_E_c hk102 rfl
theorem e102_14 {x : Int32} : eb_E L d 102 14 ls ([zi x]) M = some (zi x, M) := eb_E_r hk102 rfl
theorem e102_15 {x : Option eb_A} : eb_E L d 102 15 [some (Sum.inr x), v1, v2, v3] (st) M = eb_E L d 102 16 [some (Sum.inr x), v1, v2, v3] (Sum.inr x :: st) M := eb_E_s hk102 rfl
theorem e102_16  : eb_E L d 102 16 ls (Sum.inr (some a) :: st) (nc, ns, I, J, R) = if (eb_ty L a.1).1 = 5 then eb_E L d 102 19 ls (Sum.inr (R a 0) :: st) (nc, ns, I, J, R) else none := eb_E_iy hk102 rfl
theorem e102_19  : eb_E L d 102 19 ls ([a0]) M = (eb_ev L d 46 [a0] M).bind (fun q => eb_E L d 102 22 ls [q.1] q.2) := eb_E_c hk102 rfl
theorem e102_22 {x : Int32} : eb_E L d 102 22 [v0, v1, v2, v3] (zi x :: st) M = eb_E L d 102 23 [v0, v1, some (zi x), v3] (st) M := eb_E_s hk102 rfl
theorem e102_23 {x : Option eb_A} : eb_E L d 102 23 [some (Sum.inr x), v1, v2, v3] (st) M = eb_E L d 102 24 [some (Sum.inr x), v1, v2, v3] (Sum.inr x :: st) M := eb_E_s hk102 rfl
theorem e102_24  : eb_E L d 102 24 ls (Sum.inr (some a) :: st) (nc, ns, I, J, R) = if (eb_ty L a.1).1 = 5 then eb_E L d 102 27 ls (Sum.inr (R a 0) :: st) (nc, ns, I, J, R) else none := eb_E_iy hk102 rfl
theorem e102_27  : eb_E L d 102 27 ls (Sum.inr (some a) :: st) (nc, ns, I, J, R) = if (eb_ty L a.1).1 = 4 then eb_E L d 102 30 ls (Sum.inr (R a 1) :: st) (nc, ns, I, J, R) else none := eb_E_iy hk102 rfl
theorem e102_30 {x : Int32} : eb_E L d 102 30 [v0, some (zi x), v2, v3] (st) M = eb_E L d 102 31 [v0, some (zi x), v2, v3] (zi x :: st) M := eb_E_s hk102 rfl
theorem e102_31 {x : Int32} : eb_E L d 102 31 ls (zi x :: Sum.inr (some a) :: st) (nc, ns, I, J, R) = if (12 ≤ (eb_ty L a.1).1 ∧ (eb_ty L a.1).1 ≤ 16) ∧ eb_in x (eb_ty L a.1).2 = true then eb_E L d 102 32 ls (Sum.inr (R a x.toNatClampNeg) :: st) (nc, ns, I, J, R) else none := eb_E_iy hk102 rfl
theorem e102_32  : eb_E L d 102 32 ls (Sum.inr (some a) :: st) (nc, ns, I, J, R) = if (eb_ty L a.1).1 = 0 then eb_E L d 102 35 ls (zi (I a 1) :: st) (nc, ns, I, J, R) else none := eb_E_iy hk102 rfl
theorem e102_35 {x : Int32} : eb_E L d 102 35 [v0, v1, v2, v3] (zi x :: st) M = eb_E L d 102 36 [v0, v1, v2, some (zi x)] (st) M := eb_E_s hk102 rfl
theorem e102_36 {x : Option eb_A} : eb_E L d 102 36 [some (Sum.inr x), v1, v2, v3] (st) M = eb_E L d 102 37 [some (Sum.inr x), v1, v2, v3] (Sum.inr x :: st) M := eb_E_s hk102 rfl
theorem e102_37 {x : Int32} : eb_E L d 102 37 [v0, v1, some (zi x), v3] (st) M = eb_E L d 102 38 [v0, v1, some (zi x), v3] (zi x :: st) M := eb_E_s hk102 rfl
theorem e102_38  : eb_E L d 102 38 ls ([a1, a0]) M = (eb_ev L d 131 [a0, a1] M).bind (fun q => eb_E L d 102 41 ls [q.1] q.2) := eb_E_c hk102 rfl
theorem e102_41 {x : Int32} : eb_E L d 102 41 ls (zi x :: st) M = if x = 0 then eb_E L d 102 49 ls st M else eb_E L d 102 44 ls st M := eb_E_b hk102 rfl
theorem e102_44 {x : Int32} : eb_E L d 102 44 [v0, v1, v2, some (zi x)] (st) M = eb_E L d 102 45 [v0, v1, v2, some (zi x)] (zi x :: st) M := eb_E_s hk102 rfl
theorem e102_45  : eb_E L d 102 45 ls (st) M = eb_E L d 102 46 ls (zi 1 :: st) M := eb_E_s hk102 rfl
theorem e102_46 {x : Int32} {y : Int32} : eb_E L d 102 46 ls (zi y :: zi x :: st) M = if x < y then eb_E L d 102 49 ls st M else eb_E L d 102 56 ls st M := eb_E_b hk102 rfl
theorem e102_49 {x : Option eb_A} : eb_E L d 102 49 [some (Sum.inr x), v1, v2, v3] (st) M = eb_E L d 102 50 [some (Sum.inr x), v1, v2, v3] (Sum.inr x :: st) M := eb_E_s hk102 rfl
theorem e102_50  : eb_E L d 102 50 ls (st) M = eb_E L d 102 52 ls (zi (-5) :: st) M := eb_E_s hk102 rfl
theorem e102_52  : eb_E L d 102 52 ls ([a1, a0]) M = (eb_ev L d 125 [a0, a1] M).bind (fun q => eb_E L d 102 55 ls [q.1] q.2) := eb_E_c hk102 rfl
theorem e102_55 {x : Int32} : eb_E L d 102 55 ls ([zi x]) M = some (zi x, M) := eb_E_r hk102 rfl
theorem e102_56  : eb_E L d 102 56 ls (st) M = eb_E L d 102 58 ls (zi 100 :: st) M := eb_E_s hk102 rfl
theorem e102_58 {x : Option eb_A} : eb_E L d 102 58 [some (Sum.inr x), v1, v2, v3] (st) M = eb_E L d 102 59 [some (Sum.inr x), v1, v2, v3] (Sum.inr x :: st) M := eb_E_s hk102 rfl
theorem e102_59 {s0 : Int32} : eb_E L d 102 59 ls ([a0, zi s0]) M = (eb_ev L d 137 [a0] M).bind (fun q => eb_E L d 102 62 ls [q.1, zi s0] q.2) := eb_E_c hk102 rfl
theorem e102_62  : eb_E L d 102 62 ls (Sum.inr (some a) :: st) (nc, ns, I, J, R) = if (eb_ty L a.1).1 = 4 then eb_E L d 102 65 ls (Sum.inr (R a 1) :: st) (nc, ns, I, J, R) else none := eb_E_iy hk102 rfl
theorem e102_65 {x : Int32} : eb_E L d 102 65 [v0, some (zi x), v2, v3] (st) M = eb_E L d 102 66 [v0, some (zi x), v2, v3] (zi x :: st) M := eb_E_s hk102 rfl
theorem e102_66 {x : Int32} : eb_E L d 102 66 ls (zi x :: Sum.inr (some a) :: st) (nc, ns, I, J, R) = if (12 ≤ (eb_ty L a.1).1 ∧ (eb_ty L a.1).1 ≤ 16) ∧ eb_in x (eb_ty L a.1).2 = true then eb_E L d 102 67 ls (Sum.inr (R a x.toNatClampNeg) :: st) (nc, ns, I, J, R) else none := eb_E_iy hk102 rfl
theorem e102_67  : eb_E L d 102 67 ls (Sum.inr (some a) :: st) (nc, ns, I, J, R) = if (eb_ty L a.1).1 = 0 then eb_E L d 102 70 ls (Sum.inr (R a 3) :: st) (nc, ns, I, J, R) else none := eb_E_iy hk102 rfl
theorem e102_70 {x : Int32} : eb_E L d 102 70 [v0, v1, some (zi x), v3] (st) M = eb_E L d 102 71 [v0, v1, some (zi x), v3] (zi x :: st) M := eb_E_s hk102 rfl
theorem e102_71 {x : Int32} : eb_E L d 102 71 ls (zi x :: Sum.inr (some a) :: st) (nc, ns, I, J, R) = if (eb_ty L a.1).1 = 10 ∧ eb_in x (eb_ty L a.1).2 = true then eb_E L d 102 72 ls (zi (I a x.toNatClampNeg) :: st) (nc, ns, I, J, R) else none := eb_E_iy hk102 rfl
theorem e102_72 {x : Int32} {y : Int32} : eb_E L d 102 72 ls (zi y :: zi x :: st) M = eb_E L d 102 73 ls (zi (x * y) :: st) M := eb_E_s hk102 rfl
theorem e102_73 {x : Int32} : eb_E L d 102 73 [v0, v1, v2, some (zi x)] (st) M = eb_E L d 102 74 [v0, v1, v2, some (zi x)] (zi x :: st) M := eb_E_s hk102 rfl
theorem e102_74 {x : Int32} {y : Int32} : eb_E L d 102 74 ls (zi y :: zi x :: st) M = if y = 0 then none else eb_E L d 102 75 ls (zi (x / y) :: st) M := eb_E_in hk102 rfl
theorem e102_75 {x : Int32} : eb_E L d 102 75 ls ([zi x]) M = some (zi x, M) := eb_E_r hk102 rfl
/-! X5_nine -/
theorem hk103 : eb_cd L 103 = eb_look (kt103 L) := rfl
theorem h103 (ha : (eb_ty L a.1).1 = 5) {x1 : Int32} {x2 : Int32} {x3 : Int32} : eb_ev L (d + 1) 103 [zr a, zi x1, zi x2, zi x3] M = eb_E L d 103 0 [some (zr a), some (zi x1), some (zi x2), some (zi x3)] [] M := eb_ev_s rfl (eb_chk_i ha rfl)
theorem e103_0 {x : Option eb_A} : eb_E L d 103 0 [some (Sum.inr x), v1, v2, v3] (st) M = eb_E L d 103 1 [some (Sum.inr x), v1, v2, v3] (Sum.inr x :: st) M := eb_E_s hk103 rfl
theorem e103_1 {x : Int32} : eb_E L d 103 1 [v0, some (zi x), v2, v3] (st) M = eb_E L d 103 2 [v0, some (zi x), v2, v3] (zi x :: st) M := eb_E_s hk103 rfl
theorem e103_2  : eb_E L d 103 2 ls ([a1, a0]) M = (eb_ev L d 131 [a0, a1] M).bind (fun q => eb_E L d 103 5 ls [q.1] q.2) := eb_E_c hk103 rfl
theorem e103_5 {x : Int32} : eb_E L d 103 5 ls (zi x :: st) M = if x = 0 then eb_E L d 103 25 ls st M else eb_E L d 103 8 ls st M := eb_E_b hk103 rfl
theorem e103_8 {x : Int32} : eb_E L d 103 8 [v0, v1, some (zi x), v3] (st) M = eb_E L d 103 9 [v0, v1, some (zi x), v3] (zi x :: st) M := eb_E_s hk103 rfl
theorem e103_9  : eb_E L d 103 9 ls (st) M = eb_E L d 103 10 ls (zi 1 :: st) M := eb_E_s hk103 rfl
theorem e103_10  : eb_E L d 103 10 ls (st) M = eb_E L d 103 12 ls (zi 40 :: st) M := eb_E_s hk103 rfl
theorem e103_12  : eb_E L d 103 12 ls ([a2, a1, a0]) M = (eb_ev L d 127 [a0, a1, a2] M).bind (fun q => eb_E L d 103 15 ls [q.1] q.2) := eb_E_c hk103 rfl
theorem e103_15 {x : Int32} : eb_E L d 103 15 ls (zi x :: st) M = if x = 0 then eb_E L d 103 25 ls st M else eb_E L d 103 18 ls st M := eb_E_b hk103 rfl
theorem e103_18 {x : Int32} : eb_E L d 103 18 [v0, v1, v2, some (zi x)] (st) M = eb_E L d 103 19 [v0, v1, v2, some (zi x)] (zi x :: st) M := eb_E_s hk103 rfl
theorem e103_19  : eb_E L d 103 19 ls ([a0]) M = (eb_ev L d 129 [a0] M).bind (fun q => eb_E L d 103 22 ls [q.1] q.2) := eb_E_c hk103 rfl
theorem e103_22 {x : Int32} : eb_E L d 103 22 ls (zi x :: st) M = if x = 0 then eb_E L d 103 25 ls st M else eb_E L d 103 32 ls st M := eb_E_b hk103 rfl
theorem e103_25 {x : Option eb_A} : eb_E L d 103 25 [some (Sum.inr x), v1, v2, v3] (st) M = eb_E L d 103 26 [some (Sum.inr x), v1, v2, v3] (Sum.inr x :: st) M := eb_E_s hk103 rfl
theorem e103_26  : eb_E L d 103 26 ls (st) M = eb_E L d 103 28 ls (zi (-2) :: st) M := eb_E_s hk103 rfl
theorem e103_28  : eb_E L d 103 28 ls ([a1, a0]) M = (eb_ev L d 126 [a0, a1] M).bind (fun q => eb_E L d 103 31 ls [q.1] q.2) := eb_E_c hk103 rfl
theorem e103_31 {x : Int32} : eb_E L d 103 31 ls ([zi x]) M = some (zi x, M) := eb_E_r hk103 rfl
theorem e103_32 {x : Option eb_A} : eb_E L d 103 32 [some (Sum.inr x), v1, v2, v3] (st) M = eb_E L d 103 33 [some (Sum.inr x), v1, v2, v3] (Sum.inr x :: st) M := eb_E_s hk103 rfl
theorem e103_33  : eb_E L d 103 33 ls (Sum.inr (some a) :: st) (nc, ns, I, J, R) = if (eb_ty L a.1).1 = 5 then eb_E L d 103 36 ls (Sum.inr (R a 0) :: st) (nc, ns, I, J, R) else none := eb_E_iy hk103 rfl
theorem e103_36  : eb_E L d 103 36 ls (Sum.inr (some a) :: st) (nc, ns, I, J, R) = if (eb_ty L a.1).1 = 4 then eb_E L d 103 39 ls (Sum.inr (R a 0) :: st) (nc, ns, I, J, R) else none := eb_E_iy hk103 rfl
theorem e103_39 {x : Int32} : eb_E L d 103 39 [v0, some (zi x), v2, v3] (st) M = eb_E L d 103 40 [v0, some (zi x), v2, v3] (zi x :: st) M := eb_E_s hk103 rfl
theorem e103_40 {x : Int32} : eb_E L d 103 40 ls (zi x :: Sum.inr (some a) :: st) (nc, ns, I, J, R) = if (12 ≤ (eb_ty L a.1).1 ∧ (eb_ty L a.1).1 ≤ 16) ∧ eb_in x (eb_ty L a.1).2 = true then eb_E L d 103 41 ls (Sum.inr (R a x.toNatClampNeg) :: st) (nc, ns, I, J, R) else none := eb_E_iy hk103 rfl
theorem e103_41 {x : Int32} : eb_E L d 103 41 [v0, v1, some (zi x), v3] (st) M = eb_E L d 103 42 [v0, v1, some (zi x), v3] (zi x :: st) M := eb_E_s hk103 rfl
theorem e103_42 {x : Int32} : eb_E L d 103 42 [v0, v1, v2, some (zi x)] (st) M = eb_E L d 103 43 [v0, v1, v2, some (zi x)] (zi x :: st) M := eb_E_s hk103 rfl
theorem e103_43  : eb_E L d 103 43 ls ([a2, a1, a0]) M = (eb_ev L d 11 [a0, a1, a2] M).bind (fun q => eb_E L d 103 46 ls [q.1] q.2) := eb_E_c hk103 rfl
theorem e103_46 {x : Int32} : eb_E L d 103 46 ls ([zi x]) M = some (zi x, M) := eb_E_r hk103 rfl
/-! X5_two -/
theorem hk104 : eb_cd L 104 = eb_look (kt104 L) := rfl
theorem h104 (ha : (eb_ty L a.1).1 = 5) {x1 : Int32} {x2 : Int32} : eb_ev L (d + 1) 104 [zr a, zi x1, zi x2] M = eb_E L d 104 0 [some (zr a), some (zi x1), some (zi x2)] [] M := eb_ev_s rfl (eb_chk_i ha rfl)
theorem e104_0 {x : Option eb_A} : eb_E L d 104 0 [some (Sum.inr x), v1, v2] (st) M = eb_E L d 104 1 [some (Sum.inr x), v1, v2] (Sum.inr x :: st) M := eb_E_s hk104 rfl
theorem e104_1 {x : Int32} : eb_E L d 104 1 [v0, some (zi x), v2] (st) M = eb_E L d 104 2 [v0, some (zi x), v2] (zi x :: st) M := eb_E_s hk104 rfl
theorem e104_2  : eb_E L d 104 2 ls ([a1, a0]) M = (eb_ev L d 134 [a0, a1] M).bind (fun q => eb_E L d 104 5 ls [q.1] q.2) := eb_E_c hk104 rfl
theorem e104_5 {x : Int32} : eb_E L d 104 5 ls (zi x :: st) M = if x = 0 then eb_E L d 104 16 ls st M else eb_E L d 104 8 ls st M := eb_E_b hk104 rfl
theorem e104_8 {x : Option eb_A} : eb_E L d 104 8 [some (Sum.inr x), v1, v2] (st) M = eb_E L d 104 9 [some (Sum.inr x), v1, v2] (Sum.inr x :: st) M := eb_E_s hk104 rfl
theorem e104_9 {x : Int32} : eb_E L d 104 9 [v0, v1, some (zi x)] (st) M = eb_E L d 104 10 [v0, v1, some (zi x)] (zi x :: st) M := eb_E_s hk104 rfl
theorem e104_10  : eb_E L d 104 10 ls ([a1, a0]) M = (eb_ev L d 134 [a0, a1] M).bind (fun q => eb_E L d 104 13 ls [q.1] q.2) := eb_E_c hk104 rfl
theorem e104_13 {x : Int32} : eb_E L d 104 13 ls (zi x :: st) M = if x = 0 then eb_E L d 104 16 ls st M else eb_E L d 104 23 ls st M := eb_E_b hk104 rfl
theorem e104_16 {x : Option eb_A} : eb_E L d 104 16 [some (Sum.inr x), v1, v2] (st) M = eb_E L d 104 17 [some (Sum.inr x), v1, v2] (Sum.inr x :: st) M := eb_E_s hk104 rfl
theorem e104_17  : eb_E L d 104 17 ls (st) M = eb_E L d 104 19 ls (zi (-2) :: st) M := eb_E_s hk104 rfl
theorem e104_19  : eb_E L d 104 19 ls ([a1, a0]) M = (eb_ev L d 126 [a0, a1] M).bind (fun q => eb_E L d 104 22 ls [q.1] q.2) := eb_E_c hk104 rfl
theorem e104_22 {x : Int32} : eb_E L d 104 22 ls ([zi x]) M = some (zi x, M) := eb_E_r hk104 rfl
theorem e104_23 {x : Option eb_A} : eb_E L d 104 23 [some (Sum.inr x), v1, v2] (st) M = eb_E L d 104 24 [some (Sum.inr x), v1, v2] (Sum.inr x :: st) M := eb_E_s hk104 rfl
theorem e104_24  : eb_E L d 104 24 ls ([a0]) M = (eb_ev L d 138 [a0] M).bind (fun q => eb_E L d 104 27 ls [q.1] q.2) := eb_E_c hk104 rfl
theorem e104_27 {x : Int32} : eb_E L d 104 27 [v0, some (zi x), v2] (st) M = eb_E L d 104 28 [v0, some (zi x), v2] (zi x :: st) M := eb_E_s hk104 rfl
theorem e104_28 {x : Int32} : eb_E L d 104 28 [v0, v1, some (zi x)] (st) M = eb_E L d 104 29 [v0, v1, some (zi x)] (zi x :: st) M := eb_E_s hk104 rfl
theorem e104_29  : eb_E L d 104 29 ls ([a2, a1, a0]) M = (eb_ev L d 51 [a0, a1, a2] M).bind (fun q => eb_E L d 104 32 ls [] q.2) := eb_E_c hk104 rfl
theorem e104_32 {x : Option eb_A} : eb_E L d 104 32 [some (Sum.inr x), v1, v2] (st) M = eb_E L d 104 33 [some (Sum.inr x), v1, v2] (Sum.inr x :: st) M := eb_E_s hk104 rfl
theorem e104_33  : eb_E L d 104 33 ls (Sum.inr (some a) :: st) (nc, ns, I, J, R) = if (eb_ty L a.1).1 = 5 then eb_E L d 104 36 ls (Sum.inr (R a 1) :: st) (nc, ns, I, J, R) else none := eb_E_iy hk104 rfl
theorem e104_36  : eb_E L d 104 36 ls ([a0]) M = (eb_ev L d 60 [a0] M).bind (fun q => eb_E L d 104 39 ls [q.1] q.2) := eb_E_c hk104 rfl
theorem e104_39 {x : Int32} : eb_E L d 104 39 ls ([zi x]) M = some (zi x, M) := eb_E_r hk104 rfl
/-! X5_judge -/
theorem hk105 : eb_cd L 105 = eb_look (kt105 L) := rfl
theorem h105 (ha : (eb_ty L a.1).1 = 5) {x1 : Int32} : eb_ev L (d + 1) 105 [zr a, zi x1] M = eb_E L d 105 0 [some (zr a), some (zi x1), none, none, none, none, none] [] M := eb_ev_s rfl (eb_chk_i ha rfl)
theorem e105_0 {x : Option eb_A} : eb_E L d 105 0 [some (Sum.inr x), v1, v2, v3, v4, v5, v6] (st) M = eb_E L d 105 1 [some (Sum.inr x), v1, v2, v3, v4, v5, v6] (Sum.inr x :: st) M := eb_E_s hk105 rfl
theorem e105_1 {x : Int32} : eb_E L d 105 1 [v0, some (zi x), v2, v3, v4, v5, v6] (st) M = eb_E L d 105 2 [v0, some (zi x), v2, v3, v4, v5, v6] (zi x :: st) M := eb_E_s hk105 rfl
theorem e105_2  : eb_E L d 105 2 ls ([a1, a0]) M = (eb_ev L d 135 [a0, a1] M).bind (fun q => eb_E L d 105 5 ls [q.1] q.2) := eb_E_c hk105 rfl
theorem e105_5 {x : Int32} : eb_E L d 105 5 [v0, v1, v2, v3, v4, v5, v6] (zi x :: st) M = eb_E L d 105 6 [v0, v1, some (zi x), v3, v4, v5, v6] (st) M := eb_E_s hk105 rfl
theorem e105_6 {x : Int32} : eb_E L d 105 6 [v0, v1, some (zi x), v3, v4, v5, v6] (st) M = eb_E L d 105 7 [v0, v1, some (zi x), v3, v4, v5, v6] (zi x :: st) M := eb_E_s hk105 rfl
theorem e105_7 {x : Int32} : eb_E L d 105 7 ls (zi x :: st) M = if x = 0 then eb_E L d 105 16 ls st M else eb_E L d 105 10 ls st M := eb_E_b hk105 rfl
theorem e105_10 {x : Option eb_A} : eb_E L d 105 10 [some (Sum.inr x), v1, v2, v3, v4, v5, v6] (st) M = eb_E L d 105 11 [some (Sum.inr x), v1, v2, v3, v4, v5, v6] (Sum.inr x :: st) M := eb_E_s hk105 rfl
theorem e105_11 {x : Int32} : eb_E L d 105 11 [v0, v1, some (zi x), v3, v4, v5, v6] (st) M = eb_E L d 105 12 [v0, v1, some (zi x), v3, v4, v5, v6] (zi x :: st) M := eb_E_s hk105 rfl
theorem e105_12  : eb_E L d 105 12 ls ([a1, a0]) M = (eb_ev L d 125 [a0, a1] M).bind (fun q => eb_E L d 105 15 ls [q.1] q.2) := eb_E_c hk105 rfl
theorem e105_15 {x : Int32} : eb_E L d 105 15 ls ([zi x]) M = some (zi x, M) := eb_E_r hk105 rfl
theorem e105_16 {x : Option eb_A} : eb_E L d 105 16 [some (Sum.inr x), v1, v2, v3, v4, v5, v6] (st) M = eb_E L d 105 17 [some (Sum.inr x), v1, v2, v3, v4, v5, v6] (Sum.inr x :: st) M := eb_E_s hk105 rfl
theorem e105_17  : eb_E L d 105 17 ls (Sum.inr (some a) :: st) (nc, ns, I, J, R) = if (eb_ty L a.1).1 = 5 then eb_E L d 105 20 ls (Sum.inr (R a 4) :: st) (nc, ns, I, J, R) else none := eb_E_iy hk105 rfl
theorem e105_20 {x : Int32} : eb_E L d 105 20 [v0, some (zi x), v2, v3, v4, v5, v6] (st) M = eb_E L d 105 21 [v0, some (zi x), v2, v3, v4, v5, v6] (zi x :: st) M := eb_E_s hk105 rfl
theorem e105_21 {x : Int32} : eb_E L d 105 21 ls (zi x :: Sum.inr (some a) :: st) (nc, ns, I, J, R) = if (12 ≤ (eb_ty L a.1).1 ∧ (eb_ty L a.1).1 ≤ 16) ∧ eb_in x (eb_ty L a.1).2 = true then eb_E L d 105 22 ls (Sum.inr (R a x.toNatClampNeg) :: st) (nc, ns, I, J, R) else none := eb_E_iy hk105 rfl
theorem e105_22 {x : Option eb_A} : eb_E L d 105 22 [v0, v1, v2, v3, v4, v5, v6] (Sum.inr x :: st) M = eb_E L d 105 23 [v0, v1, v2, some (Sum.inr x), v4, v5, v6] (st) M := eb_E_s hk105 rfl
theorem e105_23 {x : Option eb_A} : eb_E L d 105 23 [v0, v1, v2, some (Sum.inr x), v4, v5, v6] (st) M = eb_E L d 105 24 [v0, v1, v2, some (Sum.inr x), v4, v5, v6] (Sum.inr x :: st) M := eb_E_s hk105 rfl
theorem e105_24  : eb_E L d 105 24 ls (Sum.inr (some a) :: st) (nc, ns, I, J, R) = if (eb_ty L a.1).1 = 2 then eb_E L d 105 27 ls (zi (I a 1) :: st) (nc, ns, I, J, R) else none := eb_E_iy hk105 rfl
theorem e105_27 {x : Option eb_A} : eb_E L d 105 27 [some (Sum.inr x), v1, v2, v3, v4, v5, v6] (st) M = eb_E L d 105 28 [some (Sum.inr x), v1, v2, v3, v4, v5, v6] (Sum.inr x :: st) M := eb_E_s hk105 rfl
theorem e105_28  : eb_E L d 105 28 ls (Sum.inr (some a) :: st) (nc, ns, I, J, R) = if (eb_ty L a.1).1 = 5 then eb_E L d 105 31 ls (Sum.inr (R a 0) :: st) (nc, ns, I, J, R) else none := eb_E_iy hk105 rfl
theorem e105_31  : eb_E L d 105 31 ls (Sum.inr (some a) :: st) (nc, ns, I, J, R) = if (eb_ty L a.1).1 = 4 then eb_E L d 105 34 ls (zi (I a 3) :: st) (nc, ns, I, J, R) else none := eb_E_iy hk105 rfl
theorem e105_34 {x : Option eb_A} : eb_E L d 105 34 [some (Sum.inr x), v1, v2, v3, v4, v5, v6] (st) M = eb_E L d 105 35 [some (Sum.inr x), v1, v2, v3, v4, v5, v6] (Sum.inr x :: st) M := eb_E_s hk105 rfl
theorem e105_35  : eb_E L d 105 35 ls (Sum.inr (some a) :: st) (nc, ns, I, J, R) = if (eb_ty L a.1).1 = 5 then eb_E L d 105 38 ls (Sum.inr (R a 0) :: st) (nc, ns, I, J, R) else none := eb_E_iy hk105 rfl
theorem e105_38  : eb_E L d 105 38 ls (Sum.inr (some a) :: st) (nc, ns, I, J, R) = if (eb_ty L a.1).1 = 4 then eb_E L d 105 41 ls (zi (I a 2) :: st) (nc, ns, I, J, R) else none := eb_E_iy hk105 rfl
theorem e105_41 {x : Int32} {y : Int32} : eb_E L d 105 41 ls (zi y :: zi x :: st) M = eb_E L d 105 42 ls (zi (x * y) :: st) M := eb_E_s hk105 rfl
theorem e105_42 {x : Int32} {y : Int32} : eb_E L d 105 42 ls (zi y :: zi x :: st) M = if x < y then eb_E L d 105 45 ls st M else eb_E L d 105 52 ls st M := eb_E_b hk105 rfl
theorem e105_45 {x : Option eb_A} : eb_E L d 105 45 [some (Sum.inr x), v1, v2, v3, v4, v5, v6] (st) M = eb_E L d 105 46 [some (Sum.inr x), v1, v2, v3, v4, v5, v6] (Sum.inr x :: st) M := eb_E_s hk105 rfl
theorem e105_46  : eb_E L d 105 46 ls (st) M = eb_E L d 105 48 ls (zi (-2) :: st) M := eb_E_s hk105 rfl
theorem e105_48  : eb_E L d 105 48 ls ([a1, a0]) M = (eb_ev L d 125 [a0, a1] M).bind (fun q => eb_E L d 105 51 ls [q.1] q.2) := eb_E_c hk105 rfl
theorem e105_51 {x : Int32} : eb_E L d 105 51 ls ([zi x]) M = some (zi x, M) := eb_E_r hk105 rfl
theorem e105_52 {x : Option eb_A} : eb_E L d 105 52 [some (Sum.inr x), v1, v2, v3, v4, v5, v6] (st) M = eb_E L d 105 53 [some (Sum.inr x), v1, v2, v3, v4, v5, v6] (Sum.inr x :: st) M := eb_E_s hk105 rfl
theorem e105_53  : eb_E L d 105 53 ls (Sum.inr (some a) :: st) (nc, ns, I, J, R) = if (eb_ty L a.1).1 = 5 then eb_E L d 105 56 ls (Sum.inr (R a 0) :: st) (nc, ns, I, J, R) else none := eb_E_iy hk105 rfl
theorem e105_56  : eb_E L d 105 56 ls ([a0]) M = (eb_ev L d 50 [a0] M).bind (fun q => eb_E L d 105 59 ls [] q.2) := eb_E_c hk105 rfl
theorem e105_59  : eb_E L d 105 59 ls (st) M = eb_E L d 105 60 ls (zi 0 :: st) M := eb_E_s hk105 rfl
theorem e105_60 {x : Int32} : eb_E L d 105 60 [v0, v1, v2, v3, v4, v5, v6] (zi x :: st) M = eb_E L d 105 62 [v0, v1, v2, v3, some (zi x), v5, v6] (st) M := eb_E_s hk105 rfl
theorem e105_62  : eb_E L d 105 62 ls (st) M = eb_E L d 105 63 ls (zi 0 :: st) M := eb_E_s hk105 rfl
theorem e105_63 {x : Int32} : eb_E L d 105 63 [v0, v1, v2, v3, v4, v5, v6] (zi x :: st) M = eb_E L d 105 65 [v0, v1, v2, v3, v4, some (zi x), v6] (st) M := eb_E_s hk105 rfl
theorem e105_65 {x : Int32} : eb_E L d 105 65 [v0, v1, v2, v3, v4, some (zi x), v6] (st) M = eb_E L d 105 67 [v0, v1, v2, v3, v4, some (zi x), v6] (zi x :: st) M := eb_E_s hk105 rfl
theorem e105_67 {x : Option eb_A} : eb_E L d 105 67 [some (Sum.inr x), v1, v2, v3, v4, v5, v6] (st) M = eb_E L d 105 68 [some (Sum.inr x), v1, v2, v3, v4, v5, v6] (Sum.inr x :: st) M := eb_E_s hk105 rfl
theorem e105_68  : eb_E L d 105 68 ls (Sum.inr (some a) :: st) (nc, ns, I, J, R) = if (eb_ty L a.1).1 = 5 then eb_E L d 105 71 ls (Sum.inr (R a 0) :: st) (nc, ns, I, J, R) else none := eb_E_iy hk105 rfl
theorem e105_71  : eb_E L d 105 71 ls (Sum.inr (some a) :: st) (nc, ns, I, J, R) = if (eb_ty L a.1).1 = 4 then eb_E L d 105 74 ls (zi (I a 3) :: st) (nc, ns, I, J, R) else none := eb_E_iy hk105 rfl
theorem e105_74 {x : Int32} {y : Int32} : eb_E L d 105 74 ls (zi y :: zi x :: st) M = if x < y then eb_E L d 105 77 ls st M else eb_E L d 105 138 ls st M := eb_E_b hk105 rfl
theorem e105_77  : eb_E L d 105 77 ls (st) M = eb_E L d 105 78 ls (zi 0 :: st) M := eb_E_s hk105 rfl
theorem e105_78 {x : Int32} : eb_E L d 105 78 [v0, v1, v2, v3, v4, v5, v6] (zi x :: st) M = eb_E L d 105 80 [v0, v1, v2, v3, v4, v5, some (zi x)] (st) M := eb_E_s hk105 rfl
theorem e105_80 {x : Int32} : eb_E L d 105 80 [v0, v1, v2, v3, v4, v5, some (zi x)] (st) M = eb_E L d 105 82 [v0, v1, v2, v3, v4, v5, some (zi x)] (zi x :: st) M := eb_E_s hk105 rfl
theorem e105_82 {x : Option eb_A} : eb_E L d 105 82 [some (Sum.inr x), v1, v2, v3, v4, v5, v6] (st) M = eb_E L d 105 83 [some (Sum.inr x), v1, v2, v3, v4, v5, v6] (Sum.inr x :: st) M := eb_E_s hk105 rfl
theorem e105_83  : eb_E L d 105 83 ls (Sum.inr (some a) :: st) (nc, ns, I, J, R) = if (eb_ty L a.1).1 = 5 then eb_E L d 105 86 ls (Sum.inr (R a 0) :: st) (nc, ns, I, J, R) else none := eb_E_iy hk105 rfl
theorem e105_86  : eb_E L d 105 86 ls (Sum.inr (some a) :: st) (nc, ns, I, J, R) = if (eb_ty L a.1).1 = 4 then eb_E L d 105 89 ls (zi (I a 2) :: st) (nc, ns, I, J, R) else none := eb_E_iy hk105 rfl
theorem e105_89 {x : Int32} {y : Int32} : eb_E L d 105 89 ls (zi y :: zi x :: st) M = if x < y then eb_E L d 105 92 ls st M else eb_E L d 105 132 ls st M := eb_E_b hk105 rfl
theorem e105_92 {x : Option eb_A} : eb_E L d 105 92 [v0, v1, v2, some (Sum.inr x), v4, v5, v6] (st) M = eb_E L d 105 93 [v0, v1, v2, some (Sum.inr x), v4, v5, v6] (Sum.inr x :: st) M := eb_E_s hk105 rfl
theorem e105_93  : eb_E L d 105 93 ls (Sum.inr (some a) :: st) (nc, ns, I, J, R) = if (eb_ty L a.1).1 = 2 then eb_E L d 105 96 ls (Sum.inr (R a 2) :: st) (nc, ns, I, J, R) else none := eb_E_iy hk105 rfl
theorem e105_96 {x : Int32} : eb_E L d 105 96 [v0, v1, v2, v3, some (zi x), v5, v6] (st) M = eb_E L d 105 98 [v0, v1, v2, v3, some (zi x), v5, v6] (zi x :: st) M := eb_E_s hk105 rfl
theorem e105_98 {x : Int32} : eb_E L d 105 98 ls (zi x :: Sum.inr (some a) :: st) (nc, ns, I, J, R) = if (eb_ty L a.1).1 = 11 ∧ eb_in x (eb_ty L a.1).2 = true then eb_E L d 105 99 ls (zl (J a x.toNatClampNeg) :: st) (nc, ns, I, J, R) else none := eb_E_iy hk105 rfl
theorem e105_99 {x : Option eb_A} : eb_E L d 105 99 [some (Sum.inr x), v1, v2, v3, v4, v5, v6] (st) M = eb_E L d 105 100 [some (Sum.inr x), v1, v2, v3, v4, v5, v6] (Sum.inr x :: st) M := eb_E_s hk105 rfl
theorem e105_100  : eb_E L d 105 100 ls (Sum.inr (some a) :: st) (nc, ns, I, J, R) = if (eb_ty L a.1).1 = 5 then eb_E L d 105 103 ls (Sum.inr (R a 0) :: st) (nc, ns, I, J, R) else none := eb_E_iy hk105 rfl
theorem e105_103  : eb_E L d 105 103 ls (Sum.inr (some a) :: st) (nc, ns, I, J, R) = if (eb_ty L a.1).1 = 4 then eb_E L d 105 106 ls (Sum.inr (R a 1) :: st) (nc, ns, I, J, R) else none := eb_E_iy hk105 rfl
theorem e105_106 {x : Int32} : eb_E L d 105 106 [v0, v1, v2, v3, v4, some (zi x), v6] (st) M = eb_E L d 105 108 [v0, v1, v2, v3, v4, some (zi x), v6] (zi x :: st) M := eb_E_s hk105 rfl
theorem e105_108 {x : Int32} : eb_E L d 105 108 ls (zi x :: Sum.inr (some a) :: st) (nc, ns, I, J, R) = if (12 ≤ (eb_ty L a.1).1 ∧ (eb_ty L a.1).1 ≤ 16) ∧ eb_in x (eb_ty L a.1).2 = true then eb_E L d 105 109 ls (Sum.inr (R a x.toNatClampNeg) :: st) (nc, ns, I, J, R) else none := eb_E_iy hk105 rfl
theorem e105_109  : eb_E L d 105 109 ls (Sum.inr (some a) :: st) (nc, ns, I, J, R) = if (eb_ty L a.1).1 = 0 then eb_E L d 105 112 ls (Sum.inr (R a 3) :: st) (nc, ns, I, J, R) else none := eb_E_iy hk105 rfl
theorem e105_112 {x : Int32} : eb_E L d 105 112 [v0, v1, v2, v3, v4, v5, some (zi x)] (st) M = eb_E L d 105 114 [v0, v1, v2, v3, v4, v5, some (zi x)] (zi x :: st) M := eb_E_s hk105 rfl
theorem e105_114 {x : Int32} : eb_E L d 105 114 ls (zi x :: Sum.inr (some a) :: st) (nc, ns, I, J, R) = if (eb_ty L a.1).1 = 10 ∧ eb_in x (eb_ty L a.1).2 = true then eb_E L d 105 115 ls (zi (I a x.toNatClampNeg) :: st) (nc, ns, I, J, R) else none := eb_E_iy hk105 rfl
theorem e105_115 {x : Int32} : eb_E L d 105 115 ls (zi x :: st) M = eb_E L d 105 116 ls (zl x.toInt64 :: st) M := eb_E_s hk105 rfl
theorem e105_116 {x : Int64} {y : Int64} : eb_E L d 105 116 ls (zl y :: zl x :: st) M = eb_E L d 105 117 ls (zi (if x < y then -1 else if x = y then 0 else 1) :: st) M := eb_E_s hk105 rfl
theorem e105_117 {x : Int32} : eb_E L d 105 117 ls (zi x :: st) M = if x = 0 then eb_E L d 105 123 ls st M else eb_E L d 105 120 ls st M := eb_E_b hk105 rfl
theorem e105_120 {x : Int32} : eb_E L d 105 120 [v0, v1, v2, v3, some (zi x), v5, v6] (st) M = eb_E L d 105 122 [v0, v1, v2, v3, some (zi x), v5, v6] (zi x :: st) M := eb_E_s hk105 rfl
theorem e105_122 {x : Int32} : eb_E L d 105 122 ls ([zi x]) M = some (zi x, M) := eb_E_r hk105 rfl
theorem e105_123 {x : Int32} : eb_E L d 105 123 [v0, v1, v2, v3, some (zi x), v5, v6] (st) M = eb_E L d 105 126 [v0, v1, v2, v3, some (zi (x + 1)), v5, v6] (st) M := eb_E_s hk105 rfl
theorem e105_126 {x : Int32} : eb_E L d 105 126 [v0, v1, v2, v3, v4, v5, some (zi x)] (st) M = eb_E L d 105 129 [v0, v1, v2, v3, v4, v5, some (zi (x + 1))] (st) M := eb_E_s hk105 rfl
theorem e105_129  : eb_E L d 105 129 ls (st) M = eb_E L d 105 80 ls (st) M := eb_E_s hk105 rfl
theorem e105_132 {x : Int32} : eb_E L d 105 132 [v0, v1, v2, v3, v4, some (zi x), v6] (st) M = eb_E L d 105 135 [v0, v1, v2, v3, v4, some (zi (x + 1)), v6] (st) M := eb_E_s hk105 rfl
theorem e105_135  : eb_E L d 105 135 ls (st) M = eb_E L d 105 65 ls (st) M := eb_E_s hk105 rfl
theorem e105_138  : eb_E L d 105 138 ls (st) M = eb_E L d 105 139 ls (zi (-1) :: st) M := eb_E_s hk105 rfl
theorem e105_139 {x : Int32} : eb_E L d 105 139 ls ([zi x]) M = some (zi x, M) := eb_E_r hk105 rfl
/-! X5_years -/
theorem hk106 : eb_cd L 106 = eb_look (kt106 L) := rfl
theorem h106 (ha : (eb_ty L a.1).1 = 5) {x1 : Int32} {x2 : Int32} : eb_ev L (d + 1) 106 [zr a, zi x1, zi x2] M = eb_E L d 106 0 [some (zr a), some (zi x1), some (zi x2), none] [] M := eb_ev_s rfl (eb_chk_i ha rfl)
theorem e106_0 {x : Int32} : eb_E L d 106 0 [v0, some (zi x), v2, v3] (st) M = eb_E L d 106 1 [v0, some (zi x), v2, v3] (zi x :: st) M := eb_E_s hk106 rfl
theorem e106_1  : eb_E L d 106 1 ls ([a0]) M = (eb_ev L d 130 [a0] M).bind (fun q => eb_E L d 106 4 ls [q.1] q.2) := eb_E_c hk106 rfl
theorem e106_4 {x : Int32} : eb_E L d 106 4 ls (zi x :: st) M = if x = 0 then eb_E L d 106 15 ls st M else eb_E L d 106 7 ls st M := eb_E_b hk106 rfl
theorem e106_7 {x : Option eb_A} : eb_E L d 106 7 [some (Sum.inr x), v1, v2, v3] (st) M = eb_E L d 106 8 [some (Sum.inr x), v1, v2, v3] (Sum.inr x :: st) M := eb_E_s hk106 rfl
theorem e106_8 {x : Int32} : eb_E L d 106 8 [v0, v1, some (zi x), v3] (st) M = eb_E L d 106 9 [v0, v1, some (zi x), v3] (zi x :: st) M := eb_E_s hk106 rfl
theorem e106_9  : eb_E L d 106 9 ls ([a1, a0]) M = (eb_ev L d 133 [a0, a1] M).bind (fun q => eb_E L d 106 12 ls [q.1] q.2) := eb_E_c hk106 rfl
theorem e106_12 {x : Int32} : eb_E L d 106 12 ls (zi x :: st) M = if x = 0 then eb_E L d 106 15 ls st M else eb_E L d 106 22 ls st M := eb_E_b hk106 rfl
theorem e106_15 {x : Option eb_A} : eb_E L d 106 15 [some (Sum.inr x), v1, v2, v3] (st) M = eb_E L d 106 16 [some (Sum.inr x), v1, v2, v3] (Sum.inr x :: st) M := eb_E_s hk106 rfl
theorem e106_16  : eb_E L d 106 16 ls (st) M = eb_E L d 106 18 ls (zi (-2) :: st) M := eb_E_s hk106 rfl
theorem e106_18  : eb_E L d 106 18 ls ([a1, a0]) M = (eb_ev L d 126 [a0, a1] M).bind (fun q => eb_E L d 106 21 ls [q.1] q.2) := eb_E_c hk106 rfl
theorem e106_21 {x : Int32} : eb_E L d 106 21 ls ([zi x]) M = some (zi x, M) := eb_E_r hk106 rfl
theorem e106_22 {x : Option eb_A} : eb_E L d 106 22 [some (Sum.inr x), v1, v2, v3] (st) M = eb_E L d 106 23 [some (Sum.inr x), v1, v2, v3] (Sum.inr x :: st) M := eb_E_s hk106 rfl
theorem e106_23  : eb_E L d 106 23 ls ([a0]) M = (eb_ev L d 138 [a0] M).bind (fun q => eb_E L d 106 26 ls [q.1] q.2) := eb_E_c hk106 rfl
theorem e106_26 {x : Int32} : eb_E L d 106 26 [v0, some (zi x), v2, v3] (st) M = eb_E L d 106 27 [v0, some (zi x), v2, v3] (zi x :: st) M := eb_E_s hk106 rfl
theorem e106_27  : eb_E L d 106 27 ls ([a1, a0]) M = (eb_ev L d 61 [a0, a1] M).bind (fun q => eb_E L d 106 30 ls [q.1] q.2) := eb_E_c hk106 rfl
theorem e106_30 {x : Int32} : eb_E L d 106 30 [v0, v1, v2, v3] (zi x :: st) M = eb_E L d 106 31 [v0, v1, v2, some (zi x)] (st) M := eb_E_s hk106 rfl
theorem e106_31 {x : Int32} : eb_E L d 106 31 [v0, v1, some (zi x), v3] (st) M = eb_E L d 106 32 [v0, v1, some (zi x), v3] (zi x :: st) M := eb_E_s hk106 rfl
theorem e106_32  : eb_E L d 106 32 ls (st) M = eb_E L d 106 33 ls (zi (-1) :: st) M := eb_E_s hk106 rfl
theorem e106_33 {x : Int32} {y : Int32} : eb_E L d 106 33 ls (zi y :: zi x :: st) M = if x = y then eb_E L d 106 36 ls st M else eb_E L d 106 40 ls st M := eb_E_b hk106 rfl
theorem e106_36 {x : Int32} : eb_E L d 106 36 [v0, v1, v2, some (zi x)] (st) M = eb_E L d 106 37 [v0, v1, v2, some (zi x)] (zi x :: st) M := eb_E_s hk106 rfl
theorem e106_37  : eb_E L d 106 37 ls (st) M = eb_E L d 106 52 ls (st) M := eb_E_s hk106 rfl
theorem e106_40 {x : Option eb_A} : eb_E L d 106 40 [some (Sum.inr x), v1, v2, v3] (st) M = eb_E L d 106 41 [some (Sum.inr x), v1, v2, v3] (Sum.inr x :: st) M := eb_E_s hk106 rfl
theorem e106_41  : eb_E L d 106 41 ls (Sum.inr (some a) :: st) (nc, ns, I, J, R) = if (eb_ty L a.1).1 = 5 then eb_E L d 106 44 ls (Sum.inr (R a 1) :: st) (nc, ns, I, J, R) else none := eb_E_iy hk106 rfl
theorem e106_44  : eb_E L d 106 44 ls (Sum.inr (some a) :: st) (nc, ns, I, J, R) = if (eb_ty L a.1).1 = 4 then eb_E L d 106 47 ls (Sum.inr (R a 1) :: st) (nc, ns, I, J, R) else none := eb_E_iy hk106 rfl
theorem e106_47 {x : Int32} : eb_E L d 106 47 [v0, v1, some (zi x), v3] (st) M = eb_E L d 106 48 [v0, v1, some (zi x), v3] (zi x :: st) M := eb_E_s hk106 rfl
theorem e106_48 {x : Int32} : eb_E L d 106 48 ls (zi x :: Sum.inr (some a) :: st) (nc, ns, I, J, R) = if (12 ≤ (eb_ty L a.1).1 ∧ (eb_ty L a.1).1 ≤ 16) ∧ eb_in x (eb_ty L a.1).2 = true then eb_E L d 106 49 ls (Sum.inr (R a x.toNatClampNeg) :: st) (nc, ns, I, J, R) else none := eb_E_iy hk106 rfl
theorem e106_49  : eb_E L d 106 49 ls (Sum.inr (some a) :: st) (nc, ns, I, J, R) = if (eb_ty L a.1).1 = 0 then eb_E L d 106 52 ls (zi (I a 5) :: st) (nc, ns, I, J, R) else none := eb_E_iy hk106 rfl
theorem e106_52 {x : Int32} : eb_E L d 106 52 ls ([zi x]) M = some (zi x, M) := eb_E_r hk106 rfl
/-! X5_then -/
theorem hk107 : eb_cd L 107 = eb_look (kt107 L) := rfl
theorem h107 (ha : (eb_ty L a.1).1 = 5) {x1 : Int32} {x2 : Int32} {x3 : Int32} : eb_ev L (d + 1) 107 [zr a, zi x1, zi x2, zi x3] M = eb_E L d 107 0 [some (zr a), some (zi x1), some (zi x2), some (zi x3), none] [] M := eb_ev_s rfl (eb_chk_i ha rfl)
theorem e107_0 {x : Int32} : eb_E L d 107 0 [v0, some (zi x), v2, v3, v4] (st) M = eb_E L d 107 1 [v0, some (zi x), v2, v3, v4] (zi x :: st) M := eb_E_s hk107 rfl
theorem e107_1  : eb_E L d 107 1 ls ([a0]) M = (eb_ev L d 130 [a0] M).bind (fun q => eb_E L d 107 4 ls [q.1] q.2) := eb_E_c hk107 rfl
theorem e107_4 {x : Int32} : eb_E L d 107 4 ls (zi x :: st) M = if x = 0 then eb_E L d 107 24 ls st M else eb_E L d 107 7 ls st M := eb_E_b hk107 rfl
theorem e107_7 {x : Option eb_A} : eb_E L d 107 7 [some (Sum.inr x), v1, v2, v3, v4] (st) M = eb_E L d 107 8 [some (Sum.inr x), v1, v2, v3, v4] (Sum.inr x :: st) M := eb_E_s hk107 rfl
theorem e107_8 {x : Int32} : eb_E L d 107 8 [v0, v1, some (zi x), v3, v4] (st) M = eb_E L d 107 9 [v0, v1, some (zi x), v3, v4] (zi x :: st) M := eb_E_s hk107 rfl
theorem e107_9  : eb_E L d 107 9 ls ([a1, a0]) M = (eb_ev L d 131 [a0, a1] M).bind (fun q => eb_E L d 107 12 ls [q.1] q.2) := eb_E_c hk107 rfl
theorem e107_12 {x : Int32} : eb_E L d 107 12 ls (zi x :: st) M = if x = 0 then eb_E L d 107 24 ls st M else eb_E L d 107 15 ls st M := eb_E_b hk107 rfl
theorem e107_15 {x : Int32} : eb_E L d 107 15 [v0, v1, v2, some (zi x), v4] (st) M = eb_E L d 107 16 [v0, v1, v2, some (zi x), v4] (zi x :: st) M := eb_E_s hk107 rfl
theorem e107_16  : eb_E L d 107 16 ls (st) M = eb_E L d 107 17 ls (zi 0 :: st) M := eb_E_s hk107 rfl
theorem e107_17  : eb_E L d 107 17 ls (st) M = eb_E L d 107 18 ls (zi 2 :: st) M := eb_E_s hk107 rfl
theorem e107_18  : eb_E L d 107 18 ls ([a2, a1, a0]) M = (eb_ev L d 127 [a0, a1, a2] M).bind (fun q => eb_E L d 107 21 ls [q.1] q.2) := eb_E_c hk107 rfl
theorem e107_21 {x : Int32} : eb_E L d 107 21 ls (zi x :: st) M = if x = 0 then eb_E L d 107 24 ls st M else eb_E L d 107 31 ls st M := eb_E_b hk107 rfl
theorem e107_24 {x : Option eb_A} : eb_E L d 107 24 [some (Sum.inr x), v1, v2, v3, v4] (st) M = eb_E L d 107 25 [some (Sum.inr x), v1, v2, v3, v4] (Sum.inr x :: st) M := eb_E_s hk107 rfl
theorem e107_25  : eb_E L d 107 25 ls (st) M = eb_E L d 107 27 ls (zi (-2) :: st) M := eb_E_s hk107 rfl
theorem e107_27  : eb_E L d 107 27 ls ([a1, a0]) M = (eb_ev L d 125 [a0, a1] M).bind (fun q => eb_E L d 107 30 ls [q.1] q.2) := eb_E_c hk107 rfl
theorem e107_30 {x : Int32} : eb_E L d 107 30 ls ([zi x]) M = some (zi x, M) := eb_E_r hk107 rfl
theorem e107_31 {x : Option eb_A} : eb_E L d 107 31 [some (Sum.inr x), v1, v2, v3, v4] (st) M = eb_E L d 107 32 [some (Sum.inr x), v1, v2, v3, v4] (Sum.inr x :: st) M := eb_E_s hk107 rfl
theorem e107_32  : eb_E L d 107 32 ls ([a0]) M = (eb_ev L d 138 [a0] M).bind (fun q => eb_E L d 107 35 ls [q.1] q.2) := eb_E_c hk107 rfl
theorem e107_35 {x : Int32} : eb_E L d 107 35 [v0, some (zi x), v2, v3, v4] (st) M = eb_E L d 107 36 [v0, some (zi x), v2, v3, v4] (zi x :: st) M := eb_E_s hk107 rfl
theorem e107_36  : eb_E L d 107 36 ls ([a1, a0]) M = (eb_ev L d 61 [a0, a1] M).bind (fun q => eb_E L d 107 39 ls [q.1] q.2) := eb_E_c hk107 rfl
theorem e107_39a {x : Int32} : eb_E L d 107 39 ls (zi x :: st) M = eb_E L d 107 40 ls (st) M := eb_E_s hk107 rfl
theorem e107_39b {x : Option eb_A} : eb_E L d 107 39 ls (Sum.inr x :: st) M = eb_E L d 107 40 ls (st) M := eb_E_s hk107 rfl
theorem e107_40 {x : Option eb_A} : eb_E L d 107 40 [some (Sum.inr x), v1, v2, v3, v4] (st) M = eb_E L d 107 41 [some (Sum.inr x), v1, v2, v3, v4] (Sum.inr x :: st) M := eb_E_s hk107 rfl
theorem e107_41  : eb_E L d 107 41 ls (Sum.inr (some a) :: st) (nc, ns, I, J, R) = if (eb_ty L a.1).1 = 5 then eb_E L d 107 44 ls (Sum.inr (R a 1) :: st) (nc, ns, I, J, R) else none := eb_E_iy hk107 rfl
theorem e107_44  : eb_E L d 107 44 ls (Sum.inr (some a) :: st) (nc, ns, I, J, R) = if (eb_ty L a.1).1 = 4 then eb_E L d 107 47 ls (Sum.inr (R a 0) :: st) (nc, ns, I, J, R) else none := eb_E_iy hk107 rfl
theorem e107_47 {x : Int32} : eb_E L d 107 47 [v0, v1, some (zi x), v3, v4] (st) M = eb_E L d 107 48 [v0, v1, some (zi x), v3, v4] (zi x :: st) M := eb_E_s hk107 rfl
theorem e107_48 {x : Int32} : eb_E L d 107 48 ls (zi x :: Sum.inr (some a) :: st) (nc, ns, I, J, R) = if (12 ≤ (eb_ty L a.1).1 ∧ (eb_ty L a.1).1 ≤ 16) ∧ eb_in x (eb_ty L a.1).2 = true then eb_E L d 107 49 ls (Sum.inr (R a x.toNatClampNeg) :: st) (nc, ns, I, J, R) else none := eb_E_iy hk107 rfl
theorem e107_49 {x : Option eb_A} : eb_E L d 107 49 [v0, v1, v2, v3, v4] (Sum.inr x :: st) M = eb_E L d 107 51 [v0, v1, v2, v3, some (Sum.inr x)] (st) M := eb_E_s hk107 rfl
theorem e107_51 {x : Int32} : eb_E L d 107 51 [v0, v1, v2, some (zi x), v4] (st) M = eb_E L d 107 52 [v0, v1, v2, some (zi x), v4] (zi x :: st) M := eb_E_s hk107 rfl
theorem e107_52 {x : Int32} : eb_E L d 107 52 ls (zi x :: st) M = if x = 0 then eb_E L d 107 55 ls st M else eb_E L d 107 61 ls st M := eb_E_b hk107 rfl
theorem e107_55 {x : Option eb_A} : eb_E L d 107 55 [v0, v1, v2, v3, some (Sum.inr x)] (st) M = eb_E L d 107 57 [v0, v1, v2, v3, some (Sum.inr x)] (Sum.inr x :: st) M := eb_E_s hk107 rfl
theorem e107_57  : eb_E L d 107 57 ls (Sum.inr (some a) :: st) (nc, ns, I, J, R) = if (eb_ty L a.1).1 = 1 then eb_E L d 107 60 ls (zi (I a 0) :: st) (nc, ns, I, J, R) else none := eb_E_iy hk107 rfl
theorem e107_60 {x : Int32} : eb_E L d 107 60 ls ([zi x]) M = some (zi x, M) := eb_E_r hk107 rfl
theorem e107_61 {x : Int32} : eb_E L d 107 61 [v0, v1, v2, some (zi x), v4] (st) M = eb_E L d 107 62 [v0, v1, v2, some (zi x), v4] (zi x :: st) M := eb_E_s hk107 rfl
theorem e107_62  : eb_E L d 107 62 ls (st) M = eb_E L d 107 63 ls (zi 1 :: st) M := eb_E_s hk107 rfl
theorem e107_63 {x : Int32} {y : Int32} : eb_E L d 107 63 ls (zi y :: zi x :: st) M = if x = y then eb_E L d 107 66 ls st M else eb_E L d 107 74 ls st M := eb_E_b hk107 rfl
theorem e107_66 {x : Option eb_A} : eb_E L d 107 66 [v0, v1, v2, v3, some (Sum.inr x)] (st) M = eb_E L d 107 68 [v0, v1, v2, v3, some (Sum.inr x)] (Sum.inr x :: st) M := eb_E_s hk107 rfl
theorem e107_68  : eb_E L d 107 68 ls (Sum.inr (some a) :: st) (nc, ns, I, J, R) = if (eb_ty L a.1).1 = 1 then eb_E L d 107 71 ls (zi (I a 3) :: st) (nc, ns, I, J, R) else none := eb_E_iy hk107 rfl
theorem e107_71  : eb_E L d 107 71 ls (st) M = eb_E L d 107 79 ls (st) M := eb_E_s hk107 rfl
theorem e107_74 {x : Option eb_A} : eb_E L d 107 74 [v0, v1, v2, v3, some (Sum.inr x)] (st) M = eb_E L d 107 76 [v0, v1, v2, v3, some (Sum.inr x)] (Sum.inr x :: st) M := eb_E_s hk107 rfl
theorem e107_76  : eb_E L d 107 76 ls (Sum.inr (some a) :: st) (nc, ns, I, J, R) = if (eb_ty L a.1).1 = 1 then eb_E L d 107 79 ls (zi (I a 8) :: st) (nc, ns, I, J, R) else none := eb_E_iy hk107 rfl
theorem e107_79 {x : Int32} : eb_E L d 107 79 ls ([zi x]) M = some (zi x, M) := eb_E_r hk107 rfl
/-! X5_book -/
theorem hk108 : eb_cd L 108 = eb_look (kt108 L) := rfl
theorem h108 (ha : (eb_ty L a.1).1 = 5) {x1 : Int32} {x2 : Int32} : eb_ev L (d + 1) 108 [zr a, zi x1, zi x2] M = eb_E L d 108 0 [some (zr a), some (zi x1), some (zi x2)] [] M := eb_ev_s rfl (eb_chk_i ha rfl)
theorem e108_0 {x : Int32} : eb_E L d 108 0 [v0, some (zi x), v2] (st) M = eb_E L d 108 1 [v0, some (zi x), v2] (zi x :: st) M := eb_E_s hk108 rfl
theorem e108_1  : eb_E L d 108 1 ls ([a0]) M = (eb_ev L d 130 [a0] M).bind (fun q => eb_E L d 108 4 ls [q.1] q.2) := eb_E_c hk108 rfl
theorem e108_4 {x : Int32} : eb_E L d 108 4 ls (zi x :: st) M = if x = 0 then eb_E L d 108 17 ls st M else eb_E L d 108 7 ls st M := eb_E_b hk108 rfl
theorem e108_7 {x : Int32} : eb_E L d 108 7 [v0, v1, some (zi x)] (st) M = eb_E L d 108 8 [v0, v1, some (zi x)] (zi x :: st) M := eb_E_s hk108 rfl
theorem e108_8  : eb_E L d 108 8 ls (st) M = eb_E L d 108 9 ls (zi 0 :: st) M := eb_E_s hk108 rfl
theorem e108_9  : eb_E L d 108 9 ls (st) M = eb_E L d 108 11 ls (zi 6 :: st) M := eb_E_s hk108 rfl
theorem e108_11  : eb_E L d 108 11 ls ([a2, a1, a0]) M = (eb_ev L d 127 [a0, a1, a2] M).bind (fun q => eb_E L d 108 14 ls [q.1] q.2) := eb_E_c hk108 rfl
theorem e108_14 {x : Int32} : eb_E L d 108 14 ls (zi x :: st) M = if x = 0 then eb_E L d 108 17 ls st M else eb_E L d 108 24 ls st M := eb_E_b hk108 rfl
theorem e108_17 {x : Option eb_A} : eb_E L d 108 17 [some (Sum.inr x), v1, v2] (st) M = eb_E L d 108 18 [some (Sum.inr x), v1, v2] (Sum.inr x :: st) M := eb_E_s hk108 rfl
theorem e108_18  : eb_E L d 108 18 ls (st) M = eb_E L d 108 20 ls (zi (-2) :: st) M := eb_E_s hk108 rfl
theorem e108_20  : eb_E L d 108 20 ls ([a1, a0]) M = (eb_ev L d 125 [a0, a1] M).bind (fun q => eb_E L d 108 23 ls [q.1] q.2) := eb_E_c hk108 rfl
theorem e108_23 {x : Int32} : eb_E L d 108 23 ls ([zi x]) M = some (zi x, M) := eb_E_r hk108 rfl
theorem e108_24 {x : Option eb_A} : eb_E L d 108 24 [some (Sum.inr x), v1, v2] (st) M = eb_E L d 108 25 [some (Sum.inr x), v1, v2] (Sum.inr x :: st) M := eb_E_s hk108 rfl
theorem e108_25 {x : Int32} : eb_E L d 108 25 [v0, some (zi x), v2] (st) M = eb_E L d 108 26 [v0, some (zi x), v2] (zi x :: st) M := eb_E_s hk108 rfl
theorem e108_26 {x : Int32} : eb_E L d 108 26 [v0, v1, some (zi x)] (st) M = eb_E L d 108 27 [v0, v1, some (zi x)] (zi x :: st) M := eb_E_s hk108 rfl
theorem e108_27  : eb_E L d 108 27 ls (st) M = eb_E L d 108 28 ls (zi 0 :: st) M := eb_E_s hk108 rfl
theorem e108_28  : eb_E L d 108 28 ls ([a3, a2, a1, a0]) M = (eb_ev L d 140 [a0, a1, a2, a3] M).bind (fun q => eb_E L d 108 31 ls [q.1] q.2) := eb_E_c hk108 rfl
theorem e108_31 {x : Int32} : eb_E L d 108 31 ls ([zi x]) M = some (zi x, M) := eb_E_r hk108 rfl
/-! X5_written -/
theorem hk109 : eb_cd L 109 = eb_look (kt109 L) := rfl
theorem h109 (ha : (eb_ty L a.1).1 = 5) {x1 : Int32} {x2 : Int32} : eb_ev L (d + 1) 109 [zr a, zi x1, zi x2] M = eb_E L d 109 0 [some (zr a), some (zi x1), some (zi x2)] [] M := eb_ev_s rfl (eb_chk_i ha rfl)
theorem e109_0 {x : Int32} : eb_E L d 109 0 [v0, some (zi x), v2] (st) M = eb_E L d 109 1 [v0, some (zi x), v2] (zi x :: st) M := eb_E_s hk109 rfl
theorem e109_1  : eb_E L d 109 1 ls ([a0]) M = (eb_ev L d 130 [a0] M).bind (fun q => eb_E L d 109 4 ls [q.1] q.2) := eb_E_c hk109 rfl
theorem e109_4 {x : Int32} : eb_E L d 109 4 ls (zi x :: st) M = if x = 0 then eb_E L d 109 15 ls st M else eb_E L d 109 7 ls st M := eb_E_b hk109 rfl
theorem e109_7 {x : Option eb_A} : eb_E L d 109 7 [some (Sum.inr x), v1, v2] (st) M = eb_E L d 109 8 [some (Sum.inr x), v1, v2] (Sum.inr x :: st) M := eb_E_s hk109 rfl
theorem e109_8 {x : Int32} : eb_E L d 109 8 [v0, v1, some (zi x)] (st) M = eb_E L d 109 9 [v0, v1, some (zi x)] (zi x :: st) M := eb_E_s hk109 rfl
theorem e109_9  : eb_E L d 109 9 ls ([a1, a0]) M = (eb_ev L d 134 [a0, a1] M).bind (fun q => eb_E L d 109 12 ls [q.1] q.2) := eb_E_c hk109 rfl
theorem e109_12 {x : Int32} : eb_E L d 109 12 ls (zi x :: st) M = if x = 0 then eb_E L d 109 15 ls st M else eb_E L d 109 22 ls st M := eb_E_b hk109 rfl
theorem e109_15 {x : Option eb_A} : eb_E L d 109 15 [some (Sum.inr x), v1, v2] (st) M = eb_E L d 109 16 [some (Sum.inr x), v1, v2] (Sum.inr x :: st) M := eb_E_s hk109 rfl
theorem e109_16  : eb_E L d 109 16 ls (st) M = eb_E L d 109 18 ls (zi (-2) :: st) M := eb_E_s hk109 rfl
theorem e109_18  : eb_E L d 109 18 ls ([a1, a0]) M = (eb_ev L d 126 [a0, a1] M).bind (fun q => eb_E L d 109 21 ls [q.1] q.2) := eb_E_c hk109 rfl
theorem e109_21 {x : Int32} : eb_E L d 109 21 ls ([zi x]) M = some (zi x, M) := eb_E_r hk109 rfl
theorem e109_22 {x : Option eb_A} : eb_E L d 109 22 [some (Sum.inr x), v1, v2] (st) M = eb_E L d 109 23 [some (Sum.inr x), v1, v2] (Sum.inr x :: st) M := eb_E_s hk109 rfl
theorem e109_23 {x : Int32} : eb_E L d 109 23 [v0, some (zi x), v2] (st) M = eb_E L d 109 24 [v0, some (zi x), v2] (zi x :: st) M := eb_E_s hk109 rfl
theorem e109_24 {x : Int32} : eb_E L d 109 24 [v0, v1, some (zi x)] (st) M = eb_E L d 109 25 [v0, v1, some (zi x)] (zi x :: st) M := eb_E_s hk109 rfl
theorem e109_25  : eb_E L d 109 25 ls ([a2, a1, a0]) M = (eb_ev L d 139 [a0, a1, a2] M).bind (fun q => eb_E L d 109 28 ls [q.1] q.2) := eb_E_c hk109 rfl
theorem e109_28 {x : Int32} : eb_E L d 109 28 ls ([zi x]) M = some (zi x, M) := eb_E_r hk109 rfl
/-! X5_many -/
theorem hk110 : eb_cd L 110 = eb_look (kt110 L) := rfl
theorem h110 (ha : (eb_ty L a.1).1 = 5) {x1 : Int32} : eb_ev L (d + 1) 110 [zr a, zi x1] M = eb_E L d 110 0 [some (zr a), some (zi x1)] [] M := eb_ev_s rfl (eb_chk_i ha rfl)
theorem e110_0 {x : Int32} : eb_E L d 110 0 [v0, some (zi x)] (st) M = eb_E L d 110 1 [v0, some (zi x)] (zi x :: st) M := eb_E_s hk110 rfl
theorem e110_1  : eb_E L d 110 1 ls ([a0]) M = (eb_ev L d 130 [a0] M).bind (fun q => eb_E L d 110 4 ls [q.1] q.2) := eb_E_c hk110 rfl
theorem e110_4 {x : Int32} : eb_E L d 110 4 ls (zi x :: st) M = if x = 0 then eb_E L d 110 7 ls st M else eb_E L d 110 14 ls st M := eb_E_b hk110 rfl
theorem e110_7 {x : Option eb_A} : eb_E L d 110 7 [some (Sum.inr x), v1] (st) M = eb_E L d 110 8 [some (Sum.inr x), v1] (Sum.inr x :: st) M := eb_E_s hk110 rfl
theorem e110_8  : eb_E L d 110 8 ls (st) M = eb_E L d 110 10 ls (zi (-2) :: st) M := eb_E_s hk110 rfl
theorem e110_10  : eb_E L d 110 10 ls ([a1, a0]) M = (eb_ev L d 125 [a0, a1] M).bind (fun q => eb_E L d 110 13 ls [q.1] q.2) := eb_E_c hk110 rfl
theorem e110_13 {x : Int32} : eb_E L d 110 13 ls ([zi x]) M = some (zi x, M) := eb_E_r hk110 rfl
theorem e110_14 {x : Option eb_A} : eb_E L d 110 14 [some (Sum.inr x), v1] (st) M = eb_E L d 110 15 [some (Sum.inr x), v1] (Sum.inr x :: st) M := eb_E_s hk110 rfl
theorem e110_15 {x : Int32} : eb_E L d 110 15 [v0, some (zi x)] (st) M = eb_E L d 110 16 [v0, some (zi x)] (zi x :: st) M := eb_E_s hk110 rfl
theorem e110_16  : eb_E L d 110 16 ls (st) M = eb_E L d 110 18 ls (zi 6 :: st) M := eb_E_s hk110 rfl
theorem e110_18  : eb_E L d 110 18 ls (st) M = eb_E L d 110 19 ls (zi 1 :: st) M := eb_E_s hk110 rfl
theorem e110_19  : eb_E L d 110 19 ls ([a3, a2, a1, a0]) M = (eb_ev L d 140 [a0, a1, a2, a3] M).bind (fun q => eb_E L d 110 22 ls [q.1] q.2) := eb_E_c hk110 rfl
theorem e110_22  : eb_E L d 110 22 ls ([a0]) M = (eb_ev L d 252 [a0] M).bind (fun q => eb_E L d 110 25 ls [q.1] q.2) := eb_E_c hk110 rfl
theorem e110_25 {x : Int32} : eb_E L d 110 25 ls ([zi x]) M = some (zi x, M) := eb_E_r hk110 rfl
/-! X5_round -/
theorem hk111 : eb_cd L 111 = eb_look (kt111 L) := rfl
theorem h111 (ha : (eb_ty L a.1).1 = 5) {x1 : Int32} {x2 : Int32} : eb_ev L (d + 1) 111 [zr a, zi x1, zi x2] M = eb_E L d 111 0 [some (zr a), some (zi x1), some (zi x2), none, none, none, none, none] [] M := eb_ev_s rfl (eb_chk_i ha rfl)
theorem e111_0 {x : Int32} : eb_E L d 111 0 [v0, some (zi x), v2, v3, v4, v5, v6, v7] (st) M = eb_E L d 111 1 [v0, some (zi x), v2, v3, v4, v5, v6, v7] (zi x :: st) M := eb_E_s hk111 rfl
theorem e111_1  : eb_E L d 111 1 ls (st) M = eb_E L d 111 2 ls (zi 1 :: st) M := eb_E_s hk111 rfl
theorem e111_2  : eb_E L d 111 2 ls (st) M = eb_E L d 111 3 ls (zi 3 :: st) M := eb_E_s hk111 rfl
theorem e111_3  : eb_E L d 111 3 ls ([a2, a1, a0]) M = (eb_ev L d 127 [a0, a1, a2] M).bind (fun q => eb_E L d 111 6 ls [q.1] q.2) := eb_E_c hk111 rfl
theorem e111_6 {x : Int32} : eb_E L d 111 6 ls (zi x :: st) M = if x = 0 then eb_E L d 111 25 ls st M else eb_E L d 111 9 ls st M := eb_E_b hk111 rfl
theorem e111_9 {x : Int32} : eb_E L d 111 9 [v0, v1, some (zi x), v3, v4, v5, v6, v7] (st) M = eb_E L d 111 10 [v0, v1, some (zi x), v3, v4, v5, v6, v7] (zi x :: st) M := eb_E_s hk111 rfl
theorem e111_10  : eb_E L d 111 10 ls (st) M = eb_E L d 111 11 ls (zi (-1) :: st) M := eb_E_s hk111 rfl
theorem e111_11 {x : Int32} {y : Int32} : eb_E L d 111 11 ls (zi y :: zi x :: st) M = if x = y then eb_E L d 111 32 ls st M else eb_E L d 111 14 ls st M := eb_E_b hk111 rfl
theorem e111_14 {x : Int32} : eb_E L d 111 14 [v0, v1, some (zi x), v3, v4, v5, v6, v7] (st) M = eb_E L d 111 15 [v0, v1, some (zi x), v3, v4, v5, v6, v7] (zi x :: st) M := eb_E_s hk111 rfl
theorem e111_15  : eb_E L d 111 15 ls (st) M = eb_E L d 111 16 ls (zi 0 :: st) M := eb_E_s hk111 rfl
theorem e111_16 {x : Int32} : eb_E L d 111 16 [v0, some (zi x), v2, v3, v4, v5, v6, v7] (st) M = eb_E L d 111 17 [v0, some (zi x), v2, v3, v4, v5, v6, v7] (zi x :: st) M := eb_E_s hk111 rfl
theorem e111_17  : eb_E L d 111 17 ls (st) M = eb_E L d 111 18 ls (zi 1 :: st) M := eb_E_s hk111 rfl
theorem e111_18 {x : Int32} {y : Int32} : eb_E L d 111 18 ls (zi y :: zi x :: st) M = eb_E L d 111 19 ls (zi (x - y) :: st) M := eb_E_s hk111 rfl
theorem e111_19  : eb_E L d 111 19 ls ([a2, a1, a0]) M = (eb_ev L d 127 [a0, a1, a2] M).bind (fun q => eb_E L d 111 22 ls [q.1] q.2) := eb_E_c hk111 rfl
theorem e111_22 {x : Int32} : eb_E L d 111 22 ls (zi x :: st) M = if x = 0 then eb_E L d 111 25 ls st M else eb_E L d 111 32 ls st M := eb_E_b hk111 rfl
theorem e111_25 {x : Option eb_A} : eb_E L d 111 25 [some (Sum.inr x), v1, v2, v3, v4, v5, v6, v7] (st) M = eb_E L d 111 26 [some (Sum.inr x), v1, v2, v3, v4, v5, v6, v7] (Sum.inr x :: st) M := eb_E_s hk111 rfl
theorem e111_26  : eb_E L d 111 26 ls (st) M = eb_E L d 111 28 ls (zi (-2) :: st) M := eb_E_s hk111 rfl
theorem e111_28  : eb_E L d 111 28 ls ([a1, a0]) M = (eb_ev L d 126 [a0, a1] M).bind (fun q => eb_E L d 111 31 ls [q.1] q.2) := eb_E_c hk111 rfl
theorem e111_31 {x : Int32} : eb_E L d 111 31 ls ([zi x]) M = some (zi x, M) := eb_E_r hk111 rfl
theorem e111_32  : eb_E L d 111 32 ls (st) M = eb_E L d 111 33 ls (zi 0 :: st) M := eb_E_s hk111 rfl
theorem e111_33 {x : Int32} : eb_E L d 111 33 [v0, v1, v2, v3, v4, v5, v6, v7] (zi x :: st) M = eb_E L d 111 34 [v0, v1, v2, some (zi x), v4, v5, v6, v7] (st) M := eb_E_s hk111 rfl
theorem e111_34 {x : Option eb_A} : eb_E L d 111 34 [some (Sum.inr x), v1, v2, v3, v4, v5, v6, v7] (st) M = eb_E L d 111 35 [some (Sum.inr x), v1, v2, v3, v4, v5, v6, v7] (Sum.inr x :: st) M := eb_E_s hk111 rfl
theorem e111_35 {x : Int32} : eb_E L d 111 35 [v0, some (zi x), v2, v3, v4, v5, v6, v7] (st) M = eb_E L d 111 36 [v0, some (zi x), v2, v3, v4, v5, v6, v7] (zi x :: st) M := eb_E_s hk111 rfl
theorem e111_36  : eb_E L d 111 36 ls (st) M = eb_E L d 111 37 ls (zi 0 :: st) M := eb_E_s hk111 rfl
theorem e111_37  : eb_E L d 111 37 ls ([a2, a1, a0]) M = (eb_ev L d 141 [a0, a1, a2] M).bind (fun q => eb_E L d 111 40 ls [q.1] q.2) := eb_E_c hk111 rfl
theorem e111_40 {x : Int32} : eb_E L d 111 40 [v0, v1, v2, v3, v4, v5, v6, v7] (zi x :: st) M = eb_E L d 111 42 [v0, v1, v2, v3, some (zi x), v5, v6, v7] (st) M := eb_E_s hk111 rfl
theorem e111_42 {x : Option eb_A} : eb_E L d 111 42 [some (Sum.inr x), v1, v2, v3, v4, v5, v6, v7] (st) M = eb_E L d 111 43 [some (Sum.inr x), v1, v2, v3, v4, v5, v6, v7] (Sum.inr x :: st) M := eb_E_s hk111 rfl
theorem e111_43  : eb_E L d 111 43 ls (Sum.inr (some a) :: st) (nc, ns, I, J, R) = if (eb_ty L a.1).1 = 5 then eb_E L d 111 46 ls (Sum.inr (R a 0) :: st) (nc, ns, I, J, R) else none := eb_E_iy hk111 rfl
theorem e111_46  : eb_E L d 111 46 ls (Sum.inr (some a) :: st) (nc, ns, I, J, R) = if (eb_ty L a.1).1 = 4 then eb_E L d 111 49 ls (zi (I a 2) :: st) (nc, ns, I, J, R) else none := eb_E_iy hk111 rfl
theorem e111_49  : eb_E L d 111 49 ls (st) M = eb_E L d 111 50 ls (zi 1 :: st) M := eb_E_s hk111 rfl
theorem e111_50 {x : Int32} {y : Int32} : eb_E L d 111 50 ls (zi y :: zi x :: st) M = eb_E L d 111 51 ls (zi (x + y) :: st) M := eb_E_s hk111 rfl
theorem e111_51 {x : Int32} : eb_E L d 111 51 [v0, some (zi x), v2, v3, v4, v5, v6, v7] (st) M = eb_E L d 111 52 [v0, some (zi x), v2, v3, v4, v5, v6, v7] (zi x :: st) M := eb_E_s hk111 rfl
theorem e111_52  : eb_E L d 111 52 ls ([a1, a0]) M = (eb_ev L d 143 [a0, a1] M).bind (fun q => eb_E L d 111 55 ls [q.1] q.2) := eb_E_c hk111 rfl
theorem e111_55 {x : Int32} : eb_E L d 111 55 [v0, v1, v2, v3, v4, v5, v6, v7] (zi x :: st) M = eb_E L d 111 57 [v0, v1, v2, v3, v4, some (zi x), v6, v7] (st) M := eb_E_s hk111 rfl
theorem e111_57  : eb_E L d 111 57 ls (st) M = eb_E L d 111 58 ls (zi 1 :: st) M := eb_E_s hk111 rfl
theorem e111_58 {x : Int32} : eb_E L d 111 58 [v0, v1, v2, v3, v4, v5, v6, v7] (zi x :: st) M = eb_E L d 111 60 [v0, v1, v2, v3, v4, v5, some (zi x), v7] (st) M := eb_E_s hk111 rfl
theorem e111_60 {x : Int32} : eb_E L d 111 60 [v0, v1, v2, v3, v4, v5, some (zi x), v7] (st) M = eb_E L d 111 62 [v0, v1, v2, v3, v4, v5, some (zi x), v7] (zi x :: st) M := eb_E_s hk111 rfl
theorem e111_62 {x : Int32} : eb_E L d 111 62 [v0, v1, v2, v3, v4, some (zi x), v6, v7] (st) M = eb_E L d 111 64 [v0, v1, v2, v3, v4, some (zi x), v6, v7] (zi x :: st) M := eb_E_s hk111 rfl
theorem e111_64 {x : Int32} {y : Int32} : eb_E L d 111 64 ls (zi y :: zi x :: st) M = if x < y then eb_E L d 111 67 ls st M else eb_E L d 111 96 ls st M := eb_E_b hk111 rfl
theorem e111_67 {x : Option eb_A} : eb_E L d 111 67 [some (Sum.inr x), v1, v2, v3, v4, v5, v6, v7] (st) M = eb_E L d 111 68 [some (Sum.inr x), v1, v2, v3, v4, v5, v6, v7] (Sum.inr x :: st) M := eb_E_s hk111 rfl
theorem e111_68 {x : Int32} : eb_E L d 111 68 [v0, some (zi x), v2, v3, v4, v5, v6, v7] (st) M = eb_E L d 111 69 [v0, some (zi x), v2, v3, v4, v5, v6, v7] (zi x :: st) M := eb_E_s hk111 rfl
theorem e111_69 {x : Int32} : eb_E L d 111 69 [v0, v1, v2, v3, v4, v5, some (zi x), v7] (st) M = eb_E L d 111 71 [v0, v1, v2, v3, v4, v5, some (zi x), v7] (zi x :: st) M := eb_E_s hk111 rfl
theorem e111_71  : eb_E L d 111 71 ls ([a2, a1, a0]) M = (eb_ev L d 141 [a0, a1, a2] M).bind (fun q => eb_E L d 111 74 ls [q.1] q.2) := eb_E_c hk111 rfl
theorem e111_74 {x : Int32} : eb_E L d 111 74 [v0, v1, v2, v3, v4, v5, v6, v7] (zi x :: st) M = eb_E L d 111 76 [v0, v1, v2, v3, v4, v5, v6, some (zi x)] (st) M := eb_E_s hk111 rfl
theorem e111_76 {x : Int32} : eb_E L d 111 76 [v0, v1, v2, v3, v4, v5, v6, some (zi x)] (st) M = eb_E L d 111 78 [v0, v1, v2, v3, v4, v5, v6, some (zi x)] (zi x :: st) M := eb_E_s hk111 rfl
theorem e111_78 {x : Int32} : eb_E L d 111 78 [v0, v1, v2, v3, some (zi x), v5, v6, v7] (st) M = eb_E L d 111 80 [v0, v1, v2, v3, some (zi x), v5, v6, v7] (zi x :: st) M := eb_E_s hk111 rfl
theorem e111_80 {x : Int32} {y : Int32} : eb_E L d 111 80 ls (zi y :: zi x :: st) M = if y < x then eb_E L d 111 83 ls st M else eb_E L d 111 90 ls st M := eb_E_b hk111 rfl
theorem e111_83 {x : Int32} : eb_E L d 111 83 [v0, v1, v2, v3, v4, v5, some (zi x), v7] (st) M = eb_E L d 111 85 [v0, v1, v2, v3, v4, v5, some (zi x), v7] (zi x :: st) M := eb_E_s hk111 rfl
theorem e111_85 {x : Int32} : eb_E L d 111 85 [v0, v1, v2, v3, v4, v5, v6, v7] (zi x :: st) M = eb_E L d 111 86 [v0, v1, v2, some (zi x), v4, v5, v6, v7] (st) M := eb_E_s hk111 rfl
theorem e111_86 {x : Int32} : eb_E L d 111 86 [v0, v1, v2, v3, v4, v5, v6, some (zi x)] (st) M = eb_E L d 111 88 [v0, v1, v2, v3, v4, v5, v6, some (zi x)] (zi x :: st) M := eb_E_s hk111 rfl
theorem e111_88 {x : Int32} : eb_E L d 111 88 [v0, v1, v2, v3, v4, v5, v6, v7] (zi x :: st) M = eb_E L d 111 90 [v0, v1, v2, v3, some (zi x), v5, v6, v7] (st) M := eb_E_s hk111 rfl
theorem e111_90 {x : Int32} : eb_E L d 111 90 [v0, v1, v2, v3, v4, v5, some (zi x), v7] (st) M = eb_E L d 111 93 [v0, v1, v2, v3, v4, v5, some (zi (x + 1)), v7] (st) M := eb_E_s hk111 rfl
theorem e111_93  : eb_E L d 111 93 ls (st) M = eb_E L d 111 60 ls (st) M := eb_E_s hk111 rfl
theorem e111_96 {x : Int32} : eb_E L d 111 96 [v0, v1, some (zi x), v3, v4, v5, v6, v7] (st) M = eb_E L d 111 97 [v0, v1, some (zi x), v3, v4, v5, v6, v7] (zi x :: st) M := eb_E_s hk111 rfl
theorem e111_97  : eb_E L d 111 97 ls (st) M = eb_E L d 111 98 ls (zi (-1) :: st) M := eb_E_s hk111 rfl
theorem e111_98 {x : Int32} {y : Int32} : eb_E L d 111 98 ls (zi y :: zi x :: st) M = if x = y then eb_E L d 111 101 ls st M else eb_E L d 111 106 ls st M := eb_E_b hk111 rfl
theorem e111_101 {x : Int32} : eb_E L d 111 101 [v0, v1, v2, v3, some (zi x), v5, v6, v7] (st) M = eb_E L d 111 103 [v0, v1, v2, v3, some (zi x), v5, v6, v7] (zi x :: st) M := eb_E_s hk111 rfl
theorem e111_103  : eb_E L d 111 103 ls (st) M = eb_E L d 111 113 ls (st) M := eb_E_s hk111 rfl
theorem e111_106 {x : Option eb_A} : eb_E L d 111 106 [some (Sum.inr x), v1, v2, v3, v4, v5, v6, v7] (st) M = eb_E L d 111 107 [some (Sum.inr x), v1, v2, v3, v4, v5, v6, v7] (Sum.inr x :: st) M := eb_E_s hk111 rfl
theorem e111_107 {x : Int32} : eb_E L d 111 107 [v0, some (zi x), v2, v3, v4, v5, v6, v7] (st) M = eb_E L d 111 108 [v0, some (zi x), v2, v3, v4, v5, v6, v7] (zi x :: st) M := eb_E_s hk111 rfl
theorem e111_108 {x : Int32} : eb_E L d 111 108 [v0, v1, v2, some (zi x), v4, v5, v6, v7] (st) M = eb_E L d 111 109 [v0, v1, v2, some (zi x), v4, v5, v6, v7] (zi x :: st) M := eb_E_s hk111 rfl
theorem e111_109 {x : Int32} : eb_E L d 111 109 [v0, v1, some (zi x), v3, v4, v5, v6, v7] (st) M = eb_E L d 111 110 [v0, v1, some (zi x), v3, v4, v5, v6, v7] (zi x :: st) M := eb_E_s hk111 rfl
theorem e111_110  : eb_E L d 111 110 ls ([a3, a2, a1, a0]) M = (eb_ev L d 142 [a0, a1, a2, a3] M).bind (fun q => eb_E L d 111 113 ls [q.1] q.2) := eb_E_c hk111 rfl
theorem e111_113 {x : Int32} : eb_E L d 111 113 ls ([zi x]) M = some (zi x, M) := eb_E_r hk111 rfl
/-! X5_kept -/
theorem hk112 : eb_cd L 112 = eb_look (kt112 L) := rfl
theorem h112 (ha : (eb_ty L a.1).1 = 5) {x1 : Int32} {x2 : Int32} : eb_ev L (d + 1) 112 [zr a, zi x1, zi x2] M = eb_E L d 112 0 [some (zr a), some (zi x1), some (zi x2), none] [] M := eb_ev_s rfl (eb_chk_i ha rfl)
theorem e112_0 {x : Int32} : eb_E L d 112 0 [v0, some (zi x), v2, v3] (st) M = eb_E L d 112 1 [v0, some (zi x), v2, v3] (zi x :: st) M := eb_E_s hk112 rfl
theorem e112_1  : eb_E L d 112 1 ls ([a0]) M = (eb_ev L d 130 [a0] M).bind (fun q => eb_E L d 112 4 ls [q.1] q.2) := eb_E_c hk112 rfl
theorem e112_4 {x : Int32} : eb_E L d 112 4 ls (zi x :: st) M = if x = 0 then eb_E L d 112 15 ls st M else eb_E L d 112 7 ls st M := eb_E_b hk112 rfl
theorem e112_7 {x : Option eb_A} : eb_E L d 112 7 [some (Sum.inr x), v1, v2, v3] (st) M = eb_E L d 112 8 [some (Sum.inr x), v1, v2, v3] (Sum.inr x :: st) M := eb_E_s hk112 rfl
theorem e112_8 {x : Int32} : eb_E L d 112 8 [v0, v1, some (zi x), v3] (st) M = eb_E L d 112 9 [v0, v1, some (zi x), v3] (zi x :: st) M := eb_E_s hk112 rfl
theorem e112_9  : eb_E L d 112 9 ls ([a1, a0]) M = (eb_ev L d 131 [a0, a1] M).bind (fun q => eb_E L d 112 12 ls [q.1] q.2) := eb_E_c hk112 rfl
theorem e112_12 {x : Int32} : eb_E L d 112 12 ls (zi x :: st) M = if x = 0 then eb_E L d 112 15 ls st M else eb_E L d 112 22 ls st M := eb_E_b hk112 rfl
theorem e112_15 {x : Option eb_A} : eb_E L d 112 15 [some (Sum.inr x), v1, v2, v3] (st) M = eb_E L d 112 16 [some (Sum.inr x), v1, v2, v3] (Sum.inr x :: st) M := eb_E_s hk112 rfl
theorem e112_16  : eb_E L d 112 16 ls (st) M = eb_E L d 112 18 ls (zi (-2) :: st) M := eb_E_s hk112 rfl
theorem e112_18  : eb_E L d 112 18 ls ([a1, a0]) M = (eb_ev L d 126 [a0, a1] M).bind (fun q => eb_E L d 112 21 ls [q.1] q.2) := eb_E_c hk112 rfl
theorem e112_21 {x : Int32} : eb_E L d 112 21 ls ([zi x]) M = some (zi x, M) := eb_E_r hk112 rfl
theorem e112_22 {x : Option eb_A} : eb_E L d 112 22 [some (Sum.inr x), v1, v2, v3] (st) M = eb_E L d 112 23 [some (Sum.inr x), v1, v2, v3] (Sum.inr x :: st) M := eb_E_s hk112 rfl
theorem e112_23  : eb_E L d 112 23 ls (Sum.inr (some a) :: st) (nc, ns, I, J, R) = if (eb_ty L a.1).1 = 5 then eb_E L d 112 26 ls (Sum.inr (R a 0) :: st) (nc, ns, I, J, R) else none := eb_E_iy hk112 rfl
theorem e112_26  : eb_E L d 112 26 ls (Sum.inr (some a) :: st) (nc, ns, I, J, R) = if (eb_ty L a.1).1 = 4 then eb_E L d 112 29 ls (Sum.inr (R a 0) :: st) (nc, ns, I, J, R) else none := eb_E_iy hk112 rfl
theorem e112_29 {x : Int32} : eb_E L d 112 29 [v0, v1, some (zi x), v3] (st) M = eb_E L d 112 30 [v0, v1, some (zi x), v3] (zi x :: st) M := eb_E_s hk112 rfl
theorem e112_30 {x : Int32} : eb_E L d 112 30 ls (zi x :: Sum.inr (some a) :: st) (nc, ns, I, J, R) = if (12 ≤ (eb_ty L a.1).1 ∧ (eb_ty L a.1).1 ≤ 16) ∧ eb_in x (eb_ty L a.1).2 = true then eb_E L d 112 31 ls (Sum.inr (R a x.toNatClampNeg) :: st) (nc, ns, I, J, R) else none := eb_E_iy hk112 rfl
theorem e112_31  : eb_E L d 112 31 ls (Sum.inr (some a) :: st) (nc, ns, I, J, R) = if (eb_ty L a.1).1 = 1 then eb_E L d 112 34 ls (zi (I a 4) :: st) (nc, ns, I, J, R) else none := eb_E_iy hk112 rfl
theorem e112_34  : eb_E L d 112 34 ls (st) M = eb_E L d 112 35 ls (zi (-1) :: st) M := eb_E_s hk112 rfl
theorem e112_35 {x : Int32} {y : Int32} : eb_E L d 112 35 ls (zi y :: zi x :: st) M = if x = y then eb_E L d 112 38 ls st M else eb_E L d 112 45 ls st M := eb_E_b hk112 rfl
theorem e112_38 {x : Option eb_A} : eb_E L d 112 38 [some (Sum.inr x), v1, v2, v3] (st) M = eb_E L d 112 39 [some (Sum.inr x), v1, v2, v3] (Sum.inr x :: st) M := eb_E_s hk112 rfl
theorem e112_39  : eb_E L d 112 39 ls (st) M = eb_E L d 112 41 ls (zi (-5) :: st) M := eb_E_s hk112 rfl
theorem e112_41  : eb_E L d 112 41 ls ([a1, a0]) M = (eb_ev L d 126 [a0, a1] M).bind (fun q => eb_E L d 112 44 ls [q.1] q.2) := eb_E_c hk112 rfl
theorem e112_44 {x : Int32} : eb_E L d 112 44 ls ([zi x]) M = some (zi x, M) := eb_E_r hk112 rfl
theorem e112_45 {x : Option eb_A} : eb_E L d 112 45 [some (Sum.inr x), v1, v2, v3] (st) M = eb_E L d 112 46 [some (Sum.inr x), v1, v2, v3] (Sum.inr x :: st) M := eb_E_s hk112 rfl
theorem e112_46  : eb_E L d 112 46 ls ([a0]) M = (eb_ev L d 138 [a0] M).bind (fun q => eb_E L d 112 49 ls [q.1] q.2) := eb_E_c hk112 rfl
theorem e112_49 {x : Int32} : eb_E L d 112 49 [v0, some (zi x), v2, v3] (st) M = eb_E L d 112 50 [v0, some (zi x), v2, v3] (zi x :: st) M := eb_E_s hk112 rfl
theorem e112_50  : eb_E L d 112 50 ls ([a1, a0]) M = (eb_ev L d 61 [a0, a1] M).bind (fun q => eb_E L d 112 53 ls [q.1] q.2) := eb_E_c hk112 rfl
theorem e112_53a {x : Int32} : eb_E L d 112 53 ls (zi x :: st) M = eb_E L d 112 54 ls (st) M := eb_E_s hk112 rfl
theorem e112_53b {x : Option eb_A} : eb_E L d 112 53 ls (Sum.inr x :: st) M = eb_E L d 112 54 ls (st) M := eb_E_s hk112 rfl
theorem e112_54 {x : Option eb_A} : eb_E L d 112 54 [some (Sum.inr x), v1, v2, v3] (st) M = eb_E L d 112 55 [some (Sum.inr x), v1, v2, v3] (Sum.inr x :: st) M := eb_E_s hk112 rfl
theorem e112_55  : eb_E L d 112 55 ls (Sum.inr (some a) :: st) (nc, ns, I, J, R) = if (eb_ty L a.1).1 = 5 then eb_E L d 112 58 ls (Sum.inr (R a 1) :: st) (nc, ns, I, J, R) else none := eb_E_iy hk112 rfl
theorem e112_58  : eb_E L d 112 58 ls ([a0]) M = (eb_ev L d 63 [a0] M).bind (fun q => eb_E L d 112 61 ls [q.1] q.2) := eb_E_c hk112 rfl
theorem e112_61 {x : Int32} : eb_E L d 112 61 [v0, v1, v2, v3] (zi x :: st) M = eb_E L d 112 62 [v0, v1, v2, some (zi x)] (st) M := eb_E_s hk112 rfl
theorem e112_62 {x : Option eb_A} : eb_E L d 112 62 [some (Sum.inr x), v1, v2, v3] (st) M = eb_E L d 112 63 [some (Sum.inr x), v1, v2, v3] (Sum.inr x :: st) M := eb_E_s hk112 rfl
theorem e112_63  : eb_E L d 112 63 ls ([a0]) M = (eb_ev L d 138 [a0] M).bind (fun q => eb_E L d 112 66 ls [q.1] q.2) := eb_E_c hk112 rfl
theorem e112_66  : eb_E L d 112 66 ls (Sum.inr (some a) :: st) (nc, ns, I, J, R) = if (eb_ty L a.1).1 = 4 then eb_E L d 112 69 ls (Sum.inr (R a 0) :: st) (nc, ns, I, J, R) else none := eb_E_iy hk112 rfl
theorem e112_69 {x : Int32} : eb_E L d 112 69 [v0, v1, some (zi x), v3] (st) M = eb_E L d 112 70 [v0, v1, some (zi x), v3] (zi x :: st) M := eb_E_s hk112 rfl
theorem e112_70 {x : Int32} : eb_E L d 112 70 ls (zi x :: Sum.inr (some a) :: st) (nc, ns, I, J, R) = if (12 ≤ (eb_ty L a.1).1 ∧ (eb_ty L a.1).1 ≤ 16) ∧ eb_in x (eb_ty L a.1).2 = true then eb_E L d 112 71 ls (Sum.inr (R a x.toNatClampNeg) :: st) (nc, ns, I, J, R) else none := eb_E_iy hk112 rfl
theorem e112_71  : eb_E L d 112 71 ls (st) M = eb_E L d 112 72 ls (zi (-1) :: st) M := eb_E_s hk112 rfl
theorem e112_72 {x : Int32} : eb_E L d 112 72 ls (zi x :: Sum.inr (some a) :: st) (nc, ns, I, J, R) = if (eb_ty L a.1).1 = 1 then eb_E L d 112 75 ls (st) (nc, ns, eb_u I a 4 x, J, R) else none := eb_E_iy hk112 rfl
theorem e112_75 {x : Option eb_A} : eb_E L d 112 75 [some (Sum.inr x), v1, v2, v3] (st) M = eb_E L d 112 76 [some (Sum.inr x), v1, v2, v3] (Sum.inr x :: st) M := eb_E_s hk112 rfl
theorem e112_76  : eb_E L d 112 76 ls (Sum.inr (some a) :: st) (nc, ns, I, J, R) = if (eb_ty L a.1).1 = 5 then eb_E L d 112 79 ls (Sum.inr (R a 1) :: st) (nc, ns, I, J, R) else none := eb_E_iy hk112 rfl
theorem e112_79 {x : Int32} : eb_E L d 112 79 [v0, some (zi x), v2, v3] (st) M = eb_E L d 112 80 [v0, some (zi x), v2, v3] (zi x :: st) M := eb_E_s hk112 rfl
theorem e112_80  : eb_E L d 112 80 ls ([a1, a0]) M = (eb_ev L d 61 [a0, a1] M).bind (fun q => eb_E L d 112 83 ls [q.1] q.2) := eb_E_c hk112 rfl
theorem e112_83a {x : Int32} : eb_E L d 112 83 ls (zi x :: st) M = eb_E L d 112 84 ls (st) M := eb_E_s hk112 rfl
theorem e112_83b {x : Option eb_A} : eb_E L d 112 83 ls (Sum.inr x :: st) M = eb_E L d 112 84 ls (st) M := eb_E_s hk112 rfl
theorem e112_84 {x : Option eb_A} : eb_E L d 112 84 [some (Sum.inr x), v1, v2, v3] (st) M = eb_E L d 112 85 [some (Sum.inr x), v1, v2, v3] (Sum.inr x :: st) M := eb_E_s hk112 rfl
theorem e112_85  : eb_E L d 112 85 ls (Sum.inr (some a) :: st) (nc, ns, I, J, R) = if (eb_ty L a.1).1 = 5 then eb_E L d 112 88 ls (Sum.inr (R a 1) :: st) (nc, ns, I, J, R) else none := eb_E_iy hk112 rfl
theorem e112_88  : eb_E L d 112 88 ls ([a0]) M = (eb_ev L d 63 [a0] M).bind (fun q => eb_E L d 112 91 ls [q.1] q.2) := eb_E_c hk112 rfl
theorem e112_91 {x : Int32} : eb_E L d 112 91 [v0, v1, v2, some (zi x)] (st) M = eb_E L d 112 92 [v0, v1, v2, some (zi x)] (zi x :: st) M := eb_E_s hk112 rfl
theorem e112_92 {x : Int32} {y : Int32} : eb_E L d 112 92 ls (zi y :: zi x :: st) M = eb_E L d 112 93 ls (zi (x - y) :: st) M := eb_E_s hk112 rfl
theorem e112_93 {x : Int32} : eb_E L d 112 93 ls ([zi x]) M = some (zi x, M) := eb_E_r hk112 rfl
/-! X5_called -/
theorem hk113 : eb_cd L 113 = eb_look (kt113 L) := rfl
theorem h113 (ha : (eb_ty L a.1).1 = 5) {x1 : Int32} {x2 : Int32} {x3 : Int32} : eb_ev L (d + 1) 113 [zr a, zi x1, zi x2, zi x3] M = eb_E L d 113 0 [some (zr a), some (zi x1), some (zi x2), some (zi x3), none] [] M := eb_ev_s rfl (eb_chk_i ha rfl)
theorem e113_0 {x : Int32} : eb_E L d 113 0 [v0, some (zi x), v2, v3, v4] (st) M = eb_E L d 113 1 [v0, some (zi x), v2, v3, v4] (zi x :: st) M := eb_E_s hk113 rfl
theorem e113_1  : eb_E L d 113 1 ls ([a0]) M = (eb_ev L d 130 [a0] M).bind (fun q => eb_E L d 113 4 ls [q.1] q.2) := eb_E_c hk113 rfl
theorem e113_4 {x : Int32} : eb_E L d 113 4 ls (zi x :: st) M = if x = 0 then eb_E L d 113 22 ls st M else eb_E L d 113 7 ls st M := eb_E_b hk113 rfl
theorem e113_7 {x : Option eb_A} : eb_E L d 113 7 [some (Sum.inr x), v1, v2, v3, v4] (st) M = eb_E L d 113 8 [some (Sum.inr x), v1, v2, v3, v4] (Sum.inr x :: st) M := eb_E_s hk113 rfl
theorem e113_8 {x : Int32} : eb_E L d 113 8 [v0, v1, some (zi x), v3, v4] (st) M = eb_E L d 113 9 [v0, v1, some (zi x), v3, v4] (zi x :: st) M := eb_E_s hk113 rfl
theorem e113_9  : eb_E L d 113 9 ls ([a1, a0]) M = (eb_ev L d 131 [a0, a1] M).bind (fun q => eb_E L d 113 12 ls [q.1] q.2) := eb_E_c hk113 rfl
theorem e113_12 {x : Int32} : eb_E L d 113 12 ls (zi x :: st) M = if x = 0 then eb_E L d 113 22 ls st M else eb_E L d 113 15 ls st M := eb_E_b hk113 rfl
theorem e113_15 {x : Int32} : eb_E L d 113 15 [v0, v1, v2, some (zi x), v4] (st) M = eb_E L d 113 16 [v0, v1, v2, some (zi x), v4] (zi x :: st) M := eb_E_s hk113 rfl
theorem e113_16  : eb_E L d 113 16 ls ([a0]) M = (eb_ev L d 129 [a0] M).bind (fun q => eb_E L d 113 19 ls [q.1] q.2) := eb_E_c hk113 rfl
theorem e113_19 {x : Int32} : eb_E L d 113 19 ls (zi x :: st) M = if x = 0 then eb_E L d 113 22 ls st M else eb_E L d 113 29 ls st M := eb_E_b hk113 rfl
theorem e113_22 {x : Option eb_A} : eb_E L d 113 22 [some (Sum.inr x), v1, v2, v3, v4] (st) M = eb_E L d 113 23 [some (Sum.inr x), v1, v2, v3, v4] (Sum.inr x :: st) M := eb_E_s hk113 rfl
theorem e113_23  : eb_E L d 113 23 ls (st) M = eb_E L d 113 25 ls (zi (-2) :: st) M := eb_E_s hk113 rfl
theorem e113_25  : eb_E L d 113 25 ls ([a1, a0]) M = (eb_ev L d 126 [a0, a1] M).bind (fun q => eb_E L d 113 28 ls [q.1] q.2) := eb_E_c hk113 rfl
theorem e113_28 {x : Int32} : eb_E L d 113 28 ls ([zi x]) M = some (zi x, M) := eb_E_r hk113 rfl
theorem e113_29 {x : Option eb_A} : eb_E L d 113 29 [some (Sum.inr x), v1, v2, v3, v4] (st) M = eb_E L d 113 30 [some (Sum.inr x), v1, v2, v3, v4] (Sum.inr x :: st) M := eb_E_s hk113 rfl
theorem e113_30  : eb_E L d 113 30 ls ([a0]) M = (eb_ev L d 138 [a0] M).bind (fun q => eb_E L d 113 33 ls [q.1] q.2) := eb_E_c hk113 rfl
theorem e113_33 {x : Int32} : eb_E L d 113 33 [v0, some (zi x), v2, v3, v4] (st) M = eb_E L d 113 34 [v0, some (zi x), v2, v3, v4] (zi x :: st) M := eb_E_s hk113 rfl
theorem e113_34  : eb_E L d 113 34 ls ([a1, a0]) M = (eb_ev L d 61 [a0, a1] M).bind (fun q => eb_E L d 113 37 ls [q.1] q.2) := eb_E_c hk113 rfl
theorem e113_37 {x : Int32} : eb_E L d 113 37 [v0, v1, v2, v3, v4] (zi x :: st) M = eb_E L d 113 39 [v0, v1, v2, v3, some (zi x)] (st) M := eb_E_s hk113 rfl
theorem e113_39 {x : Option eb_A} : eb_E L d 113 39 [some (Sum.inr x), v1, v2, v3, v4] (st) M = eb_E L d 113 40 [some (Sum.inr x), v1, v2, v3, v4] (Sum.inr x :: st) M := eb_E_s hk113 rfl
theorem e113_40  : eb_E L d 113 40 ls ([a0]) M = (eb_ev L d 138 [a0] M).bind (fun q => eb_E L d 113 43 ls [q.1] q.2) := eb_E_c hk113 rfl
theorem e113_43  : eb_E L d 113 43 ls (Sum.inr (some a) :: st) (nc, ns, I, J, R) = if (eb_ty L a.1).1 = 4 then eb_E L d 113 46 ls (Sum.inr (R a 0) :: st) (nc, ns, I, J, R) else none := eb_E_iy hk113 rfl
theorem e113_46 {x : Int32} : eb_E L d 113 46 [v0, v1, some (zi x), v3, v4] (st) M = eb_E L d 113 47 [v0, v1, some (zi x), v3, v4] (zi x :: st) M := eb_E_s hk113 rfl
theorem e113_47 {x : Int32} : eb_E L d 113 47 ls (zi x :: Sum.inr (some a) :: st) (nc, ns, I, J, R) = if (12 ≤ (eb_ty L a.1).1 ∧ (eb_ty L a.1).1 ≤ 16) ∧ eb_in x (eb_ty L a.1).2 = true then eb_E L d 113 48 ls (Sum.inr (R a x.toNatClampNeg) :: st) (nc, ns, I, J, R) else none := eb_E_iy hk113 rfl
theorem e113_48 {x : Int32} : eb_E L d 113 48 [v0, v1, v2, some (zi x), v4] (st) M = eb_E L d 113 49 [v0, v1, v2, some (zi x), v4] (zi x :: st) M := eb_E_s hk113 rfl
theorem e113_49 {x : Int32} : eb_E L d 113 49 ls (zi x :: Sum.inr (some a) :: st) (nc, ns, I, J, R) = if (eb_ty L a.1).1 = 1 then eb_E L d 113 52 ls (st) (nc, ns, eb_u I a 4 x, J, R) else none := eb_E_iy hk113 rfl
theorem e113_52 {x : Option eb_A} : eb_E L d 113 52 [some (Sum.inr x), v1, v2, v3, v4] (st) M = eb_E L d 113 53 [some (Sum.inr x), v1, v2, v3, v4] (Sum.inr x :: st) M := eb_E_s hk113 rfl
theorem e113_53  : eb_E L d 113 53 ls (Sum.inr (some a) :: st) (nc, ns, I, J, R) = if (eb_ty L a.1).1 = 5 then eb_E L d 113 56 ls (Sum.inr (R a 1) :: st) (nc, ns, I, J, R) else none := eb_E_iy hk113 rfl
theorem e113_56 {x : Int32} : eb_E L d 113 56 [v0, some (zi x), v2, v3, v4] (st) M = eb_E L d 113 57 [v0, some (zi x), v2, v3, v4] (zi x :: st) M := eb_E_s hk113 rfl
theorem e113_57  : eb_E L d 113 57 ls ([a1, a0]) M = (eb_ev L d 61 [a0, a1] M).bind (fun q => eb_E L d 113 60 ls [q.1] q.2) := eb_E_c hk113 rfl
theorem e113_60 {x : Int32} : eb_E L d 113 60 [v0, v1, v2, v3, some (zi x)] (st) M = eb_E L d 113 62 [v0, v1, v2, v3, some (zi x)] (zi x :: st) M := eb_E_s hk113 rfl
theorem e113_62 {x : Int32} {y : Int32} : eb_E L d 113 62 ls (zi y :: zi x :: st) M = eb_E L d 113 63 ls (zi (x - y) :: st) M := eb_E_s hk113 rfl
theorem e113_63 {x : Int32} : eb_E L d 113 63 ls ([zi x]) M = some (zi x, M) := eb_E_r hk113 rfl
/-! X5_spoilt -/
theorem hk114 : eb_cd L 114 = eb_look (kt114 L) := rfl
theorem h114 (ha : (eb_ty L a.1).1 = 5) {x1 : Int32} {x2 : Int32} : eb_ev L (d + 1) 114 [zr a, zi x1, zi x2] M = eb_E L d 114 0 [some (zr a), some (zi x1), some (zi x2), none] [] M := eb_ev_s rfl (eb_chk_i ha rfl)
theorem e114_0 {x : Option eb_A} : eb_E L d 114 0 [some (Sum.inr x), v1, v2, v3] (st) M = eb_E L d 114 1 [some (Sum.inr x), v1, v2, v3] (Sum.inr x :: st) M := eb_E_s hk114 rfl
theorem e114_1 {x : Int32} : eb_E L d 114 1 [v0, some (zi x), v2, v3] (st) M = eb_E L d 114 2 [v0, some (zi x), v2, v3] (zi x :: st) M := eb_E_s hk114 rfl
theorem e114_2  : eb_E L d 114 2 ls ([a1, a0]) M = (eb_ev L d 131 [a0, a1] M).bind (fun q => eb_E L d 114 5 ls [q.1] q.2) := eb_E_c hk114 rfl
theorem e114_5 {x : Int32} : eb_E L d 114 5 ls (zi x :: st) M = if x = 0 then eb_E L d 114 15 ls st M else eb_E L d 114 8 ls st M := eb_E_b hk114 rfl
theorem e114_8 {x : Int32} : eb_E L d 114 8 [v0, v1, some (zi x), v3] (st) M = eb_E L d 114 9 [v0, v1, some (zi x), v3] (zi x :: st) M := eb_E_s hk114 rfl
theorem e114_9  : eb_E L d 114 9 ls ([a0]) M = (eb_ev L d 129 [a0] M).bind (fun q => eb_E L d 114 12 ls [q.1] q.2) := eb_E_c hk114 rfl
theorem e114_12 {x : Int32} : eb_E L d 114 12 ls (zi x :: st) M = if x = 0 then eb_E L d 114 15 ls st M else eb_E L d 114 22 ls st M := eb_E_b hk114 rfl
theorem e114_15 {x : Option eb_A} : eb_E L d 114 15 [some (Sum.inr x), v1, v2, v3] (st) M = eb_E L d 114 16 [some (Sum.inr x), v1, v2, v3] (Sum.inr x :: st) M := eb_E_s hk114 rfl
theorem e114_16  : eb_E L d 114 16 ls (st) M = eb_E L d 114 18 ls (zi (-2) :: st) M := eb_E_s hk114 rfl
theorem e114_18  : eb_E L d 114 18 ls ([a1, a0]) M = (eb_ev L d 125 [a0, a1] M).bind (fun q => eb_E L d 114 21 ls [q.1] q.2) := eb_E_c hk114 rfl
theorem e114_21 {x : Int32} : eb_E L d 114 21 ls ([zi x]) M = some (zi x, M) := eb_E_r hk114 rfl
theorem e114_22 {x : Option eb_A} : eb_E L d 114 22 [some (Sum.inr x), v1, v2, v3] (st) M = eb_E L d 114 23 [some (Sum.inr x), v1, v2, v3] (Sum.inr x :: st) M := eb_E_s hk114 rfl
theorem e114_23  : eb_E L d 114 23 ls ([a0]) M = (eb_ev L d 138 [a0] M).bind (fun q => eb_E L d 114 26 ls [q.1] q.2) := eb_E_c hk114 rfl
theorem e114_26a {x : Int32} : eb_E L d 114 26 ls (zi x :: st) M = eb_E L d 114 27 ls (st) M := eb_E_s hk114 rfl
theorem e114_26b {x : Option eb_A} : eb_E L d 114 26 ls (Sum.inr x :: st) M = eb_E L d 114 27 ls (st) M := eb_E_s hk114 rfl
theorem e114_27  : eb_E L d 114 27 ls (st) M = eb_E L d 114 28 ls (zi 1 :: st) M := eb_E_s hk114 rfl
theorem e114_28 {x : Int32} : eb_E L d 114 28 [v0, v1, v2, v3] (zi x :: st) M = eb_E L d 114 29 [v0, v1, v2, some (zi x)] (st) M := eb_E_s hk114 rfl
theorem e114_29 {x : Int32} : eb_E L d 114 29 [v0, v1, v2, some (zi x)] (st) M = eb_E L d 114 30 [v0, v1, v2, some (zi x)] (zi x :: st) M := eb_E_s hk114 rfl
theorem e114_30  : eb_E L d 114 30 ls (st) M = eb_E L d 114 32 ls (zi 30 :: st) M := eb_E_s hk114 rfl
theorem e114_32 {x : Int32} {y : Int32} : eb_E L d 114 32 ls (zi y :: zi x :: st) M = if y < x then eb_E L d 114 68 ls st M else eb_E L d 114 35 ls st M := eb_E_b hk114 rfl
theorem e114_35 {x : Option eb_A} : eb_E L d 114 35 [some (Sum.inr x), v1, v2, v3] (st) M = eb_E L d 114 36 [some (Sum.inr x), v1, v2, v3] (Sum.inr x :: st) M := eb_E_s hk114 rfl
theorem e114_36  : eb_E L d 114 36 ls (Sum.inr (some a) :: st) (nc, ns, I, J, R) = if (eb_ty L a.1).1 = 5 then eb_E L d 114 39 ls (Sum.inr (R a 1) :: st) (nc, ns, I, J, R) else none := eb_E_iy hk114 rfl
theorem e114_39  : eb_E L d 114 39 ls (st) M = eb_E L d 114 40 ls (zi 1 :: st) M := eb_E_s hk114 rfl
theorem e114_40  : eb_E L d 114 40 ls ([a1, a0]) M = (eb_ev L d 61 [a0, a1] M).bind (fun q => eb_E L d 114 43 ls [q.1] q.2) := eb_E_c hk114 rfl
theorem e114_43a {x : Int32} : eb_E L d 114 43 ls (zi x :: st) M = eb_E L d 114 44 ls (st) M := eb_E_s hk114 rfl
theorem e114_43b {x : Option eb_A} : eb_E L d 114 43 ls (Sum.inr x :: st) M = eb_E L d 114 44 ls (st) M := eb_E_s hk114 rfl
theorem e114_44 {x : Option eb_A} : eb_E L d 114 44 [some (Sum.inr x), v1, v2, v3] (st) M = eb_E L d 114 45 [some (Sum.inr x), v1, v2, v3] (Sum.inr x :: st) M := eb_E_s hk114 rfl
theorem e114_45  : eb_E L d 114 45 ls (Sum.inr (some a) :: st) (nc, ns, I, J, R) = if (eb_ty L a.1).1 = 5 then eb_E L d 114 48 ls (Sum.inr (R a 1) :: st) (nc, ns, I, J, R) else none := eb_E_iy hk114 rfl
theorem e114_48  : eb_E L d 114 48 ls (Sum.inr (some a) :: st) (nc, ns, I, J, R) = if (eb_ty L a.1).1 = 4 then eb_E L d 114 51 ls (Sum.inr (R a 0) :: st) (nc, ns, I, J, R) else none := eb_E_iy hk114 rfl
theorem e114_51 {x : Int32} : eb_E L d 114 51 [v0, some (zi x), v2, v3] (st) M = eb_E L d 114 52 [v0, some (zi x), v2, v3] (zi x :: st) M := eb_E_s hk114 rfl
theorem e114_52 {x : Int32} : eb_E L d 114 52 ls (zi x :: Sum.inr (some a) :: st) (nc, ns, I, J, R) = if (12 ≤ (eb_ty L a.1).1 ∧ (eb_ty L a.1).1 ≤ 16) ∧ eb_in x (eb_ty L a.1).2 = true then eb_E L d 114 53 ls (Sum.inr (R a x.toNatClampNeg) :: st) (nc, ns, I, J, R) else none := eb_E_iy hk114 rfl
theorem e114_53  : eb_E L d 114 53 ls (Sum.inr (some a) :: st) (nc, ns, I, J, R) = if (eb_ty L a.1).1 = 1 then eb_E L d 114 56 ls (zi (I a 0) :: st) (nc, ns, I, J, R) else none := eb_E_iy hk114 rfl
theorem e114_56 {x : Int32} : eb_E L d 114 56 [v0, v1, some (zi x), v3] (st) M = eb_E L d 114 57 [v0, v1, some (zi x), v3] (zi x :: st) M := eb_E_s hk114 rfl
theorem e114_57 {x : Int32} {y : Int32} : eb_E L d 114 57 ls (zi y :: zi x :: st) M = if x < y then eb_E L d 114 60 ls st M else eb_E L d 114 62 ls st M := eb_E_b hk114 rfl
theorem e114_60 {x : Int32} : eb_E L d 114 60 [v0, v1, v2, some (zi x)] (st) M = eb_E L d 114 61 [v0, v1, v2, some (zi x)] (zi x :: st) M := eb_E_s hk114 rfl
theorem e114_61 {x : Int32} : eb_E L d 114 61 ls ([zi x]) M = some (zi x, M) := eb_E_r hk114 rfl
theorem e114_62 {x : Int32} : eb_E L d 114 62 [v0, v1, v2, some (zi x)] (st) M = eb_E L d 114 65 [v0, v1, v2, some (zi (x + 1))] (st) M := eb_E_s hk114 rfl
theorem e114_65  : eb_E L d 114 65 ls (st) M = eb_E L d 114 29 ls (st) M := eb_E_s hk114 rfl
theorem e114_68  : eb_E L d 114 68 ls (st) M = eb_E L d 114 69 ls (zi (-1) :: st) M := eb_E_s hk114 rfl
theorem e114_69 {x : Int32} : eb_E L d 114 69 ls ([zi x]) M = some (zi x, M) := eb_E_r hk114 rfl
/-! X5_bears -/
theorem hk115 : eb_cd L 115 = eb_look (kt115 L) := rfl
theorem h115 (ha : (eb_ty L a.1).1 = 5) {x1 : Int32} {x2 : Int32} {x3 : Int32} {x4 : Int32} : eb_ev L (d + 1) 115 [zr a, zi x1, zi x2, zi x3, zi x4] M = eb_E L d 115 0 [some (zr a), some (zi x1), some (zi x2), some (zi x3), some (zi x4), none] [] M := eb_ev_s rfl (eb_chk_i ha rfl)
theorem e115_0 {x : Option eb_A} : eb_E L d 115 0 [some (Sum.inr x), v1, v2, v3, v4, v5] (st) M = eb_E L d 115 1 [some (Sum.inr x), v1, v2, v3, v4, v5] (Sum.inr x :: st) M := eb_E_s hk115 rfl
theorem e115_1 {x : Int32} : eb_E L d 115 1 [v0, some (zi x), v2, v3, v4, v5] (st) M = eb_E L d 115 2 [v0, some (zi x), v2, v3, v4, v5] (zi x :: st) M := eb_E_s hk115 rfl
theorem e115_2  : eb_E L d 115 2 ls ([a1, a0]) M = (eb_ev L d 132 [a0, a1] M).bind (fun q => eb_E L d 115 5 ls [q.1] q.2) := eb_E_c hk115 rfl
theorem e115_5 {x : Int32} : eb_E L d 115 5 ls (zi x :: st) M = if x = 0 then eb_E L d 115 31 ls st M else eb_E L d 115 8 ls st M := eb_E_b hk115 rfl
theorem e115_8 {x : Option eb_A} : eb_E L d 115 8 [some (Sum.inr x), v1, v2, v3, v4, v5] (st) M = eb_E L d 115 9 [some (Sum.inr x), v1, v2, v3, v4, v5] (Sum.inr x :: st) M := eb_E_s hk115 rfl
theorem e115_9 {x : Int32} : eb_E L d 115 9 [v0, v1, some (zi x), v3, v4, v5] (st) M = eb_E L d 115 10 [v0, v1, some (zi x), v3, v4, v5] (zi x :: st) M := eb_E_s hk115 rfl
theorem e115_10  : eb_E L d 115 10 ls ([a1, a0]) M = (eb_ev L d 131 [a0, a1] M).bind (fun q => eb_E L d 115 13 ls [q.1] q.2) := eb_E_c hk115 rfl
theorem e115_13 {x : Int32} : eb_E L d 115 13 ls (zi x :: st) M = if x = 0 then eb_E L d 115 31 ls st M else eb_E L d 115 16 ls st M := eb_E_b hk115 rfl
theorem e115_16 {x : Int32} : eb_E L d 115 16 [v0, v1, v2, some (zi x), v4, v5] (st) M = eb_E L d 115 17 [v0, v1, v2, some (zi x), v4, v5] (zi x :: st) M := eb_E_s hk115 rfl
theorem e115_17  : eb_E L d 115 17 ls ([a0]) M = (eb_ev L d 130 [a0] M).bind (fun q => eb_E L d 115 20 ls [q.1] q.2) := eb_E_c hk115 rfl
theorem e115_20 {x : Int32} : eb_E L d 115 20 ls (zi x :: st) M = if x = 0 then eb_E L d 115 31 ls st M else eb_E L d 115 23 ls st M := eb_E_b hk115 rfl
theorem e115_23 {x : Int32} : eb_E L d 115 23 [v0, v1, v2, v3, some (zi x), v5] (st) M = eb_E L d 115 25 [v0, v1, v2, v3, some (zi x), v5] (zi x :: st) M := eb_E_s hk115 rfl
theorem e115_25  : eb_E L d 115 25 ls ([a0]) M = (eb_ev L d 129 [a0] M).bind (fun q => eb_E L d 115 28 ls [q.1] q.2) := eb_E_c hk115 rfl
theorem e115_28 {x : Int32} : eb_E L d 115 28 ls (zi x :: st) M = if x = 0 then eb_E L d 115 31 ls st M else eb_E L d 115 38 ls st M := eb_E_b hk115 rfl
theorem e115_31 {x : Option eb_A} : eb_E L d 115 31 [some (Sum.inr x), v1, v2, v3, v4, v5] (st) M = eb_E L d 115 32 [some (Sum.inr x), v1, v2, v3, v4, v5] (Sum.inr x :: st) M := eb_E_s hk115 rfl
theorem e115_32  : eb_E L d 115 32 ls (st) M = eb_E L d 115 34 ls (zi (-2) :: st) M := eb_E_s hk115 rfl
theorem e115_34  : eb_E L d 115 34 ls ([a1, a0]) M = (eb_ev L d 125 [a0, a1] M).bind (fun q => eb_E L d 115 37 ls [q.1] q.2) := eb_E_c hk115 rfl
theorem e115_37 {x : Int32} : eb_E L d 115 37 ls ([zi x]) M = some (zi x, M) := eb_E_r hk115 rfl
theorem e115_38  : eb_E L d 115 38 ls (st) M = eb_E L d 115 40 ls (zi 30 :: st) M := eb_E_s hk115 rfl
theorem e115_40 {x : Int32} : eb_E L d 115 40 [v0, v1, v2, v3, v4, v5] (zi x :: st) M = eb_E L d 115 42 [v0, v1, v2, v3, v4, some (zi x)] (st) M := eb_E_s hk115 rfl
theorem e115_42 {x : Int32} : eb_E L d 115 42 [v0, v1, v2, v3, v4, some (zi x)] (st) M = eb_E L d 115 44 [v0, v1, v2, v3, v4, some (zi x)] (zi x :: st) M := eb_E_s hk115 rfl
theorem e115_44  : eb_E L d 115 44 ls (st) M = eb_E L d 115 45 ls (zi 1 :: st) M := eb_E_s hk115 rfl
theorem e115_45 {x : Int32} {y : Int32} : eb_E L d 115 45 ls (zi y :: zi x :: st) M = if x < y then eb_E L d 115 85 ls st M else eb_E L d 115 48 ls st M := eb_E_b hk115 rfl
theorem e115_48 {x : Option eb_A} : eb_E L d 115 48 [some (Sum.inr x), v1, v2, v3, v4, v5] (st) M = eb_E L d 115 49 [some (Sum.inr x), v1, v2, v3, v4, v5] (Sum.inr x :: st) M := eb_E_s hk115 rfl
theorem e115_49  : eb_E L d 115 49 ls ([a0]) M = (eb_ev L d 138 [a0] M).bind (fun q => eb_E L d 115 52 ls [q.1] q.2) := eb_E_c hk115 rfl
theorem e115_52  : eb_E L d 115 52 ls (Sum.inr (some a) :: st) (nc, ns, I, J, R) = if (eb_ty L a.1).1 = 4 then eb_E L d 115 55 ls (Sum.inr (R a 1) :: st) (nc, ns, I, J, R) else none := eb_E_iy hk115 rfl
theorem e115_55 {x : Int32} : eb_E L d 115 55 [v0, some (zi x), v2, v3, v4, v5] (st) M = eb_E L d 115 56 [v0, some (zi x), v2, v3, v4, v5] (zi x :: st) M := eb_E_s hk115 rfl
theorem e115_56 {x : Int32} : eb_E L d 115 56 ls (zi x :: Sum.inr (some a) :: st) (nc, ns, I, J, R) = if (12 ≤ (eb_ty L a.1).1 ∧ (eb_ty L a.1).1 ≤ 16) ∧ eb_in x (eb_ty L a.1).2 = true then eb_E L d 115 57 ls (Sum.inr (R a x.toNatClampNeg) :: st) (nc, ns, I, J, R) else none := eb_E_iy hk115 rfl
theorem e115_57 {x : Int32} : eb_E L d 115 57 [v0, v1, v2, v3, v4, some (zi x)] (st) M = eb_E L d 115 59 [v0, v1, v2, v3, v4, some (zi x)] (zi x :: st) M := eb_E_s hk115 rfl
theorem e115_59 {x : Int32} : eb_E L d 115 59 ls (zi x :: Sum.inr (some a) :: st) (nc, ns, I, J, R) = if (eb_ty L a.1).1 = 0 then eb_E L d 115 62 ls (st) (nc, ns, eb_u I a 1 x, J, R) else none := eb_E_iy hk115 rfl
theorem e115_62 {x : Option eb_A} : eb_E L d 115 62 [some (Sum.inr x), v1, v2, v3, v4, v5] (st) M = eb_E L d 115 63 [some (Sum.inr x), v1, v2, v3, v4, v5] (Sum.inr x :: st) M := eb_E_s hk115 rfl
theorem e115_63  : eb_E L d 115 63 ls (Sum.inr (some a) :: st) (nc, ns, I, J, R) = if (eb_ty L a.1).1 = 5 then eb_E L d 115 66 ls (Sum.inr (R a 1) :: st) (nc, ns, I, J, R) else none := eb_E_iy hk115 rfl
theorem e115_66 {x : Int32} : eb_E L d 115 66 [v0, v1, some (zi x), v3, v4, v5] (st) M = eb_E L d 115 67 [v0, v1, some (zi x), v3, v4, v5] (zi x :: st) M := eb_E_s hk115 rfl
theorem e115_67 {x : Int32} : eb_E L d 115 67 [v0, v1, v2, some (zi x), v4, v5] (st) M = eb_E L d 115 68 [v0, v1, v2, some (zi x), v4, v5] (zi x :: st) M := eb_E_s hk115 rfl
theorem e115_68 {x : Int32} : eb_E L d 115 68 [v0, v1, v2, v3, some (zi x), v5] (st) M = eb_E L d 115 70 [v0, v1, v2, v3, some (zi x), v5] (zi x :: st) M := eb_E_s hk115 rfl
theorem e115_70  : eb_E L d 115 70 ls ([a3, a2, a1, a0]) M = (eb_ev L d 64 [a0, a1, a2, a3] M).bind (fun q => eb_E L d 115 73 ls [q.1] q.2) := eb_E_c hk115 rfl
theorem e115_73 {x : Int32} : eb_E L d 115 73 ls (zi x :: st) M = if x = 0 then eb_E L d 115 79 ls st M else eb_E L d 115 76 ls st M := eb_E_b hk115 rfl
theorem e115_76 {x : Int32} : eb_E L d 115 76 [v0, v1, v2, v3, v4, some (zi x)] (st) M = eb_E L d 115 78 [v0, v1, v2, v3, v4, some (zi x)] (zi x :: st) M := eb_E_s hk115 rfl
theorem e115_78 {x : Int32} : eb_E L d 115 78 ls ([zi x]) M = some (zi x, M) := eb_E_r hk115 rfl
theorem e115_79 {x : Int32} : eb_E L d 115 79 [v0, v1, v2, v3, v4, some (zi x)] (st) M = eb_E L d 115 82 [v0, v1, v2, v3, v4, some (zi (x + (-1)))] (st) M := eb_E_s hk115 rfl
theorem e115_82  : eb_E L d 115 82 ls (st) M = eb_E L d 115 42 ls (st) M := eb_E_s hk115 rfl
theorem e115_85  : eb_E L d 115 85 ls (st) M = eb_E L d 115 86 ls (zi (-1) :: st) M := eb_E_s hk115 rfl
theorem e115_86 {x : Int32} : eb_E L d 115 86 ls ([zi x]) M = some (zi x, M) := eb_E_r hk115 rfl
/-! X5_recovers -/
theorem hk116 : eb_cd L 116 = eb_look (kt116 L) := rfl
theorem h116 (ha : (eb_ty L a.1).1 = 5) {x1 : Int32} : eb_ev L (d + 1) 116 [zr a, zi x1] M = eb_E L d 116 0 [some (zr a), some (zi x1), none] [] M := eb_ev_s rfl (eb_chk_i ha rfl)
theorem e116_0 {x : Option eb_A} : eb_E L d 116 0 [some (Sum.inr x), v1, v2] (st) M = eb_E L d 116 1 [some (Sum.inr x), v1, v2] (Sum.inr x :: st) M := eb_E_s hk116 rfl
theorem e116_1 {x : Int32} : eb_E L d 116 1 [v0, some (zi x), v2] (st) M = eb_E L d 116 2 [v0, some (zi x), v2] (zi x :: st) M := eb_E_s hk116 rfl
theorem e116_2  : eb_E L d 116 2 ls ([a1, a0]) M = (eb_ev L d 131 [a0, a1] M).bind (fun q => eb_E L d 116 5 ls [q.1] q.2) := eb_E_c hk116 rfl
theorem e116_5 {x : Int32} : eb_E L d 116 5 ls (zi x :: st) M = if x = 0 then eb_E L d 116 8 ls st M else eb_E L d 116 15 ls st M := eb_E_b hk116 rfl
theorem e116_8 {x : Option eb_A} : eb_E L d 116 8 [some (Sum.inr x), v1, v2] (st) M = eb_E L d 116 9 [some (Sum.inr x), v1, v2] (Sum.inr x :: st) M := eb_E_s hk116 rfl
theorem e116_9  : eb_E L d 116 9 ls (st) M = eb_E L d 116 11 ls (zi (-2) :: st) M := eb_E_s hk116 rfl
theorem e116_11  : eb_E L d 116 11 ls ([a1, a0]) M = (eb_ev L d 125 [a0, a1] M).bind (fun q => eb_E L d 116 14 ls [q.1] q.2) := eb_E_c hk116 rfl
theorem e116_14 {x : Int32} : eb_E L d 116 14 ls ([zi x]) M = some (zi x, M) := eb_E_r hk116 rfl
theorem e116_15 {x : Option eb_A} : eb_E L d 116 15 [some (Sum.inr x), v1, v2] (st) M = eb_E L d 116 16 [some (Sum.inr x), v1, v2] (Sum.inr x :: st) M := eb_E_s hk116 rfl
theorem e116_16  : eb_E L d 116 16 ls ([a0]) M = (eb_ev L d 138 [a0] M).bind (fun q => eb_E L d 116 19 ls [q.1] q.2) := eb_E_c hk116 rfl
theorem e116_19  : eb_E L d 116 19 ls (st) M = eb_E L d 116 20 ls (zi 0 :: st) M := eb_E_s hk116 rfl
theorem e116_20  : eb_E L d 116 20 ls ([a1, a0]) M = (eb_ev L d 42 [a0, a1] M).bind (fun q => eb_E L d 116 23 ls [q.1] q.2) := eb_E_c hk116 rfl
theorem e116_23a {x : Int32} : eb_E L d 116 23 ls (zi x :: st) M = eb_E L d 116 24 ls (st) M := eb_E_s hk116 rfl
theorem e116_23b {x : Option eb_A} : eb_E L d 116 23 ls (Sum.inr x :: st) M = eb_E L d 116 24 ls (st) M := eb_E_s hk116 rfl
theorem e116_24  : eb_E L d 116 24 ls (st) M = eb_E L d 116 25 ls (zi 1 :: st) M := eb_E_s hk116 rfl
theorem e116_25 {x : Int32} : eb_E L d 116 25 [v0, v1, v2] (zi x :: st) M = eb_E L d 116 26 [v0, v1, some (zi x)] (st) M := eb_E_s hk116 rfl
theorem e116_26 {x : Int32} : eb_E L d 116 26 [v0, v1, some (zi x)] (st) M = eb_E L d 116 27 [v0, v1, some (zi x)] (zi x :: st) M := eb_E_s hk116 rfl
theorem e116_27  : eb_E L d 116 27 ls (st) M = eb_E L d 116 29 ls (zi 30 :: st) M := eb_E_s hk116 rfl
theorem e116_29 {x : Int32} {y : Int32} : eb_E L d 116 29 ls (zi y :: zi x :: st) M = if y < x then eb_E L d 116 76 ls st M else eb_E L d 116 32 ls st M := eb_E_b hk116 rfl
theorem e116_32 {x : Option eb_A} : eb_E L d 116 32 [some (Sum.inr x), v1, v2] (st) M = eb_E L d 116 33 [some (Sum.inr x), v1, v2] (Sum.inr x :: st) M := eb_E_s hk116 rfl
theorem e116_33  : eb_E L d 116 33 ls (Sum.inr (some a) :: st) (nc, ns, I, J, R) = if (eb_ty L a.1).1 = 5 then eb_E L d 116 36 ls (Sum.inr (R a 1) :: st) (nc, ns, I, J, R) else none := eb_E_iy hk116 rfl
theorem e116_36  : eb_E L d 116 36 ls (st) M = eb_E L d 116 37 ls (zi 1 :: st) M := eb_E_s hk116 rfl
theorem e116_37  : eb_E L d 116 37 ls ([a1, a0]) M = (eb_ev L d 61 [a0, a1] M).bind (fun q => eb_E L d 116 40 ls [q.1] q.2) := eb_E_c hk116 rfl
theorem e116_40a {x : Int32} : eb_E L d 116 40 ls (zi x :: st) M = eb_E L d 116 41 ls (st) M := eb_E_s hk116 rfl
theorem e116_40b {x : Option eb_A} : eb_E L d 116 40 ls (Sum.inr x :: st) M = eb_E L d 116 41 ls (st) M := eb_E_s hk116 rfl
theorem e116_41 {x : Option eb_A} : eb_E L d 116 41 [some (Sum.inr x), v1, v2] (st) M = eb_E L d 116 42 [some (Sum.inr x), v1, v2] (Sum.inr x :: st) M := eb_E_s hk116 rfl
theorem e116_42  : eb_E L d 116 42 ls (Sum.inr (some a) :: st) (nc, ns, I, J, R) = if (eb_ty L a.1).1 = 5 then eb_E L d 116 45 ls (Sum.inr (R a 1) :: st) (nc, ns, I, J, R) else none := eb_E_iy hk116 rfl
theorem e116_45  : eb_E L d 116 45 ls (Sum.inr (some a) :: st) (nc, ns, I, J, R) = if (eb_ty L a.1).1 = 4 then eb_E L d 116 48 ls (Sum.inr (R a 0) :: st) (nc, ns, I, J, R) else none := eb_E_iy hk116 rfl
theorem e116_48 {x : Int32} : eb_E L d 116 48 [v0, some (zi x), v2] (st) M = eb_E L d 116 49 [v0, some (zi x), v2] (zi x :: st) M := eb_E_s hk116 rfl
theorem e116_49 {x : Int32} : eb_E L d 116 49 ls (zi x :: Sum.inr (some a) :: st) (nc, ns, I, J, R) = if (12 ≤ (eb_ty L a.1).1 ∧ (eb_ty L a.1).1 ≤ 16) ∧ eb_in x (eb_ty L a.1).2 = true then eb_E L d 116 50 ls (Sum.inr (R a x.toNatClampNeg) :: st) (nc, ns, I, J, R) else none := eb_E_iy hk116 rfl
theorem e116_50  : eb_E L d 116 50 ls (Sum.inr (some a) :: st) (nc, ns, I, J, R) = if (eb_ty L a.1).1 = 1 then eb_E L d 116 53 ls (zi (I a 0) :: st) (nc, ns, I, J, R) else none := eb_E_iy hk116 rfl
theorem e116_53 {x : Option eb_A} : eb_E L d 116 53 [some (Sum.inr x), v1, v2] (st) M = eb_E L d 116 54 [some (Sum.inr x), v1, v2] (Sum.inr x :: st) M := eb_E_s hk116 rfl
theorem e116_54  : eb_E L d 116 54 ls (Sum.inr (some a) :: st) (nc, ns, I, J, R) = if (eb_ty L a.1).1 = 5 then eb_E L d 116 57 ls (Sum.inr (R a 1) :: st) (nc, ns, I, J, R) else none := eb_E_iy hk116 rfl
theorem e116_57  : eb_E L d 116 57 ls (Sum.inr (some a) :: st) (nc, ns, I, J, R) = if (eb_ty L a.1).1 = 4 then eb_E L d 116 60 ls (Sum.inr (R a 0) :: st) (nc, ns, I, J, R) else none := eb_E_iy hk116 rfl
theorem e116_60 {x : Int32} : eb_E L d 116 60 [v0, some (zi x), v2] (st) M = eb_E L d 116 61 [v0, some (zi x), v2] (zi x :: st) M := eb_E_s hk116 rfl
theorem e116_61 {x : Int32} : eb_E L d 116 61 ls (zi x :: Sum.inr (some a) :: st) (nc, ns, I, J, R) = if (12 ≤ (eb_ty L a.1).1 ∧ (eb_ty L a.1).1 ≤ 16) ∧ eb_in x (eb_ty L a.1).2 = true then eb_E L d 116 62 ls (Sum.inr (R a x.toNatClampNeg) :: st) (nc, ns, I, J, R) else none := eb_E_iy hk116 rfl
theorem e116_62  : eb_E L d 116 62 ls (Sum.inr (some a) :: st) (nc, ns, I, J, R) = if (eb_ty L a.1).1 = 1 then eb_E L d 116 65 ls (zi (I a 1) :: st) (nc, ns, I, J, R) else none := eb_E_iy hk116 rfl
theorem e116_65 {x : Int32} {y : Int32} : eb_E L d 116 65 ls (zi y :: zi x :: st) M = if x < y then eb_E L d 116 70 ls st M else eb_E L d 116 68 ls st M := eb_E_b hk116 rfl
theorem e116_68 {x : Int32} : eb_E L d 116 68 [v0, v1, some (zi x)] (st) M = eb_E L d 116 69 [v0, v1, some (zi x)] (zi x :: st) M := eb_E_s hk116 rfl
theorem e116_69 {x : Int32} : eb_E L d 116 69 ls ([zi x]) M = some (zi x, M) := eb_E_r hk116 rfl
theorem e116_70 {x : Int32} : eb_E L d 116 70 [v0, v1, some (zi x)] (st) M = eb_E L d 116 73 [v0, v1, some (zi (x + 1))] (st) M := eb_E_s hk116 rfl
theorem e116_73  : eb_E L d 116 73 ls (st) M = eb_E L d 116 26 ls (st) M := eb_E_s hk116 rfl
theorem e116_76  : eb_E L d 116 76 ls (st) M = eb_E L d 116 77 ls (zi (-1) :: st) M := eb_E_s hk116 rfl
theorem e116_77 {x : Int32} : eb_E L d 116 77 ls ([zi x]) M = some (zi x, M) := eb_E_r hk116 rfl
/-! X5_dearest -/
theorem hk117 : eb_cd L 117 = eb_look (kt117 L) := rfl
theorem h117 (ha : (eb_ty L a.1).1 = 5) {x1 : Int32} {x2 : Int32} : eb_ev L (d + 1) 117 [zr a, zi x1, zi x2] M = eb_E L d 117 0 [some (zr a), some (zi x1), some (zi x2), none, none, none] [] M := eb_ev_s rfl (eb_chk_i ha rfl)
theorem e117_0 {x : Int32} : eb_E L d 117 0 [v0, some (zi x), v2, v3, v4, v5] (st) M = eb_E L d 117 1 [v0, some (zi x), v2, v3, v4, v5] (zi x :: st) M := eb_E_s hk117 rfl
theorem e117_1  : eb_E L d 117 1 ls ([a0]) M = (eb_ev L d 130 [a0] M).bind (fun q => eb_E L d 117 4 ls [q.1] q.2) := eb_E_c hk117 rfl
theorem e117_4 {x : Int32} : eb_E L d 117 4 ls (zi x :: st) M = if x = 0 then eb_E L d 117 15 ls st M else eb_E L d 117 7 ls st M := eb_E_b hk117 rfl
theorem e117_7 {x : Option eb_A} : eb_E L d 117 7 [some (Sum.inr x), v1, v2, v3, v4, v5] (st) M = eb_E L d 117 8 [some (Sum.inr x), v1, v2, v3, v4, v5] (Sum.inr x :: st) M := eb_E_s hk117 rfl
theorem e117_8 {x : Int32} : eb_E L d 117 8 [v0, v1, some (zi x), v3, v4, v5] (st) M = eb_E L d 117 9 [v0, v1, some (zi x), v3, v4, v5] (zi x :: st) M := eb_E_s hk117 rfl
theorem e117_9  : eb_E L d 117 9 ls ([a1, a0]) M = (eb_ev L d 131 [a0, a1] M).bind (fun q => eb_E L d 117 12 ls [q.1] q.2) := eb_E_c hk117 rfl
theorem e117_12 {x : Int32} : eb_E L d 117 12 ls (zi x :: st) M = if x = 0 then eb_E L d 117 15 ls st M else eb_E L d 117 22 ls st M := eb_E_b hk117 rfl
theorem e117_15 {x : Option eb_A} : eb_E L d 117 15 [some (Sum.inr x), v1, v2, v3, v4, v5] (st) M = eb_E L d 117 16 [some (Sum.inr x), v1, v2, v3, v4, v5] (Sum.inr x :: st) M := eb_E_s hk117 rfl
theorem e117_16  : eb_E L d 117 16 ls (st) M = eb_E L d 117 18 ls (zi (-2) :: st) M := eb_E_s hk117 rfl
theorem e117_18  : eb_E L d 117 18 ls ([a1, a0]) M = (eb_ev L d 125 [a0, a1] M).bind (fun q => eb_E L d 117 21 ls [q.1] q.2) := eb_E_c hk117 rfl
theorem e117_21 {x : Int32} : eb_E L d 117 21 ls ([zi x]) M = some (zi x, M) := eb_E_r hk117 rfl
theorem e117_22  : eb_E L d 117 22 ls (st) M = eb_E L d 117 23 ls (zi 0 :: st) M := eb_E_s hk117 rfl
theorem e117_23 {x : Int32} : eb_E L d 117 23 [v0, v1, v2, v3, v4, v5] (zi x :: st) M = eb_E L d 117 24 [v0, v1, v2, some (zi x), v4, v5] (st) M := eb_E_s hk117 rfl
theorem e117_24  : eb_E L d 117 24 ls (st) M = eb_E L d 117 25 ls (zi (-1) :: st) M := eb_E_s hk117 rfl
theorem e117_25 {x : Int32} : eb_E L d 117 25 [v0, v1, v2, v3, v4, v5] (zi x :: st) M = eb_E L d 117 27 [v0, v1, v2, v3, some (zi x), v5] (st) M := eb_E_s hk117 rfl
theorem e117_27  : eb_E L d 117 27 ls (st) M = eb_E L d 117 28 ls (zi 0 :: st) M := eb_E_s hk117 rfl
theorem e117_28 {x : Int32} : eb_E L d 117 28 [v0, v1, v2, v3, v4, v5] (zi x :: st) M = eb_E L d 117 30 [v0, v1, v2, v3, v4, some (zi x)] (st) M := eb_E_s hk117 rfl
theorem e117_30 {x : Int32} : eb_E L d 117 30 [v0, v1, v2, v3, v4, some (zi x)] (st) M = eb_E L d 117 32 [v0, v1, v2, v3, v4, some (zi x)] (zi x :: st) M := eb_E_s hk117 rfl
theorem e117_32  : eb_E L d 117 32 ls (st) M = eb_E L d 117 34 ls (zi 99 :: st) M := eb_E_s hk117 rfl
theorem e117_34 {x : Int32} {y : Int32} : eb_E L d 117 34 ls (zi y :: zi x :: st) M = if y < x then eb_E L d 117 100 ls st M else eb_E L d 117 37 ls st M := eb_E_b hk117 rfl
theorem e117_37 {x : Option eb_A} : eb_E L d 117 37 [some (Sum.inr x), v1, v2, v3, v4, v5] (st) M = eb_E L d 117 38 [some (Sum.inr x), v1, v2, v3, v4, v5] (Sum.inr x :: st) M := eb_E_s hk117 rfl
theorem e117_38  : eb_E L d 117 38 ls ([a0]) M = (eb_ev L d 138 [a0] M).bind (fun q => eb_E L d 117 41 ls [q.1] q.2) := eb_E_c hk117 rfl
theorem e117_41  : eb_E L d 117 41 ls (Sum.inr (some a) :: st) (nc, ns, I, J, R) = if (eb_ty L a.1).1 = 4 then eb_E L d 117 44 ls (Sum.inr (R a 0) :: st) (nc, ns, I, J, R) else none := eb_E_iy hk117 rfl
theorem e117_44 {x : Int32} : eb_E L d 117 44 [v0, v1, some (zi x), v3, v4, v5] (st) M = eb_E L d 117 45 [v0, v1, some (zi x), v3, v4, v5] (zi x :: st) M := eb_E_s hk117 rfl
theorem e117_45 {x : Int32} : eb_E L d 117 45 ls (zi x :: Sum.inr (some a) :: st) (nc, ns, I, J, R) = if (12 ≤ (eb_ty L a.1).1 ∧ (eb_ty L a.1).1 ≤ 16) ∧ eb_in x (eb_ty L a.1).2 = true then eb_E L d 117 46 ls (Sum.inr (R a x.toNatClampNeg) :: st) (nc, ns, I, J, R) else none := eb_E_iy hk117 rfl
theorem e117_46 {x : Int32} : eb_E L d 117 46 [v0, v1, v2, v3, v4, some (zi x)] (st) M = eb_E L d 117 48 [v0, v1, v2, v3, v4, some (zi x)] (zi x :: st) M := eb_E_s hk117 rfl
theorem e117_48 {x : Int32} : eb_E L d 117 48 ls (zi x :: Sum.inr (some a) :: st) (nc, ns, I, J, R) = if (eb_ty L a.1).1 = 1 then eb_E L d 117 51 ls (st) (nc, ns, eb_u I a 3 x, J, R) else none := eb_E_iy hk117 rfl
theorem e117_51 {x : Option eb_A} : eb_E L d 117 51 [some (Sum.inr x), v1, v2, v3, v4, v5] (st) M = eb_E L d 117 52 [some (Sum.inr x), v1, v2, v3, v4, v5] (Sum.inr x :: st) M := eb_E_s hk117 rfl
theorem e117_52  : eb_E L d 117 52 ls (Sum.inr (some a) :: st) (nc, ns, I, J, R) = if (eb_ty L a.1).1 = 5 then eb_E L d 117 55 ls (Sum.inr (R a 1) :: st) (nc, ns, I, J, R) else none := eb_E_iy hk117 rfl
theorem e117_55 {x : Int32} : eb_E L d 117 55 [v0, some (zi x), v2, v3, v4, v5] (st) M = eb_E L d 117 56 [v0, some (zi x), v2, v3, v4, v5] (zi x :: st) M := eb_E_s hk117 rfl
theorem e117_56  : eb_E L d 117 56 ls ([a1, a0]) M = (eb_ev L d 61 [a0, a1] M).bind (fun q => eb_E L d 117 59 ls [q.1] q.2) := eb_E_c hk117 rfl
theorem e117_59a {x : Int32} : eb_E L d 117 59 ls (zi x :: st) M = eb_E L d 117 60 ls (st) M := eb_E_s hk117 rfl
theorem e117_59b {x : Option eb_A} : eb_E L d 117 59 ls (Sum.inr x :: st) M = eb_E L d 117 60 ls (st) M := eb_E_s hk117 rfl
theorem e117_60 {x : Option eb_A} : eb_E L d 117 60 [some (Sum.inr x), v1, v2, v3, v4, v5] (st) M = eb_E L d 117 61 [some (Sum.inr x), v1, v2, v3, v4, v5] (Sum.inr x :: st) M := eb_E_s hk117 rfl
theorem e117_61  : eb_E L d 117 61 ls (Sum.inr (some a) :: st) (nc, ns, I, J, R) = if (eb_ty L a.1).1 = 5 then eb_E L d 117 64 ls (Sum.inr (R a 1) :: st) (nc, ns, I, J, R) else none := eb_E_iy hk117 rfl
theorem e117_64  : eb_E L d 117 64 ls (Sum.inr (some a) :: st) (nc, ns, I, J, R) = if (eb_ty L a.1).1 = 4 then eb_E L d 117 67 ls (Sum.inr (R a 0) :: st) (nc, ns, I, J, R) else none := eb_E_iy hk117 rfl
theorem e117_67 {x : Int32} : eb_E L d 117 67 [v0, v1, some (zi x), v3, v4, v5] (st) M = eb_E L d 117 68 [v0, v1, some (zi x), v3, v4, v5] (zi x :: st) M := eb_E_s hk117 rfl
theorem e117_68 {x : Int32} : eb_E L d 117 68 ls (zi x :: Sum.inr (some a) :: st) (nc, ns, I, J, R) = if (12 ≤ (eb_ty L a.1).1 ∧ (eb_ty L a.1).1 ≤ 16) ∧ eb_in x (eb_ty L a.1).2 = true then eb_E L d 117 69 ls (Sum.inr (R a x.toNatClampNeg) :: st) (nc, ns, I, J, R) else none := eb_E_iy hk117 rfl
theorem e117_69  : eb_E L d 117 69 ls (Sum.inr (some a) :: st) (nc, ns, I, J, R) = if (eb_ty L a.1).1 = 1 then eb_E L d 117 72 ls (zi (I a 8) :: st) (nc, ns, I, J, R) else none := eb_E_iy hk117 rfl
theorem e117_72 {x : Int32} : eb_E L d 117 72 [v0, v1, v2, v3, some (zi x), v5] (st) M = eb_E L d 117 74 [v0, v1, v2, v3, some (zi x), v5] (zi x :: st) M := eb_E_s hk117 rfl
theorem e117_74 {x : Int32} {y : Int32} : eb_E L d 117 74 ls (zi y :: zi x :: st) M = if y < x then eb_E L d 117 77 ls st M else eb_E L d 117 94 ls st M := eb_E_b hk117 rfl
theorem e117_77 {x : Int32} : eb_E L d 117 77 [v0, v1, v2, v3, v4, some (zi x)] (st) M = eb_E L d 117 79 [v0, v1, v2, v3, v4, some (zi x)] (zi x :: st) M := eb_E_s hk117 rfl
theorem e117_79 {x : Int32} : eb_E L d 117 79 [v0, v1, v2, v3, v4, v5] (zi x :: st) M = eb_E L d 117 80 [v0, v1, v2, some (zi x), v4, v5] (st) M := eb_E_s hk117 rfl
theorem e117_80 {x : Option eb_A} : eb_E L d 117 80 [some (Sum.inr x), v1, v2, v3, v4, v5] (st) M = eb_E L d 117 81 [some (Sum.inr x), v1, v2, v3, v4, v5] (Sum.inr x :: st) M := eb_E_s hk117 rfl
theorem e117_81  : eb_E L d 117 81 ls (Sum.inr (some a) :: st) (nc, ns, I, J, R) = if (eb_ty L a.1).1 = 5 then eb_E L d 117 84 ls (Sum.inr (R a 1) :: st) (nc, ns, I, J, R) else none := eb_E_iy hk117 rfl
theorem e117_84  : eb_E L d 117 84 ls (Sum.inr (some a) :: st) (nc, ns, I, J, R) = if (eb_ty L a.1).1 = 4 then eb_E L d 117 87 ls (Sum.inr (R a 0) :: st) (nc, ns, I, J, R) else none := eb_E_iy hk117 rfl
theorem e117_87 {x : Int32} : eb_E L d 117 87 [v0, v1, some (zi x), v3, v4, v5] (st) M = eb_E L d 117 88 [v0, v1, some (zi x), v3, v4, v5] (zi x :: st) M := eb_E_s hk117 rfl
theorem e117_88 {x : Int32} : eb_E L d 117 88 ls (zi x :: Sum.inr (some a) :: st) (nc, ns, I, J, R) = if (12 ≤ (eb_ty L a.1).1 ∧ (eb_ty L a.1).1 ≤ 16) ∧ eb_in x (eb_ty L a.1).2 = true then eb_E L d 117 89 ls (Sum.inr (R a x.toNatClampNeg) :: st) (nc, ns, I, J, R) else none := eb_E_iy hk117 rfl
theorem e117_89  : eb_E L d 117 89 ls (Sum.inr (some a) :: st) (nc, ns, I, J, R) = if (eb_ty L a.1).1 = 1 then eb_E L d 117 92 ls (zi (I a 8) :: st) (nc, ns, I, J, R) else none := eb_E_iy hk117 rfl
theorem e117_92 {x : Int32} : eb_E L d 117 92 [v0, v1, v2, v3, v4, v5] (zi x :: st) M = eb_E L d 117 94 [v0, v1, v2, v3, some (zi x), v5] (st) M := eb_E_s hk117 rfl
theorem e117_94 {x : Int32} : eb_E L d 117 94 [v0, v1, v2, v3, v4, some (zi x)] (st) M = eb_E L d 117 97 [v0, v1, v2, v3, v4, some (zi (x + 1))] (st) M := eb_E_s hk117 rfl
theorem e117_97  : eb_E L d 117 97 ls (st) M = eb_E L d 117 30 ls (st) M := eb_E_s hk117 rfl
theorem e117_100 {x : Int32} : eb_E L d 117 100 [v0, v1, v2, some (zi x), v4, v5] (st) M = eb_E L d 117 101 [v0, v1, v2, some (zi x), v4, v5] (zi x :: st) M := eb_E_s hk117 rfl
theorem e117_101 {x : Int32} : eb_E L d 117 101 ls ([zi x]) M = some (zi x, M) := eb_E_r hk117 rfl
/-! X5_year -/
theorem hk118 : eb_cd L 118 = eb_look (kt118 L) := rfl
theorem h118 (ha : (eb_ty L a.1).1 = 5) : eb_ev L (d + 1) 118 [zr a] M = eb_E L d 118 0 [some (zr a)] [] M := eb_ev_s rfl (eb_chk_i ha rfl)
theorem e118_0 {x : Option eb_A} : eb_E L d 118 0 [some (Sum.inr x)] (st) M = eb_E L d 118 1 [some (Sum.inr x)] (Sum.inr x :: st) M := eb_E_s hk118 rfl
theorem e118_1  : eb_E L d 118 1 ls (Sum.inr (some a) :: st) (nc, ns, I, J, R) = if (eb_ty L a.1).1 = 5 then eb_E L d 118 4 ls (Sum.inr (R a 0) :: st) (nc, ns, I, J, R) else none := eb_E_iy hk118 rfl
theorem e118_4  : eb_E L d 118 4 ls (st) M = eb_E L d 118 5 ls (zi 1 :: st) M := eb_E_s hk118 rfl
theorem e118_5  : eb_E L d 118 5 ls ([a1, a0]) M = (eb_ev L d 61 [a0, a1] M).bind (fun q => eb_E L d 118 8 ls [q.1] q.2) := eb_E_c hk118 rfl
theorem e118_8 {x : Int32} : eb_E L d 118 8 ls ([zi x]) M = some (zi x, M) := eb_E_r hk118 rfl
/-! X5_goes -/
theorem hk119 : eb_cd L 119 = eb_look (kt119 L) := rfl
theorem h119 (ha : (eb_ty L a.1).1 = 5) {x1 : Int32} : eb_ev L (d + 1) 119 [zr a, zi x1] M = eb_E L d 119 0 [some (zr a), some (zi x1)] [] M := eb_ev_s rfl (eb_chk_i ha rfl)
theorem e119_0 {x : Int32} : eb_E L d 119 0 [v0, some (zi x)] (st) M = eb_E L d 119 1 [v0, some (zi x)] (zi x :: st) M := eb_E_s hk119 rfl
theorem e119_1  : eb_E L d 119 1 ls ([a0]) M = (eb_ev L d 130 [a0] M).bind (fun q => eb_E L d 119 4 ls [q.1] q.2) := eb_E_c hk119 rfl
theorem e119_4 {x : Int32} : eb_E L d 119 4 ls (zi x :: st) M = if x = 0 then eb_E L d 119 18 ls st M else eb_E L d 119 7 ls st M := eb_E_b hk119 rfl
theorem e119_7 {x : Option eb_A} : eb_E L d 119 7 [some (Sum.inr x), v1] (st) M = eb_E L d 119 8 [some (Sum.inr x), v1] (Sum.inr x :: st) M := eb_E_s hk119 rfl
theorem e119_8  : eb_E L d 119 8 ls (Sum.inr (some a) :: st) (nc, ns, I, J, R) = if (eb_ty L a.1).1 = 5 then eb_E L d 119 11 ls (Sum.inr (R a 0) :: st) (nc, ns, I, J, R) else none := eb_E_iy hk119 rfl
theorem e119_11 {x : Int32} : eb_E L d 119 11 [v0, some (zi x)] (st) M = eb_E L d 119 12 [v0, some (zi x)] (zi x :: st) M := eb_E_s hk119 rfl
theorem e119_12  : eb_E L d 119 12 ls ([a1, a0]) M = (eb_ev L d 61 [a0, a1] M).bind (fun q => eb_E L d 119 15 ls [q.1] q.2) := eb_E_c hk119 rfl
theorem e119_15  : eb_E L d 119 15 ls (st) M = eb_E L d 119 24 ls (st) M := eb_E_s hk119 rfl
theorem e119_18 {x : Option eb_A} : eb_E L d 119 18 [some (Sum.inr x), v1] (st) M = eb_E L d 119 19 [some (Sum.inr x), v1] (Sum.inr x :: st) M := eb_E_s hk119 rfl
theorem e119_19  : eb_E L d 119 19 ls (st) M = eb_E L d 119 21 ls (zi (-2) :: st) M := eb_E_s hk119 rfl
theorem e119_21  : eb_E L d 119 21 ls ([a1, a0]) M = (eb_ev L d 126 [a0, a1] M).bind (fun q => eb_E L d 119 24 ls [q.1] q.2) := eb_E_c hk119 rfl
theorem e119_24 {x : Int32} : eb_E L d 119 24 ls ([zi x]) M = some (zi x, M) := eb_E_r hk119 rfl
/-! X5_post -/
theorem hk120 : eb_cd L 120 = eb_look (kt120 L) := rfl
theorem h120 (ha : (eb_ty L a.1).1 = 5) {x1 : Int32} : eb_ev L (d + 1) 120 [zr a, zi x1] M = eb_E L d 120 0 [some (zr a), some (zi x1), none, none] [] M := eb_ev_s rfl (eb_chk_i ha rfl)
theorem e120_0 {x : Int32} : eb_E L d 120 0 [v0, some (zi x), v2, v3] (st) M = eb_E L d 120 1 [v0, some (zi x), v2, v3] (zi x :: st) M := eb_E_s hk120 rfl
theorem e120_1  : eb_E L d 120 1 ls (st) M = eb_E L d 120 2 ls (zi 1 :: st) M := eb_E_s hk120 rfl
theorem e120_2  : eb_E L d 120 2 ls (st) M = eb_E L d 120 4 ls (zi 40 :: st) M := eb_E_s hk120 rfl
theorem e120_4  : eb_E L d 120 4 ls ([a2, a1, a0]) M = (eb_ev L d 127 [a0, a1, a2] M).bind (fun q => eb_E L d 120 7 ls [q.1] q.2) := eb_E_c hk120 rfl
theorem e120_7 {x : Int32} : eb_E L d 120 7 ls (zi x :: st) M = if x = 0 then eb_E L d 120 10 ls st M else eb_E L d 120 17 ls st M := eb_E_b hk120 rfl
theorem e120_10 {x : Option eb_A} : eb_E L d 120 10 [some (Sum.inr x), v1, v2, v3] (st) M = eb_E L d 120 11 [some (Sum.inr x), v1, v2, v3] (Sum.inr x :: st) M := eb_E_s hk120 rfl
theorem e120_11  : eb_E L d 120 11 ls (st) M = eb_E L d 120 13 ls (zi (-2) :: st) M := eb_E_s hk120 rfl
theorem e120_13  : eb_E L d 120 13 ls ([a1, a0]) M = (eb_ev L d 125 [a0, a1] M).bind (fun q => eb_E L d 120 16 ls [q.1] q.2) := eb_E_c hk120 rfl
theorem e120_16 {x : Int32} : eb_E L d 120 16 ls ([zi x]) M = some (zi x, M) := eb_E_r hk120 rfl
theorem e120_17 {x : Option eb_A} : eb_E L d 120 17 [some (Sum.inr x), v1, v2, v3] (st) M = eb_E L d 120 18 [some (Sum.inr x), v1, v2, v3] (Sum.inr x :: st) M := eb_E_s hk120 rfl
theorem e120_18  : eb_E L d 120 18 ls (Sum.inr (some a) :: st) (nc, ns, I, J, R) = if (eb_ty L a.1).1 = 5 then eb_E L d 120 21 ls (Sum.inr (R a 0) :: st) (nc, ns, I, J, R) else none := eb_E_iy hk120 rfl
theorem e120_21  : eb_E L d 120 21 ls (Sum.inr (some a) :: st) (nc, ns, I, J, R) = if (eb_ty L a.1).1 = 4 then eb_E L d 120 24 ls (zi (I a 2) :: st) (nc, ns, I, J, R) else none := eb_E_iy hk120 rfl
theorem e120_24  : eb_E L d 120 24 ls (st) M = eb_E L d 120 25 ls (zi 1 :: st) M := eb_E_s hk120 rfl
theorem e120_25 {x : Int32} {y : Int32} : eb_E L d 120 25 ls (zi y :: zi x :: st) M = if x < y then eb_E L d 120 28 ls st M else eb_E L d 120 35 ls st M := eb_E_b hk120 rfl
theorem e120_28 {x : Option eb_A} : eb_E L d 120 28 [some (Sum.inr x), v1, v2, v3] (st) M = eb_E L d 120 29 [some (Sum.inr x), v1, v2, v3] (Sum.inr x :: st) M := eb_E_s hk120 rfl
theorem e120_29  : eb_E L d 120 29 ls (st) M = eb_E L d 120 31 ls (zi (-5) :: st) M := eb_E_s hk120 rfl
theorem e120_31  : eb_E L d 120 31 ls ([a1, a0]) M = (eb_ev L d 125 [a0, a1] M).bind (fun q => eb_E L d 120 34 ls [q.1] q.2) := eb_E_c hk120 rfl
theorem e120_34 {x : Int32} : eb_E L d 120 34 ls ([zi x]) M = some (zi x, M) := eb_E_r hk120 rfl
theorem e120_35  : eb_E L d 120 35 ls (st) M = eb_E L d 120 36 ls (zi 0 :: st) M := eb_E_s hk120 rfl
theorem e120_36 {x : Int32} : eb_E L d 120 36 [v0, v1, v2, v3] (zi x :: st) M = eb_E L d 120 37 [v0, v1, some (zi x), v3] (st) M := eb_E_s hk120 rfl
theorem e120_37  : eb_E L d 120 37 ls (st) M = eb_E L d 120 38 ls (zi 0 :: st) M := eb_E_s hk120 rfl
theorem e120_38 {x : Int32} : eb_E L d 120 38 [v0, v1, v2, v3] (zi x :: st) M = eb_E L d 120 39 [v0, v1, v2, some (zi x)] (st) M := eb_E_s hk120 rfl
theorem e120_39 {x : Int32} : eb_E L d 120 39 [v0, v1, v2, some (zi x)] (st) M = eb_E L d 120 40 [v0, v1, v2, some (zi x)] (zi x :: st) M := eb_E_s hk120 rfl
theorem e120_40 {x : Int32} : eb_E L d 120 40 [v0, some (zi x), v2, v3] (st) M = eb_E L d 120 41 [v0, some (zi x), v2, v3] (zi x :: st) M := eb_E_s hk120 rfl
theorem e120_41 {x : Int32} {y : Int32} : eb_E L d 120 41 ls (zi y :: zi x :: st) M = if x < y then eb_E L d 120 44 ls st M else eb_E L d 120 63 ls st M := eb_E_b hk120 rfl
theorem e120_44 {x : Option eb_A} : eb_E L d 120 44 [some (Sum.inr x), v1, v2, v3] (st) M = eb_E L d 120 45 [some (Sum.inr x), v1, v2, v3] (Sum.inr x :: st) M := eb_E_s hk120 rfl
theorem e120_45  : eb_E L d 120 45 ls (Sum.inr (some a) :: st) (nc, ns, I, J, R) = if (eb_ty L a.1).1 = 5 then eb_E L d 120 48 ls (Sum.inr (R a 0) :: st) (nc, ns, I, J, R) else none := eb_E_iy hk120 rfl
theorem e120_48  : eb_E L d 120 48 ls ([a0]) M = (eb_ev L d 65 [a0] M).bind (fun q => eb_E L d 120 51 ls [q.1] q.2) := eb_E_c hk120 rfl
theorem e120_51 {x : Int32} : eb_E L d 120 51 ls (zi x :: st) M = if x = 0 then eb_E L d 120 57 ls st M else eb_E L d 120 54 ls st M := eb_E_b hk120 rfl
theorem e120_54 {x : Int32} : eb_E L d 120 54 [v0, v1, some (zi x), v3] (st) M = eb_E L d 120 57 [v0, v1, some (zi (x + 1)), v3] (st) M := eb_E_s hk120 rfl
theorem e120_57 {x : Int32} : eb_E L d 120 57 [v0, v1, v2, some (zi x)] (st) M = eb_E L d 120 60 [v0, v1, v2, some (zi (x + 1))] (st) M := eb_E_s hk120 rfl
theorem e120_60  : eb_E L d 120 60 ls (st) M = eb_E L d 120 39 ls (st) M := eb_E_s hk120 rfl
theorem e120_63 {x : Int32} : eb_E L d 120 63 [v0, v1, some (zi x), v3] (st) M = eb_E L d 120 64 [v0, v1, some (zi x), v3] (zi x :: st) M := eb_E_s hk120 rfl
theorem e120_64 {x : Int32} : eb_E L d 120 64 ls ([zi x]) M = some (zi x, M) := eb_E_r hk120 rfl
/-! X5_seed -/
theorem hk121 : eb_cd L 121 = eb_look (kt121 L) := rfl
theorem h121 (ha : (eb_ty L a.1).1 = 5) {x1 : Int32} : eb_ev L (d + 1) 121 [zr a, zi x1] M = eb_E L d 121 0 [some (zr a), some (zi x1), none] [] M := eb_ev_s rfl (eb_chk_i ha rfl)
theorem e121_0 {x : Option eb_A} : eb_E L d 121 0 [some (Sum.inr x), v1, v2] (st) M = eb_E L d 121 1 [some (Sum.inr x), v1, v2] (Sum.inr x :: st) M := eb_E_s hk121 rfl
theorem e121_1  : eb_E L d 121 1 ls (Sum.inr (some a) :: st) (nc, ns, I, J, R) = if (eb_ty L a.1).1 = 5 then eb_E L d 121 4 ls (Sum.inr (R a 0) :: st) (nc, ns, I, J, R) else none := eb_E_iy hk121 rfl
theorem e121_4  : eb_E L d 121 4 ls (Sum.inr (some a) :: st) (nc, ns, I, J, R) = if (eb_ty L a.1).1 = 4 then eb_E L d 121 7 ls (zi (I a 6) :: st) (nc, ns, I, J, R) else none := eb_E_iy hk121 rfl
theorem e121_7 {x : Int32} : eb_E L d 121 7 [v0, v1, v2] (zi x :: st) M = eb_E L d 121 8 [v0, v1, some (zi x)] (st) M := eb_E_s hk121 rfl
theorem e121_8 {x : Option eb_A} : eb_E L d 121 8 [some (Sum.inr x), v1, v2] (st) M = eb_E L d 121 9 [some (Sum.inr x), v1, v2] (Sum.inr x :: st) M := eb_E_s hk121 rfl
theorem e121_9  : eb_E L d 121 9 ls (Sum.inr (some a) :: st) (nc, ns, I, J, R) = if (eb_ty L a.1).1 = 5 then eb_E L d 121 12 ls (Sum.inr (R a 0) :: st) (nc, ns, I, J, R) else none := eb_E_iy hk121 rfl
theorem e121_12 {x : Int32} : eb_E L d 121 12 [v0, some (zi x), v2] (st) M = eb_E L d 121 13 [v0, some (zi x), v2] (zi x :: st) M := eb_E_s hk121 rfl
theorem e121_13 {x : Int32} : eb_E L d 121 13 ls (zi x :: Sum.inr (some a) :: st) (nc, ns, I, J, R) = if (eb_ty L a.1).1 = 4 then eb_E L d 121 16 ls (st) (nc, ns, eb_u I a 6 x, J, R) else none := eb_E_iy hk121 rfl
theorem e121_16 {x : Int32} : eb_E L d 121 16 [v0, v1, some (zi x)] (st) M = eb_E L d 121 17 [v0, v1, some (zi x)] (zi x :: st) M := eb_E_s hk121 rfl
theorem e121_17 {x : Int32} : eb_E L d 121 17 ls ([zi x]) M = some (zi x, M) := eb_E_r hk121 rfl
/-! X5_image -/
theorem hk122 : eb_cd L 122 = eb_look (kt122 L) := rfl
theorem h122 (ha : (eb_ty L a.1).1 = 5) : eb_ev L (d + 1) 122 [zr a] M = eb_E L d 122 0 [some (zr a)] [] M := eb_ev_s rfl (eb_chk_i ha rfl)
theorem e122_0 {x : Option eb_A} : eb_E L d 122 0 [some (Sum.inr x)] (st) M = eb_E L d 122 1 [some (Sum.inr x)] (Sum.inr x :: st) M := eb_E_s hk122 rfl
theorem e122_1  : eb_E L d 122 1 ls (Sum.inr (some a) :: st) (nc, ns, I, J, R) = if (eb_ty L a.1).1 = 5 then eb_E L d 122 4 ls (Sum.inr (R a 2) :: st) (nc, ns, I, J, R) else none := eb_E_iy hk122 rfl
theorem e122_4 {x : Option eb_A} : eb_E L d 122 4 [some (Sum.inr x)] (st) M = eb_E L d 122 5 [some (Sum.inr x)] (Sum.inr x :: st) M := eb_E_s hk122 rfl
theorem e122_5  : eb_E L d 122 5 ls (Sum.inr (some a) :: st) (nc, ns, I, J, R) = if (eb_ty L a.1).1 = 5 then eb_E L d 122 8 ls (Sum.inr (R a 0) :: st) (nc, ns, I, J, R) else none := eb_E_iy hk122 rfl
theorem e122_8  : eb_E L d 122 8 ls ([a1, a0]) M = (eb_ev L d 39 [a0, a1] M).bind (fun q => eb_E L d 122 11 ls [] q.2) := eb_E_c hk122 rfl
theorem e122_11 {x : Option eb_A} : eb_E L d 122 11 [some (Sum.inr x)] (st) M = eb_E L d 122 12 [some (Sum.inr x)] (Sum.inr x :: st) M := eb_E_s hk122 rfl
theorem e122_12  : eb_E L d 122 12 ls (st) M = eb_E L d 122 13 ls (zi 1 :: st) M := eb_E_s hk122 rfl
theorem e122_13 {x : Int32} : eb_E L d 122 13 ls (zi x :: Sum.inr (some a) :: st) (nc, ns, I, J, R) = if (eb_ty L a.1).1 = 5 ∧ (x = 0 ∨ x = 1) then eb_E L d 122 16 ls (st) (nc, ns, eb_u I a 3 x, J, R) else none := eb_E_iy hk122 rfl
theorem e122_16  : eb_E L d 122 16 ls (st) M = eb_E L d 122 17 ls (zi 1 :: st) M := eb_E_s hk122 rfl
theorem e122_17 {x : Int32} : eb_E L d 122 17 ls ([zi x]) M = some (zi x, M) := eb_E_r hk122 rfl
/-! X5_back -/
theorem hk123 : eb_cd L 123 = eb_look (kt123 L) := rfl
theorem h123 (ha : (eb_ty L a.1).1 = 5) : eb_ev L (d + 1) 123 [zr a] M = eb_E L d 123 0 [some (zr a), none] [] M := eb_ev_s rfl (eb_chk_i ha rfl)
theorem e123_0 {x : Option eb_A} : eb_E L d 123 0 [some (Sum.inr x), v1] (st) M = eb_E L d 123 1 [some (Sum.inr x), v1] (Sum.inr x :: st) M := eb_E_s hk123 rfl
theorem e123_1  : eb_E L d 123 1 ls (Sum.inr (some a) :: st) (nc, ns, I, J, R) = if (eb_ty L a.1).1 = 5 then eb_E L d 123 4 ls (zi (I a 3) :: st) (nc, ns, I, J, R) else none := eb_E_iy hk123 rfl
theorem e123_4 {x : Int32} : eb_E L d 123 4 ls (zi x :: st) M = if x = 0 then eb_E L d 123 7 ls st M else eb_E L d 123 14 ls st M := eb_E_b hk123 rfl
theorem e123_7 {x : Option eb_A} : eb_E L d 123 7 [some (Sum.inr x), v1] (st) M = eb_E L d 123 8 [some (Sum.inr x), v1] (Sum.inr x :: st) M := eb_E_s hk123 rfl
theorem e123_8  : eb_E L d 123 8 ls (st) M = eb_E L d 123 10 ls (zi (-5) :: st) M := eb_E_s hk123 rfl
theorem e123_10  : eb_E L d 123 10 ls ([a1, a0]) M = (eb_ev L d 125 [a0, a1] M).bind (fun q => eb_E L d 123 13 ls [q.1] q.2) := eb_E_c hk123 rfl
theorem e123_13 {x : Int32} : eb_E L d 123 13 ls ([zi x]) M = some (zi x, M) := eb_E_r hk123 rfl
theorem e123_14 {x : Option eb_A} : eb_E L d 123 14 [some (Sum.inr x), v1] (st) M = eb_E L d 123 15 [some (Sum.inr x), v1] (Sum.inr x :: st) M := eb_E_s hk123 rfl
theorem e123_15  : eb_E L d 123 15 ls (Sum.inr (some a) :: st) (nc, ns, I, J, R) = if (eb_ty L a.1).1 = 5 then eb_E L d 123 18 ls (Sum.inr (R a 0) :: st) (nc, ns, I, J, R) else none := eb_E_iy hk123 rfl
theorem e123_18 {x : Option eb_A} : eb_E L d 123 18 [some (Sum.inr x), v1] (st) M = eb_E L d 123 19 [some (Sum.inr x), v1] (Sum.inr x :: st) M := eb_E_s hk123 rfl
theorem e123_19  : eb_E L d 123 19 ls (Sum.inr (some a) :: st) (nc, ns, I, J, R) = if (eb_ty L a.1).1 = 5 then eb_E L d 123 22 ls (Sum.inr (R a 2) :: st) (nc, ns, I, J, R) else none := eb_E_iy hk123 rfl
theorem e123_22  : eb_E L d 123 22 ls ([a1, a0]) M = (eb_ev L d 39 [a0, a1] M).bind (fun q => eb_E L d 123 25 ls [] q.2) := eb_E_c hk123 rfl
theorem e123_25  : eb_E L d 123 25 ls (st) M = eb_E L d 123 26 ls (zi 0 :: st) M := eb_E_s hk123 rfl
theorem e123_26 {x : Int32} : eb_E L d 123 26 [v0, v1] (zi x :: st) M = eb_E L d 123 27 [v0, some (zi x)] (st) M := eb_E_s hk123 rfl
theorem e123_27 {x : Int32} : eb_E L d 123 27 [v0, some (zi x)] (st) M = eb_E L d 123 28 [v0, some (zi x)] (zi x :: st) M := eb_E_s hk123 rfl
theorem e123_28  : eb_E L d 123 28 ls (st) M = eb_E L d 123 30 ls (zi 8 :: st) M := eb_E_s hk123 rfl
theorem e123_30 {x : Int32} {y : Int32} : eb_E L d 123 30 ls (zi y :: zi x :: st) M = if x < y then eb_E L d 123 33 ls st M else eb_E L d 123 80 ls st M := eb_E_b hk123 rfl
theorem e123_33 {x : Option eb_A} : eb_E L d 123 33 [some (Sum.inr x), v1] (st) M = eb_E L d 123 34 [some (Sum.inr x), v1] (Sum.inr x :: st) M := eb_E_s hk123 rfl
theorem e123_34  : eb_E L d 123 34 ls (Sum.inr (some a) :: st) (nc, ns, I, J, R) = if (eb_ty L a.1).1 = 5 then eb_E L d 123 37 ls (Sum.inr (R a 4) :: st) (nc, ns, I, J, R) else none := eb_E_iy hk123 rfl
theorem e123_37 {x : Int32} : eb_E L d 123 37 [v0, some (zi x)] (st) M = eb_E L d 123 38 [v0, some (zi x)] (zi x :: st) M := eb_E_s hk123 rfl
theorem e123_38 {x : Int32} : eb_E L d 123 38 ls (zi x :: Sum.inr (some a) :: st) (nc, ns, I, J, R) = if (12 ≤ (eb_ty L a.1).1 ∧ (eb_ty L a.1).1 ≤ 16) ∧ eb_in x (eb_ty L a.1).2 = true then eb_E L d 123 39 ls (Sum.inr (R a x.toNatClampNeg) :: st) (nc, ns, I, J, R) else none := eb_E_iy hk123 rfl
theorem e123_39  : eb_E L d 123 39 ls ([a0]) M = (eb_ev L d 18 [a0] M).bind (fun q => eb_E L d 123 42 ls [q.1] q.2) := eb_E_c hk123 rfl
theorem e123_42 {x : Int32} : eb_E L d 123 42 ls (zi x :: st) M = if x = 0 then eb_E L d 123 74 ls st M else eb_E L d 123 45 ls st M := eb_E_b hk123 rfl
theorem e123_45 {x : Option eb_A} : eb_E L d 123 45 [some (Sum.inr x), v1] (st) M = eb_E L d 123 46 [some (Sum.inr x), v1] (Sum.inr x :: st) M := eb_E_s hk123 rfl
theorem e123_46 {x : Option eb_A} : eb_E L d 123 46 [some (Sum.inr x), v1] (st) M = eb_E L d 123 47 [some (Sum.inr x), v1] (Sum.inr x :: st) M := eb_E_s hk123 rfl
theorem e123_47  : eb_E L d 123 47 ls (Sum.inr (some a) :: st) (nc, ns, I, J, R) = if (eb_ty L a.1).1 = 5 then eb_E L d 123 50 ls (Sum.inr (R a 4) :: st) (nc, ns, I, J, R) else none := eb_E_iy hk123 rfl
theorem e123_50 {x : Int32} : eb_E L d 123 50 [v0, some (zi x)] (st) M = eb_E L d 123 51 [v0, some (zi x)] (zi x :: st) M := eb_E_s hk123 rfl
theorem e123_51 {x : Int32} : eb_E L d 123 51 ls (zi x :: Sum.inr (some a) :: st) (nc, ns, I, J, R) = if (12 ≤ (eb_ty L a.1).1 ∧ (eb_ty L a.1).1 ≤ 16) ∧ eb_in x (eb_ty L a.1).2 = true then eb_E L d 123 52 ls (Sum.inr (R a x.toNatClampNeg) :: st) (nc, ns, I, J, R) else none := eb_E_iy hk123 rfl
theorem e123_52  : eb_E L d 123 52 ls (Sum.inr (some a) :: st) (nc, ns, I, J, R) = if (eb_ty L a.1).1 = 2 then eb_E L d 123 55 ls (zi (I a 0) :: st) (nc, ns, I, J, R) else none := eb_E_iy hk123 rfl
theorem e123_55  : eb_E L d 123 55 ls (st) M = eb_E L d 123 57 ls (zi 10 :: st) M := eb_E_s hk123 rfl
theorem e123_57 {x : Int32} {y : Int32} : eb_E L d 123 57 ls (zi y :: zi x :: st) M = eb_E L d 123 58 ls (zi (x - y) :: st) M := eb_E_s hk123 rfl
theorem e123_58  : eb_E L d 123 58 ls ([a1, a0]) M = (eb_ev L d 132 [a0, a1] M).bind (fun q => eb_E L d 123 61 ls [q.1] q.2) := eb_E_c hk123 rfl
theorem e123_61 {x : Int32} : eb_E L d 123 61 ls (zi x :: st) M = if x = 0 then eb_E L d 123 64 ls st M else eb_E L d 123 74 ls st M := eb_E_b hk123 rfl
theorem e123_64 {x : Option eb_A} : eb_E L d 123 64 [some (Sum.inr x), v1] (st) M = eb_E L d 123 65 [some (Sum.inr x), v1] (Sum.inr x :: st) M := eb_E_s hk123 rfl
theorem e123_65  : eb_E L d 123 65 ls (Sum.inr (some a) :: st) (nc, ns, I, J, R) = if (eb_ty L a.1).1 = 5 then eb_E L d 123 68 ls (Sum.inr (R a 4) :: st) (nc, ns, I, J, R) else none := eb_E_iy hk123 rfl
theorem e123_68 {x : Int32} : eb_E L d 123 68 [v0, some (zi x)] (st) M = eb_E L d 123 69 [v0, some (zi x)] (zi x :: st) M := eb_E_s hk123 rfl
theorem e123_69 {x : Int32} : eb_E L d 123 69 ls (zi x :: Sum.inr (some a) :: st) (nc, ns, I, J, R) = if (12 ≤ (eb_ty L a.1).1 ∧ (eb_ty L a.1).1 ≤ 16) ∧ eb_in x (eb_ty L a.1).2 = true then eb_E L d 123 70 ls (Sum.inr (R a x.toNatClampNeg) :: st) (nc, ns, I, J, R) else none := eb_E_iy hk123 rfl
theorem e123_70  : eb_E L d 123 70 ls (st) M = eb_E L d 123 71 ls (zi (-1) :: st) M := eb_E_s hk123 rfl
theorem e123_71 {x : Int32} : eb_E L d 123 71 ls (zi x :: Sum.inr (some a) :: st) (nc, ns, I, J, R) = if (eb_ty L a.1).1 = 2 then eb_E L d 123 74 ls (st) (nc, ns, eb_u I a 0 x, J, R) else none := eb_E_iy hk123 rfl
theorem e123_74 {x : Int32} : eb_E L d 123 74 [v0, some (zi x)] (st) M = eb_E L d 123 77 [v0, some (zi (x + 1))] (st) M := eb_E_s hk123 rfl
theorem e123_77  : eb_E L d 123 77 ls (st) M = eb_E L d 123 27 ls (st) M := eb_E_s hk123 rfl
theorem e123_80  : eb_E L d 123 80 ls (st) M = eb_E L d 123 81 ls (zi 1 :: st) M := eb_E_s hk123 rfl
theorem e123_81 {x : Int32} : eb_E L d 123 81 ls ([zi x]) M = some (zi x, M) := eb_E_r hk123 rfl
/-! X5_status -/
theorem hk124 : eb_cd L 124 = eb_look (kt124 L) := rfl
theorem h124 (ha : (eb_ty L a.1).1 = 5) {x1 : Int32} : eb_ev L (d + 1) 124 [zr a, zi x1] M = eb_E L d 124 0 [some (zr a), some (zi x1)] [] M := eb_ev_s rfl (eb_chk_i ha rfl)
theorem e124_0 {x : Int32} : eb_E L d 124 0 [v0, some (zi x)] (st) M = eb_E L d 124 1 [v0, some (zi x)] (zi x :: st) M := eb_E_s hk124 rfl
theorem e124_1 {x : Int32} : eb_E L d 124 1 ls (zi x :: st) M = eb_sw x (fun t => eb_E L d 124 t ls st M) 171 [(0, 84), (1, 92), (2, 100), (3, 108), (4, 116), (5, 124), (6, 132), (7, 140), (8, 148), (9, 156), (10, 171), (11, 171), (12, 161), (13, 161), (14, 161), (15, 161), (16, 161)] := eb_E_w hk124 rfl
theorem e124_84 {x : Option eb_A} : eb_E L d 124 84 [some (Sum.inr x), v1] (st) M = eb_E L d 124 85 [some (Sum.inr x), v1] (Sum.inr x :: st) M := eb_E_s hk124 rfl
theorem e124_85  : eb_E L d 124 85 ls (Sum.inr (some a) :: st) (nc, ns, I, J, R) = if (eb_ty L a.1).1 = 5 then eb_E L d 124 88 ls (Sum.inr (R a 0) :: st) (nc, ns, I, J, R) else none := eb_E_iy hk124 rfl
theorem e124_88  : eb_E L d 124 88 ls (Sum.inr (some a) :: st) (nc, ns, I, J, R) = if (eb_ty L a.1).1 = 4 then eb_E L d 124 91 ls (zi (I a 2) :: st) (nc, ns, I, J, R) else none := eb_E_iy hk124 rfl
theorem e124_91 {x : Int32} : eb_E L d 124 91 ls ([zi x]) M = some (zi x, M) := eb_E_r hk124 rfl
theorem e124_92 {x : Option eb_A} : eb_E L d 124 92 [some (Sum.inr x), v1] (st) M = eb_E L d 124 93 [some (Sum.inr x), v1] (Sum.inr x :: st) M := eb_E_s hk124 rfl
theorem e124_93  : eb_E L d 124 93 ls (Sum.inr (some a) :: st) (nc, ns, I, J, R) = if (eb_ty L a.1).1 = 5 then eb_E L d 124 96 ls (Sum.inr (R a 0) :: st) (nc, ns, I, J, R) else none := eb_E_iy hk124 rfl
theorem e124_96  : eb_E L d 124 96 ls (Sum.inr (some a) :: st) (nc, ns, I, J, R) = if (eb_ty L a.1).1 = 4 then eb_E L d 124 99 ls (zi (I a 3) :: st) (nc, ns, I, J, R) else none := eb_E_iy hk124 rfl
theorem e124_99 {x : Int32} : eb_E L d 124 99 ls ([zi x]) M = some (zi x, M) := eb_E_r hk124 rfl
theorem e124_100 {x : Option eb_A} : eb_E L d 124 100 [some (Sum.inr x), v1] (st) M = eb_E L d 124 101 [some (Sum.inr x), v1] (Sum.inr x :: st) M := eb_E_s hk124 rfl
theorem e124_101  : eb_E L d 124 101 ls (Sum.inr (some a) :: st) (nc, ns, I, J, R) = if (eb_ty L a.1).1 = 5 then eb_E L d 124 104 ls (Sum.inr (R a 0) :: st) (nc, ns, I, J, R) else none := eb_E_iy hk124 rfl
theorem e124_104  : eb_E L d 124 104 ls (Sum.inr (some a) :: st) (nc, ns, I, J, R) = if (eb_ty L a.1).1 = 4 then eb_E L d 124 107 ls (zi (I a 4) :: st) (nc, ns, I, J, R) else none := eb_E_iy hk124 rfl
theorem e124_107 {x : Int32} : eb_E L d 124 107 ls ([zi x]) M = some (zi x, M) := eb_E_r hk124 rfl
theorem e124_108 {x : Option eb_A} : eb_E L d 124 108 [some (Sum.inr x), v1] (st) M = eb_E L d 124 109 [some (Sum.inr x), v1] (Sum.inr x :: st) M := eb_E_s hk124 rfl
theorem e124_109  : eb_E L d 124 109 ls (Sum.inr (some a) :: st) (nc, ns, I, J, R) = if (eb_ty L a.1).1 = 5 then eb_E L d 124 112 ls (Sum.inr (R a 0) :: st) (nc, ns, I, J, R) else none := eb_E_iy hk124 rfl
theorem e124_112  : eb_E L d 124 112 ls ([a0]) M = (eb_ev L d 43 [a0] M).bind (fun q => eb_E L d 124 115 ls [q.1] q.2) := eb_E_c hk124 rfl
theorem e124_115 {x : Int32} : eb_E L d 124 115 ls ([zi x]) M = some (zi x, M) := eb_E_r hk124 rfl
theorem e124_116 {x : Option eb_A} : eb_E L d 124 116 [some (Sum.inr x), v1] (st) M = eb_E L d 124 117 [some (Sum.inr x), v1] (Sum.inr x :: st) M := eb_E_s hk124 rfl
theorem e124_117  : eb_E L d 124 117 ls (Sum.inr (some a) :: st) (nc, ns, I, J, R) = if (eb_ty L a.1).1 = 5 then eb_E L d 124 120 ls (Sum.inr (R a 0) :: st) (nc, ns, I, J, R) else none := eb_E_iy hk124 rfl
theorem e124_120  : eb_E L d 124 120 ls ([a0]) M = (eb_ev L d 44 [a0] M).bind (fun q => eb_E L d 124 123 ls [q.1] q.2) := eb_E_c hk124 rfl
theorem e124_123 {x : Int32} : eb_E L d 124 123 ls ([zi x]) M = some (zi x, M) := eb_E_r hk124 rfl
theorem e124_124 {x : Option eb_A} : eb_E L d 124 124 [some (Sum.inr x), v1] (st) M = eb_E L d 124 125 [some (Sum.inr x), v1] (Sum.inr x :: st) M := eb_E_s hk124 rfl
theorem e124_125  : eb_E L d 124 125 ls (Sum.inr (some a) :: st) (nc, ns, I, J, R) = if (eb_ty L a.1).1 = 5 then eb_E L d 124 128 ls (Sum.inr (R a 0) :: st) (nc, ns, I, J, R) else none := eb_E_iy hk124 rfl
theorem e124_128  : eb_E L d 124 128 ls ([a0]) M = (eb_ev L d 45 [a0] M).bind (fun q => eb_E L d 124 131 ls [q.1] q.2) := eb_E_c hk124 rfl
theorem e124_131 {x : Int32} : eb_E L d 124 131 ls ([zi x]) M = some (zi x, M) := eb_E_r hk124 rfl
theorem e124_132 {x : Option eb_A} : eb_E L d 124 132 [some (Sum.inr x), v1] (st) M = eb_E L d 124 133 [some (Sum.inr x), v1] (Sum.inr x :: st) M := eb_E_s hk124 rfl
theorem e124_133  : eb_E L d 124 133 ls (Sum.inr (some a) :: st) (nc, ns, I, J, R) = if (eb_ty L a.1).1 = 5 then eb_E L d 124 136 ls (Sum.inr (R a 0) :: st) (nc, ns, I, J, R) else none := eb_E_iy hk124 rfl
theorem e124_136  : eb_E L d 124 136 ls (Sum.inr (some a) :: st) (nc, ns, I, J, R) = if (eb_ty L a.1).1 = 4 then eb_E L d 124 139 ls (zi (I a 5) :: st) (nc, ns, I, J, R) else none := eb_E_iy hk124 rfl
theorem e124_139 {x : Int32} : eb_E L d 124 139 ls ([zi x]) M = some (zi x, M) := eb_E_r hk124 rfl
theorem e124_140 {x : Option eb_A} : eb_E L d 124 140 [some (Sum.inr x), v1] (st) M = eb_E L d 124 141 [some (Sum.inr x), v1] (Sum.inr x :: st) M := eb_E_s hk124 rfl
theorem e124_141  : eb_E L d 124 141 ls (Sum.inr (some a) :: st) (nc, ns, I, J, R) = if (eb_ty L a.1).1 = 5 then eb_E L d 124 144 ls (Sum.inr (R a 5) :: st) (nc, ns, I, J, R) else none := eb_E_iy hk124 rfl
theorem e124_144  : eb_E L d 124 144 ls (Sum.inr (some a) :: st) (nc, ns, I, J, R) = if (eb_ty L a.1).1 = 3 then eb_E L d 124 147 ls (zi (I a 1) :: st) (nc, ns, I, J, R) else none := eb_E_iy hk124 rfl
theorem e124_147 {x : Int32} : eb_E L d 124 147 ls ([zi x]) M = some (zi x, M) := eb_E_r hk124 rfl
theorem e124_148 {x : Option eb_A} : eb_E L d 124 148 [some (Sum.inr x), v1] (st) M = eb_E L d 124 149 [some (Sum.inr x), v1] (Sum.inr x :: st) M := eb_E_s hk124 rfl
theorem e124_149  : eb_E L d 124 149 ls (Sum.inr (some a) :: st) (nc, ns, I, J, R) = if (eb_ty L a.1).1 = 5 then eb_E L d 124 152 ls (Sum.inr (R a 0) :: st) (nc, ns, I, J, R) else none := eb_E_iy hk124 rfl
theorem e124_152  : eb_E L d 124 152 ls (Sum.inr (some a) :: st) (nc, ns, I, J, R) = if (eb_ty L a.1).1 = 4 then eb_E L d 124 155 ls (zi (I a 6) :: st) (nc, ns, I, J, R) else none := eb_E_iy hk124 rfl
theorem e124_155 {x : Int32} : eb_E L d 124 155 ls ([zi x]) M = some (zi x, M) := eb_E_r hk124 rfl
theorem e124_156 {x : Option eb_A} : eb_E L d 124 156 [some (Sum.inr x), v1] (st) M = eb_E L d 124 157 [some (Sum.inr x), v1] (Sum.inr x :: st) M := eb_E_s hk124 rfl
theorem e124_157  : eb_E L d 124 157 ls ([a0]) M = (eb_ev L d 136 [a0] M).bind (fun q => eb_E L d 124 160 ls [q.1] q.2) := eb_E_c hk124 rfl
theorem e124_160 {x : Int32} : eb_E L d 124 160 ls ([zi x]) M = some (zi x, M) := eb_E_r hk124 rfl
theorem e124_161 {x : Option eb_A} : eb_E L d 124 161 [some (Sum.inr x), v1] (st) M = eb_E L d 124 162 [some (Sum.inr x), v1] (Sum.inr x :: st) M := eb_E_s hk124 rfl
theorem e124_162  : eb_E L d 124 162 ls (Sum.inr (some a) :: st) (nc, ns, I, J, R) = if (eb_ty L a.1).1 = 5 then eb_E L d 124 165 ls (Sum.inr (R a 6) :: st) (nc, ns, I, J, R) else none := eb_E_iy hk124 rfl
theorem e124_165 {x : Int32} : eb_E L d 124 165 [v0, some (zi x)] (st) M = eb_E L d 124 166 [v0, some (zi x)] (zi x :: st) M := eb_E_s hk124 rfl
theorem e124_166  : eb_E L d 124 166 ls (st) M = eb_E L d 124 168 ls (zi 12 :: st) M := eb_E_s hk124 rfl
theorem e124_168 {x : Int32} {y : Int32} : eb_E L d 124 168 ls (zi y :: zi x :: st) M = eb_E L d 124 169 ls (zi (x - y) :: st) M := eb_E_s hk124 rfl
theorem e124_169 {x : Int32} : eb_E L d 124 169 ls (zi x :: Sum.inr (some a) :: st) (nc, ns, I, J, R) = if (eb_ty L a.1).1 = 10 ∧ eb_in x (eb_ty L a.1).2 = true then eb_E L d 124 170 ls (zi (I a x.toNatClampNeg) :: st) (nc, ns, I, J, R) else none := eb_E_iy hk124 rfl
theorem e124_170 {x : Int32} : eb_E L d 124 170 ls ([zi x]) M = some (zi x, M) := eb_E_r hk124 rfl
theorem e124_171  : eb_E L d 124 171 ls (st) M = eb_E L d 124 172 ls (zi (-1) :: st) M := eb_E_s hk124 rfl
theorem e124_172 {x : Int32} : eb_E L d 124 172 ls ([zi x]) M = some (zi x, M) := eb_E_r hk124 rfl
/-! X5_refuse -/
theorem hk125 : eb_cd L 125 = eb_look (kt125 L) := rfl
theorem h125 (ha : (eb_ty L a.1).1 = 5) {x1 : Int32} : eb_ev L (d + 1) 125 [zr a, zi x1] M = eb_E L d 125 0 [some (zr a), some (zi x1), none] [] M := eb_ev_s rfl (eb_chk_i ha rfl)
theorem e125_0  : eb_E L d 125 0 ls (st) M = eb_E L d 125 2 ls (zi (-2) :: st) M := eb_E_s hk125 rfl
theorem e125_2 {x : Int32} : eb_E L d 125 2 [v0, some (zi x), v2] (st) M = eb_E L d 125 3 [v0, some (zi x), v2] (zi x :: st) M := eb_E_s hk125 rfl
theorem e125_3 {x : Int32} {y : Int32} : eb_E L d 125 3 ls (zi y :: zi x :: st) M = eb_E L d 125 4 ls (zi (x - y) :: st) M := eb_E_s hk125 rfl
theorem e125_4 {x : Int32} : eb_E L d 125 4 [v0, v1, v2] (zi x :: st) M = eb_E L d 125 5 [v0, v1, some (zi x)] (st) M := eb_E_s hk125 rfl
theorem e125_5 {x : Int32} : eb_E L d 125 5 [v0, v1, some (zi x)] (st) M = eb_E L d 125 6 [v0, v1, some (zi x)] (zi x :: st) M := eb_E_s hk125 rfl
theorem e125_6  : eb_E L d 125 6 ls (st) M = eb_E L d 125 7 ls (zi 0 :: st) M := eb_E_s hk125 rfl
theorem e125_7  : eb_E L d 125 7 ls (st) M = eb_E L d 125 8 ls (zi 4 :: st) M := eb_E_s hk125 rfl
theorem e125_8  : eb_E L d 125 8 ls ([a2, a1, a0]) M = (eb_ev L d 127 [a0, a1, a2] M).bind (fun q => eb_E L d 125 11 ls [q.1] q.2) := eb_E_c hk125 rfl
theorem e125_11 {x : Int32} : eb_E L d 125 11 ls (zi x :: st) M = if x = 0 then eb_E L d 125 24 ls st M else eb_E L d 125 14 ls st M := eb_E_b hk125 rfl
theorem e125_14 {x : Option eb_A} : eb_E L d 125 14 [some (Sum.inr x), v1, v2] (st) M = eb_E L d 125 15 [some (Sum.inr x), v1, v2] (Sum.inr x :: st) M := eb_E_s hk125 rfl
theorem e125_15  : eb_E L d 125 15 ls (Sum.inr (some a) :: st) (nc, ns, I, J, R) = if (eb_ty L a.1).1 = 5 then eb_E L d 125 18 ls (Sum.inr (R a 6) :: st) (nc, ns, I, J, R) else none := eb_E_iy hk125 rfl
theorem e125_18 {x : Int32} : eb_E L d 125 18 [v0, v1, some (zi x)] (st) M = eb_E L d 125 19 [v0, v1, some (zi x)] (zi x :: st) M := eb_E_s hk125 rfl
theorem e125_19 {x : Option eb_A} {y : Int32} : eb_E L d 125 19 ls (zi y :: Sum.inr x :: st) M = eb_E L d 125 20 ls (zi y :: Sum.inr x :: zi y :: Sum.inr x :: st) M := eb_E_s hk125 rfl
theorem e125_20 {x : Int32} : eb_E L d 125 20 ls (zi x :: Sum.inr (some a) :: st) (nc, ns, I, J, R) = if (eb_ty L a.1).1 = 10 ∧ eb_in x (eb_ty L a.1).2 = true then eb_E L d 125 21 ls (zi (I a x.toNatClampNeg) :: st) (nc, ns, I, J, R) else none := eb_E_iy hk125 rfl
theorem e125_21  : eb_E L d 125 21 ls (st) M = eb_E L d 125 22 ls (zi 1 :: st) M := eb_E_s hk125 rfl
theorem e125_22 {x : Int32} {y : Int32} : eb_E L d 125 22 ls (zi y :: zi x :: st) M = eb_E L d 125 23 ls (zi (x + y) :: st) M := eb_E_s hk125 rfl
theorem e125_23 {x : Int32} {v : Int32} : eb_E L d 125 23 ls (zi v :: zi x :: Sum.inr (some a) :: st) (nc, ns, I, J, R) = if (eb_ty L a.1).1 = 10 ∧ eb_in x (eb_ty L a.1).2 = true then eb_E L d 125 24 ls (st) (nc, ns, eb_u I a x.toNatClampNeg v, J, R) else none := eb_E_iy hk125 rfl
theorem e125_24 {x : Int32} : eb_E L d 125 24 [v0, some (zi x), v2] (st) M = eb_E L d 125 25 [v0, some (zi x), v2] (zi x :: st) M := eb_E_s hk125 rfl
theorem e125_25 {x : Int32} : eb_E L d 125 25 ls ([zi x]) M = some (zi x, M) := eb_E_r hk125 rfl
/-! X5_refuseBelowZero -/
theorem hk126 : eb_cd L 126 = eb_look (kt126 L) := rfl
theorem h126 (ha : (eb_ty L a.1).1 = 5) {x1 : Int32} : eb_ev L (d + 1) 126 [zr a, zi x1] M = eb_E L d 126 0 [some (zr a), some (zi x1)] [] M := eb_ev_s rfl (eb_chk_i ha rfl)
theorem e126_0  : eb_E L d 126 0 ls (st) M = eb_E L d 126 3 ls (zi (-1000000) :: st) M := eb_E_s hk126 rfl
theorem e126_3 {x : Option eb_A} : eb_E L d 126 3 [some (Sum.inr x), v1] (st) M = eb_E L d 126 4 [some (Sum.inr x), v1] (Sum.inr x :: st) M := eb_E_s hk126 rfl
theorem e126_4 {x : Int32} : eb_E L d 126 4 [v0, some (zi x)] (st) M = eb_E L d 126 5 [v0, some (zi x)] (zi x :: st) M := eb_E_s hk126 rfl
theorem e126_5 {s0 : Int32} : eb_E L d 126 5 ls ([a1, a0, zi s0]) M = (eb_ev L d 125 [a0, a1] M).bind (fun q => eb_E L d 126 8 ls [q.1, zi s0] q.2) := eb_E_c hk126 rfl
theorem e126_8 {x : Int32} {y : Int32} : eb_E L d 126 8 ls (zi y :: zi x :: st) M = eb_E L d 126 9 ls (zi (x + y) :: st) M := eb_E_s hk126 rfl
theorem e126_9 {x : Int32} : eb_E L d 126 9 ls ([zi x]) M = some (zi x, M) := eb_E_r hk126 rfl
/-! X5_within -/
theorem hk127 : eb_cd L 127 = eb_look (kt127 L) := rfl
theorem h127 {x0 : Int32} {x1 : Int32} {x2 : Int32} : eb_ev L (d + 1) 127 [zi x0, zi x1, zi x2] M = eb_E L d 127 0 [some (zi x0), some (zi x1), some (zi x2)] [] M := eb_ev_s rfl rfl
theorem e127_0 {x : Int32} : eb_E L d 127 0 [some (zi x), v1, v2] (st) M = eb_E L d 127 1 [some (zi x), v1, v2] (zi x :: st) M := eb_E_s hk127 rfl
theorem e127_1 {x : Int32} : eb_E L d 127 1 [v0, some (zi x), v2] (st) M = eb_E L d 127 2 [v0, some (zi x), v2] (zi x :: st) M := eb_E_s hk127 rfl
theorem e127_2 {x : Int32} {y : Int32} : eb_E L d 127 2 ls (zi y :: zi x :: st) M = if x < y then eb_E L d 127 14 ls st M else eb_E L d 127 5 ls st M := eb_E_b hk127 rfl
theorem e127_5 {x : Int32} : eb_E L d 127 5 [some (zi x), v1, v2] (st) M = eb_E L d 127 6 [some (zi x), v1, v2] (zi x :: st) M := eb_E_s hk127 rfl
theorem e127_6 {x : Int32} : eb_E L d 127 6 [v0, v1, some (zi x)] (st) M = eb_E L d 127 7 [v0, v1, some (zi x)] (zi x :: st) M := eb_E_s hk127 rfl
theorem e127_7 {x : Int32} {y : Int32} : eb_E L d 127 7 ls (zi y :: zi x :: st) M = if y < x then eb_E L d 127 14 ls st M else eb_E L d 127 10 ls st M := eb_E_b hk127 rfl
theorem e127_10  : eb_E L d 127 10 ls (st) M = eb_E L d 127 11 ls (zi 1 :: st) M := eb_E_s hk127 rfl
theorem e127_11  : eb_E L d 127 11 ls (st) M = eb_E L d 127 15 ls (st) M := eb_E_s hk127 rfl
theorem e127_14  : eb_E L d 127 14 ls (st) M = eb_E L d 127 15 ls (zi 0 :: st) M := eb_E_s hk127 rfl
theorem e127_15 {x : Int32} : eb_E L d 127 15 ls ([zi x]) M = if x = 0 ∨ x = 1 then some (zi x, M) else none := eb_E_ri hk127 rfl
/-! X5_isShelf -/
theorem hk128 : eb_cd L 128 = eb_look (kt128 L) := rfl
theorem h128 {x0 : Int32} : eb_ev L (d + 1) 128 [zi x0] M = eb_E L d 128 0 [some (zi x0)] [] M := eb_ev_s rfl rfl
theorem e128_0 {x : Int32} : eb_E L d 128 0 [some (zi x)] (st) M = eb_E L d 128 1 [some (zi x)] (zi x :: st) M := eb_E_s hk128 rfl
theorem e128_1  : eb_E L d 128 1 ls (st) M = eb_E L d 128 2 ls (zi 0 :: st) M := eb_E_s hk128 rfl
theorem e128_2  : eb_E L d 128 2 ls (st) M = eb_E L d 128 4 ls (zi 7 :: st) M := eb_E_s hk128 rfl
theorem e128_4  : eb_E L d 128 4 ls ([a2, a1, a0]) M = (eb_ev L d 127 [a0, a1, a2] M).bind (fun q => eb_E L d 128 7 ls [q.1] q.2) := eb_E_c hk128 rfl
theorem e128_7 {x : Int32} : eb_E L d 128 7 ls ([zi x]) M = if x = 0 ∨ x = 1 then some (zi x, M) else none := eb_E_ri hk128 rfl
/-! X5_isGood -/
theorem hk129 : eb_cd L 129 = eb_look (kt129 L) := rfl
theorem h129 {x0 : Int32} : eb_ev L (d + 1) 129 [zi x0] M = eb_E L d 129 0 [some (zi x0)] [] M := eb_ev_s rfl rfl
theorem e129_0 {x : Int32} : eb_E L d 129 0 [some (zi x)] (st) M = eb_E L d 129 1 [some (zi x)] (zi x :: st) M := eb_E_s hk129 rfl
theorem e129_1  : eb_E L d 129 1 ls (st) M = eb_E L d 129 2 ls (zi 0 :: st) M := eb_E_s hk129 rfl
theorem e129_2  : eb_E L d 129 2 ls (st) M = eb_E L d 129 4 ls (zi 100 :: st) M := eb_E_s hk129 rfl
theorem e129_4  : eb_E L d 129 4 ls ([a2, a1, a0]) M = (eb_ev L d 127 [a0, a1, a2] M).bind (fun q => eb_E L d 129 7 ls [q.1] q.2) := eb_E_c hk129 rfl
theorem e129_7 {x : Int32} : eb_E L d 129 7 ls ([zi x]) M = if x = 0 ∨ x = 1 then some (zi x, M) else none := eb_E_ri hk129 rfl
/-! X5_isSpan -/
theorem hk130 : eb_cd L 130 = eb_look (kt130 L) := rfl
theorem h130 {x0 : Int32} : eb_ev L (d + 1) 130 [zi x0] M = eb_E L d 130 0 [some (zi x0)] [] M := eb_ev_s rfl rfl
theorem e130_0 {x : Int32} : eb_E L d 130 0 [some (zi x)] (st) M = eb_E L d 130 1 [some (zi x)] (zi x :: st) M := eb_E_s hk130 rfl
theorem e130_1  : eb_E L d 130 1 ls (st) M = eb_E L d 130 2 ls (zi 1 :: st) M := eb_E_s hk130 rfl
theorem e130_2  : eb_E L d 130 2 ls (st) M = eb_E L d 130 4 ls (zi 12 :: st) M := eb_E_s hk130 rfl
theorem e130_4  : eb_E L d 130 4 ls ([a2, a1, a0]) M = (eb_ev L d 127 [a0, a1, a2] M).bind (fun q => eb_E L d 130 7 ls [q.1] q.2) := eb_E_c hk130 rfl
theorem e130_7 {x : Int32} : eb_E L d 130 7 ls ([zi x]) M = if x = 0 ∨ x = 1 then some (zi x, M) else none := eb_E_ri hk130 rfl
/-! X5_isInn -/
theorem hk131 : eb_cd L 131 = eb_look (kt131 L) := rfl
theorem h131 (ha : (eb_ty L a.1).1 = 5) {x1 : Int32} : eb_ev L (d + 1) 131 [zr a, zi x1] M = eb_E L d 131 0 [some (zr a), some (zi x1)] [] M := eb_ev_s rfl (eb_chk_i ha rfl)
theorem e131_0 {x : Int32} : eb_E L d 131 0 [v0, some (zi x)] (st) M = eb_E L d 131 1 [v0, some (zi x)] (zi x :: st) M := eb_E_s hk131 rfl
theorem e131_1  : eb_E L d 131 1 ls (st) M = eb_E L d 131 2 ls (zi 0 :: st) M := eb_E_s hk131 rfl
theorem e131_2 {x : Option eb_A} : eb_E L d 131 2 [some (Sum.inr x), v1] (st) M = eb_E L d 131 3 [some (Sum.inr x), v1] (Sum.inr x :: st) M := eb_E_s hk131 rfl
theorem e131_3  : eb_E L d 131 3 ls (Sum.inr (some a) :: st) (nc, ns, I, J, R) = if (eb_ty L a.1).1 = 5 then eb_E L d 131 6 ls (Sum.inr (R a 0) :: st) (nc, ns, I, J, R) else none := eb_E_iy hk131 rfl
theorem e131_6  : eb_E L d 131 6 ls (Sum.inr (some a) :: st) (nc, ns, I, J, R) = if (eb_ty L a.1).1 = 4 then eb_E L d 131 9 ls (zi (I a 2) :: st) (nc, ns, I, J, R) else none := eb_E_iy hk131 rfl
theorem e131_9  : eb_E L d 131 9 ls (st) M = eb_E L d 131 10 ls (zi 1 :: st) M := eb_E_s hk131 rfl
theorem e131_10 {x : Int32} {y : Int32} : eb_E L d 131 10 ls (zi y :: zi x :: st) M = eb_E L d 131 11 ls (zi (x - y) :: st) M := eb_E_s hk131 rfl
theorem e131_11  : eb_E L d 131 11 ls ([a2, a1, a0]) M = (eb_ev L d 127 [a0, a1, a2] M).bind (fun q => eb_E L d 131 14 ls [q.1] q.2) := eb_E_c hk131 rfl
theorem e131_14 {x : Int32} : eb_E L d 131 14 ls ([zi x]) M = if x = 0 ∨ x = 1 then some (zi x, M) else none := eb_E_ri hk131 rfl
/-! X5_isGoer -/
theorem hk132 : eb_cd L 132 = eb_look (kt132 L) := rfl
theorem h132 (ha : (eb_ty L a.1).1 = 5) {x1 : Int32} : eb_ev L (d + 1) 132 [zr a, zi x1] M = eb_E L d 132 0 [some (zr a), some (zi x1)] [] M := eb_ev_s rfl (eb_chk_i ha rfl)
theorem e132_0 {x : Int32} : eb_E L d 132 0 [v0, some (zi x)] (st) M = eb_E L d 132 1 [v0, some (zi x)] (zi x :: st) M := eb_E_s hk132 rfl
theorem e132_1  : eb_E L d 132 1 ls (st) M = eb_E L d 132 2 ls (zi 0 :: st) M := eb_E_s hk132 rfl
theorem e132_2 {x : Option eb_A} : eb_E L d 132 2 [some (Sum.inr x), v1] (st) M = eb_E L d 132 3 [some (Sum.inr x), v1] (Sum.inr x :: st) M := eb_E_s hk132 rfl
theorem e132_3  : eb_E L d 132 3 ls (Sum.inr (some a) :: st) (nc, ns, I, J, R) = if (eb_ty L a.1).1 = 5 then eb_E L d 132 6 ls (Sum.inr (R a 0) :: st) (nc, ns, I, J, R) else none := eb_E_iy hk132 rfl
theorem e132_6  : eb_E L d 132 6 ls (Sum.inr (some a) :: st) (nc, ns, I, J, R) = if (eb_ty L a.1).1 = 4 then eb_E L d 132 9 ls (zi (I a 3) :: st) (nc, ns, I, J, R) else none := eb_E_iy hk132 rfl
theorem e132_9  : eb_E L d 132 9 ls (st) M = eb_E L d 132 10 ls (zi 1 :: st) M := eb_E_s hk132 rfl
theorem e132_10 {x : Int32} {y : Int32} : eb_E L d 132 10 ls (zi y :: zi x :: st) M = eb_E L d 132 11 ls (zi (x - y) :: st) M := eb_E_s hk132 rfl
theorem e132_11  : eb_E L d 132 11 ls ([a2, a1, a0]) M = (eb_ev L d 127 [a0, a1, a2] M).bind (fun q => eb_E L d 132 14 ls [q.1] q.2) := eb_E_c hk132 rfl
theorem e132_14 {x : Int32} : eb_E L d 132 14 ls ([zi x]) M = if x = 0 ∨ x = 1 then some (zi x, M) else none := eb_E_ri hk132 rfl
/-! X5_isGoerOrNone -/
theorem hk133 : eb_cd L 133 = eb_look (kt133 L) := rfl
theorem h133 (ha : (eb_ty L a.1).1 = 5) {x1 : Int32} : eb_ev L (d + 1) 133 [zr a, zi x1] M = eb_E L d 133 0 [some (zr a), some (zi x1)] [] M := eb_ev_s rfl (eb_chk_i ha rfl)
theorem e133_0 {x : Int32} : eb_E L d 133 0 [v0, some (zi x)] (st) M = eb_E L d 133 1 [v0, some (zi x)] (zi x :: st) M := eb_E_s hk133 rfl
theorem e133_1  : eb_E L d 133 1 ls (st) M = eb_E L d 133 2 ls (zi (-1) :: st) M := eb_E_s hk133 rfl
theorem e133_2 {x : Int32} {y : Int32} : eb_E L d 133 2 ls (zi y :: zi x :: st) M = if x = y then eb_E L d 133 13 ls st M else eb_E L d 133 5 ls st M := eb_E_b hk133 rfl
theorem e133_5 {x : Option eb_A} : eb_E L d 133 5 [some (Sum.inr x), v1] (st) M = eb_E L d 133 6 [some (Sum.inr x), v1] (Sum.inr x :: st) M := eb_E_s hk133 rfl
theorem e133_6 {x : Int32} : eb_E L d 133 6 [v0, some (zi x)] (st) M = eb_E L d 133 7 [v0, some (zi x)] (zi x :: st) M := eb_E_s hk133 rfl
theorem e133_7  : eb_E L d 133 7 ls ([a1, a0]) M = (eb_ev L d 132 [a0, a1] M).bind (fun q => eb_E L d 133 10 ls [q.1] q.2) := eb_E_c hk133 rfl
theorem e133_10 {x : Int32} : eb_E L d 133 10 ls (zi x :: st) M = if x = 0 then eb_E L d 133 17 ls st M else eb_E L d 133 13 ls st M := eb_E_b hk133 rfl
theorem e133_13  : eb_E L d 133 13 ls (st) M = eb_E L d 133 14 ls (zi 1 :: st) M := eb_E_s hk133 rfl
theorem e133_14  : eb_E L d 133 14 ls (st) M = eb_E L d 133 18 ls (st) M := eb_E_s hk133 rfl
theorem e133_17  : eb_E L d 133 17 ls (st) M = eb_E L d 133 18 ls (zi 0 :: st) M := eb_E_s hk133 rfl
theorem e133_18 {x : Int32} : eb_E L d 133 18 ls ([zi x]) M = if x = 0 ∨ x = 1 then some (zi x, M) else none := eb_E_ri hk133 rfl
/-! X5_isSet -/
theorem hk134 : eb_cd L 134 = eb_look (kt134 L) := rfl
theorem h134 (ha : (eb_ty L a.1).1 = 5) {x1 : Int32} : eb_ev L (d + 1) 134 [zr a, zi x1] M = eb_E L d 134 0 [some (zr a), some (zi x1)] [] M := eb_ev_s rfl (eb_chk_i ha rfl)
theorem e134_0 {x : Int32} : eb_E L d 134 0 [v0, some (zi x)] (st) M = eb_E L d 134 1 [v0, some (zi x)] (zi x :: st) M := eb_E_s hk134 rfl
theorem e134_1  : eb_E L d 134 1 ls (st) M = eb_E L d 134 2 ls (zi 0 :: st) M := eb_E_s hk134 rfl
theorem e134_2  : eb_E L d 134 2 ls (st) M = eb_E L d 134 3 ls (zi 1 :: st) M := eb_E_s hk134 rfl
theorem e134_3 {x : Option eb_A} : eb_E L d 134 3 [some (Sum.inr x), v1] (st) M = eb_E L d 134 4 [some (Sum.inr x), v1] (Sum.inr x :: st) M := eb_E_s hk134 rfl
theorem e134_4  : eb_E L d 134 4 ls (Sum.inr (some a) :: st) (nc, ns, I, J, R) = if (eb_ty L a.1).1 = 5 then eb_E L d 134 7 ls (Sum.inr (R a 0) :: st) (nc, ns, I, J, R) else none := eb_E_iy hk134 rfl
theorem e134_7  : eb_E L d 134 7 ls (Sum.inr (some a) :: st) (nc, ns, I, J, R) = if (eb_ty L a.1).1 = 4 then eb_E L d 134 10 ls (zi (I a 2) :: st) (nc, ns, I, J, R) else none := eb_E_iy hk134 rfl
theorem e134_10 {x : Int32} {y : Int32} : eb_E L d 134 10 ls (zi y :: zi x :: st) M = eb_E L d 134 11 ls (zi (x <<< (y &&& 31)) :: st) M := eb_E_s hk134 rfl
theorem e134_11  : eb_E L d 134 11 ls (st) M = eb_E L d 134 12 ls (zi 1 :: st) M := eb_E_s hk134 rfl
theorem e134_12 {x : Int32} {y : Int32} : eb_E L d 134 12 ls (zi y :: zi x :: st) M = eb_E L d 134 13 ls (zi (x - y) :: st) M := eb_E_s hk134 rfl
theorem e134_13  : eb_E L d 134 13 ls ([a2, a1, a0]) M = (eb_ev L d 127 [a0, a1, a2] M).bind (fun q => eb_E L d 134 16 ls [q.1] q.2) := eb_E_c hk134 rfl
theorem e134_16 {x : Int32} : eb_E L d 134 16 ls ([zi x]) M = if x = 0 ∨ x = 1 then some (zi x, M) else none := eb_E_ri hk134 rfl
/-! X5_rowFault -/
theorem hk135 : eb_cd L 135 = eb_look (kt135 L) := rfl
theorem h135 (ha : (eb_ty L a.1).1 = 5) {x1 : Int32} : eb_ev L (d + 1) 135 [zr a, zi x1] M = eb_E L d 135 0 [some (zr a), some (zi x1)] [] M := eb_ev_s rfl (eb_chk_i ha rfl)
theorem e135_0 {x : Int32} : eb_E L d 135 0 [v0, some (zi x)] (st) M = eb_E L d 135 1 [v0, some (zi x)] (zi x :: st) M := eb_E_s hk135 rfl
theorem e135_1  : eb_E L d 135 1 ls ([a0]) M = (eb_ev L d 128 [a0] M).bind (fun q => eb_E L d 135 4 ls [q.1] q.2) := eb_E_c hk135 rfl
theorem e135_4 {x : Int32} : eb_E L d 135 4 ls (zi x :: st) M = if x = 0 then eb_E L d 135 7 ls st M else eb_E L d 135 10 ls st M := eb_E_b hk135 rfl
theorem e135_7  : eb_E L d 135 7 ls (st) M = eb_E L d 135 9 ls (zi (-2) :: st) M := eb_E_s hk135 rfl
theorem e135_9 {x : Int32} : eb_E L d 135 9 ls ([zi x]) M = some (zi x, M) := eb_E_r hk135 rfl
theorem e135_10 {x : Option eb_A} : eb_E L d 135 10 [some (Sum.inr x), v1] (st) M = eb_E L d 135 11 [some (Sum.inr x), v1] (Sum.inr x :: st) M := eb_E_s hk135 rfl
theorem e135_11  : eb_E L d 135 11 ls (Sum.inr (some a) :: st) (nc, ns, I, J, R) = if (eb_ty L a.1).1 = 5 then eb_E L d 135 14 ls (Sum.inr (R a 4) :: st) (nc, ns, I, J, R) else none := eb_E_iy hk135 rfl
theorem e135_14 {x : Int32} : eb_E L d 135 14 [v0, some (zi x)] (st) M = eb_E L d 135 15 [v0, some (zi x)] (zi x :: st) M := eb_E_s hk135 rfl
theorem e135_15 {x : Int32} : eb_E L d 135 15 ls (zi x :: Sum.inr (some a) :: st) (nc, ns, I, J, R) = if (12 ≤ (eb_ty L a.1).1 ∧ (eb_ty L a.1).1 ≤ 16) ∧ eb_in x (eb_ty L a.1).2 = true then eb_E L d 135 16 ls (Sum.inr (R a x.toNatClampNeg) :: st) (nc, ns, I, J, R) else none := eb_E_iy hk135 rfl
theorem e135_16  : eb_E L d 135 16 ls ([a0]) M = (eb_ev L d 18 [a0] M).bind (fun q => eb_E L d 135 19 ls [q.1] q.2) := eb_E_c hk135 rfl
theorem e135_19 {x : Int32} : eb_E L d 135 19 ls (zi x :: st) M = if x = 0 then eb_E L d 135 25 ls st M else eb_E L d 135 22 ls st M := eb_E_b hk135 rfl
theorem e135_22  : eb_E L d 135 22 ls (st) M = eb_E L d 135 24 ls (zi (-3) :: st) M := eb_E_s hk135 rfl
theorem e135_24 {x : Int32} : eb_E L d 135 24 ls ([zi x]) M = some (zi x, M) := eb_E_r hk135 rfl
theorem e135_25 {x : Option eb_A} : eb_E L d 135 25 [some (Sum.inr x), v1] (st) M = eb_E L d 135 26 [some (Sum.inr x), v1] (Sum.inr x :: st) M := eb_E_s hk135 rfl
theorem e135_26  : eb_E L d 135 26 ls (Sum.inr (some a) :: st) (nc, ns, I, J, R) = if (eb_ty L a.1).1 = 5 then eb_E L d 135 29 ls (Sum.inr (R a 4) :: st) (nc, ns, I, J, R) else none := eb_E_iy hk135 rfl
theorem e135_29 {x : Int32} : eb_E L d 135 29 [v0, some (zi x)] (st) M = eb_E L d 135 30 [v0, some (zi x)] (zi x :: st) M := eb_E_s hk135 rfl
theorem e135_30 {x : Int32} : eb_E L d 135 30 ls (zi x :: Sum.inr (some a) :: st) (nc, ns, I, J, R) = if (12 ≤ (eb_ty L a.1).1 ∧ (eb_ty L a.1).1 ≤ 16) ∧ eb_in x (eb_ty L a.1).2 = true then eb_E L d 135 31 ls (Sum.inr (R a x.toNatClampNeg) :: st) (nc, ns, I, J, R) else none := eb_E_iy hk135 rfl
theorem e135_31  : eb_E L d 135 31 ls ([a0]) M = (eb_ev L d 17 [a0] M).bind (fun q => eb_E L d 135 34 ls [q.1] q.2) := eb_E_c hk135 rfl
theorem e135_34 {x : Int32} : eb_E L d 135 34 ls (zi x :: st) M = if x = 0 then eb_E L d 135 41 ls st M else eb_E L d 135 37 ls st M := eb_E_b hk135 rfl
theorem e135_37  : eb_E L d 135 37 ls (st) M = eb_E L d 135 38 ls (zi 0 :: st) M := eb_E_s hk135 rfl
theorem e135_38  : eb_E L d 135 38 ls (st) M = eb_E L d 135 43 ls (st) M := eb_E_s hk135 rfl
theorem e135_41  : eb_E L d 135 41 ls (st) M = eb_E L d 135 43 ls (zi (-4) :: st) M := eb_E_s hk135 rfl
theorem e135_43 {x : Int32} : eb_E L d 135 43 ls ([zi x]) M = some (zi x, M) := eb_E_r hk135 rfl
/-! X5_shelvesInUse -/
theorem hk136 : eb_cd L 136 = eb_look (kt136 L) := rfl
theorem h136 (ha : (eb_ty L a.1).1 = 5) : eb_ev L (d + 1) 136 [zr a] M = eb_E L d 136 0 [some (zr a), none, none] [] M := eb_ev_s rfl (eb_chk_i ha rfl)
theorem e136_0  : eb_E L d 136 0 ls (st) M = eb_E L d 136 1 ls (zi 0 :: st) M := eb_E_s hk136 rfl
theorem e136_1 {x : Int32} : eb_E L d 136 1 [v0, v1, v2] (zi x :: st) M = eb_E L d 136 2 [v0, some (zi x), v2] (st) M := eb_E_s hk136 rfl
theorem e136_2  : eb_E L d 136 2 ls (st) M = eb_E L d 136 3 ls (zi 0 :: st) M := eb_E_s hk136 rfl
theorem e136_3 {x : Int32} : eb_E L d 136 3 [v0, v1, v2] (zi x :: st) M = eb_E L d 136 4 [v0, v1, some (zi x)] (st) M := eb_E_s hk136 rfl
theorem e136_4 {x : Int32} : eb_E L d 136 4 [v0, v1, some (zi x)] (st) M = eb_E L d 136 5 [v0, v1, some (zi x)] (zi x :: st) M := eb_E_s hk136 rfl
theorem e136_5  : eb_E L d 136 5 ls (st) M = eb_E L d 136 7 ls (zi 8 :: st) M := eb_E_s hk136 rfl
theorem e136_7 {x : Int32} {y : Int32} : eb_E L d 136 7 ls (zi y :: zi x :: st) M = if x < y then eb_E L d 136 10 ls st M else eb_E L d 136 32 ls st M := eb_E_b hk136 rfl
theorem e136_10 {x : Option eb_A} : eb_E L d 136 10 [some (Sum.inr x), v1, v2] (st) M = eb_E L d 136 11 [some (Sum.inr x), v1, v2] (Sum.inr x :: st) M := eb_E_s hk136 rfl
theorem e136_11  : eb_E L d 136 11 ls (Sum.inr (some a) :: st) (nc, ns, I, J, R) = if (eb_ty L a.1).1 = 5 then eb_E L d 136 14 ls (Sum.inr (R a 4) :: st) (nc, ns, I, J, R) else none := eb_E_iy hk136 rfl
theorem e136_14 {x : Int32} : eb_E L d 136 14 [v0, v1, some (zi x)] (st) M = eb_E L d 136 15 [v0, v1, some (zi x)] (zi x :: st) M := eb_E_s hk136 rfl
theorem e136_15 {x : Int32} : eb_E L d 136 15 ls (zi x :: Sum.inr (some a) :: st) (nc, ns, I, J, R) = if (12 ≤ (eb_ty L a.1).1 ∧ (eb_ty L a.1).1 ≤ 16) ∧ eb_in x (eb_ty L a.1).2 = true then eb_E L d 136 16 ls (Sum.inr (R a x.toNatClampNeg) :: st) (nc, ns, I, J, R) else none := eb_E_iy hk136 rfl
theorem e136_16  : eb_E L d 136 16 ls (Sum.inr (some a) :: st) (nc, ns, I, J, R) = if (eb_ty L a.1).1 = 2 then eb_E L d 136 19 ls (zi (I a 0) :: st) (nc, ns, I, J, R) else none := eb_E_iy hk136 rfl
theorem e136_19  : eb_E L d 136 19 ls (st) M = eb_E L d 136 20 ls (zi (-1) :: st) M := eb_E_s hk136 rfl
theorem e136_20 {x : Int32} {y : Int32} : eb_E L d 136 20 ls (zi y :: zi x :: st) M = if x = y then eb_E L d 136 26 ls st M else eb_E L d 136 23 ls st M := eb_E_b hk136 rfl
theorem e136_23 {x : Int32} : eb_E L d 136 23 [v0, some (zi x), v2] (st) M = eb_E L d 136 26 [v0, some (zi (x + 1)), v2] (st) M := eb_E_s hk136 rfl
theorem e136_26 {x : Int32} : eb_E L d 136 26 [v0, v1, some (zi x)] (st) M = eb_E L d 136 29 [v0, v1, some (zi (x + 1))] (st) M := eb_E_s hk136 rfl
theorem e136_29  : eb_E L d 136 29 ls (st) M = eb_E L d 136 4 ls (st) M := eb_E_s hk136 rfl
theorem e136_32 {x : Int32} : eb_E L d 136 32 [v0, some (zi x), v2] (st) M = eb_E L d 136 33 [v0, some (zi x), v2] (zi x :: st) M := eb_E_s hk136 rfl
theorem e136_33 {x : Int32} : eb_E L d 136 33 ls ([zi x]) M = some (zi x, M) := eb_E_r hk136 rfl
/-! X5_tonight -/
theorem hk137 : eb_cd L 137 = eb_look (kt137 L) := rfl
theorem h137 (ha : (eb_ty L a.1).1 = 5) : eb_ev L (d + 1) 137 [zr a] M = eb_E L d 137 0 [some (zr a)] [] M := eb_ev_s rfl (eb_chk_i ha rfl)
theorem e137_0 {x : Option eb_A} : eb_E L d 137 0 [some (Sum.inr x)] (st) M = eb_E L d 137 1 [some (Sum.inr x)] (Sum.inr x :: st) M := eb_E_s hk137 rfl
theorem e137_1  : eb_E L d 137 1 ls (Sum.inr (some a) :: st) (nc, ns, I, J, R) = if (eb_ty L a.1).1 = 5 then eb_E L d 137 4 ls (Sum.inr (R a 0) :: st) (nc, ns, I, J, R) else none := eb_E_iy hk137 rfl
theorem e137_4  : eb_E L d 137 4 ls ([a0]) M = (eb_ev L d 50 [a0] M).bind (fun q => eb_E L d 137 7 ls [] q.2) := eb_E_c hk137 rfl
theorem e137_7 {x : Option eb_A} : eb_E L d 137 7 [some (Sum.inr x)] (st) M = eb_E L d 137 8 [some (Sum.inr x)] (Sum.inr x :: st) M := eb_E_s hk137 rfl
theorem e137_8  : eb_E L d 137 8 ls (Sum.inr (some a) :: st) (nc, ns, I, J, R) = if (eb_ty L a.1).1 = 5 then eb_E L d 137 11 ls (Sum.inr (R a 0) :: st) (nc, ns, I, J, R) else none := eb_E_iy hk137 rfl
theorem e137_11 {x : Option eb_A} : eb_E L d 137 11 ls ([Sum.inr x]) M = some (Sum.inr x, M) := eb_E_r hk137 rfl
/-! X5_think -/
theorem hk138 : eb_cd L 138 = eb_look (kt138 L) := rfl
theorem h138 (ha : (eb_ty L a.1).1 = 5) : eb_ev L (d + 1) 138 [zr a] M = eb_E L d 138 0 [some (zr a)] [] M := eb_ev_s rfl (eb_chk_i ha rfl)
theorem e138_0 {x : Option eb_A} : eb_E L d 138 0 [some (Sum.inr x)] (st) M = eb_E L d 138 1 [some (Sum.inr x)] (Sum.inr x :: st) M := eb_E_s hk138 rfl
theorem e138_1  : eb_E L d 138 1 ls (Sum.inr (some a) :: st) (nc, ns, I, J, R) = if (eb_ty L a.1).1 = 5 then eb_E L d 138 4 ls (Sum.inr (R a 1) :: st) (nc, ns, I, J, R) else none := eb_E_iy hk138 rfl
theorem e138_4 {x : Option eb_A} : eb_E L d 138 4 [some (Sum.inr x)] (st) M = eb_E L d 138 5 [some (Sum.inr x)] (Sum.inr x :: st) M := eb_E_s hk138 rfl
theorem e138_5  : eb_E L d 138 5 ls (Sum.inr (some a) :: st) (nc, ns, I, J, R) = if (eb_ty L a.1).1 = 5 then eb_E L d 138 8 ls (Sum.inr (R a 0) :: st) (nc, ns, I, J, R) else none := eb_E_iy hk138 rfl
theorem e138_8  : eb_E L d 138 8 ls ([a1, a0]) M = (eb_ev L d 39 [a0, a1] M).bind (fun q => eb_E L d 138 11 ls [] q.2) := eb_E_c hk138 rfl
theorem e138_11 {x : Option eb_A} : eb_E L d 138 11 [some (Sum.inr x)] (st) M = eb_E L d 138 12 [some (Sum.inr x)] (Sum.inr x :: st) M := eb_E_s hk138 rfl
theorem e138_12  : eb_E L d 138 12 ls (Sum.inr (some a) :: st) (nc, ns, I, J, R) = if (eb_ty L a.1).1 = 5 then eb_E L d 138 15 ls (Sum.inr (R a 1) :: st) (nc, ns, I, J, R) else none := eb_E_iy hk138 rfl
theorem e138_15 {x : Option eb_A} : eb_E L d 138 15 ls ([Sum.inr x]) M = some (Sum.inr x, M) := eb_E_r hk138 rfl
/-! X5_joyIfWritten -/
theorem hk139 : eb_cd L 139 = eb_look (kt139 L) := rfl
theorem h139 (ha : (eb_ty L a.1).1 = 5) {x1 : Int32} {x2 : Int32} : eb_ev L (d + 1) 139 [zr a, zi x1, zi x2] M = eb_E L d 139 0 [some (zr a), some (zi x1), some (zi x2)] [] M := eb_ev_s rfl (eb_chk_i ha rfl)
theorem e139_0 {x : Option eb_A} : eb_E L d 139 0 [some (Sum.inr x), v1, v2] (st) M = eb_E L d 139 1 [some (Sum.inr x), v1, v2] (Sum.inr x :: st) M := eb_E_s hk139 rfl
theorem e139_1  : eb_E L d 139 1 ls ([a0]) M = (eb_ev L d 138 [a0] M).bind (fun q => eb_E L d 139 4 ls [q.1] q.2) := eb_E_c hk139 rfl
theorem e139_4 {x : Int32} : eb_E L d 139 4 [v0, v1, some (zi x)] (st) M = eb_E L d 139 5 [v0, v1, some (zi x)] (zi x :: st) M := eb_E_s hk139 rfl
theorem e139_5  : eb_E L d 139 5 ls ([a1, a0]) M = (eb_ev L d 42 [a0, a1] M).bind (fun q => eb_E L d 139 8 ls [q.1] q.2) := eb_E_c hk139 rfl
theorem e139_8a {x : Int32} : eb_E L d 139 8 ls (zi x :: st) M = eb_E L d 139 9 ls (st) M := eb_E_s hk139 rfl
theorem e139_8b {x : Option eb_A} : eb_E L d 139 8 ls (Sum.inr x :: st) M = eb_E L d 139 9 ls (st) M := eb_E_s hk139 rfl
theorem e139_9 {x : Option eb_A} : eb_E L d 139 9 [some (Sum.inr x), v1, v2] (st) M = eb_E L d 139 10 [some (Sum.inr x), v1, v2] (Sum.inr x :: st) M := eb_E_s hk139 rfl
theorem e139_10  : eb_E L d 139 10 ls (Sum.inr (some a) :: st) (nc, ns, I, J, R) = if (eb_ty L a.1).1 = 5 then eb_E L d 139 13 ls (Sum.inr (R a 1) :: st) (nc, ns, I, J, R) else none := eb_E_iy hk139 rfl
theorem e139_13 {x : Int32} : eb_E L d 139 13 [v0, some (zi x), v2] (st) M = eb_E L d 139 14 [v0, some (zi x), v2] (zi x :: st) M := eb_E_s hk139 rfl
theorem e139_14  : eb_E L d 139 14 ls ([a1, a0]) M = (eb_ev L d 61 [a0, a1] M).bind (fun q => eb_E L d 139 17 ls [q.1] q.2) := eb_E_c hk139 rfl
theorem e139_17 {x : Int32} : eb_E L d 139 17 ls ([zi x]) M = some (zi x, M) := eb_E_r hk139 rfl
/-! X5_bestBook -/
theorem hk140 : eb_cd L 140 = eb_look (kt140 L) := rfl
theorem h140 (ha : (eb_ty L a.1).1 = 5) {x1 : Int32} {x2 : Int32} {x3 : Int32} : eb_ev L (d + 1) 140 [zr a, zi x1, zi x2, zi x3] M = eb_E L d 140 0 [some (zr a), some (zi x1), some (zi x2), some (zi x3), none, none, none, none, none, none, none] [] M := eb_ev_s rfl (eb_chk_i ha rfl)
theorem e140_0  : eb_E L d 140 0 ls (st) M = eb_E L d 140 1 ls (zi 0 :: st) M := eb_E_s hk140 rfl
theorem e140_1 {x : Int32} : eb_E L d 140 1 [v0, v1, v2, v3, v4, v5, v6, v7, v8, v9, v10] (zi x :: st) M = eb_E L d 140 3 [v0, v1, v2, v3, some (zi x), v5, v6, v7, v8, v9, v10] (st) M := eb_E_s hk140 rfl
theorem e140_3 {x : Option eb_A} : eb_E L d 140 3 [some (Sum.inr x), v1, v2, v3, v4, v5, v6, v7, v8, v9, v10] (st) M = eb_E L d 140 4 [some (Sum.inr x), v1, v2, v3, v4, v5, v6, v7, v8, v9, v10] (Sum.inr x :: st) M := eb_E_s hk140 rfl
theorem e140_4 {x : Int32} : eb_E L d 140 4 [v0, some (zi x), v2, v3, v4, v5, v6, v7, v8, v9, v10] (st) M = eb_E L d 140 5 [v0, some (zi x), v2, v3, v4, v5, v6, v7, v8, v9, v10] (zi x :: st) M := eb_E_s hk140 rfl
theorem e140_5  : eb_E L d 140 5 ls (st) M = eb_E L d 140 6 ls (zi 0 :: st) M := eb_E_s hk140 rfl
theorem e140_6  : eb_E L d 140 6 ls ([a2, a1, a0]) M = (eb_ev L d 139 [a0, a1, a2] M).bind (fun q => eb_E L d 140 9 ls [q.1] q.2) := eb_E_c hk140 rfl
theorem e140_9 {x : Int32} : eb_E L d 140 9 [v0, v1, v2, v3, v4, v5, v6, v7, v8, v9, v10] (zi x :: st) M = eb_E L d 140 11 [v0, v1, v2, v3, v4, some (zi x), v6, v7, v8, v9, v10] (st) M := eb_E_s hk140 rfl
theorem e140_11  : eb_E L d 140 11 ls (st) M = eb_E L d 140 12 ls (zi 1 :: st) M := eb_E_s hk140 rfl
theorem e140_12 {x : Option eb_A} : eb_E L d 140 12 [some (Sum.inr x), v1, v2, v3, v4, v5, v6, v7, v8, v9, v10] (st) M = eb_E L d 140 13 [some (Sum.inr x), v1, v2, v3, v4, v5, v6, v7, v8, v9, v10] (Sum.inr x :: st) M := eb_E_s hk140 rfl
theorem e140_13  : eb_E L d 140 13 ls (Sum.inr (some a) :: st) (nc, ns, I, J, R) = if (eb_ty L a.1).1 = 5 then eb_E L d 140 16 ls (Sum.inr (R a 0) :: st) (nc, ns, I, J, R) else none := eb_E_iy hk140 rfl
theorem e140_16  : eb_E L d 140 16 ls (Sum.inr (some a) :: st) (nc, ns, I, J, R) = if (eb_ty L a.1).1 = 4 then eb_E L d 140 19 ls (zi (I a 2) :: st) (nc, ns, I, J, R) else none := eb_E_iy hk140 rfl
theorem e140_19 {x : Int32} {y : Int32} : eb_E L d 140 19 ls (zi y :: zi x :: st) M = eb_E L d 140 20 ls (zi (x <<< (y &&& 31)) :: st) M := eb_E_s hk140 rfl
theorem e140_20 {x : Int32} : eb_E L d 140 20 [v0, v1, v2, v3, v4, v5, v6, v7, v8, v9, v10] (zi x :: st) M = eb_E L d 140 22 [v0, v1, v2, v3, v4, v5, some (zi x), v7, v8, v9, v10] (st) M := eb_E_s hk140 rfl
theorem e140_22  : eb_E L d 140 22 ls (st) M = eb_E L d 140 23 ls (zi 1 :: st) M := eb_E_s hk140 rfl
theorem e140_23 {x : Int32} : eb_E L d 140 23 [v0, v1, v2, v3, v4, v5, v6, v7, v8, v9, v10] (zi x :: st) M = eb_E L d 140 25 [v0, v1, v2, v3, v4, v5, v6, some (zi x), v8, v9, v10] (st) M := eb_E_s hk140 rfl
theorem e140_25 {x : Int32} : eb_E L d 140 25 [v0, v1, v2, v3, v4, v5, v6, some (zi x), v8, v9, v10] (st) M = eb_E L d 140 27 [v0, v1, v2, v3, v4, v5, v6, some (zi x), v8, v9, v10] (zi x :: st) M := eb_E_s hk140 rfl
theorem e140_27 {x : Int32} : eb_E L d 140 27 [v0, v1, v2, v3, v4, v5, some (zi x), v7, v8, v9, v10] (st) M = eb_E L d 140 29 [v0, v1, v2, v3, v4, v5, some (zi x), v7, v8, v9, v10] (zi x :: st) M := eb_E_s hk140 rfl
theorem e140_29 {x : Int32} {y : Int32} : eb_E L d 140 29 ls (zi y :: zi x :: st) M = if x < y then eb_E L d 140 32 ls st M else eb_E L d 140 111 ls st M := eb_E_b hk140 rfl
theorem e140_32 {x : Int32} : eb_E L d 140 32 [v0, v1, v2, v3, v4, v5, v6, some (zi x), v8, v9, v10] (st) M = eb_E L d 140 34 [v0, v1, v2, v3, v4, v5, v6, some (zi x), v8, v9, v10] (zi x :: st) M := eb_E_s hk140 rfl
theorem e140_34  : eb_E L d 140 34 ls ([a0]) M = (eb_ev L d 252 [a0] M).bind (fun q => eb_E L d 140 37 ls [q.1] q.2) := eb_E_c hk140 rfl
theorem e140_37 {x : Int32} : eb_E L d 140 37 [v0, v1, v2, v3, v4, v5, v6, v7, v8, v9, v10] (zi x :: st) M = eb_E L d 140 39 [v0, v1, v2, v3, v4, v5, v6, v7, some (zi x), v9, v10] (st) M := eb_E_s hk140 rfl
theorem e140_39 {x : Int32} : eb_E L d 140 39 [v0, v1, v2, v3, v4, v5, v6, v7, some (zi x), v9, v10] (st) M = eb_E L d 140 41 [v0, v1, v2, v3, v4, v5, v6, v7, some (zi x), v9, v10] (zi x :: st) M := eb_E_s hk140 rfl
theorem e140_41 {x : Int32} : eb_E L d 140 41 [v0, v1, some (zi x), v3, v4, v5, v6, v7, v8, v9, v10] (st) M = eb_E L d 140 42 [v0, v1, some (zi x), v3, v4, v5, v6, v7, v8, v9, v10] (zi x :: st) M := eb_E_s hk140 rfl
theorem e140_42 {x : Int32} {y : Int32} : eb_E L d 140 42 ls (zi y :: zi x :: st) M = if y < x then eb_E L d 140 45 ls st M else eb_E L d 140 48 ls st M := eb_E_b hk140 rfl
theorem e140_45  : eb_E L d 140 45 ls (st) M = eb_E L d 140 105 ls (st) M := eb_E_s hk140 rfl
theorem e140_48 {x : Option eb_A} : eb_E L d 140 48 [some (Sum.inr x), v1, v2, v3, v4, v5, v6, v7, v8, v9, v10] (st) M = eb_E L d 140 49 [some (Sum.inr x), v1, v2, v3, v4, v5, v6, v7, v8, v9, v10] (Sum.inr x :: st) M := eb_E_s hk140 rfl
theorem e140_49 {x : Int32} : eb_E L d 140 49 [v0, some (zi x), v2, v3, v4, v5, v6, v7, v8, v9, v10] (st) M = eb_E L d 140 50 [v0, some (zi x), v2, v3, v4, v5, v6, v7, v8, v9, v10] (zi x :: st) M := eb_E_s hk140 rfl
theorem e140_50 {x : Int32} : eb_E L d 140 50 [v0, v1, v2, v3, v4, v5, v6, some (zi x), v8, v9, v10] (st) M = eb_E L d 140 52 [v0, v1, v2, v3, v4, v5, v6, some (zi x), v8, v9, v10] (zi x :: st) M := eb_E_s hk140 rfl
theorem e140_52  : eb_E L d 140 52 ls ([a2, a1, a0]) M = (eb_ev L d 139 [a0, a1, a2] M).bind (fun q => eb_E L d 140 55 ls [q.1] q.2) := eb_E_c hk140 rfl
theorem e140_55 {x : Int32} : eb_E L d 140 55 [v0, v1, v2, v3, v4, v5, v6, v7, v8, v9, v10] (zi x :: st) M = eb_E L d 140 57 [v0, v1, v2, v3, v4, v5, v6, v7, v8, some (zi x), v10] (st) M := eb_E_s hk140 rfl
theorem e140_57 {x : Int32} : eb_E L d 140 57 [v0, v1, v2, some (zi x), v4, v5, v6, v7, v8, v9, v10] (st) M = eb_E L d 140 58 [v0, v1, v2, some (zi x), v4, v5, v6, v7, v8, v9, v10] (zi x :: st) M := eb_E_s hk140 rfl
theorem e140_58 {x : Int32} : eb_E L d 140 58 ls (zi x :: st) M = if x = 0 then eb_E L d 140 75 ls st M else eb_E L d 140 61 ls st M := eb_E_b hk140 rfl
theorem e140_61 {x : Int32} : eb_E L d 140 61 [v0, v1, v2, v3, v4, v5, v6, v7, some (zi x), v9, v10] (st) M = eb_E L d 140 63 [v0, v1, v2, v3, v4, v5, v6, v7, some (zi x), v9, v10] (zi x :: st) M := eb_E_s hk140 rfl
theorem e140_63 {x : Int32} : eb_E L d 140 63 [v0, v1, v2, v3, some (zi x), v5, v6, v7, v8, v9, v10] (st) M = eb_E L d 140 65 [v0, v1, v2, v3, some (zi x), v5, v6, v7, v8, v9, v10] (zi x :: st) M := eb_E_s hk140 rfl
theorem e140_65 {s0 : Int32} : eb_E L d 140 65 ls ([a0, zi s0]) M = (eb_ev L d 252 [a0] M).bind (fun q => eb_E L d 140 68 ls [q.1, zi s0] q.2) := eb_E_c hk140 rfl
theorem e140_68 {x : Int32} {y : Int32} : eb_E L d 140 68 ls (zi y :: zi x :: st) M = if x < y then eb_E L d 140 71 ls st M else eb_E L d 140 75 ls st M := eb_E_b hk140 rfl
theorem e140_71  : eb_E L d 140 71 ls (st) M = eb_E L d 140 72 ls (zi 1 :: st) M := eb_E_s hk140 rfl
theorem e140_72  : eb_E L d 140 72 ls (st) M = eb_E L d 140 76 ls (st) M := eb_E_s hk140 rfl
theorem e140_75  : eb_E L d 140 75 ls (st) M = eb_E L d 140 76 ls (zi 0 :: st) M := eb_E_s hk140 rfl
theorem e140_76 {x : Int32} : eb_E L d 140 76 [v0, v1, v2, v3, v4, v5, v6, v7, v8, v9, v10] (zi x :: st) M = eb_E L d 140 78 [v0, v1, v2, v3, v4, v5, v6, v7, v8, v9, some (zi x)] (st) M := eb_E_s hk140 rfl
theorem e140_78 {x : Int32} : eb_E L d 140 78 [v0, v1, v2, v3, v4, v5, v6, v7, v8, some (zi x), v10] (st) M = eb_E L d 140 80 [v0, v1, v2, v3, v4, v5, v6, v7, v8, some (zi x), v10] (zi x :: st) M := eb_E_s hk140 rfl
theorem e140_80 {x : Int32} : eb_E L d 140 80 [v0, v1, v2, v3, v4, some (zi x), v6, v7, v8, v9, v10] (st) M = eb_E L d 140 82 [v0, v1, v2, v3, v4, some (zi x), v6, v7, v8, v9, v10] (zi x :: st) M := eb_E_s hk140 rfl
theorem e140_82 {x : Int32} {y : Int32} : eb_E L d 140 82 ls (zi y :: zi x :: st) M = if y < x then eb_E L d 140 97 ls st M else eb_E L d 140 85 ls st M := eb_E_b hk140 rfl
theorem e140_85 {x : Int32} : eb_E L d 140 85 [v0, v1, v2, v3, v4, v5, v6, v7, v8, some (zi x), v10] (st) M = eb_E L d 140 87 [v0, v1, v2, v3, v4, v5, v6, v7, v8, some (zi x), v10] (zi x :: st) M := eb_E_s hk140 rfl
theorem e140_87 {x : Int32} : eb_E L d 140 87 [v0, v1, v2, v3, v4, some (zi x), v6, v7, v8, v9, v10] (st) M = eb_E L d 140 89 [v0, v1, v2, v3, v4, some (zi x), v6, v7, v8, v9, v10] (zi x :: st) M := eb_E_s hk140 rfl
theorem e140_89 {x : Int32} {y : Int32} : eb_E L d 140 89 ls (zi y :: zi x :: st) M = if x = y then eb_E L d 140 92 ls st M else eb_E L d 140 105 ls st M := eb_E_b hk140 rfl
theorem e140_92 {x : Int32} : eb_E L d 140 92 [v0, v1, v2, v3, v4, v5, v6, v7, v8, v9, some (zi x)] (st) M = eb_E L d 140 94 [v0, v1, v2, v3, v4, v5, v6, v7, v8, v9, some (zi x)] (zi x :: st) M := eb_E_s hk140 rfl
theorem e140_94 {x : Int32} : eb_E L d 140 94 ls (zi x :: st) M = if x = 0 then eb_E L d 140 105 ls st M else eb_E L d 140 97 ls st M := eb_E_b hk140 rfl
theorem e140_97 {x : Int32} : eb_E L d 140 97 [v0, v1, v2, v3, v4, v5, v6, some (zi x), v8, v9, v10] (st) M = eb_E L d 140 99 [v0, v1, v2, v3, v4, v5, v6, some (zi x), v8, v9, v10] (zi x :: st) M := eb_E_s hk140 rfl
theorem e140_99 {x : Int32} : eb_E L d 140 99 [v0, v1, v2, v3, v4, v5, v6, v7, v8, v9, v10] (zi x :: st) M = eb_E L d 140 101 [v0, v1, v2, v3, some (zi x), v5, v6, v7, v8, v9, v10] (st) M := eb_E_s hk140 rfl
theorem e140_101 {x : Int32} : eb_E L d 140 101 [v0, v1, v2, v3, v4, v5, v6, v7, v8, some (zi x), v10] (st) M = eb_E L d 140 103 [v0, v1, v2, v3, v4, v5, v6, v7, v8, some (zi x), v10] (zi x :: st) M := eb_E_s hk140 rfl
theorem e140_103 {x : Int32} : eb_E L d 140 103 [v0, v1, v2, v3, v4, v5, v6, v7, v8, v9, v10] (zi x :: st) M = eb_E L d 140 105 [v0, v1, v2, v3, v4, some (zi x), v6, v7, v8, v9, v10] (st) M := eb_E_s hk140 rfl
theorem e140_105 {x : Int32} : eb_E L d 140 105 [v0, v1, v2, v3, v4, v5, v6, some (zi x), v8, v9, v10] (st) M = eb_E L d 140 108 [v0, v1, v2, v3, v4, v5, v6, some (zi (x + 1)), v8, v9, v10] (st) M := eb_E_s hk140 rfl
theorem e140_108  : eb_E L d 140 108 ls (st) M = eb_E L d 140 25 ls (st) M := eb_E_s hk140 rfl
theorem e140_111 {x : Int32} : eb_E L d 140 111 [v0, v1, v2, v3, some (zi x), v5, v6, v7, v8, v9, v10] (st) M = eb_E L d 140 113 [v0, v1, v2, v3, some (zi x), v5, v6, v7, v8, v9, v10] (zi x :: st) M := eb_E_s hk140 rfl
theorem e140_113 {x : Int32} : eb_E L d 140 113 ls ([zi x]) M = some (zi x, M) := eb_E_r hk140 rfl
/-! X5_joyIfGoneRound -/
theorem hk141 : eb_cd L 141 = eb_look (kt141 L) := rfl
theorem h141 (ha : (eb_ty L a.1).1 = 5) {x1 : Int32} {x2 : Int32} : eb_ev L (d + 1) 141 [zr a, zi x1, zi x2] M = eb_E L d 141 0 [some (zr a), some (zi x1), some (zi x2), none, none, none] [] M := eb_ev_s rfl (eb_chk_i ha rfl)
theorem e141_0 {x : Option eb_A} : eb_E L d 141 0 [some (Sum.inr x), v1, v2, v3, v4, v5] (st) M = eb_E L d 141 1 [some (Sum.inr x), v1, v2, v3, v4, v5] (Sum.inr x :: st) M := eb_E_s hk141 rfl
theorem e141_1  : eb_E L d 141 1 ls ([a0]) M = (eb_ev L d 138 [a0] M).bind (fun q => eb_E L d 141 4 ls [q.1] q.2) := eb_E_c hk141 rfl
theorem e141_4a {x : Int32} : eb_E L d 141 4 ls (zi x :: st) M = eb_E L d 141 5 ls (st) M := eb_E_s hk141 rfl
theorem e141_4b {x : Option eb_A} : eb_E L d 141 4 ls (Sum.inr x :: st) M = eb_E L d 141 5 ls (st) M := eb_E_s hk141 rfl
theorem e141_5  : eb_E L d 141 5 ls (st) M = eb_E L d 141 6 ls (zi 0 :: st) M := eb_E_s hk141 rfl
theorem e141_6 {x : Int32} : eb_E L d 141 6 [v0, v1, v2, v3, v4, v5] (zi x :: st) M = eb_E L d 141 7 [v0, v1, v2, some (zi x), v4, v5] (st) M := eb_E_s hk141 rfl
theorem e141_7  : eb_E L d 141 7 ls (st) M = eb_E L d 141 8 ls (zi 0 :: st) M := eb_E_s hk141 rfl
theorem e141_8 {x : Int32} : eb_E L d 141 8 [v0, v1, v2, v3, v4, v5] (zi x :: st) M = eb_E L d 141 10 [v0, v1, v2, v3, some (zi x), v5] (st) M := eb_E_s hk141 rfl
theorem e141_10 {x : Int32} : eb_E L d 141 10 [v0, v1, v2, v3, some (zi x), v5] (st) M = eb_E L d 141 12 [v0, v1, v2, v3, some (zi x), v5] (zi x :: st) M := eb_E_s hk141 rfl
theorem e141_12 {x : Int32} : eb_E L d 141 12 [v0, some (zi x), v2, v3, v4, v5] (st) M = eb_E L d 141 13 [v0, some (zi x), v2, v3, v4, v5] (zi x :: st) M := eb_E_s hk141 rfl
theorem e141_13 {x : Int32} {y : Int32} : eb_E L d 141 13 ls (zi y :: zi x :: st) M = if x < y then eb_E L d 141 16 ls st M else eb_E L d 141 78 ls st M := eb_E_b hk141 rfl
theorem e141_16 {x : Option eb_A} : eb_E L d 141 16 [some (Sum.inr x), v1, v2, v3, v4, v5] (st) M = eb_E L d 141 17 [some (Sum.inr x), v1, v2, v3, v4, v5] (Sum.inr x :: st) M := eb_E_s hk141 rfl
theorem e141_17 {x : Int32} : eb_E L d 141 17 [v0, some (zi x), v2, v3, v4, v5] (st) M = eb_E L d 141 18 [v0, some (zi x), v2, v3, v4, v5] (zi x :: st) M := eb_E_s hk141 rfl
theorem e141_18 {x : Int32} : eb_E L d 141 18 [v0, v1, some (zi x), v3, v4, v5] (st) M = eb_E L d 141 19 [v0, v1, some (zi x), v3, v4, v5] (zi x :: st) M := eb_E_s hk141 rfl
theorem e141_19 {x : Int32} : eb_E L d 141 19 [v0, v1, v2, v3, some (zi x), v5] (st) M = eb_E L d 141 21 [v0, v1, v2, v3, some (zi x), v5] (zi x :: st) M := eb_E_s hk141 rfl
theorem e141_21  : eb_E L d 141 21 ls ([a3, a2, a1, a0]) M = (eb_ev L d 142 [a0, a1, a2, a3] M).bind (fun q => eb_E L d 141 24 ls [q.1] q.2) := eb_E_c hk141 rfl
theorem e141_24 {x : Int32} : eb_E L d 141 24 [v0, v1, v2, v3, v4, v5] (zi x :: st) M = eb_E L d 141 26 [v0, v1, v2, v3, v4, some (zi x)] (st) M := eb_E_s hk141 rfl
theorem e141_26 {x : Option eb_A} : eb_E L d 141 26 [some (Sum.inr x), v1, v2, v3, v4, v5] (st) M = eb_E L d 141 27 [some (Sum.inr x), v1, v2, v3, v4, v5] (Sum.inr x :: st) M := eb_E_s hk141 rfl
theorem e141_27 {x : Int32} : eb_E L d 141 27 [v0, v1, v2, v3, v4, some (zi x)] (st) M = eb_E L d 141 29 [v0, v1, v2, v3, v4, some (zi x)] (zi x :: st) M := eb_E_s hk141 rfl
theorem e141_29  : eb_E L d 141 29 ls ([a1, a0]) M = (eb_ev L d 131 [a0, a1] M).bind (fun q => eb_E L d 141 32 ls [q.1] q.2) := eb_E_c hk141 rfl
theorem e141_32 {x : Int32} : eb_E L d 141 32 ls (zi x :: st) M = if x = 0 then eb_E L d 141 61 ls st M else eb_E L d 141 35 ls st M := eb_E_b hk141 rfl
theorem e141_35 {x : Option eb_A} : eb_E L d 141 35 [some (Sum.inr x), v1, v2, v3, v4, v5] (st) M = eb_E L d 141 36 [some (Sum.inr x), v1, v2, v3, v4, v5] (Sum.inr x :: st) M := eb_E_s hk141 rfl
theorem e141_36  : eb_E L d 141 36 ls (Sum.inr (some a) :: st) (nc, ns, I, J, R) = if (eb_ty L a.1).1 = 5 then eb_E L d 141 39 ls (Sum.inr (R a 1) :: st) (nc, ns, I, J, R) else none := eb_E_iy hk141 rfl
theorem e141_39  : eb_E L d 141 39 ls (Sum.inr (some a) :: st) (nc, ns, I, J, R) = if (eb_ty L a.1).1 = 4 then eb_E L d 141 42 ls (Sum.inr (R a 0) :: st) (nc, ns, I, J, R) else none := eb_E_iy hk141 rfl
theorem e141_42 {x : Int32} : eb_E L d 141 42 [v0, v1, v2, v3, v4, some (zi x)] (st) M = eb_E L d 141 44 [v0, v1, v2, v3, v4, some (zi x)] (zi x :: st) M := eb_E_s hk141 rfl
theorem e141_44 {x : Int32} : eb_E L d 141 44 ls (zi x :: Sum.inr (some a) :: st) (nc, ns, I, J, R) = if (12 ≤ (eb_ty L a.1).1 ∧ (eb_ty L a.1).1 ≤ 16) ∧ eb_in x (eb_ty L a.1).2 = true then eb_E L d 141 45 ls (Sum.inr (R a x.toNatClampNeg) :: st) (nc, ns, I, J, R) else none := eb_E_iy hk141 rfl
theorem e141_45 {x : Option eb_A} : eb_E L d 141 45 [some (Sum.inr x), v1, v2, v3, v4, v5] (st) M = eb_E L d 141 46 [some (Sum.inr x), v1, v2, v3, v4, v5] (Sum.inr x :: st) M := eb_E_s hk141 rfl
theorem e141_46  : eb_E L d 141 46 ls (Sum.inr (some a) :: st) (nc, ns, I, J, R) = if (eb_ty L a.1).1 = 5 then eb_E L d 141 49 ls (Sum.inr (R a 1) :: st) (nc, ns, I, J, R) else none := eb_E_iy hk141 rfl
theorem e141_49  : eb_E L d 141 49 ls (Sum.inr (some a) :: st) (nc, ns, I, J, R) = if (eb_ty L a.1).1 = 4 then eb_E L d 141 52 ls (Sum.inr (R a 0) :: st) (nc, ns, I, J, R) else none := eb_E_iy hk141 rfl
theorem e141_52 {x : Int32} : eb_E L d 141 52 [v0, v1, v2, v3, v4, some (zi x)] (st) M = eb_E L d 141 54 [v0, v1, v2, v3, v4, some (zi x)] (zi x :: st) M := eb_E_s hk141 rfl
theorem e141_54 {x : Int32} : eb_E L d 141 54 ls (zi x :: Sum.inr (some a) :: st) (nc, ns, I, J, R) = if (12 ≤ (eb_ty L a.1).1 ∧ (eb_ty L a.1).1 ≤ 16) ∧ eb_in x (eb_ty L a.1).2 = true then eb_E L d 141 55 ls (Sum.inr (R a x.toNatClampNeg) :: st) (nc, ns, I, J, R) else none := eb_E_iy hk141 rfl
theorem e141_55  : eb_E L d 141 55 ls (Sum.inr (some a) :: st) (nc, ns, I, J, R) = if (eb_ty L a.1).1 = 1 then eb_E L d 141 58 ls (zi (I a 0) :: st) (nc, ns, I, J, R) else none := eb_E_iy hk141 rfl
theorem e141_58 {x : Int32} : eb_E L d 141 58 ls (zi x :: Sum.inr (some a) :: st) (nc, ns, I, J, R) = if (eb_ty L a.1).1 = 1 then eb_E L d 141 61 ls (st) (nc, ns, eb_u I a 4 x, J, R) else none := eb_E_iy hk141 rfl
theorem e141_61 {x : Int32} : eb_E L d 141 61 [v0, v1, v2, some (zi x), v4, v5] (st) M = eb_E L d 141 62 [v0, v1, v2, some (zi x), v4, v5] (zi x :: st) M := eb_E_s hk141 rfl
theorem e141_62 {x : Option eb_A} : eb_E L d 141 62 [some (Sum.inr x), v1, v2, v3, v4, v5] (st) M = eb_E L d 141 63 [some (Sum.inr x), v1, v2, v3, v4, v5] (Sum.inr x :: st) M := eb_E_s hk141 rfl
theorem e141_63  : eb_E L d 141 63 ls (Sum.inr (some a) :: st) (nc, ns, I, J, R) = if (eb_ty L a.1).1 = 5 then eb_E L d 141 66 ls (Sum.inr (R a 1) :: st) (nc, ns, I, J, R) else none := eb_E_iy hk141 rfl
theorem e141_66  : eb_E L d 141 66 ls (st) M = eb_E L d 141 67 ls (zi 1 :: st) M := eb_E_s hk141 rfl
theorem e141_67 {s0 : Int32} : eb_E L d 141 67 ls ([a1, a0, zi s0]) M = (eb_ev L d 61 [a0, a1] M).bind (fun q => eb_E L d 141 70 ls [q.1, zi s0] q.2) := eb_E_c hk141 rfl
theorem e141_70 {x : Int32} {y : Int32} : eb_E L d 141 70 ls (zi y :: zi x :: st) M = eb_E L d 141 71 ls (zi (x + y) :: st) M := eb_E_s hk141 rfl
theorem e141_71 {x : Int32} : eb_E L d 141 71 [v0, v1, v2, v3, v4, v5] (zi x :: st) M = eb_E L d 141 72 [v0, v1, v2, some (zi x), v4, v5] (st) M := eb_E_s hk141 rfl
theorem e141_72 {x : Int32} : eb_E L d 141 72 [v0, v1, v2, v3, some (zi x), v5] (st) M = eb_E L d 141 75 [v0, v1, v2, v3, some (zi (x + 1)), v5] (st) M := eb_E_s hk141 rfl
theorem e141_75  : eb_E L d 141 75 ls (st) M = eb_E L d 141 10 ls (st) M := eb_E_s hk141 rfl
theorem e141_78 {x : Int32} : eb_E L d 141 78 [v0, v1, v2, some (zi x), v4, v5] (st) M = eb_E L d 141 79 [v0, v1, v2, some (zi x), v4, v5] (zi x :: st) M := eb_E_s hk141 rfl
theorem e141_79 {x : Int32} : eb_E L d 141 79 ls ([zi x]) M = some (zi x, M) := eb_E_r hk141 rfl
/-! X5_innOfRound -/
theorem hk142 : eb_cd L 142 = eb_look (kt142 L) := rfl
theorem h142 (ha : (eb_ty L a.1).1 = 5) {x1 : Int32} {x2 : Int32} {x3 : Int32} : eb_ev L (d + 1) 142 [zr a, zi x1, zi x2, zi x3] M = eb_E L d 142 0 [some (zr a), some (zi x1), some (zi x2), some (zi x3), none, none] [] M := eb_ev_s rfl (eb_chk_i ha rfl)
theorem e142_0 {x : Option eb_A} : eb_E L d 142 0 [some (Sum.inr x), v1, v2, v3, v4, v5] (st) M = eb_E L d 142 1 [some (Sum.inr x), v1, v2, v3, v4, v5] (Sum.inr x :: st) M := eb_E_s hk142 rfl
theorem e142_1  : eb_E L d 142 1 ls (Sum.inr (some a) :: st) (nc, ns, I, J, R) = if (eb_ty L a.1).1 = 5 then eb_E L d 142 4 ls (Sum.inr (R a 0) :: st) (nc, ns, I, J, R) else none := eb_E_iy hk142 rfl
theorem e142_4  : eb_E L d 142 4 ls (Sum.inr (some a) :: st) (nc, ns, I, J, R) = if (eb_ty L a.1).1 = 4 then eb_E L d 142 7 ls (zi (I a 2) :: st) (nc, ns, I, J, R) else none := eb_E_iy hk142 rfl
theorem e142_7  : eb_E L d 142 7 ls (st) M = eb_E L d 142 8 ls (zi 1 :: st) M := eb_E_s hk142 rfl
theorem e142_8 {x : Int32} {y : Int32} : eb_E L d 142 8 ls (zi y :: zi x :: st) M = eb_E L d 142 9 ls (zi (x + y) :: st) M := eb_E_s hk142 rfl
theorem e142_9 {x : Int32} : eb_E L d 142 9 [v0, v1, v2, v3, v4, v5] (zi x :: st) M = eb_E L d 142 11 [v0, v1, v2, v3, some (zi x), v5] (st) M := eb_E_s hk142 rfl
theorem e142_11 {x : Int32} : eb_E L d 142 11 [v0, v1, v2, v3, some (zi x), v5] (st) M = eb_E L d 142 13 [v0, v1, v2, v3, some (zi x), v5] (zi x :: st) M := eb_E_s hk142 rfl
theorem e142_13 {x : Int32} : eb_E L d 142 13 [v0, some (zi x), v2, v3, v4, v5] (st) M = eb_E L d 142 14 [v0, some (zi x), v2, v3, v4, v5] (zi x :: st) M := eb_E_s hk142 rfl
theorem e142_14  : eb_E L d 142 14 ls (st) M = eb_E L d 142 15 ls (zi 1 :: st) M := eb_E_s hk142 rfl
theorem e142_15 {x : Int32} {y : Int32} : eb_E L d 142 15 ls (zi y :: zi x :: st) M = eb_E L d 142 16 ls (zi (x - y) :: st) M := eb_E_s hk142 rfl
theorem e142_16 {x : Int32} : eb_E L d 142 16 [v0, v1, v2, some (zi x), v4, v5] (st) M = eb_E L d 142 17 [v0, v1, v2, some (zi x), v4, v5] (zi x :: st) M := eb_E_s hk142 rfl
theorem e142_17 {x : Int32} {y : Int32} : eb_E L d 142 17 ls (zi y :: zi x :: st) M = eb_E L d 142 18 ls (zi (x - y) :: st) M := eb_E_s hk142 rfl
theorem e142_18  : eb_E L d 142 18 ls ([a1, a0]) M = (eb_ev L d 143 [a0, a1] M).bind (fun q => eb_E L d 142 21 ls [q.1] q.2) := eb_E_c hk142 rfl
theorem e142_21 {x : Int32} : eb_E L d 142 21 [v0, v1, v2, v3, v4, v5] (zi x :: st) M = eb_E L d 142 23 [v0, v1, v2, v3, v4, some (zi x)] (st) M := eb_E_s hk142 rfl
theorem e142_23 {x : Int32} : eb_E L d 142 23 [v0, v1, v2, v3, some (zi x), v5] (st) M = eb_E L d 142 25 [v0, v1, v2, v3, some (zi x), v5] (zi x :: st) M := eb_E_s hk142 rfl
theorem e142_25  : eb_E L d 142 25 ls (st) M = eb_E L d 142 26 ls (zi 1 :: st) M := eb_E_s hk142 rfl
theorem e142_26 {x : Int32} {y : Int32} : eb_E L d 142 26 ls (zi y :: zi x :: st) M = if x < y then eb_E L d 142 35 ls st M else eb_E L d 142 29 ls st M := eb_E_b hk142 rfl
theorem e142_29 {x : Int32} : eb_E L d 142 29 [v0, v1, v2, v3, v4, some (zi x)] (st) M = eb_E L d 142 31 [v0, v1, v2, v3, v4, some (zi x)] (zi x :: st) M := eb_E_s hk142 rfl
theorem e142_31  : eb_E L d 142 31 ls (st) M = eb_E L d 142 32 ls (zi 1 :: st) M := eb_E_s hk142 rfl
theorem e142_32 {x : Int32} {y : Int32} : eb_E L d 142 32 ls (zi y :: zi x :: st) M = if x < y then eb_E L d 142 35 ls st M else eb_E L d 142 39 ls st M := eb_E_b hk142 rfl
theorem e142_35  : eb_E L d 142 35 ls (st) M = eb_E L d 142 36 ls (zi (-1) :: st) M := eb_E_s hk142 rfl
theorem e142_36  : eb_E L d 142 36 ls (st) M = eb_E L d 142 48 ls (st) M := eb_E_s hk142 rfl
theorem e142_39 {x : Int32} : eb_E L d 142 39 [v0, v1, some (zi x), v3, v4, v5] (st) M = eb_E L d 142 40 [v0, v1, some (zi x), v3, v4, v5] (zi x :: st) M := eb_E_s hk142 rfl
theorem e142_40 {x : Int32} : eb_E L d 142 40 [v0, v1, v2, v3, v4, some (zi x)] (st) M = eb_E L d 142 42 [v0, v1, v2, v3, v4, some (zi x)] (zi x :: st) M := eb_E_s hk142 rfl
theorem e142_42 {x : Int32} {y : Int32} : eb_E L d 142 42 ls (zi y :: zi x :: st) M = if y = 0 then none else eb_E L d 142 43 ls (zi (x / y) :: st) M := eb_E_in hk142 rfl
theorem e142_43 {x : Int32} : eb_E L d 142 43 [v0, v1, v2, v3, some (zi x), v5] (st) M = eb_E L d 142 45 [v0, v1, v2, v3, some (zi x), v5] (zi x :: st) M := eb_E_s hk142 rfl
theorem e142_45 {x : Int32} {y : Int32} : eb_E L d 142 45 ls (zi y :: zi x :: st) M = if y = 0 then none else eb_E L d 142 46 ls (zi (x - x / y * y) :: st) M := eb_E_in hk142 rfl
theorem e142_46  : eb_E L d 142 46 ls (st) M = eb_E L d 142 47 ls (zi 1 :: st) M := eb_E_s hk142 rfl
theorem e142_47 {x : Int32} {y : Int32} : eb_E L d 142 47 ls (zi y :: zi x :: st) M = eb_E L d 142 48 ls (zi (x - y) :: st) M := eb_E_s hk142 rfl
theorem e142_48 {x : Int32} : eb_E L d 142 48 ls ([zi x]) M = some (zi x, M) := eb_E_r hk142 rfl
/-! X5_power -/
theorem hk143 : eb_cd L 143 = eb_look (kt143 L) := rfl
theorem h143 {x0 : Int32} {x1 : Int32} : eb_ev L (d + 1) 143 [zi x0, zi x1] M = eb_E L d 143 0 [some (zi x0), some (zi x1), none, none] [] M := eb_ev_s rfl rfl
theorem e143_0  : eb_E L d 143 0 ls (st) M = eb_E L d 143 1 ls (zi 1 :: st) M := eb_E_s hk143 rfl
theorem e143_1 {x : Int32} : eb_E L d 143 1 [v0, v1, v2, v3] (zi x :: st) M = eb_E L d 143 2 [v0, v1, some (zi x), v3] (st) M := eb_E_s hk143 rfl
theorem e143_2  : eb_E L d 143 2 ls (st) M = eb_E L d 143 3 ls (zi 0 :: st) M := eb_E_s hk143 rfl
theorem e143_3 {x : Int32} : eb_E L d 143 3 [v0, v1, v2, v3] (zi x :: st) M = eb_E L d 143 4 [v0, v1, v2, some (zi x)] (st) M := eb_E_s hk143 rfl
theorem e143_4 {x : Int32} : eb_E L d 143 4 [v0, v1, v2, some (zi x)] (st) M = eb_E L d 143 5 [v0, v1, v2, some (zi x)] (zi x :: st) M := eb_E_s hk143 rfl
theorem e143_5 {x : Int32} : eb_E L d 143 5 [v0, some (zi x), v2, v3] (st) M = eb_E L d 143 6 [v0, some (zi x), v2, v3] (zi x :: st) M := eb_E_s hk143 rfl
theorem e143_6 {x : Int32} {y : Int32} : eb_E L d 143 6 ls (zi y :: zi x :: st) M = if x < y then eb_E L d 143 9 ls st M else eb_E L d 143 19 ls st M := eb_E_b hk143 rfl
theorem e143_9 {x : Int32} : eb_E L d 143 9 [v0, v1, some (zi x), v3] (st) M = eb_E L d 143 10 [v0, v1, some (zi x), v3] (zi x :: st) M := eb_E_s hk143 rfl
theorem e143_10 {x : Int32} : eb_E L d 143 10 [some (zi x), v1, v2, v3] (st) M = eb_E L d 143 11 [some (zi x), v1, v2, v3] (zi x :: st) M := eb_E_s hk143 rfl
theorem e143_11 {x : Int32} {y : Int32} : eb_E L d 143 11 ls (zi y :: zi x :: st) M = eb_E L d 143 12 ls (zi (x * y) :: st) M := eb_E_s hk143 rfl
theorem e143_12 {x : Int32} : eb_E L d 143 12 [v0, v1, v2, v3] (zi x :: st) M = eb_E L d 143 13 [v0, v1, some (zi x), v3] (st) M := eb_E_s hk143 rfl
theorem e143_13 {x : Int32} : eb_E L d 143 13 [v0, v1, v2, some (zi x)] (st) M = eb_E L d 143 16 [v0, v1, v2, some (zi (x + 1))] (st) M := eb_E_s hk143 rfl
theorem e143_16  : eb_E L d 143 16 ls (st) M = eb_E L d 143 4 ls (st) M := eb_E_s hk143 rfl
theorem e143_19 {x : Int32} : eb_E L d 143 19 [v0, v1, some (zi x), v3] (st) M = eb_E L d 143 20 [v0, v1, some (zi x), v3] (zi x :: st) M := eb_E_s hk143 rfl
theorem e143_20 {x : Int32} : eb_E L d 143 20 ls ([zi x]) M = some (zi x, M) := eb_E_r hk143 rfl
end

section
variable {L d : Nat} {v0 v1 v2 v3 v4 v5 v6 v7 v8 v9 v10 : Option eb_V} {a0 a1 a2 a3 a4 a5 : eb_V} {ls : List (Option eb_V)} {st : List eb_V} {M : eb_M} {nc ns : Nat} {I : eb_A → Nat → Int32} {J : eb_A → Nat → Int64} {R : eb_A → Nat → Option eb_A} {a b : eb_A}

/-! X0_init -/
theorem hk0 : eb_cd L 0 = eb_look (kt0 L) := rfl
theorem h0 (ha : (eb_ty L a.1).1 = 0) : eb_ev L (d + 1) 0 [zr a] M = eb_E L d 0 0 [some (zr a)] [] M := eb_ev_s rfl (eb_chk_i ha rfl)
theorem e0_0 {x : Option eb_A} : eb_E L d 0 0 [some (Sum.inr x)] (st) M = eb_E L d 0 1 [some (Sum.inr x)] (Sum.inr x :: st) M := eb_E_s hk0 rfl
theorem e0_1  : eb_E L d 0 1 ls ([a0]) M = (eb_ev L d 903 [a0] M).bind (fun q => eb_E L d 0 4 ls [] q.2) := eb_E_c hk0 rfl
theorem e0_4 {x : Option eb_A} : eb_E L d 0 4 [some (Sum.inr x)] (st) M = eb_E L d 0 5 [some (Sum.inr x)] (Sum.inr x :: st) M := eb_E_s hk0 rfl
theorem e0_5  : eb_E L d 0 5 ls (st) M = eb_E L d 0 7 ls (zi 6 :: st) M := eb_E_s hk0 rfl
theorem e0_7 {x : Int32} : eb_E L d 0 7 ls (zi x :: st) (nc, ns, I, J, R) = if eb_ty L (eb_nm nc).1 = (10, x.toNatClampNeg) ∧ ¬ x < 0 ∧ x.toNatClampNeg ≤ 1000 then eb_E L d 0 9 ls (zr (eb_nm nc) :: st) (nc + 1, ns + x.toNatClampNeg, eb_zI I (eb_nm nc), J, R) else none := eb_E_iy hk0 rfl
theorem e0_9 {x : Option eb_A} : eb_E L d 0 9 ls (Sum.inr x :: Sum.inr (some a) :: st) (nc, ns, I, J, R) = if (eb_ty L a.1).1 = 0 then eb_E L d 0 12 ls (st) (nc, ns, I, J, eb_u R a 3 x) else none := eb_E_iy hk0 rfl
theorem e0_12  : eb_E L d 0 12 ls ([]) M = some (zn, M) := eb_E_r hk0 rfl
/-! X0_become -/
theorem hk1 : eb_cd L 1 = eb_look (kt1 L) := rfl
theorem h1 (ha : (eb_ty L a.1).1 = 0) {x1 : Int32} {x2 : Int32} {x3 : Int32} : eb_ev L (d + 1) 1 [zr a, zi x1, zi x2, zi x3] M = eb_E L d 1 0 [some (zr a), some (zi x1), some (zi x2), some (zi x3)] [] M := eb_ev_s rfl (eb_chk_i ha rfl)
theorem e1_0 {x : Option eb_A} : eb_E L d 1 0 [some (Sum.inr x), v1, v2, v3] (st) M = eb_E L d 1 1 [some (Sum.inr x), v1, v2, v3] (Sum.inr x :: st) M := eb_E_s hk1 rfl
theorem e1_1 {x : Int32} : eb_E L d 1 1 [v0, some (zi x), v2, v3] (st) M = eb_E L d 1 2 [v0, some (zi x), v2, v3] (zi x :: st) M := eb_E_s hk1 rfl
theorem e1_2 {x : Int32} : eb_E L d 1 2 ls (zi x :: Sum.inr (some a) :: st) (nc, ns, I, J, R) = if (eb_ty L a.1).1 = 0 then eb_E L d 1 5 ls (st) (nc, ns, eb_u I a 0 x, J, R) else none := eb_E_iy hk1 rfl
theorem e1_5 {x : Option eb_A} : eb_E L d 1 5 [some (Sum.inr x), v1, v2, v3] (st) M = eb_E L d 1 6 [some (Sum.inr x), v1, v2, v3] (Sum.inr x :: st) M := eb_E_s hk1 rfl
theorem e1_6 {x : Int32} : eb_E L d 1 6 [v0, v1, some (zi x), v3] (st) M = eb_E L d 1 7 [v0, v1, some (zi x), v3] (zi x :: st) M := eb_E_s hk1 rfl
theorem e1_7 {x : Int32} : eb_E L d 1 7 ls (zi x :: Sum.inr (some a) :: st) (nc, ns, I, J, R) = if (eb_ty L a.1).1 = 0 then eb_E L d 1 10 ls (st) (nc, ns, eb_u I a 1 x, J, R) else none := eb_E_iy hk1 rfl
theorem e1_10 {x : Option eb_A} : eb_E L d 1 10 [some (Sum.inr x), v1, v2, v3] (st) M = eb_E L d 1 11 [some (Sum.inr x), v1, v2, v3] (Sum.inr x :: st) M := eb_E_s hk1 rfl
theorem e1_11 {x : Int32} : eb_E L d 1 11 [v0, v1, v2, some (zi x)] (st) M = eb_E L d 1 12 [v0, v1, v2, some (zi x)] (zi x :: st) M := eb_E_s hk1 rfl
theorem e1_12 {x : Int32} : eb_E L d 1 12 ls (zi x :: Sum.inr (some a) :: st) (nc, ns, I, J, R) = if (eb_ty L a.1).1 = 0 then eb_E L d 1 15 ls (st) (nc, ns, eb_u I a 2 x, J, R) else none := eb_E_iy hk1 rfl
theorem e1_15  : eb_E L d 1 15 ls ([]) M = some (zn, M) := eb_E_r hk1 rfl
/-! X0_isOf -/
theorem hk2 : eb_cd L 2 = eb_look (kt2 L) := rfl
theorem h2 (ha : (eb_ty L a.1).1 = 0) {x1 : Int32} : eb_ev L (d + 1) 2 [zr a, zi x1] M = eb_E L d 2 0 [some (zr a), some (zi x1)] [] M := eb_ev_s rfl (eb_chk_i ha rfl)
theorem e2_0 {x : Int32} : eb_E L d 2 0 [v0, some (zi x)] (st) M = eb_E L d 2 1 [v0, some (zi x)] (zi x :: st) M := eb_E_s hk2 rfl
theorem e2_1 {x : Int32} : eb_E L d 2 1 ls (zi x :: st) M = if x = 0 then eb_E L d 2 24 ls st M else eb_E L d 2 4 ls st M := eb_E_b hk2 rfl
theorem e2_4 {x : Int32} : eb_E L d 2 4 [v0, some (zi x)] (st) M = eb_E L d 2 5 [v0, some (zi x)] (zi x :: st) M := eb_E_s hk2 rfl
theorem e2_5 {x : Option eb_A} : eb_E L d 2 5 [some (Sum.inr x), v1] (st) M = eb_E L d 2 6 [some (Sum.inr x), v1] (Sum.inr x :: st) M := eb_E_s hk2 rfl
theorem e2_6  : eb_E L d 2 6 ls (Sum.inr (some a) :: st) (nc, ns, I, J, R) = if (eb_ty L a.1).1 = 0 then eb_E L d 2 9 ls (zi (I a 0) :: st) (nc, ns, I, J, R) else none := eb_E_iy hk2 rfl
theorem e2_9 {x : Int32} {y : Int32} : eb_E L d 2 9 ls (zi y :: zi x :: st) M = if x = y then eb_E L d 2 24 ls st M else eb_E L d 2 12 ls st M := eb_E_b hk2 rfl
theorem e2_12 {x : Int32} : eb_E L d 2 12 [v0, some (zi x)] (st) M = eb_E L d 2 13 [v0, some (zi x)] (zi x :: st) M := eb_E_s hk2 rfl
theorem e2_13  : eb_E L d 2 13 ls (st) M = eb_E L d 2 14 ls (zi 1 :: st) M := eb_E_s hk2 rfl
theorem e2_14 {x : Int32} {y : Int32} : eb_E L d 2 14 ls (zi y :: zi x :: st) M = if x = y then eb_E L d 2 17 ls st M else eb_E L d 2 28 ls st M := eb_E_b hk2 rfl
theorem e2_17 {x : Option eb_A} : eb_E L d 2 17 [some (Sum.inr x), v1] (st) M = eb_E L d 2 18 [some (Sum.inr x), v1] (Sum.inr x :: st) M := eb_E_s hk2 rfl
theorem e2_18  : eb_E L d 2 18 ls ([a0]) M = (eb_ev L d 4 [a0] M).bind (fun q => eb_E L d 2 21 ls [q.1] q.2) := eb_E_c hk2 rfl
theorem e2_21 {x : Int32} : eb_E L d 2 21 ls (zi x :: st) M = if x = 0 then eb_E L d 2 28 ls st M else eb_E L d 2 24 ls st M := eb_E_b hk2 rfl
theorem e2_24  : eb_E L d 2 24 ls (st) M = eb_E L d 2 25 ls (zi 1 :: st) M := eb_E_s hk2 rfl
theorem e2_25  : eb_E L d 2 25 ls (st) M = eb_E L d 2 29 ls (st) M := eb_E_s hk2 rfl
theorem e2_28  : eb_E L d 2 28 ls (st) M = eb_E L d 2 29 ls (zi 0 :: st) M := eb_E_s hk2 rfl
theorem e2_29 {x : Int32} : eb_E L d 2 29 ls ([zi x]) M = if x = 0 ∨ x = 1 then some (zi x, M) else none := eb_E_ri hk2 rfl
/-! X0_leaveBeds -/
theorem hk3 : eb_cd L 3 = eb_look (kt3 L) := rfl
theorem h3 (ha : (eb_ty L a.1).1 = 0) : eb_ev L (d + 1) 3 [zr a] M = eb_E L d 3 0 [some (zr a), none] [] M := eb_ev_s rfl (eb_chk_i ha rfl)
theorem e3_0 {x : Option eb_A} : eb_E L d 3 0 [some (Sum.inr x), v1] (st) M = eb_E L d 3 1 [some (Sum.inr x), v1] (Sum.inr x :: st) M := eb_E_s hk3 rfl
theorem e3_1  : eb_E L d 3 1 ls (st) M = eb_E L d 3 2 ls (zi 0 :: st) M := eb_E_s hk3 rfl
theorem e3_2 {x : Int32} : eb_E L d 3 2 ls (zi x :: Sum.inr (some a) :: st) (nc, ns, I, J, R) = if (eb_ty L a.1).1 = 0 then eb_E L d 3 5 ls (st) (nc, ns, eb_u I a 4 x, J, R) else none := eb_E_iy hk3 rfl
theorem e3_5  : eb_E L d 3 5 ls (st) M = eb_E L d 3 6 ls (zi 0 :: st) M := eb_E_s hk3 rfl
theorem e3_6 {x : Int32} : eb_E L d 3 6 [v0, v1] (zi x :: st) M = eb_E L d 3 7 [v0, some (zi x)] (st) M := eb_E_s hk3 rfl
theorem e3_7 {x : Int32} : eb_E L d 3 7 [v0, some (zi x)] (st) M = eb_E L d 3 8 [v0, some (zi x)] (zi x :: st) M := eb_E_s hk3 rfl
theorem e3_8  : eb_E L d 3 8 ls (st) M = eb_E L d 3 10 ls (zi 6 :: st) M := eb_E_s hk3 rfl
theorem e3_10 {x : Int32} {y : Int32} : eb_E L d 3 10 ls (zi y :: zi x :: st) M = if x < y then eb_E L d 3 13 ls st M else eb_E L d 3 26 ls st M := eb_E_b hk3 rfl
theorem e3_13 {x : Option eb_A} : eb_E L d 3 13 [some (Sum.inr x), v1] (st) M = eb_E L d 3 14 [some (Sum.inr x), v1] (Sum.inr x :: st) M := eb_E_s hk3 rfl
theorem e3_14  : eb_E L d 3 14 ls (Sum.inr (some a) :: st) (nc, ns, I, J, R) = if (eb_ty L a.1).1 = 0 then eb_E L d 3 17 ls (Sum.inr (R a 3) :: st) (nc, ns, I, J, R) else none := eb_E_iy hk3 rfl
theorem e3_17 {x : Int32} : eb_E L d 3 17 [v0, some (zi x)] (st) M = eb_E L d 3 18 [v0, some (zi x)] (zi x :: st) M := eb_E_s hk3 rfl
theorem e3_18  : eb_E L d 3 18 ls (st) M = eb_E L d 3 19 ls (zi 0 :: st) M := eb_E_s hk3 rfl
theorem e3_19 {x : Int32} {v : Int32} : eb_E L d 3 19 ls (zi v :: zi x :: Sum.inr (some a) :: st) (nc, ns, I, J, R) = if (eb_ty L a.1).1 = 10 ∧ eb_in x (eb_ty L a.1).2 = true then eb_E L d 3 20 ls (st) (nc, ns, eb_u I a x.toNatClampNeg v, J, R) else none := eb_E_iy hk3 rfl
theorem e3_20 {x : Int32} : eb_E L d 3 20 [v0, some (zi x)] (st) M = eb_E L d 3 23 [v0, some (zi (x + 1))] (st) M := eb_E_s hk3 rfl
theorem e3_23  : eb_E L d 3 23 ls (st) M = eb_E L d 3 7 ls (st) M := eb_E_s hk3 rfl
theorem e3_26  : eb_E L d 3 26 ls ([]) M = some (zn, M) := eb_E_r hk3 rfl
/-! X0_goesByBook -/
theorem hk4 : eb_cd L 4 = eb_look (kt4 L) := rfl
theorem h4 (ha : (eb_ty L a.1).1 = 0) : eb_ev L (d + 1) 4 [zr a] M = eb_E L d 4 0 [some (zr a)] [] M := eb_ev_s rfl (eb_chk_i ha rfl)
theorem e4_0 {x : Option eb_A} : eb_E L d 4 0 [some (Sum.inr x)] (st) M = eb_E L d 4 1 [some (Sum.inr x)] (Sum.inr x :: st) M := eb_E_s hk4 rfl
theorem e4_1  : eb_E L d 4 1 ls (Sum.inr (some a) :: st) (nc, ns, I, J, R) = if (eb_ty L a.1).1 = 0 then eb_E L d 4 4 ls (zi (I a 0) :: st) (nc, ns, I, J, R) else none := eb_E_iy hk4 rfl
theorem e4_4 {x : Int32} : eb_E L d 4 4 ls (zi x :: st) M = if x = 0 then eb_E L d 4 19 ls st M else eb_E L d 4 7 ls st M := eb_E_b hk4 rfl
theorem e4_7 {x : Option eb_A} : eb_E L d 4 7 [some (Sum.inr x)] (st) M = eb_E L d 4 8 [some (Sum.inr x)] (Sum.inr x :: st) M := eb_E_s hk4 rfl
theorem e4_8  : eb_E L d 4 8 ls (Sum.inr (some a) :: st) (nc, ns, I, J, R) = if (eb_ty L a.1).1 = 0 then eb_E L d 4 11 ls (zi (I a 0) :: st) (nc, ns, I, J, R) else none := eb_E_iy hk4 rfl
theorem e4_11  : eb_E L d 4 11 ls (st) M = eb_E L d 4 12 ls (zi 3 :: st) M := eb_E_s hk4 rfl
theorem e4_12 {x : Int32} {y : Int32} : eb_E L d 4 12 ls (zi y :: zi x :: st) M = if x = y then eb_E L d 4 19 ls st M else eb_E L d 4 15 ls st M := eb_E_b hk4 rfl
theorem e4_15  : eb_E L d 4 15 ls (st) M = eb_E L d 4 16 ls (zi 1 :: st) M := eb_E_s hk4 rfl
theorem e4_16  : eb_E L d 4 16 ls (st) M = eb_E L d 4 20 ls (st) M := eb_E_s hk4 rfl
theorem e4_19  : eb_E L d 4 19 ls (st) M = eb_E L d 4 20 ls (zi 0 :: st) M := eb_E_s hk4 rfl
theorem e4_20 {x : Int32} : eb_E L d 4 20 ls ([zi x]) M = if x = 0 ∨ x = 1 then some (zi x, M) else none := eb_E_ri hk4 rfl
/-! X0_comesLate -/
theorem hk5 : eb_cd L 5 = eb_look (kt5 L) := rfl
theorem h5 (ha : (eb_ty L a.1).1 = 0) : eb_ev L (d + 1) 5 [zr a] M = eb_E L d 5 0 [some (zr a)] [] M := eb_ev_s rfl (eb_chk_i ha rfl)
theorem e5_0 {x : Option eb_A} : eb_E L d 5 0 [some (Sum.inr x)] (st) M = eb_E L d 5 1 [some (Sum.inr x)] (Sum.inr x :: st) M := eb_E_s hk5 rfl
theorem e5_1  : eb_E L d 5 1 ls (Sum.inr (some a) :: st) (nc, ns, I, J, R) = if (eb_ty L a.1).1 = 0 then eb_E L d 5 4 ls (zi (I a 0) :: st) (nc, ns, I, J, R) else none := eb_E_iy hk5 rfl
theorem e5_4  : eb_E L d 5 4 ls (st) M = eb_E L d 5 5 ls (zi 5 :: st) M := eb_E_s hk5 rfl
theorem e5_5 {x : Int32} {y : Int32} : eb_E L d 5 5 ls (zi y :: zi x :: st) M = if x = y then eb_E L d 5 8 ls st M else eb_E L d 5 12 ls st M := eb_E_b hk5 rfl
theorem e5_8  : eb_E L d 5 8 ls (st) M = eb_E L d 5 9 ls (zi 1 :: st) M := eb_E_s hk5 rfl
theorem e5_9  : eb_E L d 5 9 ls (st) M = eb_E L d 5 13 ls (st) M := eb_E_s hk5 rfl
theorem e5_12  : eb_E L d 5 12 ls (st) M = eb_E L d 5 13 ls (zi 0 :: st) M := eb_E_s hk5 rfl
theorem e5_13 {x : Int32} : eb_E L d 5 13 ls ([zi x]) M = if x = 0 ∨ x = 1 then some (zi x, M) else none := eb_E_ri hk5 rfl
/-! X1_init -/
theorem hk6 : eb_cd L 6 = eb_look (kt6 L) := rfl
theorem h6 (ha : (eb_ty L a.1).1 = 1) : eb_ev L (d + 1) 6 [zr a] M = eb_E L d 6 0 [some (zr a)] [] M := eb_ev_s rfl (eb_chk_i ha rfl)
theorem e6_0 {x : Option eb_A} : eb_E L d 6 0 [some (Sum.inr x)] (st) M = eb_E L d 6 1 [some (Sum.inr x)] (Sum.inr x :: st) M := eb_E_s hk6 rfl
theorem e6_1  : eb_E L d 6 1 ls ([a0]) M = (eb_ev L d 903 [a0] M).bind (fun q => eb_E L d 6 4 ls [] q.2) := eb_E_c hk6 rfl
theorem e6_4  : eb_E L d 6 4 ls ([]) M = some (zn, M) := eb_E_r hk6 rfl
/-! X1_open -/
theorem hk7 : eb_cd L 7 = eb_look (kt7 L) := rfl
theorem h7 (ha : (eb_ty L a.1).1 = 1) {x1 : Int32} {x2 : Int32} {x3 : Int32} : eb_ev L (d + 1) 7 [zr a, zi x1, zi x2, zi x3] M = eb_E L d 7 0 [some (zr a), some (zi x1), some (zi x2), some (zi x3)] [] M := eb_ev_s rfl (eb_chk_i ha rfl)
theorem e7_0 {x : Option eb_A} : eb_E L d 7 0 [some (Sum.inr x), v1, v2, v3] (st) M = eb_E L d 7 1 [some (Sum.inr x), v1, v2, v3] (Sum.inr x :: st) M := eb_E_s hk7 rfl
theorem e7_1 {x : Int32} : eb_E L d 7 1 [v0, some (zi x), v2, v3] (st) M = eb_E L d 7 2 [v0, some (zi x), v2, v3] (zi x :: st) M := eb_E_s hk7 rfl
theorem e7_2 {x : Int32} : eb_E L d 7 2 ls (zi x :: Sum.inr (some a) :: st) (nc, ns, I, J, R) = if (eb_ty L a.1).1 = 1 then eb_E L d 7 5 ls (st) (nc, ns, eb_u I a 0 x, J, R) else none := eb_E_iy hk7 rfl
theorem e7_5 {x : Option eb_A} : eb_E L d 7 5 [some (Sum.inr x), v1, v2, v3] (st) M = eb_E L d 7 6 [some (Sum.inr x), v1, v2, v3] (Sum.inr x :: st) M := eb_E_s hk7 rfl
theorem e7_6 {x : Int32} : eb_E L d 7 6 [v0, some (zi x), v2, v3] (st) M = eb_E L d 7 7 [v0, some (zi x), v2, v3] (zi x :: st) M := eb_E_s hk7 rfl
theorem e7_7 {x : Int32} : eb_E L d 7 7 ls (zi x :: Sum.inr (some a) :: st) (nc, ns, I, J, R) = if (eb_ty L a.1).1 = 1 then eb_E L d 7 10 ls (st) (nc, ns, eb_u I a 1 x, J, R) else none := eb_E_iy hk7 rfl
theorem e7_10 {x : Option eb_A} : eb_E L d 7 10 [some (Sum.inr x), v1, v2, v3] (st) M = eb_E L d 7 11 [some (Sum.inr x), v1, v2, v3] (Sum.inr x :: st) M := eb_E_s hk7 rfl
theorem e7_11 {x : Int32} : eb_E L d 7 11 [v0, v1, some (zi x), v3] (st) M = eb_E L d 7 12 [v0, v1, some (zi x), v3] (zi x :: st) M := eb_E_s hk7 rfl
theorem e7_12 {x : Int32} : eb_E L d 7 12 ls (zi x :: Sum.inr (some a) :: st) (nc, ns, I, J, R) = if (eb_ty L a.1).1 = 1 then eb_E L d 7 15 ls (st) (nc, ns, eb_u I a 2 x, J, R) else none := eb_E_iy hk7 rfl
theorem e7_15 {x : Option eb_A} : eb_E L d 7 15 [some (Sum.inr x), v1, v2, v3] (st) M = eb_E L d 7 16 [some (Sum.inr x), v1, v2, v3] (Sum.inr x :: st) M := eb_E_s hk7 rfl
theorem e7_16 {x : Int32} : eb_E L d 7 16 [v0, v1, v2, some (zi x)] (st) M = eb_E L d 7 17 [v0, v1, v2, some (zi x)] (zi x :: st) M := eb_E_s hk7 rfl
theorem e7_17 {x : Int32} : eb_E L d 7 17 ls (zi x :: Sum.inr (some a) :: st) (nc, ns, I, J, R) = if (eb_ty L a.1).1 = 1 then eb_E L d 7 20 ls (st) (nc, ns, eb_u I a 3 x, J, R) else none := eb_E_iy hk7 rfl
theorem e7_20 {x : Option eb_A} : eb_E L d 7 20 [some (Sum.inr x), v1, v2, v3] (st) M = eb_E L d 7 21 [some (Sum.inr x), v1, v2, v3] (Sum.inr x :: st) M := eb_E_s hk7 rfl
theorem e7_21  : eb_E L d 7 21 ls (st) M = eb_E L d 7 22 ls (zi (-1) :: st) M := eb_E_s hk7 rfl
theorem e7_22 {x : Int32} : eb_E L d 7 22 ls (zi x :: Sum.inr (some a) :: st) (nc, ns, I, J, R) = if (eb_ty L a.1).1 = 1 then eb_E L d 7 25 ls (st) (nc, ns, eb_u I a 4 x, J, R) else none := eb_E_iy hk7 rfl
theorem e7_25 {x : Option eb_A} : eb_E L d 7 25 [some (Sum.inr x), v1, v2, v3] (st) M = eb_E L d 7 26 [some (Sum.inr x), v1, v2, v3] (Sum.inr x :: st) M := eb_E_s hk7 rfl
theorem e7_26  : eb_E L d 7 26 ls (st) M = eb_E L d 7 27 ls (zi 0 :: st) M := eb_E_s hk7 rfl
theorem e7_27 {x : Int32} : eb_E L d 7 27 ls (zi x :: Sum.inr (some a) :: st) (nc, ns, I, J, R) = if (eb_ty L a.1).1 = 1 then eb_E L d 7 30 ls (st) (nc, ns, eb_u I a 5 x, J, R) else none := eb_E_iy hk7 rfl
theorem e7_30 {x : Option eb_A} : eb_E L d 7 30 [some (Sum.inr x), v1, v2, v3] (st) M = eb_E L d 7 31 [some (Sum.inr x), v1, v2, v3] (Sum.inr x :: st) M := eb_E_s hk7 rfl
theorem e7_31  : eb_E L d 7 31 ls (st) M = eb_E L d 7 32 ls (zi 0 :: st) M := eb_E_s hk7 rfl
theorem e7_32 {x : Int32} : eb_E L d 7 32 ls (zi x :: Sum.inr (some a) :: st) (nc, ns, I, J, R) = if (eb_ty L a.1).1 = 1 then eb_E L d 7 35 ls (st) (nc, ns, eb_u I a 6 x, J, R) else none := eb_E_iy hk7 rfl
theorem e7_35  : eb_E L d 7 35 ls ([]) M = some (zn, M) := eb_E_r hk7 rfl
/-! X1_becomeLike -/
theorem hk8 : eb_cd L 8 = eb_look (kt8 L) := rfl
theorem h8 (ha : (eb_ty L a.1).1 = 1) {r1 : Option eb_A} : eb_ev L (d + 1) 8 [zr a, Sum.inr r1] M = eb_E L d 8 0 [some (zr a), some (Sum.inr r1)] [] M := eb_ev_s rfl (eb_chk_i ha rfl)
theorem e8_0 {x : Option eb_A} : eb_E L d 8 0 [some (Sum.inr x), v1] (st) M = eb_E L d 8 1 [some (Sum.inr x), v1] (Sum.inr x :: st) M := eb_E_s hk8 rfl
theorem e8_1 {x : Option eb_A} : eb_E L d 8 1 [v0, some (Sum.inr x)] (st) M = eb_E L d 8 2 [v0, some (Sum.inr x)] (Sum.inr x :: st) M := eb_E_s hk8 rfl
theorem e8_2  : eb_E L d 8 2 ls (Sum.inr (some a) :: st) (nc, ns, I, J, R) = if (eb_ty L a.1).1 = 1 then eb_E L d 8 5 ls (zi (I a 0) :: st) (nc, ns, I, J, R) else none := eb_E_iy hk8 rfl
theorem e8_5 {x : Int32} : eb_E L d 8 5 ls (zi x :: Sum.inr (some a) :: st) (nc, ns, I, J, R) = if (eb_ty L a.1).1 = 1 then eb_E L d 8 8 ls (st) (nc, ns, eb_u I a 0 x, J, R) else none := eb_E_iy hk8 rfl
theorem e8_8 {x : Option eb_A} : eb_E L d 8 8 [some (Sum.inr x), v1] (st) M = eb_E L d 8 9 [some (Sum.inr x), v1] (Sum.inr x :: st) M := eb_E_s hk8 rfl
theorem e8_9 {x : Option eb_A} : eb_E L d 8 9 [v0, some (Sum.inr x)] (st) M = eb_E L d 8 10 [v0, some (Sum.inr x)] (Sum.inr x :: st) M := eb_E_s hk8 rfl
theorem e8_10  : eb_E L d 8 10 ls (Sum.inr (some a) :: st) (nc, ns, I, J, R) = if (eb_ty L a.1).1 = 1 then eb_E L d 8 13 ls (zi (I a 1) :: st) (nc, ns, I, J, R) else none := eb_E_iy hk8 rfl
theorem e8_13 {x : Int32} : eb_E L d 8 13 ls (zi x :: Sum.inr (some a) :: st) (nc, ns, I, J, R) = if (eb_ty L a.1).1 = 1 then eb_E L d 8 16 ls (st) (nc, ns, eb_u I a 1 x, J, R) else none := eb_E_iy hk8 rfl
theorem e8_16 {x : Option eb_A} : eb_E L d 8 16 [some (Sum.inr x), v1] (st) M = eb_E L d 8 17 [some (Sum.inr x), v1] (Sum.inr x :: st) M := eb_E_s hk8 rfl
theorem e8_17 {x : Option eb_A} : eb_E L d 8 17 [v0, some (Sum.inr x)] (st) M = eb_E L d 8 18 [v0, some (Sum.inr x)] (Sum.inr x :: st) M := eb_E_s hk8 rfl
theorem e8_18  : eb_E L d 8 18 ls (Sum.inr (some a) :: st) (nc, ns, I, J, R) = if (eb_ty L a.1).1 = 1 then eb_E L d 8 21 ls (zi (I a 2) :: st) (nc, ns, I, J, R) else none := eb_E_iy hk8 rfl
theorem e8_21 {x : Int32} : eb_E L d 8 21 ls (zi x :: Sum.inr (some a) :: st) (nc, ns, I, J, R) = if (eb_ty L a.1).1 = 1 then eb_E L d 8 24 ls (st) (nc, ns, eb_u I a 2 x, J, R) else none := eb_E_iy hk8 rfl
theorem e8_24 {x : Option eb_A} : eb_E L d 8 24 [some (Sum.inr x), v1] (st) M = eb_E L d 8 25 [some (Sum.inr x), v1] (Sum.inr x :: st) M := eb_E_s hk8 rfl
theorem e8_25 {x : Option eb_A} : eb_E L d 8 25 [v0, some (Sum.inr x)] (st) M = eb_E L d 8 26 [v0, some (Sum.inr x)] (Sum.inr x :: st) M := eb_E_s hk8 rfl
theorem e8_26  : eb_E L d 8 26 ls (Sum.inr (some a) :: st) (nc, ns, I, J, R) = if (eb_ty L a.1).1 = 1 then eb_E L d 8 29 ls (zi (I a 3) :: st) (nc, ns, I, J, R) else none := eb_E_iy hk8 rfl
theorem e8_29 {x : Int32} : eb_E L d 8 29 ls (zi x :: Sum.inr (some a) :: st) (nc, ns, I, J, R) = if (eb_ty L a.1).1 = 1 then eb_E L d 8 32 ls (st) (nc, ns, eb_u I a 3 x, J, R) else none := eb_E_iy hk8 rfl
theorem e8_32 {x : Option eb_A} : eb_E L d 8 32 [some (Sum.inr x), v1] (st) M = eb_E L d 8 33 [some (Sum.inr x), v1] (Sum.inr x :: st) M := eb_E_s hk8 rfl
theorem e8_33 {x : Option eb_A} : eb_E L d 8 33 [v0, some (Sum.inr x)] (st) M = eb_E L d 8 34 [v0, some (Sum.inr x)] (Sum.inr x :: st) M := eb_E_s hk8 rfl
theorem e8_34  : eb_E L d 8 34 ls (Sum.inr (some a) :: st) (nc, ns, I, J, R) = if (eb_ty L a.1).1 = 1 then eb_E L d 8 37 ls (zi (I a 4) :: st) (nc, ns, I, J, R) else none := eb_E_iy hk8 rfl
theorem e8_37 {x : Int32} : eb_E L d 8 37 ls (zi x :: Sum.inr (some a) :: st) (nc, ns, I, J, R) = if (eb_ty L a.1).1 = 1 then eb_E L d 8 40 ls (st) (nc, ns, eb_u I a 4 x, J, R) else none := eb_E_iy hk8 rfl
theorem e8_40 {x : Option eb_A} : eb_E L d 8 40 [some (Sum.inr x), v1] (st) M = eb_E L d 8 41 [some (Sum.inr x), v1] (Sum.inr x :: st) M := eb_E_s hk8 rfl
theorem e8_41 {x : Option eb_A} : eb_E L d 8 41 [v0, some (Sum.inr x)] (st) M = eb_E L d 8 42 [v0, some (Sum.inr x)] (Sum.inr x :: st) M := eb_E_s hk8 rfl
theorem e8_42  : eb_E L d 8 42 ls (Sum.inr (some a) :: st) (nc, ns, I, J, R) = if (eb_ty L a.1).1 = 1 then eb_E L d 8 45 ls (zi (I a 5) :: st) (nc, ns, I, J, R) else none := eb_E_iy hk8 rfl
theorem e8_45 {x : Int32} : eb_E L d 8 45 ls (zi x :: Sum.inr (some a) :: st) (nc, ns, I, J, R) = if (eb_ty L a.1).1 = 1 then eb_E L d 8 48 ls (st) (nc, ns, eb_u I a 5 x, J, R) else none := eb_E_iy hk8 rfl
theorem e8_48 {x : Option eb_A} : eb_E L d 8 48 [some (Sum.inr x), v1] (st) M = eb_E L d 8 49 [some (Sum.inr x), v1] (Sum.inr x :: st) M := eb_E_s hk8 rfl
theorem e8_49 {x : Option eb_A} : eb_E L d 8 49 [v0, some (Sum.inr x)] (st) M = eb_E L d 8 50 [v0, some (Sum.inr x)] (Sum.inr x :: st) M := eb_E_s hk8 rfl
theorem e8_50  : eb_E L d 8 50 ls (Sum.inr (some a) :: st) (nc, ns, I, J, R) = if (eb_ty L a.1).1 = 1 then eb_E L d 8 53 ls (zi (I a 6) :: st) (nc, ns, I, J, R) else none := eb_E_iy hk8 rfl
theorem e8_53 {x : Int32} : eb_E L d 8 53 ls (zi x :: Sum.inr (some a) :: st) (nc, ns, I, J, R) = if (eb_ty L a.1).1 = 1 then eb_E L d 8 56 ls (st) (nc, ns, eb_u I a 6 x, J, R) else none := eb_E_iy hk8 rfl
theorem e8_56  : eb_E L d 8 56 ls ([]) M = some (zn, M) := eb_E_r hk8 rfl
/-! X1_hasRoomForLetter -/
theorem hk9 : eb_cd L 9 = eb_look (kt9 L) := rfl
theorem h9 (ha : (eb_ty L a.1).1 = 1) : eb_ev L (d + 1) 9 [zr a] M = eb_E L d 9 0 [some (zr a)] [] M := eb_ev_s rfl (eb_chk_i ha rfl)
theorem e9_0 {x : Option eb_A} : eb_E L d 9 0 [some (Sum.inr x)] (st) M = eb_E L d 9 1 [some (Sum.inr x)] (Sum.inr x :: st) M := eb_E_s hk9 rfl
theorem e9_1  : eb_E L d 9 1 ls (Sum.inr (some a) :: st) (nc, ns, I, J, R) = if (eb_ty L a.1).1 = 1 then eb_E L d 9 4 ls (zi (I a 5) :: st) (nc, ns, I, J, R) else none := eb_E_iy hk9 rfl
theorem e9_4  : eb_E L d 9 4 ls (st) M = eb_E L d 9 6 ls (zi 99 :: st) M := eb_E_s hk9 rfl
theorem e9_6 {x : Int32} {y : Int32} : eb_E L d 9 6 ls (zi y :: zi x :: st) M = if x < y then eb_E L d 9 9 ls st M else eb_E L d 9 13 ls st M := eb_E_b hk9 rfl
theorem e9_9  : eb_E L d 9 9 ls (st) M = eb_E L d 9 10 ls (zi 1 :: st) M := eb_E_s hk9 rfl
theorem e9_10  : eb_E L d 9 10 ls (st) M = eb_E L d 9 14 ls (st) M := eb_E_s hk9 rfl
theorem e9_13  : eb_E L d 9 13 ls (st) M = eb_E L d 9 14 ls (zi 0 :: st) M := eb_E_s hk9 rfl
theorem e9_14 {x : Int32} : eb_E L d 9 14 ls ([zi x]) M = if x = 0 ∨ x = 1 then some (zi x, M) else none := eb_E_ri hk9 rfl
/-! X1_receiveLetter -/
theorem hk10 : eb_cd L 10 = eb_look (kt10 L) := rfl
theorem h10 (ha : (eb_ty L a.1).1 = 1) {x1 : Int32} : eb_ev L (d + 1) 10 [zr a, zi x1] M = eb_E L d 10 0 [some (zr a), some (zi x1)] [] M := eb_ev_s rfl (eb_chk_i ha rfl)
theorem e10_0 {x : Option eb_A} : eb_E L d 10 0 [some (Sum.inr x), v1] (st) M = eb_E L d 10 1 [some (Sum.inr x), v1] (Sum.inr x :: st) M := eb_E_s hk10 rfl
theorem e10_1  : eb_E L d 10 1 ls ([a0]) M = (eb_ev L d 9 [a0] M).bind (fun q => eb_E L d 10 4 ls [q.1] q.2) := eb_E_c hk10 rfl
theorem e10_4 {x : Int32} : eb_E L d 10 4 ls (zi x :: st) M = if x = 0 then eb_E L d 10 7 ls st M else eb_E L d 10 9 ls st M := eb_E_b hk10 rfl
theorem e10_7  : eb_E L d 10 7 ls (st) M = eb_E L d 10 8 ls (zi 0 :: st) M := eb_E_s hk10 rfl
theorem e10_8 {x : Int32} : eb_E L d 10 8 ls ([zi x]) M = if x = 0 ∨ x = 1 then some (zi x, M) else none := eb_E_ri hk10 rfl
theorem e10_9 {x : Option eb_A} : eb_E L d 10 9 [some (Sum.inr x), v1] (st) M = eb_E L d 10 10 [some (Sum.inr x), v1] (Sum.inr x :: st) M := eb_E_s hk10 rfl
theorem e10_10a {x : Int32} : eb_E L d 10 10 ls (zi x :: st) M = eb_E L d 10 11 ls (zi x :: zi x :: st) M := eb_E_s hk10 rfl
theorem e10_10b {x : Option eb_A} : eb_E L d 10 10 ls (Sum.inr x :: st) M = eb_E L d 10 11 ls (Sum.inr x :: Sum.inr x :: st) M := eb_E_s hk10 rfl
theorem e10_11  : eb_E L d 10 11 ls (Sum.inr (some a) :: st) (nc, ns, I, J, R) = if (eb_ty L a.1).1 = 1 then eb_E L d 10 14 ls (zi (I a 5) :: st) (nc, ns, I, J, R) else none := eb_E_iy hk10 rfl
theorem e10_14  : eb_E L d 10 14 ls (st) M = eb_E L d 10 15 ls (zi 1 :: st) M := eb_E_s hk10 rfl
theorem e10_15 {x : Int32} {y : Int32} : eb_E L d 10 15 ls (zi y :: zi x :: st) M = eb_E L d 10 16 ls (zi (x + y) :: st) M := eb_E_s hk10 rfl
theorem e10_16 {x : Int32} : eb_E L d 10 16 ls (zi x :: Sum.inr (some a) :: st) (nc, ns, I, J, R) = if (eb_ty L a.1).1 = 1 then eb_E L d 10 19 ls (st) (nc, ns, eb_u I a 5 x, J, R) else none := eb_E_iy hk10 rfl
theorem e10_19 {x : Option eb_A} : eb_E L d 10 19 [some (Sum.inr x), v1] (st) M = eb_E L d 10 20 [some (Sum.inr x), v1] (Sum.inr x :: st) M := eb_E_s hk10 rfl
theorem e10_20a {x : Int32} : eb_E L d 10 20 ls (zi x :: st) M = eb_E L d 10 21 ls (zi x :: zi x :: st) M := eb_E_s hk10 rfl
theorem e10_20b {x : Option eb_A} : eb_E L d 10 20 ls (Sum.inr x :: st) M = eb_E L d 10 21 ls (Sum.inr x :: Sum.inr x :: st) M := eb_E_s hk10 rfl
theorem e10_21  : eb_E L d 10 21 ls (Sum.inr (some a) :: st) (nc, ns, I, J, R) = if (eb_ty L a.1).1 = 1 then eb_E L d 10 24 ls (zi (I a 6) :: st) (nc, ns, I, J, R) else none := eb_E_iy hk10 rfl
theorem e10_24 {x : Int32} : eb_E L d 10 24 [v0, some (zi x)] (st) M = eb_E L d 10 25 [v0, some (zi x)] (zi x :: st) M := eb_E_s hk10 rfl
theorem e10_25 {x : Int32} {y : Int32} : eb_E L d 10 25 ls (zi y :: zi x :: st) M = eb_E L d 10 26 ls (zi (x + y) :: st) M := eb_E_s hk10 rfl
theorem e10_26 {x : Int32} : eb_E L d 10 26 ls (zi x :: Sum.inr (some a) :: st) (nc, ns, I, J, R) = if (eb_ty L a.1).1 = 1 then eb_E L d 10 29 ls (st) (nc, ns, eb_u I a 6 x, J, R) else none := eb_E_iy hk10 rfl
theorem e10_29  : eb_E L d 10 29 ls (st) M = eb_E L d 10 30 ls (zi 1 :: st) M := eb_E_s hk10 rfl
theorem e10_30 {x : Int32} : eb_E L d 10 30 ls ([zi x]) M = if x = 0 ∨ x = 1 then some (zi x, M) else none := eb_E_ri hk10 rfl
/-! X1_leanWith -/
theorem hk11 : eb_cd L 11 = eb_look (kt11 L) := rfl
theorem h11 (ha : (eb_ty L a.1).1 = 1) {x1 : Int32} {x2 : Int32} : eb_ev L (d + 1) 11 [zr a, zi x1, zi x2] M = eb_E L d 11 0 [some (zr a), some (zi x1), some (zi x2), none] [] M := eb_ev_s rfl (eb_chk_i ha rfl)
theorem e11_0 {x : Option eb_A} : eb_E L d 11 0 [some (Sum.inr x), v1, v2, v3] (st) M = eb_E L d 11 1 [some (Sum.inr x), v1, v2, v3] (Sum.inr x :: st) M := eb_E_s hk11 rfl
theorem e11_1  : eb_E L d 11 1 ls (Sum.inr (some a) :: st) (nc, ns, I, J, R) = if (eb_ty L a.1).1 = 1 then eb_E L d 11 4 ls (zi (I a 5) :: st) (nc, ns, I, J, R) else none := eb_E_iy hk11 rfl
theorem e11_4 {x : Int32} : eb_E L d 11 4 [v0, some (zi x), v2, v3] (st) M = eb_E L d 11 5 [v0, some (zi x), v2, v3] (zi x :: st) M := eb_E_s hk11 rfl
theorem e11_5 {x : Int32} {y : Int32} : eb_E L d 11 5 ls (zi y :: zi x :: st) M = eb_E L d 11 6 ls (zi (x + y) :: st) M := eb_E_s hk11 rfl
theorem e11_6 {x : Int32} : eb_E L d 11 6 [v0, v1, v2, v3] (zi x :: st) M = eb_E L d 11 7 [v0, v1, v2, some (zi x)] (st) M := eb_E_s hk11 rfl
theorem e11_7 {x : Int32} : eb_E L d 11 7 [v0, v1, v2, some (zi x)] (st) M = eb_E L d 11 8 [v0, v1, v2, some (zi x)] (zi x :: st) M := eb_E_s hk11 rfl
theorem e11_8  : eb_E L d 11 8 ls (st) M = eb_E L d 11 9 ls (zi 1 :: st) M := eb_E_s hk11 rfl
theorem e11_9 {x : Int32} {y : Int32} : eb_E L d 11 9 ls (zi y :: zi x :: st) M = if x < y then eb_E L d 11 12 ls st M else eb_E L d 11 16 ls st M := eb_E_b hk11 rfl
theorem e11_12  : eb_E L d 11 12 ls (st) M = eb_E L d 11 13 ls (zi 0 :: st) M := eb_E_s hk11 rfl
theorem e11_13  : eb_E L d 11 13 ls (st) M = eb_E L d 11 31 ls (st) M := eb_E_s hk11 rfl
theorem e11_16 {x : Option eb_A} : eb_E L d 11 16 [some (Sum.inr x), v1, v2, v3] (st) M = eb_E L d 11 17 [some (Sum.inr x), v1, v2, v3] (Sum.inr x :: st) M := eb_E_s hk11 rfl
theorem e11_17  : eb_E L d 11 17 ls (Sum.inr (some a) :: st) (nc, ns, I, J, R) = if (eb_ty L a.1).1 = 1 then eb_E L d 11 20 ls (zi (I a 6) :: st) (nc, ns, I, J, R) else none := eb_E_iy hk11 rfl
theorem e11_20 {x : Int32} : eb_E L d 11 20 [v0, some (zi x), v2, v3] (st) M = eb_E L d 11 21 [v0, some (zi x), v2, v3] (zi x :: st) M := eb_E_s hk11 rfl
theorem e11_21 {x : Int32} : eb_E L d 11 21 [v0, v1, some (zi x), v3] (st) M = eb_E L d 11 22 [v0, v1, some (zi x), v3] (zi x :: st) M := eb_E_s hk11 rfl
theorem e11_22 {x : Int32} {y : Int32} : eb_E L d 11 22 ls (zi y :: zi x :: st) M = eb_E L d 11 23 ls (zi (x * y) :: st) M := eb_E_s hk11 rfl
theorem e11_23 {x : Int32} {y : Int32} : eb_E L d 11 23 ls (zi y :: zi x :: st) M = eb_E L d 11 24 ls (zi (x + y) :: st) M := eb_E_s hk11 rfl
theorem e11_24 {x : Int32} : eb_E L d 11 24 [v0, v1, v2, some (zi x)] (st) M = eb_E L d 11 25 [v0, v1, v2, some (zi x)] (zi x :: st) M := eb_E_s hk11 rfl
theorem e11_25 {x : Int32} {y : Int32} : eb_E L d 11 25 ls (zi y :: zi x :: st) M = if y = 0 then none else eb_E L d 11 26 ls (zi (x / y) :: st) M := eb_E_in hk11 rfl
theorem e11_26 {x : Option eb_A} : eb_E L d 11 26 [some (Sum.inr x), v1, v2, v3] (st) M = eb_E L d 11 27 [some (Sum.inr x), v1, v2, v3] (Sum.inr x :: st) M := eb_E_s hk11 rfl
theorem e11_27  : eb_E L d 11 27 ls (Sum.inr (some a) :: st) (nc, ns, I, J, R) = if (eb_ty L a.1).1 = 1 then eb_E L d 11 30 ls (zi (I a 0) :: st) (nc, ns, I, J, R) else none := eb_E_iy hk11 rfl
theorem e11_30 {x : Int32} {y : Int32} : eb_E L d 11 30 ls (zi y :: zi x :: st) M = eb_E L d 11 31 ls (zi (x - y) :: st) M := eb_E_s hk11 rfl
theorem e11_31 {x : Int32} : eb_E L d 11 31 ls ([zi x]) M = some (zi x, M) := eb_E_r hk11 rfl
/-! X1_isFull -/
theorem hk12 : eb_cd L 12 = eb_look (kt12 L) := rfl
theorem h12 (ha : (eb_ty L a.1).1 = 1) : eb_ev L (d + 1) 12 [zr a] M = eb_E L d 12 0 [some (zr a)] [] M := eb_ev_s rfl (eb_chk_i ha rfl)
theorem e12_0 {x : Option eb_A} : eb_E L d 12 0 [some (Sum.inr x)] (st) M = eb_E L d 12 1 [some (Sum.inr x)] (Sum.inr x :: st) M := eb_E_s hk12 rfl
theorem e12_1  : eb_E L d 12 1 ls (Sum.inr (some a) :: st) (nc, ns, I, J, R) = if (eb_ty L a.1).1 = 1 then eb_E L d 12 4 ls (zi (I a 7) :: st) (nc, ns, I, J, R) else none := eb_E_iy hk12 rfl
theorem e12_4 {x : Option eb_A} : eb_E L d 12 4 [some (Sum.inr x)] (st) M = eb_E L d 12 5 [some (Sum.inr x)] (Sum.inr x :: st) M := eb_E_s hk12 rfl
theorem e12_5  : eb_E L d 12 5 ls (Sum.inr (some a) :: st) (nc, ns, I, J, R) = if (eb_ty L a.1).1 = 1 then eb_E L d 12 8 ls (zi (I a 2) :: st) (nc, ns, I, J, R) else none := eb_E_iy hk12 rfl
theorem e12_8 {x : Int32} {y : Int32} : eb_E L d 12 8 ls (zi y :: zi x :: st) M = if x < y then eb_E L d 12 15 ls st M else eb_E L d 12 11 ls st M := eb_E_b hk12 rfl
theorem e12_11  : eb_E L d 12 11 ls (st) M = eb_E L d 12 12 ls (zi 1 :: st) M := eb_E_s hk12 rfl
theorem e12_12  : eb_E L d 12 12 ls (st) M = eb_E L d 12 16 ls (st) M := eb_E_s hk12 rfl
theorem e12_15  : eb_E L d 12 15 ls (st) M = eb_E L d 12 16 ls (zi 0 :: st) M := eb_E_s hk12 rfl
theorem e12_16 {x : Int32} : eb_E L d 12 16 ls ([zi x]) M = if x = 0 ∨ x = 1 then some (zi x, M) else none := eb_E_ri hk12 rfl
/-! X1_joyOfHead -/
theorem hk13 : eb_cd L 13 = eb_look (kt13 L) := rfl
theorem h13 (ha : (eb_ty L a.1).1 = 1) : eb_ev L (d + 1) 13 [zr a] M = eb_E L d 13 0 [some (zr a)] [] M := eb_ev_s rfl (eb_chk_i ha rfl)
theorem e13_0 {x : Option eb_A} : eb_E L d 13 0 [some (Sum.inr x)] (st) M = eb_E L d 13 1 [some (Sum.inr x)] (Sum.inr x :: st) M := eb_E_s hk13 rfl
theorem e13_1  : eb_E L d 13 1 ls (Sum.inr (some a) :: st) (nc, ns, I, J, R) = if (eb_ty L a.1).1 = 1 then eb_E L d 13 4 ls (zi (I a 0) :: st) (nc, ns, I, J, R) else none := eb_E_iy hk13 rfl
theorem e13_4 {x : Option eb_A} : eb_E L d 13 4 [some (Sum.inr x)] (st) M = eb_E L d 13 5 [some (Sum.inr x)] (Sum.inr x :: st) M := eb_E_s hk13 rfl
theorem e13_5  : eb_E L d 13 5 ls (Sum.inr (some a) :: st) (nc, ns, I, J, R) = if (eb_ty L a.1).1 = 1 then eb_E L d 13 8 ls (zi (I a 3) :: st) (nc, ns, I, J, R) else none := eb_E_iy hk13 rfl
theorem e13_8 {x : Int32} {y : Int32} : eb_E L d 13 8 ls (zi y :: zi x :: st) M = eb_E L d 13 9 ls (zi (x - y) :: st) M := eb_E_s hk13 rfl
theorem e13_9 {x : Option eb_A} : eb_E L d 13 9 [some (Sum.inr x)] (st) M = eb_E L d 13 10 [some (Sum.inr x)] (Sum.inr x :: st) M := eb_E_s hk13 rfl
theorem e13_10 {s0 : Int32} : eb_E L d 13 10 ls ([a0, zi s0]) M = (eb_ev L d 12 [a0] M).bind (fun q => eb_E L d 13 13 ls [q.1, zi s0] q.2) := eb_E_c hk13 rfl
theorem e13_13 {x : Int32} : eb_E L d 13 13 ls (zi x :: st) M = if x = 0 then eb_E L d 13 21 ls st M else eb_E L d 13 16 ls st M := eb_E_b hk13 rfl
theorem e13_16  : eb_E L d 13 16 ls (st) M = eb_E L d 13 18 ls (zi 20 :: st) M := eb_E_s hk13 rfl
theorem e13_18  : eb_E L d 13 18 ls (st) M = eb_E L d 13 22 ls (st) M := eb_E_s hk13 rfl
theorem e13_21  : eb_E L d 13 21 ls (st) M = eb_E L d 13 22 ls (zi 0 :: st) M := eb_E_s hk13 rfl
theorem e13_22 {x : Int32} {y : Int32} : eb_E L d 13 22 ls (zi y :: zi x :: st) M = eb_E L d 13 23 ls (zi (x - y) :: st) M := eb_E_s hk13 rfl
theorem e13_23 {x : Int32} : eb_E L d 13 23 ls ([zi x]) M = some (zi x, M) := eb_E_r hk13 rfl
/-! X1_takenTonight -/
theorem hk14 : eb_cd L 14 = eb_look (kt14 L) := rfl
theorem h14 (ha : (eb_ty L a.1).1 = 1) : eb_ev L (d + 1) 14 [zr a] M = eb_E L d 14 0 [some (zr a)] [] M := eb_ev_s rfl (eb_chk_i ha rfl)
theorem e14_0 {x : Option eb_A} : eb_E L d 14 0 [some (Sum.inr x)] (st) M = eb_E L d 14 1 [some (Sum.inr x)] (Sum.inr x :: st) M := eb_E_s hk14 rfl
theorem e14_1  : eb_E L d 14 1 ls (Sum.inr (some a) :: st) (nc, ns, I, J, R) = if (eb_ty L a.1).1 = 1 then eb_E L d 14 4 ls (zi (I a 3) :: st) (nc, ns, I, J, R) else none := eb_E_iy hk14 rfl
theorem e14_4 {x : Option eb_A} : eb_E L d 14 4 [some (Sum.inr x)] (st) M = eb_E L d 14 5 [some (Sum.inr x)] (Sum.inr x :: st) M := eb_E_s hk14 rfl
theorem e14_5  : eb_E L d 14 5 ls (Sum.inr (some a) :: st) (nc, ns, I, J, R) = if (eb_ty L a.1).1 = 1 then eb_E L d 14 8 ls (zi (I a 7) :: st) (nc, ns, I, J, R) else none := eb_E_iy hk14 rfl
theorem e14_8 {x : Int32} {y : Int32} : eb_E L d 14 8 ls (zi y :: zi x :: st) M = eb_E L d 14 9 ls (zi (x * y) :: st) M := eb_E_s hk14 rfl
theorem e14_9 {x : Int32} : eb_E L d 14 9 ls ([zi x]) M = some (zi x, M) := eb_E_r hk14 rfl
/-! X1_growOlder -/
theorem hk15 : eb_cd L 15 = eb_look (kt15 L) := rfl
theorem h15 (ha : (eb_ty L a.1).1 = 1) : eb_ev L (d + 1) 15 [zr a] M = eb_E L d 15 0 [some (zr a), none] [] M := eb_ev_s rfl (eb_chk_i ha rfl)
theorem e15_0 {x : Option eb_A} : eb_E L d 15 0 [some (Sum.inr x), v1] (st) M = eb_E L d 15 1 [some (Sum.inr x), v1] (Sum.inr x :: st) M := eb_E_s hk15 rfl
theorem e15_1a {x : Int32} : eb_E L d 15 1 ls (zi x :: st) M = eb_E L d 15 2 ls (zi x :: zi x :: st) M := eb_E_s hk15 rfl
theorem e15_1b {x : Option eb_A} : eb_E L d 15 1 ls (Sum.inr x :: st) M = eb_E L d 15 2 ls (Sum.inr x :: Sum.inr x :: st) M := eb_E_s hk15 rfl
theorem e15_2  : eb_E L d 15 2 ls (Sum.inr (some a) :: st) (nc, ns, I, J, R) = if (eb_ty L a.1).1 = 1 then eb_E L d 15 5 ls (zi (I a 8) :: st) (nc, ns, I, J, R) else none := eb_E_iy hk15 rfl
theorem e15_5 {x : Option eb_A} : eb_E L d 15 5 [some (Sum.inr x), v1] (st) M = eb_E L d 15 6 [some (Sum.inr x), v1] (Sum.inr x :: st) M := eb_E_s hk15 rfl
theorem e15_6 {s0 : Int32} {s1 : Option eb_A} : eb_E L d 15 6 ls ([a0, zi s0, Sum.inr s1]) M = (eb_ev L d 14 [a0] M).bind (fun q => eb_E L d 15 9 ls [q.1, zi s0, Sum.inr s1] q.2) := eb_E_c hk15 rfl
theorem e15_9 {x : Int32} {y : Int32} : eb_E L d 15 9 ls (zi y :: zi x :: st) M = eb_E L d 15 10 ls (zi (x + y) :: st) M := eb_E_s hk15 rfl
theorem e15_10 {x : Int32} : eb_E L d 15 10 ls (zi x :: Sum.inr (some a) :: st) (nc, ns, I, J, R) = if (eb_ty L a.1).1 = 1 then eb_E L d 15 13 ls (st) (nc, ns, eb_u I a 8 x, J, R) else none := eb_E_iy hk15 rfl
theorem e15_13 {x : Option eb_A} : eb_E L d 15 13 [some (Sum.inr x), v1] (st) M = eb_E L d 15 14 [some (Sum.inr x), v1] (Sum.inr x :: st) M := eb_E_s hk15 rfl
theorem e15_14  : eb_E L d 15 14 ls (Sum.inr (some a) :: st) (nc, ns, I, J, R) = if (eb_ty L a.1).1 = 1 then eb_E L d 15 17 ls (zi (I a 7) :: st) (nc, ns, I, J, R) else none := eb_E_iy hk15 rfl
theorem e15_17 {x : Int32} : eb_E L d 15 17 ls (zi x :: st) M = if 0 < x then eb_E L d 15 20 ls st M else eb_E L d 15 72 ls st M := eb_E_b hk15 rfl
theorem e15_20 {x : Option eb_A} : eb_E L d 15 20 [some (Sum.inr x), v1] (st) M = eb_E L d 15 21 [some (Sum.inr x), v1] (Sum.inr x :: st) M := eb_E_s hk15 rfl
theorem e15_21  : eb_E L d 15 21 ls (Sum.inr (some a) :: st) (nc, ns, I, J, R) = if (eb_ty L a.1).1 = 1 then eb_E L d 15 24 ls (zi (I a 4) :: st) (nc, ns, I, J, R) else none := eb_E_iy hk15 rfl
theorem e15_24  : eb_E L d 15 24 ls (st) M = eb_E L d 15 25 ls (zi (-1) :: st) M := eb_E_s hk15 rfl
theorem e15_25 {x : Int32} {y : Int32} : eb_E L d 15 25 ls (zi y :: zi x :: st) M = if x = y then eb_E L d 15 43 ls st M else eb_E L d 15 28 ls st M := eb_E_b hk15 rfl
theorem e15_28 {x : Option eb_A} : eb_E L d 15 28 [some (Sum.inr x), v1] (st) M = eb_E L d 15 29 [some (Sum.inr x), v1] (Sum.inr x :: st) M := eb_E_s hk15 rfl
theorem e15_29  : eb_E L d 15 29 ls (Sum.inr (some a) :: st) (nc, ns, I, J, R) = if (eb_ty L a.1).1 = 1 then eb_E L d 15 32 ls (zi (I a 0) :: st) (nc, ns, I, J, R) else none := eb_E_iy hk15 rfl
theorem e15_32 {x : Option eb_A} : eb_E L d 15 32 [some (Sum.inr x), v1] (st) M = eb_E L d 15 33 [some (Sum.inr x), v1] (Sum.inr x :: st) M := eb_E_s hk15 rfl
theorem e15_33  : eb_E L d 15 33 ls (Sum.inr (some a) :: st) (nc, ns, I, J, R) = if (eb_ty L a.1).1 = 1 then eb_E L d 15 36 ls (zi (I a 4) :: st) (nc, ns, I, J, R) else none := eb_E_iy hk15 rfl
theorem e15_36 {x : Int32} {y : Int32} : eb_E L d 15 36 ls (zi y :: zi x :: st) M = if x < y then eb_E L d 15 39 ls st M else eb_E L d 15 43 ls st M := eb_E_b hk15 rfl
theorem e15_39  : eb_E L d 15 39 ls (st) M = eb_E L d 15 40 ls (zi 1 :: st) M := eb_E_s hk15 rfl
theorem e15_40  : eb_E L d 15 40 ls (st) M = eb_E L d 15 44 ls (st) M := eb_E_s hk15 rfl
theorem e15_43  : eb_E L d 15 43 ls (st) M = eb_E L d 15 44 ls (zi 0 :: st) M := eb_E_s hk15 rfl
theorem e15_44 {x : Int32} : eb_E L d 15 44 [v0, v1] (zi x :: st) M = eb_E L d 15 45 [v0, some (zi x)] (st) M := eb_E_s hk15 rfl
theorem e15_45 {x : Option eb_A} : eb_E L d 15 45 [some (Sum.inr x), v1] (st) M = eb_E L d 15 46 [some (Sum.inr x), v1] (Sum.inr x :: st) M := eb_E_s hk15 rfl
theorem e15_46 {x : Int32} : eb_E L d 15 46 [v0, some (zi x)] (st) M = eb_E L d 15 47 [v0, some (zi x)] (zi x :: st) M := eb_E_s hk15 rfl
theorem e15_47 {x : Int32} : eb_E L d 15 47 ls (zi x :: st) M = if x = 0 then eb_E L d 15 64 ls st M else eb_E L d 15 50 ls st M := eb_E_b hk15 rfl
theorem e15_50  : eb_E L d 15 50 ls (st) M = eb_E L d 15 51 ls (zi 0 :: st) M := eb_E_s hk15 rfl
theorem e15_51 {x : Option eb_A} : eb_E L d 15 51 [some (Sum.inr x), v1] (st) M = eb_E L d 15 52 [some (Sum.inr x), v1] (Sum.inr x :: st) M := eb_E_s hk15 rfl
theorem e15_52  : eb_E L d 15 52 ls (Sum.inr (some a) :: st) (nc, ns, I, J, R) = if (eb_ty L a.1).1 = 1 then eb_E L d 15 55 ls (zi (I a 0) :: st) (nc, ns, I, J, R) else none := eb_E_iy hk15 rfl
theorem e15_55  : eb_E L d 15 55 ls (st) M = eb_E L d 15 57 ls (zi 10 :: st) M := eb_E_s hk15 rfl
theorem e15_57 {x : Int32} {y : Int32} : eb_E L d 15 57 ls (zi y :: zi x :: st) M = eb_E L d 15 58 ls (zi (x - y) :: st) M := eb_E_s hk15 rfl
theorem e15_58 {s0 : Option eb_A} : eb_E L d 15 58 ls ([a1, a0, Sum.inr s0]) M = (eb_ev L d 900 [a0, a1] M).bind (fun q => eb_E L d 15 61 ls [q.1, Sum.inr s0] q.2) := eb_E_c hk15 rfl
theorem e15_61  : eb_E L d 15 61 ls (st) M = eb_E L d 15 68 ls (st) M := eb_E_s hk15 rfl
theorem e15_64 {x : Option eb_A} : eb_E L d 15 64 [some (Sum.inr x), v1] (st) M = eb_E L d 15 65 [some (Sum.inr x), v1] (Sum.inr x :: st) M := eb_E_s hk15 rfl
theorem e15_65  : eb_E L d 15 65 ls (Sum.inr (some a) :: st) (nc, ns, I, J, R) = if (eb_ty L a.1).1 = 1 then eb_E L d 15 68 ls (zi (I a 0) :: st) (nc, ns, I, J, R) else none := eb_E_iy hk15 rfl
theorem e15_68  : eb_E L d 15 68 ls ([a1, a0]) M = (eb_ev L d 10 [a0, a1] M).bind (fun q => eb_E L d 15 71 ls [q.1] q.2) := eb_E_c hk15 rfl
theorem e15_71a {x : Int32} : eb_E L d 15 71 ls (zi x :: st) M = eb_E L d 15 72 ls (st) M := eb_E_s hk15 rfl
theorem e15_71b {x : Option eb_A} : eb_E L d 15 71 ls (Sum.inr x :: st) M = eb_E L d 15 72 ls (st) M := eb_E_s hk15 rfl
theorem e15_72 {x : Option eb_A} : eb_E L d 15 72 [some (Sum.inr x), v1] (st) M = eb_E L d 15 73 [some (Sum.inr x), v1] (Sum.inr x :: st) M := eb_E_s hk15 rfl
theorem e15_73  : eb_E L d 15 73 ls ([a0]) M = (eb_ev L d 12 [a0] M).bind (fun q => eb_E L d 15 76 ls [q.1] q.2) := eb_E_c hk15 rfl
theorem e15_76 {x : Int32} : eb_E L d 15 76 ls (zi x :: st) M = if x = 0 then eb_E L d 15 119 ls st M else eb_E L d 15 79 ls st M := eb_E_b hk15 rfl
theorem e15_79 {x : Option eb_A} : eb_E L d 15 79 [some (Sum.inr x), v1] (st) M = eb_E L d 15 80 [some (Sum.inr x), v1] (Sum.inr x :: st) M := eb_E_s hk15 rfl
theorem e15_80  : eb_E L d 15 80 ls (st) M = eb_E L d 15 81 ls (zi 0 :: st) M := eb_E_s hk15 rfl
theorem e15_81 {x : Option eb_A} : eb_E L d 15 81 [some (Sum.inr x), v1] (st) M = eb_E L d 15 82 [some (Sum.inr x), v1] (Sum.inr x :: st) M := eb_E_s hk15 rfl
theorem e15_82  : eb_E L d 15 82 ls (Sum.inr (some a) :: st) (nc, ns, I, J, R) = if (eb_ty L a.1).1 = 1 then eb_E L d 15 85 ls (zi (I a 0) :: st) (nc, ns, I, J, R) else none := eb_E_iy hk15 rfl
theorem e15_85  : eb_E L d 15 85 ls (st) M = eb_E L d 15 87 ls (zi 6 :: st) M := eb_E_s hk15 rfl
theorem e15_87 {x : Int32} {y : Int32} : eb_E L d 15 87 ls (zi y :: zi x :: st) M = eb_E L d 15 88 ls (zi (x - y) :: st) M := eb_E_s hk15 rfl
theorem e15_88 {s0 : Option eb_A} : eb_E L d 15 88 ls ([a1, a0, Sum.inr s0]) M = (eb_ev L d 900 [a0, a1] M).bind (fun q => eb_E L d 15 91 ls [q.1, Sum.inr s0] q.2) := eb_E_c hk15 rfl
theorem e15_91 {x : Int32} : eb_E L d 15 91 ls (zi x :: Sum.inr (some a) :: st) (nc, ns, I, J, R) = if (eb_ty L a.1).1 = 1 then eb_E L d 15 94 ls (st) (nc, ns, eb_u I a 0 x, J, R) else none := eb_E_iy hk15 rfl
theorem e15_94 {x : Option eb_A} : eb_E L d 15 94 [some (Sum.inr x), v1] (st) M = eb_E L d 15 95 [some (Sum.inr x), v1] (Sum.inr x :: st) M := eb_E_s hk15 rfl
theorem e15_95  : eb_E L d 15 95 ls (st) M = eb_E L d 15 97 ls (zi 99 :: st) M := eb_E_s hk15 rfl
theorem e15_97 {x : Option eb_A} : eb_E L d 15 97 [some (Sum.inr x), v1] (st) M = eb_E L d 15 98 [some (Sum.inr x), v1] (Sum.inr x :: st) M := eb_E_s hk15 rfl
theorem e15_98  : eb_E L d 15 98 ls (Sum.inr (some a) :: st) (nc, ns, I, J, R) = if (eb_ty L a.1).1 = 1 then eb_E L d 15 101 ls (zi (I a 3) :: st) (nc, ns, I, J, R) else none := eb_E_iy hk15 rfl
theorem e15_101 {x : Option eb_A} : eb_E L d 15 101 [some (Sum.inr x), v1] (st) M = eb_E L d 15 102 [some (Sum.inr x), v1] (Sum.inr x :: st) M := eb_E_s hk15 rfl
theorem e15_102  : eb_E L d 15 102 ls (Sum.inr (some a) :: st) (nc, ns, I, J, R) = if (eb_ty L a.1).1 = 1 then eb_E L d 15 105 ls (zi (I a 3) :: st) (nc, ns, I, J, R) else none := eb_E_iy hk15 rfl
theorem e15_105  : eb_E L d 15 105 ls (st) M = eb_E L d 15 106 ls (zi 4 :: st) M := eb_E_s hk15 rfl
theorem e15_106 {x : Int32} {y : Int32} : eb_E L d 15 106 ls (zi y :: zi x :: st) M = if y = 0 then none else eb_E L d 15 107 ls (zi (x / y) :: st) M := eb_E_in hk15 rfl
theorem e15_107 {x : Int32} {y : Int32} : eb_E L d 15 107 ls (zi y :: zi x :: st) M = eb_E L d 15 108 ls (zi (x + y) :: st) M := eb_E_s hk15 rfl
theorem e15_108  : eb_E L d 15 108 ls (st) M = eb_E L d 15 109 ls (zi 1 :: st) M := eb_E_s hk15 rfl
theorem e15_109 {x : Int32} {y : Int32} : eb_E L d 15 109 ls (zi y :: zi x :: st) M = eb_E L d 15 110 ls (zi (x + y) :: st) M := eb_E_s hk15 rfl
theorem e15_110 {s0 : Option eb_A} : eb_E L d 15 110 ls ([a1, a0, Sum.inr s0]) M = (eb_ev L d 901 [a0, a1] M).bind (fun q => eb_E L d 15 113 ls [q.1, Sum.inr s0] q.2) := eb_E_c hk15 rfl
theorem e15_113 {x : Int32} : eb_E L d 15 113 ls (zi x :: Sum.inr (some a) :: st) (nc, ns, I, J, R) = if (eb_ty L a.1).1 = 1 then eb_E L d 15 116 ls (st) (nc, ns, eb_u I a 3 x, J, R) else none := eb_E_iy hk15 rfl
theorem e15_116  : eb_E L d 15 116 ls (st) M = eb_E L d 15 181 ls (st) M := eb_E_s hk15 rfl
theorem e15_119  : eb_E L d 15 119 ls (st) M = eb_E L d 15 120 ls (zi 2 :: st) M := eb_E_s hk15 rfl
theorem e15_120 {x : Option eb_A} : eb_E L d 15 120 [some (Sum.inr x), v1] (st) M = eb_E L d 15 121 [some (Sum.inr x), v1] (Sum.inr x :: st) M := eb_E_s hk15 rfl
theorem e15_121  : eb_E L d 15 121 ls (Sum.inr (some a) :: st) (nc, ns, I, J, R) = if (eb_ty L a.1).1 = 1 then eb_E L d 15 124 ls (zi (I a 7) :: st) (nc, ns, I, J, R) else none := eb_E_iy hk15 rfl
theorem e15_124 {x : Int32} {y : Int32} : eb_E L d 15 124 ls (zi y :: zi x :: st) M = eb_E L d 15 125 ls (zi (x * y) :: st) M := eb_E_s hk15 rfl
theorem e15_125 {x : Option eb_A} : eb_E L d 15 125 [some (Sum.inr x), v1] (st) M = eb_E L d 15 126 [some (Sum.inr x), v1] (Sum.inr x :: st) M := eb_E_s hk15 rfl
theorem e15_126  : eb_E L d 15 126 ls (Sum.inr (some a) :: st) (nc, ns, I, J, R) = if (eb_ty L a.1).1 = 1 then eb_E L d 15 129 ls (zi (I a 2) :: st) (nc, ns, I, J, R) else none := eb_E_iy hk15 rfl
theorem e15_129 {x : Int32} {y : Int32} : eb_E L d 15 129 ls (zi y :: zi x :: st) M = if x < y then eb_E L d 15 132 ls st M else eb_E L d 15 181 ls st M := eb_E_b hk15 rfl
theorem e15_132 {x : Option eb_A} : eb_E L d 15 132 [some (Sum.inr x), v1] (st) M = eb_E L d 15 133 [some (Sum.inr x), v1] (Sum.inr x :: st) M := eb_E_s hk15 rfl
theorem e15_133 {x : Option eb_A} : eb_E L d 15 133 [some (Sum.inr x), v1] (st) M = eb_E L d 15 134 [some (Sum.inr x), v1] (Sum.inr x :: st) M := eb_E_s hk15 rfl
theorem e15_134  : eb_E L d 15 134 ls (Sum.inr (some a) :: st) (nc, ns, I, J, R) = if (eb_ty L a.1).1 = 1 then eb_E L d 15 137 ls (zi (I a 0) :: st) (nc, ns, I, J, R) else none := eb_E_iy hk15 rfl
theorem e15_137 {x : Option eb_A} : eb_E L d 15 137 [some (Sum.inr x), v1] (st) M = eb_E L d 15 138 [some (Sum.inr x), v1] (Sum.inr x :: st) M := eb_E_s hk15 rfl
theorem e15_138  : eb_E L d 15 138 ls (Sum.inr (some a) :: st) (nc, ns, I, J, R) = if (eb_ty L a.1).1 = 1 then eb_E L d 15 141 ls (zi (I a 1) :: st) (nc, ns, I, J, R) else none := eb_E_iy hk15 rfl
theorem e15_141 {x : Int32} {y : Int32} : eb_E L d 15 141 ls (zi y :: zi x :: st) M = if x < y then eb_E L d 15 144 ls st M else eb_E L d 15 160 ls st M := eb_E_b hk15 rfl
theorem e15_144 {x : Option eb_A} : eb_E L d 15 144 [some (Sum.inr x), v1] (st) M = eb_E L d 15 145 [some (Sum.inr x), v1] (Sum.inr x :: st) M := eb_E_s hk15 rfl
theorem e15_145  : eb_E L d 15 145 ls (Sum.inr (some a) :: st) (nc, ns, I, J, R) = if (eb_ty L a.1).1 = 1 then eb_E L d 15 148 ls (zi (I a 1) :: st) (nc, ns, I, J, R) else none := eb_E_iy hk15 rfl
theorem e15_148 {x : Option eb_A} : eb_E L d 15 148 [some (Sum.inr x), v1] (st) M = eb_E L d 15 149 [some (Sum.inr x), v1] (Sum.inr x :: st) M := eb_E_s hk15 rfl
theorem e15_149  : eb_E L d 15 149 ls (Sum.inr (some a) :: st) (nc, ns, I, J, R) = if (eb_ty L a.1).1 = 1 then eb_E L d 15 152 ls (zi (I a 0) :: st) (nc, ns, I, J, R) else none := eb_E_iy hk15 rfl
theorem e15_152  : eb_E L d 15 152 ls (st) M = eb_E L d 15 153 ls (zi 3 :: st) M := eb_E_s hk15 rfl
theorem e15_153 {x : Int32} {y : Int32} : eb_E L d 15 153 ls (zi y :: zi x :: st) M = eb_E L d 15 154 ls (zi (x + y) :: st) M := eb_E_s hk15 rfl
theorem e15_154 {s0 : Option eb_A} : eb_E L d 15 154 ls ([a1, a0, Sum.inr s0]) M = (eb_ev L d 901 [a0, a1] M).bind (fun q => eb_E L d 15 157 ls [q.1, Sum.inr s0] q.2) := eb_E_c hk15 rfl
theorem e15_157  : eb_E L d 15 157 ls (st) M = eb_E L d 15 164 ls (st) M := eb_E_s hk15 rfl
theorem e15_160 {x : Option eb_A} : eb_E L d 15 160 [some (Sum.inr x), v1] (st) M = eb_E L d 15 161 [some (Sum.inr x), v1] (Sum.inr x :: st) M := eb_E_s hk15 rfl
theorem e15_161  : eb_E L d 15 161 ls (Sum.inr (some a) :: st) (nc, ns, I, J, R) = if (eb_ty L a.1).1 = 1 then eb_E L d 15 164 ls (zi (I a 0) :: st) (nc, ns, I, J, R) else none := eb_E_iy hk15 rfl
theorem e15_164 {x : Int32} : eb_E L d 15 164 ls (zi x :: Sum.inr (some a) :: st) (nc, ns, I, J, R) = if (eb_ty L a.1).1 = 1 then eb_E L d 15 167 ls (st) (nc, ns, eb_u I a 0 x, J, R) else none := eb_E_iy hk15 rfl
theorem e15_167 {x : Option eb_A} : eb_E L d 15 167 [some (Sum.inr x), v1] (st) M = eb_E L d 15 168 [some (Sum.inr x), v1] (Sum.inr x :: st) M := eb_E_s hk15 rfl
theorem e15_168  : eb_E L d 15 168 ls (st) M = eb_E L d 15 169 ls (zi 0 :: st) M := eb_E_s hk15 rfl
theorem e15_169 {x : Option eb_A} : eb_E L d 15 169 [some (Sum.inr x), v1] (st) M = eb_E L d 15 170 [some (Sum.inr x), v1] (Sum.inr x :: st) M := eb_E_s hk15 rfl
theorem e15_170  : eb_E L d 15 170 ls (Sum.inr (some a) :: st) (nc, ns, I, J, R) = if (eb_ty L a.1).1 = 1 then eb_E L d 15 173 ls (zi (I a 3) :: st) (nc, ns, I, J, R) else none := eb_E_iy hk15 rfl
theorem e15_173  : eb_E L d 15 173 ls (st) M = eb_E L d 15 174 ls (zi 1 :: st) M := eb_E_s hk15 rfl
theorem e15_174 {x : Int32} {y : Int32} : eb_E L d 15 174 ls (zi y :: zi x :: st) M = eb_E L d 15 175 ls (zi (x - y) :: st) M := eb_E_s hk15 rfl
theorem e15_175 {s0 : Option eb_A} : eb_E L d 15 175 ls ([a1, a0, Sum.inr s0]) M = (eb_ev L d 900 [a0, a1] M).bind (fun q => eb_E L d 15 178 ls [q.1, Sum.inr s0] q.2) := eb_E_c hk15 rfl
theorem e15_178 {x : Int32} : eb_E L d 15 178 ls (zi x :: Sum.inr (some a) :: st) (nc, ns, I, J, R) = if (eb_ty L a.1).1 = 1 then eb_E L d 15 181 ls (st) (nc, ns, eb_u I a 3 x, J, R) else none := eb_E_iy hk15 rfl
theorem e15_181  : eb_E L d 15 181 ls ([]) M = some (zn, M) := eb_E_r hk15 rfl
/-! X2_init -/
theorem hk16 : eb_cd L 16 = eb_look (kt16 L) := rfl
theorem h16 (ha : (eb_ty L a.1).1 = 2) : eb_ev L (d + 1) 16 [zr a] M = eb_E L d 16 0 [some (zr a)] [] M := eb_ev_s rfl (eb_chk_i ha rfl)
theorem e16_0 {x : Option eb_A} : eb_E L d 16 0 [some (Sum.inr x)] (st) M = eb_E L d 16 1 [some (Sum.inr x)] (Sum.inr x :: st) M := eb_E_s hk16 rfl
theorem e16_1  : eb_E L d 16 1 ls ([a0]) M = (eb_ev L d 903 [a0] M).bind (fun q => eb_E L d 16 4 ls [] q.2) := eb_E_c hk16 rfl
theorem e16_4 {x : Option eb_A} : eb_E L d 16 4 [some (Sum.inr x)] (st) M = eb_E L d 16 5 [some (Sum.inr x)] (Sum.inr x :: st) M := eb_E_s hk16 rfl
theorem e16_5  : eb_E L d 16 5 ls (st) M = eb_E L d 16 6 ls (zi (-1) :: st) M := eb_E_s hk16 rfl
theorem e16_6 {x : Int32} : eb_E L d 16 6 ls (zi x :: Sum.inr (some a) :: st) (nc, ns, I, J, R) = if (eb_ty L a.1).1 = 2 then eb_E L d 16 9 ls (st) (nc, ns, eb_u I a 0 x, J, R) else none := eb_E_iy hk16 rfl
theorem e16_9 {x : Option eb_A} : eb_E L d 16 9 [some (Sum.inr x)] (st) M = eb_E L d 16 10 [some (Sum.inr x)] (Sum.inr x :: st) M := eb_E_s hk16 rfl
theorem e16_10  : eb_E L d 16 10 ls (st) M = eb_E L d 16 12 ls (zi 40 :: st) M := eb_E_s hk16 rfl
theorem e16_12 {x : Int32} : eb_E L d 16 12 ls (zi x :: st) (nc, ns, I, J, R) = if eb_ty L (eb_nm nc).1 = (11, x.toNatClampNeg) ∧ ¬ x < 0 ∧ x.toNatClampNeg ≤ 1000 then eb_E L d 16 14 ls (zr (eb_nm nc) :: st) (nc + 1, ns + x.toNatClampNeg, I, eb_zJ J (eb_nm nc), R) else none := eb_E_iy hk16 rfl
theorem e16_14 {x : Option eb_A} : eb_E L d 16 14 ls (Sum.inr x :: Sum.inr (some a) :: st) (nc, ns, I, J, R) = if (eb_ty L a.1).1 = 2 then eb_E L d 16 17 ls (st) (nc, ns, I, J, eb_u R a 2 x) else none := eb_E_iy hk16 rfl
theorem e16_17  : eb_E L d 16 17 ls ([]) M = some (zn, M) := eb_E_r hk16 rfl
/-! X2_holdsRow -/
theorem hk17 : eb_cd L 17 = eb_look (kt17 L) := rfl
theorem h17 (ha : (eb_ty L a.1).1 = 2) : eb_ev L (d + 1) 17 [zr a] M = eb_E L d 17 0 [some (zr a)] [] M := eb_ev_s rfl (eb_chk_i ha rfl)
theorem e17_0 {x : Option eb_A} : eb_E L d 17 0 [some (Sum.inr x)] (st) M = eb_E L d 17 1 [some (Sum.inr x)] (Sum.inr x :: st) M := eb_E_s hk17 rfl
theorem e17_1  : eb_E L d 17 1 ls (Sum.inr (some a) :: st) (nc, ns, I, J, R) = if (eb_ty L a.1).1 = 2 then eb_E L d 17 4 ls (zi (I a 0) :: st) (nc, ns, I, J, R) else none := eb_E_iy hk17 rfl
theorem e17_4  : eb_E L d 17 4 ls (st) M = eb_E L d 17 5 ls (zi 0 :: st) M := eb_E_s hk17 rfl
theorem e17_5  : eb_E L d 17 5 ls (st) M = eb_E L d 17 6 ls (zi 4 :: st) M := eb_E_s hk17 rfl
theorem e17_6  : eb_E L d 17 6 ls ([a2, a1, a0]) M = (eb_ev L d 127 [a0, a1, a2] M).bind (fun q => eb_E L d 17 9 ls [q.1] q.2) := eb_E_c hk17 rfl
theorem e17_9 {x : Int32} : eb_E L d 17 9 ls ([zi x]) M = if x = 0 ∨ x = 1 then some (zi x, M) else none := eb_E_ri hk17 rfl
/-! X2_holdsGoer -/
theorem hk18 : eb_cd L 18 = eb_look (kt18 L) := rfl
theorem h18 (ha : (eb_ty L a.1).1 = 2) : eb_ev L (d + 1) 18 [zr a] M = eb_E L d 18 0 [some (zr a)] [] M := eb_ev_s rfl (eb_chk_i ha rfl)
theorem e18_0 {x : Option eb_A} : eb_E L d 18 0 [some (Sum.inr x)] (st) M = eb_E L d 18 1 [some (Sum.inr x)] (Sum.inr x :: st) M := eb_E_s hk18 rfl
theorem e18_1  : eb_E L d 18 1 ls (Sum.inr (some a) :: st) (nc, ns, I, J, R) = if (eb_ty L a.1).1 = 2 then eb_E L d 18 4 ls (zi (I a 0) :: st) (nc, ns, I, J, R) else none := eb_E_iy hk18 rfl
theorem e18_4  : eb_E L d 18 4 ls (st) M = eb_E L d 18 6 ls (zi 10 :: st) M := eb_E_s hk18 rfl
theorem e18_6 {x : Int32} {y : Int32} : eb_E L d 18 6 ls (zi y :: zi x :: st) M = if x < y then eb_E L d 18 13 ls st M else eb_E L d 18 9 ls st M := eb_E_b hk18 rfl
theorem e18_9  : eb_E L d 18 9 ls (st) M = eb_E L d 18 10 ls (zi 1 :: st) M := eb_E_s hk18 rfl
theorem e18_10  : eb_E L d 18 10 ls (st) M = eb_E L d 18 14 ls (st) M := eb_E_s hk18 rfl
theorem e18_13  : eb_E L d 18 13 ls (st) M = eb_E L d 18 14 ls (zi 0 :: st) M := eb_E_s hk18 rfl
theorem e18_14 {x : Int32} : eb_E L d 18 14 ls ([zi x]) M = if x = 0 ∨ x = 1 then some (zi x, M) else none := eb_E_ri hk18 rfl
/-! X2_holdRow -/
theorem hk19 : eb_cd L 19 = eb_look (kt19 L) := rfl
theorem h19 (ha : (eb_ty L a.1).1 = 2) {x1 : Int32} {x2 : Int32} : eb_ev L (d + 1) 19 [zr a, zi x1, zi x2] M = eb_E L d 19 0 [some (zr a), some (zi x1), some (zi x2), none] [] M := eb_ev_s rfl (eb_chk_i ha rfl)
theorem e19_0 {x : Option eb_A} : eb_E L d 19 0 [some (Sum.inr x), v1, v2, v3] (st) M = eb_E L d 19 1 [some (Sum.inr x), v1, v2, v3] (Sum.inr x :: st) M := eb_E_s hk19 rfl
theorem e19_1 {x : Int32} : eb_E L d 19 1 [v0, some (zi x), v2, v3] (st) M = eb_E L d 19 2 [v0, some (zi x), v2, v3] (zi x :: st) M := eb_E_s hk19 rfl
theorem e19_2 {x : Int32} : eb_E L d 19 2 ls (zi x :: Sum.inr (some a) :: st) (nc, ns, I, J, R) = if (eb_ty L a.1).1 = 2 then eb_E L d 19 5 ls (st) (nc, ns, eb_u I a 0 x, J, R) else none := eb_E_iy hk19 rfl
theorem e19_5 {x : Option eb_A} : eb_E L d 19 5 [some (Sum.inr x), v1, v2, v3] (st) M = eb_E L d 19 6 [some (Sum.inr x), v1, v2, v3] (Sum.inr x :: st) M := eb_E_s hk19 rfl
theorem e19_6 {x : Int32} : eb_E L d 19 6 [v0, v1, some (zi x), v3] (st) M = eb_E L d 19 7 [v0, v1, some (zi x), v3] (zi x :: st) M := eb_E_s hk19 rfl
theorem e19_7 {x : Int32} : eb_E L d 19 7 ls (zi x :: Sum.inr (some a) :: st) (nc, ns, I, J, R) = if (eb_ty L a.1).1 = 2 then eb_E L d 19 10 ls (st) (nc, ns, eb_u I a 1 x, J, R) else none := eb_E_iy hk19 rfl
theorem e19_10  : eb_E L d 19 10 ls (st) M = eb_E L d 19 11 ls (zi 0 :: st) M := eb_E_s hk19 rfl
theorem e19_11 {x : Int32} : eb_E L d 19 11 [v0, v1, v2, v3] (zi x :: st) M = eb_E L d 19 12 [v0, v1, v2, some (zi x)] (st) M := eb_E_s hk19 rfl
theorem e19_12 {x : Int32} : eb_E L d 19 12 [v0, v1, v2, some (zi x)] (st) M = eb_E L d 19 13 [v0, v1, v2, some (zi x)] (zi x :: st) M := eb_E_s hk19 rfl
theorem e19_13  : eb_E L d 19 13 ls (st) M = eb_E L d 19 15 ls (zi 40 :: st) M := eb_E_s hk19 rfl
theorem e19_15 {x : Int32} {y : Int32} : eb_E L d 19 15 ls (zi y :: zi x :: st) M = if x < y then eb_E L d 19 18 ls st M else eb_E L d 19 31 ls st M := eb_E_b hk19 rfl
theorem e19_18 {x : Option eb_A} : eb_E L d 19 18 [some (Sum.inr x), v1, v2, v3] (st) M = eb_E L d 19 19 [some (Sum.inr x), v1, v2, v3] (Sum.inr x :: st) M := eb_E_s hk19 rfl
theorem e19_19  : eb_E L d 19 19 ls (Sum.inr (some a) :: st) (nc, ns, I, J, R) = if (eb_ty L a.1).1 = 2 then eb_E L d 19 22 ls (Sum.inr (R a 2) :: st) (nc, ns, I, J, R) else none := eb_E_iy hk19 rfl
theorem e19_22 {x : Int32} : eb_E L d 19 22 [v0, v1, v2, some (zi x)] (st) M = eb_E L d 19 23 [v0, v1, v2, some (zi x)] (zi x :: st) M := eb_E_s hk19 rfl
theorem e19_23  : eb_E L d 19 23 ls (st) M = eb_E L d 19 24 ls (zl 0 :: st) M := eb_E_s hk19 rfl
theorem e19_24 {x : Int32} {v : Int64} : eb_E L d 19 24 ls (zl v :: zi x :: Sum.inr (some a) :: st) (nc, ns, I, J, R) = if (eb_ty L a.1).1 = 11 ∧ eb_in x (eb_ty L a.1).2 = true then eb_E L d 19 25 ls (st) (nc, ns, I, eb_u J a x.toNatClampNeg v, R) else none := eb_E_iy hk19 rfl
theorem e19_25 {x : Int32} : eb_E L d 19 25 [v0, v1, v2, some (zi x)] (st) M = eb_E L d 19 28 [v0, v1, v2, some (zi (x + 1))] (st) M := eb_E_s hk19 rfl
theorem e19_28  : eb_E L d 19 28 ls (st) M = eb_E L d 19 12 ls (st) M := eb_E_s hk19 rfl
theorem e19_31  : eb_E L d 19 31 ls ([]) M = some (zn, M) := eb_E_r hk19 rfl
/-! X2_hasRun -/
theorem hk20 : eb_cd L 20 = eb_look (kt20 L) := rfl
theorem h20 (ha : (eb_ty L a.1).1 = 2) {x1 : Int32} {x2 : Int32} : eb_ev L (d + 1) 20 [zr a, zi x1, zi x2] M = eb_E L d 20 0 [some (zr a), some (zi x1), some (zi x2)] [] M := eb_ev_s rfl (eb_chk_i ha rfl)
theorem e20_0 {x : Int32} : eb_E L d 20 0 [v0, v1, some (zi x)] (st) M = eb_E L d 20 1 [v0, v1, some (zi x)] (zi x :: st) M := eb_E_s hk20 rfl
theorem e20_1 {x : Int32} : eb_E L d 20 1 ls (zi x :: st) M = if x < 0 then eb_E L d 20 22 ls st M else eb_E L d 20 4 ls st M := eb_E_b hk20 rfl
theorem e20_4 {x : Int32} : eb_E L d 20 4 [v0, some (zi x), v2] (st) M = eb_E L d 20 5 [v0, some (zi x), v2] (zi x :: st) M := eb_E_s hk20 rfl
theorem e20_5  : eb_E L d 20 5 ls (st) M = eb_E L d 20 6 ls (zi 0 :: st) M := eb_E_s hk20 rfl
theorem e20_6 {x : Option eb_A} : eb_E L d 20 6 [some (Sum.inr x), v1, v2] (st) M = eb_E L d 20 7 [some (Sum.inr x), v1, v2] (Sum.inr x :: st) M := eb_E_s hk20 rfl
theorem e20_7  : eb_E L d 20 7 ls (Sum.inr (some a) :: st) (nc, ns, I, J, R) = if (eb_ty L a.1).1 = 2 then eb_E L d 20 10 ls (zi (I a 1) :: st) (nc, ns, I, J, R) else none := eb_E_iy hk20 rfl
theorem e20_10 {x : Int32} : eb_E L d 20 10 [v0, v1, some (zi x)] (st) M = eb_E L d 20 11 [v0, v1, some (zi x)] (zi x :: st) M := eb_E_s hk20 rfl
theorem e20_11 {x : Int32} {y : Int32} : eb_E L d 20 11 ls (zi y :: zi x :: st) M = eb_E L d 20 12 ls (zi (x - y) :: st) M := eb_E_s hk20 rfl
theorem e20_12  : eb_E L d 20 12 ls ([a2, a1, a0]) M = (eb_ev L d 127 [a0, a1, a2] M).bind (fun q => eb_E L d 20 15 ls [q.1] q.2) := eb_E_c hk20 rfl
theorem e20_15 {x : Int32} : eb_E L d 20 15 ls (zi x :: st) M = if x = 0 then eb_E L d 20 22 ls st M else eb_E L d 20 18 ls st M := eb_E_b hk20 rfl
theorem e20_18  : eb_E L d 20 18 ls (st) M = eb_E L d 20 19 ls (zi 1 :: st) M := eb_E_s hk20 rfl
theorem e20_19  : eb_E L d 20 19 ls (st) M = eb_E L d 20 23 ls (st) M := eb_E_s hk20 rfl
theorem e20_22  : eb_E L d 20 22 ls (st) M = eb_E L d 20 23 ls (zi 0 :: st) M := eb_E_s hk20 rfl
theorem e20_23 {x : Int32} : eb_E L d 20 23 ls ([zi x]) M = if x = 0 ∨ x = 1 then some (zi x, M) else none := eb_E_ri hk20 rfl
/-! X2_put -/
theorem hk21 : eb_cd L 21 = eb_look (kt21 L) := rfl
theorem h21 (ha : (eb_ty L a.1).1 = 2) {x1 : Int32} {l2 : Int64} : eb_ev L (d + 1) 21 [zr a, zi x1, zl l2] M = eb_E L d 21 0 [some (zr a), some (zi x1), some (zl l2), none] [] M := eb_ev_s rfl (eb_chk_i ha rfl)
theorem e21_0 {x : Option eb_A} : eb_E L d 21 0 [some (Sum.inr x), v1, v2, v3] (st) M = eb_E L d 21 1 [some (Sum.inr x), v1, v2, v3] (Sum.inr x :: st) M := eb_E_s hk21 rfl
theorem e21_1  : eb_E L d 21 1 ls (Sum.inr (some a) :: st) (nc, ns, I, J, R) = if (eb_ty L a.1).1 = 2 then eb_E L d 21 4 ls (Sum.inr (R a 2) :: st) (nc, ns, I, J, R) else none := eb_E_iy hk21 rfl
theorem e21_4 {x : Int32} : eb_E L d 21 4 [v0, some (zi x), v2, v3] (st) M = eb_E L d 21 5 [v0, some (zi x), v2, v3] (zi x :: st) M := eb_E_s hk21 rfl
theorem e21_5 {x : Option eb_A} : eb_E L d 21 5 [some (Sum.inr x), v1, v2, v3] (st) M = eb_E L d 21 6 [some (Sum.inr x), v1, v2, v3] (Sum.inr x :: st) M := eb_E_s hk21 rfl
theorem e21_6 {x : Int64} : eb_E L d 21 6 [v0, v1, some (zl x), v3] (st) M = eb_E L d 21 7 [v0, v1, some (zl x), v3] (zl x :: st) M := eb_E_s hk21 rfl
theorem e21_7 {s0 : Int32} {s1 : Option eb_A} : eb_E L d 21 7 ls ([a1, a0, zi s0, Sum.inr s1]) M = (eb_ev L d 22 [a0, a1] M).bind (fun q => eb_E L d 21 10 ls [q.1, zi s0, Sum.inr s1] q.2) := eb_E_c hk21 rfl
theorem e21_10 {x : Int32} {v : Int64} : eb_E L d 21 10 ls (zl v :: zi x :: Sum.inr (some a) :: st) (nc, ns, I, J, R) = if (eb_ty L a.1).1 = 11 ∧ eb_in x (eb_ty L a.1).2 = true then eb_E L d 21 11 ls (st) (nc, ns, I, eb_u J a x.toNatClampNeg v, R) else none := eb_E_iy hk21 rfl
theorem e21_11  : eb_E L d 21 11 ls ([]) M = some (zn, M) := eb_E_r hk21 rfl
/-! X2_lowestBits -/
theorem hk22 : eb_cd L 22 = eb_look (kt22 L) := rfl
theorem h22 (ha : (eb_ty L a.1).1 = 2) {l1 : Int64} : eb_ev L (d + 1) 22 [zr a, zl l1] M = eb_E L d 22 0 [some (zr a), some (zl l1), none] [] M := eb_ev_s rfl (eb_chk_i ha rfl)
theorem e22_0 {x : Option eb_A} : eb_E L d 22 0 [some (Sum.inr x), v1, v2] (st) M = eb_E L d 22 1 [some (Sum.inr x), v1, v2] (Sum.inr x :: st) M := eb_E_s hk22 rfl
theorem e22_1  : eb_E L d 22 1 ls (Sum.inr (some a) :: st) (nc, ns, I, J, R) = if (eb_ty L a.1).1 = 2 then eb_E L d 22 4 ls (zi (I a 0) :: st) (nc, ns, I, J, R) else none := eb_E_iy hk22 rfl
theorem e22_4 {x : Int32} : eb_E L d 22 4 ls (zi x :: st) M = eb_sw x (fun t => eb_E L d 22 t ls st M) 66 [(0, 40), (1, 45), (2, 50), (3, 66), (4, 54)] := eb_E_w hk22 rfl
theorem e22_40 {x : Int64} : eb_E L d 22 40 [v0, some (zl x), v2] (st) M = eb_E L d 22 41 [v0, some (zl x), v2] (zl x :: st) M := eb_E_s hk22 rfl
theorem e22_41 {x : Int64} : eb_E L d 22 41 ls (zl x :: st) M = eb_E L d 22 42 ls (zi x.toInt32 :: st) M := eb_E_s hk22 rfl
theorem e22_42 {x : Int32} : eb_E L d 22 42 ls (zi x :: st) M = eb_E L d 22 43 ls (zi x.toInt8.toInt32 :: st) M := eb_E_s hk22 rfl
theorem e22_43 {x : Int32} : eb_E L d 22 43 ls (zi x :: st) M = eb_E L d 22 44 ls (zl x.toInt64 :: st) M := eb_E_s hk22 rfl
theorem e22_44 {x : Int64} : eb_E L d 22 44 ls ([zl x]) M = some (zl x, M) := eb_E_r hk22 rfl
theorem e22_45 {x : Int64} : eb_E L d 22 45 [v0, some (zl x), v2] (st) M = eb_E L d 22 46 [v0, some (zl x), v2] (zl x :: st) M := eb_E_s hk22 rfl
theorem e22_46 {x : Int64} : eb_E L d 22 46 ls (zl x :: st) M = eb_E L d 22 47 ls (zi x.toInt32 :: st) M := eb_E_s hk22 rfl
theorem e22_47 {x : Int32} : eb_E L d 22 47 ls (zi x :: st) M = eb_E L d 22 48 ls (zi x.toInt16.toInt32 :: st) M := eb_E_s hk22 rfl
theorem e22_48 {x : Int32} : eb_E L d 22 48 ls (zi x :: st) M = eb_E L d 22 49 ls (zl x.toInt64 :: st) M := eb_E_s hk22 rfl
theorem e22_49 {x : Int64} : eb_E L d 22 49 ls ([zl x]) M = some (zl x, M) := eb_E_r hk22 rfl
theorem e22_50 {x : Int64} : eb_E L d 22 50 [v0, some (zl x), v2] (st) M = eb_E L d 22 51 [v0, some (zl x), v2] (zl x :: st) M := eb_E_s hk22 rfl
theorem e22_51 {x : Int64} : eb_E L d 22 51 ls (zl x :: st) M = eb_E L d 22 52 ls (zi x.toInt32 :: st) M := eb_E_s hk22 rfl
theorem e22_52 {x : Int32} : eb_E L d 22 52 ls (zi x :: st) M = eb_E L d 22 53 ls (zl x.toInt64 :: st) M := eb_E_s hk22 rfl
theorem e22_53 {x : Int64} : eb_E L d 22 53 ls ([zl x]) M = some (zl x, M) := eb_E_r hk22 rfl
theorem e22_54 {x : Int64} : eb_E L d 22 54 [v0, some (zl x), v2] (st) M = eb_E L d 22 55 [v0, some (zl x), v2] (zl x :: st) M := eb_E_s hk22 rfl
theorem e22_55  : eb_E L d 22 55 ls (st) M = eb_E L d 22 56 ls (zl 0 :: st) M := eb_E_s hk22 rfl
theorem e22_56 {x : Int64} {y : Int64} : eb_E L d 22 56 ls (zl y :: zl x :: st) M = eb_E L d 22 57 ls (zi (if x < y then -1 else if x = y then 0 else 1) :: st) M := eb_E_s hk22 rfl
theorem e22_57 {x : Int32} : eb_E L d 22 57 ls (zi x :: st) M = if x = 0 then eb_E L d 22 64 ls st M else eb_E L d 22 60 ls st M := eb_E_b hk22 rfl
theorem e22_60  : eb_E L d 22 60 ls (st) M = eb_E L d 22 61 ls (zl 1 :: st) M := eb_E_s hk22 rfl
theorem e22_61  : eb_E L d 22 61 ls (st) M = eb_E L d 22 65 ls (st) M := eb_E_s hk22 rfl
theorem e22_64  : eb_E L d 22 64 ls (st) M = eb_E L d 22 65 ls (zl 0 :: st) M := eb_E_s hk22 rfl
theorem e22_65 {x : Int64} : eb_E L d 22 65 ls ([zl x]) M = some (zl x, M) := eb_E_r hk22 rfl
theorem e22_66 {x : Int64} : eb_E L d 22 66 [v0, some (zl x), v2] (st) M = eb_E L d 22 67 [v0, some (zl x), v2] (zl x :: st) M := eb_E_s hk22 rfl
theorem e22_67 {x : Int64} : eb_E L d 22 67 ls ([zl x]) M = some (zl x, M) := eb_E_r hk22 rfl
/-! X3_init -/
theorem hk23 : eb_cd L 23 = eb_look (kt23 L) := rfl
theorem h23 (ha : (eb_ty L a.1).1 = 3) : eb_ev L (d + 1) 23 [zr a] M = eb_E L d 23 0 [some (zr a)] [] M := eb_ev_s rfl (eb_chk_i ha rfl)
theorem e23_0 {x : Option eb_A} : eb_E L d 23 0 [some (Sum.inr x)] (st) M = eb_E L d 23 1 [some (Sum.inr x)] (Sum.inr x :: st) M := eb_E_s hk23 rfl
theorem e23_1  : eb_E L d 23 1 ls ([a0]) M = (eb_ev L d 903 [a0] M).bind (fun q => eb_E L d 23 4 ls [] q.2) := eb_E_c hk23 rfl
theorem e23_4 {x : Option eb_A} : eb_E L d 23 4 [some (Sum.inr x)] (st) M = eb_E L d 23 5 [some (Sum.inr x)] (Sum.inr x :: st) M := eb_E_s hk23 rfl
theorem e23_5  : eb_E L d 23 5 ls (st) M = eb_E L d 23 8 ls (zi 250 :: st) M := eb_E_s hk23 rfl
theorem e23_8 {x : Int32} : eb_E L d 23 8 ls (zi x :: st) (nc, ns, I, J, R) = if eb_ty L (eb_nm nc).1 = (10, x.toNatClampNeg) ∧ ¬ x < 0 ∧ x.toNatClampNeg ≤ 1000 then eb_E L d 23 10 ls (zr (eb_nm nc) :: st) (nc + 1, ns + x.toNatClampNeg, eb_zI I (eb_nm nc), J, R) else none := eb_E_iy hk23 rfl
theorem e23_10 {x : Option eb_A} : eb_E L d 23 10 ls (Sum.inr x :: Sum.inr (some a) :: st) (nc, ns, I, J, R) = if (eb_ty L a.1).1 = 3 then eb_E L d 23 13 ls (st) (nc, ns, I, J, eb_u R a 0 x) else none := eb_E_iy hk23 rfl
theorem e23_13  : eb_E L d 23 13 ls ([]) M = some (zn, M) := eb_E_r hk23 rfl
/-! X3_append -/
theorem hk24 : eb_cd L 24 = eb_look (kt24 L) := rfl
theorem h24 (ha : (eb_ty L a.1).1 = 3) {x1 : Int32} : eb_ev L (d + 1) 24 [zr a, zi x1] M = eb_E L d 24 0 [some (zr a), some (zi x1)] [] M := eb_ev_s rfl (eb_chk_i ha rfl)
theorem e24_0 {x : Option eb_A} : eb_E L d 24 0 [some (Sum.inr x), v1] (st) M = eb_E L d 24 1 [some (Sum.inr x), v1] (Sum.inr x :: st) M := eb_E_s hk24 rfl
theorem e24_1  : eb_E L d 24 1 ls (Sum.inr (some a) :: st) (nc, ns, I, J, R) = if (eb_ty L a.1).1 = 3 then eb_E L d 24 4 ls (zi (I a 1) :: st) (nc, ns, I, J, R) else none := eb_E_iy hk24 rfl
theorem e24_4  : eb_E L d 24 4 ls (st) M = eb_E L d 24 7 ls (zi 250 :: st) M := eb_E_s hk24 rfl
theorem e24_7 {x : Int32} {y : Int32} : eb_E L d 24 7 ls (zi y :: zi x :: st) M = if x < y then eb_E L d 24 12 ls st M else eb_E L d 24 10 ls st M := eb_E_b hk24 rfl
theorem e24_10  : eb_E L d 24 10 ls (st) M = eb_E L d 24 11 ls (zi 0 :: st) M := eb_E_s hk24 rfl
theorem e24_11 {x : Int32} : eb_E L d 24 11 ls ([zi x]) M = if x = 0 ∨ x = 1 then some (zi x, M) else none := eb_E_ri hk24 rfl
theorem e24_12 {x : Option eb_A} : eb_E L d 24 12 [some (Sum.inr x), v1] (st) M = eb_E L d 24 13 [some (Sum.inr x), v1] (Sum.inr x :: st) M := eb_E_s hk24 rfl
theorem e24_13  : eb_E L d 24 13 ls (Sum.inr (some a) :: st) (nc, ns, I, J, R) = if (eb_ty L a.1).1 = 3 then eb_E L d 24 16 ls (Sum.inr (R a 0) :: st) (nc, ns, I, J, R) else none := eb_E_iy hk24 rfl
theorem e24_16 {x : Option eb_A} : eb_E L d 24 16 [some (Sum.inr x), v1] (st) M = eb_E L d 24 17 [some (Sum.inr x), v1] (Sum.inr x :: st) M := eb_E_s hk24 rfl
theorem e24_17  : eb_E L d 24 17 ls (Sum.inr (some a) :: st) (nc, ns, I, J, R) = if (eb_ty L a.1).1 = 3 then eb_E L d 24 20 ls (zi (I a 1) :: st) (nc, ns, I, J, R) else none := eb_E_iy hk24 rfl
theorem e24_20 {x : Int32} : eb_E L d 24 20 [v0, some (zi x)] (st) M = eb_E L d 24 21 [v0, some (zi x)] (zi x :: st) M := eb_E_s hk24 rfl
theorem e24_21 {x : Int32} {v : Int32} : eb_E L d 24 21 ls (zi v :: zi x :: Sum.inr (some a) :: st) (nc, ns, I, J, R) = if (eb_ty L a.1).1 = 10 ∧ eb_in x (eb_ty L a.1).2 = true then eb_E L d 24 22 ls (st) (nc, ns, eb_u I a x.toNatClampNeg v, J, R) else none := eb_E_iy hk24 rfl
theorem e24_22 {x : Option eb_A} : eb_E L d 24 22 [some (Sum.inr x), v1] (st) M = eb_E L d 24 23 [some (Sum.inr x), v1] (Sum.inr x :: st) M := eb_E_s hk24 rfl
theorem e24_23a {x : Int32} : eb_E L d 24 23 ls (zi x :: st) M = eb_E L d 24 24 ls (zi x :: zi x :: st) M := eb_E_s hk24 rfl
theorem e24_23b {x : Option eb_A} : eb_E L d 24 23 ls (Sum.inr x :: st) M = eb_E L d 24 24 ls (Sum.inr x :: Sum.inr x :: st) M := eb_E_s hk24 rfl
theorem e24_24  : eb_E L d 24 24 ls (Sum.inr (some a) :: st) (nc, ns, I, J, R) = if (eb_ty L a.1).1 = 3 then eb_E L d 24 27 ls (zi (I a 1) :: st) (nc, ns, I, J, R) else none := eb_E_iy hk24 rfl
theorem e24_27  : eb_E L d 24 27 ls (st) M = eb_E L d 24 28 ls (zi 1 :: st) M := eb_E_s hk24 rfl
theorem e24_28 {x : Int32} {y : Int32} : eb_E L d 24 28 ls (zi y :: zi x :: st) M = eb_E L d 24 29 ls (zi (x + y) :: st) M := eb_E_s hk24 rfl
theorem e24_29 {x : Int32} : eb_E L d 24 29 ls (zi x :: Sum.inr (some a) :: st) (nc, ns, I, J, R) = if (eb_ty L a.1).1 = 3 then eb_E L d 24 32 ls (st) (nc, ns, eb_u I a 1 x, J, R) else none := eb_E_iy hk24 rfl
theorem e24_32  : eb_E L d 24 32 ls (st) M = eb_E L d 24 33 ls (zi 1 :: st) M := eb_E_s hk24 rfl
theorem e24_33 {x : Int32} : eb_E L d 24 33 ls ([zi x]) M = if x = 0 ∨ x = 1 then some (zi x, M) else none := eb_E_ri hk24 rfl
/-! X3_readInto -/
theorem hk25 : eb_cd L 25 = eb_look (kt25 L) := rfl
theorem h25 (ha : (eb_ty L a.1).1 = 3) {r1 : Option eb_A} : eb_ev L (d + 1) 25 [zr a, Sum.inr r1] M = eb_E L d 25 0 [some (zr a), some (Sum.inr r1), none] [] M := eb_ev_s rfl (eb_chk_i ha rfl)
theorem e25_0 {x : Option eb_A} : eb_E L d 25 0 [some (Sum.inr x), v1, v2] (st) M = eb_E L d 25 1 [some (Sum.inr x), v1, v2] (Sum.inr x :: st) M := eb_E_s hk25 rfl
theorem e25_1  : eb_E L d 25 1 ls (st) M = eb_E L d 25 2 ls (zi 0 :: st) M := eb_E_s hk25 rfl
theorem e25_2 {x : Int32} : eb_E L d 25 2 ls (zi x :: Sum.inr (some a) :: st) (nc, ns, I, J, R) = if (eb_ty L a.1).1 = 3 then eb_E L d 25 5 ls (st) (nc, ns, eb_u I a 3 x, J, R) else none := eb_E_iy hk25 rfl
theorem e25_5 {x : Option eb_A} : eb_E L d 25 5 [some (Sum.inr x), v1, v2] (st) M = eb_E L d 25 6 [some (Sum.inr x), v1, v2] (Sum.inr x :: st) M := eb_E_s hk25 rfl
theorem e25_6  : eb_E L d 25 6 ls ([a0]) M = (eb_ev L d 35 [a0] M).bind (fun q => eb_E L d 25 9 ls [] q.2) := eb_E_c hk25 rfl
theorem e25_9  : eb_E L d 25 9 ls (st) M = eb_E L d 25 10 ls (zi 1 :: st) M := eb_E_s hk25 rfl
theorem e25_10 {x : Int32} : eb_E L d 25 10 [v0, v1, v2] (zi x :: st) M = eb_E L d 25 11 [v0, v1, some (zi x)] (st) M := eb_E_s hk25 rfl
theorem e25_11 {x : Int32} : eb_E L d 25 11 [v0, v1, some (zi x)] (st) M = eb_E L d 25 12 [v0, v1, some (zi x)] (zi x :: st) M := eb_E_s hk25 rfl
theorem e25_12  : eb_E L d 25 12 ls (st) M = eb_E L d 25 15 ls (zi 250 :: st) M := eb_E_s hk25 rfl
theorem e25_15 {x : Int32} {y : Int32} : eb_E L d 25 15 ls (zi y :: zi x :: st) M = if y < x then eb_E L d 25 57 ls st M else eb_E L d 25 18 ls st M := eb_E_b hk25 rfl
theorem e25_18 {x : Option eb_A} : eb_E L d 25 18 [some (Sum.inr x), v1, v2] (st) M = eb_E L d 25 19 [some (Sum.inr x), v1, v2] (Sum.inr x :: st) M := eb_E_s hk25 rfl
theorem e25_19 {x : Option eb_A} : eb_E L d 25 19 [v0, some (Sum.inr x), v2] (st) M = eb_E L d 25 20 [v0, some (Sum.inr x), v2] (Sum.inr x :: st) M := eb_E_s hk25 rfl
theorem e25_20  : eb_E L d 25 20 ls ([a1, a0]) M = (eb_ev L d 26 [a0, a1] M).bind (fun q => eb_E L d 25 23 ls [q.1] q.2) := eb_E_c hk25 rfl
theorem e25_23 {x : Int32} : eb_E L d 25 23 ls (zi x :: st) M = if x = 0 then eb_E L d 25 26 ls st M else eb_E L d 25 28 ls st M := eb_E_b hk25 rfl
theorem e25_26  : eb_E L d 25 26 ls (st) M = eb_E L d 25 27 ls (zi (-1) :: st) M := eb_E_s hk25 rfl
theorem e25_27 {x : Int32} : eb_E L d 25 27 ls ([zi x]) M = some (zi x, M) := eb_E_r hk25 rfl
theorem e25_28 {x : Option eb_A} : eb_E L d 25 28 [some (Sum.inr x), v1, v2] (st) M = eb_E L d 25 29 [some (Sum.inr x), v1, v2] (Sum.inr x :: st) M := eb_E_s hk25 rfl
theorem e25_29  : eb_E L d 25 29 ls (Sum.inr (some a) :: st) (nc, ns, I, J, R) = if (eb_ty L a.1).1 = 3 then eb_E L d 25 32 ls (zi (I a 4) :: st) (nc, ns, I, J, R) else none := eb_E_iy hk25 rfl
theorem e25_32 {x : Int32} : eb_E L d 25 32 ls (zi x :: st) M = if x = 0 then eb_E L d 25 35 ls st M else eb_E L d 25 37 ls st M := eb_E_b hk25 rfl
theorem e25_35 {x : Int32} : eb_E L d 25 35 [v0, v1, some (zi x)] (st) M = eb_E L d 25 36 [v0, v1, some (zi x)] (zi x :: st) M := eb_E_s hk25 rfl
theorem e25_36 {x : Int32} : eb_E L d 25 36 ls ([zi x]) M = some (zi x, M) := eb_E_r hk25 rfl
theorem e25_37 {x : Option eb_A} : eb_E L d 25 37 [some (Sum.inr x), v1, v2] (st) M = eb_E L d 25 38 [some (Sum.inr x), v1, v2] (Sum.inr x :: st) M := eb_E_s hk25 rfl
theorem e25_38  : eb_E L d 25 38 ls (Sum.inr (some a) :: st) (nc, ns, I, J, R) = if (eb_ty L a.1).1 = 3 then eb_E L d 25 41 ls (zi (I a 4) :: st) (nc, ns, I, J, R) else none := eb_E_iy hk25 rfl
theorem e25_41  : eb_E L d 25 41 ls (st) M = eb_E L d 25 42 ls (zi 3 :: st) M := eb_E_s hk25 rfl
theorem e25_42 {x : Int32} {y : Int32} : eb_E L d 25 42 ls (zi y :: zi x :: st) M = if x = y then eb_E L d 25 47 ls st M else eb_E L d 25 45 ls st M := eb_E_b hk25 rfl
theorem e25_45  : eb_E L d 25 45 ls (st) M = eb_E L d 25 46 ls (zi (-1) :: st) M := eb_E_s hk25 rfl
theorem e25_46 {x : Int32} : eb_E L d 25 46 ls ([zi x]) M = some (zi x, M) := eb_E_r hk25 rfl
theorem e25_47 {x : Option eb_A} : eb_E L d 25 47 [some (Sum.inr x), v1, v2] (st) M = eb_E L d 25 48 [some (Sum.inr x), v1, v2] (Sum.inr x :: st) M := eb_E_s hk25 rfl
theorem e25_48  : eb_E L d 25 48 ls ([a0]) M = (eb_ev L d 35 [a0] M).bind (fun q => eb_E L d 25 51 ls [] q.2) := eb_E_c hk25 rfl
theorem e25_51 {x : Int32} : eb_E L d 25 51 [v0, v1, some (zi x)] (st) M = eb_E L d 25 54 [v0, v1, some (zi (x + 1))] (st) M := eb_E_s hk25 rfl
theorem e25_54  : eb_E L d 25 54 ls (st) M = eb_E L d 25 11 ls (st) M := eb_E_s hk25 rfl
theorem e25_57  : eb_E L d 25 57 ls (st) M = eb_E L d 25 58 ls (zi (-1) :: st) M := eb_E_s hk25 rfl
theorem e25_58 {x : Int32} : eb_E L d 25 58 ls ([zi x]) M = some (zi x, M) := eb_E_r hk25 rfl
/-! X3_readStatement -/
theorem hk26 : eb_cd L 26 = eb_look (kt26 L) := rfl
theorem h26 (ha : (eb_ty L a.1).1 = 3) {r1 : Option eb_A} : eb_ev L (d + 1) 26 [zr a, Sum.inr r1] M = eb_E L d 26 0 [some (zr a), some (Sum.inr r1)] [] M := eb_ev_s rfl (eb_chk_i ha rfl)
theorem e26_0 {x : Option eb_A} : eb_E L d 26 0 [some (Sum.inr x), v1] (st) M = eb_E L d 26 1 [some (Sum.inr x), v1] (Sum.inr x :: st) M := eb_E_s hk26 rfl
theorem e26_1  : eb_E L d 26 1 ls (st) M = eb_E L d 26 3 ls (zr (50, 0, 0) :: st) M := eb_E_s hk26 rfl
theorem e26_3  : eb_E L d 26 3 ls ([a1, a0]) M = (eb_ev L d 34 [a0, a1] M).bind (fun q => eb_E L d 26 6 ls [q.1] q.2) := eb_E_c hk26 rfl
theorem e26_6 {x : Int32} : eb_E L d 26 6 ls (zi x :: st) M = if x = 0 then eb_E L d 26 15 ls st M else eb_E L d 26 9 ls st M := eb_E_b hk26 rfl
theorem e26_9 {x : Option eb_A} : eb_E L d 26 9 [some (Sum.inr x), v1] (st) M = eb_E L d 26 10 [some (Sum.inr x), v1] (Sum.inr x :: st) M := eb_E_s hk26 rfl
theorem e26_10 {x : Option eb_A} : eb_E L d 26 10 [v0, some (Sum.inr x)] (st) M = eb_E L d 26 11 [v0, some (Sum.inr x)] (Sum.inr x :: st) M := eb_E_s hk26 rfl
theorem e26_11  : eb_E L d 26 11 ls ([a1, a0]) M = (eb_ev L d 27 [a0, a1] M).bind (fun q => eb_E L d 26 14 ls [q.1] q.2) := eb_E_c hk26 rfl
theorem e26_14 {x : Int32} : eb_E L d 26 14 ls ([zi x]) M = if x = 0 ∨ x = 1 then some (zi x, M) else none := eb_E_ri hk26 rfl
theorem e26_15 {x : Option eb_A} : eb_E L d 26 15 [some (Sum.inr x), v1] (st) M = eb_E L d 26 16 [some (Sum.inr x), v1] (Sum.inr x :: st) M := eb_E_s hk26 rfl
theorem e26_16  : eb_E L d 26 16 ls (st) M = eb_E L d 26 18 ls (zr (50, 1, 0) :: st) M := eb_E_s hk26 rfl
theorem e26_18  : eb_E L d 26 18 ls ([a1, a0]) M = (eb_ev L d 34 [a0, a1] M).bind (fun q => eb_E L d 26 21 ls [q.1] q.2) := eb_E_c hk26 rfl
theorem e26_21 {x : Int32} : eb_E L d 26 21 ls (zi x :: st) M = if x = 0 then eb_E L d 26 30 ls st M else eb_E L d 26 24 ls st M := eb_E_b hk26 rfl
theorem e26_24 {x : Option eb_A} : eb_E L d 26 24 [some (Sum.inr x), v1] (st) M = eb_E L d 26 25 [some (Sum.inr x), v1] (Sum.inr x :: st) M := eb_E_s hk26 rfl
theorem e26_25 {x : Option eb_A} : eb_E L d 26 25 [v0, some (Sum.inr x)] (st) M = eb_E L d 26 26 [v0, some (Sum.inr x)] (Sum.inr x :: st) M := eb_E_s hk26 rfl
theorem e26_26  : eb_E L d 26 26 ls ([a1, a0]) M = (eb_ev L d 28 [a0, a1] M).bind (fun q => eb_E L d 26 29 ls [q.1] q.2) := eb_E_c hk26 rfl
theorem e26_29 {x : Int32} : eb_E L d 26 29 ls ([zi x]) M = if x = 0 ∨ x = 1 then some (zi x, M) else none := eb_E_ri hk26 rfl
theorem e26_30 {x : Option eb_A} : eb_E L d 26 30 [some (Sum.inr x), v1] (st) M = eb_E L d 26 31 [some (Sum.inr x), v1] (Sum.inr x :: st) M := eb_E_s hk26 rfl
theorem e26_31  : eb_E L d 26 31 ls (st) M = eb_E L d 26 33 ls (zr (50, 2, 0) :: st) M := eb_E_s hk26 rfl
theorem e26_33  : eb_E L d 26 33 ls ([a1, a0]) M = (eb_ev L d 34 [a0, a1] M).bind (fun q => eb_E L d 26 36 ls [q.1] q.2) := eb_E_c hk26 rfl
theorem e26_36 {x : Int32} : eb_E L d 26 36 ls (zi x :: st) M = if x = 0 then eb_E L d 26 45 ls st M else eb_E L d 26 39 ls st M := eb_E_b hk26 rfl
theorem e26_39 {x : Option eb_A} : eb_E L d 26 39 [some (Sum.inr x), v1] (st) M = eb_E L d 26 40 [some (Sum.inr x), v1] (Sum.inr x :: st) M := eb_E_s hk26 rfl
theorem e26_40 {x : Option eb_A} : eb_E L d 26 40 [v0, some (Sum.inr x)] (st) M = eb_E L d 26 41 [v0, some (Sum.inr x)] (Sum.inr x :: st) M := eb_E_s hk26 rfl
theorem e26_41  : eb_E L d 26 41 ls ([a1, a0]) M = (eb_ev L d 29 [a0, a1] M).bind (fun q => eb_E L d 26 44 ls [q.1] q.2) := eb_E_c hk26 rfl
theorem e26_44 {x : Int32} : eb_E L d 26 44 ls ([zi x]) M = if x = 0 ∨ x = 1 then some (zi x, M) else none := eb_E_ri hk26 rfl
theorem e26_45 {x : Option eb_A} : eb_E L d 26 45 [some (Sum.inr x), v1] (st) M = eb_E L d 26 46 [some (Sum.inr x), v1] (Sum.inr x :: st) M := eb_E_s hk26 rfl
theorem e26_46  : eb_E L d 26 46 ls (st) M = eb_E L d 26 48 ls (zr (50, 3, 0) :: st) M := eb_E_s hk26 rfl
theorem e26_48  : eb_E L d 26 48 ls ([a1, a0]) M = (eb_ev L d 34 [a0, a1] M).bind (fun q => eb_E L d 26 51 ls [q.1] q.2) := eb_E_c hk26 rfl
theorem e26_51 {x : Int32} : eb_E L d 26 51 ls (zi x :: st) M = if x = 0 then eb_E L d 26 60 ls st M else eb_E L d 26 54 ls st M := eb_E_b hk26 rfl
theorem e26_54 {x : Option eb_A} : eb_E L d 26 54 [some (Sum.inr x), v1] (st) M = eb_E L d 26 55 [some (Sum.inr x), v1] (Sum.inr x :: st) M := eb_E_s hk26 rfl
theorem e26_55 {x : Option eb_A} : eb_E L d 26 55 [v0, some (Sum.inr x)] (st) M = eb_E L d 26 56 [v0, some (Sum.inr x)] (Sum.inr x :: st) M := eb_E_s hk26 rfl
theorem e26_56  : eb_E L d 26 56 ls ([a1, a0]) M = (eb_ev L d 30 [a0, a1] M).bind (fun q => eb_E L d 26 59 ls [q.1] q.2) := eb_E_c hk26 rfl
theorem e26_59 {x : Int32} : eb_E L d 26 59 ls ([zi x]) M = if x = 0 ∨ x = 1 then some (zi x, M) else none := eb_E_ri hk26 rfl
theorem e26_60 {x : Option eb_A} : eb_E L d 26 60 [some (Sum.inr x), v1] (st) M = eb_E L d 26 61 [some (Sum.inr x), v1] (Sum.inr x :: st) M := eb_E_s hk26 rfl
theorem e26_61  : eb_E L d 26 61 ls (st) M = eb_E L d 26 63 ls (zr (50, 4, 0) :: st) M := eb_E_s hk26 rfl
theorem e26_63  : eb_E L d 26 63 ls ([a1, a0]) M = (eb_ev L d 34 [a0, a1] M).bind (fun q => eb_E L d 26 66 ls [q.1] q.2) := eb_E_c hk26 rfl
theorem e26_66 {x : Int32} : eb_E L d 26 66 ls (zi x :: st) M = if x = 0 then eb_E L d 26 81 ls st M else eb_E L d 26 69 ls st M := eb_E_b hk26 rfl
theorem e26_69 {x : Option eb_A} : eb_E L d 26 69 [some (Sum.inr x), v1] (st) M = eb_E L d 26 70 [some (Sum.inr x), v1] (Sum.inr x :: st) M := eb_E_s hk26 rfl
theorem e26_70 {x : Option eb_A} : eb_E L d 26 70 [v0, some (Sum.inr x)] (st) M = eb_E L d 26 71 [v0, some (Sum.inr x)] (Sum.inr x :: st) M := eb_E_s hk26 rfl
theorem e26_71  : eb_E L d 26 71 ls ([a1, a0]) M = (eb_ev L d 31 [a0, a1] M).bind (fun q => eb_E L d 26 74 ls [q.1] q.2) := eb_E_c hk26 rfl
theorem e26_74 {x : Int32} : eb_E L d 26 74 ls (zi x :: st) M = if x = 0 then eb_E L d 26 81 ls st M else eb_E L d 26 77 ls st M := eb_E_b hk26 rfl
theorem e26_77  : eb_E L d 26 77 ls (st) M = eb_E L d 26 78 ls (zi 1 :: st) M := eb_E_s hk26 rfl
theorem e26_78  : eb_E L d 26 78 ls (st) M = eb_E L d 26 82 ls (st) M := eb_E_s hk26 rfl
theorem e26_81  : eb_E L d 26 81 ls (st) M = eb_E L d 26 82 ls (zi 0 :: st) M := eb_E_s hk26 rfl
theorem e26_82 {x : Int32} : eb_E L d 26 82 ls ([zi x]) M = if x = 0 ∨ x = 1 then some (zi x, M) else none := eb_E_ri hk26 rfl
/-! X3_readInn -/
theorem hk27 : eb_cd L 27 = eb_look (kt27 L) := rfl
theorem h27 (ha : (eb_ty L a.1).1 = 3) {r1 : Option eb_A} : eb_ev L (d + 1) 27 [zr a, Sum.inr r1] M = eb_E L d 27 0 [some (zr a), some (Sum.inr r1), none, none, none, none] [] M := eb_ev_s rfl (eb_chk_i ha rfl)
theorem e27_0 {x : Option eb_A} : eb_E L d 27 0 [v0, some (Sum.inr x), v2, v3, v4, v5] (st) M = eb_E L d 27 1 [v0, some (Sum.inr x), v2, v3, v4, v5] (Sum.inr x :: st) M := eb_E_s hk27 rfl
theorem e27_1  : eb_E L d 27 1 ls (Sum.inr (some a) :: st) (nc, ns, I, J, R) = if (eb_ty L a.1).1 = 4 then eb_E L d 27 4 ls (zi (I a 2) :: st) (nc, ns, I, J, R) else none := eb_E_iy hk27 rfl
theorem e27_4  : eb_E L d 27 4 ls (st) M = eb_E L d 27 6 ls (zi 6 :: st) M := eb_E_s hk27 rfl
theorem e27_6 {x : Int32} {y : Int32} : eb_E L d 27 6 ls (zi y :: zi x :: st) M = if x < y then eb_E L d 27 11 ls st M else eb_E L d 27 9 ls st M := eb_E_b hk27 rfl
theorem e27_9  : eb_E L d 27 9 ls (st) M = eb_E L d 27 10 ls (zi 0 :: st) M := eb_E_s hk27 rfl
theorem e27_10 {x : Int32} : eb_E L d 27 10 ls ([zi x]) M = if x = 0 ∨ x = 1 then some (zi x, M) else none := eb_E_ri hk27 rfl
theorem e27_11 {x : Option eb_A} : eb_E L d 27 11 [some (Sum.inr x), v1, v2, v3, v4, v5] (st) M = eb_E L d 27 12 [some (Sum.inr x), v1, v2, v3, v4, v5] (Sum.inr x :: st) M := eb_E_s hk27 rfl
theorem e27_12  : eb_E L d 27 12 ls ([a0]) M = (eb_ev L d 35 [a0] M).bind (fun q => eb_E L d 27 15 ls [] q.2) := eb_E_c hk27 rfl
theorem e27_15 {x : Option eb_A} : eb_E L d 27 15 [some (Sum.inr x), v1, v2, v3, v4, v5] (st) M = eb_E L d 27 16 [some (Sum.inr x), v1, v2, v3, v4, v5] (Sum.inr x :: st) M := eb_E_s hk27 rfl
theorem e27_16  : eb_E L d 27 16 ls (st) M = eb_E L d 27 17 ls (zi 0 :: st) M := eb_E_s hk27 rfl
theorem e27_17  : eb_E L d 27 17 ls (st) M = eb_E L d 27 19 ls (zi 100 :: st) M := eb_E_s hk27 rfl
theorem e27_19  : eb_E L d 27 19 ls ([a2, a1, a0]) M = (eb_ev L d 32 [a0, a1, a2] M).bind (fun q => eb_E L d 27 22 ls [q.1] q.2) := eb_E_c hk27 rfl
theorem e27_22 {x : Int32} : eb_E L d 27 22 [v0, v1, v2, v3, v4, v5] (zi x :: st) M = eb_E L d 27 23 [v0, v1, some (zi x), v3, v4, v5] (st) M := eb_E_s hk27 rfl
theorem e27_23 {x : Int32} : eb_E L d 27 23 [v0, v1, some (zi x), v3, v4, v5] (st) M = eb_E L d 27 24 [v0, v1, some (zi x), v3, v4, v5] (zi x :: st) M := eb_E_s hk27 rfl
theorem e27_24  : eb_E L d 27 24 ls (st) M = eb_E L d 27 25 ls (zi (-1) :: st) M := eb_E_s hk27 rfl
theorem e27_25 {x : Int32} {y : Int32} : eb_E L d 27 25 ls (zi y :: zi x :: st) M = if x = y then eb_E L d 27 28 ls st M else eb_E L d 27 32 ls st M := eb_E_b hk27 rfl
theorem e27_28  : eb_E L d 27 28 ls (st) M = eb_E L d 27 29 ls (zi (-1) :: st) M := eb_E_s hk27 rfl
theorem e27_29  : eb_E L d 27 29 ls (st) M = eb_E L d 27 39 ls (st) M := eb_E_s hk27 rfl
theorem e27_32 {x : Option eb_A} : eb_E L d 27 32 [some (Sum.inr x), v1, v2, v3, v4, v5] (st) M = eb_E L d 27 33 [some (Sum.inr x), v1, v2, v3, v4, v5] (Sum.inr x :: st) M := eb_E_s hk27 rfl
theorem e27_33  : eb_E L d 27 33 ls (st) M = eb_E L d 27 34 ls (zi 1 :: st) M := eb_E_s hk27 rfl
theorem e27_34  : eb_E L d 27 34 ls (st) M = eb_E L d 27 36 ls (zi 20 :: st) M := eb_E_s hk27 rfl
theorem e27_36  : eb_E L d 27 36 ls ([a2, a1, a0]) M = (eb_ev L d 32 [a0, a1, a2] M).bind (fun q => eb_E L d 27 39 ls [q.1] q.2) := eb_E_c hk27 rfl
theorem e27_39 {x : Int32} : eb_E L d 27 39 [v0, v1, v2, v3, v4, v5] (zi x :: st) M = eb_E L d 27 40 [v0, v1, v2, some (zi x), v4, v5] (st) M := eb_E_s hk27 rfl
theorem e27_40 {x : Int32} : eb_E L d 27 40 [v0, v1, v2, some (zi x), v4, v5] (st) M = eb_E L d 27 41 [v0, v1, v2, some (zi x), v4, v5] (zi x :: st) M := eb_E_s hk27 rfl
theorem e27_41  : eb_E L d 27 41 ls (st) M = eb_E L d 27 42 ls (zi (-1) :: st) M := eb_E_s hk27 rfl
theorem e27_42 {x : Int32} {y : Int32} : eb_E L d 27 42 ls (zi y :: zi x :: st) M = if x = y then eb_E L d 27 45 ls st M else eb_E L d 27 49 ls st M := eb_E_b hk27 rfl
theorem e27_45  : eb_E L d 27 45 ls (st) M = eb_E L d 27 46 ls (zi (-1) :: st) M := eb_E_s hk27 rfl
theorem e27_46  : eb_E L d 27 46 ls (st) M = eb_E L d 27 56 ls (st) M := eb_E_s hk27 rfl
theorem e27_49 {x : Option eb_A} : eb_E L d 27 49 [some (Sum.inr x), v1, v2, v3, v4, v5] (st) M = eb_E L d 27 50 [some (Sum.inr x), v1, v2, v3, v4, v5] (Sum.inr x :: st) M := eb_E_s hk27 rfl
theorem e27_50  : eb_E L d 27 50 ls (st) M = eb_E L d 27 51 ls (zi 0 :: st) M := eb_E_s hk27 rfl
theorem e27_51  : eb_E L d 27 51 ls (st) M = eb_E L d 27 53 ls (zi 99 :: st) M := eb_E_s hk27 rfl
theorem e27_53  : eb_E L d 27 53 ls ([a2, a1, a0]) M = (eb_ev L d 32 [a0, a1, a2] M).bind (fun q => eb_E L d 27 56 ls [q.1] q.2) := eb_E_c hk27 rfl
theorem e27_56 {x : Int32} : eb_E L d 27 56 [v0, v1, v2, v3, v4, v5] (zi x :: st) M = eb_E L d 27 58 [v0, v1, v2, v3, some (zi x), v5] (st) M := eb_E_s hk27 rfl
theorem e27_58 {x : Int32} : eb_E L d 27 58 [v0, v1, v2, v3, some (zi x), v5] (st) M = eb_E L d 27 60 [v0, v1, v2, v3, some (zi x), v5] (zi x :: st) M := eb_E_s hk27 rfl
theorem e27_60  : eb_E L d 27 60 ls (st) M = eb_E L d 27 61 ls (zi (-1) :: st) M := eb_E_s hk27 rfl
theorem e27_61 {x : Int32} {y : Int32} : eb_E L d 27 61 ls (zi y :: zi x :: st) M = if x = y then eb_E L d 27 64 ls st M else eb_E L d 27 66 ls st M := eb_E_b hk27 rfl
theorem e27_64  : eb_E L d 27 64 ls (st) M = eb_E L d 27 65 ls (zi 0 :: st) M := eb_E_s hk27 rfl
theorem e27_65 {x : Int32} : eb_E L d 27 65 ls ([zi x]) M = if x = 0 ∨ x = 1 then some (zi x, M) else none := eb_E_ri hk27 rfl
theorem e27_66 {x : Option eb_A} : eb_E L d 27 66 [v0, some (Sum.inr x), v2, v3, v4, v5] (st) M = eb_E L d 27 67 [v0, some (Sum.inr x), v2, v3, v4, v5] (Sum.inr x :: st) M := eb_E_s hk27 rfl
theorem e27_67 {x : Int32} : eb_E L d 27 67 [v0, v1, some (zi x), v3, v4, v5] (st) M = eb_E L d 27 68 [v0, v1, some (zi x), v3, v4, v5] (zi x :: st) M := eb_E_s hk27 rfl
theorem e27_68 {x : Int32} : eb_E L d 27 68 [v0, v1, v2, some (zi x), v4, v5] (st) M = eb_E L d 27 69 [v0, v1, v2, some (zi x), v4, v5] (zi x :: st) M := eb_E_s hk27 rfl
theorem e27_69 {x : Int32} : eb_E L d 27 69 [v0, v1, v2, v3, some (zi x), v5] (st) M = eb_E L d 27 71 [v0, v1, v2, v3, some (zi x), v5] (zi x :: st) M := eb_E_s hk27 rfl
theorem e27_71  : eb_E L d 27 71 ls ([a3, a2, a1, a0]) M = (eb_ev L d 40 [a0, a1, a2, a3] M).bind (fun q => eb_E L d 27 74 ls [q.1] q.2) := eb_E_c hk27 rfl
theorem e27_74 {x : Int32} : eb_E L d 27 74 [v0, v1, v2, v3, v4, v5] (zi x :: st) M = eb_E L d 27 76 [v0, v1, v2, v3, v4, some (zi x)] (st) M := eb_E_s hk27 rfl
theorem e27_76 {x : Int32} : eb_E L d 27 76 [v0, v1, v2, v3, v4, some (zi x)] (st) M = eb_E L d 27 78 [v0, v1, v2, v3, v4, some (zi x)] (zi x :: st) M := eb_E_s hk27 rfl
theorem e27_78  : eb_E L d 27 78 ls (st) M = eb_E L d 27 79 ls (zi (-1) :: st) M := eb_E_s hk27 rfl
theorem e27_79 {x : Int32} {y : Int32} : eb_E L d 27 79 ls (zi y :: zi x :: st) M = if x = y then eb_E L d 27 91 ls st M else eb_E L d 27 82 ls st M := eb_E_b hk27 rfl
theorem e27_82 {x : Option eb_A} : eb_E L d 27 82 [some (Sum.inr x), v1, v2, v3, v4, v5] (st) M = eb_E L d 27 83 [some (Sum.inr x), v1, v2, v3, v4, v5] (Sum.inr x :: st) M := eb_E_s hk27 rfl
theorem e27_83  : eb_E L d 27 83 ls (st) M = eb_E L d 27 85 ls (zr (50, 5, 0) :: st) M := eb_E_s hk27 rfl
theorem e27_85  : eb_E L d 27 85 ls ([a1, a0]) M = (eb_ev L d 34 [a0, a1] M).bind (fun q => eb_E L d 27 88 ls [q.1] q.2) := eb_E_c hk27 rfl
theorem e27_88 {x : Int32} : eb_E L d 27 88 ls (zi x :: st) M = if x = 0 then eb_E L d 27 91 ls st M else eb_E L d 27 103 ls st M := eb_E_b hk27 rfl
theorem e27_91 {x : Int32} : eb_E L d 27 91 [v0, v1, v2, v3, v4, some (zi x)] (st) M = eb_E L d 27 93 [v0, v1, v2, v3, v4, some (zi x)] (zi x :: st) M := eb_E_s hk27 rfl
theorem e27_93  : eb_E L d 27 93 ls (st) M = eb_E L d 27 94 ls (zi (-1) :: st) M := eb_E_s hk27 rfl
theorem e27_94 {x : Int32} {y : Int32} : eb_E L d 27 94 ls (zi y :: zi x :: st) M = if x = y then eb_E L d 27 101 ls st M else eb_E L d 27 97 ls st M := eb_E_b hk27 rfl
theorem e27_97  : eb_E L d 27 97 ls (st) M = eb_E L d 27 98 ls (zi 1 :: st) M := eb_E_s hk27 rfl
theorem e27_98  : eb_E L d 27 98 ls (st) M = eb_E L d 27 102 ls (st) M := eb_E_s hk27 rfl
theorem e27_101  : eb_E L d 27 101 ls (st) M = eb_E L d 27 102 ls (zi 0 :: st) M := eb_E_s hk27 rfl
theorem e27_102 {x : Int32} : eb_E L d 27 102 ls ([zi x]) M = if x = 0 ∨ x = 1 then some (zi x, M) else none := eb_E_ri hk27 rfl
theorem e27_103 {x : Option eb_A} : eb_E L d 27 103 [some (Sum.inr x), v1, v2, v3, v4, v5] (st) M = eb_E L d 27 104 [some (Sum.inr x), v1, v2, v3, v4, v5] (Sum.inr x :: st) M := eb_E_s hk27 rfl
theorem e27_104  : eb_E L d 27 104 ls ([a0]) M = (eb_ev L d 35 [a0] M).bind (fun q => eb_E L d 27 107 ls [] q.2) := eb_E_c hk27 rfl
theorem e27_107 {x : Option eb_A} : eb_E L d 27 107 [v0, some (Sum.inr x), v2, v3, v4, v5] (st) M = eb_E L d 27 108 [v0, some (Sum.inr x), v2, v3, v4, v5] (Sum.inr x :: st) M := eb_E_s hk27 rfl
theorem e27_108  : eb_E L d 27 108 ls (Sum.inr (some a) :: st) (nc, ns, I, J, R) = if (eb_ty L a.1).1 = 4 then eb_E L d 27 111 ls (Sum.inr (R a 0) :: st) (nc, ns, I, J, R) else none := eb_E_iy hk27 rfl
theorem e27_111 {x : Int32} : eb_E L d 27 111 [v0, v1, v2, v3, v4, some (zi x)] (st) M = eb_E L d 27 113 [v0, v1, v2, v3, v4, some (zi x)] (zi x :: st) M := eb_E_s hk27 rfl
theorem e27_113 {x : Int32} : eb_E L d 27 113 ls (zi x :: Sum.inr (some a) :: st) (nc, ns, I, J, R) = if (12 ≤ (eb_ty L a.1).1 ∧ (eb_ty L a.1).1 ≤ 16) ∧ eb_in x (eb_ty L a.1).2 = true then eb_E L d 27 114 ls (Sum.inr (R a x.toNatClampNeg) :: st) (nc, ns, I, J, R) else none := eb_E_iy hk27 rfl
theorem e27_114 {x : Option eb_A} : eb_E L d 27 114 [some (Sum.inr x), v1, v2, v3, v4, v5] (st) M = eb_E L d 27 115 [some (Sum.inr x), v1, v2, v3, v4, v5] (Sum.inr x :: st) M := eb_E_s hk27 rfl
theorem e27_115  : eb_E L d 27 115 ls (st) M = eb_E L d 27 116 ls (zi 0 :: st) M := eb_E_s hk27 rfl
theorem e27_116  : eb_E L d 27 116 ls (st) M = eb_E L d 27 118 ls (zi 100 :: st) M := eb_E_s hk27 rfl
theorem e27_118 {s0 : Option eb_A} : eb_E L d 27 118 ls ([a2, a1, a0, Sum.inr s0]) M = (eb_ev L d 32 [a0, a1, a2] M).bind (fun q => eb_E L d 27 121 ls [q.1, Sum.inr s0] q.2) := eb_E_c hk27 rfl
theorem e27_121 {x : Int32} : eb_E L d 27 121 ls (zi x :: Sum.inr (some a) :: st) (nc, ns, I, J, R) = if (eb_ty L a.1).1 = 1 then eb_E L d 27 124 ls (st) (nc, ns, eb_u I a 4 x, J, R) else none := eb_E_iy hk27 rfl
theorem e27_124 {x : Option eb_A} : eb_E L d 27 124 [v0, some (Sum.inr x), v2, v3, v4, v5] (st) M = eb_E L d 27 125 [v0, some (Sum.inr x), v2, v3, v4, v5] (Sum.inr x :: st) M := eb_E_s hk27 rfl
theorem e27_125  : eb_E L d 27 125 ls (Sum.inr (some a) :: st) (nc, ns, I, J, R) = if (eb_ty L a.1).1 = 4 then eb_E L d 27 128 ls (Sum.inr (R a 0) :: st) (nc, ns, I, J, R) else none := eb_E_iy hk27 rfl
theorem e27_128 {x : Int32} : eb_E L d 27 128 [v0, v1, v2, v3, v4, some (zi x)] (st) M = eb_E L d 27 130 [v0, v1, v2, v3, v4, some (zi x)] (zi x :: st) M := eb_E_s hk27 rfl
theorem e27_130 {x : Int32} : eb_E L d 27 130 ls (zi x :: Sum.inr (some a) :: st) (nc, ns, I, J, R) = if (12 ≤ (eb_ty L a.1).1 ∧ (eb_ty L a.1).1 ≤ 16) ∧ eb_in x (eb_ty L a.1).2 = true then eb_E L d 27 131 ls (Sum.inr (R a x.toNatClampNeg) :: st) (nc, ns, I, J, R) else none := eb_E_iy hk27 rfl
theorem e27_131  : eb_E L d 27 131 ls (Sum.inr (some a) :: st) (nc, ns, I, J, R) = if (eb_ty L a.1).1 = 1 then eb_E L d 27 134 ls (zi (I a 4) :: st) (nc, ns, I, J, R) else none := eb_E_iy hk27 rfl
theorem e27_134  : eb_E L d 27 134 ls (st) M = eb_E L d 27 135 ls (zi (-1) :: st) M := eb_E_s hk27 rfl
theorem e27_135 {x : Int32} {y : Int32} : eb_E L d 27 135 ls (zi y :: zi x :: st) M = if x = y then eb_E L d 27 142 ls st M else eb_E L d 27 138 ls st M := eb_E_b hk27 rfl
theorem e27_138  : eb_E L d 27 138 ls (st) M = eb_E L d 27 139 ls (zi 1 :: st) M := eb_E_s hk27 rfl
theorem e27_139  : eb_E L d 27 139 ls (st) M = eb_E L d 27 143 ls (st) M := eb_E_s hk27 rfl
theorem e27_142  : eb_E L d 27 142 ls (st) M = eb_E L d 27 143 ls (zi 0 :: st) M := eb_E_s hk27 rfl
theorem e27_143 {x : Int32} : eb_E L d 27 143 ls ([zi x]) M = if x = 0 ∨ x = 1 then some (zi x, M) else none := eb_E_ri hk27 rfl
/-! X3_readGoer -/
theorem hk28 : eb_cd L 28 = eb_look (kt28 L) := rfl
theorem h28 (ha : (eb_ty L a.1).1 = 3) {r1 : Option eb_A} : eb_ev L (d + 1) 28 [zr a, Sum.inr r1] M = eb_E L d 28 0 [some (zr a), some (Sum.inr r1), none, none, none] [] M := eb_ev_s rfl (eb_chk_i ha rfl)
theorem e28_0 {x : Option eb_A} : eb_E L d 28 0 [v0, some (Sum.inr x), v2, v3, v4] (st) M = eb_E L d 28 1 [v0, some (Sum.inr x), v2, v3, v4] (Sum.inr x :: st) M := eb_E_s hk28 rfl
theorem e28_1  : eb_E L d 28 1 ls (Sum.inr (some a) :: st) (nc, ns, I, J, R) = if (eb_ty L a.1).1 = 4 then eb_E L d 28 4 ls (zi (I a 3) :: st) (nc, ns, I, J, R) else none := eb_E_iy hk28 rfl
theorem e28_4  : eb_E L d 28 4 ls (st) M = eb_E L d 28 6 ls (zi 6 :: st) M := eb_E_s hk28 rfl
theorem e28_6 {x : Int32} {y : Int32} : eb_E L d 28 6 ls (zi y :: zi x :: st) M = if x < y then eb_E L d 28 11 ls st M else eb_E L d 28 9 ls st M := eb_E_b hk28 rfl
theorem e28_9  : eb_E L d 28 9 ls (st) M = eb_E L d 28 10 ls (zi 0 :: st) M := eb_E_s hk28 rfl
theorem e28_10 {x : Int32} : eb_E L d 28 10 ls ([zi x]) M = if x = 0 ∨ x = 1 then some (zi x, M) else none := eb_E_ri hk28 rfl
theorem e28_11 {x : Option eb_A} : eb_E L d 28 11 [some (Sum.inr x), v1, v2, v3, v4] (st) M = eb_E L d 28 12 [some (Sum.inr x), v1, v2, v3, v4] (Sum.inr x :: st) M := eb_E_s hk28 rfl
theorem e28_12  : eb_E L d 28 12 ls ([a0]) M = (eb_ev L d 35 [a0] M).bind (fun q => eb_E L d 28 15 ls [] q.2) := eb_E_c hk28 rfl
theorem e28_15 {x : Option eb_A} : eb_E L d 28 15 [some (Sum.inr x), v1, v2, v3, v4] (st) M = eb_E L d 28 16 [some (Sum.inr x), v1, v2, v3, v4] (Sum.inr x :: st) M := eb_E_s hk28 rfl
theorem e28_16  : eb_E L d 28 16 ls (st) M = eb_E L d 28 17 ls (zi 0 :: st) M := eb_E_s hk28 rfl
theorem e28_17  : eb_E L d 28 17 ls (st) M = eb_E L d 28 18 ls (zi 5 :: st) M := eb_E_s hk28 rfl
theorem e28_18  : eb_E L d 28 18 ls ([a2, a1, a0]) M = (eb_ev L d 32 [a0, a1, a2] M).bind (fun q => eb_E L d 28 21 ls [q.1] q.2) := eb_E_c hk28 rfl
theorem e28_21 {x : Int32} : eb_E L d 28 21 [v0, v1, v2, v3, v4] (zi x :: st) M = eb_E L d 28 22 [v0, v1, some (zi x), v3, v4] (st) M := eb_E_s hk28 rfl
theorem e28_22 {x : Int32} : eb_E L d 28 22 [v0, v1, some (zi x), v3, v4] (st) M = eb_E L d 28 23 [v0, v1, some (zi x), v3, v4] (zi x :: st) M := eb_E_s hk28 rfl
theorem e28_23  : eb_E L d 28 23 ls (st) M = eb_E L d 28 24 ls (zi (-1) :: st) M := eb_E_s hk28 rfl
theorem e28_24 {x : Int32} {y : Int32} : eb_E L d 28 24 ls (zi y :: zi x :: st) M = if x = y then eb_E L d 28 27 ls st M else eb_E L d 28 31 ls st M := eb_E_b hk28 rfl
theorem e28_27  : eb_E L d 28 27 ls (st) M = eb_E L d 28 28 ls (zi (-1) :: st) M := eb_E_s hk28 rfl
theorem e28_28  : eb_E L d 28 28 ls (st) M = eb_E L d 28 38 ls (st) M := eb_E_s hk28 rfl
theorem e28_31 {x : Option eb_A} : eb_E L d 28 31 [some (Sum.inr x), v1, v2, v3, v4] (st) M = eb_E L d 28 32 [some (Sum.inr x), v1, v2, v3, v4] (Sum.inr x :: st) M := eb_E_s hk28 rfl
theorem e28_32  : eb_E L d 28 32 ls (st) M = eb_E L d 28 33 ls (zi 1 :: st) M := eb_E_s hk28 rfl
theorem e28_33  : eb_E L d 28 33 ls (st) M = eb_E L d 28 35 ls (zi 30 :: st) M := eb_E_s hk28 rfl
theorem e28_35  : eb_E L d 28 35 ls ([a2, a1, a0]) M = (eb_ev L d 32 [a0, a1, a2] M).bind (fun q => eb_E L d 28 38 ls [q.1] q.2) := eb_E_c hk28 rfl
theorem e28_38 {x : Int32} : eb_E L d 28 38 [v0, v1, v2, v3, v4] (zi x :: st) M = eb_E L d 28 39 [v0, v1, v2, some (zi x), v4] (st) M := eb_E_s hk28 rfl
theorem e28_39 {x : Int32} : eb_E L d 28 39 [v0, v1, v2, some (zi x), v4] (st) M = eb_E L d 28 40 [v0, v1, v2, some (zi x), v4] (zi x :: st) M := eb_E_s hk28 rfl
theorem e28_40  : eb_E L d 28 40 ls (st) M = eb_E L d 28 41 ls (zi (-1) :: st) M := eb_E_s hk28 rfl
theorem e28_41 {x : Int32} {y : Int32} : eb_E L d 28 41 ls (zi y :: zi x :: st) M = if x = y then eb_E L d 28 44 ls st M else eb_E L d 28 48 ls st M := eb_E_b hk28 rfl
theorem e28_44  : eb_E L d 28 44 ls (st) M = eb_E L d 28 45 ls (zi (-1) :: st) M := eb_E_s hk28 rfl
theorem e28_45  : eb_E L d 28 45 ls (st) M = eb_E L d 28 55 ls (st) M := eb_E_s hk28 rfl
theorem e28_48 {x : Option eb_A} : eb_E L d 28 48 [some (Sum.inr x), v1, v2, v3, v4] (st) M = eb_E L d 28 49 [some (Sum.inr x), v1, v2, v3, v4] (Sum.inr x :: st) M := eb_E_s hk28 rfl
theorem e28_49  : eb_E L d 28 49 ls (st) M = eb_E L d 28 50 ls (zi 0 :: st) M := eb_E_s hk28 rfl
theorem e28_50  : eb_E L d 28 50 ls (st) M = eb_E L d 28 52 ls (zi 99 :: st) M := eb_E_s hk28 rfl
theorem e28_52  : eb_E L d 28 52 ls ([a2, a1, a0]) M = (eb_ev L d 32 [a0, a1, a2] M).bind (fun q => eb_E L d 28 55 ls [q.1] q.2) := eb_E_c hk28 rfl
theorem e28_55 {x : Int32} : eb_E L d 28 55 [v0, v1, v2, v3, v4] (zi x :: st) M = eb_E L d 28 57 [v0, v1, v2, v3, some (zi x)] (st) M := eb_E_s hk28 rfl
theorem e28_57 {x : Int32} : eb_E L d 28 57 [v0, v1, v2, v3, some (zi x)] (st) M = eb_E L d 28 59 [v0, v1, v2, v3, some (zi x)] (zi x :: st) M := eb_E_s hk28 rfl
theorem e28_59  : eb_E L d 28 59 ls (st) M = eb_E L d 28 60 ls (zi (-1) :: st) M := eb_E_s hk28 rfl
theorem e28_60 {x : Int32} {y : Int32} : eb_E L d 28 60 ls (zi y :: zi x :: st) M = if x = y then eb_E L d 28 79 ls st M else eb_E L d 28 63 ls st M := eb_E_b hk28 rfl
theorem e28_63 {x : Option eb_A} : eb_E L d 28 63 [v0, some (Sum.inr x), v2, v3, v4] (st) M = eb_E L d 28 64 [v0, some (Sum.inr x), v2, v3, v4] (Sum.inr x :: st) M := eb_E_s hk28 rfl
theorem e28_64 {x : Int32} : eb_E L d 28 64 [v0, v1, some (zi x), v3, v4] (st) M = eb_E L d 28 65 [v0, v1, some (zi x), v3, v4] (zi x :: st) M := eb_E_s hk28 rfl
theorem e28_65 {x : Int32} : eb_E L d 28 65 [v0, v1, v2, some (zi x), v4] (st) M = eb_E L d 28 66 [v0, v1, v2, some (zi x), v4] (zi x :: st) M := eb_E_s hk28 rfl
theorem e28_66 {x : Int32} : eb_E L d 28 66 [v0, v1, v2, v3, some (zi x)] (st) M = eb_E L d 28 68 [v0, v1, v2, v3, some (zi x)] (zi x :: st) M := eb_E_s hk28 rfl
theorem e28_68  : eb_E L d 28 68 ls ([a3, a2, a1, a0]) M = (eb_ev L d 41 [a0, a1, a2, a3] M).bind (fun q => eb_E L d 28 71 ls [q.1] q.2) := eb_E_c hk28 rfl
theorem e28_71  : eb_E L d 28 71 ls (st) M = eb_E L d 28 72 ls (zi (-1) :: st) M := eb_E_s hk28 rfl
theorem e28_72 {x : Int32} {y : Int32} : eb_E L d 28 72 ls (zi y :: zi x :: st) M = if x = y then eb_E L d 28 79 ls st M else eb_E L d 28 75 ls st M := eb_E_b hk28 rfl
theorem e28_75  : eb_E L d 28 75 ls (st) M = eb_E L d 28 76 ls (zi 1 :: st) M := eb_E_s hk28 rfl
theorem e28_76  : eb_E L d 28 76 ls (st) M = eb_E L d 28 80 ls (st) M := eb_E_s hk28 rfl
theorem e28_79  : eb_E L d 28 79 ls (st) M = eb_E L d 28 80 ls (zi 0 :: st) M := eb_E_s hk28 rfl
theorem e28_80 {x : Int32} : eb_E L d 28 80 ls ([zi x]) M = if x = 0 ∨ x = 1 then some (zi x, M) else none := eb_E_ri hk28 rfl
/-! X3_readLetter -/
theorem hk29 : eb_cd L 29 = eb_look (kt29 L) := rfl
theorem h29 (ha : (eb_ty L a.1).1 = 3) {r1 : Option eb_A} : eb_ev L (d + 1) 29 [zr a, Sum.inr r1] M = eb_E L d 29 0 [some (zr a), some (Sum.inr r1), none, none] [] M := eb_ev_s rfl (eb_chk_i ha rfl)
theorem e29_0 {x : Option eb_A} : eb_E L d 29 0 [some (Sum.inr x), v1, v2, v3] (st) M = eb_E L d 29 1 [some (Sum.inr x), v1, v2, v3] (Sum.inr x :: st) M := eb_E_s hk29 rfl
theorem e29_1  : eb_E L d 29 1 ls ([a0]) M = (eb_ev L d 35 [a0] M).bind (fun q => eb_E L d 29 4 ls [] q.2) := eb_E_c hk29 rfl
theorem e29_4 {x : Option eb_A} : eb_E L d 29 4 [some (Sum.inr x), v1, v2, v3] (st) M = eb_E L d 29 5 [some (Sum.inr x), v1, v2, v3] (Sum.inr x :: st) M := eb_E_s hk29 rfl
theorem e29_5  : eb_E L d 29 5 ls (st) M = eb_E L d 29 6 ls (zi 0 :: st) M := eb_E_s hk29 rfl
theorem e29_6 {x : Option eb_A} : eb_E L d 29 6 [v0, some (Sum.inr x), v2, v3] (st) M = eb_E L d 29 7 [v0, some (Sum.inr x), v2, v3] (Sum.inr x :: st) M := eb_E_s hk29 rfl
theorem e29_7  : eb_E L d 29 7 ls (Sum.inr (some a) :: st) (nc, ns, I, J, R) = if (eb_ty L a.1).1 = 4 then eb_E L d 29 10 ls (zi (I a 2) :: st) (nc, ns, I, J, R) else none := eb_E_iy hk29 rfl
theorem e29_10  : eb_E L d 29 10 ls (st) M = eb_E L d 29 11 ls (zi 1 :: st) M := eb_E_s hk29 rfl
theorem e29_11 {x : Int32} {y : Int32} : eb_E L d 29 11 ls (zi y :: zi x :: st) M = eb_E L d 29 12 ls (zi (x - y) :: st) M := eb_E_s hk29 rfl
theorem e29_12  : eb_E L d 29 12 ls ([a2, a1, a0]) M = (eb_ev L d 33 [a0, a1, a2] M).bind (fun q => eb_E L d 29 15 ls [q.1] q.2) := eb_E_c hk29 rfl
theorem e29_15 {x : Int32} : eb_E L d 29 15 [v0, v1, v2, v3] (zi x :: st) M = eb_E L d 29 16 [v0, v1, some (zi x), v3] (st) M := eb_E_s hk29 rfl
theorem e29_16 {x : Int32} : eb_E L d 29 16 [v0, v1, some (zi x), v3] (st) M = eb_E L d 29 17 [v0, v1, some (zi x), v3] (zi x :: st) M := eb_E_s hk29 rfl
theorem e29_17  : eb_E L d 29 17 ls (st) M = eb_E L d 29 18 ls (zi (-1) :: st) M := eb_E_s hk29 rfl
theorem e29_18 {x : Int32} {y : Int32} : eb_E L d 29 18 ls (zi y :: zi x :: st) M = if x = y then eb_E L d 29 33 ls st M else eb_E L d 29 21 ls st M := eb_E_b hk29 rfl
theorem e29_21 {x : Option eb_A} : eb_E L d 29 21 [v0, some (Sum.inr x), v2, v3] (st) M = eb_E L d 29 22 [v0, some (Sum.inr x), v2, v3] (Sum.inr x :: st) M := eb_E_s hk29 rfl
theorem e29_22  : eb_E L d 29 22 ls (Sum.inr (some a) :: st) (nc, ns, I, J, R) = if (eb_ty L a.1).1 = 4 then eb_E L d 29 25 ls (Sum.inr (R a 0) :: st) (nc, ns, I, J, R) else none := eb_E_iy hk29 rfl
theorem e29_25 {x : Int32} : eb_E L d 29 25 [v0, v1, some (zi x), v3] (st) M = eb_E L d 29 26 [v0, v1, some (zi x), v3] (zi x :: st) M := eb_E_s hk29 rfl
theorem e29_26 {x : Int32} : eb_E L d 29 26 ls (zi x :: Sum.inr (some a) :: st) (nc, ns, I, J, R) = if (12 ≤ (eb_ty L a.1).1 ∧ (eb_ty L a.1).1 ≤ 16) ∧ eb_in x (eb_ty L a.1).2 = true then eb_E L d 29 27 ls (Sum.inr (R a x.toNatClampNeg) :: st) (nc, ns, I, J, R) else none := eb_E_iy hk29 rfl
theorem e29_27  : eb_E L d 29 27 ls ([a0]) M = (eb_ev L d 9 [a0] M).bind (fun q => eb_E L d 29 30 ls [q.1] q.2) := eb_E_c hk29 rfl
theorem e29_30 {x : Int32} : eb_E L d 29 30 ls (zi x :: st) M = if x = 0 then eb_E L d 29 33 ls st M else eb_E L d 29 35 ls st M := eb_E_b hk29 rfl
theorem e29_33  : eb_E L d 29 33 ls (st) M = eb_E L d 29 34 ls (zi 0 :: st) M := eb_E_s hk29 rfl
theorem e29_34 {x : Int32} : eb_E L d 29 34 ls ([zi x]) M = if x = 0 ∨ x = 1 then some (zi x, M) else none := eb_E_ri hk29 rfl
theorem e29_35 {x : Option eb_A} : eb_E L d 29 35 [some (Sum.inr x), v1, v2, v3] (st) M = eb_E L d 29 36 [some (Sum.inr x), v1, v2, v3] (Sum.inr x :: st) M := eb_E_s hk29 rfl
theorem e29_36  : eb_E L d 29 36 ls ([a0]) M = (eb_ev L d 35 [a0] M).bind (fun q => eb_E L d 29 39 ls [] q.2) := eb_E_c hk29 rfl
theorem e29_39 {x : Option eb_A} : eb_E L d 29 39 [some (Sum.inr x), v1, v2, v3] (st) M = eb_E L d 29 40 [some (Sum.inr x), v1, v2, v3] (Sum.inr x :: st) M := eb_E_s hk29 rfl
theorem e29_40  : eb_E L d 29 40 ls (st) M = eb_E L d 29 41 ls (zi 0 :: st) M := eb_E_s hk29 rfl
theorem e29_41  : eb_E L d 29 41 ls (st) M = eb_E L d 29 43 ls (zi 100 :: st) M := eb_E_s hk29 rfl
theorem e29_43  : eb_E L d 29 43 ls ([a2, a1, a0]) M = (eb_ev L d 32 [a0, a1, a2] M).bind (fun q => eb_E L d 29 46 ls [q.1] q.2) := eb_E_c hk29 rfl
theorem e29_46 {x : Int32} : eb_E L d 29 46 [v0, v1, v2, v3] (zi x :: st) M = eb_E L d 29 47 [v0, v1, v2, some (zi x)] (st) M := eb_E_s hk29 rfl
theorem e29_47 {x : Int32} : eb_E L d 29 47 [v0, v1, v2, some (zi x)] (st) M = eb_E L d 29 48 [v0, v1, v2, some (zi x)] (zi x :: st) M := eb_E_s hk29 rfl
theorem e29_48  : eb_E L d 29 48 ls (st) M = eb_E L d 29 49 ls (zi (-1) :: st) M := eb_E_s hk29 rfl
theorem e29_49 {x : Int32} {y : Int32} : eb_E L d 29 49 ls (zi y :: zi x :: st) M = if x = y then eb_E L d 29 69 ls st M else eb_E L d 29 52 ls st M := eb_E_b hk29 rfl
theorem e29_52 {x : Option eb_A} : eb_E L d 29 52 [v0, some (Sum.inr x), v2, v3] (st) M = eb_E L d 29 53 [v0, some (Sum.inr x), v2, v3] (Sum.inr x :: st) M := eb_E_s hk29 rfl
theorem e29_53  : eb_E L d 29 53 ls (Sum.inr (some a) :: st) (nc, ns, I, J, R) = if (eb_ty L a.1).1 = 4 then eb_E L d 29 56 ls (Sum.inr (R a 0) :: st) (nc, ns, I, J, R) else none := eb_E_iy hk29 rfl
theorem e29_56 {x : Int32} : eb_E L d 29 56 [v0, v1, some (zi x), v3] (st) M = eb_E L d 29 57 [v0, v1, some (zi x), v3] (zi x :: st) M := eb_E_s hk29 rfl
theorem e29_57 {x : Int32} : eb_E L d 29 57 ls (zi x :: Sum.inr (some a) :: st) (nc, ns, I, J, R) = if (12 ≤ (eb_ty L a.1).1 ∧ (eb_ty L a.1).1 ≤ 16) ∧ eb_in x (eb_ty L a.1).2 = true then eb_E L d 29 58 ls (Sum.inr (R a x.toNatClampNeg) :: st) (nc, ns, I, J, R) else none := eb_E_iy hk29 rfl
theorem e29_58 {x : Int32} : eb_E L d 29 58 [v0, v1, v2, some (zi x)] (st) M = eb_E L d 29 59 [v0, v1, v2, some (zi x)] (zi x :: st) M := eb_E_s hk29 rfl
theorem e29_59  : eb_E L d 29 59 ls ([a1, a0]) M = (eb_ev L d 10 [a0, a1] M).bind (fun q => eb_E L d 29 62 ls [q.1] q.2) := eb_E_c hk29 rfl
theorem e29_62 {x : Int32} : eb_E L d 29 62 ls (zi x :: st) M = if x = 0 then eb_E L d 29 69 ls st M else eb_E L d 29 65 ls st M := eb_E_b hk29 rfl
theorem e29_65  : eb_E L d 29 65 ls (st) M = eb_E L d 29 66 ls (zi 1 :: st) M := eb_E_s hk29 rfl
theorem e29_66  : eb_E L d 29 66 ls (st) M = eb_E L d 29 70 ls (st) M := eb_E_s hk29 rfl
theorem e29_69  : eb_E L d 29 69 ls (st) M = eb_E L d 29 70 ls (zi 0 :: st) M := eb_E_s hk29 rfl
theorem e29_70 {x : Int32} : eb_E L d 29 70 ls ([zi x]) M = if x = 0 ∨ x = 1 then some (zi x, M) else none := eb_E_ri hk29 rfl
/-! X3_readAge -/
theorem hk30 : eb_cd L 30 = eb_look (kt30 L) := rfl
theorem h30 (ha : (eb_ty L a.1).1 = 3) {r1 : Option eb_A} : eb_ev L (d + 1) 30 [zr a, Sum.inr r1] M = eb_E L d 30 0 [some (zr a), some (Sum.inr r1), none] [] M := eb_ev_s rfl (eb_chk_i ha rfl)
theorem e30_0 {x : Option eb_A} : eb_E L d 30 0 [some (Sum.inr x), v1, v2] (st) M = eb_E L d 30 1 [some (Sum.inr x), v1, v2] (Sum.inr x :: st) M := eb_E_s hk30 rfl
theorem e30_1  : eb_E L d 30 1 ls ([a0]) M = (eb_ev L d 35 [a0] M).bind (fun q => eb_E L d 30 4 ls [] q.2) := eb_E_c hk30 rfl
theorem e30_4 {x : Option eb_A} : eb_E L d 30 4 [some (Sum.inr x), v1, v2] (st) M = eb_E L d 30 5 [some (Sum.inr x), v1, v2] (Sum.inr x :: st) M := eb_E_s hk30 rfl
theorem e30_5  : eb_E L d 30 5 ls (st) M = eb_E L d 30 6 ls (zi 0 :: st) M := eb_E_s hk30 rfl
theorem e30_6  : eb_E L d 30 6 ls (st) M = eb_E L d 30 8 ls (zi 99 :: st) M := eb_E_s hk30 rfl
theorem e30_8  : eb_E L d 30 8 ls ([a2, a1, a0]) M = (eb_ev L d 32 [a0, a1, a2] M).bind (fun q => eb_E L d 30 11 ls [q.1] q.2) := eb_E_c hk30 rfl
theorem e30_11 {x : Int32} : eb_E L d 30 11 [v0, v1, v2] (zi x :: st) M = eb_E L d 30 12 [v0, v1, some (zi x)] (st) M := eb_E_s hk30 rfl
theorem e30_12 {x : Int32} : eb_E L d 30 12 [v0, v1, some (zi x)] (st) M = eb_E L d 30 13 [v0, v1, some (zi x)] (zi x :: st) M := eb_E_s hk30 rfl
theorem e30_13  : eb_E L d 30 13 ls (st) M = eb_E L d 30 14 ls (zi (-1) :: st) M := eb_E_s hk30 rfl
theorem e30_14 {x : Int32} {y : Int32} : eb_E L d 30 14 ls (zi y :: zi x :: st) M = if x = y then eb_E L d 30 17 ls st M else eb_E L d 30 19 ls st M := eb_E_b hk30 rfl
theorem e30_17  : eb_E L d 30 17 ls (st) M = eb_E L d 30 18 ls (zi 0 :: st) M := eb_E_s hk30 rfl
theorem e30_18 {x : Int32} : eb_E L d 30 18 ls ([zi x]) M = if x = 0 ∨ x = 1 then some (zi x, M) else none := eb_E_ri hk30 rfl
theorem e30_19 {x : Option eb_A} : eb_E L d 30 19 [v0, some (Sum.inr x), v2] (st) M = eb_E L d 30 20 [v0, some (Sum.inr x), v2] (Sum.inr x :: st) M := eb_E_s hk30 rfl
theorem e30_20 {x : Int32} : eb_E L d 30 20 [v0, v1, some (zi x)] (st) M = eb_E L d 30 21 [v0, v1, some (zi x)] (zi x :: st) M := eb_E_s hk30 rfl
theorem e30_21 {x : Int32} : eb_E L d 30 21 ls (zi x :: Sum.inr (some a) :: st) (nc, ns, I, J, R) = if (eb_ty L a.1).1 = 4 then eb_E L d 30 24 ls (st) (nc, ns, eb_u I a 4 x, J, R) else none := eb_E_iy hk30 rfl
theorem e30_24  : eb_E L d 30 24 ls (st) M = eb_E L d 30 25 ls (zi 1 :: st) M := eb_E_s hk30 rfl
theorem e30_25 {x : Int32} : eb_E L d 30 25 ls ([zi x]) M = if x = 0 ∨ x = 1 then some (zi x, M) else none := eb_E_ri hk30 rfl
/-! X3_readWrite -/
theorem hk31 : eb_cd L 31 = eb_look (kt31 L) := rfl
theorem h31 (ha : (eb_ty L a.1).1 = 3) {r1 : Option eb_A} : eb_ev L (d + 1) 31 [zr a, Sum.inr r1] M = eb_E L d 31 0 [some (zr a), some (Sum.inr r1), none, none, none] [] M := eb_ev_s rfl (eb_chk_i ha rfl)
theorem e31_0  : eb_E L d 31 0 ls (st) M = eb_E L d 31 1 ls (zi 0 :: st) M := eb_E_s hk31 rfl
theorem e31_1 {x : Int32} : eb_E L d 31 1 [v0, v1, v2, v3, v4] (zi x :: st) M = eb_E L d 31 2 [v0, v1, some (zi x), v3, v4] (st) M := eb_E_s hk31 rfl
theorem e31_2 {x : Option eb_A} : eb_E L d 31 2 [some (Sum.inr x), v1, v2, v3, v4] (st) M = eb_E L d 31 3 [some (Sum.inr x), v1, v2, v3, v4] (Sum.inr x :: st) M := eb_E_s hk31 rfl
theorem e31_3  : eb_E L d 31 3 ls ([a0]) M = (eb_ev L d 35 [a0] M).bind (fun q => eb_E L d 31 6 ls [] q.2) := eb_E_c hk31 rfl
theorem e31_6  : eb_E L d 31 6 ls (st) M = eb_E L d 31 7 ls (zi 0 :: st) M := eb_E_s hk31 rfl
theorem e31_7 {x : Int32} : eb_E L d 31 7 [v0, v1, v2, v3, v4] (zi x :: st) M = eb_E L d 31 8 [v0, v1, v2, some (zi x), v4] (st) M := eb_E_s hk31 rfl
theorem e31_8 {x : Int32} : eb_E L d 31 8 [v0, v1, v2, some (zi x), v4] (st) M = eb_E L d 31 9 [v0, v1, v2, some (zi x), v4] (zi x :: st) M := eb_E_s hk31 rfl
theorem e31_9  : eb_E L d 31 9 ls (st) M = eb_E L d 31 11 ls (zi 6 :: st) M := eb_E_s hk31 rfl
theorem e31_11 {x : Int32} {y : Int32} : eb_E L d 31 11 ls (zi y :: zi x :: st) M = if y < x then eb_E L d 31 74 ls st M else eb_E L d 31 14 ls st M := eb_E_b hk31 rfl
theorem e31_14 {x : Int32} : eb_E L d 31 14 [v0, v1, v2, some (zi x), v4] (st) M = eb_E L d 31 15 [v0, v1, v2, some (zi x), v4] (zi x :: st) M := eb_E_s hk31 rfl
theorem e31_15 {x : Int32} : eb_E L d 31 15 ls (zi x :: st) M = if x = 0 then eb_E L d 31 26 ls st M else eb_E L d 31 18 ls st M := eb_E_b hk31 rfl
theorem e31_18 {x : Option eb_A} : eb_E L d 31 18 [some (Sum.inr x), v1, v2, v3, v4] (st) M = eb_E L d 31 19 [some (Sum.inr x), v1, v2, v3, v4] (Sum.inr x :: st) M := eb_E_s hk31 rfl
theorem e31_19  : eb_E L d 31 19 ls (Sum.inr (some a) :: st) (nc, ns, I, J, R) = if (eb_ty L a.1).1 = 3 then eb_E L d 31 22 ls (zi (I a 4) :: st) (nc, ns, I, J, R) else none := eb_E_iy hk31 rfl
theorem e31_22  : eb_E L d 31 22 ls (st) M = eb_E L d 31 23 ls (zi 2 :: st) M := eb_E_s hk31 rfl
theorem e31_23 {x : Int32} {y : Int32} : eb_E L d 31 23 ls (zi y :: zi x :: st) M = if x = y then eb_E L d 31 26 ls st M else eb_E L d 31 74 ls st M := eb_E_b hk31 rfl
theorem e31_26 {x : Option eb_A} : eb_E L d 31 26 [some (Sum.inr x), v1, v2, v3, v4] (st) M = eb_E L d 31 27 [some (Sum.inr x), v1, v2, v3, v4] (Sum.inr x :: st) M := eb_E_s hk31 rfl
theorem e31_27  : eb_E L d 31 27 ls (st) M = eb_E L d 31 28 ls (zi 0 :: st) M := eb_E_s hk31 rfl
theorem e31_28 {x : Option eb_A} : eb_E L d 31 28 [v0, some (Sum.inr x), v2, v3, v4] (st) M = eb_E L d 31 29 [v0, some (Sum.inr x), v2, v3, v4] (Sum.inr x :: st) M := eb_E_s hk31 rfl
theorem e31_29  : eb_E L d 31 29 ls (Sum.inr (some a) :: st) (nc, ns, I, J, R) = if (eb_ty L a.1).1 = 4 then eb_E L d 31 32 ls (zi (I a 2) :: st) (nc, ns, I, J, R) else none := eb_E_iy hk31 rfl
theorem e31_32  : eb_E L d 31 32 ls (st) M = eb_E L d 31 33 ls (zi 1 :: st) M := eb_E_s hk31 rfl
theorem e31_33 {x : Int32} {y : Int32} : eb_E L d 31 33 ls (zi y :: zi x :: st) M = eb_E L d 31 34 ls (zi (x - y) :: st) M := eb_E_s hk31 rfl
theorem e31_34  : eb_E L d 31 34 ls ([a2, a1, a0]) M = (eb_ev L d 33 [a0, a1, a2] M).bind (fun q => eb_E L d 31 37 ls [q.1] q.2) := eb_E_c hk31 rfl
theorem e31_37 {x : Int32} : eb_E L d 31 37 [v0, v1, v2, v3, v4] (zi x :: st) M = eb_E L d 31 39 [v0, v1, v2, v3, some (zi x)] (st) M := eb_E_s hk31 rfl
theorem e31_39 {x : Int32} : eb_E L d 31 39 [v0, v1, v2, v3, some (zi x)] (st) M = eb_E L d 31 41 [v0, v1, v2, v3, some (zi x)] (zi x :: st) M := eb_E_s hk31 rfl
theorem e31_41  : eb_E L d 31 41 ls (st) M = eb_E L d 31 42 ls (zi (-1) :: st) M := eb_E_s hk31 rfl
theorem e31_42 {x : Int32} {y : Int32} : eb_E L d 31 42 ls (zi y :: zi x :: st) M = if x = y then eb_E L d 31 55 ls st M else eb_E L d 31 45 ls st M := eb_E_b hk31 rfl
theorem e31_45 {x : Int32} : eb_E L d 31 45 [v0, v1, some (zi x), v3, v4] (st) M = eb_E L d 31 46 [v0, v1, some (zi x), v3, v4] (zi x :: st) M := eb_E_s hk31 rfl
theorem e31_46 {x : Int32} : eb_E L d 31 46 [v0, v1, v2, v3, some (zi x)] (st) M = eb_E L d 31 48 [v0, v1, v2, v3, some (zi x)] (zi x :: st) M := eb_E_s hk31 rfl
theorem e31_48 {x : Int32} {y : Int32} : eb_E L d 31 48 ls (zi y :: zi x :: st) M = eb_E L d 31 49 ls (zi (x >>> (y &&& 31)) :: st) M := eb_E_s hk31 rfl
theorem e31_49  : eb_E L d 31 49 ls (st) M = eb_E L d 31 50 ls (zi 1 :: st) M := eb_E_s hk31 rfl
theorem e31_50 {x : Int32} {y : Int32} : eb_E L d 31 50 ls (zi y :: zi x :: st) M = eb_E L d 31 51 ls (zi (x &&& y) :: st) M := eb_E_s hk31 rfl
theorem e31_51  : eb_E L d 31 51 ls (st) M = eb_E L d 31 52 ls (zi 1 :: st) M := eb_E_s hk31 rfl
theorem e31_52 {x : Int32} {y : Int32} : eb_E L d 31 52 ls (zi y :: zi x :: st) M = if x = y then eb_E L d 31 55 ls st M else eb_E L d 31 57 ls st M := eb_E_b hk31 rfl
theorem e31_55  : eb_E L d 31 55 ls (st) M = eb_E L d 31 56 ls (zi 0 :: st) M := eb_E_s hk31 rfl
theorem e31_56 {x : Int32} : eb_E L d 31 56 ls ([zi x]) M = if x = 0 ∨ x = 1 then some (zi x, M) else none := eb_E_ri hk31 rfl
theorem e31_57 {x : Int32} : eb_E L d 31 57 [v0, v1, some (zi x), v3, v4] (st) M = eb_E L d 31 58 [v0, v1, some (zi x), v3, v4] (zi x :: st) M := eb_E_s hk31 rfl
theorem e31_58  : eb_E L d 31 58 ls (st) M = eb_E L d 31 59 ls (zi 1 :: st) M := eb_E_s hk31 rfl
theorem e31_59 {x : Int32} : eb_E L d 31 59 [v0, v1, v2, v3, some (zi x)] (st) M = eb_E L d 31 61 [v0, v1, v2, v3, some (zi x)] (zi x :: st) M := eb_E_s hk31 rfl
theorem e31_61 {x : Int32} {y : Int32} : eb_E L d 31 61 ls (zi y :: zi x :: st) M = eb_E L d 31 62 ls (zi (x <<< (y &&& 31)) :: st) M := eb_E_s hk31 rfl
theorem e31_62 {x : Int32} {y : Int32} : eb_E L d 31 62 ls (zi y :: zi x :: st) M = eb_E L d 31 63 ls (zi (x ||| y) :: st) M := eb_E_s hk31 rfl
theorem e31_63 {x : Int32} : eb_E L d 31 63 [v0, v1, v2, v3, v4] (zi x :: st) M = eb_E L d 31 64 [v0, v1, some (zi x), v3, v4] (st) M := eb_E_s hk31 rfl
theorem e31_64 {x : Option eb_A} : eb_E L d 31 64 [some (Sum.inr x), v1, v2, v3, v4] (st) M = eb_E L d 31 65 [some (Sum.inr x), v1, v2, v3, v4] (Sum.inr x :: st) M := eb_E_s hk31 rfl
theorem e31_65  : eb_E L d 31 65 ls ([a0]) M = (eb_ev L d 35 [a0] M).bind (fun q => eb_E L d 31 68 ls [] q.2) := eb_E_c hk31 rfl
theorem e31_68 {x : Int32} : eb_E L d 31 68 [v0, v1, v2, some (zi x), v4] (st) M = eb_E L d 31 71 [v0, v1, v2, some (zi (x + 1)), v4] (st) M := eb_E_s hk31 rfl
theorem e31_71  : eb_E L d 31 71 ls (st) M = eb_E L d 31 8 ls (st) M := eb_E_s hk31 rfl
theorem e31_74 {x : Option eb_A} : eb_E L d 31 74 [v0, some (Sum.inr x), v2, v3, v4] (st) M = eb_E L d 31 75 [v0, some (Sum.inr x), v2, v3, v4] (Sum.inr x :: st) M := eb_E_s hk31 rfl
theorem e31_75 {x : Int32} : eb_E L d 31 75 [v0, v1, some (zi x), v3, v4] (st) M = eb_E L d 31 76 [v0, v1, some (zi x), v3, v4] (zi x :: st) M := eb_E_s hk31 rfl
theorem e31_76  : eb_E L d 31 76 ls ([a1, a0]) M = (eb_ev L d 42 [a0, a1] M).bind (fun q => eb_E L d 31 79 ls [q.1] q.2) := eb_E_c hk31 rfl
theorem e31_79a {x : Int32} : eb_E L d 31 79 ls (zi x :: st) M = eb_E L d 31 80 ls (st) M := eb_E_s hk31 rfl
theorem e31_79b {x : Option eb_A} : eb_E L d 31 79 ls (Sum.inr x :: st) M = eb_E L d 31 80 ls (st) M := eb_E_s hk31 rfl
theorem e31_80  : eb_E L d 31 80 ls (st) M = eb_E L d 31 81 ls (zi 1 :: st) M := eb_E_s hk31 rfl
theorem e31_81 {x : Int32} : eb_E L d 31 81 ls ([zi x]) M = if x = 0 ∨ x = 1 then some (zi x, M) else none := eb_E_ri hk31 rfl
/-! X3_takeNumber -/
theorem hk32 : eb_cd L 32 = eb_look (kt32 L) := rfl
theorem h32 (ha : (eb_ty L a.1).1 = 3) {x1 : Int32} {x2 : Int32} : eb_ev L (d + 1) 32 [zr a, zi x1, zi x2] M = eb_E L d 32 0 [some (zr a), some (zi x1), some (zi x2), none] [] M := eb_ev_s rfl (eb_chk_i ha rfl)
theorem e32_0 {x : Option eb_A} : eb_E L d 32 0 [some (Sum.inr x), v1, v2, v3] (st) M = eb_E L d 32 1 [some (Sum.inr x), v1, v2, v3] (Sum.inr x :: st) M := eb_E_s hk32 rfl
theorem e32_1 {x : Int32} : eb_E L d 32 1 [v0, some (zi x), v2, v3] (st) M = eb_E L d 32 2 [v0, some (zi x), v2, v3] (zi x :: st) M := eb_E_s hk32 rfl
theorem e32_2 {x : Int32} : eb_E L d 32 2 [v0, v1, some (zi x), v3] (st) M = eb_E L d 32 3 [v0, v1, some (zi x), v3] (zi x :: st) M := eb_E_s hk32 rfl
theorem e32_3  : eb_E L d 32 3 ls ([a2, a1, a0]) M = (eb_ev L d 33 [a0, a1, a2] M).bind (fun q => eb_E L d 32 6 ls [q.1] q.2) := eb_E_c hk32 rfl
theorem e32_6 {x : Int32} : eb_E L d 32 6 [v0, v1, v2, v3] (zi x :: st) M = eb_E L d 32 7 [v0, v1, v2, some (zi x)] (st) M := eb_E_s hk32 rfl
theorem e32_7 {x : Int32} : eb_E L d 32 7 [v0, v1, v2, some (zi x)] (st) M = eb_E L d 32 8 [v0, v1, v2, some (zi x)] (zi x :: st) M := eb_E_s hk32 rfl
theorem e32_8  : eb_E L d 32 8 ls (st) M = eb_E L d 32 9 ls (zi (-1) :: st) M := eb_E_s hk32 rfl
theorem e32_9 {x : Int32} {y : Int32} : eb_E L d 32 9 ls (zi y :: zi x :: st) M = if x = y then eb_E L d 32 16 ls st M else eb_E L d 32 12 ls st M := eb_E_b hk32 rfl
theorem e32_12 {x : Option eb_A} : eb_E L d 32 12 [some (Sum.inr x), v1, v2, v3] (st) M = eb_E L d 32 13 [some (Sum.inr x), v1, v2, v3] (Sum.inr x :: st) M := eb_E_s hk32 rfl
theorem e32_13  : eb_E L d 32 13 ls ([a0]) M = (eb_ev L d 35 [a0] M).bind (fun q => eb_E L d 32 16 ls [] q.2) := eb_E_c hk32 rfl
theorem e32_16 {x : Int32} : eb_E L d 32 16 [v0, v1, v2, some (zi x)] (st) M = eb_E L d 32 17 [v0, v1, v2, some (zi x)] (zi x :: st) M := eb_E_s hk32 rfl
theorem e32_17 {x : Int32} : eb_E L d 32 17 ls ([zi x]) M = some (zi x, M) := eb_E_r hk32 rfl
/-! X3_numberWithin -/
theorem hk33 : eb_cd L 33 = eb_look (kt33 L) := rfl
theorem h33 (ha : (eb_ty L a.1).1 = 3) {x1 : Int32} {x2 : Int32} : eb_ev L (d + 1) 33 [zr a, zi x1, zi x2] M = eb_E L d 33 0 [some (zr a), some (zi x1), some (zi x2), none, none] [] M := eb_ev_s rfl (eb_chk_i ha rfl)
theorem e33_0 {x : Option eb_A} : eb_E L d 33 0 [some (Sum.inr x), v1, v2, v3, v4] (st) M = eb_E L d 33 1 [some (Sum.inr x), v1, v2, v3, v4] (Sum.inr x :: st) M := eb_E_s hk33 rfl
theorem e33_1  : eb_E L d 33 1 ls (Sum.inr (some a) :: st) (nc, ns, I, J, R) = if (eb_ty L a.1).1 = 3 then eb_E L d 33 4 ls (zi (I a 4) :: st) (nc, ns, I, J, R) else none := eb_E_iy hk33 rfl
theorem e33_4  : eb_E L d 33 4 ls (st) M = eb_E L d 33 5 ls (zi 2 :: st) M := eb_E_s hk33 rfl
theorem e33_5 {x : Int32} {y : Int32} : eb_E L d 33 5 ls (zi y :: zi x :: st) M = if x = y then eb_E L d 33 8 ls st M else eb_E L d 33 21 ls st M := eb_E_b hk33 rfl
theorem e33_8 {x : Option eb_A} : eb_E L d 33 8 [some (Sum.inr x), v1, v2, v3, v4] (st) M = eb_E L d 33 9 [some (Sum.inr x), v1, v2, v3, v4] (Sum.inr x :: st) M := eb_E_s hk33 rfl
theorem e33_9  : eb_E L d 33 9 ls (Sum.inr (some a) :: st) (nc, ns, I, J, R) = if (eb_ty L a.1).1 = 3 then eb_E L d 33 12 ls (zi (I a 3) :: st) (nc, ns, I, J, R) else none := eb_E_iy hk33 rfl
theorem e33_12 {x : Option eb_A} : eb_E L d 33 12 [some (Sum.inr x), v1, v2, v3, v4] (st) M = eb_E L d 33 13 [some (Sum.inr x), v1, v2, v3, v4] (Sum.inr x :: st) M := eb_E_s hk33 rfl
theorem e33_13  : eb_E L d 33 13 ls (Sum.inr (some a) :: st) (nc, ns, I, J, R) = if (eb_ty L a.1).1 = 3 then eb_E L d 33 16 ls (zi (I a 2) :: st) (nc, ns, I, J, R) else none := eb_E_iy hk33 rfl
theorem e33_16 {x : Int32} {y : Int32} : eb_E L d 33 16 ls (zi y :: zi x :: st) M = eb_E L d 33 17 ls (zi (x - y) :: st) M := eb_E_s hk33 rfl
theorem e33_17  : eb_E L d 33 17 ls (st) M = eb_E L d 33 18 ls (zi 3 :: st) M := eb_E_s hk33 rfl
theorem e33_18 {x : Int32} {y : Int32} : eb_E L d 33 18 ls (zi y :: zi x :: st) M = if y < x then eb_E L d 33 21 ls st M else eb_E L d 33 23 ls st M := eb_E_b hk33 rfl
theorem e33_21  : eb_E L d 33 21 ls (st) M = eb_E L d 33 22 ls (zi (-1) :: st) M := eb_E_s hk33 rfl
theorem e33_22 {x : Int32} : eb_E L d 33 22 ls ([zi x]) M = some (zi x, M) := eb_E_r hk33 rfl
theorem e33_23  : eb_E L d 33 23 ls (st) M = eb_E L d 33 24 ls (zi 0 :: st) M := eb_E_s hk33 rfl
theorem e33_24 {x : Int32} : eb_E L d 33 24 [v0, v1, v2, v3, v4] (zi x :: st) M = eb_E L d 33 25 [v0, v1, v2, some (zi x), v4] (st) M := eb_E_s hk33 rfl
theorem e33_25 {x : Option eb_A} : eb_E L d 33 25 [some (Sum.inr x), v1, v2, v3, v4] (st) M = eb_E L d 33 26 [some (Sum.inr x), v1, v2, v3, v4] (Sum.inr x :: st) M := eb_E_s hk33 rfl
theorem e33_26  : eb_E L d 33 26 ls (Sum.inr (some a) :: st) (nc, ns, I, J, R) = if (eb_ty L a.1).1 = 3 then eb_E L d 33 29 ls (zi (I a 2) :: st) (nc, ns, I, J, R) else none := eb_E_iy hk33 rfl
theorem e33_29 {x : Int32} : eb_E L d 33 29 [v0, v1, v2, v3, v4] (zi x :: st) M = eb_E L d 33 31 [v0, v1, v2, v3, some (zi x)] (st) M := eb_E_s hk33 rfl
theorem e33_31 {x : Int32} : eb_E L d 33 31 [v0, v1, v2, v3, some (zi x)] (st) M = eb_E L d 33 33 [v0, v1, v2, v3, some (zi x)] (zi x :: st) M := eb_E_s hk33 rfl
theorem e33_33 {x : Option eb_A} : eb_E L d 33 33 [some (Sum.inr x), v1, v2, v3, v4] (st) M = eb_E L d 33 34 [some (Sum.inr x), v1, v2, v3, v4] (Sum.inr x :: st) M := eb_E_s hk33 rfl
theorem e33_34  : eb_E L d 33 34 ls (Sum.inr (some a) :: st) (nc, ns, I, J, R) = if (eb_ty L a.1).1 = 3 then eb_E L d 33 37 ls (zi (I a 3) :: st) (nc, ns, I, J, R) else none := eb_E_iy hk33 rfl
theorem e33_37 {x : Int32} {y : Int32} : eb_E L d 33 37 ls (zi y :: zi x :: st) M = if x < y then eb_E L d 33 40 ls st M else eb_E L d 33 61 ls st M := eb_E_b hk33 rfl
theorem e33_40  : eb_E L d 33 40 ls (st) M = eb_E L d 33 42 ls (zi 10 :: st) M := eb_E_s hk33 rfl
theorem e33_42 {x : Int32} : eb_E L d 33 42 [v0, v1, v2, some (zi x), v4] (st) M = eb_E L d 33 43 [v0, v1, v2, some (zi x), v4] (zi x :: st) M := eb_E_s hk33 rfl
theorem e33_43 {x : Int32} {y : Int32} : eb_E L d 33 43 ls (zi y :: zi x :: st) M = eb_E L d 33 44 ls (zi (x * y) :: st) M := eb_E_s hk33 rfl
theorem e33_44 {x : Option eb_A} : eb_E L d 33 44 [some (Sum.inr x), v1, v2, v3, v4] (st) M = eb_E L d 33 45 [some (Sum.inr x), v1, v2, v3, v4] (Sum.inr x :: st) M := eb_E_s hk33 rfl
theorem e33_45 {x : Int32} : eb_E L d 33 45 [v0, v1, v2, v3, some (zi x)] (st) M = eb_E L d 33 47 [v0, v1, v2, v3, some (zi x)] (zi x :: st) M := eb_E_s hk33 rfl
theorem e33_47 {s0 : Int32} : eb_E L d 33 47 ls ([a1, a0, zi s0]) M = (eb_ev L d 37 [a0, a1] M).bind (fun q => eb_E L d 33 50 ls [q.1, zi s0] q.2) := eb_E_c hk33 rfl
theorem e33_50 {x : Int32} {y : Int32} : eb_E L d 33 50 ls (zi y :: zi x :: st) M = eb_E L d 33 51 ls (zi (x + y) :: st) M := eb_E_s hk33 rfl
theorem e33_51  : eb_E L d 33 51 ls (st) M = eb_E L d 33 53 ls (zi 48 :: st) M := eb_E_s hk33 rfl
theorem e33_53 {x : Int32} {y : Int32} : eb_E L d 33 53 ls (zi y :: zi x :: st) M = eb_E L d 33 54 ls (zi (x - y) :: st) M := eb_E_s hk33 rfl
theorem e33_54 {x : Int32} : eb_E L d 33 54 [v0, v1, v2, v3, v4] (zi x :: st) M = eb_E L d 33 55 [v0, v1, v2, some (zi x), v4] (st) M := eb_E_s hk33 rfl
theorem e33_55 {x : Int32} : eb_E L d 33 55 [v0, v1, v2, v3, some (zi x)] (st) M = eb_E L d 33 58 [v0, v1, v2, v3, some (zi (x + 1))] (st) M := eb_E_s hk33 rfl
theorem e33_58  : eb_E L d 33 58 ls (st) M = eb_E L d 33 31 ls (st) M := eb_E_s hk33 rfl
theorem e33_61 {x : Int32} : eb_E L d 33 61 [v0, v1, v2, some (zi x), v4] (st) M = eb_E L d 33 62 [v0, v1, v2, some (zi x), v4] (zi x :: st) M := eb_E_s hk33 rfl
theorem e33_62 {x : Int32} : eb_E L d 33 62 [v0, some (zi x), v2, v3, v4] (st) M = eb_E L d 33 63 [v0, some (zi x), v2, v3, v4] (zi x :: st) M := eb_E_s hk33 rfl
theorem e33_63 {x : Int32} : eb_E L d 33 63 [v0, v1, some (zi x), v3, v4] (st) M = eb_E L d 33 64 [v0, v1, some (zi x), v3, v4] (zi x :: st) M := eb_E_s hk33 rfl
theorem e33_64  : eb_E L d 33 64 ls ([a2, a1, a0]) M = (eb_ev L d 127 [a0, a1, a2] M).bind (fun q => eb_E L d 33 67 ls [q.1] q.2) := eb_E_c hk33 rfl
theorem e33_67 {x : Int32} : eb_E L d 33 67 ls (zi x :: st) M = if x = 0 then eb_E L d 33 74 ls st M else eb_E L d 33 70 ls st M := eb_E_b hk33 rfl
theorem e33_70 {x : Int32} : eb_E L d 33 70 [v0, v1, v2, some (zi x), v4] (st) M = eb_E L d 33 71 [v0, v1, v2, some (zi x), v4] (zi x :: st) M := eb_E_s hk33 rfl
theorem e33_71  : eb_E L d 33 71 ls (st) M = eb_E L d 33 75 ls (st) M := eb_E_s hk33 rfl
theorem e33_74  : eb_E L d 33 74 ls (st) M = eb_E L d 33 75 ls (zi (-1) :: st) M := eb_E_s hk33 rfl
theorem e33_75 {x : Int32} : eb_E L d 33 75 ls ([zi x]) M = some (zi x, M) := eb_E_r hk33 rfl
/-! X3_isWord -/
theorem hk34 : eb_cd L 34 = eb_look (kt34 L) := rfl
theorem h34 (ha : (eb_ty L a.1).1 = 3) {r1 : Option eb_A} : eb_ev L (d + 1) 34 [zr a, Sum.inr r1] M = eb_E L d 34 0 [some (zr a), some (Sum.inr r1), none] [] M := eb_ev_s rfl (eb_chk_i ha rfl)
theorem e34_0 {x : Option eb_A} : eb_E L d 34 0 [some (Sum.inr x), v1, v2] (st) M = eb_E L d 34 1 [some (Sum.inr x), v1, v2] (Sum.inr x :: st) M := eb_E_s hk34 rfl
theorem e34_1  : eb_E L d 34 1 ls (Sum.inr (some a) :: st) (nc, ns, I, J, R) = if (eb_ty L a.1).1 = 3 then eb_E L d 34 4 ls (zi (I a 4) :: st) (nc, ns, I, J, R) else none := eb_E_iy hk34 rfl
theorem e34_4  : eb_E L d 34 4 ls (st) M = eb_E L d 34 5 ls (zi 1 :: st) M := eb_E_s hk34 rfl
theorem e34_5 {x : Int32} {y : Int32} : eb_E L d 34 5 ls (zi y :: zi x :: st) M = if x = y then eb_E L d 34 8 ls st M else eb_E L d 34 24 ls st M := eb_E_b hk34 rfl
theorem e34_8 {x : Option eb_A} : eb_E L d 34 8 [some (Sum.inr x), v1, v2] (st) M = eb_E L d 34 9 [some (Sum.inr x), v1, v2] (Sum.inr x :: st) M := eb_E_s hk34 rfl
theorem e34_9  : eb_E L d 34 9 ls (Sum.inr (some a) :: st) (nc, ns, I, J, R) = if (eb_ty L a.1).1 = 3 then eb_E L d 34 12 ls (zi (I a 3) :: st) (nc, ns, I, J, R) else none := eb_E_iy hk34 rfl
theorem e34_12 {x : Option eb_A} : eb_E L d 34 12 [some (Sum.inr x), v1, v2] (st) M = eb_E L d 34 13 [some (Sum.inr x), v1, v2] (Sum.inr x :: st) M := eb_E_s hk34 rfl
theorem e34_13  : eb_E L d 34 13 ls (Sum.inr (some a) :: st) (nc, ns, I, J, R) = if (eb_ty L a.1).1 = 3 then eb_E L d 34 16 ls (zi (I a 2) :: st) (nc, ns, I, J, R) else none := eb_E_iy hk34 rfl
theorem e34_16 {x : Int32} {y : Int32} : eb_E L d 34 16 ls (zi y :: zi x :: st) M = eb_E L d 34 17 ls (zi (x - y) :: st) M := eb_E_s hk34 rfl
theorem e34_17 {x : Option eb_A} : eb_E L d 34 17 [v0, some (Sum.inr x), v2] (st) M = eb_E L d 34 18 [v0, some (Sum.inr x), v2] (Sum.inr x :: st) M := eb_E_s hk34 rfl
theorem e34_18 {s0 : Int32} : eb_E L d 34 18 ls ([a0, zi s0]) M = (eb_ev L d 905 [a0] M).bind (fun q => eb_E L d 34 21 ls [q.1, zi s0] q.2) := eb_E_c hk34 rfl
theorem e34_21 {x : Int32} {y : Int32} : eb_E L d 34 21 ls (zi y :: zi x :: st) M = if x = y then eb_E L d 34 26 ls st M else eb_E L d 34 24 ls st M := eb_E_b hk34 rfl
theorem e34_24  : eb_E L d 34 24 ls (st) M = eb_E L d 34 25 ls (zi 0 :: st) M := eb_E_s hk34 rfl
theorem e34_25 {x : Int32} : eb_E L d 34 25 ls ([zi x]) M = if x = 0 ∨ x = 1 then some (zi x, M) else none := eb_E_ri hk34 rfl
theorem e34_26  : eb_E L d 34 26 ls (st) M = eb_E L d 34 27 ls (zi 0 :: st) M := eb_E_s hk34 rfl
theorem e34_27 {x : Int32} : eb_E L d 34 27 [v0, v1, v2] (zi x :: st) M = eb_E L d 34 28 [v0, v1, some (zi x)] (st) M := eb_E_s hk34 rfl
theorem e34_28 {x : Int32} : eb_E L d 34 28 [v0, v1, some (zi x)] (st) M = eb_E L d 34 29 [v0, v1, some (zi x)] (zi x :: st) M := eb_E_s hk34 rfl
theorem e34_29 {x : Option eb_A} : eb_E L d 34 29 [v0, some (Sum.inr x), v2] (st) M = eb_E L d 34 30 [v0, some (Sum.inr x), v2] (Sum.inr x :: st) M := eb_E_s hk34 rfl
theorem e34_30 {s0 : Int32} : eb_E L d 34 30 ls ([a0, zi s0]) M = (eb_ev L d 905 [a0] M).bind (fun q => eb_E L d 34 33 ls [q.1, zi s0] q.2) := eb_E_c hk34 rfl
theorem e34_33 {x : Int32} {y : Int32} : eb_E L d 34 33 ls (zi y :: zi x :: st) M = if x < y then eb_E L d 34 36 ls st M else eb_E L d 34 62 ls st M := eb_E_b hk34 rfl
theorem e34_36 {x : Option eb_A} : eb_E L d 34 36 [some (Sum.inr x), v1, v2] (st) M = eb_E L d 34 37 [some (Sum.inr x), v1, v2] (Sum.inr x :: st) M := eb_E_s hk34 rfl
theorem e34_37 {x : Option eb_A} : eb_E L d 34 37 [some (Sum.inr x), v1, v2] (st) M = eb_E L d 34 38 [some (Sum.inr x), v1, v2] (Sum.inr x :: st) M := eb_E_s hk34 rfl
theorem e34_38  : eb_E L d 34 38 ls (Sum.inr (some a) :: st) (nc, ns, I, J, R) = if (eb_ty L a.1).1 = 3 then eb_E L d 34 41 ls (zi (I a 2) :: st) (nc, ns, I, J, R) else none := eb_E_iy hk34 rfl
theorem e34_41 {x : Int32} : eb_E L d 34 41 [v0, v1, some (zi x)] (st) M = eb_E L d 34 42 [v0, v1, some (zi x)] (zi x :: st) M := eb_E_s hk34 rfl
theorem e34_42 {x : Int32} {y : Int32} : eb_E L d 34 42 ls (zi y :: zi x :: st) M = eb_E L d 34 43 ls (zi (x + y) :: st) M := eb_E_s hk34 rfl
theorem e34_43  : eb_E L d 34 43 ls ([a1, a0]) M = (eb_ev L d 37 [a0, a1] M).bind (fun q => eb_E L d 34 46 ls [q.1] q.2) := eb_E_c hk34 rfl
theorem e34_46 {x : Option eb_A} : eb_E L d 34 46 [v0, some (Sum.inr x), v2] (st) M = eb_E L d 34 47 [v0, some (Sum.inr x), v2] (Sum.inr x :: st) M := eb_E_s hk34 rfl
theorem e34_47 {x : Int32} : eb_E L d 34 47 [v0, v1, some (zi x)] (st) M = eb_E L d 34 48 [v0, v1, some (zi x)] (zi x :: st) M := eb_E_s hk34 rfl
theorem e34_48 {s0 : Int32} : eb_E L d 34 48 ls ([a1, a0, zi s0]) M = (eb_ev L d 906 [a0, a1] M).bind (fun q => eb_E L d 34 51 ls [q.1, zi s0] q.2) := eb_E_c hk34 rfl
theorem e34_51 {x : Int32} {y : Int32} : eb_E L d 34 51 ls (zi y :: zi x :: st) M = if x = y then eb_E L d 34 56 ls st M else eb_E L d 34 54 ls st M := eb_E_b hk34 rfl
theorem e34_54  : eb_E L d 34 54 ls (st) M = eb_E L d 34 55 ls (zi 0 :: st) M := eb_E_s hk34 rfl
theorem e34_55 {x : Int32} : eb_E L d 34 55 ls ([zi x]) M = if x = 0 ∨ x = 1 then some (zi x, M) else none := eb_E_ri hk34 rfl
theorem e34_56 {x : Int32} : eb_E L d 34 56 [v0, v1, some (zi x)] (st) M = eb_E L d 34 59 [v0, v1, some (zi (x + 1))] (st) M := eb_E_s hk34 rfl
theorem e34_59  : eb_E L d 34 59 ls (st) M = eb_E L d 34 28 ls (st) M := eb_E_s hk34 rfl
theorem e34_62  : eb_E L d 34 62 ls (st) M = eb_E L d 34 63 ls (zi 1 :: st) M := eb_E_s hk34 rfl
theorem e34_63 {x : Int32} : eb_E L d 34 63 ls ([zi x]) M = if x = 0 ∨ x = 1 then some (zi x, M) else none := eb_E_ri hk34 rfl
/-! X3_readToken -/
theorem hk35 : eb_cd L 35 = eb_look (kt35 L) := rfl
theorem h35 (ha : (eb_ty L a.1).1 = 3) : eb_ev L (d + 1) 35 [zr a] M = eb_E L d 35 0 [some (zr a), none] [] M := eb_ev_s rfl (eb_chk_i ha rfl)
theorem e35_0 {x : Option eb_A} : eb_E L d 35 0 [some (Sum.inr x), v1] (st) M = eb_E L d 35 1 [some (Sum.inr x), v1] (Sum.inr x :: st) M := eb_E_s hk35 rfl
theorem e35_1  : eb_E L d 35 1 ls (Sum.inr (some a) :: st) (nc, ns, I, J, R) = if (eb_ty L a.1).1 = 3 then eb_E L d 35 4 ls (zi (I a 3) :: st) (nc, ns, I, J, R) else none := eb_E_iy hk35 rfl
theorem e35_4 {x : Int32} : eb_E L d 35 4 [v0, v1] (zi x :: st) M = eb_E L d 35 5 [v0, some (zi x)] (st) M := eb_E_s hk35 rfl
theorem e35_5 {x : Int32} : eb_E L d 35 5 [v0, some (zi x)] (st) M = eb_E L d 35 6 [v0, some (zi x)] (zi x :: st) M := eb_E_s hk35 rfl
theorem e35_6 {x : Option eb_A} : eb_E L d 35 6 [some (Sum.inr x), v1] (st) M = eb_E L d 35 7 [some (Sum.inr x), v1] (Sum.inr x :: st) M := eb_E_s hk35 rfl
theorem e35_7  : eb_E L d 35 7 ls (Sum.inr (some a) :: st) (nc, ns, I, J, R) = if (eb_ty L a.1).1 = 3 then eb_E L d 35 10 ls (zi (I a 1) :: st) (nc, ns, I, J, R) else none := eb_E_iy hk35 rfl
theorem e35_10 {x : Int32} {y : Int32} : eb_E L d 35 10 ls (zi y :: zi x :: st) M = if x < y then eb_E L d 35 13 ls st M else eb_E L d 35 29 ls st M := eb_E_b hk35 rfl
theorem e35_13 {x : Option eb_A} : eb_E L d 35 13 [some (Sum.inr x), v1] (st) M = eb_E L d 35 14 [some (Sum.inr x), v1] (Sum.inr x :: st) M := eb_E_s hk35 rfl
theorem e35_14 {x : Int32} : eb_E L d 35 14 [v0, some (zi x)] (st) M = eb_E L d 35 15 [v0, some (zi x)] (zi x :: st) M := eb_E_s hk35 rfl
theorem e35_15  : eb_E L d 35 15 ls ([a1, a0]) M = (eb_ev L d 37 [a0, a1] M).bind (fun q => eb_E L d 35 18 ls [q.1] q.2) := eb_E_c hk35 rfl
theorem e35_18  : eb_E L d 35 18 ls (st) M = eb_E L d 35 20 ls (zi 32 :: st) M := eb_E_s hk35 rfl
theorem e35_20 {x : Int32} {y : Int32} : eb_E L d 35 20 ls (zi y :: zi x :: st) M = if x = y then eb_E L d 35 23 ls st M else eb_E L d 35 29 ls st M := eb_E_b hk35 rfl
theorem e35_23 {x : Int32} : eb_E L d 35 23 [v0, some (zi x)] (st) M = eb_E L d 35 26 [v0, some (zi (x + 1))] (st) M := eb_E_s hk35 rfl
theorem e35_26  : eb_E L d 35 26 ls (st) M = eb_E L d 35 5 ls (st) M := eb_E_s hk35 rfl
theorem e35_29 {x : Option eb_A} : eb_E L d 35 29 [some (Sum.inr x), v1] (st) M = eb_E L d 35 30 [some (Sum.inr x), v1] (Sum.inr x :: st) M := eb_E_s hk35 rfl
theorem e35_30 {x : Int32} : eb_E L d 35 30 [v0, some (zi x)] (st) M = eb_E L d 35 31 [v0, some (zi x)] (zi x :: st) M := eb_E_s hk35 rfl
theorem e35_31 {x : Int32} : eb_E L d 35 31 ls (zi x :: Sum.inr (some a) :: st) (nc, ns, I, J, R) = if (eb_ty L a.1).1 = 3 then eb_E L d 35 34 ls (st) (nc, ns, eb_u I a 2 x, J, R) else none := eb_E_iy hk35 rfl
theorem e35_34 {x : Option eb_A} : eb_E L d 35 34 [some (Sum.inr x), v1] (st) M = eb_E L d 35 35 [some (Sum.inr x), v1] (Sum.inr x :: st) M := eb_E_s hk35 rfl
theorem e35_35 {x : Option eb_A} : eb_E L d 35 35 [some (Sum.inr x), v1] (st) M = eb_E L d 35 36 [some (Sum.inr x), v1] (Sum.inr x :: st) M := eb_E_s hk35 rfl
theorem e35_36 {x : Int32} : eb_E L d 35 36 [v0, some (zi x)] (st) M = eb_E L d 35 37 [v0, some (zi x)] (zi x :: st) M := eb_E_s hk35 rfl
theorem e35_37 {s0 : Option eb_A} : eb_E L d 35 37 ls ([a1, a0, Sum.inr s0]) M = (eb_ev L d 36 [a0, a1] M).bind (fun q => eb_E L d 35 40 ls [q.1, Sum.inr s0] q.2) := eb_E_c hk35 rfl
theorem e35_40 {x : Int32} : eb_E L d 35 40 ls (zi x :: Sum.inr (some a) :: st) (nc, ns, I, J, R) = if (eb_ty L a.1).1 = 3 then eb_E L d 35 43 ls (st) (nc, ns, eb_u I a 4 x, J, R) else none := eb_E_iy hk35 rfl
theorem e35_43 {x : Int32} : eb_E L d 35 43 [v0, some (zi x)] (st) M = eb_E L d 35 44 [v0, some (zi x)] (zi x :: st) M := eb_E_s hk35 rfl
theorem e35_44 {x : Option eb_A} : eb_E L d 35 44 [some (Sum.inr x), v1] (st) M = eb_E L d 35 45 [some (Sum.inr x), v1] (Sum.inr x :: st) M := eb_E_s hk35 rfl
theorem e35_45  : eb_E L d 35 45 ls (Sum.inr (some a) :: st) (nc, ns, I, J, R) = if (eb_ty L a.1).1 = 3 then eb_E L d 35 48 ls (zi (I a 1) :: st) (nc, ns, I, J, R) else none := eb_E_iy hk35 rfl
theorem e35_48 {x : Int32} {y : Int32} : eb_E L d 35 48 ls (zi y :: zi x :: st) M = if x < y then eb_E L d 35 51 ls st M else eb_E L d 35 54 ls st M := eb_E_b hk35 rfl
theorem e35_51 {x : Int32} : eb_E L d 35 51 [v0, some (zi x)] (st) M = eb_E L d 35 54 [v0, some (zi (x + 1))] (st) M := eb_E_s hk35 rfl
theorem e35_54 {x : Int32} : eb_E L d 35 54 [v0, some (zi x)] (st) M = eb_E L d 35 55 [v0, some (zi x)] (zi x :: st) M := eb_E_s hk35 rfl
theorem e35_55 {x : Option eb_A} : eb_E L d 35 55 [some (Sum.inr x), v1] (st) M = eb_E L d 35 56 [some (Sum.inr x), v1] (Sum.inr x :: st) M := eb_E_s hk35 rfl
theorem e35_56  : eb_E L d 35 56 ls (Sum.inr (some a) :: st) (nc, ns, I, J, R) = if (eb_ty L a.1).1 = 3 then eb_E L d 35 59 ls (zi (I a 1) :: st) (nc, ns, I, J, R) else none := eb_E_iy hk35 rfl
theorem e35_59 {x : Int32} {y : Int32} : eb_E L d 35 59 ls (zi y :: zi x :: st) M = if x < y then eb_E L d 35 62 ls st M else eb_E L d 35 96 ls st M := eb_E_b hk35 rfl
theorem e35_62 {x : Option eb_A} : eb_E L d 35 62 [some (Sum.inr x), v1] (st) M = eb_E L d 35 63 [some (Sum.inr x), v1] (Sum.inr x :: st) M := eb_E_s hk35 rfl
theorem e35_63  : eb_E L d 35 63 ls (Sum.inr (some a) :: st) (nc, ns, I, J, R) = if (eb_ty L a.1).1 = 3 then eb_E L d 35 66 ls (zi (I a 4) :: st) (nc, ns, I, J, R) else none := eb_E_iy hk35 rfl
theorem e35_66  : eb_E L d 35 66 ls (st) M = eb_E L d 35 67 ls (zi 1 :: st) M := eb_E_s hk35 rfl
theorem e35_67 {x : Int32} {y : Int32} : eb_E L d 35 67 ls (zi y :: zi x :: st) M = if x = y then eb_E L d 35 78 ls st M else eb_E L d 35 70 ls st M := eb_E_b hk35 rfl
theorem e35_70 {x : Option eb_A} : eb_E L d 35 70 [some (Sum.inr x), v1] (st) M = eb_E L d 35 71 [some (Sum.inr x), v1] (Sum.inr x :: st) M := eb_E_s hk35 rfl
theorem e35_71  : eb_E L d 35 71 ls (Sum.inr (some a) :: st) (nc, ns, I, J, R) = if (eb_ty L a.1).1 = 3 then eb_E L d 35 74 ls (zi (I a 4) :: st) (nc, ns, I, J, R) else none := eb_E_iy hk35 rfl
theorem e35_74  : eb_E L d 35 74 ls (st) M = eb_E L d 35 75 ls (zi 2 :: st) M := eb_E_s hk35 rfl
theorem e35_75 {x : Int32} {y : Int32} : eb_E L d 35 75 ls (zi y :: zi x :: st) M = if x = y then eb_E L d 35 78 ls st M else eb_E L d 35 96 ls st M := eb_E_b hk35 rfl
theorem e35_78 {x : Option eb_A} : eb_E L d 35 78 [some (Sum.inr x), v1] (st) M = eb_E L d 35 79 [some (Sum.inr x), v1] (Sum.inr x :: st) M := eb_E_s hk35 rfl
theorem e35_79 {x : Int32} : eb_E L d 35 79 [v0, some (zi x)] (st) M = eb_E L d 35 80 [v0, some (zi x)] (zi x :: st) M := eb_E_s hk35 rfl
theorem e35_80  : eb_E L d 35 80 ls ([a1, a0]) M = (eb_ev L d 36 [a0, a1] M).bind (fun q => eb_E L d 35 83 ls [q.1] q.2) := eb_E_c hk35 rfl
theorem e35_83 {x : Option eb_A} : eb_E L d 35 83 [some (Sum.inr x), v1] (st) M = eb_E L d 35 84 [some (Sum.inr x), v1] (Sum.inr x :: st) M := eb_E_s hk35 rfl
theorem e35_84  : eb_E L d 35 84 ls (Sum.inr (some a) :: st) (nc, ns, I, J, R) = if (eb_ty L a.1).1 = 3 then eb_E L d 35 87 ls (zi (I a 4) :: st) (nc, ns, I, J, R) else none := eb_E_iy hk35 rfl
theorem e35_87 {x : Int32} {y : Int32} : eb_E L d 35 87 ls (zi y :: zi x :: st) M = if x = y then eb_E L d 35 90 ls st M else eb_E L d 35 96 ls st M := eb_E_b hk35 rfl
theorem e35_90 {x : Int32} : eb_E L d 35 90 [v0, some (zi x)] (st) M = eb_E L d 35 93 [v0, some (zi (x + 1))] (st) M := eb_E_s hk35 rfl
theorem e35_93  : eb_E L d 35 93 ls (st) M = eb_E L d 35 54 ls (st) M := eb_E_s hk35 rfl
theorem e35_96 {x : Option eb_A} : eb_E L d 35 96 [some (Sum.inr x), v1] (st) M = eb_E L d 35 97 [some (Sum.inr x), v1] (Sum.inr x :: st) M := eb_E_s hk35 rfl
theorem e35_97 {x : Int32} : eb_E L d 35 97 [v0, some (zi x)] (st) M = eb_E L d 35 98 [v0, some (zi x)] (zi x :: st) M := eb_E_s hk35 rfl
theorem e35_98 {x : Int32} : eb_E L d 35 98 ls (zi x :: Sum.inr (some a) :: st) (nc, ns, I, J, R) = if (eb_ty L a.1).1 = 3 then eb_E L d 35 101 ls (st) (nc, ns, eb_u I a 3 x, J, R) else none := eb_E_iy hk35 rfl
theorem e35_101  : eb_E L d 35 101 ls ([]) M = some (zn, M) := eb_E_r hk35 rfl
/-! X3_tokenAt -/
theorem hk36 : eb_cd L 36 = eb_look (kt36 L) := rfl
theorem h36 (ha : (eb_ty L a.1).1 = 3) {x1 : Int32} : eb_ev L (d + 1) 36 [zr a, zi x1] M = eb_E L d 36 0 [some (zr a), some (zi x1), none] [] M := eb_ev_s rfl (eb_chk_i ha rfl)
theorem e36_0 {x : Option eb_A} : eb_E L d 36 0 [some (Sum.inr x), v1, v2] (st) M = eb_E L d 36 1 [some (Sum.inr x), v1, v2] (Sum.inr x :: st) M := eb_E_s hk36 rfl
theorem e36_1 {x : Int32} : eb_E L d 36 1 [v0, some (zi x), v2] (st) M = eb_E L d 36 2 [v0, some (zi x), v2] (zi x :: st) M := eb_E_s hk36 rfl
theorem e36_2  : eb_E L d 36 2 ls ([a1, a0]) M = (eb_ev L d 37 [a0, a1] M).bind (fun q => eb_E L d 36 5 ls [q.1] q.2) := eb_E_c hk36 rfl
theorem e36_5 {x : Int32} : eb_E L d 36 5 [v0, v1, v2] (zi x :: st) M = eb_E L d 36 6 [v0, v1, some (zi x)] (st) M := eb_E_s hk36 rfl
theorem e36_6 {x : Int32} : eb_E L d 36 6 [v0, v1, some (zi x)] (st) M = eb_E L d 36 7 [v0, v1, some (zi x)] (zi x :: st) M := eb_E_s hk36 rfl
theorem e36_7  : eb_E L d 36 7 ls (st) M = eb_E L d 36 8 ls (zi (-1) :: st) M := eb_E_s hk36 rfl
theorem e36_8 {x : Int32} {y : Int32} : eb_E L d 36 8 ls (zi y :: zi x :: st) M = if x = y then eb_E L d 36 11 ls st M else eb_E L d 36 13 ls st M := eb_E_b hk36 rfl
theorem e36_11  : eb_E L d 36 11 ls (st) M = eb_E L d 36 12 ls (zi 0 :: st) M := eb_E_s hk36 rfl
theorem e36_12 {x : Int32} : eb_E L d 36 12 ls ([zi x]) M = some (zi x, M) := eb_E_r hk36 rfl
theorem e36_13 {x : Int32} : eb_E L d 36 13 [v0, v1, some (zi x)] (st) M = eb_E L d 36 14 [v0, v1, some (zi x)] (zi x :: st) M := eb_E_s hk36 rfl
theorem e36_14  : eb_E L d 36 14 ls (st) M = eb_E L d 36 16 ls (zi 97 :: st) M := eb_E_s hk36 rfl
theorem e36_16 {x : Int32} {y : Int32} : eb_E L d 36 16 ls (zi y :: zi x :: st) M = if x < y then eb_E L d 36 27 ls st M else eb_E L d 36 19 ls st M := eb_E_b hk36 rfl
theorem e36_19 {x : Int32} : eb_E L d 36 19 [v0, v1, some (zi x)] (st) M = eb_E L d 36 20 [v0, v1, some (zi x)] (zi x :: st) M := eb_E_s hk36 rfl
theorem e36_20  : eb_E L d 36 20 ls (st) M = eb_E L d 36 22 ls (zi 122 :: st) M := eb_E_s hk36 rfl
theorem e36_22 {x : Int32} {y : Int32} : eb_E L d 36 22 ls (zi y :: zi x :: st) M = if y < x then eb_E L d 36 27 ls st M else eb_E L d 36 25 ls st M := eb_E_b hk36 rfl
theorem e36_25  : eb_E L d 36 25 ls (st) M = eb_E L d 36 26 ls (zi 1 :: st) M := eb_E_s hk36 rfl
theorem e36_26 {x : Int32} : eb_E L d 36 26 ls ([zi x]) M = some (zi x, M) := eb_E_r hk36 rfl
theorem e36_27 {x : Int32} : eb_E L d 36 27 [v0, v1, some (zi x)] (st) M = eb_E L d 36 28 [v0, v1, some (zi x)] (zi x :: st) M := eb_E_s hk36 rfl
theorem e36_28  : eb_E L d 36 28 ls (st) M = eb_E L d 36 30 ls (zi 48 :: st) M := eb_E_s hk36 rfl
theorem e36_30 {x : Int32} {y : Int32} : eb_E L d 36 30 ls (zi y :: zi x :: st) M = if x < y then eb_E L d 36 41 ls st M else eb_E L d 36 33 ls st M := eb_E_b hk36 rfl
theorem e36_33 {x : Int32} : eb_E L d 36 33 [v0, v1, some (zi x)] (st) M = eb_E L d 36 34 [v0, v1, some (zi x)] (zi x :: st) M := eb_E_s hk36 rfl
theorem e36_34  : eb_E L d 36 34 ls (st) M = eb_E L d 36 36 ls (zi 57 :: st) M := eb_E_s hk36 rfl
theorem e36_36 {x : Int32} {y : Int32} : eb_E L d 36 36 ls (zi y :: zi x :: st) M = if y < x then eb_E L d 36 41 ls st M else eb_E L d 36 39 ls st M := eb_E_b hk36 rfl
theorem e36_39  : eb_E L d 36 39 ls (st) M = eb_E L d 36 40 ls (zi 2 :: st) M := eb_E_s hk36 rfl
theorem e36_40 {x : Int32} : eb_E L d 36 40 ls ([zi x]) M = some (zi x, M) := eb_E_r hk36 rfl
theorem e36_41 {x : Int32} : eb_E L d 36 41 [v0, v1, some (zi x)] (st) M = eb_E L d 36 42 [v0, v1, some (zi x)] (zi x :: st) M := eb_E_s hk36 rfl
theorem e36_42  : eb_E L d 36 42 ls (st) M = eb_E L d 36 44 ls (zi 59 :: st) M := eb_E_s hk36 rfl
theorem e36_44 {x : Int32} {y : Int32} : eb_E L d 36 44 ls (zi y :: zi x :: st) M = if x = y then eb_E L d 36 47 ls st M else eb_E L d 36 51 ls st M := eb_E_b hk36 rfl
theorem e36_47  : eb_E L d 36 47 ls (st) M = eb_E L d 36 48 ls (zi 3 :: st) M := eb_E_s hk36 rfl
theorem e36_48  : eb_E L d 36 48 ls (st) M = eb_E L d 36 52 ls (st) M := eb_E_s hk36 rfl
theorem e36_51  : eb_E L d 36 51 ls (st) M = eb_E L d 36 52 ls (zi 4 :: st) M := eb_E_s hk36 rfl
theorem e36_52 {x : Int32} : eb_E L d 36 52 ls ([zi x]) M = some (zi x, M) := eb_E_r hk36 rfl
/-! X3_byteAt -/
theorem hk37 : eb_cd L 37 = eb_look (kt37 L) := rfl
theorem h37 (ha : (eb_ty L a.1).1 = 3) {x1 : Int32} : eb_ev L (d + 1) 37 [zr a, zi x1] M = eb_E L d 37 0 [some (zr a), some (zi x1)] [] M := eb_ev_s rfl (eb_chk_i ha rfl)
theorem e37_0 {x : Int32} : eb_E L d 37 0 [v0, some (zi x)] (st) M = eb_E L d 37 1 [v0, some (zi x)] (zi x :: st) M := eb_E_s hk37 rfl
theorem e37_1 {x : Int32} : eb_E L d 37 1 ls (zi x :: st) M = if x < 0 then eb_E L d 37 28 ls st M else eb_E L d 37 4 ls st M := eb_E_b hk37 rfl
theorem e37_4 {x : Int32} : eb_E L d 37 4 [v0, some (zi x)] (st) M = eb_E L d 37 5 [v0, some (zi x)] (zi x :: st) M := eb_E_s hk37 rfl
theorem e37_5 {x : Option eb_A} : eb_E L d 37 5 [some (Sum.inr x), v1] (st) M = eb_E L d 37 6 [some (Sum.inr x), v1] (Sum.inr x :: st) M := eb_E_s hk37 rfl
theorem e37_6  : eb_E L d 37 6 ls (Sum.inr (some a) :: st) (nc, ns, I, J, R) = if (eb_ty L a.1).1 = 3 then eb_E L d 37 9 ls (zi (I a 1) :: st) (nc, ns, I, J, R) else none := eb_E_iy hk37 rfl
theorem e37_9 {x : Int32} {y : Int32} : eb_E L d 37 9 ls (zi y :: zi x :: st) M = if x < y then eb_E L d 37 12 ls st M else eb_E L d 37 28 ls st M := eb_E_b hk37 rfl
theorem e37_12 {x : Int32} : eb_E L d 37 12 [v0, some (zi x)] (st) M = eb_E L d 37 13 [v0, some (zi x)] (zi x :: st) M := eb_E_s hk37 rfl
theorem e37_13  : eb_E L d 37 13 ls (st) M = eb_E L d 37 16 ls (zi 250 :: st) M := eb_E_s hk37 rfl
theorem e37_16 {x : Int32} {y : Int32} : eb_E L d 37 16 ls (zi y :: zi x :: st) M = if x < y then eb_E L d 37 19 ls st M else eb_E L d 37 28 ls st M := eb_E_b hk37 rfl
theorem e37_19 {x : Option eb_A} : eb_E L d 37 19 [some (Sum.inr x), v1] (st) M = eb_E L d 37 20 [some (Sum.inr x), v1] (Sum.inr x :: st) M := eb_E_s hk37 rfl
theorem e37_20  : eb_E L d 37 20 ls (Sum.inr (some a) :: st) (nc, ns, I, J, R) = if (eb_ty L a.1).1 = 3 then eb_E L d 37 23 ls (Sum.inr (R a 0) :: st) (nc, ns, I, J, R) else none := eb_E_iy hk37 rfl
theorem e37_23 {x : Int32} : eb_E L d 37 23 [v0, some (zi x)] (st) M = eb_E L d 37 24 [v0, some (zi x)] (zi x :: st) M := eb_E_s hk37 rfl
theorem e37_24 {x : Int32} : eb_E L d 37 24 ls (zi x :: Sum.inr (some a) :: st) (nc, ns, I, J, R) = if (eb_ty L a.1).1 = 10 ∧ eb_in x (eb_ty L a.1).2 = true then eb_E L d 37 25 ls (zi (I a x.toNatClampNeg) :: st) (nc, ns, I, J, R) else none := eb_E_iy hk37 rfl
theorem e37_25  : eb_E L d 37 25 ls (st) M = eb_E L d 37 29 ls (st) M := eb_E_s hk37 rfl
theorem e37_28  : eb_E L d 37 28 ls (st) M = eb_E L d 37 29 ls (zi (-1) :: st) M := eb_E_s hk37 rfl
theorem e37_29 {x : Int32} : eb_E L d 37 29 ls ([zi x]) M = some (zi x, M) := eb_E_r hk37 rfl
/-! X4_init -/
theorem hk38 : eb_cd L 38 = eb_look (kt38 L) := rfl
theorem h38 (ha : (eb_ty L a.1).1 = 4) : eb_ev L (d + 1) 38 [zr a] M = eb_E L d 38 0 [some (zr a), none] [] M := eb_ev_s rfl (eb_chk_i ha rfl)
theorem e38_0 {x : Option eb_A} : eb_E L d 38 0 [some (Sum.inr x), v1] (st) M = eb_E L d 38 1 [some (Sum.inr x), v1] (Sum.inr x :: st) M := eb_E_s hk38 rfl
theorem e38_1  : eb_E L d 38 1 ls ([a0]) M = (eb_ev L d 903 [a0] M).bind (fun q => eb_E L d 38 4 ls [] q.2) := eb_E_c hk38 rfl
theorem e38_4 {x : Option eb_A} : eb_E L d 38 4 [some (Sum.inr x), v1] (st) M = eb_E L d 38 5 [some (Sum.inr x), v1] (Sum.inr x :: st) M := eb_E_s hk38 rfl
theorem e38_5  : eb_E L d 38 5 ls (st) M = eb_E L d 38 7 ls (zi 6 :: st) M := eb_E_s hk38 rfl
theorem e38_7 {x : Int32} : eb_E L d 38 7 ls (zi x :: st) (nc, ns, I, J, R) = if eb_ty L (eb_nm nc).1 = (12, x.toNatClampNeg) ∧ ¬ x < 0 ∧ x.toNatClampNeg ≤ 1000 then eb_E L d 38 10 ls (zr (eb_nm nc) :: st) (nc + 1, ns + x.toNatClampNeg, I, J, eb_zR R (eb_nm nc) x.toNatClampNeg) else none := eb_E_iy hk38 rfl
theorem e38_10 {x : Option eb_A} : eb_E L d 38 10 ls (Sum.inr x :: Sum.inr (some a) :: st) (nc, ns, I, J, R) = if (eb_ty L a.1).1 = 4 then eb_E L d 38 13 ls (st) (nc, ns, I, J, eb_u R a 0 x) else none := eb_E_iy hk38 rfl
theorem e38_13 {x : Option eb_A} : eb_E L d 38 13 [some (Sum.inr x), v1] (st) M = eb_E L d 38 14 [some (Sum.inr x), v1] (Sum.inr x :: st) M := eb_E_s hk38 rfl
theorem e38_14  : eb_E L d 38 14 ls (st) M = eb_E L d 38 16 ls (zi 6 :: st) M := eb_E_s hk38 rfl
theorem e38_16 {x : Int32} : eb_E L d 38 16 ls (zi x :: st) (nc, ns, I, J, R) = if eb_ty L (eb_nm nc).1 = (13, x.toNatClampNeg) ∧ ¬ x < 0 ∧ x.toNatClampNeg ≤ 1000 then eb_E L d 38 19 ls (zr (eb_nm nc) :: st) (nc + 1, ns + x.toNatClampNeg, I, J, eb_zR R (eb_nm nc) x.toNatClampNeg) else none := eb_E_iy hk38 rfl
theorem e38_19 {x : Option eb_A} : eb_E L d 38 19 ls (Sum.inr x :: Sum.inr (some a) :: st) (nc, ns, I, J, R) = if (eb_ty L a.1).1 = 4 then eb_E L d 38 22 ls (st) (nc, ns, I, J, eb_u R a 1 x) else none := eb_E_iy hk38 rfl
theorem e38_22 {x : Option eb_A} : eb_E L d 38 22 [some (Sum.inr x), v1] (st) M = eb_E L d 38 23 [some (Sum.inr x), v1] (Sum.inr x :: st) M := eb_E_s hk38 rfl
theorem e38_23  : eb_E L d 38 23 ls (st) M = eb_E L d 38 24 ls (zi 1 :: st) M := eb_E_s hk38 rfl
theorem e38_24 {x : Int32} : eb_E L d 38 24 ls (zi x :: Sum.inr (some a) :: st) (nc, ns, I, J, R) = if (eb_ty L a.1).1 = 4 then eb_E L d 38 27 ls (st) (nc, ns, eb_u I a 6 x, J, R) else none := eb_E_iy hk38 rfl
theorem e38_27 {x : Option eb_A} : eb_E L d 38 27 [some (Sum.inr x), v1] (st) M = eb_E L d 38 28 [some (Sum.inr x), v1] (Sum.inr x :: st) M := eb_E_s hk38 rfl
theorem e38_28  : eb_E L d 38 28 ls (st) M = eb_E L d 38 30 ls (zi 6 :: st) M := eb_E_s hk38 rfl
theorem e38_30 {x : Int32} : eb_E L d 38 30 ls (zi x :: st) (nc, ns, I, J, R) = if eb_ty L (eb_nm nc).1 = (10, x.toNatClampNeg) ∧ ¬ x < 0 ∧ x.toNatClampNeg ≤ 1000 then eb_E L d 38 32 ls (zr (eb_nm nc) :: st) (nc + 1, ns + x.toNatClampNeg, eb_zI I (eb_nm nc), J, R) else none := eb_E_iy hk38 rfl
theorem e38_32 {x : Option eb_A} : eb_E L d 38 32 ls (Sum.inr x :: Sum.inr (some a) :: st) (nc, ns, I, J, R) = if (eb_ty L a.1).1 = 4 then eb_E L d 38 35 ls (st) (nc, ns, I, J, eb_u R a 7 x) else none := eb_E_iy hk38 rfl
theorem e38_35 {x : Option eb_A} : eb_E L d 38 35 [some (Sum.inr x), v1] (st) M = eb_E L d 38 36 [some (Sum.inr x), v1] (Sum.inr x :: st) M := eb_E_s hk38 rfl
theorem e38_36  : eb_E L d 38 36 ls (st) M = eb_E L d 38 38 ls (zi 6 :: st) M := eb_E_s hk38 rfl
theorem e38_38 {x : Int32} : eb_E L d 38 38 ls (zi x :: st) (nc, ns, I, J, R) = if eb_ty L (eb_nm nc).1 = (13, x.toNatClampNeg) ∧ ¬ x < 0 ∧ x.toNatClampNeg ≤ 1000 then eb_E L d 38 41 ls (zr (eb_nm nc) :: st) (nc + 1, ns + x.toNatClampNeg, I, J, eb_zR R (eb_nm nc) x.toNatClampNeg) else none := eb_E_iy hk38 rfl
theorem e38_41 {x : Option eb_A} : eb_E L d 38 41 ls (Sum.inr x :: Sum.inr (some a) :: st) (nc, ns, I, J, R) = if (eb_ty L a.1).1 = 4 then eb_E L d 38 44 ls (st) (nc, ns, I, J, eb_u R a 8 x) else none := eb_E_iy hk38 rfl
theorem e38_44  : eb_E L d 38 44 ls (st) M = eb_E L d 38 45 ls (zi 0 :: st) M := eb_E_s hk38 rfl
theorem e38_45 {x : Int32} : eb_E L d 38 45 [v0, v1] (zi x :: st) M = eb_E L d 38 46 [v0, some (zi x)] (st) M := eb_E_s hk38 rfl
theorem e38_46 {x : Int32} : eb_E L d 38 46 [v0, some (zi x)] (st) M = eb_E L d 38 47 [v0, some (zi x)] (zi x :: st) M := eb_E_s hk38 rfl
theorem e38_47  : eb_E L d 38 47 ls (st) M = eb_E L d 38 49 ls (zi 6 :: st) M := eb_E_s hk38 rfl
theorem e38_49 {x : Int32} {y : Int32} : eb_E L d 38 49 ls (zi y :: zi x :: st) M = if x < y then eb_E L d 38 52 ls st M else eb_E L d 38 71 ls st M := eb_E_b hk38 rfl
theorem e38_52 {x : Option eb_A} : eb_E L d 38 52 [some (Sum.inr x), v1] (st) M = eb_E L d 38 53 [some (Sum.inr x), v1] (Sum.inr x :: st) M := eb_E_s hk38 rfl
theorem e38_53  : eb_E L d 38 53 ls (Sum.inr (some a) :: st) (nc, ns, I, J, R) = if (eb_ty L a.1).1 = 4 then eb_E L d 38 56 ls (Sum.inr (R a 0) :: st) (nc, ns, I, J, R) else none := eb_E_iy hk38 rfl
theorem e38_56 {x : Int32} : eb_E L d 38 56 [v0, some (zi x)] (st) M = eb_E L d 38 57 [v0, some (zi x)] (zi x :: st) M := eb_E_s hk38 rfl
theorem e38_57  : eb_E L d 38 57 ls (st) (nc, ns, I, J, R) = if (eb_ty L (eb_nm nc).1).1 = 1 then eb_E L d 38 60 ls (zr (eb_nm nc) :: st) (nc + 1, ns + 9, eb_zI I (eb_nm nc), J, eb_zR R (eb_nm nc) 9) else none := eb_E_iy hk38 rfl
theorem e38_60a {x : Int32} : eb_E L d 38 60 ls (zi x :: st) M = eb_E L d 38 61 ls (zi x :: zi x :: st) M := eb_E_s hk38 rfl
theorem e38_60b {x : Option eb_A} : eb_E L d 38 60 ls (Sum.inr x :: st) M = eb_E L d 38 61 ls (Sum.inr x :: Sum.inr x :: st) M := eb_E_s hk38 rfl
theorem e38_61 {s0 : Option eb_A} {s1 : Int32} {s2 : Option eb_A} : eb_E L d 38 61 ls ([a0, Sum.inr s0, zi s1, Sum.inr s2]) M = (eb_ev L d 6 [a0] M).bind (fun q => eb_E L d 38 64 ls [Sum.inr s0, zi s1, Sum.inr s2] q.2) := eb_E_c hk38 rfl
theorem e38_64 {x : Int32} : eb_E L d 38 64 ls (Sum.inr (some b) :: zi x :: Sum.inr (some a) :: st) (nc, ns, I, J, R) = if (eb_ty L b.1).1 = eb_el (eb_ty L a.1).1 ∧ eb_in x (eb_ty L a.1).2 = true then eb_E L d 38 65 ls (st) (nc, ns, I, J, eb_u R a x.toNatClampNeg (some b)) else none := eb_E_iy hk38 rfl
theorem e38_65 {x : Int32} : eb_E L d 38 65 [v0, some (zi x)] (st) M = eb_E L d 38 68 [v0, some (zi (x + 1))] (st) M := eb_E_s hk38 rfl
theorem e38_68  : eb_E L d 38 68 ls (st) M = eb_E L d 38 46 ls (st) M := eb_E_s hk38 rfl
theorem e38_71  : eb_E L d 38 71 ls (st) M = eb_E L d 38 72 ls (zi 0 :: st) M := eb_E_s hk38 rfl
theorem e38_72 {x : Int32} : eb_E L d 38 72 [v0, v1] (zi x :: st) M = eb_E L d 38 73 [v0, some (zi x)] (st) M := eb_E_s hk38 rfl
theorem e38_73 {x : Int32} : eb_E L d 38 73 [v0, some (zi x)] (st) M = eb_E L d 38 74 [v0, some (zi x)] (zi x :: st) M := eb_E_s hk38 rfl
theorem e38_74  : eb_E L d 38 74 ls (st) M = eb_E L d 38 76 ls (zi 6 :: st) M := eb_E_s hk38 rfl
theorem e38_76 {x : Int32} {y : Int32} : eb_E L d 38 76 ls (zi y :: zi x :: st) M = if x < y then eb_E L d 38 79 ls st M else eb_E L d 38 110 ls st M := eb_E_b hk38 rfl
theorem e38_79 {x : Option eb_A} : eb_E L d 38 79 [some (Sum.inr x), v1] (st) M = eb_E L d 38 80 [some (Sum.inr x), v1] (Sum.inr x :: st) M := eb_E_s hk38 rfl
theorem e38_80  : eb_E L d 38 80 ls (Sum.inr (some a) :: st) (nc, ns, I, J, R) = if (eb_ty L a.1).1 = 4 then eb_E L d 38 83 ls (Sum.inr (R a 1) :: st) (nc, ns, I, J, R) else none := eb_E_iy hk38 rfl
theorem e38_83 {x : Int32} : eb_E L d 38 83 [v0, some (zi x)] (st) M = eb_E L d 38 84 [v0, some (zi x)] (zi x :: st) M := eb_E_s hk38 rfl
theorem e38_84  : eb_E L d 38 84 ls (st) (nc, ns, I, J, R) = if (eb_ty L (eb_nm nc).1).1 = 0 then eb_E L d 38 87 ls (zr (eb_nm nc) :: st) (nc + 1, ns + 6, eb_zI I (eb_nm nc), J, eb_zR R (eb_nm nc) 6) else none := eb_E_iy hk38 rfl
theorem e38_87a {x : Int32} : eb_E L d 38 87 ls (zi x :: st) M = eb_E L d 38 88 ls (zi x :: zi x :: st) M := eb_E_s hk38 rfl
theorem e38_87b {x : Option eb_A} : eb_E L d 38 87 ls (Sum.inr x :: st) M = eb_E L d 38 88 ls (Sum.inr x :: Sum.inr x :: st) M := eb_E_s hk38 rfl
theorem e38_88 {s0 : Option eb_A} {s1 : Int32} {s2 : Option eb_A} : eb_E L d 38 88 ls ([a0, Sum.inr s0, zi s1, Sum.inr s2]) M = (eb_ev L d 0 [a0] M).bind (fun q => eb_E L d 38 91 ls [Sum.inr s0, zi s1, Sum.inr s2] q.2) := eb_E_c hk38 rfl
theorem e38_91 {x : Int32} : eb_E L d 38 91 ls (Sum.inr (some b) :: zi x :: Sum.inr (some a) :: st) (nc, ns, I, J, R) = if (eb_ty L b.1).1 = eb_el (eb_ty L a.1).1 ∧ eb_in x (eb_ty L a.1).2 = true then eb_E L d 38 92 ls (st) (nc, ns, I, J, eb_u R a x.toNatClampNeg (some b)) else none := eb_E_iy hk38 rfl
theorem e38_92 {x : Option eb_A} : eb_E L d 38 92 [some (Sum.inr x), v1] (st) M = eb_E L d 38 93 [some (Sum.inr x), v1] (Sum.inr x :: st) M := eb_E_s hk38 rfl
theorem e38_93  : eb_E L d 38 93 ls (Sum.inr (some a) :: st) (nc, ns, I, J, R) = if (eb_ty L a.1).1 = 4 then eb_E L d 38 96 ls (Sum.inr (R a 8) :: st) (nc, ns, I, J, R) else none := eb_E_iy hk38 rfl
theorem e38_96 {x : Int32} : eb_E L d 38 96 [v0, some (zi x)] (st) M = eb_E L d 38 97 [v0, some (zi x)] (zi x :: st) M := eb_E_s hk38 rfl
theorem e38_97 {x : Option eb_A} : eb_E L d 38 97 [some (Sum.inr x), v1] (st) M = eb_E L d 38 98 [some (Sum.inr x), v1] (Sum.inr x :: st) M := eb_E_s hk38 rfl
theorem e38_98  : eb_E L d 38 98 ls (Sum.inr (some a) :: st) (nc, ns, I, J, R) = if (eb_ty L a.1).1 = 4 then eb_E L d 38 101 ls (Sum.inr (R a 1) :: st) (nc, ns, I, J, R) else none := eb_E_iy hk38 rfl
theorem e38_101 {x : Int32} : eb_E L d 38 101 [v0, some (zi x)] (st) M = eb_E L d 38 102 [v0, some (zi x)] (zi x :: st) M := eb_E_s hk38 rfl
theorem e38_102 {x : Int32} : eb_E L d 38 102 ls (zi x :: Sum.inr (some a) :: st) (nc, ns, I, J, R) = if (12 ≤ (eb_ty L a.1).1 ∧ (eb_ty L a.1).1 ≤ 16) ∧ eb_in x (eb_ty L a.1).2 = true then eb_E L d 38 103 ls (Sum.inr (R a x.toNatClampNeg) :: st) (nc, ns, I, J, R) else none := eb_E_iy hk38 rfl
theorem e38_103 {x : Int32} : eb_E L d 38 103 ls (Sum.inr (some b) :: zi x :: Sum.inr (some a) :: st) (nc, ns, I, J, R) = if (eb_ty L b.1).1 = eb_el (eb_ty L a.1).1 ∧ eb_in x (eb_ty L a.1).2 = true then eb_E L d 38 104 ls (st) (nc, ns, I, J, eb_u R a x.toNatClampNeg (some b)) else none := eb_E_iy hk38 rfl
theorem e38_104 {x : Int32} : eb_E L d 38 104 [v0, some (zi x)] (st) M = eb_E L d 38 107 [v0, some (zi (x + 1))] (st) M := eb_E_s hk38 rfl
theorem e38_107  : eb_E L d 38 107 ls (st) M = eb_E L d 38 73 ls (st) M := eb_E_s hk38 rfl
theorem e38_110  : eb_E L d 38 110 ls ([]) M = some (zn, M) := eb_E_r hk38 rfl
/-! X4_becomeLike -/
theorem hk39 : eb_cd L 39 = eb_look (kt39 L) := rfl
theorem h39 (ha : (eb_ty L a.1).1 = 4) {r1 : Option eb_A} : eb_ev L (d + 1) 39 [zr a, Sum.inr r1] M = eb_E L d 39 0 [some (zr a), some (Sum.inr r1), none, none] [] M := eb_ev_s rfl (eb_chk_i ha rfl)
theorem e39_0 {x : Option eb_A} : eb_E L d 39 0 [some (Sum.inr x), v1, v2, v3] (st) M = eb_E L d 39 1 [some (Sum.inr x), v1, v2, v3] (Sum.inr x :: st) M := eb_E_s hk39 rfl
theorem e39_1 {x : Option eb_A} : eb_E L d 39 1 [v0, some (Sum.inr x), v2, v3] (st) M = eb_E L d 39 2 [v0, some (Sum.inr x), v2, v3] (Sum.inr x :: st) M := eb_E_s hk39 rfl
theorem e39_2  : eb_E L d 39 2 ls (Sum.inr (some a) :: st) (nc, ns, I, J, R) = if (eb_ty L a.1).1 = 4 then eb_E L d 39 5 ls (zi (I a 2) :: st) (nc, ns, I, J, R) else none := eb_E_iy hk39 rfl
theorem e39_5 {x : Int32} : eb_E L d 39 5 ls (zi x :: Sum.inr (some a) :: st) (nc, ns, I, J, R) = if (eb_ty L a.1).1 = 4 then eb_E L d 39 8 ls (st) (nc, ns, eb_u I a 2 x, J, R) else none := eb_E_iy hk39 rfl
theorem e39_8 {x : Option eb_A} : eb_E L d 39 8 [some (Sum.inr x), v1, v2, v3] (st) M = eb_E L d 39 9 [some (Sum.inr x), v1, v2, v3] (Sum.inr x :: st) M := eb_E_s hk39 rfl
theorem e39_9 {x : Option eb_A} : eb_E L d 39 9 [v0, some (Sum.inr x), v2, v3] (st) M = eb_E L d 39 10 [v0, some (Sum.inr x), v2, v3] (Sum.inr x :: st) M := eb_E_s hk39 rfl
theorem e39_10  : eb_E L d 39 10 ls (Sum.inr (some a) :: st) (nc, ns, I, J, R) = if (eb_ty L a.1).1 = 4 then eb_E L d 39 13 ls (zi (I a 3) :: st) (nc, ns, I, J, R) else none := eb_E_iy hk39 rfl
theorem e39_13 {x : Int32} : eb_E L d 39 13 ls (zi x :: Sum.inr (some a) :: st) (nc, ns, I, J, R) = if (eb_ty L a.1).1 = 4 then eb_E L d 39 16 ls (st) (nc, ns, eb_u I a 3 x, J, R) else none := eb_E_iy hk39 rfl
theorem e39_16 {x : Option eb_A} : eb_E L d 39 16 [some (Sum.inr x), v1, v2, v3] (st) M = eb_E L d 39 17 [some (Sum.inr x), v1, v2, v3] (Sum.inr x :: st) M := eb_E_s hk39 rfl
theorem e39_17 {x : Option eb_A} : eb_E L d 39 17 [v0, some (Sum.inr x), v2, v3] (st) M = eb_E L d 39 18 [v0, some (Sum.inr x), v2, v3] (Sum.inr x :: st) M := eb_E_s hk39 rfl
theorem e39_18  : eb_E L d 39 18 ls (Sum.inr (some a) :: st) (nc, ns, I, J, R) = if (eb_ty L a.1).1 = 4 then eb_E L d 39 21 ls (zi (I a 4) :: st) (nc, ns, I, J, R) else none := eb_E_iy hk39 rfl
theorem e39_21 {x : Int32} : eb_E L d 39 21 ls (zi x :: Sum.inr (some a) :: st) (nc, ns, I, J, R) = if (eb_ty L a.1).1 = 4 then eb_E L d 39 24 ls (st) (nc, ns, eb_u I a 4 x, J, R) else none := eb_E_iy hk39 rfl
theorem e39_24 {x : Option eb_A} : eb_E L d 39 24 [some (Sum.inr x), v1, v2, v3] (st) M = eb_E L d 39 25 [some (Sum.inr x), v1, v2, v3] (Sum.inr x :: st) M := eb_E_s hk39 rfl
theorem e39_25 {x : Option eb_A} : eb_E L d 39 25 [v0, some (Sum.inr x), v2, v3] (st) M = eb_E L d 39 26 [v0, some (Sum.inr x), v2, v3] (Sum.inr x :: st) M := eb_E_s hk39 rfl
theorem e39_26  : eb_E L d 39 26 ls (Sum.inr (some a) :: st) (nc, ns, I, J, R) = if (eb_ty L a.1).1 = 4 then eb_E L d 39 29 ls (zi (I a 5) :: st) (nc, ns, I, J, R) else none := eb_E_iy hk39 rfl
theorem e39_29 {x : Int32} : eb_E L d 39 29 ls (zi x :: Sum.inr (some a) :: st) (nc, ns, I, J, R) = if (eb_ty L a.1).1 = 4 then eb_E L d 39 32 ls (st) (nc, ns, eb_u I a 5 x, J, R) else none := eb_E_iy hk39 rfl
theorem e39_32 {x : Option eb_A} : eb_E L d 39 32 [some (Sum.inr x), v1, v2, v3] (st) M = eb_E L d 39 33 [some (Sum.inr x), v1, v2, v3] (Sum.inr x :: st) M := eb_E_s hk39 rfl
theorem e39_33 {x : Option eb_A} : eb_E L d 39 33 [v0, some (Sum.inr x), v2, v3] (st) M = eb_E L d 39 34 [v0, some (Sum.inr x), v2, v3] (Sum.inr x :: st) M := eb_E_s hk39 rfl
theorem e39_34  : eb_E L d 39 34 ls (Sum.inr (some a) :: st) (nc, ns, I, J, R) = if (eb_ty L a.1).1 = 4 then eb_E L d 39 37 ls (zi (I a 6) :: st) (nc, ns, I, J, R) else none := eb_E_iy hk39 rfl
theorem e39_37 {x : Int32} : eb_E L d 39 37 ls (zi x :: Sum.inr (some a) :: st) (nc, ns, I, J, R) = if (eb_ty L a.1).1 = 4 then eb_E L d 39 40 ls (st) (nc, ns, eb_u I a 6 x, J, R) else none := eb_E_iy hk39 rfl
theorem e39_40  : eb_E L d 39 40 ls (st) M = eb_E L d 39 41 ls (zi 0 :: st) M := eb_E_s hk39 rfl
theorem e39_41 {x : Int32} : eb_E L d 39 41 [v0, v1, v2, v3] (zi x :: st) M = eb_E L d 39 42 [v0, v1, some (zi x), v3] (st) M := eb_E_s hk39 rfl
theorem e39_42 {x : Int32} : eb_E L d 39 42 [v0, v1, some (zi x), v3] (st) M = eb_E L d 39 43 [v0, v1, some (zi x), v3] (zi x :: st) M := eb_E_s hk39 rfl
theorem e39_43 {x : Option eb_A} : eb_E L d 39 43 [some (Sum.inr x), v1, v2, v3] (st) M = eb_E L d 39 44 [some (Sum.inr x), v1, v2, v3] (Sum.inr x :: st) M := eb_E_s hk39 rfl
theorem e39_44  : eb_E L d 39 44 ls (Sum.inr (some a) :: st) (nc, ns, I, J, R) = if (eb_ty L a.1).1 = 4 then eb_E L d 39 47 ls (zi (I a 2) :: st) (nc, ns, I, J, R) else none := eb_E_iy hk39 rfl
theorem e39_47 {x : Int32} {y : Int32} : eb_E L d 39 47 ls (zi y :: zi x :: st) M = if x < y then eb_E L d 39 50 ls st M else eb_E L d 39 71 ls st M := eb_E_b hk39 rfl
theorem e39_50 {x : Option eb_A} : eb_E L d 39 50 [some (Sum.inr x), v1, v2, v3] (st) M = eb_E L d 39 51 [some (Sum.inr x), v1, v2, v3] (Sum.inr x :: st) M := eb_E_s hk39 rfl
theorem e39_51  : eb_E L d 39 51 ls (Sum.inr (some a) :: st) (nc, ns, I, J, R) = if (eb_ty L a.1).1 = 4 then eb_E L d 39 54 ls (Sum.inr (R a 0) :: st) (nc, ns, I, J, R) else none := eb_E_iy hk39 rfl
theorem e39_54 {x : Int32} : eb_E L d 39 54 [v0, v1, some (zi x), v3] (st) M = eb_E L d 39 55 [v0, v1, some (zi x), v3] (zi x :: st) M := eb_E_s hk39 rfl
theorem e39_55 {x : Int32} : eb_E L d 39 55 ls (zi x :: Sum.inr (some a) :: st) (nc, ns, I, J, R) = if (12 ≤ (eb_ty L a.1).1 ∧ (eb_ty L a.1).1 ≤ 16) ∧ eb_in x (eb_ty L a.1).2 = true then eb_E L d 39 56 ls (Sum.inr (R a x.toNatClampNeg) :: st) (nc, ns, I, J, R) else none := eb_E_iy hk39 rfl
theorem e39_56 {x : Option eb_A} : eb_E L d 39 56 [v0, some (Sum.inr x), v2, v3] (st) M = eb_E L d 39 57 [v0, some (Sum.inr x), v2, v3] (Sum.inr x :: st) M := eb_E_s hk39 rfl
theorem e39_57  : eb_E L d 39 57 ls (Sum.inr (some a) :: st) (nc, ns, I, J, R) = if (eb_ty L a.1).1 = 4 then eb_E L d 39 60 ls (Sum.inr (R a 0) :: st) (nc, ns, I, J, R) else none := eb_E_iy hk39 rfl
theorem e39_60 {x : Int32} : eb_E L d 39 60 [v0, v1, some (zi x), v3] (st) M = eb_E L d 39 61 [v0, v1, some (zi x), v3] (zi x :: st) M := eb_E_s hk39 rfl
theorem e39_61 {x : Int32} : eb_E L d 39 61 ls (zi x :: Sum.inr (some a) :: st) (nc, ns, I, J, R) = if (12 ≤ (eb_ty L a.1).1 ∧ (eb_ty L a.1).1 ≤ 16) ∧ eb_in x (eb_ty L a.1).2 = true then eb_E L d 39 62 ls (Sum.inr (R a x.toNatClampNeg) :: st) (nc, ns, I, J, R) else none := eb_E_iy hk39 rfl
theorem e39_62  : eb_E L d 39 62 ls ([a1, a0]) M = (eb_ev L d 8 [a0, a1] M).bind (fun q => eb_E L d 39 65 ls [] q.2) := eb_E_c hk39 rfl
theorem e39_65 {x : Int32} : eb_E L d 39 65 [v0, v1, some (zi x), v3] (st) M = eb_E L d 39 68 [v0, v1, some (zi (x + 1)), v3] (st) M := eb_E_s hk39 rfl
theorem e39_68  : eb_E L d 39 68 ls (st) M = eb_E L d 39 42 ls (st) M := eb_E_s hk39 rfl
theorem e39_71  : eb_E L d 39 71 ls (st) M = eb_E L d 39 72 ls (zi 0 :: st) M := eb_E_s hk39 rfl
theorem e39_72 {x : Int32} : eb_E L d 39 72 [v0, v1, v2, v3] (zi x :: st) M = eb_E L d 39 73 [v0, v1, some (zi x), v3] (st) M := eb_E_s hk39 rfl
theorem e39_73 {x : Int32} : eb_E L d 39 73 [v0, v1, some (zi x), v3] (st) M = eb_E L d 39 74 [v0, v1, some (zi x), v3] (zi x :: st) M := eb_E_s hk39 rfl
theorem e39_74 {x : Option eb_A} : eb_E L d 39 74 [some (Sum.inr x), v1, v2, v3] (st) M = eb_E L d 39 75 [some (Sum.inr x), v1, v2, v3] (Sum.inr x :: st) M := eb_E_s hk39 rfl
theorem e39_75  : eb_E L d 39 75 ls (Sum.inr (some a) :: st) (nc, ns, I, J, R) = if (eb_ty L a.1).1 = 4 then eb_E L d 39 78 ls (zi (I a 3) :: st) (nc, ns, I, J, R) else none := eb_E_iy hk39 rfl
theorem e39_78 {x : Int32} {y : Int32} : eb_E L d 39 78 ls (zi y :: zi x :: st) M = if x < y then eb_E L d 39 81 ls st M else eb_E L d 39 115 ls st M := eb_E_b hk39 rfl
theorem e39_81 {x : Option eb_A} : eb_E L d 39 81 [v0, some (Sum.inr x), v2, v3] (st) M = eb_E L d 39 82 [v0, some (Sum.inr x), v2, v3] (Sum.inr x :: st) M := eb_E_s hk39 rfl
theorem e39_82  : eb_E L d 39 82 ls (Sum.inr (some a) :: st) (nc, ns, I, J, R) = if (eb_ty L a.1).1 = 4 then eb_E L d 39 85 ls (Sum.inr (R a 1) :: st) (nc, ns, I, J, R) else none := eb_E_iy hk39 rfl
theorem e39_85 {x : Int32} : eb_E L d 39 85 [v0, v1, some (zi x), v3] (st) M = eb_E L d 39 86 [v0, v1, some (zi x), v3] (zi x :: st) M := eb_E_s hk39 rfl
theorem e39_86 {x : Int32} : eb_E L d 39 86 ls (zi x :: Sum.inr (some a) :: st) (nc, ns, I, J, R) = if (12 ≤ (eb_ty L a.1).1 ∧ (eb_ty L a.1).1 ≤ 16) ∧ eb_in x (eb_ty L a.1).2 = true then eb_E L d 39 87 ls (Sum.inr (R a x.toNatClampNeg) :: st) (nc, ns, I, J, R) else none := eb_E_iy hk39 rfl
theorem e39_87 {x : Option eb_A} : eb_E L d 39 87 [v0, v1, v2, v3] (Sum.inr x :: st) M = eb_E L d 39 88 [v0, v1, v2, some (Sum.inr x)] (st) M := eb_E_s hk39 rfl
theorem e39_88 {x : Option eb_A} : eb_E L d 39 88 [some (Sum.inr x), v1, v2, v3] (st) M = eb_E L d 39 89 [some (Sum.inr x), v1, v2, v3] (Sum.inr x :: st) M := eb_E_s hk39 rfl
theorem e39_89  : eb_E L d 39 89 ls (Sum.inr (some a) :: st) (nc, ns, I, J, R) = if (eb_ty L a.1).1 = 4 then eb_E L d 39 92 ls (Sum.inr (R a 1) :: st) (nc, ns, I, J, R) else none := eb_E_iy hk39 rfl
theorem e39_92 {x : Int32} : eb_E L d 39 92 [v0, v1, some (zi x), v3] (st) M = eb_E L d 39 93 [v0, v1, some (zi x), v3] (zi x :: st) M := eb_E_s hk39 rfl
theorem e39_93 {x : Int32} : eb_E L d 39 93 ls (zi x :: Sum.inr (some a) :: st) (nc, ns, I, J, R) = if (12 ≤ (eb_ty L a.1).1 ∧ (eb_ty L a.1).1 ≤ 16) ∧ eb_in x (eb_ty L a.1).2 = true then eb_E L d 39 94 ls (Sum.inr (R a x.toNatClampNeg) :: st) (nc, ns, I, J, R) else none := eb_E_iy hk39 rfl
theorem e39_94 {x : Option eb_A} : eb_E L d 39 94 [v0, v1, v2, some (Sum.inr x)] (st) M = eb_E L d 39 95 [v0, v1, v2, some (Sum.inr x)] (Sum.inr x :: st) M := eb_E_s hk39 rfl
theorem e39_95  : eb_E L d 39 95 ls (Sum.inr (some a) :: st) (nc, ns, I, J, R) = if (eb_ty L a.1).1 = 0 then eb_E L d 39 98 ls (zi (I a 0) :: st) (nc, ns, I, J, R) else none := eb_E_iy hk39 rfl
theorem e39_98 {x : Option eb_A} : eb_E L d 39 98 [v0, v1, v2, some (Sum.inr x)] (st) M = eb_E L d 39 99 [v0, v1, v2, some (Sum.inr x)] (Sum.inr x :: st) M := eb_E_s hk39 rfl
theorem e39_99  : eb_E L d 39 99 ls (Sum.inr (some a) :: st) (nc, ns, I, J, R) = if (eb_ty L a.1).1 = 0 then eb_E L d 39 102 ls (zi (I a 1) :: st) (nc, ns, I, J, R) else none := eb_E_iy hk39 rfl
theorem e39_102 {x : Option eb_A} : eb_E L d 39 102 [v0, v1, v2, some (Sum.inr x)] (st) M = eb_E L d 39 103 [v0, v1, v2, some (Sum.inr x)] (Sum.inr x :: st) M := eb_E_s hk39 rfl
theorem e39_103  : eb_E L d 39 103 ls (Sum.inr (some a) :: st) (nc, ns, I, J, R) = if (eb_ty L a.1).1 = 0 then eb_E L d 39 106 ls (zi (I a 2) :: st) (nc, ns, I, J, R) else none := eb_E_iy hk39 rfl
theorem e39_106  : eb_E L d 39 106 ls ([a3, a2, a1, a0]) M = (eb_ev L d 1 [a0, a1, a2, a3] M).bind (fun q => eb_E L d 39 109 ls [] q.2) := eb_E_c hk39 rfl
theorem e39_109 {x : Int32} : eb_E L d 39 109 [v0, v1, some (zi x), v3] (st) M = eb_E L d 39 112 [v0, v1, some (zi (x + 1)), v3] (st) M := eb_E_s hk39 rfl
theorem e39_112  : eb_E L d 39 112 ls (st) M = eb_E L d 39 73 ls (st) M := eb_E_s hk39 rfl
theorem e39_115  : eb_E L d 39 115 ls ([]) M = some (zn, M) := eb_E_r hk39 rfl
/-! X4_addInn -/
theorem hk40 : eb_cd L 40 = eb_look (kt40 L) := rfl
theorem h40 (ha : (eb_ty L a.1).1 = 4) {x1 : Int32} {x2 : Int32} {x3 : Int32} : eb_ev L (d + 1) 40 [zr a, zi x1, zi x2, zi x3] M = eb_E L d 40 0 [some (zr a), some (zi x1), some (zi x2), some (zi x3)] [] M := eb_ev_s rfl (eb_chk_i ha rfl)
theorem e40_0 {x : Option eb_A} : eb_E L d 40 0 [some (Sum.inr x), v1, v2, v3] (st) M = eb_E L d 40 1 [some (Sum.inr x), v1, v2, v3] (Sum.inr x :: st) M := eb_E_s hk40 rfl
theorem e40_1  : eb_E L d 40 1 ls (Sum.inr (some a) :: st) (nc, ns, I, J, R) = if (eb_ty L a.1).1 = 4 then eb_E L d 40 4 ls (zi (I a 2) :: st) (nc, ns, I, J, R) else none := eb_E_iy hk40 rfl
theorem e40_4  : eb_E L d 40 4 ls (st) M = eb_E L d 40 6 ls (zi 6 :: st) M := eb_E_s hk40 rfl
theorem e40_6 {x : Int32} {y : Int32} : eb_E L d 40 6 ls (zi y :: zi x :: st) M = if x < y then eb_E L d 40 11 ls st M else eb_E L d 40 9 ls st M := eb_E_b hk40 rfl
theorem e40_9  : eb_E L d 40 9 ls (st) M = eb_E L d 40 10 ls (zi (-1) :: st) M := eb_E_s hk40 rfl
theorem e40_10 {x : Int32} : eb_E L d 40 10 ls ([zi x]) M = some (zi x, M) := eb_E_r hk40 rfl
theorem e40_11 {x : Option eb_A} : eb_E L d 40 11 [some (Sum.inr x), v1, v2, v3] (st) M = eb_E L d 40 12 [some (Sum.inr x), v1, v2, v3] (Sum.inr x :: st) M := eb_E_s hk40 rfl
theorem e40_12  : eb_E L d 40 12 ls (Sum.inr (some a) :: st) (nc, ns, I, J, R) = if (eb_ty L a.1).1 = 4 then eb_E L d 40 15 ls (Sum.inr (R a 0) :: st) (nc, ns, I, J, R) else none := eb_E_iy hk40 rfl
theorem e40_15 {x : Option eb_A} : eb_E L d 40 15 [some (Sum.inr x), v1, v2, v3] (st) M = eb_E L d 40 16 [some (Sum.inr x), v1, v2, v3] (Sum.inr x :: st) M := eb_E_s hk40 rfl
theorem e40_16  : eb_E L d 40 16 ls (Sum.inr (some a) :: st) (nc, ns, I, J, R) = if (eb_ty L a.1).1 = 4 then eb_E L d 40 19 ls (zi (I a 2) :: st) (nc, ns, I, J, R) else none := eb_E_iy hk40 rfl
theorem e40_19 {x : Int32} : eb_E L d 40 19 ls (zi x :: Sum.inr (some a) :: st) (nc, ns, I, J, R) = if (12 ≤ (eb_ty L a.1).1 ∧ (eb_ty L a.1).1 ≤ 16) ∧ eb_in x (eb_ty L a.1).2 = true then eb_E L d 40 20 ls (Sum.inr (R a x.toNatClampNeg) :: st) (nc, ns, I, J, R) else none := eb_E_iy hk40 rfl
theorem e40_20 {x : Int32} : eb_E L d 40 20 [v0, some (zi x), v2, v3] (st) M = eb_E L d 40 21 [v0, some (zi x), v2, v3] (zi x :: st) M := eb_E_s hk40 rfl
theorem e40_21 {x : Int32} : eb_E L d 40 21 [v0, v1, some (zi x), v3] (st) M = eb_E L d 40 22 [v0, v1, some (zi x), v3] (zi x :: st) M := eb_E_s hk40 rfl
theorem e40_22 {x : Int32} : eb_E L d 40 22 [v0, v1, v2, some (zi x)] (st) M = eb_E L d 40 23 [v0, v1, v2, some (zi x)] (zi x :: st) M := eb_E_s hk40 rfl
theorem e40_23  : eb_E L d 40 23 ls ([a3, a2, a1, a0]) M = (eb_ev L d 7 [a0, a1, a2, a3] M).bind (fun q => eb_E L d 40 26 ls [] q.2) := eb_E_c hk40 rfl
theorem e40_26 {x : Option eb_A} : eb_E L d 40 26 [some (Sum.inr x), v1, v2, v3] (st) M = eb_E L d 40 27 [some (Sum.inr x), v1, v2, v3] (Sum.inr x :: st) M := eb_E_s hk40 rfl
theorem e40_27a {x : Int32} : eb_E L d 40 27 ls (zi x :: st) M = eb_E L d 40 28 ls (zi x :: zi x :: st) M := eb_E_s hk40 rfl
theorem e40_27b {x : Option eb_A} : eb_E L d 40 27 ls (Sum.inr x :: st) M = eb_E L d 40 28 ls (Sum.inr x :: Sum.inr x :: st) M := eb_E_s hk40 rfl
theorem e40_28  : eb_E L d 40 28 ls (Sum.inr (some a) :: st) (nc, ns, I, J, R) = if (eb_ty L a.1).1 = 4 then eb_E L d 40 31 ls (zi (I a 2) :: st) (nc, ns, I, J, R) else none := eb_E_iy hk40 rfl
theorem e40_31  : eb_E L d 40 31 ls (st) M = eb_E L d 40 32 ls (zi 1 :: st) M := eb_E_s hk40 rfl
theorem e40_32 {x : Int32} {y : Int32} : eb_E L d 40 32 ls (zi y :: zi x :: st) M = eb_E L d 40 33 ls (zi (x + y) :: st) M := eb_E_s hk40 rfl
theorem e40_33 {x : Int32} : eb_E L d 40 33 ls (zi x :: Sum.inr (some a) :: st) (nc, ns, I, J, R) = if (eb_ty L a.1).1 = 4 then eb_E L d 40 36 ls (st) (nc, ns, eb_u I a 2 x, J, R) else none := eb_E_iy hk40 rfl
theorem e40_36 {x : Option eb_A} : eb_E L d 40 36 [some (Sum.inr x), v1, v2, v3] (st) M = eb_E L d 40 37 [some (Sum.inr x), v1, v2, v3] (Sum.inr x :: st) M := eb_E_s hk40 rfl
theorem e40_37  : eb_E L d 40 37 ls (Sum.inr (some a) :: st) (nc, ns, I, J, R) = if (eb_ty L a.1).1 = 4 then eb_E L d 40 40 ls (zi (I a 2) :: st) (nc, ns, I, J, R) else none := eb_E_iy hk40 rfl
theorem e40_40  : eb_E L d 40 40 ls (st) M = eb_E L d 40 41 ls (zi 1 :: st) M := eb_E_s hk40 rfl
theorem e40_41 {x : Int32} {y : Int32} : eb_E L d 40 41 ls (zi y :: zi x :: st) M = eb_E L d 40 42 ls (zi (x - y) :: st) M := eb_E_s hk40 rfl
theorem e40_42 {x : Int32} : eb_E L d 40 42 ls ([zi x]) M = some (zi x, M) := eb_E_r hk40 rfl
/-! X4_addGoer -/
theorem hk41 : eb_cd L 41 = eb_look (kt41 L) := rfl
theorem h41 (ha : (eb_ty L a.1).1 = 4) {x1 : Int32} {x2 : Int32} {x3 : Int32} : eb_ev L (d + 1) 41 [zr a, zi x1, zi x2, zi x3] M = eb_E L d 41 0 [some (zr a), some (zi x1), some (zi x2), some (zi x3)] [] M := eb_ev_s rfl (eb_chk_i ha rfl)
theorem e41_0 {x : Option eb_A} : eb_E L d 41 0 [some (Sum.inr x), v1, v2, v3] (st) M = eb_E L d 41 1 [some (Sum.inr x), v1, v2, v3] (Sum.inr x :: st) M := eb_E_s hk41 rfl
theorem e41_1  : eb_E L d 41 1 ls (Sum.inr (some a) :: st) (nc, ns, I, J, R) = if (eb_ty L a.1).1 = 4 then eb_E L d 41 4 ls (zi (I a 3) :: st) (nc, ns, I, J, R) else none := eb_E_iy hk41 rfl
theorem e41_4  : eb_E L d 41 4 ls (st) M = eb_E L d 41 6 ls (zi 6 :: st) M := eb_E_s hk41 rfl
theorem e41_6 {x : Int32} {y : Int32} : eb_E L d 41 6 ls (zi y :: zi x :: st) M = if x < y then eb_E L d 41 11 ls st M else eb_E L d 41 9 ls st M := eb_E_b hk41 rfl
theorem e41_9  : eb_E L d 41 9 ls (st) M = eb_E L d 41 10 ls (zi (-1) :: st) M := eb_E_s hk41 rfl
theorem e41_10 {x : Int32} : eb_E L d 41 10 ls ([zi x]) M = some (zi x, M) := eb_E_r hk41 rfl
theorem e41_11 {x : Option eb_A} : eb_E L d 41 11 [some (Sum.inr x), v1, v2, v3] (st) M = eb_E L d 41 12 [some (Sum.inr x), v1, v2, v3] (Sum.inr x :: st) M := eb_E_s hk41 rfl
theorem e41_12  : eb_E L d 41 12 ls (Sum.inr (some a) :: st) (nc, ns, I, J, R) = if (eb_ty L a.1).1 = 4 then eb_E L d 41 15 ls (Sum.inr (R a 1) :: st) (nc, ns, I, J, R) else none := eb_E_iy hk41 rfl
theorem e41_15 {x : Option eb_A} : eb_E L d 41 15 [some (Sum.inr x), v1, v2, v3] (st) M = eb_E L d 41 16 [some (Sum.inr x), v1, v2, v3] (Sum.inr x :: st) M := eb_E_s hk41 rfl
theorem e41_16  : eb_E L d 41 16 ls (Sum.inr (some a) :: st) (nc, ns, I, J, R) = if (eb_ty L a.1).1 = 4 then eb_E L d 41 19 ls (zi (I a 3) :: st) (nc, ns, I, J, R) else none := eb_E_iy hk41 rfl
theorem e41_19 {x : Int32} : eb_E L d 41 19 ls (zi x :: Sum.inr (some a) :: st) (nc, ns, I, J, R) = if (12 ≤ (eb_ty L a.1).1 ∧ (eb_ty L a.1).1 ≤ 16) ∧ eb_in x (eb_ty L a.1).2 = true then eb_E L d 41 20 ls (Sum.inr (R a x.toNatClampNeg) :: st) (nc, ns, I, J, R) else none := eb_E_iy hk41 rfl
theorem e41_20 {x : Int32} : eb_E L d 41 20 [v0, some (zi x), v2, v3] (st) M = eb_E L d 41 21 [v0, some (zi x), v2, v3] (zi x :: st) M := eb_E_s hk41 rfl
theorem e41_21 {x : Int32} : eb_E L d 41 21 [v0, v1, some (zi x), v3] (st) M = eb_E L d 41 22 [v0, v1, some (zi x), v3] (zi x :: st) M := eb_E_s hk41 rfl
theorem e41_22 {x : Int32} : eb_E L d 41 22 [v0, v1, v2, some (zi x)] (st) M = eb_E L d 41 23 [v0, v1, v2, some (zi x)] (zi x :: st) M := eb_E_s hk41 rfl
theorem e41_23  : eb_E L d 41 23 ls ([a3, a2, a1, a0]) M = (eb_ev L d 1 [a0, a1, a2, a3] M).bind (fun q => eb_E L d 41 26 ls [] q.2) := eb_E_c hk41 rfl
theorem e41_26 {x : Option eb_A} : eb_E L d 41 26 [some (Sum.inr x), v1, v2, v3] (st) M = eb_E L d 41 27 [some (Sum.inr x), v1, v2, v3] (Sum.inr x :: st) M := eb_E_s hk41 rfl
theorem e41_27a {x : Int32} : eb_E L d 41 27 ls (zi x :: st) M = eb_E L d 41 28 ls (zi x :: zi x :: st) M := eb_E_s hk41 rfl
theorem e41_27b {x : Option eb_A} : eb_E L d 41 27 ls (Sum.inr x :: st) M = eb_E L d 41 28 ls (Sum.inr x :: Sum.inr x :: st) M := eb_E_s hk41 rfl
theorem e41_28  : eb_E L d 41 28 ls (Sum.inr (some a) :: st) (nc, ns, I, J, R) = if (eb_ty L a.1).1 = 4 then eb_E L d 41 31 ls (zi (I a 3) :: st) (nc, ns, I, J, R) else none := eb_E_iy hk41 rfl
theorem e41_31  : eb_E L d 41 31 ls (st) M = eb_E L d 41 32 ls (zi 1 :: st) M := eb_E_s hk41 rfl
theorem e41_32 {x : Int32} {y : Int32} : eb_E L d 41 32 ls (zi y :: zi x :: st) M = eb_E L d 41 33 ls (zi (x + y) :: st) M := eb_E_s hk41 rfl
theorem e41_33 {x : Int32} : eb_E L d 41 33 ls (zi x :: Sum.inr (some a) :: st) (nc, ns, I, J, R) = if (eb_ty L a.1).1 = 4 then eb_E L d 41 36 ls (st) (nc, ns, eb_u I a 3 x, J, R) else none := eb_E_iy hk41 rfl
theorem e41_36 {x : Option eb_A} : eb_E L d 41 36 [some (Sum.inr x), v1, v2, v3] (st) M = eb_E L d 41 37 [some (Sum.inr x), v1, v2, v3] (Sum.inr x :: st) M := eb_E_s hk41 rfl
theorem e41_37  : eb_E L d 41 37 ls (Sum.inr (some a) :: st) (nc, ns, I, J, R) = if (eb_ty L a.1).1 = 4 then eb_E L d 41 40 ls (zi (I a 3) :: st) (nc, ns, I, J, R) else none := eb_E_iy hk41 rfl
theorem e41_40  : eb_E L d 41 40 ls (st) M = eb_E L d 41 41 ls (zi 1 :: st) M := eb_E_s hk41 rfl
theorem e41_41 {x : Int32} {y : Int32} : eb_E L d 41 41 ls (zi y :: zi x :: st) M = eb_E L d 41 42 ls (zi (x - y) :: st) M := eb_E_s hk41 rfl
theorem e41_42 {x : Int32} : eb_E L d 41 42 ls ([zi x]) M = some (zi x, M) := eb_E_r hk41 rfl
/-! X4_writeBook -/
theorem hk42 : eb_cd L 42 = eb_look (kt42 L) := rfl
theorem h42 (ha : (eb_ty L a.1).1 = 4) {x1 : Int32} : eb_ev L (d + 1) 42 [zr a, zi x1] M = eb_E L d 42 0 [some (zr a), some (zi x1), none, none, none] [] M := eb_ev_s rfl (eb_chk_i ha rfl)
theorem e42_0  : eb_E L d 42 0 ls (st) M = eb_E L d 42 1 ls (zi 0 :: st) M := eb_E_s hk42 rfl
theorem e42_1 {x : Int32} : eb_E L d 42 1 [v0, v1, v2, v3, v4] (zi x :: st) M = eb_E L d 42 2 [v0, v1, some (zi x), v3, v4] (st) M := eb_E_s hk42 rfl
theorem e42_2  : eb_E L d 42 2 ls (st) M = eb_E L d 42 3 ls (zi 0 :: st) M := eb_E_s hk42 rfl
theorem e42_3 {x : Int32} : eb_E L d 42 3 [v0, v1, v2, v3, v4] (zi x :: st) M = eb_E L d 42 4 [v0, v1, v2, some (zi x), v4] (st) M := eb_E_s hk42 rfl
theorem e42_4 {x : Int32} : eb_E L d 42 4 [v0, v1, v2, some (zi x), v4] (st) M = eb_E L d 42 5 [v0, v1, v2, some (zi x), v4] (zi x :: st) M := eb_E_s hk42 rfl
theorem e42_5 {x : Option eb_A} : eb_E L d 42 5 [some (Sum.inr x), v1, v2, v3, v4] (st) M = eb_E L d 42 6 [some (Sum.inr x), v1, v2, v3, v4] (Sum.inr x :: st) M := eb_E_s hk42 rfl
theorem e42_6  : eb_E L d 42 6 ls (Sum.inr (some a) :: st) (nc, ns, I, J, R) = if (eb_ty L a.1).1 = 4 then eb_E L d 42 9 ls (zi (I a 2) :: st) (nc, ns, I, J, R) else none := eb_E_iy hk42 rfl
theorem e42_9 {x : Int32} {y : Int32} : eb_E L d 42 9 ls (zi y :: zi x :: st) M = if x < y then eb_E L d 42 12 ls st M else eb_E L d 42 74 ls st M := eb_E_b hk42 rfl
theorem e42_12 {x : Int32} : eb_E L d 42 12 [v0, some (zi x), v2, v3, v4] (st) M = eb_E L d 42 13 [v0, some (zi x), v2, v3, v4] (zi x :: st) M := eb_E_s hk42 rfl
theorem e42_13 {x : Int32} : eb_E L d 42 13 [v0, v1, v2, some (zi x), v4] (st) M = eb_E L d 42 14 [v0, v1, v2, some (zi x), v4] (zi x :: st) M := eb_E_s hk42 rfl
theorem e42_14 {x : Int32} {y : Int32} : eb_E L d 42 14 ls (zi y :: zi x :: st) M = eb_E L d 42 15 ls (zi (x >>> (y &&& 31)) :: st) M := eb_E_s hk42 rfl
theorem e42_15  : eb_E L d 42 15 ls (st) M = eb_E L d 42 16 ls (zi 1 :: st) M := eb_E_s hk42 rfl
theorem e42_16 {x : Int32} {y : Int32} : eb_E L d 42 16 ls (zi y :: zi x :: st) M = eb_E L d 42 17 ls (zi (x &&& y) :: st) M := eb_E_s hk42 rfl
theorem e42_17  : eb_E L d 42 17 ls (st) M = eb_E L d 42 18 ls (zi 1 :: st) M := eb_E_s hk42 rfl
theorem e42_18 {x : Int32} {y : Int32} : eb_E L d 42 18 ls (zi y :: zi x :: st) M = if x = y then eb_E L d 42 21 ls st M else eb_E L d 42 25 ls st M := eb_E_b hk42 rfl
theorem e42_21  : eb_E L d 42 21 ls (st) M = eb_E L d 42 22 ls (zi 1 :: st) M := eb_E_s hk42 rfl
theorem e42_22  : eb_E L d 42 22 ls (st) M = eb_E L d 42 26 ls (st) M := eb_E_s hk42 rfl
theorem e42_25  : eb_E L d 42 25 ls (st) M = eb_E L d 42 26 ls (zi 0 :: st) M := eb_E_s hk42 rfl
theorem e42_26 {x : Int32} : eb_E L d 42 26 [v0, v1, v2, v3, v4] (zi x :: st) M = eb_E L d 42 28 [v0, v1, v2, v3, some (zi x)] (st) M := eb_E_s hk42 rfl
theorem e42_28 {x : Option eb_A} : eb_E L d 42 28 [some (Sum.inr x), v1, v2, v3, v4] (st) M = eb_E L d 42 29 [some (Sum.inr x), v1, v2, v3, v4] (Sum.inr x :: st) M := eb_E_s hk42 rfl
theorem e42_29  : eb_E L d 42 29 ls (Sum.inr (some a) :: st) (nc, ns, I, J, R) = if (eb_ty L a.1).1 = 4 then eb_E L d 42 32 ls (Sum.inr (R a 0) :: st) (nc, ns, I, J, R) else none := eb_E_iy hk42 rfl
theorem e42_32 {x : Int32} : eb_E L d 42 32 [v0, v1, v2, some (zi x), v4] (st) M = eb_E L d 42 33 [v0, v1, v2, some (zi x), v4] (zi x :: st) M := eb_E_s hk42 rfl
theorem e42_33 {x : Int32} : eb_E L d 42 33 ls (zi x :: Sum.inr (some a) :: st) (nc, ns, I, J, R) = if (12 ≤ (eb_ty L a.1).1 ∧ (eb_ty L a.1).1 ≤ 16) ∧ eb_in x (eb_ty L a.1).2 = true then eb_E L d 42 34 ls (Sum.inr (R a x.toNatClampNeg) :: st) (nc, ns, I, J, R) else none := eb_E_iy hk42 rfl
theorem e42_34 {x : Int32} : eb_E L d 42 34 [v0, v1, v2, v3, some (zi x)] (st) M = eb_E L d 42 36 [v0, v1, v2, v3, some (zi x)] (zi x :: st) M := eb_E_s hk42 rfl
theorem e42_36 {x : Int32} : eb_E L d 42 36 ls (zi x :: st) M = if x = 0 then eb_E L d 42 51 ls st M else eb_E L d 42 39 ls st M := eb_E_b hk42 rfl
theorem e42_39 {x : Option eb_A} : eb_E L d 42 39 [some (Sum.inr x), v1, v2, v3, v4] (st) M = eb_E L d 42 40 [some (Sum.inr x), v1, v2, v3, v4] (Sum.inr x :: st) M := eb_E_s hk42 rfl
theorem e42_40  : eb_E L d 42 40 ls (Sum.inr (some a) :: st) (nc, ns, I, J, R) = if (eb_ty L a.1).1 = 4 then eb_E L d 42 43 ls (Sum.inr (R a 0) :: st) (nc, ns, I, J, R) else none := eb_E_iy hk42 rfl
theorem e42_43 {x : Int32} : eb_E L d 42 43 [v0, v1, v2, some (zi x), v4] (st) M = eb_E L d 42 44 [v0, v1, v2, some (zi x), v4] (zi x :: st) M := eb_E_s hk42 rfl
theorem e42_44 {x : Int32} : eb_E L d 42 44 ls (zi x :: Sum.inr (some a) :: st) (nc, ns, I, J, R) = if (12 ≤ (eb_ty L a.1).1 ∧ (eb_ty L a.1).1 ≤ 16) ∧ eb_in x (eb_ty L a.1).2 = true then eb_E L d 42 45 ls (Sum.inr (R a x.toNatClampNeg) :: st) (nc, ns, I, J, R) else none := eb_E_iy hk42 rfl
theorem e42_45  : eb_E L d 42 45 ls (Sum.inr (some a) :: st) (nc, ns, I, J, R) = if (eb_ty L a.1).1 = 1 then eb_E L d 42 48 ls (zi (I a 0) :: st) (nc, ns, I, J, R) else none := eb_E_iy hk42 rfl
theorem e42_48  : eb_E L d 42 48 ls (st) M = eb_E L d 42 52 ls (st) M := eb_E_s hk42 rfl
theorem e42_51  : eb_E L d 42 51 ls (st) M = eb_E L d 42 52 ls (zi (-1) :: st) M := eb_E_s hk42 rfl
theorem e42_52 {x : Int32} : eb_E L d 42 52 ls (zi x :: Sum.inr (some a) :: st) (nc, ns, I, J, R) = if (eb_ty L a.1).1 = 1 then eb_E L d 42 55 ls (st) (nc, ns, eb_u I a 4 x, J, R) else none := eb_E_iy hk42 rfl
theorem e42_55 {x : Int32} : eb_E L d 42 55 [v0, v1, some (zi x), v3, v4] (st) M = eb_E L d 42 56 [v0, v1, some (zi x), v3, v4] (zi x :: st) M := eb_E_s hk42 rfl
theorem e42_56 {x : Int32} : eb_E L d 42 56 [v0, v1, v2, v3, some (zi x)] (st) M = eb_E L d 42 58 [v0, v1, v2, v3, some (zi x)] (zi x :: st) M := eb_E_s hk42 rfl
theorem e42_58 {x : Int32} : eb_E L d 42 58 ls (zi x :: st) M = if x = 0 then eb_E L d 42 65 ls st M else eb_E L d 42 61 ls st M := eb_E_b hk42 rfl
theorem e42_61  : eb_E L d 42 61 ls (st) M = eb_E L d 42 62 ls (zi 1 :: st) M := eb_E_s hk42 rfl
theorem e42_62  : eb_E L d 42 62 ls (st) M = eb_E L d 42 66 ls (st) M := eb_E_s hk42 rfl
theorem e42_65  : eb_E L d 42 65 ls (st) M = eb_E L d 42 66 ls (zi 0 :: st) M := eb_E_s hk42 rfl
theorem e42_66 {x : Int32} {y : Int32} : eb_E L d 42 66 ls (zi y :: zi x :: st) M = eb_E L d 42 67 ls (zi (x + y) :: st) M := eb_E_s hk42 rfl
theorem e42_67 {x : Int32} : eb_E L d 42 67 [v0, v1, v2, v3, v4] (zi x :: st) M = eb_E L d 42 68 [v0, v1, some (zi x), v3, v4] (st) M := eb_E_s hk42 rfl
theorem e42_68 {x : Int32} : eb_E L d 42 68 [v0, v1, v2, some (zi x), v4] (st) M = eb_E L d 42 71 [v0, v1, v2, some (zi (x + 1)), v4] (st) M := eb_E_s hk42 rfl
theorem e42_71  : eb_E L d 42 71 ls (st) M = eb_E L d 42 4 ls (st) M := eb_E_s hk42 rfl
theorem e42_74 {x : Option eb_A} : eb_E L d 42 74 [some (Sum.inr x), v1, v2, v3, v4] (st) M = eb_E L d 42 75 [some (Sum.inr x), v1, v2, v3, v4] (Sum.inr x :: st) M := eb_E_s hk42 rfl
theorem e42_75  : eb_E L d 42 75 ls (st) M = eb_E L d 42 76 ls (zi 0 :: st) M := eb_E_s hk42 rfl
theorem e42_76 {x : Int32} : eb_E L d 42 76 ls (zi x :: Sum.inr (some a) :: st) (nc, ns, I, J, R) = if (eb_ty L a.1).1 = 4 then eb_E L d 42 79 ls (st) (nc, ns, eb_u I a 4 x, J, R) else none := eb_E_iy hk42 rfl
theorem e42_79 {x : Int32} : eb_E L d 42 79 [v0, v1, some (zi x), v3, v4] (st) M = eb_E L d 42 80 [v0, v1, some (zi x), v3, v4] (zi x :: st) M := eb_E_s hk42 rfl
theorem e42_80 {x : Int32} : eb_E L d 42 80 ls ([zi x]) M = some (zi x, M) := eb_E_r hk42 rfl
/-! X4_innsInBook -/
theorem hk43 : eb_cd L 43 = eb_look (kt43 L) := rfl
theorem h43 (ha : (eb_ty L a.1).1 = 4) : eb_ev L (d + 1) 43 [zr a] M = eb_E L d 43 0 [some (zr a), none, none] [] M := eb_ev_s rfl (eb_chk_i ha rfl)
theorem e43_0  : eb_E L d 43 0 ls (st) M = eb_E L d 43 1 ls (zi 0 :: st) M := eb_E_s hk43 rfl
theorem e43_1 {x : Int32} : eb_E L d 43 1 [v0, v1, v2] (zi x :: st) M = eb_E L d 43 2 [v0, some (zi x), v2] (st) M := eb_E_s hk43 rfl
theorem e43_2  : eb_E L d 43 2 ls (st) M = eb_E L d 43 3 ls (zi 0 :: st) M := eb_E_s hk43 rfl
theorem e43_3 {x : Int32} : eb_E L d 43 3 [v0, v1, v2] (zi x :: st) M = eb_E L d 43 4 [v0, v1, some (zi x)] (st) M := eb_E_s hk43 rfl
theorem e43_4 {x : Int32} : eb_E L d 43 4 [v0, v1, some (zi x)] (st) M = eb_E L d 43 5 [v0, v1, some (zi x)] (zi x :: st) M := eb_E_s hk43 rfl
theorem e43_5 {x : Option eb_A} : eb_E L d 43 5 [some (Sum.inr x), v1, v2] (st) M = eb_E L d 43 6 [some (Sum.inr x), v1, v2] (Sum.inr x :: st) M := eb_E_s hk43 rfl
theorem e43_6  : eb_E L d 43 6 ls (Sum.inr (some a) :: st) (nc, ns, I, J, R) = if (eb_ty L a.1).1 = 4 then eb_E L d 43 9 ls (zi (I a 2) :: st) (nc, ns, I, J, R) else none := eb_E_iy hk43 rfl
theorem e43_9 {x : Int32} {y : Int32} : eb_E L d 43 9 ls (zi y :: zi x :: st) M = if x < y then eb_E L d 43 12 ls st M else eb_E L d 43 41 ls st M := eb_E_b hk43 rfl
theorem e43_12 {x : Int32} : eb_E L d 43 12 [v0, some (zi x), v2] (st) M = eb_E L d 43 13 [v0, some (zi x), v2] (zi x :: st) M := eb_E_s hk43 rfl
theorem e43_13 {x : Option eb_A} : eb_E L d 43 13 [some (Sum.inr x), v1, v2] (st) M = eb_E L d 43 14 [some (Sum.inr x), v1, v2] (Sum.inr x :: st) M := eb_E_s hk43 rfl
theorem e43_14  : eb_E L d 43 14 ls (Sum.inr (some a) :: st) (nc, ns, I, J, R) = if (eb_ty L a.1).1 = 4 then eb_E L d 43 17 ls (Sum.inr (R a 0) :: st) (nc, ns, I, J, R) else none := eb_E_iy hk43 rfl
theorem e43_17 {x : Int32} : eb_E L d 43 17 [v0, v1, some (zi x)] (st) M = eb_E L d 43 18 [v0, v1, some (zi x)] (zi x :: st) M := eb_E_s hk43 rfl
theorem e43_18 {x : Int32} : eb_E L d 43 18 ls (zi x :: Sum.inr (some a) :: st) (nc, ns, I, J, R) = if (12 ≤ (eb_ty L a.1).1 ∧ (eb_ty L a.1).1 ≤ 16) ∧ eb_in x (eb_ty L a.1).2 = true then eb_E L d 43 19 ls (Sum.inr (R a x.toNatClampNeg) :: st) (nc, ns, I, J, R) else none := eb_E_iy hk43 rfl
theorem e43_19  : eb_E L d 43 19 ls (Sum.inr (some a) :: st) (nc, ns, I, J, R) = if (eb_ty L a.1).1 = 1 then eb_E L d 43 22 ls (zi (I a 4) :: st) (nc, ns, I, J, R) else none := eb_E_iy hk43 rfl
theorem e43_22  : eb_E L d 43 22 ls (st) M = eb_E L d 43 23 ls (zi (-1) :: st) M := eb_E_s hk43 rfl
theorem e43_23 {x : Int32} {y : Int32} : eb_E L d 43 23 ls (zi y :: zi x :: st) M = if x = y then eb_E L d 43 26 ls st M else eb_E L d 43 30 ls st M := eb_E_b hk43 rfl
theorem e43_26  : eb_E L d 43 26 ls (st) M = eb_E L d 43 27 ls (zi 0 :: st) M := eb_E_s hk43 rfl
theorem e43_27  : eb_E L d 43 27 ls (st) M = eb_E L d 43 33 ls (st) M := eb_E_s hk43 rfl
theorem e43_30  : eb_E L d 43 30 ls (st) M = eb_E L d 43 31 ls (zi 1 :: st) M := eb_E_s hk43 rfl
theorem e43_31 {x : Int32} : eb_E L d 43 31 [v0, v1, some (zi x)] (st) M = eb_E L d 43 32 [v0, v1, some (zi x)] (zi x :: st) M := eb_E_s hk43 rfl
theorem e43_32 {x : Int32} {y : Int32} : eb_E L d 43 32 ls (zi y :: zi x :: st) M = eb_E L d 43 33 ls (zi (x <<< (y &&& 31)) :: st) M := eb_E_s hk43 rfl
theorem e43_33 {x : Int32} {y : Int32} : eb_E L d 43 33 ls (zi y :: zi x :: st) M = eb_E L d 43 34 ls (zi (x ||| y) :: st) M := eb_E_s hk43 rfl
theorem e43_34 {x : Int32} : eb_E L d 43 34 [v0, v1, v2] (zi x :: st) M = eb_E L d 43 35 [v0, some (zi x), v2] (st) M := eb_E_s hk43 rfl
theorem e43_35 {x : Int32} : eb_E L d 43 35 [v0, v1, some (zi x)] (st) M = eb_E L d 43 38 [v0, v1, some (zi (x + 1))] (st) M := eb_E_s hk43 rfl
theorem e43_38  : eb_E L d 43 38 ls (st) M = eb_E L d 43 4 ls (st) M := eb_E_s hk43 rfl
theorem e43_41 {x : Int32} : eb_E L d 43 41 [v0, some (zi x), v2] (st) M = eb_E L d 43 42 [v0, some (zi x), v2] (zi x :: st) M := eb_E_s hk43 rfl
theorem e43_42 {x : Int32} : eb_E L d 43 42 ls ([zi x]) M = some (zi x, M) := eb_E_r hk43 rfl
/-! X4_roomsOfAll -/
theorem hk44 : eb_cd L 44 = eb_look (kt44 L) := rfl
theorem h44 (ha : (eb_ty L a.1).1 = 4) : eb_ev L (d + 1) 44 [zr a] M = eb_E L d 44 0 [some (zr a), none, none] [] M := eb_ev_s rfl (eb_chk_i ha rfl)
theorem e44_0  : eb_E L d 44 0 ls (st) M = eb_E L d 44 1 ls (zi 0 :: st) M := eb_E_s hk44 rfl
theorem e44_1 {x : Int32} : eb_E L d 44 1 [v0, v1, v2] (zi x :: st) M = eb_E L d 44 2 [v0, some (zi x), v2] (st) M := eb_E_s hk44 rfl
theorem e44_2  : eb_E L d 44 2 ls (st) M = eb_E L d 44 3 ls (zi 0 :: st) M := eb_E_s hk44 rfl
theorem e44_3 {x : Int32} : eb_E L d 44 3 [v0, v1, v2] (zi x :: st) M = eb_E L d 44 4 [v0, v1, some (zi x)] (st) M := eb_E_s hk44 rfl
theorem e44_4 {x : Int32} : eb_E L d 44 4 [v0, v1, some (zi x)] (st) M = eb_E L d 44 5 [v0, v1, some (zi x)] (zi x :: st) M := eb_E_s hk44 rfl
theorem e44_5 {x : Option eb_A} : eb_E L d 44 5 [some (Sum.inr x), v1, v2] (st) M = eb_E L d 44 6 [some (Sum.inr x), v1, v2] (Sum.inr x :: st) M := eb_E_s hk44 rfl
theorem e44_6  : eb_E L d 44 6 ls (Sum.inr (some a) :: st) (nc, ns, I, J, R) = if (eb_ty L a.1).1 = 4 then eb_E L d 44 9 ls (zi (I a 2) :: st) (nc, ns, I, J, R) else none := eb_E_iy hk44 rfl
theorem e44_9 {x : Int32} {y : Int32} : eb_E L d 44 9 ls (zi y :: zi x :: st) M = if x < y then eb_E L d 44 12 ls st M else eb_E L d 44 30 ls st M := eb_E_b hk44 rfl
theorem e44_12 {x : Int32} : eb_E L d 44 12 [v0, some (zi x), v2] (st) M = eb_E L d 44 13 [v0, some (zi x), v2] (zi x :: st) M := eb_E_s hk44 rfl
theorem e44_13 {x : Option eb_A} : eb_E L d 44 13 [some (Sum.inr x), v1, v2] (st) M = eb_E L d 44 14 [some (Sum.inr x), v1, v2] (Sum.inr x :: st) M := eb_E_s hk44 rfl
theorem e44_14  : eb_E L d 44 14 ls (Sum.inr (some a) :: st) (nc, ns, I, J, R) = if (eb_ty L a.1).1 = 4 then eb_E L d 44 17 ls (Sum.inr (R a 0) :: st) (nc, ns, I, J, R) else none := eb_E_iy hk44 rfl
theorem e44_17 {x : Int32} : eb_E L d 44 17 [v0, v1, some (zi x)] (st) M = eb_E L d 44 18 [v0, v1, some (zi x)] (zi x :: st) M := eb_E_s hk44 rfl
theorem e44_18 {x : Int32} : eb_E L d 44 18 ls (zi x :: Sum.inr (some a) :: st) (nc, ns, I, J, R) = if (12 ≤ (eb_ty L a.1).1 ∧ (eb_ty L a.1).1 ≤ 16) ∧ eb_in x (eb_ty L a.1).2 = true then eb_E L d 44 19 ls (Sum.inr (R a x.toNatClampNeg) :: st) (nc, ns, I, J, R) else none := eb_E_iy hk44 rfl
theorem e44_19  : eb_E L d 44 19 ls (Sum.inr (some a) :: st) (nc, ns, I, J, R) = if (eb_ty L a.1).1 = 1 then eb_E L d 44 22 ls (zi (I a 2) :: st) (nc, ns, I, J, R) else none := eb_E_iy hk44 rfl
theorem e44_22 {x : Int32} {y : Int32} : eb_E L d 44 22 ls (zi y :: zi x :: st) M = eb_E L d 44 23 ls (zi (x + y) :: st) M := eb_E_s hk44 rfl
theorem e44_23 {x : Int32} : eb_E L d 44 23 [v0, v1, v2] (zi x :: st) M = eb_E L d 44 24 [v0, some (zi x), v2] (st) M := eb_E_s hk44 rfl
theorem e44_24 {x : Int32} : eb_E L d 44 24 [v0, v1, some (zi x)] (st) M = eb_E L d 44 27 [v0, v1, some (zi (x + 1))] (st) M := eb_E_s hk44 rfl
theorem e44_27  : eb_E L d 44 27 ls (st) M = eb_E L d 44 4 ls (st) M := eb_E_s hk44 rfl
theorem e44_30 {x : Int32} : eb_E L d 44 30 [v0, some (zi x), v2] (st) M = eb_E L d 44 31 [v0, some (zi x), v2] (zi x :: st) M := eb_E_s hk44 rfl
theorem e44_31 {x : Int32} : eb_E L d 44 31 ls ([zi x]) M = some (zi x, M) := eb_E_r hk44 rfl
/-! X4_headsOfAll -/
theorem hk45 : eb_cd L 45 = eb_look (kt45 L) := rfl
theorem h45 (ha : (eb_ty L a.1).1 = 4) : eb_ev L (d + 1) 45 [zr a] M = eb_E L d 45 0 [some (zr a), none, none] [] M := eb_ev_s rfl (eb_chk_i ha rfl)
theorem e45_0  : eb_E L d 45 0 ls (st) M = eb_E L d 45 1 ls (zi 0 :: st) M := eb_E_s hk45 rfl
theorem e45_1 {x : Int32} : eb_E L d 45 1 [v0, v1, v2] (zi x :: st) M = eb_E L d 45 2 [v0, some (zi x), v2] (st) M := eb_E_s hk45 rfl
theorem e45_2  : eb_E L d 45 2 ls (st) M = eb_E L d 45 3 ls (zi 0 :: st) M := eb_E_s hk45 rfl
theorem e45_3 {x : Int32} : eb_E L d 45 3 [v0, v1, v2] (zi x :: st) M = eb_E L d 45 4 [v0, v1, some (zi x)] (st) M := eb_E_s hk45 rfl
theorem e45_4 {x : Int32} : eb_E L d 45 4 [v0, v1, some (zi x)] (st) M = eb_E L d 45 5 [v0, v1, some (zi x)] (zi x :: st) M := eb_E_s hk45 rfl
theorem e45_5 {x : Option eb_A} : eb_E L d 45 5 [some (Sum.inr x), v1, v2] (st) M = eb_E L d 45 6 [some (Sum.inr x), v1, v2] (Sum.inr x :: st) M := eb_E_s hk45 rfl
theorem e45_6  : eb_E L d 45 6 ls (Sum.inr (some a) :: st) (nc, ns, I, J, R) = if (eb_ty L a.1).1 = 4 then eb_E L d 45 9 ls (zi (I a 3) :: st) (nc, ns, I, J, R) else none := eb_E_iy hk45 rfl
theorem e45_9 {x : Int32} {y : Int32} : eb_E L d 45 9 ls (zi y :: zi x :: st) M = if x < y then eb_E L d 45 12 ls st M else eb_E L d 45 30 ls st M := eb_E_b hk45 rfl
theorem e45_12 {x : Int32} : eb_E L d 45 12 [v0, some (zi x), v2] (st) M = eb_E L d 45 13 [v0, some (zi x), v2] (zi x :: st) M := eb_E_s hk45 rfl
theorem e45_13 {x : Option eb_A} : eb_E L d 45 13 [some (Sum.inr x), v1, v2] (st) M = eb_E L d 45 14 [some (Sum.inr x), v1, v2] (Sum.inr x :: st) M := eb_E_s hk45 rfl
theorem e45_14  : eb_E L d 45 14 ls (Sum.inr (some a) :: st) (nc, ns, I, J, R) = if (eb_ty L a.1).1 = 4 then eb_E L d 45 17 ls (Sum.inr (R a 1) :: st) (nc, ns, I, J, R) else none := eb_E_iy hk45 rfl
theorem e45_17 {x : Int32} : eb_E L d 45 17 [v0, v1, some (zi x)] (st) M = eb_E L d 45 18 [v0, v1, some (zi x)] (zi x :: st) M := eb_E_s hk45 rfl
theorem e45_18 {x : Int32} : eb_E L d 45 18 ls (zi x :: Sum.inr (some a) :: st) (nc, ns, I, J, R) = if (12 ≤ (eb_ty L a.1).1 ∧ (eb_ty L a.1).1 ≤ 16) ∧ eb_in x (eb_ty L a.1).2 = true then eb_E L d 45 19 ls (Sum.inr (R a x.toNatClampNeg) :: st) (nc, ns, I, J, R) else none := eb_E_iy hk45 rfl
theorem e45_19  : eb_E L d 45 19 ls (Sum.inr (some a) :: st) (nc, ns, I, J, R) = if (eb_ty L a.1).1 = 0 then eb_E L d 45 22 ls (zi (I a 1) :: st) (nc, ns, I, J, R) else none := eb_E_iy hk45 rfl
theorem e45_22 {x : Int32} {y : Int32} : eb_E L d 45 22 ls (zi y :: zi x :: st) M = eb_E L d 45 23 ls (zi (x + y) :: st) M := eb_E_s hk45 rfl
theorem e45_23 {x : Int32} : eb_E L d 45 23 [v0, v1, v2] (zi x :: st) M = eb_E L d 45 24 [v0, some (zi x), v2] (st) M := eb_E_s hk45 rfl
theorem e45_24 {x : Int32} : eb_E L d 45 24 [v0, v1, some (zi x)] (st) M = eb_E L d 45 27 [v0, v1, some (zi (x + 1))] (st) M := eb_E_s hk45 rfl
theorem e45_27  : eb_E L d 45 27 ls (st) M = eb_E L d 45 4 ls (st) M := eb_E_s hk45 rfl
theorem e45_30 {x : Int32} : eb_E L d 45 30 [v0, some (zi x), v2] (st) M = eb_E L d 45 31 [v0, some (zi x), v2] (zi x :: st) M := eb_E_s hk45 rfl
theorem e45_31 {x : Int32} : eb_E L d 45 31 ls ([zi x]) M = some (zi x, M) := eb_E_r hk45 rfl
/-! X4_truestInn -/
theorem hk46 : eb_cd L 46 = eb_look (kt46 L) := rfl
theorem h46 (ha : (eb_ty L a.1).1 = 4) : eb_ev L (d + 1) 46 [zr a] M = eb_E L d 46 0 [some (zr a), none, none] [] M := eb_ev_s rfl (eb_chk_i ha rfl)
theorem e46_0  : eb_E L d 46 0 ls (st) M = eb_E L d 46 1 ls (zi (-1) :: st) M := eb_E_s hk46 rfl
theorem e46_1 {x : Int32} : eb_E L d 46 1 [v0, v1, v2] (zi x :: st) M = eb_E L d 46 2 [v0, some (zi x), v2] (st) M := eb_E_s hk46 rfl
theorem e46_2  : eb_E L d 46 2 ls (st) M = eb_E L d 46 3 ls (zi 0 :: st) M := eb_E_s hk46 rfl
theorem e46_3 {x : Int32} : eb_E L d 46 3 [v0, v1, v2] (zi x :: st) M = eb_E L d 46 4 [v0, v1, some (zi x)] (st) M := eb_E_s hk46 rfl
theorem e46_4 {x : Int32} : eb_E L d 46 4 [v0, v1, some (zi x)] (st) M = eb_E L d 46 5 [v0, v1, some (zi x)] (zi x :: st) M := eb_E_s hk46 rfl
theorem e46_5 {x : Option eb_A} : eb_E L d 46 5 [some (Sum.inr x), v1, v2] (st) M = eb_E L d 46 6 [some (Sum.inr x), v1, v2] (Sum.inr x :: st) M := eb_E_s hk46 rfl
theorem e46_6  : eb_E L d 46 6 ls (Sum.inr (some a) :: st) (nc, ns, I, J, R) = if (eb_ty L a.1).1 = 4 then eb_E L d 46 9 ls (zi (I a 2) :: st) (nc, ns, I, J, R) else none := eb_E_iy hk46 rfl
theorem e46_9 {x : Int32} {y : Int32} : eb_E L d 46 9 ls (zi y :: zi x :: st) M = if x < y then eb_E L d 46 12 ls st M else eb_E L d 46 66 ls st M := eb_E_b hk46 rfl
theorem e46_12 {x : Int32} : eb_E L d 46 12 [v0, some (zi x), v2] (st) M = eb_E L d 46 13 [v0, some (zi x), v2] (zi x :: st) M := eb_E_s hk46 rfl
theorem e46_13  : eb_E L d 46 13 ls (st) M = eb_E L d 46 14 ls (zi (-1) :: st) M := eb_E_s hk46 rfl
theorem e46_14 {x : Int32} {y : Int32} : eb_E L d 46 14 ls (zi y :: zi x :: st) M = if x = y then eb_E L d 46 58 ls st M else eb_E L d 46 17 ls st M := eb_E_b hk46 rfl
theorem e46_17 {x : Option eb_A} : eb_E L d 46 17 [some (Sum.inr x), v1, v2] (st) M = eb_E L d 46 18 [some (Sum.inr x), v1, v2] (Sum.inr x :: st) M := eb_E_s hk46 rfl
theorem e46_18  : eb_E L d 46 18 ls (Sum.inr (some a) :: st) (nc, ns, I, J, R) = if (eb_ty L a.1).1 = 4 then eb_E L d 46 21 ls (Sum.inr (R a 0) :: st) (nc, ns, I, J, R) else none := eb_E_iy hk46 rfl
theorem e46_21 {x : Int32} : eb_E L d 46 21 [v0, v1, some (zi x)] (st) M = eb_E L d 46 22 [v0, v1, some (zi x)] (zi x :: st) M := eb_E_s hk46 rfl
theorem e46_22 {x : Int32} : eb_E L d 46 22 ls (zi x :: Sum.inr (some a) :: st) (nc, ns, I, J, R) = if (12 ≤ (eb_ty L a.1).1 ∧ (eb_ty L a.1).1 ≤ 16) ∧ eb_in x (eb_ty L a.1).2 = true then eb_E L d 46 23 ls (Sum.inr (R a x.toNatClampNeg) :: st) (nc, ns, I, J, R) else none := eb_E_iy hk46 rfl
theorem e46_23  : eb_E L d 46 23 ls (Sum.inr (some a) :: st) (nc, ns, I, J, R) = if (eb_ty L a.1).1 = 1 then eb_E L d 46 26 ls (zi (I a 0) :: st) (nc, ns, I, J, R) else none := eb_E_iy hk46 rfl
theorem e46_26 {x : Option eb_A} : eb_E L d 46 26 [some (Sum.inr x), v1, v2] (st) M = eb_E L d 46 27 [some (Sum.inr x), v1, v2] (Sum.inr x :: st) M := eb_E_s hk46 rfl
theorem e46_27  : eb_E L d 46 27 ls (Sum.inr (some a) :: st) (nc, ns, I, J, R) = if (eb_ty L a.1).1 = 4 then eb_E L d 46 30 ls (Sum.inr (R a 0) :: st) (nc, ns, I, J, R) else none := eb_E_iy hk46 rfl
theorem e46_30 {x : Int32} : eb_E L d 46 30 [v0, v1, some (zi x)] (st) M = eb_E L d 46 31 [v0, v1, some (zi x)] (zi x :: st) M := eb_E_s hk46 rfl
theorem e46_31 {x : Int32} : eb_E L d 46 31 ls (zi x :: Sum.inr (some a) :: st) (nc, ns, I, J, R) = if (12 ≤ (eb_ty L a.1).1 ∧ (eb_ty L a.1).1 ≤ 16) ∧ eb_in x (eb_ty L a.1).2 = true then eb_E L d 46 32 ls (Sum.inr (R a x.toNatClampNeg) :: st) (nc, ns, I, J, R) else none := eb_E_iy hk46 rfl
theorem e46_32  : eb_E L d 46 32 ls (Sum.inr (some a) :: st) (nc, ns, I, J, R) = if (eb_ty L a.1).1 = 1 then eb_E L d 46 35 ls (zi (I a 3) :: st) (nc, ns, I, J, R) else none := eb_E_iy hk46 rfl
theorem e46_35 {x : Int32} {y : Int32} : eb_E L d 46 35 ls (zi y :: zi x :: st) M = eb_E L d 46 36 ls (zi (x - y) :: st) M := eb_E_s hk46 rfl
theorem e46_36 {x : Option eb_A} : eb_E L d 46 36 [some (Sum.inr x), v1, v2] (st) M = eb_E L d 46 37 [some (Sum.inr x), v1, v2] (Sum.inr x :: st) M := eb_E_s hk46 rfl
theorem e46_37  : eb_E L d 46 37 ls (Sum.inr (some a) :: st) (nc, ns, I, J, R) = if (eb_ty L a.1).1 = 4 then eb_E L d 46 40 ls (Sum.inr (R a 0) :: st) (nc, ns, I, J, R) else none := eb_E_iy hk46 rfl
theorem e46_40 {x : Int32} : eb_E L d 46 40 [v0, some (zi x), v2] (st) M = eb_E L d 46 41 [v0, some (zi x), v2] (zi x :: st) M := eb_E_s hk46 rfl
theorem e46_41 {x : Int32} : eb_E L d 46 41 ls (zi x :: Sum.inr (some a) :: st) (nc, ns, I, J, R) = if (12 ≤ (eb_ty L a.1).1 ∧ (eb_ty L a.1).1 ≤ 16) ∧ eb_in x (eb_ty L a.1).2 = true then eb_E L d 46 42 ls (Sum.inr (R a x.toNatClampNeg) :: st) (nc, ns, I, J, R) else none := eb_E_iy hk46 rfl
theorem e46_42  : eb_E L d 46 42 ls (Sum.inr (some a) :: st) (nc, ns, I, J, R) = if (eb_ty L a.1).1 = 1 then eb_E L d 46 45 ls (zi (I a 0) :: st) (nc, ns, I, J, R) else none := eb_E_iy hk46 rfl
theorem e46_45 {x : Option eb_A} : eb_E L d 46 45 [some (Sum.inr x), v1, v2] (st) M = eb_E L d 46 46 [some (Sum.inr x), v1, v2] (Sum.inr x :: st) M := eb_E_s hk46 rfl
theorem e46_46  : eb_E L d 46 46 ls (Sum.inr (some a) :: st) (nc, ns, I, J, R) = if (eb_ty L a.1).1 = 4 then eb_E L d 46 49 ls (Sum.inr (R a 0) :: st) (nc, ns, I, J, R) else none := eb_E_iy hk46 rfl
theorem e46_49 {x : Int32} : eb_E L d 46 49 [v0, some (zi x), v2] (st) M = eb_E L d 46 50 [v0, some (zi x), v2] (zi x :: st) M := eb_E_s hk46 rfl
theorem e46_50 {x : Int32} : eb_E L d 46 50 ls (zi x :: Sum.inr (some a) :: st) (nc, ns, I, J, R) = if (12 ≤ (eb_ty L a.1).1 ∧ (eb_ty L a.1).1 ≤ 16) ∧ eb_in x (eb_ty L a.1).2 = true then eb_E L d 46 51 ls (Sum.inr (R a x.toNatClampNeg) :: st) (nc, ns, I, J, R) else none := eb_E_iy hk46 rfl
theorem e46_51  : eb_E L d 46 51 ls (Sum.inr (some a) :: st) (nc, ns, I, J, R) = if (eb_ty L a.1).1 = 1 then eb_E L d 46 54 ls (zi (I a 3) :: st) (nc, ns, I, J, R) else none := eb_E_iy hk46 rfl
theorem e46_54 {x : Int32} {y : Int32} : eb_E L d 46 54 ls (zi y :: zi x :: st) M = eb_E L d 46 55 ls (zi (x - y) :: st) M := eb_E_s hk46 rfl
theorem e46_55 {x : Int32} {y : Int32} : eb_E L d 46 55 ls (zi y :: zi x :: st) M = if y < x then eb_E L d 46 58 ls st M else eb_E L d 46 60 ls st M := eb_E_b hk46 rfl
theorem e46_58 {x : Int32} : eb_E L d 46 58 [v0, v1, some (zi x)] (st) M = eb_E L d 46 59 [v0, v1, some (zi x)] (zi x :: st) M := eb_E_s hk46 rfl
theorem e46_59 {x : Int32} : eb_E L d 46 59 [v0, v1, v2] (zi x :: st) M = eb_E L d 46 60 [v0, some (zi x), v2] (st) M := eb_E_s hk46 rfl
theorem e46_60 {x : Int32} : eb_E L d 46 60 [v0, v1, some (zi x)] (st) M = eb_E L d 46 63 [v0, v1, some (zi (x + 1))] (st) M := eb_E_s hk46 rfl
theorem e46_63  : eb_E L d 46 63 ls (st) M = eb_E L d 46 4 ls (st) M := eb_E_s hk46 rfl
theorem e46_66 {x : Int32} : eb_E L d 46 66 [v0, some (zi x), v2] (st) M = eb_E L d 46 67 [v0, some (zi x), v2] (zi x :: st) M := eb_E_s hk46 rfl
theorem e46_67 {x : Int32} : eb_E L d 46 67 ls ([zi x]) M = some (zi x, M) := eb_E_r hk46 rfl
/-! X4_scoreOf -/
theorem hk47 : eb_cd L 47 = eb_look (kt47 L) := rfl
theorem h47 (ha : (eb_ty L a.1).1 = 4) {r1 : Option eb_A} {r2 : Option eb_A} : eb_ev L (d + 1) 47 [zr a, Sum.inr r1, Sum.inr r2] M = eb_E L d 47 0 [some (zr a), some (Sum.inr r1), some (Sum.inr r2), none, none] [] M := eb_ev_s rfl (eb_chk_i ha rfl)
theorem e47_0  : eb_E L d 47 0 ls (st) M = eb_E L d 47 2 ls (zi 100 :: st) M := eb_E_s hk47 rfl
theorem e47_2 {x : Option eb_A} : eb_E L d 47 2 [v0, v1, some (Sum.inr x), v3, v4] (st) M = eb_E L d 47 3 [v0, v1, some (Sum.inr x), v3, v4] (Sum.inr x :: st) M := eb_E_s hk47 rfl
theorem e47_3  : eb_E L d 47 3 ls (Sum.inr (some a) :: st) (nc, ns, I, J, R) = if (eb_ty L a.1).1 = 1 then eb_E L d 47 6 ls (zi (I a 3) :: st) (nc, ns, I, J, R) else none := eb_E_iy hk47 rfl
theorem e47_6 {x : Int32} {y : Int32} : eb_E L d 47 6 ls (zi y :: zi x :: st) M = eb_E L d 47 7 ls (zi (x - y) :: st) M := eb_E_s hk47 rfl
theorem e47_7 {x : Int32} : eb_E L d 47 7 [v0, v1, v2, v3, v4] (zi x :: st) M = eb_E L d 47 8 [v0, v1, v2, some (zi x), v4] (st) M := eb_E_s hk47 rfl
theorem e47_8 {x : Option eb_A} : eb_E L d 47 8 [v0, v1, some (Sum.inr x), v3, v4] (st) M = eb_E L d 47 9 [v0, v1, some (Sum.inr x), v3, v4] (Sum.inr x :: st) M := eb_E_s hk47 rfl
theorem e47_9  : eb_E L d 47 9 ls (Sum.inr (some a) :: st) (nc, ns, I, J, R) = if (eb_ty L a.1).1 = 1 then eb_E L d 47 12 ls (zi (I a 4) :: st) (nc, ns, I, J, R) else none := eb_E_iy hk47 rfl
theorem e47_12  : eb_E L d 47 12 ls (st) M = eb_E L d 47 13 ls (zi (-1) :: st) M := eb_E_s hk47 rfl
theorem e47_13 {x : Int32} {y : Int32} : eb_E L d 47 13 ls (zi y :: zi x :: st) M = if x = y then eb_E L d 47 16 ls st M else eb_E L d 47 20 ls st M := eb_E_b hk47 rfl
theorem e47_16  : eb_E L d 47 16 ls (st) M = eb_E L d 47 17 ls (zi 0 :: st) M := eb_E_s hk47 rfl
theorem e47_17  : eb_E L d 47 17 ls (st) M = eb_E L d 47 35 ls (st) M := eb_E_s hk47 rfl
theorem e47_20  : eb_E L d 47 20 ls (st) M = eb_E L d 47 21 ls (zi 0 :: st) M := eb_E_s hk47 rfl
theorem e47_21 {x : Option eb_A} : eb_E L d 47 21 [v0, v1, some (Sum.inr x), v3, v4] (st) M = eb_E L d 47 22 [v0, v1, some (Sum.inr x), v3, v4] (Sum.inr x :: st) M := eb_E_s hk47 rfl
theorem e47_22  : eb_E L d 47 22 ls (Sum.inr (some a) :: st) (nc, ns, I, J, R) = if (eb_ty L a.1).1 = 1 then eb_E L d 47 25 ls (zi (I a 4) :: st) (nc, ns, I, J, R) else none := eb_E_iy hk47 rfl
theorem e47_25  : eb_E L d 47 25 ls (st) M = eb_E L d 47 26 ls (zi 2 :: st) M := eb_E_s hk47 rfl
theorem e47_26 {x : Option eb_A} : eb_E L d 47 26 [some (Sum.inr x), v1, v2, v3, v4] (st) M = eb_E L d 47 27 [some (Sum.inr x), v1, v2, v3, v4] (Sum.inr x :: st) M := eb_E_s hk47 rfl
theorem e47_27  : eb_E L d 47 27 ls (Sum.inr (some a) :: st) (nc, ns, I, J, R) = if (eb_ty L a.1).1 = 4 then eb_E L d 47 30 ls (zi (I a 4) :: st) (nc, ns, I, J, R) else none := eb_E_iy hk47 rfl
theorem e47_30 {x : Int32} {y : Int32} : eb_E L d 47 30 ls (zi y :: zi x :: st) M = eb_E L d 47 31 ls (zi (x * y) :: st) M := eb_E_s hk47 rfl
theorem e47_31 {x : Int32} {y : Int32} : eb_E L d 47 31 ls (zi y :: zi x :: st) M = eb_E L d 47 32 ls (zi (x - y) :: st) M := eb_E_s hk47 rfl
theorem e47_32  : eb_E L d 47 32 ls ([a1, a0]) M = (eb_ev L d 900 [a0, a1] M).bind (fun q => eb_E L d 47 35 ls [q.1] q.2) := eb_E_c hk47 rfl
theorem e47_35 {x : Int32} : eb_E L d 47 35 [v0, v1, v2, v3, v4] (zi x :: st) M = eb_E L d 47 37 [v0, v1, v2, v3, some (zi x)] (st) M := eb_E_s hk47 rfl
theorem e47_37 {x : Option eb_A} : eb_E L d 47 37 [v0, some (Sum.inr x), v2, v3, v4] (st) M = eb_E L d 47 38 [v0, some (Sum.inr x), v2, v3, v4] (Sum.inr x :: st) M := eb_E_s hk47 rfl
theorem e47_38  : eb_E L d 47 38 ls (Sum.inr (some a) :: st) (nc, ns, I, J, R) = if (eb_ty L a.1).1 = 0 then eb_E L d 47 41 ls (zi (I a 0) :: st) (nc, ns, I, J, R) else none := eb_E_iy hk47 rfl
theorem e47_41 {x : Int32} : eb_E L d 47 41 ls (zi x :: st) M = eb_sw x (fun t => eb_E L d 47 t ls st M) 144 [(0, 76), (1, 144), (2, 90), (3, 78), (4, 110)] := eb_E_w hk47 rfl
theorem e47_76 {x : Int32} : eb_E L d 47 76 [v0, v1, v2, some (zi x), v4] (st) M = eb_E L d 47 77 [v0, v1, v2, some (zi x), v4] (zi x :: st) M := eb_E_s hk47 rfl
theorem e47_77 {x : Int32} : eb_E L d 47 77 ls ([zi x]) M = some (zi x, M) := eb_E_r hk47 rfl
theorem e47_78 {x : Option eb_A} : eb_E L d 47 78 [v0, v1, some (Sum.inr x), v3, v4] (st) M = eb_E L d 47 79 [v0, v1, some (Sum.inr x), v3, v4] (Sum.inr x :: st) M := eb_E_s hk47 rfl
theorem e47_79  : eb_E L d 47 79 ls (Sum.inr (some a) :: st) (nc, ns, I, J, R) = if (eb_ty L a.1).1 = 1 then eb_E L d 47 82 ls (zi (I a 0) :: st) (nc, ns, I, J, R) else none := eb_E_iy hk47 rfl
theorem e47_82 {x : Option eb_A} : eb_E L d 47 82 [v0, v1, some (Sum.inr x), v3, v4] (st) M = eb_E L d 47 83 [v0, v1, some (Sum.inr x), v3, v4] (Sum.inr x :: st) M := eb_E_s hk47 rfl
theorem e47_83  : eb_E L d 47 83 ls (Sum.inr (some a) :: st) (nc, ns, I, J, R) = if (eb_ty L a.1).1 = 1 then eb_E L d 47 86 ls (zi (I a 3) :: st) (nc, ns, I, J, R) else none := eb_E_iy hk47 rfl
theorem e47_86  : eb_E L d 47 86 ls (st) M = eb_E L d 47 87 ls (zi 2 :: st) M := eb_E_s hk47 rfl
theorem e47_87 {x : Int32} {y : Int32} : eb_E L d 47 87 ls (zi y :: zi x :: st) M = if y = 0 then none else eb_E L d 47 88 ls (zi (x / y) :: st) M := eb_E_in hk47 rfl
theorem e47_88 {x : Int32} {y : Int32} : eb_E L d 47 88 ls (zi y :: zi x :: st) M = eb_E L d 47 89 ls (zi (x - y) :: st) M := eb_E_s hk47 rfl
theorem e47_89 {x : Int32} : eb_E L d 47 89 ls ([zi x]) M = some (zi x, M) := eb_E_r hk47 rfl
theorem e47_90 {x : Option eb_A} : eb_E L d 47 90 [v0, v1, some (Sum.inr x), v3, v4] (st) M = eb_E L d 47 91 [v0, v1, some (Sum.inr x), v3, v4] (Sum.inr x :: st) M := eb_E_s hk47 rfl
theorem e47_91  : eb_E L d 47 91 ls (Sum.inr (some a) :: st) (nc, ns, I, J, R) = if (eb_ty L a.1).1 = 1 then eb_E L d 47 94 ls (zi (I a 4) :: st) (nc, ns, I, J, R) else none := eb_E_iy hk47 rfl
theorem e47_94  : eb_E L d 47 94 ls (st) M = eb_E L d 47 95 ls (zi (-1) :: st) M := eb_E_s hk47 rfl
theorem e47_95 {x : Int32} {y : Int32} : eb_E L d 47 95 ls (zi y :: zi x :: st) M = if x = y then eb_E L d 47 98 ls st M else eb_E L d 47 102 ls st M := eb_E_b hk47 rfl
theorem e47_98 {x : Int32} : eb_E L d 47 98 [v0, v1, v2, some (zi x), v4] (st) M = eb_E L d 47 99 [v0, v1, v2, some (zi x), v4] (zi x :: st) M := eb_E_s hk47 rfl
theorem e47_99  : eb_E L d 47 99 ls (st) M = eb_E L d 47 109 ls (st) M := eb_E_s hk47 rfl
theorem e47_102 {x : Int32} : eb_E L d 47 102 [v0, v1, v2, v3, some (zi x)] (st) M = eb_E L d 47 104 [v0, v1, v2, v3, some (zi x)] (zi x :: st) M := eb_E_s hk47 rfl
theorem e47_104 {x : Option eb_A} : eb_E L d 47 104 [v0, some (Sum.inr x), v2, v3, v4] (st) M = eb_E L d 47 105 [v0, some (Sum.inr x), v2, v3, v4] (Sum.inr x :: st) M := eb_E_s hk47 rfl
theorem e47_105  : eb_E L d 47 105 ls (Sum.inr (some a) :: st) (nc, ns, I, J, R) = if (eb_ty L a.1).1 = 0 then eb_E L d 47 108 ls (zi (I a 2) :: st) (nc, ns, I, J, R) else none := eb_E_iy hk47 rfl
theorem e47_108 {x : Int32} {y : Int32} : eb_E L d 47 108 ls (zi y :: zi x :: st) M = eb_E L d 47 109 ls (zi (x - y) :: st) M := eb_E_s hk47 rfl
theorem e47_109 {x : Int32} : eb_E L d 47 109 ls ([zi x]) M = some (zi x, M) := eb_E_r hk47 rfl
theorem e47_110 {x : Option eb_A} : eb_E L d 47 110 [v0, v1, some (Sum.inr x), v3, v4] (st) M = eb_E L d 47 111 [v0, v1, some (Sum.inr x), v3, v4] (Sum.inr x :: st) M := eb_E_s hk47 rfl
theorem e47_111  : eb_E L d 47 111 ls (Sum.inr (some a) :: st) (nc, ns, I, J, R) = if (eb_ty L a.1).1 = 1 then eb_E L d 47 114 ls (zi (I a 5) :: st) (nc, ns, I, J, R) else none := eb_E_iy hk47 rfl
theorem e47_114  : eb_E L d 47 114 ls (st) M = eb_E L d 47 115 ls (zi 1 :: st) M := eb_E_s hk47 rfl
theorem e47_115 {x : Int32} {y : Int32} : eb_E L d 47 115 ls (zi y :: zi x :: st) M = if x < y then eb_E L d 47 141 ls st M else eb_E L d 47 118 ls st M := eb_E_b hk47 rfl
theorem e47_118 {x : Option eb_A} : eb_E L d 47 118 [v0, v1, some (Sum.inr x), v3, v4] (st) M = eb_E L d 47 119 [v0, v1, some (Sum.inr x), v3, v4] (Sum.inr x :: st) M := eb_E_s hk47 rfl
theorem e47_119  : eb_E L d 47 119 ls (Sum.inr (some a) :: st) (nc, ns, I, J, R) = if (eb_ty L a.1).1 = 1 then eb_E L d 47 122 ls (zi (I a 5) :: st) (nc, ns, I, J, R) else none := eb_E_iy hk47 rfl
theorem e47_122 {x : Option eb_A} : eb_E L d 47 122 [v0, some (Sum.inr x), v2, v3, v4] (st) M = eb_E L d 47 123 [v0, some (Sum.inr x), v2, v3, v4] (Sum.inr x :: st) M := eb_E_s hk47 rfl
theorem e47_123  : eb_E L d 47 123 ls (Sum.inr (some a) :: st) (nc, ns, I, J, R) = if (eb_ty L a.1).1 = 0 then eb_E L d 47 126 ls (zi (I a 2) :: st) (nc, ns, I, J, R) else none := eb_E_iy hk47 rfl
theorem e47_126 {x : Int32} {y : Int32} : eb_E L d 47 126 ls (zi y :: zi x :: st) M = if x < y then eb_E L d 47 141 ls st M else eb_E L d 47 129 ls st M := eb_E_b hk47 rfl
theorem e47_129 {x : Option eb_A} : eb_E L d 47 129 [v0, v1, some (Sum.inr x), v3, v4] (st) M = eb_E L d 47 130 [v0, v1, some (Sum.inr x), v3, v4] (Sum.inr x :: st) M := eb_E_s hk47 rfl
theorem e47_130  : eb_E L d 47 130 ls (Sum.inr (some a) :: st) (nc, ns, I, J, R) = if (eb_ty L a.1).1 = 1 then eb_E L d 47 133 ls (zi (I a 6) :: st) (nc, ns, I, J, R) else none := eb_E_iy hk47 rfl
theorem e47_133 {x : Option eb_A} : eb_E L d 47 133 [v0, v1, some (Sum.inr x), v3, v4] (st) M = eb_E L d 47 134 [v0, v1, some (Sum.inr x), v3, v4] (Sum.inr x :: st) M := eb_E_s hk47 rfl
theorem e47_134  : eb_E L d 47 134 ls (Sum.inr (some a) :: st) (nc, ns, I, J, R) = if (eb_ty L a.1).1 = 1 then eb_E L d 47 137 ls (zi (I a 5) :: st) (nc, ns, I, J, R) else none := eb_E_iy hk47 rfl
theorem e47_137 {x : Int32} {y : Int32} : eb_E L d 47 137 ls (zi y :: zi x :: st) M = if y = 0 then none else eb_E L d 47 138 ls (zi (x / y) :: st) M := eb_E_in hk47 rfl
theorem e47_138  : eb_E L d 47 138 ls (st) M = eb_E L d 47 143 ls (st) M := eb_E_s hk47 rfl
theorem e47_141 {x : Int32} : eb_E L d 47 141 [v0, v1, v2, v3, some (zi x)] (st) M = eb_E L d 47 143 [v0, v1, v2, v3, some (zi x)] (zi x :: st) M := eb_E_s hk47 rfl
theorem e47_143 {x : Int32} : eb_E L d 47 143 ls ([zi x]) M = some (zi x, M) := eb_E_r hk47 rfl
theorem e47_144 {x : Int32} : eb_E L d 47 144 [v0, v1, v2, v3, some (zi x)] (st) M = eb_E L d 47 146 [v0, v1, v2, v3, some (zi x)] (zi x :: st) M := eb_E_s hk47 rfl
theorem e47_146 {x : Int32} : eb_E L d 47 146 ls ([zi x]) M = some (zi x, M) := eb_E_r hk47 rfl
/-! X4_firstChoice -/
theorem hk48 : eb_cd L 48 = eb_look (kt48 L) := rfl
theorem h48 (ha : (eb_ty L a.1).1 = 4) {r1 : Option eb_A} : eb_ev L (d + 1) 48 [zr a, Sum.inr r1] M = eb_E L d 48 0 [some (zr a), some (Sum.inr r1), none, none, none, none] [] M := eb_ev_s rfl (eb_chk_i ha rfl)
theorem e48_0  : eb_E L d 48 0 ls (st) M = eb_E L d 48 1 ls (zi (-1) :: st) M := eb_E_s hk48 rfl
theorem e48_1 {x : Int32} : eb_E L d 48 1 [v0, v1, v2, v3, v4, v5] (zi x :: st) M = eb_E L d 48 2 [v0, v1, some (zi x), v3, v4, v5] (st) M := eb_E_s hk48 rfl
theorem e48_2  : eb_E L d 48 2 ls (st) M = eb_E L d 48 3 ls (zi 0 :: st) M := eb_E_s hk48 rfl
theorem e48_3 {x : Int32} : eb_E L d 48 3 [v0, v1, v2, v3, v4, v5] (zi x :: st) M = eb_E L d 48 4 [v0, v1, v2, some (zi x), v4, v5] (st) M := eb_E_s hk48 rfl
theorem e48_4  : eb_E L d 48 4 ls (st) M = eb_E L d 48 5 ls (zi 0 :: st) M := eb_E_s hk48 rfl
theorem e48_5 {x : Int32} : eb_E L d 48 5 [v0, v1, v2, v3, v4, v5] (zi x :: st) M = eb_E L d 48 7 [v0, v1, v2, v3, some (zi x), v5] (st) M := eb_E_s hk48 rfl
theorem e48_7 {x : Int32} : eb_E L d 48 7 [v0, v1, v2, v3, some (zi x), v5] (st) M = eb_E L d 48 9 [v0, v1, v2, v3, some (zi x), v5] (zi x :: st) M := eb_E_s hk48 rfl
theorem e48_9 {x : Option eb_A} : eb_E L d 48 9 [some (Sum.inr x), v1, v2, v3, v4, v5] (st) M = eb_E L d 48 10 [some (Sum.inr x), v1, v2, v3, v4, v5] (Sum.inr x :: st) M := eb_E_s hk48 rfl
theorem e48_10  : eb_E L d 48 10 ls (Sum.inr (some a) :: st) (nc, ns, I, J, R) = if (eb_ty L a.1).1 = 4 then eb_E L d 48 13 ls (zi (I a 2) :: st) (nc, ns, I, J, R) else none := eb_E_iy hk48 rfl
theorem e48_13 {x : Int32} {y : Int32} : eb_E L d 48 13 ls (zi y :: zi x :: st) M = if x < y then eb_E L d 48 16 ls st M else eb_E L d 48 53 ls st M := eb_E_b hk48 rfl
theorem e48_16 {x : Option eb_A} : eb_E L d 48 16 [some (Sum.inr x), v1, v2, v3, v4, v5] (st) M = eb_E L d 48 17 [some (Sum.inr x), v1, v2, v3, v4, v5] (Sum.inr x :: st) M := eb_E_s hk48 rfl
theorem e48_17 {x : Option eb_A} : eb_E L d 48 17 [v0, some (Sum.inr x), v2, v3, v4, v5] (st) M = eb_E L d 48 18 [v0, some (Sum.inr x), v2, v3, v4, v5] (Sum.inr x :: st) M := eb_E_s hk48 rfl
theorem e48_18 {x : Option eb_A} : eb_E L d 48 18 [some (Sum.inr x), v1, v2, v3, v4, v5] (st) M = eb_E L d 48 19 [some (Sum.inr x), v1, v2, v3, v4, v5] (Sum.inr x :: st) M := eb_E_s hk48 rfl
theorem e48_19  : eb_E L d 48 19 ls (Sum.inr (some a) :: st) (nc, ns, I, J, R) = if (eb_ty L a.1).1 = 4 then eb_E L d 48 22 ls (Sum.inr (R a 0) :: st) (nc, ns, I, J, R) else none := eb_E_iy hk48 rfl
theorem e48_22 {x : Int32} : eb_E L d 48 22 [v0, v1, v2, v3, some (zi x), v5] (st) M = eb_E L d 48 24 [v0, v1, v2, v3, some (zi x), v5] (zi x :: st) M := eb_E_s hk48 rfl
theorem e48_24 {x : Int32} : eb_E L d 48 24 ls (zi x :: Sum.inr (some a) :: st) (nc, ns, I, J, R) = if (12 ≤ (eb_ty L a.1).1 ∧ (eb_ty L a.1).1 ≤ 16) ∧ eb_in x (eb_ty L a.1).2 = true then eb_E L d 48 25 ls (Sum.inr (R a x.toNatClampNeg) :: st) (nc, ns, I, J, R) else none := eb_E_iy hk48 rfl
theorem e48_25  : eb_E L d 48 25 ls ([a2, a1, a0]) M = (eb_ev L d 47 [a0, a1, a2] M).bind (fun q => eb_E L d 48 28 ls [q.1] q.2) := eb_E_c hk48 rfl
theorem e48_28 {x : Int32} : eb_E L d 48 28 [v0, v1, v2, v3, v4, v5] (zi x :: st) M = eb_E L d 48 30 [v0, v1, v2, v3, v4, some (zi x)] (st) M := eb_E_s hk48 rfl
theorem e48_30 {x : Int32} : eb_E L d 48 30 [v0, v1, some (zi x), v3, v4, v5] (st) M = eb_E L d 48 31 [v0, v1, some (zi x), v3, v4, v5] (zi x :: st) M := eb_E_s hk48 rfl
theorem e48_31  : eb_E L d 48 31 ls (st) M = eb_E L d 48 32 ls (zi (-1) :: st) M := eb_E_s hk48 rfl
theorem e48_32 {x : Int32} {y : Int32} : eb_E L d 48 32 ls (zi y :: zi x :: st) M = if x = y then eb_E L d 48 41 ls st M else eb_E L d 48 35 ls st M := eb_E_b hk48 rfl
theorem e48_35 {x : Int32} : eb_E L d 48 35 [v0, v1, v2, v3, v4, some (zi x)] (st) M = eb_E L d 48 37 [v0, v1, v2, v3, v4, some (zi x)] (zi x :: st) M := eb_E_s hk48 rfl
theorem e48_37 {x : Int32} : eb_E L d 48 37 [v0, v1, v2, some (zi x), v4, v5] (st) M = eb_E L d 48 38 [v0, v1, v2, some (zi x), v4, v5] (zi x :: st) M := eb_E_s hk48 rfl
theorem e48_38 {x : Int32} {y : Int32} : eb_E L d 48 38 ls (zi y :: zi x :: st) M = if y < x then eb_E L d 48 41 ls st M else eb_E L d 48 47 ls st M := eb_E_b hk48 rfl
theorem e48_41 {x : Int32} : eb_E L d 48 41 [v0, v1, v2, v3, some (zi x), v5] (st) M = eb_E L d 48 43 [v0, v1, v2, v3, some (zi x), v5] (zi x :: st) M := eb_E_s hk48 rfl
theorem e48_43 {x : Int32} : eb_E L d 48 43 [v0, v1, v2, v3, v4, v5] (zi x :: st) M = eb_E L d 48 44 [v0, v1, some (zi x), v3, v4, v5] (st) M := eb_E_s hk48 rfl
theorem e48_44 {x : Int32} : eb_E L d 48 44 [v0, v1, v2, v3, v4, some (zi x)] (st) M = eb_E L d 48 46 [v0, v1, v2, v3, v4, some (zi x)] (zi x :: st) M := eb_E_s hk48 rfl
theorem e48_46 {x : Int32} : eb_E L d 48 46 [v0, v1, v2, v3, v4, v5] (zi x :: st) M = eb_E L d 48 47 [v0, v1, v2, some (zi x), v4, v5] (st) M := eb_E_s hk48 rfl
theorem e48_47 {x : Int32} : eb_E L d 48 47 [v0, v1, v2, v3, some (zi x), v5] (st) M = eb_E L d 48 50 [v0, v1, v2, v3, some (zi (x + 1)), v5] (st) M := eb_E_s hk48 rfl
theorem e48_50  : eb_E L d 48 50 ls (st) M = eb_E L d 48 7 ls (st) M := eb_E_s hk48 rfl
theorem e48_53 {x : Int32} : eb_E L d 48 53 [v0, v1, some (zi x), v3, v4, v5] (st) M = eb_E L d 48 54 [v0, v1, some (zi x), v3, v4, v5] (zi x :: st) M := eb_E_s hk48 rfl
theorem e48_54 {x : Int32} : eb_E L d 48 54 ls ([zi x]) M = some (zi x, M) := eb_E_r hk48 rfl
/-! X4_crowdOf -/
theorem hk49 : eb_cd L 49 = eb_look (kt49 L) := rfl
theorem h49 (ha : (eb_ty L a.1).1 = 4) {x1 : Int32} : eb_ev L (d + 1) 49 [zr a, zi x1] M = eb_E L d 49 0 [some (zr a), some (zi x1), none, none] [] M := eb_ev_s rfl (eb_chk_i ha rfl)
theorem e49_0  : eb_E L d 49 0 ls (st) M = eb_E L d 49 1 ls (zi 0 :: st) M := eb_E_s hk49 rfl
theorem e49_1 {x : Int32} : eb_E L d 49 1 [v0, v1, v2, v3] (zi x :: st) M = eb_E L d 49 2 [v0, v1, some (zi x), v3] (st) M := eb_E_s hk49 rfl
theorem e49_2  : eb_E L d 49 2 ls (st) M = eb_E L d 49 3 ls (zi 0 :: st) M := eb_E_s hk49 rfl
theorem e49_3 {x : Int32} : eb_E L d 49 3 [v0, v1, v2, v3] (zi x :: st) M = eb_E L d 49 4 [v0, v1, v2, some (zi x)] (st) M := eb_E_s hk49 rfl
theorem e49_4 {x : Int32} : eb_E L d 49 4 [v0, v1, v2, some (zi x)] (st) M = eb_E L d 49 5 [v0, v1, v2, some (zi x)] (zi x :: st) M := eb_E_s hk49 rfl
theorem e49_5 {x : Option eb_A} : eb_E L d 49 5 [some (Sum.inr x), v1, v2, v3] (st) M = eb_E L d 49 6 [some (Sum.inr x), v1, v2, v3] (Sum.inr x :: st) M := eb_E_s hk49 rfl
theorem e49_6  : eb_E L d 49 6 ls (Sum.inr (some a) :: st) (nc, ns, I, J, R) = if (eb_ty L a.1).1 = 4 then eb_E L d 49 9 ls (zi (I a 3) :: st) (nc, ns, I, J, R) else none := eb_E_iy hk49 rfl
theorem e49_9 {x : Int32} {y : Int32} : eb_E L d 49 9 ls (zi y :: zi x :: st) M = if x < y then eb_E L d 49 12 ls st M else eb_E L d 49 56 ls st M := eb_E_b hk49 rfl
theorem e49_12 {x : Option eb_A} : eb_E L d 49 12 [some (Sum.inr x), v1, v2, v3] (st) M = eb_E L d 49 13 [some (Sum.inr x), v1, v2, v3] (Sum.inr x :: st) M := eb_E_s hk49 rfl
theorem e49_13  : eb_E L d 49 13 ls (Sum.inr (some a) :: st) (nc, ns, I, J, R) = if (eb_ty L a.1).1 = 4 then eb_E L d 49 16 ls (Sum.inr (R a 1) :: st) (nc, ns, I, J, R) else none := eb_E_iy hk49 rfl
theorem e49_16 {x : Int32} : eb_E L d 49 16 [v0, v1, v2, some (zi x)] (st) M = eb_E L d 49 17 [v0, v1, v2, some (zi x)] (zi x :: st) M := eb_E_s hk49 rfl
theorem e49_17 {x : Int32} : eb_E L d 49 17 ls (zi x :: Sum.inr (some a) :: st) (nc, ns, I, J, R) = if (12 ≤ (eb_ty L a.1).1 ∧ (eb_ty L a.1).1 ≤ 16) ∧ eb_in x (eb_ty L a.1).2 = true then eb_E L d 49 18 ls (Sum.inr (R a x.toNatClampNeg) :: st) (nc, ns, I, J, R) else none := eb_E_iy hk49 rfl
theorem e49_18  : eb_E L d 49 18 ls ([a0]) M = (eb_ev L d 4 [a0] M).bind (fun q => eb_E L d 49 21 ls [q.1] q.2) := eb_E_c hk49 rfl
theorem e49_21 {x : Int32} : eb_E L d 49 21 ls (zi x :: st) M = if x = 0 then eb_E L d 49 50 ls st M else eb_E L d 49 24 ls st M := eb_E_b hk49 rfl
theorem e49_24 {x : Option eb_A} : eb_E L d 49 24 [some (Sum.inr x), v1, v2, v3] (st) M = eb_E L d 49 25 [some (Sum.inr x), v1, v2, v3] (Sum.inr x :: st) M := eb_E_s hk49 rfl
theorem e49_25 {x : Option eb_A} : eb_E L d 49 25 [some (Sum.inr x), v1, v2, v3] (st) M = eb_E L d 49 26 [some (Sum.inr x), v1, v2, v3] (Sum.inr x :: st) M := eb_E_s hk49 rfl
theorem e49_26  : eb_E L d 49 26 ls (Sum.inr (some a) :: st) (nc, ns, I, J, R) = if (eb_ty L a.1).1 = 4 then eb_E L d 49 29 ls (Sum.inr (R a 1) :: st) (nc, ns, I, J, R) else none := eb_E_iy hk49 rfl
theorem e49_29 {x : Int32} : eb_E L d 49 29 [v0, v1, v2, some (zi x)] (st) M = eb_E L d 49 30 [v0, v1, v2, some (zi x)] (zi x :: st) M := eb_E_s hk49 rfl
theorem e49_30 {x : Int32} : eb_E L d 49 30 ls (zi x :: Sum.inr (some a) :: st) (nc, ns, I, J, R) = if (12 ≤ (eb_ty L a.1).1 ∧ (eb_ty L a.1).1 ≤ 16) ∧ eb_in x (eb_ty L a.1).2 = true then eb_E L d 49 31 ls (Sum.inr (R a x.toNatClampNeg) :: st) (nc, ns, I, J, R) else none := eb_E_iy hk49 rfl
theorem e49_31  : eb_E L d 49 31 ls ([a1, a0]) M = (eb_ev L d 48 [a0, a1] M).bind (fun q => eb_E L d 49 34 ls [q.1] q.2) := eb_E_c hk49 rfl
theorem e49_34 {x : Int32} : eb_E L d 49 34 [v0, some (zi x), v2, v3] (st) M = eb_E L d 49 35 [v0, some (zi x), v2, v3] (zi x :: st) M := eb_E_s hk49 rfl
theorem e49_35 {x : Int32} {y : Int32} : eb_E L d 49 35 ls (zi y :: zi x :: st) M = if x = y then eb_E L d 49 38 ls st M else eb_E L d 49 50 ls st M := eb_E_b hk49 rfl
theorem e49_38 {x : Int32} : eb_E L d 49 38 [v0, v1, some (zi x), v3] (st) M = eb_E L d 49 39 [v0, v1, some (zi x), v3] (zi x :: st) M := eb_E_s hk49 rfl
theorem e49_39 {x : Option eb_A} : eb_E L d 49 39 [some (Sum.inr x), v1, v2, v3] (st) M = eb_E L d 49 40 [some (Sum.inr x), v1, v2, v3] (Sum.inr x :: st) M := eb_E_s hk49 rfl
theorem e49_40  : eb_E L d 49 40 ls (Sum.inr (some a) :: st) (nc, ns, I, J, R) = if (eb_ty L a.1).1 = 4 then eb_E L d 49 43 ls (Sum.inr (R a 1) :: st) (nc, ns, I, J, R) else none := eb_E_iy hk49 rfl
theorem e49_43 {x : Int32} : eb_E L d 49 43 [v0, v1, v2, some (zi x)] (st) M = eb_E L d 49 44 [v0, v1, v2, some (zi x)] (zi x :: st) M := eb_E_s hk49 rfl
theorem e49_44 {x : Int32} : eb_E L d 49 44 ls (zi x :: Sum.inr (some a) :: st) (nc, ns, I, J, R) = if (12 ≤ (eb_ty L a.1).1 ∧ (eb_ty L a.1).1 ≤ 16) ∧ eb_in x (eb_ty L a.1).2 = true then eb_E L d 49 45 ls (Sum.inr (R a x.toNatClampNeg) :: st) (nc, ns, I, J, R) else none := eb_E_iy hk49 rfl
theorem e49_45  : eb_E L d 49 45 ls (Sum.inr (some a) :: st) (nc, ns, I, J, R) = if (eb_ty L a.1).1 = 0 then eb_E L d 49 48 ls (zi (I a 1) :: st) (nc, ns, I, J, R) else none := eb_E_iy hk49 rfl
theorem e49_48 {x : Int32} {y : Int32} : eb_E L d 49 48 ls (zi y :: zi x :: st) M = eb_E L d 49 49 ls (zi (x + y) :: st) M := eb_E_s hk49 rfl
theorem e49_49 {x : Int32} : eb_E L d 49 49 [v0, v1, v2, v3] (zi x :: st) M = eb_E L d 49 50 [v0, v1, some (zi x), v3] (st) M := eb_E_s hk49 rfl
theorem e49_50 {x : Int32} : eb_E L d 49 50 [v0, v1, v2, some (zi x)] (st) M = eb_E L d 49 53 [v0, v1, v2, some (zi (x + 1))] (st) M := eb_E_s hk49 rfl
theorem e49_53  : eb_E L d 49 53 ls (st) M = eb_E L d 49 4 ls (st) M := eb_E_s hk49 rfl
theorem e49_56 {x : Int32} : eb_E L d 49 56 [v0, v1, some (zi x), v3] (st) M = eb_E L d 49 57 [v0, v1, some (zi x), v3] (zi x :: st) M := eb_E_s hk49 rfl
theorem e49_57 {x : Int32} : eb_E L d 49 57 ls ([zi x]) M = some (zi x, M) := eb_E_r hk49 rfl
/-! X4_spendNight -/
theorem hk50 : eb_cd L 50 = eb_look (kt50 L) := rfl
theorem h50 (ha : (eb_ty L a.1).1 = 4) : eb_ev L (d + 1) 50 [zr a] M = eb_E L d 50 0 [some (zr a), none] [] M := eb_ev_s rfl (eb_chk_i ha rfl)
theorem e50_0 {x : Option eb_A} : eb_E L d 50 0 [some (Sum.inr x), v1] (st) M = eb_E L d 50 1 [some (Sum.inr x), v1] (Sum.inr x :: st) M := eb_E_s hk50 rfl
theorem e50_1  : eb_E L d 50 1 ls ([a0]) M = (eb_ev L d 52 [a0] M).bind (fun q => eb_E L d 50 4 ls [] q.2) := eb_E_c hk50 rfl
theorem e50_4  : eb_E L d 50 4 ls (st) M = eb_E L d 50 5 ls (zi 0 :: st) M := eb_E_s hk50 rfl
theorem e50_5 {x : Int32} : eb_E L d 50 5 [v0, v1] (zi x :: st) M = eb_E L d 50 6 [v0, some (zi x)] (st) M := eb_E_s hk50 rfl
theorem e50_6 {x : Int32} : eb_E L d 50 6 [v0, some (zi x)] (st) M = eb_E L d 50 7 [v0, some (zi x)] (zi x :: st) M := eb_E_s hk50 rfl
theorem e50_7 {x : Option eb_A} : eb_E L d 50 7 [some (Sum.inr x), v1] (st) M = eb_E L d 50 8 [some (Sum.inr x), v1] (Sum.inr x :: st) M := eb_E_s hk50 rfl
theorem e50_8  : eb_E L d 50 8 ls (Sum.inr (some a) :: st) (nc, ns, I, J, R) = if (eb_ty L a.1).1 = 4 then eb_E L d 50 11 ls (zi (I a 3) :: st) (nc, ns, I, J, R) else none := eb_E_iy hk50 rfl
theorem e50_11 {x : Int32} {y : Int32} : eb_E L d 50 11 ls (zi y :: zi x :: st) M = if x < y then eb_E L d 50 14 ls st M else eb_E L d 50 39 ls st M := eb_E_b hk50 rfl
theorem e50_14 {x : Option eb_A} : eb_E L d 50 14 [some (Sum.inr x), v1] (st) M = eb_E L d 50 15 [some (Sum.inr x), v1] (Sum.inr x :: st) M := eb_E_s hk50 rfl
theorem e50_15 {x : Option eb_A} : eb_E L d 50 15 [some (Sum.inr x), v1] (st) M = eb_E L d 50 16 [some (Sum.inr x), v1] (Sum.inr x :: st) M := eb_E_s hk50 rfl
theorem e50_16  : eb_E L d 50 16 ls (Sum.inr (some a) :: st) (nc, ns, I, J, R) = if (eb_ty L a.1).1 = 4 then eb_E L d 50 19 ls (Sum.inr (R a 8) :: st) (nc, ns, I, J, R) else none := eb_E_iy hk50 rfl
theorem e50_19 {x : Int32} : eb_E L d 50 19 [v0, some (zi x)] (st) M = eb_E L d 50 20 [v0, some (zi x)] (zi x :: st) M := eb_E_s hk50 rfl
theorem e50_20 {x : Int32} : eb_E L d 50 20 ls (zi x :: Sum.inr (some a) :: st) (nc, ns, I, J, R) = if (12 ≤ (eb_ty L a.1).1 ∧ (eb_ty L a.1).1 ≤ 16) ∧ eb_in x (eb_ty L a.1).2 = true then eb_E L d 50 21 ls (Sum.inr (R a x.toNatClampNeg) :: st) (nc, ns, I, J, R) else none := eb_E_iy hk50 rfl
theorem e50_21 {x : Option eb_A} : eb_E L d 50 21 [some (Sum.inr x), v1] (st) M = eb_E L d 50 22 [some (Sum.inr x), v1] (Sum.inr x :: st) M := eb_E_s hk50 rfl
theorem e50_22  : eb_E L d 50 22 ls (Sum.inr (some a) :: st) (nc, ns, I, J, R) = if (eb_ty L a.1).1 = 4 then eb_E L d 50 25 ls (Sum.inr (R a 8) :: st) (nc, ns, I, J, R) else none := eb_E_iy hk50 rfl
theorem e50_25 {x : Int32} : eb_E L d 50 25 [v0, some (zi x)] (st) M = eb_E L d 50 26 [v0, some (zi x)] (zi x :: st) M := eb_E_s hk50 rfl
theorem e50_26 {x : Int32} : eb_E L d 50 26 ls (zi x :: Sum.inr (some a) :: st) (nc, ns, I, J, R) = if (12 ≤ (eb_ty L a.1).1 ∧ (eb_ty L a.1).1 ≤ 16) ∧ eb_in x (eb_ty L a.1).2 = true then eb_E L d 50 27 ls (Sum.inr (R a x.toNatClampNeg) :: st) (nc, ns, I, J, R) else none := eb_E_iy hk50 rfl
theorem e50_27  : eb_E L d 50 27 ls (Sum.inr (some a) :: st) (nc, ns, I, J, R) = if (eb_ty L a.1).1 = 0 then eb_E L d 50 30 ls (zi (I a 1) :: st) (nc, ns, I, J, R) else none := eb_E_iy hk50 rfl
theorem e50_30  : eb_E L d 50 30 ls ([a2, a1, a0]) M = (eb_ev L d 55 [a0, a1, a2] M).bind (fun q => eb_E L d 50 33 ls [] q.2) := eb_E_c hk50 rfl
theorem e50_33 {x : Int32} : eb_E L d 50 33 [v0, some (zi x)] (st) M = eb_E L d 50 36 [v0, some (zi (x + 1))] (st) M := eb_E_s hk50 rfl
theorem e50_36  : eb_E L d 50 36 ls (st) M = eb_E L d 50 6 ls (st) M := eb_E_s hk50 rfl
theorem e50_39  : eb_E L d 50 39 ls ([]) M = some (zn, M) := eb_E_r hk50 rfl
/-! X4_spendNightWithTwoBooks -/
theorem hk51 : eb_cd L 51 = eb_look (kt51 L) := rfl
theorem h51 (ha : (eb_ty L a.1).1 = 4) {x1 : Int32} {x2 : Int32} : eb_ev L (d + 1) 51 [zr a, zi x1, zi x2] M = eb_E L d 51 0 [some (zr a), some (zi x1), some (zi x2), none, none, none] [] M := eb_ev_s rfl (eb_chk_i ha rfl)
theorem e51_0 {x : Option eb_A} : eb_E L d 51 0 [some (Sum.inr x), v1, v2, v3, v4, v5] (st) M = eb_E L d 51 1 [some (Sum.inr x), v1, v2, v3, v4, v5] (Sum.inr x :: st) M := eb_E_s hk51 rfl
theorem e51_1  : eb_E L d 51 1 ls ([a0]) M = (eb_ev L d 52 [a0] M).bind (fun q => eb_E L d 51 4 ls [] q.2) := eb_E_c hk51 rfl
theorem e51_4  : eb_E L d 51 4 ls (st) M = eb_E L d 51 5 ls (zi 0 :: st) M := eb_E_s hk51 rfl
theorem e51_5 {x : Int32} : eb_E L d 51 5 [v0, v1, v2, v3, v4, v5] (zi x :: st) M = eb_E L d 51 6 [v0, v1, v2, some (zi x), v4, v5] (st) M := eb_E_s hk51 rfl
theorem e51_6 {x : Int32} : eb_E L d 51 6 [v0, v1, v2, some (zi x), v4, v5] (st) M = eb_E L d 51 7 [v0, v1, v2, some (zi x), v4, v5] (zi x :: st) M := eb_E_s hk51 rfl
theorem e51_7 {x : Option eb_A} : eb_E L d 51 7 [some (Sum.inr x), v1, v2, v3, v4, v5] (st) M = eb_E L d 51 8 [some (Sum.inr x), v1, v2, v3, v4, v5] (Sum.inr x :: st) M := eb_E_s hk51 rfl
theorem e51_8  : eb_E L d 51 8 ls (Sum.inr (some a) :: st) (nc, ns, I, J, R) = if (eb_ty L a.1).1 = 4 then eb_E L d 51 11 ls (zi (I a 3) :: st) (nc, ns, I, J, R) else none := eb_E_iy hk51 rfl
theorem e51_11 {x : Int32} {y : Int32} : eb_E L d 51 11 ls (zi y :: zi x :: st) M = if x < y then eb_E L d 51 14 ls st M else eb_E L d 51 83 ls st M := eb_E_b hk51 rfl
theorem e51_14 {x : Option eb_A} : eb_E L d 51 14 [some (Sum.inr x), v1, v2, v3, v4, v5] (st) M = eb_E L d 51 15 [some (Sum.inr x), v1, v2, v3, v4, v5] (Sum.inr x :: st) M := eb_E_s hk51 rfl
theorem e51_15  : eb_E L d 51 15 ls (Sum.inr (some a) :: st) (nc, ns, I, J, R) = if (eb_ty L a.1).1 = 4 then eb_E L d 51 18 ls (Sum.inr (R a 8) :: st) (nc, ns, I, J, R) else none := eb_E_iy hk51 rfl
theorem e51_18 {x : Int32} : eb_E L d 51 18 [v0, v1, v2, some (zi x), v4, v5] (st) M = eb_E L d 51 19 [v0, v1, v2, some (zi x), v4, v5] (zi x :: st) M := eb_E_s hk51 rfl
theorem e51_19 {x : Int32} : eb_E L d 51 19 ls (zi x :: Sum.inr (some a) :: st) (nc, ns, I, J, R) = if (12 ≤ (eb_ty L a.1).1 ∧ (eb_ty L a.1).1 ≤ 16) ∧ eb_in x (eb_ty L a.1).2 = true then eb_E L d 51 20 ls (Sum.inr (R a x.toNatClampNeg) :: st) (nc, ns, I, J, R) else none := eb_E_iy hk51 rfl
theorem e51_20 {x : Option eb_A} : eb_E L d 51 20 [v0, v1, v2, v3, v4, v5] (Sum.inr x :: st) M = eb_E L d 51 22 [v0, v1, v2, v3, some (Sum.inr x), v5] (st) M := eb_E_s hk51 rfl
theorem e51_22 {x : Option eb_A} : eb_E L d 51 22 [v0, v1, v2, v3, some (Sum.inr x), v5] (st) M = eb_E L d 51 24 [v0, v1, v2, v3, some (Sum.inr x), v5] (Sum.inr x :: st) M := eb_E_s hk51 rfl
theorem e51_24  : eb_E L d 51 24 ls ([a0]) M = (eb_ev L d 4 [a0] M).bind (fun q => eb_E L d 51 27 ls [q.1] q.2) := eb_E_c hk51 rfl
theorem e51_27 {x : Int32} : eb_E L d 51 27 ls (zi x :: st) M = if x = 0 then eb_E L d 51 40 ls st M else eb_E L d 51 30 ls st M := eb_E_b hk51 rfl
theorem e51_30 {x : Option eb_A} : eb_E L d 51 30 [v0, v1, v2, v3, some (Sum.inr x), v5] (st) M = eb_E L d 51 32 [v0, v1, v2, v3, some (Sum.inr x), v5] (Sum.inr x :: st) M := eb_E_s hk51 rfl
theorem e51_32  : eb_E L d 51 32 ls (Sum.inr (some a) :: st) (nc, ns, I, J, R) = if (eb_ty L a.1).1 = 0 then eb_E L d 51 35 ls (zi (I a 1) :: st) (nc, ns, I, J, R) else none := eb_E_iy hk51 rfl
theorem e51_35  : eb_E L d 51 35 ls (st) M = eb_E L d 51 36 ls (zi 2 :: st) M := eb_E_s hk51 rfl
theorem e51_36 {x : Int32} {y : Int32} : eb_E L d 51 36 ls (zi y :: zi x :: st) M = if y = 0 then none else eb_E L d 51 37 ls (zi (x / y) :: st) M := eb_E_in hk51 rfl
theorem e51_37  : eb_E L d 51 37 ls (st) M = eb_E L d 51 41 ls (st) M := eb_E_s hk51 rfl
theorem e51_40  : eb_E L d 51 40 ls (st) M = eb_E L d 51 41 ls (zi 0 :: st) M := eb_E_s hk51 rfl
theorem e51_41 {x : Int32} : eb_E L d 51 41 [v0, v1, v2, v3, v4, v5] (zi x :: st) M = eb_E L d 51 43 [v0, v1, v2, v3, v4, some (zi x)] (st) M := eb_E_s hk51 rfl
theorem e51_43 {x : Option eb_A} : eb_E L d 51 43 [some (Sum.inr x), v1, v2, v3, v4, v5] (st) M = eb_E L d 51 44 [some (Sum.inr x), v1, v2, v3, v4, v5] (Sum.inr x :: st) M := eb_E_s hk51 rfl
theorem e51_44 {x : Int32} : eb_E L d 51 44 [v0, some (zi x), v2, v3, v4, v5] (st) M = eb_E L d 51 45 [v0, some (zi x), v2, v3, v4, v5] (zi x :: st) M := eb_E_s hk51 rfl
theorem e51_45  : eb_E L d 51 45 ls ([a1, a0]) M = (eb_ev L d 42 [a0, a1] M).bind (fun q => eb_E L d 51 48 ls [q.1] q.2) := eb_E_c hk51 rfl
theorem e51_48a {x : Int32} : eb_E L d 51 48 ls (zi x :: st) M = eb_E L d 51 49 ls (st) M := eb_E_s hk51 rfl
theorem e51_48b {x : Option eb_A} : eb_E L d 51 48 ls (Sum.inr x :: st) M = eb_E L d 51 49 ls (st) M := eb_E_s hk51 rfl
theorem e51_49 {x : Option eb_A} : eb_E L d 51 49 [some (Sum.inr x), v1, v2, v3, v4, v5] (st) M = eb_E L d 51 50 [some (Sum.inr x), v1, v2, v3, v4, v5] (Sum.inr x :: st) M := eb_E_s hk51 rfl
theorem e51_50 {x : Option eb_A} : eb_E L d 51 50 [v0, v1, v2, v3, some (Sum.inr x), v5] (st) M = eb_E L d 51 52 [v0, v1, v2, v3, some (Sum.inr x), v5] (Sum.inr x :: st) M := eb_E_s hk51 rfl
theorem e51_52 {x : Option eb_A} : eb_E L d 51 52 [v0, v1, v2, v3, some (Sum.inr x), v5] (st) M = eb_E L d 51 54 [v0, v1, v2, v3, some (Sum.inr x), v5] (Sum.inr x :: st) M := eb_E_s hk51 rfl
theorem e51_54  : eb_E L d 51 54 ls (Sum.inr (some a) :: st) (nc, ns, I, J, R) = if (eb_ty L a.1).1 = 0 then eb_E L d 51 57 ls (zi (I a 1) :: st) (nc, ns, I, J, R) else none := eb_E_iy hk51 rfl
theorem e51_57 {x : Int32} : eb_E L d 51 57 [v0, v1, v2, v3, v4, some (zi x)] (st) M = eb_E L d 51 59 [v0, v1, v2, v3, v4, some (zi x)] (zi x :: st) M := eb_E_s hk51 rfl
theorem e51_59 {x : Int32} {y : Int32} : eb_E L d 51 59 ls (zi y :: zi x :: st) M = eb_E L d 51 60 ls (zi (x - y) :: st) M := eb_E_s hk51 rfl
theorem e51_60  : eb_E L d 51 60 ls ([a2, a1, a0]) M = (eb_ev L d 55 [a0, a1, a2] M).bind (fun q => eb_E L d 51 63 ls [] q.2) := eb_E_c hk51 rfl
theorem e51_63 {x : Option eb_A} : eb_E L d 51 63 [some (Sum.inr x), v1, v2, v3, v4, v5] (st) M = eb_E L d 51 64 [some (Sum.inr x), v1, v2, v3, v4, v5] (Sum.inr x :: st) M := eb_E_s hk51 rfl
theorem e51_64 {x : Int32} : eb_E L d 51 64 [v0, v1, some (zi x), v3, v4, v5] (st) M = eb_E L d 51 65 [v0, v1, some (zi x), v3, v4, v5] (zi x :: st) M := eb_E_s hk51 rfl
theorem e51_65  : eb_E L d 51 65 ls ([a1, a0]) M = (eb_ev L d 42 [a0, a1] M).bind (fun q => eb_E L d 51 68 ls [q.1] q.2) := eb_E_c hk51 rfl
theorem e51_68a {x : Int32} : eb_E L d 51 68 ls (zi x :: st) M = eb_E L d 51 69 ls (st) M := eb_E_s hk51 rfl
theorem e51_68b {x : Option eb_A} : eb_E L d 51 68 ls (Sum.inr x :: st) M = eb_E L d 51 69 ls (st) M := eb_E_s hk51 rfl
theorem e51_69 {x : Option eb_A} : eb_E L d 51 69 [some (Sum.inr x), v1, v2, v3, v4, v5] (st) M = eb_E L d 51 70 [some (Sum.inr x), v1, v2, v3, v4, v5] (Sum.inr x :: st) M := eb_E_s hk51 rfl
theorem e51_70 {x : Option eb_A} : eb_E L d 51 70 [v0, v1, v2, v3, some (Sum.inr x), v5] (st) M = eb_E L d 51 72 [v0, v1, v2, v3, some (Sum.inr x), v5] (Sum.inr x :: st) M := eb_E_s hk51 rfl
theorem e51_72 {x : Int32} : eb_E L d 51 72 [v0, v1, v2, v3, v4, some (zi x)] (st) M = eb_E L d 51 74 [v0, v1, v2, v3, v4, some (zi x)] (zi x :: st) M := eb_E_s hk51 rfl
theorem e51_74  : eb_E L d 51 74 ls ([a2, a1, a0]) M = (eb_ev L d 55 [a0, a1, a2] M).bind (fun q => eb_E L d 51 77 ls [] q.2) := eb_E_c hk51 rfl
theorem e51_77 {x : Int32} : eb_E L d 51 77 [v0, v1, v2, some (zi x), v4, v5] (st) M = eb_E L d 51 80 [v0, v1, v2, some (zi (x + 1)), v4, v5] (st) M := eb_E_s hk51 rfl
theorem e51_80  : eb_E L d 51 80 ls (st) M = eb_E L d 51 6 ls (st) M := eb_E_s hk51 rfl
theorem e51_83  : eb_E L d 51 83 ls ([]) M = some (zn, M) := eb_E_r hk51 rfl
/-! X4_beginNight -/
theorem hk52 : eb_cd L 52 = eb_look (kt52 L) := rfl
theorem h52 (ha : (eb_ty L a.1).1 = 4) : eb_ev L (d + 1) 52 [zr a] M = eb_E L d 52 0 [some (zr a), none] [] M := eb_ev_s rfl (eb_chk_i ha rfl)
theorem e52_0  : eb_E L d 52 0 ls (st) M = eb_E L d 52 1 ls (zi 0 :: st) M := eb_E_s hk52 rfl
theorem e52_1 {x : Int32} : eb_E L d 52 1 [v0, v1] (zi x :: st) M = eb_E L d 52 2 [v0, some (zi x)] (st) M := eb_E_s hk52 rfl
theorem e52_2 {x : Int32} : eb_E L d 52 2 [v0, some (zi x)] (st) M = eb_E L d 52 3 [v0, some (zi x)] (zi x :: st) M := eb_E_s hk52 rfl
theorem e52_3 {x : Option eb_A} : eb_E L d 52 3 [some (Sum.inr x), v1] (st) M = eb_E L d 52 4 [some (Sum.inr x), v1] (Sum.inr x :: st) M := eb_E_s hk52 rfl
theorem e52_4  : eb_E L d 52 4 ls (Sum.inr (some a) :: st) (nc, ns, I, J, R) = if (eb_ty L a.1).1 = 4 then eb_E L d 52 7 ls (zi (I a 2) :: st) (nc, ns, I, J, R) else none := eb_E_iy hk52 rfl
theorem e52_7 {x : Int32} {y : Int32} : eb_E L d 52 7 ls (zi y :: zi x :: st) M = if x < y then eb_E L d 52 10 ls st M else eb_E L d 52 26 ls st M := eb_E_b hk52 rfl
theorem e52_10 {x : Option eb_A} : eb_E L d 52 10 [some (Sum.inr x), v1] (st) M = eb_E L d 52 11 [some (Sum.inr x), v1] (Sum.inr x :: st) M := eb_E_s hk52 rfl
theorem e52_11  : eb_E L d 52 11 ls (Sum.inr (some a) :: st) (nc, ns, I, J, R) = if (eb_ty L a.1).1 = 4 then eb_E L d 52 14 ls (Sum.inr (R a 0) :: st) (nc, ns, I, J, R) else none := eb_E_iy hk52 rfl
theorem e52_14 {x : Int32} : eb_E L d 52 14 [v0, some (zi x)] (st) M = eb_E L d 52 15 [v0, some (zi x)] (zi x :: st) M := eb_E_s hk52 rfl
theorem e52_15 {x : Int32} : eb_E L d 52 15 ls (zi x :: Sum.inr (some a) :: st) (nc, ns, I, J, R) = if (12 ≤ (eb_ty L a.1).1 ∧ (eb_ty L a.1).1 ≤ 16) ∧ eb_in x (eb_ty L a.1).2 = true then eb_E L d 52 16 ls (Sum.inr (R a x.toNatClampNeg) :: st) (nc, ns, I, J, R) else none := eb_E_iy hk52 rfl
theorem e52_16  : eb_E L d 52 16 ls (st) M = eb_E L d 52 17 ls (zi 0 :: st) M := eb_E_s hk52 rfl
theorem e52_17 {x : Int32} : eb_E L d 52 17 ls (zi x :: Sum.inr (some a) :: st) (nc, ns, I, J, R) = if (eb_ty L a.1).1 = 1 then eb_E L d 52 20 ls (st) (nc, ns, eb_u I a 7 x, J, R) else none := eb_E_iy hk52 rfl
theorem e52_20 {x : Int32} : eb_E L d 52 20 [v0, some (zi x)] (st) M = eb_E L d 52 23 [v0, some (zi (x + 1))] (st) M := eb_E_s hk52 rfl
theorem e52_23  : eb_E L d 52 23 ls (st) M = eb_E L d 52 2 ls (st) M := eb_E_s hk52 rfl
theorem e52_26  : eb_E L d 52 26 ls (st) M = eb_E L d 52 27 ls (zi 0 :: st) M := eb_E_s hk52 rfl
theorem e52_27 {x : Int32} : eb_E L d 52 27 [v0, v1] (zi x :: st) M = eb_E L d 52 28 [v0, some (zi x)] (st) M := eb_E_s hk52 rfl
theorem e52_28 {x : Int32} : eb_E L d 52 28 [v0, some (zi x)] (st) M = eb_E L d 52 29 [v0, some (zi x)] (zi x :: st) M := eb_E_s hk52 rfl
theorem e52_29 {x : Option eb_A} : eb_E L d 52 29 [some (Sum.inr x), v1] (st) M = eb_E L d 52 30 [some (Sum.inr x), v1] (Sum.inr x :: st) M := eb_E_s hk52 rfl
theorem e52_30  : eb_E L d 52 30 ls (Sum.inr (some a) :: st) (nc, ns, I, J, R) = if (eb_ty L a.1).1 = 4 then eb_E L d 52 33 ls (zi (I a 3) :: st) (nc, ns, I, J, R) else none := eb_E_iy hk52 rfl
theorem e52_33 {x : Int32} {y : Int32} : eb_E L d 52 33 ls (zi y :: zi x :: st) M = if x < y then eb_E L d 52 36 ls st M else eb_E L d 52 51 ls st M := eb_E_b hk52 rfl
theorem e52_36 {x : Option eb_A} : eb_E L d 52 36 [some (Sum.inr x), v1] (st) M = eb_E L d 52 37 [some (Sum.inr x), v1] (Sum.inr x :: st) M := eb_E_s hk52 rfl
theorem e52_37  : eb_E L d 52 37 ls (Sum.inr (some a) :: st) (nc, ns, I, J, R) = if (eb_ty L a.1).1 = 4 then eb_E L d 52 40 ls (Sum.inr (R a 1) :: st) (nc, ns, I, J, R) else none := eb_E_iy hk52 rfl
theorem e52_40 {x : Int32} : eb_E L d 52 40 [v0, some (zi x)] (st) M = eb_E L d 52 41 [v0, some (zi x)] (zi x :: st) M := eb_E_s hk52 rfl
theorem e52_41 {x : Int32} : eb_E L d 52 41 ls (zi x :: Sum.inr (some a) :: st) (nc, ns, I, J, R) = if (12 ≤ (eb_ty L a.1).1 ∧ (eb_ty L a.1).1 ≤ 16) ∧ eb_in x (eb_ty L a.1).2 = true then eb_E L d 52 42 ls (Sum.inr (R a x.toNatClampNeg) :: st) (nc, ns, I, J, R) else none := eb_E_iy hk52 rfl
theorem e52_42  : eb_E L d 52 42 ls ([a0]) M = (eb_ev L d 3 [a0] M).bind (fun q => eb_E L d 52 45 ls [] q.2) := eb_E_c hk52 rfl
theorem e52_45 {x : Int32} : eb_E L d 52 45 [v0, some (zi x)] (st) M = eb_E L d 52 48 [v0, some (zi (x + 1))] (st) M := eb_E_s hk52 rfl
theorem e52_48  : eb_E L d 52 48 ls (st) M = eb_E L d 52 28 ls (st) M := eb_E_s hk52 rfl
theorem e52_51 {x : Option eb_A} : eb_E L d 52 51 [some (Sum.inr x), v1] (st) M = eb_E L d 52 52 [some (Sum.inr x), v1] (Sum.inr x :: st) M := eb_E_s hk52 rfl
theorem e52_52  : eb_E L d 52 52 ls (st) M = eb_E L d 52 53 ls (zi 0 :: st) M := eb_E_s hk52 rfl
theorem e52_53  : eb_E L d 52 53 ls (st) M = eb_E L d 52 54 ls (zi 0 :: st) M := eb_E_s hk52 rfl
theorem e52_54  : eb_E L d 52 54 ls ([a2, a1, a0]) M = (eb_ev L d 53 [a0, a1, a2] M).bind (fun q => eb_E L d 52 57 ls [] q.2) := eb_E_c hk52 rfl
theorem e52_57 {x : Option eb_A} : eb_E L d 52 57 [some (Sum.inr x), v1] (st) M = eb_E L d 52 58 [some (Sum.inr x), v1] (Sum.inr x :: st) M := eb_E_s hk52 rfl
theorem e52_58  : eb_E L d 52 58 ls (st) M = eb_E L d 52 59 ls (zi 1 :: st) M := eb_E_s hk52 rfl
theorem e52_59 {x : Option eb_A} : eb_E L d 52 59 [some (Sum.inr x), v1] (st) M = eb_E L d 52 60 [some (Sum.inr x), v1] (Sum.inr x :: st) M := eb_E_s hk52 rfl
theorem e52_60  : eb_E L d 52 60 ls (Sum.inr (some a) :: st) (nc, ns, I, J, R) = if (eb_ty L a.1).1 = 4 then eb_E L d 52 63 ls (zi (I a 3) :: st) (nc, ns, I, J, R) else none := eb_E_iy hk52 rfl
theorem e52_63 {x : Option eb_A} : eb_E L d 52 63 [some (Sum.inr x), v1] (st) M = eb_E L d 52 64 [some (Sum.inr x), v1] (Sum.inr x :: st) M := eb_E_s hk52 rfl
theorem e52_64 {s0 : Int32} {s1 : Int32} {s2 : Option eb_A} : eb_E L d 52 64 ls ([a0, zi s0, zi s1, Sum.inr s2]) M = (eb_ev L d 54 [a0] M).bind (fun q => eb_E L d 52 67 ls [q.1, zi s0, zi s1, Sum.inr s2] q.2) := eb_E_c hk52 rfl
theorem e52_67 {x : Int32} {y : Int32} : eb_E L d 52 67 ls (zi y :: zi x :: st) M = eb_E L d 52 68 ls (zi (x - y) :: st) M := eb_E_s hk52 rfl
theorem e52_68  : eb_E L d 52 68 ls ([a2, a1, a0]) M = (eb_ev L d 53 [a0, a1, a2] M).bind (fun q => eb_E L d 52 71 ls [] q.2) := eb_E_c hk52 rfl
theorem e52_71  : eb_E L d 52 71 ls ([]) M = some (zn, M) := eb_E_r hk52 rfl
/-! X4_lineUp -/
theorem hk53 : eb_cd L 53 = eb_look (kt53 L) := rfl
theorem h53 (ha : (eb_ty L a.1).1 = 4) {x1 : Int32} {x2 : Int32} : eb_ev L (d + 1) 53 [zr a, zi x1, zi x2] M = eb_E L d 53 0 [some (zr a), some (zi x1), some (zi x2), none, none] [] M := eb_ev_s rfl (eb_chk_i ha rfl)
theorem e53_0 {x : Int32} : eb_E L d 53 0 [v0, v1, some (zi x), v3, v4] (st) M = eb_E L d 53 1 [v0, v1, some (zi x), v3, v4] (zi x :: st) M := eb_E_s hk53 rfl
theorem e53_1 {x : Int32} : eb_E L d 53 1 [v0, v1, v2, v3, v4] (zi x :: st) M = eb_E L d 53 2 [v0, v1, v2, some (zi x), v4] (st) M := eb_E_s hk53 rfl
theorem e53_2  : eb_E L d 53 2 ls (st) M = eb_E L d 53 3 ls (zi 0 :: st) M := eb_E_s hk53 rfl
theorem e53_3 {x : Int32} : eb_E L d 53 3 [v0, v1, v2, v3, v4] (zi x :: st) M = eb_E L d 53 5 [v0, v1, v2, v3, some (zi x)] (st) M := eb_E_s hk53 rfl
theorem e53_5 {x : Int32} : eb_E L d 53 5 [v0, v1, v2, v3, some (zi x)] (st) M = eb_E L d 53 7 [v0, v1, v2, v3, some (zi x)] (zi x :: st) M := eb_E_s hk53 rfl
theorem e53_7 {x : Option eb_A} : eb_E L d 53 7 [some (Sum.inr x), v1, v2, v3, v4] (st) M = eb_E L d 53 8 [some (Sum.inr x), v1, v2, v3, v4] (Sum.inr x :: st) M := eb_E_s hk53 rfl
theorem e53_8  : eb_E L d 53 8 ls (Sum.inr (some a) :: st) (nc, ns, I, J, R) = if (eb_ty L a.1).1 = 4 then eb_E L d 53 11 ls (zi (I a 3) :: st) (nc, ns, I, J, R) else none := eb_E_iy hk53 rfl
theorem e53_11 {x : Int32} {y : Int32} : eb_E L d 53 11 ls (zi y :: zi x :: st) M = if x < y then eb_E L d 53 14 ls st M else eb_E L d 53 59 ls st M := eb_E_b hk53 rfl
theorem e53_14 {x : Option eb_A} : eb_E L d 53 14 [some (Sum.inr x), v1, v2, v3, v4] (st) M = eb_E L d 53 15 [some (Sum.inr x), v1, v2, v3, v4] (Sum.inr x :: st) M := eb_E_s hk53 rfl
theorem e53_15  : eb_E L d 53 15 ls (Sum.inr (some a) :: st) (nc, ns, I, J, R) = if (eb_ty L a.1).1 = 4 then eb_E L d 53 18 ls (Sum.inr (R a 1) :: st) (nc, ns, I, J, R) else none := eb_E_iy hk53 rfl
theorem e53_18 {x : Int32} : eb_E L d 53 18 [v0, v1, v2, v3, some (zi x)] (st) M = eb_E L d 53 20 [v0, v1, v2, v3, some (zi x)] (zi x :: st) M := eb_E_s hk53 rfl
theorem e53_20 {x : Int32} : eb_E L d 53 20 ls (zi x :: Sum.inr (some a) :: st) (nc, ns, I, J, R) = if (12 ≤ (eb_ty L a.1).1 ∧ (eb_ty L a.1).1 ≤ 16) ∧ eb_in x (eb_ty L a.1).2 = true then eb_E L d 53 21 ls (Sum.inr (R a x.toNatClampNeg) :: st) (nc, ns, I, J, R) else none := eb_E_iy hk53 rfl
theorem e53_21  : eb_E L d 53 21 ls ([a0]) M = (eb_ev L d 5 [a0] M).bind (fun q => eb_E L d 53 24 ls [q.1] q.2) := eb_E_c hk53 rfl
theorem e53_24 {x : Int32} : eb_E L d 53 24 [v0, some (zi x), v2, v3, v4] (st) M = eb_E L d 53 25 [v0, some (zi x), v2, v3, v4] (zi x :: st) M := eb_E_s hk53 rfl
theorem e53_25 {x : Int32} {y : Int32} : eb_E L d 53 25 ls (zi y :: zi x :: st) M = if x = y then eb_E L d 53 28 ls st M else eb_E L d 53 53 ls st M := eb_E_b hk53 rfl
theorem e53_28 {x : Int32} : eb_E L d 53 28 [v0, v1, v2, some (zi x), v4] (st) M = eb_E L d 53 29 [v0, v1, v2, some (zi x), v4] (zi x :: st) M := eb_E_s hk53 rfl
theorem e53_29  : eb_E L d 53 29 ls (st) M = eb_E L d 53 30 ls (zi 0 :: st) M := eb_E_s hk53 rfl
theorem e53_30  : eb_E L d 53 30 ls (st) M = eb_E L d 53 31 ls (zi 5 :: st) M := eb_E_s hk53 rfl
theorem e53_31  : eb_E L d 53 31 ls ([a2, a1, a0]) M = (eb_ev L d 127 [a0, a1, a2] M).bind (fun q => eb_E L d 53 34 ls [q.1] q.2) := eb_E_c hk53 rfl
theorem e53_34 {x : Int32} : eb_E L d 53 34 ls (zi x :: st) M = if x = 0 then eb_E L d 53 53 ls st M else eb_E L d 53 37 ls st M := eb_E_b hk53 rfl
theorem e53_37 {x : Option eb_A} : eb_E L d 53 37 [some (Sum.inr x), v1, v2, v3, v4] (st) M = eb_E L d 53 38 [some (Sum.inr x), v1, v2, v3, v4] (Sum.inr x :: st) M := eb_E_s hk53 rfl
theorem e53_38  : eb_E L d 53 38 ls (Sum.inr (some a) :: st) (nc, ns, I, J, R) = if (eb_ty L a.1).1 = 4 then eb_E L d 53 41 ls (Sum.inr (R a 8) :: st) (nc, ns, I, J, R) else none := eb_E_iy hk53 rfl
theorem e53_41 {x : Int32} : eb_E L d 53 41 [v0, v1, v2, some (zi x), v4] (st) M = eb_E L d 53 42 [v0, v1, v2, some (zi x), v4] (zi x :: st) M := eb_E_s hk53 rfl
theorem e53_42 {x : Option eb_A} : eb_E L d 53 42 [some (Sum.inr x), v1, v2, v3, v4] (st) M = eb_E L d 53 43 [some (Sum.inr x), v1, v2, v3, v4] (Sum.inr x :: st) M := eb_E_s hk53 rfl
theorem e53_43  : eb_E L d 53 43 ls (Sum.inr (some a) :: st) (nc, ns, I, J, R) = if (eb_ty L a.1).1 = 4 then eb_E L d 53 46 ls (Sum.inr (R a 1) :: st) (nc, ns, I, J, R) else none := eb_E_iy hk53 rfl
theorem e53_46 {x : Int32} : eb_E L d 53 46 [v0, v1, v2, v3, some (zi x)] (st) M = eb_E L d 53 48 [v0, v1, v2, v3, some (zi x)] (zi x :: st) M := eb_E_s hk53 rfl
theorem e53_48 {x : Int32} : eb_E L d 53 48 ls (zi x :: Sum.inr (some a) :: st) (nc, ns, I, J, R) = if (12 ≤ (eb_ty L a.1).1 ∧ (eb_ty L a.1).1 ≤ 16) ∧ eb_in x (eb_ty L a.1).2 = true then eb_E L d 53 49 ls (Sum.inr (R a x.toNatClampNeg) :: st) (nc, ns, I, J, R) else none := eb_E_iy hk53 rfl
theorem e53_49 {x : Int32} : eb_E L d 53 49 ls (Sum.inr (some b) :: zi x :: Sum.inr (some a) :: st) (nc, ns, I, J, R) = if (eb_ty L b.1).1 = eb_el (eb_ty L a.1).1 ∧ eb_in x (eb_ty L a.1).2 = true then eb_E L d 53 50 ls (st) (nc, ns, I, J, eb_u R a x.toNatClampNeg (some b)) else none := eb_E_iy hk53 rfl
theorem e53_50 {x : Int32} : eb_E L d 53 50 [v0, v1, v2, some (zi x), v4] (st) M = eb_E L d 53 53 [v0, v1, v2, some (zi (x + 1)), v4] (st) M := eb_E_s hk53 rfl
theorem e53_53 {x : Int32} : eb_E L d 53 53 [v0, v1, v2, v3, some (zi x)] (st) M = eb_E L d 53 56 [v0, v1, v2, v3, some (zi (x + 1))] (st) M := eb_E_s hk53 rfl
theorem e53_56  : eb_E L d 53 56 ls (st) M = eb_E L d 53 5 ls (st) M := eb_E_s hk53 rfl
theorem e53_59  : eb_E L d 53 59 ls ([]) M = some (zn, M) := eb_E_r hk53 rfl
/-! X4_lateOnes -/
theorem hk54 : eb_cd L 54 = eb_look (kt54 L) := rfl
theorem h54 (ha : (eb_ty L a.1).1 = 4) : eb_ev L (d + 1) 54 [zr a] M = eb_E L d 54 0 [some (zr a), none, none] [] M := eb_ev_s rfl (eb_chk_i ha rfl)
theorem e54_0  : eb_E L d 54 0 ls (st) M = eb_E L d 54 1 ls (zi 0 :: st) M := eb_E_s hk54 rfl
theorem e54_1 {x : Int32} : eb_E L d 54 1 [v0, v1, v2] (zi x :: st) M = eb_E L d 54 2 [v0, some (zi x), v2] (st) M := eb_E_s hk54 rfl
theorem e54_2  : eb_E L d 54 2 ls (st) M = eb_E L d 54 3 ls (zi 0 :: st) M := eb_E_s hk54 rfl
theorem e54_3 {x : Int32} : eb_E L d 54 3 [v0, v1, v2] (zi x :: st) M = eb_E L d 54 4 [v0, v1, some (zi x)] (st) M := eb_E_s hk54 rfl
theorem e54_4 {x : Int32} : eb_E L d 54 4 [v0, v1, some (zi x)] (st) M = eb_E L d 54 5 [v0, v1, some (zi x)] (zi x :: st) M := eb_E_s hk54 rfl
theorem e54_5 {x : Option eb_A} : eb_E L d 54 5 [some (Sum.inr x), v1, v2] (st) M = eb_E L d 54 6 [some (Sum.inr x), v1, v2] (Sum.inr x :: st) M := eb_E_s hk54 rfl
theorem e54_6  : eb_E L d 54 6 ls (Sum.inr (some a) :: st) (nc, ns, I, J, R) = if (eb_ty L a.1).1 = 4 then eb_E L d 54 9 ls (zi (I a 3) :: st) (nc, ns, I, J, R) else none := eb_E_iy hk54 rfl
theorem e54_9 {x : Int32} {y : Int32} : eb_E L d 54 9 ls (zi y :: zi x :: st) M = if x < y then eb_E L d 54 12 ls st M else eb_E L d 54 38 ls st M := eb_E_b hk54 rfl
theorem e54_12 {x : Int32} : eb_E L d 54 12 [v0, some (zi x), v2] (st) M = eb_E L d 54 13 [v0, some (zi x), v2] (zi x :: st) M := eb_E_s hk54 rfl
theorem e54_13 {x : Option eb_A} : eb_E L d 54 13 [some (Sum.inr x), v1, v2] (st) M = eb_E L d 54 14 [some (Sum.inr x), v1, v2] (Sum.inr x :: st) M := eb_E_s hk54 rfl
theorem e54_14  : eb_E L d 54 14 ls (Sum.inr (some a) :: st) (nc, ns, I, J, R) = if (eb_ty L a.1).1 = 4 then eb_E L d 54 17 ls (Sum.inr (R a 1) :: st) (nc, ns, I, J, R) else none := eb_E_iy hk54 rfl
theorem e54_17 {x : Int32} : eb_E L d 54 17 [v0, v1, some (zi x)] (st) M = eb_E L d 54 18 [v0, v1, some (zi x)] (zi x :: st) M := eb_E_s hk54 rfl
theorem e54_18 {x : Int32} : eb_E L d 54 18 ls (zi x :: Sum.inr (some a) :: st) (nc, ns, I, J, R) = if (12 ≤ (eb_ty L a.1).1 ∧ (eb_ty L a.1).1 ≤ 16) ∧ eb_in x (eb_ty L a.1).2 = true then eb_E L d 54 19 ls (Sum.inr (R a x.toNatClampNeg) :: st) (nc, ns, I, J, R) else none := eb_E_iy hk54 rfl
theorem e54_19 {s0 : Int32} : eb_E L d 54 19 ls ([a0, zi s0]) M = (eb_ev L d 5 [a0] M).bind (fun q => eb_E L d 54 22 ls [q.1, zi s0] q.2) := eb_E_c hk54 rfl
theorem e54_22 {x : Int32} : eb_E L d 54 22 ls (zi x :: st) M = if x = 0 then eb_E L d 54 29 ls st M else eb_E L d 54 25 ls st M := eb_E_b hk54 rfl
theorem e54_25  : eb_E L d 54 25 ls (st) M = eb_E L d 54 26 ls (zi 1 :: st) M := eb_E_s hk54 rfl
theorem e54_26  : eb_E L d 54 26 ls (st) M = eb_E L d 54 30 ls (st) M := eb_E_s hk54 rfl
theorem e54_29  : eb_E L d 54 29 ls (st) M = eb_E L d 54 30 ls (zi 0 :: st) M := eb_E_s hk54 rfl
theorem e54_30 {x : Int32} {y : Int32} : eb_E L d 54 30 ls (zi y :: zi x :: st) M = eb_E L d 54 31 ls (zi (x + y) :: st) M := eb_E_s hk54 rfl
theorem e54_31 {x : Int32} : eb_E L d 54 31 [v0, v1, v2] (zi x :: st) M = eb_E L d 54 32 [v0, some (zi x), v2] (st) M := eb_E_s hk54 rfl
theorem e54_32 {x : Int32} : eb_E L d 54 32 [v0, v1, some (zi x)] (st) M = eb_E L d 54 35 [v0, v1, some (zi (x + 1))] (st) M := eb_E_s hk54 rfl
theorem e54_35  : eb_E L d 54 35 ls (st) M = eb_E L d 54 4 ls (st) M := eb_E_s hk54 rfl
theorem e54_38 {x : Int32} : eb_E L d 54 38 [v0, some (zi x), v2] (st) M = eb_E L d 54 39 [v0, some (zi x), v2] (zi x :: st) M := eb_E_s hk54 rfl
theorem e54_39 {x : Int32} : eb_E L d 54 39 ls ([zi x]) M = some (zi x, M) := eb_E_r hk54 rfl
/-! X4_lodge -/
theorem hk55 : eb_cd L 55 = eb_look (kt55 L) := rfl
theorem h55 (ha : (eb_ty L a.1).1 = 4) {r1 : Option eb_A} {x2 : Int32} : eb_ev L (d + 1) 55 [zr a, Sum.inr r1, zi x2] M = eb_E L d 55 0 [some (zr a), some (Sum.inr r1), some (zi x2), none, none, none, none] [] M := eb_ev_s rfl (eb_chk_i ha rfl)
theorem e55_0  : eb_E L d 55 0 ls (st) M = eb_E L d 55 1 ls (zi 0 :: st) M := eb_E_s hk55 rfl
theorem e55_1 {x : Int32} : eb_E L d 55 1 [v0, v1, v2, v3, v4, v5, v6] (zi x :: st) M = eb_E L d 55 2 [v0, v1, v2, some (zi x), v4, v5, v6] (st) M := eb_E_s hk55 rfl
theorem e55_2 {x : Int32} : eb_E L d 55 2 [v0, v1, v2, some (zi x), v4, v5, v6] (st) M = eb_E L d 55 3 [v0, v1, v2, some (zi x), v4, v5, v6] (zi x :: st) M := eb_E_s hk55 rfl
theorem e55_3 {x : Option eb_A} : eb_E L d 55 3 [some (Sum.inr x), v1, v2, v3, v4, v5, v6] (st) M = eb_E L d 55 4 [some (Sum.inr x), v1, v2, v3, v4, v5, v6] (Sum.inr x :: st) M := eb_E_s hk55 rfl
theorem e55_4  : eb_E L d 55 4 ls (Sum.inr (some a) :: st) (nc, ns, I, J, R) = if (eb_ty L a.1).1 = 4 then eb_E L d 55 7 ls (zi (I a 2) :: st) (nc, ns, I, J, R) else none := eb_E_iy hk55 rfl
theorem e55_7 {x : Int32} {y : Int32} : eb_E L d 55 7 ls (zi y :: zi x :: st) M = if x < y then eb_E L d 55 10 ls st M else eb_E L d 55 33 ls st M := eb_E_b hk55 rfl
theorem e55_10 {x : Option eb_A} : eb_E L d 55 10 [some (Sum.inr x), v1, v2, v3, v4, v5, v6] (st) M = eb_E L d 55 11 [some (Sum.inr x), v1, v2, v3, v4, v5, v6] (Sum.inr x :: st) M := eb_E_s hk55 rfl
theorem e55_11  : eb_E L d 55 11 ls (Sum.inr (some a) :: st) (nc, ns, I, J, R) = if (eb_ty L a.1).1 = 4 then eb_E L d 55 14 ls (Sum.inr (R a 7) :: st) (nc, ns, I, J, R) else none := eb_E_iy hk55 rfl
theorem e55_14 {x : Int32} : eb_E L d 55 14 [v0, v1, v2, some (zi x), v4, v5, v6] (st) M = eb_E L d 55 15 [v0, v1, v2, some (zi x), v4, v5, v6] (zi x :: st) M := eb_E_s hk55 rfl
theorem e55_15 {x : Option eb_A} : eb_E L d 55 15 [some (Sum.inr x), v1, v2, v3, v4, v5, v6] (st) M = eb_E L d 55 16 [some (Sum.inr x), v1, v2, v3, v4, v5, v6] (Sum.inr x :: st) M := eb_E_s hk55 rfl
theorem e55_16 {x : Option eb_A} : eb_E L d 55 16 [v0, some (Sum.inr x), v2, v3, v4, v5, v6] (st) M = eb_E L d 55 17 [v0, some (Sum.inr x), v2, v3, v4, v5, v6] (Sum.inr x :: st) M := eb_E_s hk55 rfl
theorem e55_17 {x : Option eb_A} : eb_E L d 55 17 [some (Sum.inr x), v1, v2, v3, v4, v5, v6] (st) M = eb_E L d 55 18 [some (Sum.inr x), v1, v2, v3, v4, v5, v6] (Sum.inr x :: st) M := eb_E_s hk55 rfl
theorem e55_18  : eb_E L d 55 18 ls (Sum.inr (some a) :: st) (nc, ns, I, J, R) = if (eb_ty L a.1).1 = 4 then eb_E L d 55 21 ls (Sum.inr (R a 0) :: st) (nc, ns, I, J, R) else none := eb_E_iy hk55 rfl
theorem e55_21 {x : Int32} : eb_E L d 55 21 [v0, v1, v2, some (zi x), v4, v5, v6] (st) M = eb_E L d 55 22 [v0, v1, v2, some (zi x), v4, v5, v6] (zi x :: st) M := eb_E_s hk55 rfl
theorem e55_22 {x : Int32} : eb_E L d 55 22 ls (zi x :: Sum.inr (some a) :: st) (nc, ns, I, J, R) = if (12 ≤ (eb_ty L a.1).1 ∧ (eb_ty L a.1).1 ≤ 16) ∧ eb_in x (eb_ty L a.1).2 = true then eb_E L d 55 23 ls (Sum.inr (R a x.toNatClampNeg) :: st) (nc, ns, I, J, R) else none := eb_E_iy hk55 rfl
theorem e55_23 {s0 : Int32} {s1 : Option eb_A} : eb_E L d 55 23 ls ([a2, a1, a0, zi s0, Sum.inr s1]) M = (eb_ev L d 47 [a0, a1, a2] M).bind (fun q => eb_E L d 55 26 ls [q.1, zi s0, Sum.inr s1] q.2) := eb_E_c hk55 rfl
theorem e55_26 {x : Int32} {v : Int32} : eb_E L d 55 26 ls (zi v :: zi x :: Sum.inr (some a) :: st) (nc, ns, I, J, R) = if (eb_ty L a.1).1 = 10 ∧ eb_in x (eb_ty L a.1).2 = true then eb_E L d 55 27 ls (st) (nc, ns, eb_u I a x.toNatClampNeg v, J, R) else none := eb_E_iy hk55 rfl
theorem e55_27 {x : Int32} : eb_E L d 55 27 [v0, v1, v2, some (zi x), v4, v5, v6] (st) M = eb_E L d 55 30 [v0, v1, v2, some (zi (x + 1)), v4, v5, v6] (st) M := eb_E_s hk55 rfl
theorem e55_30  : eb_E L d 55 30 ls (st) M = eb_E L d 55 2 ls (st) M := eb_E_s hk55 rfl
theorem e55_33 {x : Int32} : eb_E L d 55 33 [v0, v1, some (zi x), v3, v4, v5, v6] (st) M = eb_E L d 55 34 [v0, v1, some (zi x), v3, v4, v5, v6] (zi x :: st) M := eb_E_s hk55 rfl
theorem e55_34 {x : Int32} : eb_E L d 55 34 [v0, v1, v2, v3, v4, v5, v6] (zi x :: st) M = eb_E L d 55 35 [v0, v1, v2, some (zi x), v4, v5, v6] (st) M := eb_E_s hk55 rfl
theorem e55_35  : eb_E L d 55 35 ls (st) M = eb_E L d 55 36 ls (zi 0 :: st) M := eb_E_s hk55 rfl
theorem e55_36 {x : Int32} : eb_E L d 55 36 [v0, v1, v2, v3, v4, v5, v6] (zi x :: st) M = eb_E L d 55 38 [v0, v1, v2, v3, some (zi x), v5, v6] (st) M := eb_E_s hk55 rfl
theorem e55_38 {x : Int32} : eb_E L d 55 38 [v0, v1, v2, v3, some (zi x), v5, v6] (st) M = eb_E L d 55 40 [v0, v1, v2, v3, some (zi x), v5, v6] (zi x :: st) M := eb_E_s hk55 rfl
theorem e55_40 {x : Option eb_A} : eb_E L d 55 40 [some (Sum.inr x), v1, v2, v3, v4, v5, v6] (st) M = eb_E L d 55 41 [some (Sum.inr x), v1, v2, v3, v4, v5, v6] (Sum.inr x :: st) M := eb_E_s hk55 rfl
theorem e55_41  : eb_E L d 55 41 ls (Sum.inr (some a) :: st) (nc, ns, I, J, R) = if (eb_ty L a.1).1 = 4 then eb_E L d 55 44 ls (zi (I a 2) :: st) (nc, ns, I, J, R) else none := eb_E_iy hk55 rfl
theorem e55_44 {x : Int32} {y : Int32} : eb_E L d 55 44 ls (zi y :: zi x :: st) M = if x < y then eb_E L d 55 47 ls st M else eb_E L d 55 133 ls st M := eb_E_b hk55 rfl
theorem e55_47 {x : Int32} : eb_E L d 55 47 [v0, v1, v2, some (zi x), v4, v5, v6] (st) M = eb_E L d 55 48 [v0, v1, v2, some (zi x), v4, v5, v6] (zi x :: st) M := eb_E_s hk55 rfl
theorem e55_48 {x : Int32} : eb_E L d 55 48 ls (zi x :: st) M = if 0 < x then eb_E L d 55 51 ls st M else eb_E L d 55 133 ls st M := eb_E_b hk55 rfl
theorem e55_51 {x : Option eb_A} : eb_E L d 55 51 [some (Sum.inr x), v1, v2, v3, v4, v5, v6] (st) M = eb_E L d 55 52 [some (Sum.inr x), v1, v2, v3, v4, v5, v6] (Sum.inr x :: st) M := eb_E_s hk55 rfl
theorem e55_52  : eb_E L d 55 52 ls ([a0]) M = (eb_ev L d 56 [a0] M).bind (fun q => eb_E L d 55 55 ls [q.1] q.2) := eb_E_c hk55 rfl
theorem e55_55 {x : Int32} : eb_E L d 55 55 [v0, v1, v2, v3, v4, v5, v6] (zi x :: st) M = eb_E L d 55 57 [v0, v1, v2, v3, v4, some (zi x), v6] (st) M := eb_E_s hk55 rfl
theorem e55_57 {x : Int32} : eb_E L d 55 57 [v0, v1, v2, v3, v4, some (zi x), v6] (st) M = eb_E L d 55 59 [v0, v1, v2, v3, v4, some (zi x), v6] (zi x :: st) M := eb_E_s hk55 rfl
theorem e55_59  : eb_E L d 55 59 ls (st) M = eb_E L d 55 60 ls (zi (-1) :: st) M := eb_E_s hk55 rfl
theorem e55_60 {x : Int32} {y : Int32} : eb_E L d 55 60 ls (zi y :: zi x :: st) M = if x = y then eb_E L d 55 63 ls st M else eb_E L d 55 66 ls st M := eb_E_b hk55 rfl
theorem e55_63  : eb_E L d 55 63 ls (st) M = eb_E L d 55 133 ls (st) M := eb_E_s hk55 rfl
theorem e55_66 {x : Int32} : eb_E L d 55 66 [v0, v1, v2, some (zi x), v4, v5, v6] (st) M = eb_E L d 55 67 [v0, v1, v2, some (zi x), v4, v5, v6] (zi x :: st) M := eb_E_s hk55 rfl
theorem e55_67 {x : Option eb_A} : eb_E L d 55 67 [some (Sum.inr x), v1, v2, v3, v4, v5, v6] (st) M = eb_E L d 55 68 [some (Sum.inr x), v1, v2, v3, v4, v5, v6] (Sum.inr x :: st) M := eb_E_s hk55 rfl
theorem e55_68  : eb_E L d 55 68 ls (Sum.inr (some a) :: st) (nc, ns, I, J, R) = if (eb_ty L a.1).1 = 4 then eb_E L d 55 71 ls (Sum.inr (R a 0) :: st) (nc, ns, I, J, R) else none := eb_E_iy hk55 rfl
theorem e55_71 {x : Int32} : eb_E L d 55 71 [v0, v1, v2, v3, v4, some (zi x), v6] (st) M = eb_E L d 55 73 [v0, v1, v2, v3, v4, some (zi x), v6] (zi x :: st) M := eb_E_s hk55 rfl
theorem e55_73 {x : Int32} : eb_E L d 55 73 ls (zi x :: Sum.inr (some a) :: st) (nc, ns, I, J, R) = if (12 ≤ (eb_ty L a.1).1 ∧ (eb_ty L a.1).1 ≤ 16) ∧ eb_in x (eb_ty L a.1).2 = true then eb_E L d 55 74 ls (Sum.inr (R a x.toNatClampNeg) :: st) (nc, ns, I, J, R) else none := eb_E_iy hk55 rfl
theorem e55_74  : eb_E L d 55 74 ls (Sum.inr (some a) :: st) (nc, ns, I, J, R) = if (eb_ty L a.1).1 = 1 then eb_E L d 55 77 ls (zi (I a 2) :: st) (nc, ns, I, J, R) else none := eb_E_iy hk55 rfl
theorem e55_77 {x : Option eb_A} : eb_E L d 55 77 [some (Sum.inr x), v1, v2, v3, v4, v5, v6] (st) M = eb_E L d 55 78 [some (Sum.inr x), v1, v2, v3, v4, v5, v6] (Sum.inr x :: st) M := eb_E_s hk55 rfl
theorem e55_78  : eb_E L d 55 78 ls (Sum.inr (some a) :: st) (nc, ns, I, J, R) = if (eb_ty L a.1).1 = 4 then eb_E L d 55 81 ls (Sum.inr (R a 0) :: st) (nc, ns, I, J, R) else none := eb_E_iy hk55 rfl
theorem e55_81 {x : Int32} : eb_E L d 55 81 [v0, v1, v2, v3, v4, some (zi x), v6] (st) M = eb_E L d 55 83 [v0, v1, v2, v3, v4, some (zi x), v6] (zi x :: st) M := eb_E_s hk55 rfl
theorem e55_83 {x : Int32} : eb_E L d 55 83 ls (zi x :: Sum.inr (some a) :: st) (nc, ns, I, J, R) = if (12 ≤ (eb_ty L a.1).1 ∧ (eb_ty L a.1).1 ≤ 16) ∧ eb_in x (eb_ty L a.1).2 = true then eb_E L d 55 84 ls (Sum.inr (R a x.toNatClampNeg) :: st) (nc, ns, I, J, R) else none := eb_E_iy hk55 rfl
theorem e55_84  : eb_E L d 55 84 ls (Sum.inr (some a) :: st) (nc, ns, I, J, R) = if (eb_ty L a.1).1 = 1 then eb_E L d 55 87 ls (zi (I a 7) :: st) (nc, ns, I, J, R) else none := eb_E_iy hk55 rfl
theorem e55_87 {x : Int32} {y : Int32} : eb_E L d 55 87 ls (zi y :: zi x :: st) M = eb_E L d 55 88 ls (zi (x - y) :: st) M := eb_E_s hk55 rfl
theorem e55_88  : eb_E L d 55 88 ls ([a1, a0]) M = (eb_ev L d 901 [a0, a1] M).bind (fun q => eb_E L d 55 91 ls [q.1] q.2) := eb_E_c hk55 rfl
theorem e55_91 {x : Int32} : eb_E L d 55 91 [v0, v1, v2, v3, v4, v5, v6] (zi x :: st) M = eb_E L d 55 93 [v0, v1, v2, v3, v4, v5, some (zi x)] (st) M := eb_E_s hk55 rfl
theorem e55_93 {x : Option eb_A} : eb_E L d 55 93 [some (Sum.inr x), v1, v2, v3, v4, v5, v6] (st) M = eb_E L d 55 94 [some (Sum.inr x), v1, v2, v3, v4, v5, v6] (Sum.inr x :: st) M := eb_E_s hk55 rfl
theorem e55_94  : eb_E L d 55 94 ls (Sum.inr (some a) :: st) (nc, ns, I, J, R) = if (eb_ty L a.1).1 = 4 then eb_E L d 55 97 ls (Sum.inr (R a 0) :: st) (nc, ns, I, J, R) else none := eb_E_iy hk55 rfl
theorem e55_97 {x : Int32} : eb_E L d 55 97 [v0, v1, v2, v3, v4, some (zi x), v6] (st) M = eb_E L d 55 99 [v0, v1, v2, v3, v4, some (zi x), v6] (zi x :: st) M := eb_E_s hk55 rfl
theorem e55_99 {x : Int32} : eb_E L d 55 99 ls (zi x :: Sum.inr (some a) :: st) (nc, ns, I, J, R) = if (12 ≤ (eb_ty L a.1).1 ∧ (eb_ty L a.1).1 ≤ 16) ∧ eb_in x (eb_ty L a.1).2 = true then eb_E L d 55 100 ls (Sum.inr (R a x.toNatClampNeg) :: st) (nc, ns, I, J, R) else none := eb_E_iy hk55 rfl
theorem e55_100a {x : Int32} : eb_E L d 55 100 ls (zi x :: st) M = eb_E L d 55 101 ls (zi x :: zi x :: st) M := eb_E_s hk55 rfl
theorem e55_100b {x : Option eb_A} : eb_E L d 55 100 ls (Sum.inr x :: st) M = eb_E L d 55 101 ls (Sum.inr x :: Sum.inr x :: st) M := eb_E_s hk55 rfl
theorem e55_101  : eb_E L d 55 101 ls (Sum.inr (some a) :: st) (nc, ns, I, J, R) = if (eb_ty L a.1).1 = 1 then eb_E L d 55 104 ls (zi (I a 7) :: st) (nc, ns, I, J, R) else none := eb_E_iy hk55 rfl
theorem e55_104 {x : Int32} : eb_E L d 55 104 [v0, v1, v2, v3, v4, v5, some (zi x)] (st) M = eb_E L d 55 106 [v0, v1, v2, v3, v4, v5, some (zi x)] (zi x :: st) M := eb_E_s hk55 rfl
theorem e55_106 {x : Int32} {y : Int32} : eb_E L d 55 106 ls (zi y :: zi x :: st) M = eb_E L d 55 107 ls (zi (x + y) :: st) M := eb_E_s hk55 rfl
theorem e55_107 {x : Int32} : eb_E L d 55 107 ls (zi x :: Sum.inr (some a) :: st) (nc, ns, I, J, R) = if (eb_ty L a.1).1 = 1 then eb_E L d 55 110 ls (st) (nc, ns, eb_u I a 7 x, J, R) else none := eb_E_iy hk55 rfl
theorem e55_110 {x : Option eb_A} : eb_E L d 55 110 [v0, some (Sum.inr x), v2, v3, v4, v5, v6] (st) M = eb_E L d 55 111 [v0, some (Sum.inr x), v2, v3, v4, v5, v6] (Sum.inr x :: st) M := eb_E_s hk55 rfl
theorem e55_111  : eb_E L d 55 111 ls (Sum.inr (some a) :: st) (nc, ns, I, J, R) = if (eb_ty L a.1).1 = 0 then eb_E L d 55 114 ls (Sum.inr (R a 3) :: st) (nc, ns, I, J, R) else none := eb_E_iy hk55 rfl
theorem e55_114 {x : Int32} : eb_E L d 55 114 [v0, v1, v2, v3, v4, some (zi x), v6] (st) M = eb_E L d 55 116 [v0, v1, v2, v3, v4, some (zi x), v6] (zi x :: st) M := eb_E_s hk55 rfl
theorem e55_116 {x : Option eb_A} {y : Int32} : eb_E L d 55 116 ls (zi y :: Sum.inr x :: st) M = eb_E L d 55 117 ls (zi y :: Sum.inr x :: zi y :: Sum.inr x :: st) M := eb_E_s hk55 rfl
theorem e55_117 {x : Int32} : eb_E L d 55 117 ls (zi x :: Sum.inr (some a) :: st) (nc, ns, I, J, R) = if (eb_ty L a.1).1 = 10 ∧ eb_in x (eb_ty L a.1).2 = true then eb_E L d 55 118 ls (zi (I a x.toNatClampNeg) :: st) (nc, ns, I, J, R) else none := eb_E_iy hk55 rfl
theorem e55_118 {x : Int32} : eb_E L d 55 118 [v0, v1, v2, v3, v4, v5, some (zi x)] (st) M = eb_E L d 55 120 [v0, v1, v2, v3, v4, v5, some (zi x)] (zi x :: st) M := eb_E_s hk55 rfl
theorem e55_120 {x : Int32} {y : Int32} : eb_E L d 55 120 ls (zi y :: zi x :: st) M = eb_E L d 55 121 ls (zi (x + y) :: st) M := eb_E_s hk55 rfl
theorem e55_121 {x : Int32} {v : Int32} : eb_E L d 55 121 ls (zi v :: zi x :: Sum.inr (some a) :: st) (nc, ns, I, J, R) = if (eb_ty L a.1).1 = 10 ∧ eb_in x (eb_ty L a.1).2 = true then eb_E L d 55 122 ls (st) (nc, ns, eb_u I a x.toNatClampNeg v, J, R) else none := eb_E_iy hk55 rfl
theorem e55_122 {x : Int32} : eb_E L d 55 122 [v0, v1, v2, some (zi x), v4, v5, v6] (st) M = eb_E L d 55 123 [v0, v1, v2, some (zi x), v4, v5, v6] (zi x :: st) M := eb_E_s hk55 rfl
theorem e55_123 {x : Int32} : eb_E L d 55 123 [v0, v1, v2, v3, v4, v5, some (zi x)] (st) M = eb_E L d 55 125 [v0, v1, v2, v3, v4, v5, some (zi x)] (zi x :: st) M := eb_E_s hk55 rfl
theorem e55_125 {x : Int32} {y : Int32} : eb_E L d 55 125 ls (zi y :: zi x :: st) M = eb_E L d 55 126 ls (zi (x - y) :: st) M := eb_E_s hk55 rfl
theorem e55_126 {x : Int32} : eb_E L d 55 126 [v0, v1, v2, v3, v4, v5, v6] (zi x :: st) M = eb_E L d 55 127 [v0, v1, v2, some (zi x), v4, v5, v6] (st) M := eb_E_s hk55 rfl
theorem e55_127 {x : Int32} : eb_E L d 55 127 [v0, v1, v2, v3, some (zi x), v5, v6] (st) M = eb_E L d 55 130 [v0, v1, v2, v3, some (zi (x + 1)), v5, v6] (st) M := eb_E_s hk55 rfl
theorem e55_130  : eb_E L d 55 130 ls (st) M = eb_E L d 55 38 ls (st) M := eb_E_s hk55 rfl
theorem e55_133 {x : Option eb_A} : eb_E L d 55 133 [v0, some (Sum.inr x), v2, v3, v4, v5, v6] (st) M = eb_E L d 55 134 [v0, some (Sum.inr x), v2, v3, v4, v5, v6] (Sum.inr x :: st) M := eb_E_s hk55 rfl
theorem e55_134a {x : Int32} : eb_E L d 55 134 ls (zi x :: st) M = eb_E L d 55 135 ls (zi x :: zi x :: st) M := eb_E_s hk55 rfl
theorem e55_134b {x : Option eb_A} : eb_E L d 55 134 ls (Sum.inr x :: st) M = eb_E L d 55 135 ls (Sum.inr x :: Sum.inr x :: st) M := eb_E_s hk55 rfl
theorem e55_135  : eb_E L d 55 135 ls (Sum.inr (some a) :: st) (nc, ns, I, J, R) = if (eb_ty L a.1).1 = 0 then eb_E L d 55 138 ls (zi (I a 4) :: st) (nc, ns, I, J, R) else none := eb_E_iy hk55 rfl
theorem e55_138 {x : Int32} : eb_E L d 55 138 [v0, v1, v2, some (zi x), v4, v5, v6] (st) M = eb_E L d 55 139 [v0, v1, v2, some (zi x), v4, v5, v6] (zi x :: st) M := eb_E_s hk55 rfl
theorem e55_139 {x : Int32} {y : Int32} : eb_E L d 55 139 ls (zi y :: zi x :: st) M = eb_E L d 55 140 ls (zi (x + y) :: st) M := eb_E_s hk55 rfl
theorem e55_140 {x : Int32} : eb_E L d 55 140 ls (zi x :: Sum.inr (some a) :: st) (nc, ns, I, J, R) = if (eb_ty L a.1).1 = 0 then eb_E L d 55 143 ls (st) (nc, ns, eb_u I a 4 x, J, R) else none := eb_E_iy hk55 rfl
theorem e55_143  : eb_E L d 55 143 ls ([]) M = some (zn, M) := eb_E_r hk55 rfl
/-! X4_bestWithRooms -/
theorem hk56 : eb_cd L 56 = eb_look (kt56 L) := rfl
theorem h56 (ha : (eb_ty L a.1).1 = 4) : eb_ev L (d + 1) 56 [zr a] M = eb_E L d 56 0 [some (zr a), none, none] [] M := eb_ev_s rfl (eb_chk_i ha rfl)
theorem e56_0  : eb_E L d 56 0 ls (st) M = eb_E L d 56 1 ls (zi (-1) :: st) M := eb_E_s hk56 rfl
theorem e56_1 {x : Int32} : eb_E L d 56 1 [v0, v1, v2] (zi x :: st) M = eb_E L d 56 2 [v0, some (zi x), v2] (st) M := eb_E_s hk56 rfl
theorem e56_2  : eb_E L d 56 2 ls (st) M = eb_E L d 56 3 ls (zi 0 :: st) M := eb_E_s hk56 rfl
theorem e56_3 {x : Int32} : eb_E L d 56 3 [v0, v1, v2] (zi x :: st) M = eb_E L d 56 4 [v0, v1, some (zi x)] (st) M := eb_E_s hk56 rfl
theorem e56_4 {x : Int32} : eb_E L d 56 4 [v0, v1, some (zi x)] (st) M = eb_E L d 56 5 [v0, v1, some (zi x)] (zi x :: st) M := eb_E_s hk56 rfl
theorem e56_5 {x : Option eb_A} : eb_E L d 56 5 [some (Sum.inr x), v1, v2] (st) M = eb_E L d 56 6 [some (Sum.inr x), v1, v2] (Sum.inr x :: st) M := eb_E_s hk56 rfl
theorem e56_6  : eb_E L d 56 6 ls (Sum.inr (some a) :: st) (nc, ns, I, J, R) = if (eb_ty L a.1).1 = 4 then eb_E L d 56 9 ls (zi (I a 2) :: st) (nc, ns, I, J, R) else none := eb_E_iy hk56 rfl
theorem e56_9 {x : Int32} {y : Int32} : eb_E L d 56 9 ls (zi y :: zi x :: st) M = if x < y then eb_E L d 56 12 ls st M else eb_E L d 56 52 ls st M := eb_E_b hk56 rfl
theorem e56_12 {x : Option eb_A} : eb_E L d 56 12 [some (Sum.inr x), v1, v2] (st) M = eb_E L d 56 13 [some (Sum.inr x), v1, v2] (Sum.inr x :: st) M := eb_E_s hk56 rfl
theorem e56_13  : eb_E L d 56 13 ls (Sum.inr (some a) :: st) (nc, ns, I, J, R) = if (eb_ty L a.1).1 = 4 then eb_E L d 56 16 ls (Sum.inr (R a 0) :: st) (nc, ns, I, J, R) else none := eb_E_iy hk56 rfl
theorem e56_16 {x : Int32} : eb_E L d 56 16 [v0, v1, some (zi x)] (st) M = eb_E L d 56 17 [v0, v1, some (zi x)] (zi x :: st) M := eb_E_s hk56 rfl
theorem e56_17 {x : Int32} : eb_E L d 56 17 ls (zi x :: Sum.inr (some a) :: st) (nc, ns, I, J, R) = if (12 ≤ (eb_ty L a.1).1 ∧ (eb_ty L a.1).1 ≤ 16) ∧ eb_in x (eb_ty L a.1).2 = true then eb_E L d 56 18 ls (Sum.inr (R a x.toNatClampNeg) :: st) (nc, ns, I, J, R) else none := eb_E_iy hk56 rfl
theorem e56_18  : eb_E L d 56 18 ls ([a0]) M = (eb_ev L d 12 [a0] M).bind (fun q => eb_E L d 56 21 ls [q.1] q.2) := eb_E_c hk56 rfl
theorem e56_21 {x : Int32} : eb_E L d 56 21 ls (zi x :: st) M = if x = 0 then eb_E L d 56 24 ls st M else eb_E L d 56 46 ls st M := eb_E_b hk56 rfl
theorem e56_24 {x : Int32} : eb_E L d 56 24 [v0, some (zi x), v2] (st) M = eb_E L d 56 25 [v0, some (zi x), v2] (zi x :: st) M := eb_E_s hk56 rfl
theorem e56_25  : eb_E L d 56 25 ls (st) M = eb_E L d 56 26 ls (zi (-1) :: st) M := eb_E_s hk56 rfl
theorem e56_26 {x : Int32} {y : Int32} : eb_E L d 56 26 ls (zi y :: zi x :: st) M = if x = y then eb_E L d 56 44 ls st M else eb_E L d 56 29 ls st M := eb_E_b hk56 rfl
theorem e56_29 {x : Option eb_A} : eb_E L d 56 29 [some (Sum.inr x), v1, v2] (st) M = eb_E L d 56 30 [some (Sum.inr x), v1, v2] (Sum.inr x :: st) M := eb_E_s hk56 rfl
theorem e56_30  : eb_E L d 56 30 ls (Sum.inr (some a) :: st) (nc, ns, I, J, R) = if (eb_ty L a.1).1 = 4 then eb_E L d 56 33 ls (Sum.inr (R a 7) :: st) (nc, ns, I, J, R) else none := eb_E_iy hk56 rfl
theorem e56_33 {x : Int32} : eb_E L d 56 33 [v0, v1, some (zi x)] (st) M = eb_E L d 56 34 [v0, v1, some (zi x)] (zi x :: st) M := eb_E_s hk56 rfl
theorem e56_34 {x : Int32} : eb_E L d 56 34 ls (zi x :: Sum.inr (some a) :: st) (nc, ns, I, J, R) = if (eb_ty L a.1).1 = 10 ∧ eb_in x (eb_ty L a.1).2 = true then eb_E L d 56 35 ls (zi (I a x.toNatClampNeg) :: st) (nc, ns, I, J, R) else none := eb_E_iy hk56 rfl
theorem e56_35 {x : Option eb_A} : eb_E L d 56 35 [some (Sum.inr x), v1, v2] (st) M = eb_E L d 56 36 [some (Sum.inr x), v1, v2] (Sum.inr x :: st) M := eb_E_s hk56 rfl
theorem e56_36  : eb_E L d 56 36 ls (Sum.inr (some a) :: st) (nc, ns, I, J, R) = if (eb_ty L a.1).1 = 4 then eb_E L d 56 39 ls (Sum.inr (R a 7) :: st) (nc, ns, I, J, R) else none := eb_E_iy hk56 rfl
theorem e56_39 {x : Int32} : eb_E L d 56 39 [v0, some (zi x), v2] (st) M = eb_E L d 56 40 [v0, some (zi x), v2] (zi x :: st) M := eb_E_s hk56 rfl
theorem e56_40 {x : Int32} : eb_E L d 56 40 ls (zi x :: Sum.inr (some a) :: st) (nc, ns, I, J, R) = if (eb_ty L a.1).1 = 10 ∧ eb_in x (eb_ty L a.1).2 = true then eb_E L d 56 41 ls (zi (I a x.toNatClampNeg) :: st) (nc, ns, I, J, R) else none := eb_E_iy hk56 rfl
theorem e56_41 {x : Int32} {y : Int32} : eb_E L d 56 41 ls (zi y :: zi x :: st) M = if y < x then eb_E L d 56 44 ls st M else eb_E L d 56 46 ls st M := eb_E_b hk56 rfl
theorem e56_44 {x : Int32} : eb_E L d 56 44 [v0, v1, some (zi x)] (st) M = eb_E L d 56 45 [v0, v1, some (zi x)] (zi x :: st) M := eb_E_s hk56 rfl
theorem e56_45 {x : Int32} : eb_E L d 56 45 [v0, v1, v2] (zi x :: st) M = eb_E L d 56 46 [v0, some (zi x), v2] (st) M := eb_E_s hk56 rfl
theorem e56_46 {x : Int32} : eb_E L d 56 46 [v0, v1, some (zi x)] (st) M = eb_E L d 56 49 [v0, v1, some (zi (x + 1))] (st) M := eb_E_s hk56 rfl
theorem e56_49  : eb_E L d 56 49 ls (st) M = eb_E L d 56 4 ls (st) M := eb_E_s hk56 rfl
theorem e56_52 {x : Int32} : eb_E L d 56 52 [v0, some (zi x), v2] (st) M = eb_E L d 56 53 [v0, some (zi x), v2] (zi x :: st) M := eb_E_s hk56 rfl
theorem e56_53 {x : Int32} : eb_E L d 56 53 ls ([zi x]) M = some (zi x, M) := eb_E_r hk56 rfl
/-! X4_fullInns -/
theorem hk57 : eb_cd L 57 = eb_look (kt57 L) := rfl
theorem h57 (ha : (eb_ty L a.1).1 = 4) : eb_ev L (d + 1) 57 [zr a] M = eb_E L d 57 0 [some (zr a), none, none] [] M := eb_ev_s rfl (eb_chk_i ha rfl)
theorem e57_0  : eb_E L d 57 0 ls (st) M = eb_E L d 57 1 ls (zi 0 :: st) M := eb_E_s hk57 rfl
theorem e57_1 {x : Int32} : eb_E L d 57 1 [v0, v1, v2] (zi x :: st) M = eb_E L d 57 2 [v0, some (zi x), v2] (st) M := eb_E_s hk57 rfl
theorem e57_2  : eb_E L d 57 2 ls (st) M = eb_E L d 57 3 ls (zi 0 :: st) M := eb_E_s hk57 rfl
theorem e57_3 {x : Int32} : eb_E L d 57 3 [v0, v1, v2] (zi x :: st) M = eb_E L d 57 4 [v0, v1, some (zi x)] (st) M := eb_E_s hk57 rfl
theorem e57_4 {x : Int32} : eb_E L d 57 4 [v0, v1, some (zi x)] (st) M = eb_E L d 57 5 [v0, v1, some (zi x)] (zi x :: st) M := eb_E_s hk57 rfl
theorem e57_5 {x : Option eb_A} : eb_E L d 57 5 [some (Sum.inr x), v1, v2] (st) M = eb_E L d 57 6 [some (Sum.inr x), v1, v2] (Sum.inr x :: st) M := eb_E_s hk57 rfl
theorem e57_6  : eb_E L d 57 6 ls (Sum.inr (some a) :: st) (nc, ns, I, J, R) = if (eb_ty L a.1).1 = 4 then eb_E L d 57 9 ls (zi (I a 2) :: st) (nc, ns, I, J, R) else none := eb_E_iy hk57 rfl
theorem e57_9 {x : Int32} {y : Int32} : eb_E L d 57 9 ls (zi y :: zi x :: st) M = if x < y then eb_E L d 57 12 ls st M else eb_E L d 57 40 ls st M := eb_E_b hk57 rfl
theorem e57_12 {x : Int32} : eb_E L d 57 12 [v0, some (zi x), v2] (st) M = eb_E L d 57 13 [v0, some (zi x), v2] (zi x :: st) M := eb_E_s hk57 rfl
theorem e57_13 {x : Option eb_A} : eb_E L d 57 13 [some (Sum.inr x), v1, v2] (st) M = eb_E L d 57 14 [some (Sum.inr x), v1, v2] (Sum.inr x :: st) M := eb_E_s hk57 rfl
theorem e57_14  : eb_E L d 57 14 ls (Sum.inr (some a) :: st) (nc, ns, I, J, R) = if (eb_ty L a.1).1 = 4 then eb_E L d 57 17 ls (Sum.inr (R a 0) :: st) (nc, ns, I, J, R) else none := eb_E_iy hk57 rfl
theorem e57_17 {x : Int32} : eb_E L d 57 17 [v0, v1, some (zi x)] (st) M = eb_E L d 57 18 [v0, v1, some (zi x)] (zi x :: st) M := eb_E_s hk57 rfl
theorem e57_18 {x : Int32} : eb_E L d 57 18 ls (zi x :: Sum.inr (some a) :: st) (nc, ns, I, J, R) = if (12 ≤ (eb_ty L a.1).1 ∧ (eb_ty L a.1).1 ≤ 16) ∧ eb_in x (eb_ty L a.1).2 = true then eb_E L d 57 19 ls (Sum.inr (R a x.toNatClampNeg) :: st) (nc, ns, I, J, R) else none := eb_E_iy hk57 rfl
theorem e57_19 {s0 : Int32} : eb_E L d 57 19 ls ([a0, zi s0]) M = (eb_ev L d 12 [a0] M).bind (fun q => eb_E L d 57 22 ls [q.1, zi s0] q.2) := eb_E_c hk57 rfl
theorem e57_22 {x : Int32} : eb_E L d 57 22 ls (zi x :: st) M = if x = 0 then eb_E L d 57 31 ls st M else eb_E L d 57 25 ls st M := eb_E_b hk57 rfl
theorem e57_25  : eb_E L d 57 25 ls (st) M = eb_E L d 57 26 ls (zi 1 :: st) M := eb_E_s hk57 rfl
theorem e57_26 {x : Int32} : eb_E L d 57 26 [v0, v1, some (zi x)] (st) M = eb_E L d 57 27 [v0, v1, some (zi x)] (zi x :: st) M := eb_E_s hk57 rfl
theorem e57_27 {x : Int32} {y : Int32} : eb_E L d 57 27 ls (zi y :: zi x :: st) M = eb_E L d 57 28 ls (zi (x <<< (y &&& 31)) :: st) M := eb_E_s hk57 rfl
theorem e57_28  : eb_E L d 57 28 ls (st) M = eb_E L d 57 32 ls (st) M := eb_E_s hk57 rfl
theorem e57_31  : eb_E L d 57 31 ls (st) M = eb_E L d 57 32 ls (zi 0 :: st) M := eb_E_s hk57 rfl
theorem e57_32 {x : Int32} {y : Int32} : eb_E L d 57 32 ls (zi y :: zi x :: st) M = eb_E L d 57 33 ls (zi (x ||| y) :: st) M := eb_E_s hk57 rfl
theorem e57_33 {x : Int32} : eb_E L d 57 33 [v0, v1, v2] (zi x :: st) M = eb_E L d 57 34 [v0, some (zi x), v2] (st) M := eb_E_s hk57 rfl
theorem e57_34 {x : Int32} : eb_E L d 57 34 [v0, v1, some (zi x)] (st) M = eb_E L d 57 37 [v0, v1, some (zi (x + 1))] (st) M := eb_E_s hk57 rfl
theorem e57_37  : eb_E L d 57 37 ls (st) M = eb_E L d 57 4 ls (st) M := eb_E_s hk57 rfl
theorem e57_40 {x : Int32} : eb_E L d 57 40 [v0, some (zi x), v2] (st) M = eb_E L d 57 41 [v0, some (zi x), v2] (zi x :: st) M := eb_E_s hk57 rfl
theorem e57_41 {x : Int32} : eb_E L d 57 41 ls ([zi x]) M = some (zi x, M) := eb_E_r hk57 rfl
/-! X4_outsideOfAll -/
theorem hk58 : eb_cd L 58 = eb_look (kt58 L) := rfl
theorem h58 (ha : (eb_ty L a.1).1 = 4) : eb_ev L (d + 1) 58 [zr a] M = eb_E L d 58 0 [some (zr a), none, none] [] M := eb_ev_s rfl (eb_chk_i ha rfl)
theorem e58_0  : eb_E L d 58 0 ls (st) M = eb_E L d 58 1 ls (zi 0 :: st) M := eb_E_s hk58 rfl
theorem e58_1 {x : Int32} : eb_E L d 58 1 [v0, v1, v2] (zi x :: st) M = eb_E L d 58 2 [v0, some (zi x), v2] (st) M := eb_E_s hk58 rfl
theorem e58_2  : eb_E L d 58 2 ls (st) M = eb_E L d 58 3 ls (zi 0 :: st) M := eb_E_s hk58 rfl
theorem e58_3 {x : Int32} : eb_E L d 58 3 [v0, v1, v2] (zi x :: st) M = eb_E L d 58 4 [v0, v1, some (zi x)] (st) M := eb_E_s hk58 rfl
theorem e58_4 {x : Int32} : eb_E L d 58 4 [v0, v1, some (zi x)] (st) M = eb_E L d 58 5 [v0, v1, some (zi x)] (zi x :: st) M := eb_E_s hk58 rfl
theorem e58_5 {x : Option eb_A} : eb_E L d 58 5 [some (Sum.inr x), v1, v2] (st) M = eb_E L d 58 6 [some (Sum.inr x), v1, v2] (Sum.inr x :: st) M := eb_E_s hk58 rfl
theorem e58_6  : eb_E L d 58 6 ls (Sum.inr (some a) :: st) (nc, ns, I, J, R) = if (eb_ty L a.1).1 = 4 then eb_E L d 58 9 ls (zi (I a 3) :: st) (nc, ns, I, J, R) else none := eb_E_iy hk58 rfl
theorem e58_9 {x : Int32} {y : Int32} : eb_E L d 58 9 ls (zi y :: zi x :: st) M = if x < y then eb_E L d 58 12 ls st M else eb_E L d 58 30 ls st M := eb_E_b hk58 rfl
theorem e58_12 {x : Int32} : eb_E L d 58 12 [v0, some (zi x), v2] (st) M = eb_E L d 58 13 [v0, some (zi x), v2] (zi x :: st) M := eb_E_s hk58 rfl
theorem e58_13 {x : Option eb_A} : eb_E L d 58 13 [some (Sum.inr x), v1, v2] (st) M = eb_E L d 58 14 [some (Sum.inr x), v1, v2] (Sum.inr x :: st) M := eb_E_s hk58 rfl
theorem e58_14  : eb_E L d 58 14 ls (Sum.inr (some a) :: st) (nc, ns, I, J, R) = if (eb_ty L a.1).1 = 4 then eb_E L d 58 17 ls (Sum.inr (R a 1) :: st) (nc, ns, I, J, R) else none := eb_E_iy hk58 rfl
theorem e58_17 {x : Int32} : eb_E L d 58 17 [v0, v1, some (zi x)] (st) M = eb_E L d 58 18 [v0, v1, some (zi x)] (zi x :: st) M := eb_E_s hk58 rfl
theorem e58_18 {x : Int32} : eb_E L d 58 18 ls (zi x :: Sum.inr (some a) :: st) (nc, ns, I, J, R) = if (12 ≤ (eb_ty L a.1).1 ∧ (eb_ty L a.1).1 ≤ 16) ∧ eb_in x (eb_ty L a.1).2 = true then eb_E L d 58 19 ls (Sum.inr (R a x.toNatClampNeg) :: st) (nc, ns, I, J, R) else none := eb_E_iy hk58 rfl
theorem e58_19  : eb_E L d 58 19 ls (Sum.inr (some a) :: st) (nc, ns, I, J, R) = if (eb_ty L a.1).1 = 0 then eb_E L d 58 22 ls (zi (I a 4) :: st) (nc, ns, I, J, R) else none := eb_E_iy hk58 rfl
theorem e58_22 {x : Int32} {y : Int32} : eb_E L d 58 22 ls (zi y :: zi x :: st) M = eb_E L d 58 23 ls (zi (x + y) :: st) M := eb_E_s hk58 rfl
theorem e58_23 {x : Int32} : eb_E L d 58 23 [v0, v1, v2] (zi x :: st) M = eb_E L d 58 24 [v0, some (zi x), v2] (st) M := eb_E_s hk58 rfl
theorem e58_24 {x : Int32} : eb_E L d 58 24 [v0, v1, some (zi x)] (st) M = eb_E L d 58 27 [v0, v1, some (zi (x + 1))] (st) M := eb_E_s hk58 rfl
theorem e58_27  : eb_E L d 58 27 ls (st) M = eb_E L d 58 4 ls (st) M := eb_E_s hk58 rfl
theorem e58_30 {x : Int32} : eb_E L d 58 30 [v0, some (zi x), v2] (st) M = eb_E L d 58 31 [v0, some (zi x), v2] (zi x :: st) M := eb_E_s hk58 rfl
theorem e58_31 {x : Int32} : eb_E L d 58 31 ls ([zi x]) M = some (zi x, M) := eb_E_r hk58 rfl
/-! X4_joyOf -/
theorem hk59 : eb_cd L 59 = eb_look (kt59 L) := rfl
theorem h59 (ha : (eb_ty L a.1).1 = 4) {r1 : Option eb_A} : eb_ev L (d + 1) 59 [zr a, Sum.inr r1] M = eb_E L d 59 0 [some (zr a), some (Sum.inr r1), none, none] [] M := eb_ev_s rfl (eb_chk_i ha rfl)
theorem e59_0  : eb_E L d 59 0 ls (st) M = eb_E L d 59 2 ls (zi (-30) :: st) M := eb_E_s hk59 rfl
theorem e59_2 {x : Option eb_A} : eb_E L d 59 2 [v0, some (Sum.inr x), v2, v3] (st) M = eb_E L d 59 3 [v0, some (Sum.inr x), v2, v3] (Sum.inr x :: st) M := eb_E_s hk59 rfl
theorem e59_3  : eb_E L d 59 3 ls (Sum.inr (some a) :: st) (nc, ns, I, J, R) = if (eb_ty L a.1).1 = 0 then eb_E L d 59 6 ls (zi (I a 4) :: st) (nc, ns, I, J, R) else none := eb_E_iy hk59 rfl
theorem e59_6 {x : Int32} {y : Int32} : eb_E L d 59 6 ls (zi y :: zi x :: st) M = eb_E L d 59 7 ls (zi (x * y) :: st) M := eb_E_s hk59 rfl
theorem e59_7 {x : Int32} : eb_E L d 59 7 [v0, v1, v2, v3] (zi x :: st) M = eb_E L d 59 8 [v0, v1, some (zi x), v3] (st) M := eb_E_s hk59 rfl
theorem e59_8  : eb_E L d 59 8 ls (st) M = eb_E L d 59 9 ls (zi 0 :: st) M := eb_E_s hk59 rfl
theorem e59_9 {x : Int32} : eb_E L d 59 9 [v0, v1, v2, v3] (zi x :: st) M = eb_E L d 59 10 [v0, v1, v2, some (zi x)] (st) M := eb_E_s hk59 rfl
theorem e59_10 {x : Int32} : eb_E L d 59 10 [v0, v1, v2, some (zi x)] (st) M = eb_E L d 59 11 [v0, v1, v2, some (zi x)] (zi x :: st) M := eb_E_s hk59 rfl
theorem e59_11 {x : Option eb_A} : eb_E L d 59 11 [some (Sum.inr x), v1, v2, v3] (st) M = eb_E L d 59 12 [some (Sum.inr x), v1, v2, v3] (Sum.inr x :: st) M := eb_E_s hk59 rfl
theorem e59_12  : eb_E L d 59 12 ls (Sum.inr (some a) :: st) (nc, ns, I, J, R) = if (eb_ty L a.1).1 = 4 then eb_E L d 59 15 ls (zi (I a 2) :: st) (nc, ns, I, J, R) else none := eb_E_iy hk59 rfl
theorem e59_15 {x : Int32} {y : Int32} : eb_E L d 59 15 ls (zi y :: zi x :: st) M = if x < y then eb_E L d 59 18 ls st M else eb_E L d 59 43 ls st M := eb_E_b hk59 rfl
theorem e59_18 {x : Int32} : eb_E L d 59 18 [v0, v1, some (zi x), v3] (st) M = eb_E L d 59 19 [v0, v1, some (zi x), v3] (zi x :: st) M := eb_E_s hk59 rfl
theorem e59_19 {x : Option eb_A} : eb_E L d 59 19 [v0, some (Sum.inr x), v2, v3] (st) M = eb_E L d 59 20 [v0, some (Sum.inr x), v2, v3] (Sum.inr x :: st) M := eb_E_s hk59 rfl
theorem e59_20  : eb_E L d 59 20 ls (Sum.inr (some a) :: st) (nc, ns, I, J, R) = if (eb_ty L a.1).1 = 0 then eb_E L d 59 23 ls (Sum.inr (R a 3) :: st) (nc, ns, I, J, R) else none := eb_E_iy hk59 rfl
theorem e59_23 {x : Int32} : eb_E L d 59 23 [v0, v1, v2, some (zi x)] (st) M = eb_E L d 59 24 [v0, v1, v2, some (zi x)] (zi x :: st) M := eb_E_s hk59 rfl
theorem e59_24 {x : Int32} : eb_E L d 59 24 ls (zi x :: Sum.inr (some a) :: st) (nc, ns, I, J, R) = if (eb_ty L a.1).1 = 10 ∧ eb_in x (eb_ty L a.1).2 = true then eb_E L d 59 25 ls (zi (I a x.toNatClampNeg) :: st) (nc, ns, I, J, R) else none := eb_E_iy hk59 rfl
theorem e59_25 {x : Option eb_A} : eb_E L d 59 25 [some (Sum.inr x), v1, v2, v3] (st) M = eb_E L d 59 26 [some (Sum.inr x), v1, v2, v3] (Sum.inr x :: st) M := eb_E_s hk59 rfl
theorem e59_26  : eb_E L d 59 26 ls (Sum.inr (some a) :: st) (nc, ns, I, J, R) = if (eb_ty L a.1).1 = 4 then eb_E L d 59 29 ls (Sum.inr (R a 0) :: st) (nc, ns, I, J, R) else none := eb_E_iy hk59 rfl
theorem e59_29 {x : Int32} : eb_E L d 59 29 [v0, v1, v2, some (zi x)] (st) M = eb_E L d 59 30 [v0, v1, v2, some (zi x)] (zi x :: st) M := eb_E_s hk59 rfl
theorem e59_30 {x : Int32} : eb_E L d 59 30 ls (zi x :: Sum.inr (some a) :: st) (nc, ns, I, J, R) = if (12 ≤ (eb_ty L a.1).1 ∧ (eb_ty L a.1).1 ≤ 16) ∧ eb_in x (eb_ty L a.1).2 = true then eb_E L d 59 31 ls (Sum.inr (R a x.toNatClampNeg) :: st) (nc, ns, I, J, R) else none := eb_E_iy hk59 rfl
theorem e59_31 {s0 : Int32} {s1 : Int32} : eb_E L d 59 31 ls ([a0, zi s0, zi s1]) M = (eb_ev L d 13 [a0] M).bind (fun q => eb_E L d 59 34 ls [q.1, zi s0, zi s1] q.2) := eb_E_c hk59 rfl
theorem e59_34 {x : Int32} {y : Int32} : eb_E L d 59 34 ls (zi y :: zi x :: st) M = eb_E L d 59 35 ls (zi (x * y) :: st) M := eb_E_s hk59 rfl
theorem e59_35 {x : Int32} {y : Int32} : eb_E L d 59 35 ls (zi y :: zi x :: st) M = eb_E L d 59 36 ls (zi (x + y) :: st) M := eb_E_s hk59 rfl
theorem e59_36 {x : Int32} : eb_E L d 59 36 [v0, v1, v2, v3] (zi x :: st) M = eb_E L d 59 37 [v0, v1, some (zi x), v3] (st) M := eb_E_s hk59 rfl
theorem e59_37 {x : Int32} : eb_E L d 59 37 [v0, v1, v2, some (zi x)] (st) M = eb_E L d 59 40 [v0, v1, v2, some (zi (x + 1))] (st) M := eb_E_s hk59 rfl
theorem e59_40  : eb_E L d 59 40 ls (st) M = eb_E L d 59 10 ls (st) M := eb_E_s hk59 rfl
theorem e59_43 {x : Int32} : eb_E L d 59 43 [v0, v1, some (zi x), v3] (st) M = eb_E L d 59 44 [v0, v1, some (zi x), v3] (zi x :: st) M := eb_E_s hk59 rfl
theorem e59_44 {x : Int32} : eb_E L d 59 44 ls ([zi x]) M = some (zi x, M) := eb_E_r hk59 rfl
/-! X4_joyOfAll -/
theorem hk60 : eb_cd L 60 = eb_look (kt60 L) := rfl
theorem h60 (ha : (eb_ty L a.1).1 = 4) : eb_ev L (d + 1) 60 [zr a] M = eb_E L d 60 0 [some (zr a), none, none] [] M := eb_ev_s rfl (eb_chk_i ha rfl)
theorem e60_0  : eb_E L d 60 0 ls (st) M = eb_E L d 60 1 ls (zi 0 :: st) M := eb_E_s hk60 rfl
theorem e60_1 {x : Int32} : eb_E L d 60 1 [v0, v1, v2] (zi x :: st) M = eb_E L d 60 2 [v0, some (zi x), v2] (st) M := eb_E_s hk60 rfl
theorem e60_2  : eb_E L d 60 2 ls (st) M = eb_E L d 60 3 ls (zi 0 :: st) M := eb_E_s hk60 rfl
theorem e60_3 {x : Int32} : eb_E L d 60 3 [v0, v1, v2] (zi x :: st) M = eb_E L d 60 4 [v0, v1, some (zi x)] (st) M := eb_E_s hk60 rfl
theorem e60_4 {x : Int32} : eb_E L d 60 4 [v0, v1, some (zi x)] (st) M = eb_E L d 60 5 [v0, v1, some (zi x)] (zi x :: st) M := eb_E_s hk60 rfl
theorem e60_5 {x : Option eb_A} : eb_E L d 60 5 [some (Sum.inr x), v1, v2] (st) M = eb_E L d 60 6 [some (Sum.inr x), v1, v2] (Sum.inr x :: st) M := eb_E_s hk60 rfl
theorem e60_6  : eb_E L d 60 6 ls (Sum.inr (some a) :: st) (nc, ns, I, J, R) = if (eb_ty L a.1).1 = 4 then eb_E L d 60 9 ls (zi (I a 3) :: st) (nc, ns, I, J, R) else none := eb_E_iy hk60 rfl
theorem e60_9 {x : Int32} {y : Int32} : eb_E L d 60 9 ls (zi y :: zi x :: st) M = if x < y then eb_E L d 60 12 ls st M else eb_E L d 60 31 ls st M := eb_E_b hk60 rfl
theorem e60_12 {x : Int32} : eb_E L d 60 12 [v0, some (zi x), v2] (st) M = eb_E L d 60 13 [v0, some (zi x), v2] (zi x :: st) M := eb_E_s hk60 rfl
theorem e60_13 {x : Option eb_A} : eb_E L d 60 13 [some (Sum.inr x), v1, v2] (st) M = eb_E L d 60 14 [some (Sum.inr x), v1, v2] (Sum.inr x :: st) M := eb_E_s hk60 rfl
theorem e60_14 {x : Option eb_A} : eb_E L d 60 14 [some (Sum.inr x), v1, v2] (st) M = eb_E L d 60 15 [some (Sum.inr x), v1, v2] (Sum.inr x :: st) M := eb_E_s hk60 rfl
theorem e60_15  : eb_E L d 60 15 ls (Sum.inr (some a) :: st) (nc, ns, I, J, R) = if (eb_ty L a.1).1 = 4 then eb_E L d 60 18 ls (Sum.inr (R a 1) :: st) (nc, ns, I, J, R) else none := eb_E_iy hk60 rfl
theorem e60_18 {x : Int32} : eb_E L d 60 18 [v0, v1, some (zi x)] (st) M = eb_E L d 60 19 [v0, v1, some (zi x)] (zi x :: st) M := eb_E_s hk60 rfl
theorem e60_19 {x : Int32} : eb_E L d 60 19 ls (zi x :: Sum.inr (some a) :: st) (nc, ns, I, J, R) = if (12 ≤ (eb_ty L a.1).1 ∧ (eb_ty L a.1).1 ≤ 16) ∧ eb_in x (eb_ty L a.1).2 = true then eb_E L d 60 20 ls (Sum.inr (R a x.toNatClampNeg) :: st) (nc, ns, I, J, R) else none := eb_E_iy hk60 rfl
theorem e60_20 {s0 : Int32} : eb_E L d 60 20 ls ([a1, a0, zi s0]) M = (eb_ev L d 59 [a0, a1] M).bind (fun q => eb_E L d 60 23 ls [q.1, zi s0] q.2) := eb_E_c hk60 rfl
theorem e60_23 {x : Int32} {y : Int32} : eb_E L d 60 23 ls (zi y :: zi x :: st) M = eb_E L d 60 24 ls (zi (x + y) :: st) M := eb_E_s hk60 rfl
theorem e60_24 {x : Int32} : eb_E L d 60 24 [v0, v1, v2] (zi x :: st) M = eb_E L d 60 25 [v0, some (zi x), v2] (st) M := eb_E_s hk60 rfl
theorem e60_25 {x : Int32} : eb_E L d 60 25 [v0, v1, some (zi x)] (st) M = eb_E L d 60 28 [v0, v1, some (zi (x + 1))] (st) M := eb_E_s hk60 rfl
theorem e60_28  : eb_E L d 60 28 ls (st) M = eb_E L d 60 4 ls (st) M := eb_E_s hk60 rfl
theorem e60_31 {x : Int32} : eb_E L d 60 31 [v0, some (zi x), v2] (st) M = eb_E L d 60 32 [v0, some (zi x), v2] (zi x :: st) M := eb_E_s hk60 rfl
theorem e60_32 {x : Int32} : eb_E L d 60 32 ls ([zi x]) M = some (zi x, M) := eb_E_r hk60 rfl
/-! X4_passYears -/
theorem hk61 : eb_cd L 61 = eb_look (kt61 L) := rfl
theorem h61 (ha : (eb_ty L a.1).1 = 4) {x1 : Int32} : eb_ev L (d + 1) 61 [zr a, zi x1] M = eb_E L d 61 0 [some (zr a), some (zi x1), none, none] [] M := eb_ev_s rfl (eb_chk_i ha rfl)
theorem e61_0  : eb_E L d 61 0 ls (st) M = eb_E L d 61 1 ls (zi 0 :: st) M := eb_E_s hk61 rfl
theorem e61_1 {x : Int32} : eb_E L d 61 1 [v0, v1, v2, v3] (zi x :: st) M = eb_E L d 61 2 [v0, v1, some (zi x), v3] (st) M := eb_E_s hk61 rfl
theorem e61_2 {x : Int32} : eb_E L d 61 2 [v0, v1, some (zi x), v3] (st) M = eb_E L d 61 3 [v0, v1, some (zi x), v3] (zi x :: st) M := eb_E_s hk61 rfl
theorem e61_3 {x : Option eb_A} : eb_E L d 61 3 [some (Sum.inr x), v1, v2, v3] (st) M = eb_E L d 61 4 [some (Sum.inr x), v1, v2, v3] (Sum.inr x :: st) M := eb_E_s hk61 rfl
theorem e61_4  : eb_E L d 61 4 ls (Sum.inr (some a) :: st) (nc, ns, I, J, R) = if (eb_ty L a.1).1 = 4 then eb_E L d 61 7 ls (zi (I a 2) :: st) (nc, ns, I, J, R) else none := eb_E_iy hk61 rfl
theorem e61_7 {x : Int32} {y : Int32} : eb_E L d 61 7 ls (zi y :: zi x :: st) M = if x < y then eb_E L d 61 10 ls st M else eb_E L d 61 26 ls st M := eb_E_b hk61 rfl
theorem e61_10 {x : Option eb_A} : eb_E L d 61 10 [some (Sum.inr x), v1, v2, v3] (st) M = eb_E L d 61 11 [some (Sum.inr x), v1, v2, v3] (Sum.inr x :: st) M := eb_E_s hk61 rfl
theorem e61_11  : eb_E L d 61 11 ls (Sum.inr (some a) :: st) (nc, ns, I, J, R) = if (eb_ty L a.1).1 = 4 then eb_E L d 61 14 ls (Sum.inr (R a 0) :: st) (nc, ns, I, J, R) else none := eb_E_iy hk61 rfl
theorem e61_14 {x : Int32} : eb_E L d 61 14 [v0, v1, some (zi x), v3] (st) M = eb_E L d 61 15 [v0, v1, some (zi x), v3] (zi x :: st) M := eb_E_s hk61 rfl
theorem e61_15 {x : Int32} : eb_E L d 61 15 ls (zi x :: Sum.inr (some a) :: st) (nc, ns, I, J, R) = if (12 ≤ (eb_ty L a.1).1 ∧ (eb_ty L a.1).1 ≤ 16) ∧ eb_in x (eb_ty L a.1).2 = true then eb_E L d 61 16 ls (Sum.inr (R a x.toNatClampNeg) :: st) (nc, ns, I, J, R) else none := eb_E_iy hk61 rfl
theorem e61_16  : eb_E L d 61 16 ls (st) M = eb_E L d 61 17 ls (zi 0 :: st) M := eb_E_s hk61 rfl
theorem e61_17 {x : Int32} : eb_E L d 61 17 ls (zi x :: Sum.inr (some a) :: st) (nc, ns, I, J, R) = if (eb_ty L a.1).1 = 1 then eb_E L d 61 20 ls (st) (nc, ns, eb_u I a 8 x, J, R) else none := eb_E_iy hk61 rfl
theorem e61_20 {x : Int32} : eb_E L d 61 20 [v0, v1, some (zi x), v3] (st) M = eb_E L d 61 23 [v0, v1, some (zi (x + 1)), v3] (st) M := eb_E_s hk61 rfl
theorem e61_23  : eb_E L d 61 23 ls (st) M = eb_E L d 61 2 ls (st) M := eb_E_s hk61 rfl
theorem e61_26  : eb_E L d 61 26 ls (st) M = eb_E L d 61 27 ls (zi 0 :: st) M := eb_E_s hk61 rfl
theorem e61_27 {x : Int32} : eb_E L d 61 27 [v0, v1, v2, v3] (zi x :: st) M = eb_E L d 61 28 [v0, v1, some (zi x), v3] (st) M := eb_E_s hk61 rfl
theorem e61_28 {x : Int32} : eb_E L d 61 28 [v0, v1, some (zi x), v3] (st) M = eb_E L d 61 29 [v0, v1, some (zi x), v3] (zi x :: st) M := eb_E_s hk61 rfl
theorem e61_29 {x : Option eb_A} : eb_E L d 61 29 [some (Sum.inr x), v1, v2, v3] (st) M = eb_E L d 61 30 [some (Sum.inr x), v1, v2, v3] (Sum.inr x :: st) M := eb_E_s hk61 rfl
theorem e61_30  : eb_E L d 61 30 ls (Sum.inr (some a) :: st) (nc, ns, I, J, R) = if (eb_ty L a.1).1 = 4 then eb_E L d 61 33 ls (zi (I a 3) :: st) (nc, ns, I, J, R) else none := eb_E_iy hk61 rfl
theorem e61_33 {x : Int32} {y : Int32} : eb_E L d 61 33 ls (zi y :: zi x :: st) M = if x < y then eb_E L d 61 36 ls st M else eb_E L d 61 52 ls st M := eb_E_b hk61 rfl
theorem e61_36 {x : Option eb_A} : eb_E L d 61 36 [some (Sum.inr x), v1, v2, v3] (st) M = eb_E L d 61 37 [some (Sum.inr x), v1, v2, v3] (Sum.inr x :: st) M := eb_E_s hk61 rfl
theorem e61_37  : eb_E L d 61 37 ls (Sum.inr (some a) :: st) (nc, ns, I, J, R) = if (eb_ty L a.1).1 = 4 then eb_E L d 61 40 ls (Sum.inr (R a 1) :: st) (nc, ns, I, J, R) else none := eb_E_iy hk61 rfl
theorem e61_40 {x : Int32} : eb_E L d 61 40 [v0, v1, some (zi x), v3] (st) M = eb_E L d 61 41 [v0, v1, some (zi x), v3] (zi x :: st) M := eb_E_s hk61 rfl
theorem e61_41 {x : Int32} : eb_E L d 61 41 ls (zi x :: Sum.inr (some a) :: st) (nc, ns, I, J, R) = if (12 ≤ (eb_ty L a.1).1 ∧ (eb_ty L a.1).1 ≤ 16) ∧ eb_in x (eb_ty L a.1).2 = true then eb_E L d 61 42 ls (Sum.inr (R a x.toNatClampNeg) :: st) (nc, ns, I, J, R) else none := eb_E_iy hk61 rfl
theorem e61_42  : eb_E L d 61 42 ls (st) M = eb_E L d 61 43 ls (zi 0 :: st) M := eb_E_s hk61 rfl
theorem e61_43 {x : Int32} : eb_E L d 61 43 ls (zi x :: Sum.inr (some a) :: st) (nc, ns, I, J, R) = if (eb_ty L a.1).1 = 0 then eb_E L d 61 46 ls (st) (nc, ns, eb_u I a 5 x, J, R) else none := eb_E_iy hk61 rfl
theorem e61_46 {x : Int32} : eb_E L d 61 46 [v0, v1, some (zi x), v3] (st) M = eb_E L d 61 49 [v0, v1, some (zi (x + 1)), v3] (st) M := eb_E_s hk61 rfl
theorem e61_49  : eb_E L d 61 49 ls (st) M = eb_E L d 61 28 ls (st) M := eb_E_s hk61 rfl
theorem e61_52  : eb_E L d 61 52 ls (st) M = eb_E L d 61 53 ls (zi 0 :: st) M := eb_E_s hk61 rfl
theorem e61_53 {x : Int32} : eb_E L d 61 53 [v0, v1, v2, v3] (zi x :: st) M = eb_E L d 61 54 [v0, v1, some (zi x), v3] (st) M := eb_E_s hk61 rfl
theorem e61_54  : eb_E L d 61 54 ls (st) M = eb_E L d 61 55 ls (zi 0 :: st) M := eb_E_s hk61 rfl
theorem e61_55 {x : Int32} : eb_E L d 61 55 [v0, v1, v2, v3] (zi x :: st) M = eb_E L d 61 56 [v0, v1, v2, some (zi x)] (st) M := eb_E_s hk61 rfl
theorem e61_56 {x : Int32} : eb_E L d 61 56 [v0, v1, v2, some (zi x)] (st) M = eb_E L d 61 57 [v0, v1, v2, some (zi x)] (zi x :: st) M := eb_E_s hk61 rfl
theorem e61_57 {x : Int32} : eb_E L d 61 57 [v0, some (zi x), v2, v3] (st) M = eb_E L d 61 58 [v0, some (zi x), v2, v3] (zi x :: st) M := eb_E_s hk61 rfl
theorem e61_58 {x : Int32} {y : Int32} : eb_E L d 61 58 ls (zi y :: zi x :: st) M = if x < y then eb_E L d 61 61 ls st M else eb_E L d 61 78 ls st M := eb_E_b hk61 rfl
theorem e61_61 {x : Option eb_A} : eb_E L d 61 61 [some (Sum.inr x), v1, v2, v3] (st) M = eb_E L d 61 62 [some (Sum.inr x), v1, v2, v3] (Sum.inr x :: st) M := eb_E_s hk61 rfl
theorem e61_62  : eb_E L d 61 62 ls ([a0]) M = (eb_ev L d 50 [a0] M).bind (fun q => eb_E L d 61 65 ls [] q.2) := eb_E_c hk61 rfl
theorem e61_65 {x : Int32} : eb_E L d 61 65 [v0, v1, some (zi x), v3] (st) M = eb_E L d 61 66 [v0, v1, some (zi x), v3] (zi x :: st) M := eb_E_s hk61 rfl
theorem e61_66 {x : Option eb_A} : eb_E L d 61 66 [some (Sum.inr x), v1, v2, v3] (st) M = eb_E L d 61 67 [some (Sum.inr x), v1, v2, v3] (Sum.inr x :: st) M := eb_E_s hk61 rfl
theorem e61_67 {s0 : Int32} : eb_E L d 61 67 ls ([a0, zi s0]) M = (eb_ev L d 62 [a0] M).bind (fun q => eb_E L d 61 70 ls [q.1, zi s0] q.2) := eb_E_c hk61 rfl
theorem e61_70 {x : Int32} {y : Int32} : eb_E L d 61 70 ls (zi y :: zi x :: st) M = eb_E L d 61 71 ls (zi (x + y) :: st) M := eb_E_s hk61 rfl
theorem e61_71 {x : Int32} : eb_E L d 61 71 [v0, v1, v2, v3] (zi x :: st) M = eb_E L d 61 72 [v0, v1, some (zi x), v3] (st) M := eb_E_s hk61 rfl
theorem e61_72 {x : Int32} : eb_E L d 61 72 [v0, v1, v2, some (zi x)] (st) M = eb_E L d 61 75 [v0, v1, v2, some (zi (x + 1))] (st) M := eb_E_s hk61 rfl
theorem e61_75  : eb_E L d 61 75 ls (st) M = eb_E L d 61 56 ls (st) M := eb_E_s hk61 rfl
theorem e61_78 {x : Int32} : eb_E L d 61 78 [v0, v1, some (zi x), v3] (st) M = eb_E L d 61 79 [v0, v1, some (zi x), v3] (zi x :: st) M := eb_E_s hk61 rfl
theorem e61_79 {x : Int32} : eb_E L d 61 79 ls ([zi x]) M = some (zi x, M) := eb_E_r hk61 rfl
/-! X4_endYear -/
theorem hk62 : eb_cd L 62 = eb_look (kt62 L) := rfl
theorem h62 (ha : (eb_ty L a.1).1 = 4) : eb_ev L (d + 1) 62 [zr a] M = eb_E L d 62 0 [some (zr a), none, none, none] [] M := eb_ev_s rfl (eb_chk_i ha rfl)
theorem e62_0  : eb_E L d 62 0 ls (st) M = eb_E L d 62 1 ls (zi 0 :: st) M := eb_E_s hk62 rfl
theorem e62_1 {x : Int32} : eb_E L d 62 1 [v0, v1, v2, v3] (zi x :: st) M = eb_E L d 62 2 [v0, some (zi x), v2, v3] (st) M := eb_E_s hk62 rfl
theorem e62_2  : eb_E L d 62 2 ls (st) M = eb_E L d 62 3 ls (zi 0 :: st) M := eb_E_s hk62 rfl
theorem e62_3 {x : Int32} : eb_E L d 62 3 [v0, v1, v2, v3] (zi x :: st) M = eb_E L d 62 4 [v0, v1, some (zi x), v3] (st) M := eb_E_s hk62 rfl
theorem e62_4 {x : Int32} : eb_E L d 62 4 [v0, v1, some (zi x), v3] (st) M = eb_E L d 62 5 [v0, v1, some (zi x), v3] (zi x :: st) M := eb_E_s hk62 rfl
theorem e62_5 {x : Option eb_A} : eb_E L d 62 5 [some (Sum.inr x), v1, v2, v3] (st) M = eb_E L d 62 6 [some (Sum.inr x), v1, v2, v3] (Sum.inr x :: st) M := eb_E_s hk62 rfl
theorem e62_6  : eb_E L d 62 6 ls (Sum.inr (some a) :: st) (nc, ns, I, J, R) = if (eb_ty L a.1).1 = 4 then eb_E L d 62 9 ls (zi (I a 3) :: st) (nc, ns, I, J, R) else none := eb_E_iy hk62 rfl
theorem e62_9 {x : Int32} {y : Int32} : eb_E L d 62 9 ls (zi y :: zi x :: st) M = if x < y then eb_E L d 62 12 ls st M else eb_E L d 62 48 ls st M := eb_E_b hk62 rfl
theorem e62_12 {x : Option eb_A} : eb_E L d 62 12 [some (Sum.inr x), v1, v2, v3] (st) M = eb_E L d 62 13 [some (Sum.inr x), v1, v2, v3] (Sum.inr x :: st) M := eb_E_s hk62 rfl
theorem e62_13 {x : Option eb_A} : eb_E L d 62 13 [some (Sum.inr x), v1, v2, v3] (st) M = eb_E L d 62 14 [some (Sum.inr x), v1, v2, v3] (Sum.inr x :: st) M := eb_E_s hk62 rfl
theorem e62_14  : eb_E L d 62 14 ls (Sum.inr (some a) :: st) (nc, ns, I, J, R) = if (eb_ty L a.1).1 = 4 then eb_E L d 62 17 ls (Sum.inr (R a 1) :: st) (nc, ns, I, J, R) else none := eb_E_iy hk62 rfl
theorem e62_17 {x : Int32} : eb_E L d 62 17 [v0, v1, some (zi x), v3] (st) M = eb_E L d 62 18 [v0, v1, some (zi x), v3] (zi x :: st) M := eb_E_s hk62 rfl
theorem e62_18 {x : Int32} : eb_E L d 62 18 ls (zi x :: Sum.inr (some a) :: st) (nc, ns, I, J, R) = if (12 ≤ (eb_ty L a.1).1 ∧ (eb_ty L a.1).1 ≤ 16) ∧ eb_in x (eb_ty L a.1).2 = true then eb_E L d 62 19 ls (Sum.inr (R a x.toNatClampNeg) :: st) (nc, ns, I, J, R) else none := eb_E_iy hk62 rfl
theorem e62_19  : eb_E L d 62 19 ls ([a1, a0]) M = (eb_ev L d 59 [a0, a1] M).bind (fun q => eb_E L d 62 22 ls [q.1] q.2) := eb_E_c hk62 rfl
theorem e62_22 {x : Int32} : eb_E L d 62 22 [v0, v1, v2, v3] (zi x :: st) M = eb_E L d 62 23 [v0, v1, v2, some (zi x)] (st) M := eb_E_s hk62 rfl
theorem e62_23 {x : Option eb_A} : eb_E L d 62 23 [some (Sum.inr x), v1, v2, v3] (st) M = eb_E L d 62 24 [some (Sum.inr x), v1, v2, v3] (Sum.inr x :: st) M := eb_E_s hk62 rfl
theorem e62_24  : eb_E L d 62 24 ls (Sum.inr (some a) :: st) (nc, ns, I, J, R) = if (eb_ty L a.1).1 = 4 then eb_E L d 62 27 ls (Sum.inr (R a 1) :: st) (nc, ns, I, J, R) else none := eb_E_iy hk62 rfl
theorem e62_27 {x : Int32} : eb_E L d 62 27 [v0, v1, some (zi x), v3] (st) M = eb_E L d 62 28 [v0, v1, some (zi x), v3] (zi x :: st) M := eb_E_s hk62 rfl
theorem e62_28 {x : Int32} : eb_E L d 62 28 ls (zi x :: Sum.inr (some a) :: st) (nc, ns, I, J, R) = if (12 ≤ (eb_ty L a.1).1 ∧ (eb_ty L a.1).1 ≤ 16) ∧ eb_in x (eb_ty L a.1).2 = true then eb_E L d 62 29 ls (Sum.inr (R a x.toNatClampNeg) :: st) (nc, ns, I, J, R) else none := eb_E_iy hk62 rfl
theorem e62_29a {x : Int32} : eb_E L d 62 29 ls (zi x :: st) M = eb_E L d 62 30 ls (zi x :: zi x :: st) M := eb_E_s hk62 rfl
theorem e62_29b {x : Option eb_A} : eb_E L d 62 29 ls (Sum.inr x :: st) M = eb_E L d 62 30 ls (Sum.inr x :: Sum.inr x :: st) M := eb_E_s hk62 rfl
theorem e62_30  : eb_E L d 62 30 ls (Sum.inr (some a) :: st) (nc, ns, I, J, R) = if (eb_ty L a.1).1 = 0 then eb_E L d 62 33 ls (zi (I a 5) :: st) (nc, ns, I, J, R) else none := eb_E_iy hk62 rfl
theorem e62_33 {x : Int32} : eb_E L d 62 33 [v0, v1, v2, some (zi x)] (st) M = eb_E L d 62 34 [v0, v1, v2, some (zi x)] (zi x :: st) M := eb_E_s hk62 rfl
theorem e62_34 {x : Int32} {y : Int32} : eb_E L d 62 34 ls (zi y :: zi x :: st) M = eb_E L d 62 35 ls (zi (x + y) :: st) M := eb_E_s hk62 rfl
theorem e62_35 {x : Int32} : eb_E L d 62 35 ls (zi x :: Sum.inr (some a) :: st) (nc, ns, I, J, R) = if (eb_ty L a.1).1 = 0 then eb_E L d 62 38 ls (st) (nc, ns, eb_u I a 5 x, J, R) else none := eb_E_iy hk62 rfl
theorem e62_38 {x : Int32} : eb_E L d 62 38 [v0, some (zi x), v2, v3] (st) M = eb_E L d 62 39 [v0, some (zi x), v2, v3] (zi x :: st) M := eb_E_s hk62 rfl
theorem e62_39 {x : Int32} : eb_E L d 62 39 [v0, v1, v2, some (zi x)] (st) M = eb_E L d 62 40 [v0, v1, v2, some (zi x)] (zi x :: st) M := eb_E_s hk62 rfl
theorem e62_40 {x : Int32} {y : Int32} : eb_E L d 62 40 ls (zi y :: zi x :: st) M = eb_E L d 62 41 ls (zi (x + y) :: st) M := eb_E_s hk62 rfl
theorem e62_41 {x : Int32} : eb_E L d 62 41 [v0, v1, v2, v3] (zi x :: st) M = eb_E L d 62 42 [v0, some (zi x), v2, v3] (st) M := eb_E_s hk62 rfl
theorem e62_42 {x : Int32} : eb_E L d 62 42 [v0, v1, some (zi x), v3] (st) M = eb_E L d 62 45 [v0, v1, some (zi (x + 1)), v3] (st) M := eb_E_s hk62 rfl
theorem e62_45  : eb_E L d 62 45 ls (st) M = eb_E L d 62 4 ls (st) M := eb_E_s hk62 rfl
theorem e62_48  : eb_E L d 62 48 ls (st) M = eb_E L d 62 49 ls (zi 0 :: st) M := eb_E_s hk62 rfl
theorem e62_49 {x : Int32} : eb_E L d 62 49 [v0, v1, v2, v3] (zi x :: st) M = eb_E L d 62 50 [v0, v1, some (zi x), v3] (st) M := eb_E_s hk62 rfl
theorem e62_50 {x : Int32} : eb_E L d 62 50 [v0, v1, some (zi x), v3] (st) M = eb_E L d 62 51 [v0, v1, some (zi x), v3] (zi x :: st) M := eb_E_s hk62 rfl
theorem e62_51 {x : Option eb_A} : eb_E L d 62 51 [some (Sum.inr x), v1, v2, v3] (st) M = eb_E L d 62 52 [some (Sum.inr x), v1, v2, v3] (Sum.inr x :: st) M := eb_E_s hk62 rfl
theorem e62_52  : eb_E L d 62 52 ls (Sum.inr (some a) :: st) (nc, ns, I, J, R) = if (eb_ty L a.1).1 = 4 then eb_E L d 62 55 ls (zi (I a 2) :: st) (nc, ns, I, J, R) else none := eb_E_iy hk62 rfl
theorem e62_55 {x : Int32} {y : Int32} : eb_E L d 62 55 ls (zi y :: zi x :: st) M = if x < y then eb_E L d 62 58 ls st M else eb_E L d 62 73 ls st M := eb_E_b hk62 rfl
theorem e62_58 {x : Option eb_A} : eb_E L d 62 58 [some (Sum.inr x), v1, v2, v3] (st) M = eb_E L d 62 59 [some (Sum.inr x), v1, v2, v3] (Sum.inr x :: st) M := eb_E_s hk62 rfl
theorem e62_59  : eb_E L d 62 59 ls (Sum.inr (some a) :: st) (nc, ns, I, J, R) = if (eb_ty L a.1).1 = 4 then eb_E L d 62 62 ls (Sum.inr (R a 0) :: st) (nc, ns, I, J, R) else none := eb_E_iy hk62 rfl
theorem e62_62 {x : Int32} : eb_E L d 62 62 [v0, v1, some (zi x), v3] (st) M = eb_E L d 62 63 [v0, v1, some (zi x), v3] (zi x :: st) M := eb_E_s hk62 rfl
theorem e62_63 {x : Int32} : eb_E L d 62 63 ls (zi x :: Sum.inr (some a) :: st) (nc, ns, I, J, R) = if (12 ≤ (eb_ty L a.1).1 ∧ (eb_ty L a.1).1 ≤ 16) ∧ eb_in x (eb_ty L a.1).2 = true then eb_E L d 62 64 ls (Sum.inr (R a x.toNatClampNeg) :: st) (nc, ns, I, J, R) else none := eb_E_iy hk62 rfl
theorem e62_64  : eb_E L d 62 64 ls ([a0]) M = (eb_ev L d 15 [a0] M).bind (fun q => eb_E L d 62 67 ls [] q.2) := eb_E_c hk62 rfl
theorem e62_67 {x : Int32} : eb_E L d 62 67 [v0, v1, some (zi x), v3] (st) M = eb_E L d 62 70 [v0, v1, some (zi (x + 1)), v3] (st) M := eb_E_s hk62 rfl
theorem e62_70  : eb_E L d 62 70 ls (st) M = eb_E L d 62 50 ls (st) M := eb_E_s hk62 rfl
theorem e62_73 {x : Option eb_A} : eb_E L d 62 73 [some (Sum.inr x), v1, v2, v3] (st) M = eb_E L d 62 74 [some (Sum.inr x), v1, v2, v3] (Sum.inr x :: st) M := eb_E_s hk62 rfl
theorem e62_74  : eb_E L d 62 74 ls (st) M = eb_E L d 62 76 ls (zi 99 :: st) M := eb_E_s hk62 rfl
theorem e62_76 {x : Option eb_A} : eb_E L d 62 76 [some (Sum.inr x), v1, v2, v3] (st) M = eb_E L d 62 77 [some (Sum.inr x), v1, v2, v3] (Sum.inr x :: st) M := eb_E_s hk62 rfl
theorem e62_77  : eb_E L d 62 77 ls (Sum.inr (some a) :: st) (nc, ns, I, J, R) = if (eb_ty L a.1).1 = 4 then eb_E L d 62 80 ls (zi (I a 4) :: st) (nc, ns, I, J, R) else none := eb_E_iy hk62 rfl
theorem e62_80  : eb_E L d 62 80 ls (st) M = eb_E L d 62 81 ls (zi 1 :: st) M := eb_E_s hk62 rfl
theorem e62_81 {x : Int32} {y : Int32} : eb_E L d 62 81 ls (zi y :: zi x :: st) M = eb_E L d 62 82 ls (zi (x + y) :: st) M := eb_E_s hk62 rfl
theorem e62_82 {s0 : Option eb_A} : eb_E L d 62 82 ls ([a1, a0, Sum.inr s0]) M = (eb_ev L d 901 [a0, a1] M).bind (fun q => eb_E L d 62 85 ls [q.1, Sum.inr s0] q.2) := eb_E_c hk62 rfl
theorem e62_85 {x : Int32} : eb_E L d 62 85 ls (zi x :: Sum.inr (some a) :: st) (nc, ns, I, J, R) = if (eb_ty L a.1).1 = 4 then eb_E L d 62 88 ls (st) (nc, ns, eb_u I a 4 x, J, R) else none := eb_E_iy hk62 rfl
theorem e62_88 {x : Option eb_A} : eb_E L d 62 88 [some (Sum.inr x), v1, v2, v3] (st) M = eb_E L d 62 89 [some (Sum.inr x), v1, v2, v3] (Sum.inr x :: st) M := eb_E_s hk62 rfl
theorem e62_89a {x : Int32} : eb_E L d 62 89 ls (zi x :: st) M = eb_E L d 62 90 ls (zi x :: zi x :: st) M := eb_E_s hk62 rfl
theorem e62_89b {x : Option eb_A} : eb_E L d 62 89 ls (Sum.inr x :: st) M = eb_E L d 62 90 ls (Sum.inr x :: Sum.inr x :: st) M := eb_E_s hk62 rfl
theorem e62_90  : eb_E L d 62 90 ls (Sum.inr (some a) :: st) (nc, ns, I, J, R) = if (eb_ty L a.1).1 = 4 then eb_E L d 62 93 ls (zi (I a 5) :: st) (nc, ns, I, J, R) else none := eb_E_iy hk62 rfl
theorem e62_93  : eb_E L d 62 93 ls (st) M = eb_E L d 62 94 ls (zi 1 :: st) M := eb_E_s hk62 rfl
theorem e62_94 {x : Int32} {y : Int32} : eb_E L d 62 94 ls (zi y :: zi x :: st) M = eb_E L d 62 95 ls (zi (x + y) :: st) M := eb_E_s hk62 rfl
theorem e62_95 {x : Int32} : eb_E L d 62 95 ls (zi x :: Sum.inr (some a) :: st) (nc, ns, I, J, R) = if (eb_ty L a.1).1 = 4 then eb_E L d 62 98 ls (st) (nc, ns, eb_u I a 5 x, J, R) else none := eb_E_iy hk62 rfl
theorem e62_98 {x : Int32} : eb_E L d 62 98 [v0, some (zi x), v2, v3] (st) M = eb_E L d 62 99 [v0, some (zi x), v2, v3] (zi x :: st) M := eb_E_s hk62 rfl
theorem e62_99 {x : Int32} : eb_E L d 62 99 ls ([zi x]) M = some (zi x, M) := eb_E_r hk62 rfl
/-! X4_joyInYearsOfOwn -/
theorem hk63 : eb_cd L 63 = eb_look (kt63 L) := rfl
theorem h63 (ha : (eb_ty L a.1).1 = 4) : eb_ev L (d + 1) 63 [zr a] M = eb_E L d 63 0 [some (zr a), none, none] [] M := eb_ev_s rfl (eb_chk_i ha rfl)
theorem e63_0  : eb_E L d 63 0 ls (st) M = eb_E L d 63 1 ls (zi 0 :: st) M := eb_E_s hk63 rfl
theorem e63_1 {x : Int32} : eb_E L d 63 1 [v0, v1, v2] (zi x :: st) M = eb_E L d 63 2 [v0, some (zi x), v2] (st) M := eb_E_s hk63 rfl
theorem e63_2  : eb_E L d 63 2 ls (st) M = eb_E L d 63 3 ls (zi 0 :: st) M := eb_E_s hk63 rfl
theorem e63_3 {x : Int32} : eb_E L d 63 3 [v0, v1, v2] (zi x :: st) M = eb_E L d 63 4 [v0, v1, some (zi x)] (st) M := eb_E_s hk63 rfl
theorem e63_4 {x : Int32} : eb_E L d 63 4 [v0, v1, some (zi x)] (st) M = eb_E L d 63 5 [v0, v1, some (zi x)] (zi x :: st) M := eb_E_s hk63 rfl
theorem e63_5 {x : Option eb_A} : eb_E L d 63 5 [some (Sum.inr x), v1, v2] (st) M = eb_E L d 63 6 [some (Sum.inr x), v1, v2] (Sum.inr x :: st) M := eb_E_s hk63 rfl
theorem e63_6  : eb_E L d 63 6 ls (Sum.inr (some a) :: st) (nc, ns, I, J, R) = if (eb_ty L a.1).1 = 4 then eb_E L d 63 9 ls (zi (I a 3) :: st) (nc, ns, I, J, R) else none := eb_E_iy hk63 rfl
theorem e63_9 {x : Int32} {y : Int32} : eb_E L d 63 9 ls (zi y :: zi x :: st) M = if x < y then eb_E L d 63 12 ls st M else eb_E L d 63 47 ls st M := eb_E_b hk63 rfl
theorem e63_12 {x : Int32} : eb_E L d 63 12 [v0, some (zi x), v2] (st) M = eb_E L d 63 13 [v0, some (zi x), v2] (zi x :: st) M := eb_E_s hk63 rfl
theorem e63_13 {x : Option eb_A} : eb_E L d 63 13 [some (Sum.inr x), v1, v2] (st) M = eb_E L d 63 14 [some (Sum.inr x), v1, v2] (Sum.inr x :: st) M := eb_E_s hk63 rfl
theorem e63_14  : eb_E L d 63 14 ls (Sum.inr (some a) :: st) (nc, ns, I, J, R) = if (eb_ty L a.1).1 = 4 then eb_E L d 63 17 ls (Sum.inr (R a 1) :: st) (nc, ns, I, J, R) else none := eb_E_iy hk63 rfl
theorem e63_17 {x : Int32} : eb_E L d 63 17 [v0, v1, some (zi x)] (st) M = eb_E L d 63 18 [v0, v1, some (zi x)] (zi x :: st) M := eb_E_s hk63 rfl
theorem e63_18 {x : Int32} : eb_E L d 63 18 ls (zi x :: Sum.inr (some a) :: st) (nc, ns, I, J, R) = if (12 ≤ (eb_ty L a.1).1 ∧ (eb_ty L a.1).1 ≤ 16) ∧ eb_in x (eb_ty L a.1).2 = true then eb_E L d 63 19 ls (Sum.inr (R a x.toNatClampNeg) :: st) (nc, ns, I, J, R) else none := eb_E_iy hk63 rfl
theorem e63_19  : eb_E L d 63 19 ls (Sum.inr (some a) :: st) (nc, ns, I, J, R) = if (eb_ty L a.1).1 = 0 then eb_E L d 63 22 ls (zi (I a 0) :: st) (nc, ns, I, J, R) else none := eb_E_iy hk63 rfl
theorem e63_22  : eb_E L d 63 22 ls (st) M = eb_E L d 63 23 ls (zi 3 :: st) M := eb_E_s hk63 rfl
theorem e63_23 {x : Int32} {y : Int32} : eb_E L d 63 23 ls (zi y :: zi x :: st) M = if x = y then eb_E L d 63 26 ls st M else eb_E L d 63 38 ls st M := eb_E_b hk63 rfl
theorem e63_26 {x : Option eb_A} : eb_E L d 63 26 [some (Sum.inr x), v1, v2] (st) M = eb_E L d 63 27 [some (Sum.inr x), v1, v2] (Sum.inr x :: st) M := eb_E_s hk63 rfl
theorem e63_27  : eb_E L d 63 27 ls (Sum.inr (some a) :: st) (nc, ns, I, J, R) = if (eb_ty L a.1).1 = 4 then eb_E L d 63 30 ls (Sum.inr (R a 1) :: st) (nc, ns, I, J, R) else none := eb_E_iy hk63 rfl
theorem e63_30 {x : Int32} : eb_E L d 63 30 [v0, v1, some (zi x)] (st) M = eb_E L d 63 31 [v0, v1, some (zi x)] (zi x :: st) M := eb_E_s hk63 rfl
theorem e63_31 {x : Int32} : eb_E L d 63 31 ls (zi x :: Sum.inr (some a) :: st) (nc, ns, I, J, R) = if (12 ≤ (eb_ty L a.1).1 ∧ (eb_ty L a.1).1 ≤ 16) ∧ eb_in x (eb_ty L a.1).2 = true then eb_E L d 63 32 ls (Sum.inr (R a x.toNatClampNeg) :: st) (nc, ns, I, J, R) else none := eb_E_iy hk63 rfl
theorem e63_32  : eb_E L d 63 32 ls (Sum.inr (some a) :: st) (nc, ns, I, J, R) = if (eb_ty L a.1).1 = 0 then eb_E L d 63 35 ls (zi (I a 5) :: st) (nc, ns, I, J, R) else none := eb_E_iy hk63 rfl
theorem e63_35  : eb_E L d 63 35 ls (st) M = eb_E L d 63 39 ls (st) M := eb_E_s hk63 rfl
theorem e63_38  : eb_E L d 63 38 ls (st) M = eb_E L d 63 39 ls (zi 0 :: st) M := eb_E_s hk63 rfl
theorem e63_39 {x : Int32} {y : Int32} : eb_E L d 63 39 ls (zi y :: zi x :: st) M = eb_E L d 63 40 ls (zi (x + y) :: st) M := eb_E_s hk63 rfl
theorem e63_40 {x : Int32} : eb_E L d 63 40 [v0, v1, v2] (zi x :: st) M = eb_E L d 63 41 [v0, some (zi x), v2] (st) M := eb_E_s hk63 rfl
theorem e63_41 {x : Int32} : eb_E L d 63 41 [v0, v1, some (zi x)] (st) M = eb_E L d 63 44 [v0, v1, some (zi (x + 1))] (st) M := eb_E_s hk63 rfl
theorem e63_44  : eb_E L d 63 44 ls (st) M = eb_E L d 63 4 ls (st) M := eb_E_s hk63 rfl
theorem e63_47 {x : Int32} : eb_E L d 63 47 [v0, some (zi x), v2] (st) M = eb_E L d 63 48 [v0, some (zi x), v2] (zi x :: st) M := eb_E_s hk63 rfl
theorem e63_48 {x : Int32} : eb_E L d 63 48 ls ([zi x]) M = some (zi x, M) := eb_E_r hk63 rfl
/-! X4_staysGood -/
theorem hk64 : eb_cd L 64 = eb_look (kt64 L) := rfl
theorem h64 (ha : (eb_ty L a.1).1 = 4) {x1 : Int32} {x2 : Int32} {x3 : Int32} : eb_ev L (d + 1) 64 [zr a, zi x1, zi x2, zi x3] M = eb_E L d 64 0 [some (zr a), some (zi x1), some (zi x2), some (zi x3), none] [] M := eb_ev_s rfl (eb_chk_i ha rfl)
theorem e64_0  : eb_E L d 64 0 ls (st) M = eb_E L d 64 1 ls (zi 0 :: st) M := eb_E_s hk64 rfl
theorem e64_1 {x : Int32} : eb_E L d 64 1 [v0, v1, v2, v3, v4] (zi x :: st) M = eb_E L d 64 3 [v0, v1, v2, v3, some (zi x)] (st) M := eb_E_s hk64 rfl
theorem e64_3 {x : Int32} : eb_E L d 64 3 [v0, v1, v2, v3, some (zi x)] (st) M = eb_E L d 64 5 [v0, v1, v2, v3, some (zi x)] (zi x :: st) M := eb_E_s hk64 rfl
theorem e64_5 {x : Int32} : eb_E L d 64 5 [v0, v1, some (zi x), v3, v4] (st) M = eb_E L d 64 6 [v0, v1, some (zi x), v3, v4] (zi x :: st) M := eb_E_s hk64 rfl
theorem e64_6 {x : Int32} {y : Int32} : eb_E L d 64 6 ls (zi y :: zi x :: st) M = if x < y then eb_E L d 64 9 ls st M else eb_E L d 64 36 ls st M := eb_E_b hk64 rfl
theorem e64_9 {x : Option eb_A} : eb_E L d 64 9 [some (Sum.inr x), v1, v2, v3, v4] (st) M = eb_E L d 64 10 [some (Sum.inr x), v1, v2, v3, v4] (Sum.inr x :: st) M := eb_E_s hk64 rfl
theorem e64_10  : eb_E L d 64 10 ls (st) M = eb_E L d 64 11 ls (zi 1 :: st) M := eb_E_s hk64 rfl
theorem e64_11  : eb_E L d 64 11 ls ([a1, a0]) M = (eb_ev L d 61 [a0, a1] M).bind (fun q => eb_E L d 64 14 ls [q.1] q.2) := eb_E_c hk64 rfl
theorem e64_14a {x : Int32} : eb_E L d 64 14 ls (zi x :: st) M = eb_E L d 64 15 ls (st) M := eb_E_s hk64 rfl
theorem e64_14b {x : Option eb_A} : eb_E L d 64 14 ls (Sum.inr x :: st) M = eb_E L d 64 15 ls (st) M := eb_E_s hk64 rfl
theorem e64_15 {x : Option eb_A} : eb_E L d 64 15 [some (Sum.inr x), v1, v2, v3, v4] (st) M = eb_E L d 64 16 [some (Sum.inr x), v1, v2, v3, v4] (Sum.inr x :: st) M := eb_E_s hk64 rfl
theorem e64_16  : eb_E L d 64 16 ls (Sum.inr (some a) :: st) (nc, ns, I, J, R) = if (eb_ty L a.1).1 = 4 then eb_E L d 64 19 ls (Sum.inr (R a 0) :: st) (nc, ns, I, J, R) else none := eb_E_iy hk64 rfl
theorem e64_19 {x : Int32} : eb_E L d 64 19 [v0, some (zi x), v2, v3, v4] (st) M = eb_E L d 64 20 [v0, some (zi x), v2, v3, v4] (zi x :: st) M := eb_E_s hk64 rfl
theorem e64_20 {x : Int32} : eb_E L d 64 20 ls (zi x :: Sum.inr (some a) :: st) (nc, ns, I, J, R) = if (12 ≤ (eb_ty L a.1).1 ∧ (eb_ty L a.1).1 ≤ 16) ∧ eb_in x (eb_ty L a.1).2 = true then eb_E L d 64 21 ls (Sum.inr (R a x.toNatClampNeg) :: st) (nc, ns, I, J, R) else none := eb_E_iy hk64 rfl
theorem e64_21  : eb_E L d 64 21 ls (Sum.inr (some a) :: st) (nc, ns, I, J, R) = if (eb_ty L a.1).1 = 1 then eb_E L d 64 24 ls (zi (I a 0) :: st) (nc, ns, I, J, R) else none := eb_E_iy hk64 rfl
theorem e64_24 {x : Int32} : eb_E L d 64 24 [v0, v1, v2, some (zi x), v4] (st) M = eb_E L d 64 25 [v0, v1, v2, some (zi x), v4] (zi x :: st) M := eb_E_s hk64 rfl
theorem e64_25 {x : Int32} {y : Int32} : eb_E L d 64 25 ls (zi y :: zi x :: st) M = if x < y then eb_E L d 64 28 ls st M else eb_E L d 64 30 ls st M := eb_E_b hk64 rfl
theorem e64_28  : eb_E L d 64 28 ls (st) M = eb_E L d 64 29 ls (zi 0 :: st) M := eb_E_s hk64 rfl
theorem e64_29 {x : Int32} : eb_E L d 64 29 ls ([zi x]) M = if x = 0 ∨ x = 1 then some (zi x, M) else none := eb_E_ri hk64 rfl
theorem e64_30 {x : Int32} : eb_E L d 64 30 [v0, v1, v2, v3, some (zi x)] (st) M = eb_E L d 64 33 [v0, v1, v2, v3, some (zi (x + 1))] (st) M := eb_E_s hk64 rfl
theorem e64_33  : eb_E L d 64 33 ls (st) M = eb_E L d 64 3 ls (st) M := eb_E_s hk64 rfl
theorem e64_36  : eb_E L d 64 36 ls (st) M = eb_E L d 64 37 ls (zi 1 :: st) M := eb_E_s hk64 rfl
theorem e64_37 {x : Int32} : eb_E L d 64 37 ls ([zi x]) M = if x = 0 ∨ x = 1 then some (zi x, M) else none := eb_E_ri hk64 rfl
/-! X4_drawLetter -/
theorem hk65 : eb_cd L 65 = eb_look (kt65 L) := rfl
theorem h65 (ha : (eb_ty L a.1).1 = 4) : eb_ev L (d + 1) 65 [zr a] M = eb_E L d 65 0 [some (zr a), none, none] [] M := eb_ev_s rfl (eb_chk_i ha rfl)
theorem e65_0 {x : Option eb_A} : eb_E L d 65 0 [some (Sum.inr x), v1, v2] (st) M = eb_E L d 65 1 [some (Sum.inr x), v1, v2] (Sum.inr x :: st) M := eb_E_s hk65 rfl
theorem e65_1 {x : Option eb_A} : eb_E L d 65 1 [some (Sum.inr x), v1, v2] (st) M = eb_E L d 65 2 [some (Sum.inr x), v1, v2] (Sum.inr x :: st) M := eb_E_s hk65 rfl
theorem e65_2  : eb_E L d 65 2 ls (Sum.inr (some a) :: st) (nc, ns, I, J, R) = if (eb_ty L a.1).1 = 4 then eb_E L d 65 5 ls (zi (I a 2) :: st) (nc, ns, I, J, R) else none := eb_E_iy hk65 rfl
theorem e65_5  : eb_E L d 65 5 ls ([a1, a0]) M = (eb_ev L d 66 [a0, a1] M).bind (fun q => eb_E L d 65 8 ls [q.1] q.2) := eb_E_c hk65 rfl
theorem e65_8 {x : Int32} : eb_E L d 65 8 [v0, v1, v2] (zi x :: st) M = eb_E L d 65 9 [v0, some (zi x), v2] (st) M := eb_E_s hk65 rfl
theorem e65_9 {x : Option eb_A} : eb_E L d 65 9 [some (Sum.inr x), v1, v2] (st) M = eb_E L d 65 10 [some (Sum.inr x), v1, v2] (Sum.inr x :: st) M := eb_E_s hk65 rfl
theorem e65_10  : eb_E L d 65 10 ls (Sum.inr (some a) :: st) (nc, ns, I, J, R) = if (eb_ty L a.1).1 = 4 then eb_E L d 65 13 ls (Sum.inr (R a 0) :: st) (nc, ns, I, J, R) else none := eb_E_iy hk65 rfl
theorem e65_13 {x : Int32} : eb_E L d 65 13 [v0, some (zi x), v2] (st) M = eb_E L d 65 14 [v0, some (zi x), v2] (zi x :: st) M := eb_E_s hk65 rfl
theorem e65_14 {x : Int32} : eb_E L d 65 14 ls (zi x :: Sum.inr (some a) :: st) (nc, ns, I, J, R) = if (12 ≤ (eb_ty L a.1).1 ∧ (eb_ty L a.1).1 ≤ 16) ∧ eb_in x (eb_ty L a.1).2 = true then eb_E L d 65 15 ls (Sum.inr (R a x.toNatClampNeg) :: st) (nc, ns, I, J, R) else none := eb_E_iy hk65 rfl
theorem e65_15  : eb_E L d 65 15 ls (Sum.inr (some a) :: st) (nc, ns, I, J, R) = if (eb_ty L a.1).1 = 1 then eb_E L d 65 18 ls (zi (I a 0) :: st) (nc, ns, I, J, R) else none := eb_E_iy hk65 rfl
theorem e65_18 {x : Option eb_A} : eb_E L d 65 18 [some (Sum.inr x), v1, v2] (st) M = eb_E L d 65 19 [some (Sum.inr x), v1, v2] (Sum.inr x :: st) M := eb_E_s hk65 rfl
theorem e65_19  : eb_E L d 65 19 ls (st) M = eb_E L d 65 21 ls (zi 21 :: st) M := eb_E_s hk65 rfl
theorem e65_21 {s0 : Int32} : eb_E L d 65 21 ls ([a1, a0, zi s0]) M = (eb_ev L d 66 [a0, a1] M).bind (fun q => eb_E L d 65 24 ls [q.1, zi s0] q.2) := eb_E_c hk65 rfl
theorem e65_24 {x : Int32} {y : Int32} : eb_E L d 65 24 ls (zi y :: zi x :: st) M = eb_E L d 65 25 ls (zi (x + y) :: st) M := eb_E_s hk65 rfl
theorem e65_25  : eb_E L d 65 25 ls (st) M = eb_E L d 65 27 ls (zi 10 :: st) M := eb_E_s hk65 rfl
theorem e65_27 {x : Int32} {y : Int32} : eb_E L d 65 27 ls (zi y :: zi x :: st) M = eb_E L d 65 28 ls (zi (x - y) :: st) M := eb_E_s hk65 rfl
theorem e65_28 {x : Int32} : eb_E L d 65 28 [v0, v1, v2] (zi x :: st) M = eb_E L d 65 29 [v0, v1, some (zi x)] (st) M := eb_E_s hk65 rfl
theorem e65_29 {x : Option eb_A} : eb_E L d 65 29 [some (Sum.inr x), v1, v2] (st) M = eb_E L d 65 30 [some (Sum.inr x), v1, v2] (Sum.inr x :: st) M := eb_E_s hk65 rfl
theorem e65_30  : eb_E L d 65 30 ls (Sum.inr (some a) :: st) (nc, ns, I, J, R) = if (eb_ty L a.1).1 = 4 then eb_E L d 65 33 ls (Sum.inr (R a 0) :: st) (nc, ns, I, J, R) else none := eb_E_iy hk65 rfl
theorem e65_33 {x : Int32} : eb_E L d 65 33 [v0, some (zi x), v2] (st) M = eb_E L d 65 34 [v0, some (zi x), v2] (zi x :: st) M := eb_E_s hk65 rfl
theorem e65_34 {x : Int32} : eb_E L d 65 34 ls (zi x :: Sum.inr (some a) :: st) (nc, ns, I, J, R) = if (12 ≤ (eb_ty L a.1).1 ∧ (eb_ty L a.1).1 ≤ 16) ∧ eb_in x (eb_ty L a.1).2 = true then eb_E L d 65 35 ls (Sum.inr (R a x.toNatClampNeg) :: st) (nc, ns, I, J, R) else none := eb_E_iy hk65 rfl
theorem e65_35  : eb_E L d 65 35 ls (st) M = eb_E L d 65 36 ls (zi 0 :: st) M := eb_E_s hk65 rfl
theorem e65_36  : eb_E L d 65 36 ls (st) M = eb_E L d 65 38 ls (zi 100 :: st) M := eb_E_s hk65 rfl
theorem e65_38 {x : Int32} : eb_E L d 65 38 [v0, v1, some (zi x)] (st) M = eb_E L d 65 39 [v0, v1, some (zi x)] (zi x :: st) M := eb_E_s hk65 rfl
theorem e65_39 {s0 : Int32} {s1 : Option eb_A} : eb_E L d 65 39 ls ([a1, a0, zi s0, Sum.inr s1]) M = (eb_ev L d 901 [a0, a1] M).bind (fun q => eb_E L d 65 42 ls [q.1, zi s0, Sum.inr s1] q.2) := eb_E_c hk65 rfl
theorem e65_42 {s0 : Option eb_A} : eb_E L d 65 42 ls ([a1, a0, Sum.inr s0]) M = (eb_ev L d 900 [a0, a1] M).bind (fun q => eb_E L d 65 45 ls [q.1, Sum.inr s0] q.2) := eb_E_c hk65 rfl
theorem e65_45  : eb_E L d 65 45 ls ([a1, a0]) M = (eb_ev L d 10 [a0, a1] M).bind (fun q => eb_E L d 65 48 ls [q.1] q.2) := eb_E_c hk65 rfl
theorem e65_48 {x : Int32} : eb_E L d 65 48 ls ([zi x]) M = if x = 0 ∨ x = 1 then some (zi x, M) else none := eb_E_ri hk65 rfl
/-! X4_draw -/
theorem hk66 : eb_cd L 66 = eb_look (kt66 L) := rfl
theorem h66 (ha : (eb_ty L a.1).1 = 4) {x1 : Int32} : eb_ev L (d + 1) 66 [zr a, zi x1] M = eb_E L d 66 0 [some (zr a), some (zi x1)] [] M := eb_ev_s rfl (eb_chk_i ha rfl)
theorem e66_0 {x : Option eb_A} : eb_E L d 66 0 [some (Sum.inr x), v1] (st) M = eb_E L d 66 1 [some (Sum.inr x), v1] (Sum.inr x :: st) M := eb_E_s hk66 rfl
theorem e66_1 {x : Option eb_A} : eb_E L d 66 1 [some (Sum.inr x), v1] (st) M = eb_E L d 66 2 [some (Sum.inr x), v1] (Sum.inr x :: st) M := eb_E_s hk66 rfl
theorem e66_2  : eb_E L d 66 2 ls (Sum.inr (some a) :: st) (nc, ns, I, J, R) = if (eb_ty L a.1).1 = 4 then eb_E L d 66 5 ls (zi (I a 6) :: st) (nc, ns, I, J, R) else none := eb_E_iy hk66 rfl
theorem e66_5  : eb_E L d 66 5 ls (st) M = eb_E L d 66 7 ls (zi 1103515245 :: st) M := eb_E_s hk66 rfl
theorem e66_7 {x : Int32} {y : Int32} : eb_E L d 66 7 ls (zi y :: zi x :: st) M = eb_E L d 66 8 ls (zi (x * y) :: st) M := eb_E_s hk66 rfl
theorem e66_8  : eb_E L d 66 8 ls (st) M = eb_E L d 66 11 ls (zi 12345 :: st) M := eb_E_s hk66 rfl
theorem e66_11 {x : Int32} {y : Int32} : eb_E L d 66 11 ls (zi y :: zi x :: st) M = eb_E L d 66 12 ls (zi (x + y) :: st) M := eb_E_s hk66 rfl
theorem e66_12 {x : Int32} : eb_E L d 66 12 ls (zi x :: Sum.inr (some a) :: st) (nc, ns, I, J, R) = if (eb_ty L a.1).1 = 4 then eb_E L d 66 15 ls (st) (nc, ns, eb_u I a 6 x, J, R) else none := eb_E_iy hk66 rfl
theorem e66_15 {x : Int32} : eb_E L d 66 15 [v0, some (zi x)] (st) M = eb_E L d 66 16 [v0, some (zi x)] (zi x :: st) M := eb_E_s hk66 rfl
theorem e66_16  : eb_E L d 66 16 ls (st) M = eb_E L d 66 17 ls (zi 1 :: st) M := eb_E_s hk66 rfl
theorem e66_17 {x : Int32} {y : Int32} : eb_E L d 66 17 ls (zi y :: zi x :: st) M = if x < y then eb_E L d 66 20 ls st M else eb_E L d 66 24 ls st M := eb_E_b hk66 rfl
theorem e66_20  : eb_E L d 66 20 ls (st) M = eb_E L d 66 21 ls (zi 0 :: st) M := eb_E_s hk66 rfl
theorem e66_21  : eb_E L d 66 21 ls (st) M = eb_E L d 66 33 ls (st) M := eb_E_s hk66 rfl
theorem e66_24 {x : Option eb_A} : eb_E L d 66 24 [some (Sum.inr x), v1] (st) M = eb_E L d 66 25 [some (Sum.inr x), v1] (Sum.inr x :: st) M := eb_E_s hk66 rfl
theorem e66_25  : eb_E L d 66 25 ls (Sum.inr (some a) :: st) (nc, ns, I, J, R) = if (eb_ty L a.1).1 = 4 then eb_E L d 66 28 ls (zi (I a 6) :: st) (nc, ns, I, J, R) else none := eb_E_iy hk66 rfl
theorem e66_28  : eb_E L d 66 28 ls (st) M = eb_E L d 66 30 ls (zi 16 :: st) M := eb_E_s hk66 rfl
theorem e66_30 {x : Int32} {y : Int32} : eb_E L d 66 30 ls (zi y :: zi x :: st) M = eb_E L d 66 31 ls (zi ((x.toUInt32 >>> (y.toUInt32 &&& Int32.toUInt32 31)).toInt32) :: st) M := eb_E_s hk66 rfl
theorem e66_31 {x : Int32} : eb_E L d 66 31 [v0, some (zi x)] (st) M = eb_E L d 66 32 [v0, some (zi x)] (zi x :: st) M := eb_E_s hk66 rfl
theorem e66_32 {x : Int32} {y : Int32} : eb_E L d 66 32 ls (zi y :: zi x :: st) M = if y = 0 then none else eb_E L d 66 33 ls (zi (x - x / y * y) :: st) M := eb_E_in hk66 rfl
theorem e66_33 {x : Int32} : eb_E L d 66 33 ls ([zi x]) M = some (zi x, M) := eb_E_r hk66 rfl
/-! J6_bitCount_0f7a4 -/
theorem hk252 : eb_cd L 252 = eb_look (kt252 L) := rfl
theorem h252 {x0 : Int32} : eb_ev L (d + 1) 252 [zi x0] M = eb_E L d 252 0 [some (zi x0)] [] M := eb_ev_s rfl rfl
theorem e252_0 {x : Int32} : eb_E L d 252 0 [some (zi x)] (st) M = eb_E L d 252 1 [some (zi x)] (zi x :: st) M := eb_E_s hk252 rfl
theorem e252_1 {x : Int32} : eb_E L d 252 1 [some (zi x)] (st) M = eb_E L d 252 2 [some (zi x)] (zi x :: st) M := eb_E_s hk252 rfl
theorem e252_2  : eb_E L d 252 2 ls (st) M = eb_E L d 252 3 ls (zi 1 :: st) M := eb_E_s hk252 rfl
theorem e252_3 {x : Int32} {y : Int32} : eb_E L d 252 3 ls (zi y :: zi x :: st) M = eb_E L d 252 4 ls (zi ((x.toUInt32 >>> (y.toUInt32 &&& Int32.toUInt32 31)).toInt32) :: st) M := eb_E_s hk252 rfl
theorem e252_4  : eb_E L d 252 4 ls (st) M = eb_E L d 252 7 ls (zi 1431655765 :: st) M := eb_E_s hk252 rfl
theorem e252_7 {x : Int32} {y : Int32} : eb_E L d 252 7 ls (zi y :: zi x :: st) M = eb_E L d 252 8 ls (zi (x &&& y) :: st) M := eb_E_s hk252 rfl
theorem e252_8 {x : Int32} {y : Int32} : eb_E L d 252 8 ls (zi y :: zi x :: st) M = eb_E L d 252 9 ls (zi (x - y) :: st) M := eb_E_s hk252 rfl
theorem e252_9 {x : Int32} : eb_E L d 252 9 [v0] (zi x :: st) M = eb_E L d 252 10 [some (zi x)] (st) M := eb_E_s hk252 rfl
theorem e252_10 {x : Int32} : eb_E L d 252 10 [some (zi x)] (st) M = eb_E L d 252 11 [some (zi x)] (zi x :: st) M := eb_E_s hk252 rfl
theorem e252_11  : eb_E L d 252 11 ls (st) M = eb_E L d 252 14 ls (zi 858993459 :: st) M := eb_E_s hk252 rfl
theorem e252_14 {x : Int32} {y : Int32} : eb_E L d 252 14 ls (zi y :: zi x :: st) M = eb_E L d 252 15 ls (zi (x &&& y) :: st) M := eb_E_s hk252 rfl
theorem e252_15 {x : Int32} : eb_E L d 252 15 [some (zi x)] (st) M = eb_E L d 252 16 [some (zi x)] (zi x :: st) M := eb_E_s hk252 rfl
theorem e252_16  : eb_E L d 252 16 ls (st) M = eb_E L d 252 17 ls (zi 2 :: st) M := eb_E_s hk252 rfl
theorem e252_17 {x : Int32} {y : Int32} : eb_E L d 252 17 ls (zi y :: zi x :: st) M = eb_E L d 252 18 ls (zi ((x.toUInt32 >>> (y.toUInt32 &&& Int32.toUInt32 31)).toInt32) :: st) M := eb_E_s hk252 rfl
theorem e252_18  : eb_E L d 252 18 ls (st) M = eb_E L d 252 21 ls (zi 858993459 :: st) M := eb_E_s hk252 rfl
theorem e252_21 {x : Int32} {y : Int32} : eb_E L d 252 21 ls (zi y :: zi x :: st) M = eb_E L d 252 22 ls (zi (x &&& y) :: st) M := eb_E_s hk252 rfl
theorem e252_22 {x : Int32} {y : Int32} : eb_E L d 252 22 ls (zi y :: zi x :: st) M = eb_E L d 252 23 ls (zi (x + y) :: st) M := eb_E_s hk252 rfl
theorem e252_23 {x : Int32} : eb_E L d 252 23 [v0] (zi x :: st) M = eb_E L d 252 24 [some (zi x)] (st) M := eb_E_s hk252 rfl
theorem e252_24 {x : Int32} : eb_E L d 252 24 [some (zi x)] (st) M = eb_E L d 252 25 [some (zi x)] (zi x :: st) M := eb_E_s hk252 rfl
theorem e252_25 {x : Int32} : eb_E L d 252 25 [some (zi x)] (st) M = eb_E L d 252 26 [some (zi x)] (zi x :: st) M := eb_E_s hk252 rfl
theorem e252_26  : eb_E L d 252 26 ls (st) M = eb_E L d 252 27 ls (zi 4 :: st) M := eb_E_s hk252 rfl
theorem e252_27 {x : Int32} {y : Int32} : eb_E L d 252 27 ls (zi y :: zi x :: st) M = eb_E L d 252 28 ls (zi ((x.toUInt32 >>> (y.toUInt32 &&& Int32.toUInt32 31)).toInt32) :: st) M := eb_E_s hk252 rfl
theorem e252_28 {x : Int32} {y : Int32} : eb_E L d 252 28 ls (zi y :: zi x :: st) M = eb_E L d 252 29 ls (zi (x + y) :: st) M := eb_E_s hk252 rfl
theorem e252_29  : eb_E L d 252 29 ls (st) M = eb_E L d 252 32 ls (zi 252645135 :: st) M := eb_E_s hk252 rfl
theorem e252_32 {x : Int32} {y : Int32} : eb_E L d 252 32 ls (zi y :: zi x :: st) M = eb_E L d 252 33 ls (zi (x &&& y) :: st) M := eb_E_s hk252 rfl
theorem e252_33 {x : Int32} : eb_E L d 252 33 [v0] (zi x :: st) M = eb_E L d 252 34 [some (zi x)] (st) M := eb_E_s hk252 rfl
theorem e252_34 {x : Int32} : eb_E L d 252 34 [some (zi x)] (st) M = eb_E L d 252 35 [some (zi x)] (zi x :: st) M := eb_E_s hk252 rfl
theorem e252_35 {x : Int32} : eb_E L d 252 35 [some (zi x)] (st) M = eb_E L d 252 36 [some (zi x)] (zi x :: st) M := eb_E_s hk252 rfl
theorem e252_36  : eb_E L d 252 36 ls (st) M = eb_E L d 252 38 ls (zi 8 :: st) M := eb_E_s hk252 rfl
theorem e252_38 {x : Int32} {y : Int32} : eb_E L d 252 38 ls (zi y :: zi x :: st) M = eb_E L d 252 39 ls (zi ((x.toUInt32 >>> (y.toUInt32 &&& Int32.toUInt32 31)).toInt32) :: st) M := eb_E_s hk252 rfl
theorem e252_39 {x : Int32} {y : Int32} : eb_E L d 252 39 ls (zi y :: zi x :: st) M = eb_E L d 252 40 ls (zi (x + y) :: st) M := eb_E_s hk252 rfl
theorem e252_40 {x : Int32} : eb_E L d 252 40 [v0] (zi x :: st) M = eb_E L d 252 41 [some (zi x)] (st) M := eb_E_s hk252 rfl
theorem e252_41 {x : Int32} : eb_E L d 252 41 [some (zi x)] (st) M = eb_E L d 252 42 [some (zi x)] (zi x :: st) M := eb_E_s hk252 rfl
theorem e252_42 {x : Int32} : eb_E L d 252 42 [some (zi x)] (st) M = eb_E L d 252 43 [some (zi x)] (zi x :: st) M := eb_E_s hk252 rfl
theorem e252_43  : eb_E L d 252 43 ls (st) M = eb_E L d 252 45 ls (zi 16 :: st) M := eb_E_s hk252 rfl
theorem e252_45 {x : Int32} {y : Int32} : eb_E L d 252 45 ls (zi y :: zi x :: st) M = eb_E L d 252 46 ls (zi ((x.toUInt32 >>> (y.toUInt32 &&& Int32.toUInt32 31)).toInt32) :: st) M := eb_E_s hk252 rfl
theorem e252_46 {x : Int32} {y : Int32} : eb_E L d 252 46 ls (zi y :: zi x :: st) M = eb_E L d 252 47 ls (zi (x + y) :: st) M := eb_E_s hk252 rfl
theorem e252_47 {x : Int32} : eb_E L d 252 47 [v0] (zi x :: st) M = eb_E L d 252 48 [some (zi x)] (st) M := eb_E_s hk252 rfl
theorem e252_48 {x : Int32} : eb_E L d 252 48 [some (zi x)] (st) M = eb_E L d 252 49 [some (zi x)] (zi x :: st) M := eb_E_s hk252 rfl
theorem e252_49  : eb_E L d 252 49 ls (st) M = eb_E L d 252 51 ls (zi 63 :: st) M := eb_E_s hk252 rfl
theorem e252_51 {x : Int32} {y : Int32} : eb_E L d 252 51 ls (zi y :: zi x :: st) M = eb_E L d 252 52 ls (zi (x &&& y) :: st) M := eb_E_s hk252 rfl
theorem e252_52 {x : Int32} : eb_E L d 252 52 ls ([zi x]) M = some (zi x, M) := eb_E_r hk252 rfl
end

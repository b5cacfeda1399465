section
variable {L d : Nat} {v0 v1 v2 v3 v4 v5 v6 v7 v8 v9 v10 : Option eb_V} {a0 a1 a2 a3 a4 a5 : eb_V} {ls : List (Option eb_V)} {st : List eb_V} {M : eb_M} {nc ns : Nat} {I : eb_A → Nat → Int32} {J : eb_A → Nat → Int64} {R : eb_A → Nat → Option eb_A} {a b : eb_A}

/-! X6_init -/
theorem hk144 : eb_cd L 144 = eb_look (kt144 L) := rfl
theorem h144 (ha : (eb_ty L a.1).1 = 6) : eb_ev L (d + 1) 144 [zr a] M = eb_E L d 144 0 [some (zr a)] [] M := eb_ev_s rfl (eb_chk_i ha rfl)
theorem e144_0 {x : Option eb_A} : eb_E L d 144 0 [some (Sum.inr x)] (st) M = eb_E L d 144 1 [some (Sum.inr x)] (Sum.inr x :: st) M := eb_E_s hk144 rfl
theorem e144_1  : eb_E L d 144 1 ls ([a0]) M = (eb_ev L d 903 [a0] M).bind (fun q => eb_E L d 144 4 ls [] q.2) := eb_E_c hk144 rfl
theorem e144_4 {x : Option eb_A} : eb_E L d 144 4 [some (Sum.inr x)] (st) M = eb_E L d 144 5 [some (Sum.inr x)] (Sum.inr x :: st) M := eb_E_s hk144 rfl
theorem e144_5  : eb_E L d 144 5 ls (st) M = eb_E L d 144 7 ls (zi 8 :: st) M := eb_E_s hk144 rfl
theorem e144_7 {x : Int32} : eb_E L d 144 7 ls (zi x :: st) (nc, ns, I, J, R) = if eb_ty L (eb_nm nc).1 = (10, x.toNatClampNeg) ∧ ¬ x < 0 ∧ x.toNatClampNeg ≤ 1000 then eb_E L d 144 9 ls (zr (eb_nm nc) :: st) (nc + 1, ns + x.toNatClampNeg, eb_zI I (eb_nm nc), J, R) else none := eb_E_iy hk144 rfl
theorem e144_9 {x : Option eb_A} : eb_E L d 144 9 ls (Sum.inr x :: Sum.inr (some a) :: st) (nc, ns, I, J, R) = if (eb_ty L a.1).1 = 6 then eb_E L d 144 12 ls (st) (nc, ns, I, J, eb_u R a 0 x) else none := eb_E_iy hk144 rfl
theorem e144_12 {x : Option eb_A} : eb_E L d 144 12 [some (Sum.inr x)] (st) M = eb_E L d 144 13 [some (Sum.inr x)] (Sum.inr x :: st) M := eb_E_s hk144 rfl
theorem e144_13  : eb_E L d 144 13 ls (st) M = eb_E L d 144 15 ls (zi 8 :: st) M := eb_E_s hk144 rfl
theorem e144_15 {x : Int32} : eb_E L d 144 15 ls (zi x :: st) (nc, ns, I, J, R) = if eb_ty L (eb_nm nc).1 = (10, x.toNatClampNeg) ∧ ¬ x < 0 ∧ x.toNatClampNeg ≤ 1000 then eb_E L d 144 17 ls (zr (eb_nm nc) :: st) (nc + 1, ns + x.toNatClampNeg, eb_zI I (eb_nm nc), J, R) else none := eb_E_iy hk144 rfl
theorem e144_17 {x : Option eb_A} : eb_E L d 144 17 ls (Sum.inr x :: Sum.inr (some a) :: st) (nc, ns, I, J, R) = if (eb_ty L a.1).1 = 6 then eb_E L d 144 20 ls (st) (nc, ns, I, J, eb_u R a 1 x) else none := eb_E_iy hk144 rfl
theorem e144_20 {x : Option eb_A} : eb_E L d 144 20 [some (Sum.inr x)] (st) M = eb_E L d 144 21 [some (Sum.inr x)] (Sum.inr x :: st) M := eb_E_s hk144 rfl
theorem e144_21  : eb_E L d 144 21 ls (st) M = eb_E L d 144 23 ls (zi 8 :: st) M := eb_E_s hk144 rfl
theorem e144_23 {x : Int32} : eb_E L d 144 23 ls (zi x :: st) (nc, ns, I, J, R) = if eb_ty L (eb_nm nc).1 = (10, x.toNatClampNeg) ∧ ¬ x < 0 ∧ x.toNatClampNeg ≤ 1000 then eb_E L d 144 25 ls (zr (eb_nm nc) :: st) (nc + 1, ns + x.toNatClampNeg, eb_zI I (eb_nm nc), J, R) else none := eb_E_iy hk144 rfl
theorem e144_25 {x : Option eb_A} : eb_E L d 144 25 ls (Sum.inr x :: Sum.inr (some a) :: st) (nc, ns, I, J, R) = if (eb_ty L a.1).1 = 6 then eb_E L d 144 28 ls (st) (nc, ns, I, J, eb_u R a 2 x) else none := eb_E_iy hk144 rfl
theorem e144_28 {x : Option eb_A} : eb_E L d 144 28 [some (Sum.inr x)] (st) M = eb_E L d 144 29 [some (Sum.inr x)] (Sum.inr x :: st) M := eb_E_s hk144 rfl
theorem e144_29  : eb_E L d 144 29 ls (st) M = eb_E L d 144 31 ls (zi 8 :: st) M := eb_E_s hk144 rfl
theorem e144_31  : eb_E L d 144 31 ls (st) M = eb_E L d 144 33 ls (zi 40 :: st) M := eb_E_s hk144 rfl
theorem e144_33 {x : Int32} {y : Int32} : eb_E L d 144 33 ls (zi y :: zi x :: st) (nc, ns, I, J, R) = if eb_ty L (eb_nm nc).1 = (16, x.toNatClampNeg) ∧ (¬ x < 0 ∧ x.toNatClampNeg ≤ 1000 ∧ ¬ y < 0 ∧ y.toNatClampNeg ≤ 1000) ∧ (List.range x.toNatClampNeg).all (fun i => decide (eb_ty L (eb_nm (nc + 1 + i)).1 = (11, y.toNatClampNeg))) = true then eb_E L d 144 37 ls (zr (eb_nm nc) :: st) (nc + 1 + x.toNatClampNeg, ns + (x.toNatClampNeg + x.toNatClampNeg * y.toNatClampNeg), I, eb_zJs J (nc + 1) x.toNatClampNeg, eb_uRs R (eb_nm nc) (nc + 1) x.toNatClampNeg) else none := eb_E_iy hk144 rfl
theorem e144_37 {x : Option eb_A} : eb_E L d 144 37 ls (Sum.inr x :: Sum.inr (some a) :: st) (nc, ns, I, J, R) = if (eb_ty L a.1).1 = 6 then eb_E L d 144 40 ls (st) (nc, ns, I, J, eb_u R a 3 x) else none := eb_E_iy hk144 rfl
theorem e144_40 {x : Option eb_A} : eb_E L d 144 40 [some (Sum.inr x)] (st) M = eb_E L d 144 41 [some (Sum.inr x)] (Sum.inr x :: st) M := eb_E_s hk144 rfl
theorem e144_41  : eb_E L d 144 41 ls (st) M = eb_E L d 144 43 ls (zi 40 :: st) M := eb_E_s hk144 rfl
theorem e144_43 {x : Int32} : eb_E L d 144 43 ls (zi x :: st) (nc, ns, I, J, R) = if eb_ty L (eb_nm nc).1 = (11, x.toNatClampNeg) ∧ ¬ x < 0 ∧ x.toNatClampNeg ≤ 1000 then eb_E L d 144 45 ls (zr (eb_nm nc) :: st) (nc + 1, ns + x.toNatClampNeg, I, eb_zJ J (eb_nm nc), R) else none := eb_E_iy hk144 rfl
theorem e144_45 {x : Option eb_A} : eb_E L d 144 45 ls (Sum.inr x :: Sum.inr (some a) :: st) (nc, ns, I, J, R) = if (eb_ty L a.1).1 = 6 then eb_E L d 144 48 ls (st) (nc, ns, I, J, eb_u R a 4 x) else none := eb_E_iy hk144 rfl
theorem e144_48 {x : Option eb_A} : eb_E L d 144 48 [some (Sum.inr x)] (st) M = eb_E L d 144 49 [some (Sum.inr x)] (Sum.inr x :: st) M := eb_E_s hk144 rfl
theorem e144_49  : eb_E L d 144 49 ls (st) M = eb_E L d 144 51 ls (zi 8 :: st) M := eb_E_s hk144 rfl
theorem e144_51 {x : Int32} : eb_E L d 144 51 ls (zi x :: st) (nc, ns, I, J, R) = if eb_ty L (eb_nm nc).1 = (10, x.toNatClampNeg) ∧ ¬ x < 0 ∧ x.toNatClampNeg ≤ 1000 then eb_E L d 144 53 ls (zr (eb_nm nc) :: st) (nc + 1, ns + x.toNatClampNeg, eb_zI I (eb_nm nc), J, R) else none := eb_E_iy hk144 rfl
theorem e144_53 {x : Option eb_A} : eb_E L d 144 53 ls (Sum.inr x :: Sum.inr (some a) :: st) (nc, ns, I, J, R) = if (eb_ty L a.1).1 = 6 then eb_E L d 144 56 ls (st) (nc, ns, I, J, eb_u R a 5 x) else none := eb_E_iy hk144 rfl
theorem e144_56 {x : Option eb_A} : eb_E L d 144 56 [some (Sum.inr x)] (st) M = eb_E L d 144 57 [some (Sum.inr x)] (Sum.inr x :: st) M := eb_E_s hk144 rfl
theorem e144_57  : eb_E L d 144 57 ls (st) M = eb_E L d 144 60 ls (zi 250 :: st) M := eb_E_s hk144 rfl
theorem e144_60 {x : Int32} : eb_E L d 144 60 ls (zi x :: st) (nc, ns, I, J, R) = if eb_ty L (eb_nm nc).1 = (10, x.toNatClampNeg) ∧ ¬ x < 0 ∧ x.toNatClampNeg ≤ 1000 then eb_E L d 144 62 ls (zr (eb_nm nc) :: st) (nc + 1, ns + x.toNatClampNeg, eb_zI I (eb_nm nc), J, R) else none := eb_E_iy hk144 rfl
theorem e144_62 {x : Option eb_A} : eb_E L d 144 62 ls (Sum.inr x :: Sum.inr (some a) :: st) (nc, ns, I, J, R) = if (eb_ty L a.1).1 = 6 then eb_E L d 144 65 ls (st) (nc, ns, I, J, eb_u R a 6 x) else none := eb_E_iy hk144 rfl
theorem e144_65 {x : Option eb_A} : eb_E L d 144 65 [some (Sum.inr x)] (st) M = eb_E L d 144 66 [some (Sum.inr x)] (Sum.inr x :: st) M := eb_E_s hk144 rfl
theorem e144_66  : eb_E L d 144 66 ls (st) M = eb_E L d 144 68 ls (zi 8 :: st) M := eb_E_s hk144 rfl
theorem e144_68 {x : Int32} : eb_E L d 144 68 ls (zi x :: st) (nc, ns, I, J, R) = if eb_ty L (eb_nm nc).1 = (10, x.toNatClampNeg) ∧ ¬ x < 0 ∧ x.toNatClampNeg ≤ 1000 then eb_E L d 144 70 ls (zr (eb_nm nc) :: st) (nc + 1, ns + x.toNatClampNeg, eb_zI I (eb_nm nc), J, R) else none := eb_E_iy hk144 rfl
theorem e144_70 {x : Option eb_A} : eb_E L d 144 70 ls (Sum.inr x :: Sum.inr (some a) :: st) (nc, ns, I, J, R) = if (eb_ty L a.1).1 = 6 then eb_E L d 144 73 ls (st) (nc, ns, I, J, eb_u R a 8 x) else none := eb_E_iy hk144 rfl
theorem e144_73 {x : Option eb_A} : eb_E L d 144 73 [some (Sum.inr x)] (st) M = eb_E L d 144 74 [some (Sum.inr x)] (Sum.inr x :: st) M := eb_E_s hk144 rfl
theorem e144_74  : eb_E L d 144 74 ls (st) M = eb_E L d 144 76 ls (zi 6 :: st) M := eb_E_s hk144 rfl
theorem e144_76  : eb_E L d 144 76 ls (st) M = eb_E L d 144 78 ls (zi 7 :: st) M := eb_E_s hk144 rfl
theorem e144_78 {x : Int32} {y : Int32} : eb_E L d 144 78 ls (zi y :: zi x :: st) (nc, ns, I, J, R) = if eb_ty L (eb_nm nc).1 = (15, x.toNatClampNeg) ∧ (¬ x < 0 ∧ x.toNatClampNeg ≤ 1000 ∧ ¬ y < 0 ∧ y.toNatClampNeg ≤ 1000) ∧ (List.range x.toNatClampNeg).all (fun i => decide (eb_ty L (eb_nm (nc + 1 + i)).1 = (10, y.toNatClampNeg))) = true then eb_E L d 144 82 ls (zr (eb_nm nc) :: st) (nc + 1 + x.toNatClampNeg, ns + (x.toNatClampNeg + x.toNatClampNeg * y.toNatClampNeg), eb_zIs I (nc + 1) x.toNatClampNeg, J, eb_uRs R (eb_nm nc) (nc + 1) x.toNatClampNeg) else none := eb_E_iy hk144 rfl
theorem e144_82 {x : Option eb_A} : eb_E L d 144 82 ls (Sum.inr x :: Sum.inr (some a) :: st) (nc, ns, I, J, R) = if (eb_ty L a.1).1 = 6 then eb_E L d 144 85 ls (st) (nc, ns, I, J, eb_u R a 10 x) else none := eb_E_iy hk144 rfl
theorem e144_85 {x : Option eb_A} : eb_E L d 144 85 [some (Sum.inr x)] (st) M = eb_E L d 144 86 [some (Sum.inr x)] (Sum.inr x :: st) M := eb_E_s hk144 rfl
theorem e144_86  : eb_E L d 144 86 ls (st) M = eb_E L d 144 88 ls (zi 6 :: st) M := eb_E_s hk144 rfl
theorem e144_88  : eb_E L d 144 88 ls (st) M = eb_E L d 144 89 ls (zi 3 :: st) M := eb_E_s hk144 rfl
theorem e144_89 {x : Int32} {y : Int32} : eb_E L d 144 89 ls (zi y :: zi x :: st) (nc, ns, I, J, R) = if eb_ty L (eb_nm nc).1 = (15, x.toNatClampNeg) ∧ (¬ x < 0 ∧ x.toNatClampNeg ≤ 1000 ∧ ¬ y < 0 ∧ y.toNatClampNeg ≤ 1000) ∧ (List.range x.toNatClampNeg).all (fun i => decide (eb_ty L (eb_nm (nc + 1 + i)).1 = (10, y.toNatClampNeg))) = true then eb_E L d 144 93 ls (zr (eb_nm nc) :: st) (nc + 1 + x.toNatClampNeg, ns + (x.toNatClampNeg + x.toNatClampNeg * y.toNatClampNeg), eb_zIs I (nc + 1) x.toNatClampNeg, J, eb_uRs R (eb_nm nc) (nc + 1) x.toNatClampNeg) else none := eb_E_iy hk144 rfl
theorem e144_93 {x : Option eb_A} : eb_E L d 144 93 ls (Sum.inr x :: Sum.inr (some a) :: st) (nc, ns, I, J, R) = if (eb_ty L a.1).1 = 6 then eb_E L d 144 96 ls (st) (nc, ns, I, J, eb_u R a 12 x) else none := eb_E_iy hk144 rfl
theorem e144_96 {x : Option eb_A} : eb_E L d 144 96 [some (Sum.inr x)] (st) M = eb_E L d 144 97 [some (Sum.inr x)] (Sum.inr x :: st) M := eb_E_s hk144 rfl
theorem e144_97  : eb_E L d 144 97 ls (st) M = eb_E L d 144 98 ls (zi 1 :: st) M := eb_E_s hk144 rfl
theorem e144_98 {x : Int32} : eb_E L d 144 98 ls (zi x :: Sum.inr (some a) :: st) (nc, ns, I, J, R) = if (eb_ty L a.1).1 = 6 then eb_E L d 144 101 ls (st) (nc, ns, eb_u I a 15 x, J, R) else none := eb_E_iy hk144 rfl
theorem e144_101 {x : Option eb_A} : eb_E L d 144 101 [some (Sum.inr x)] (st) M = eb_E L d 144 102 [some (Sum.inr x)] (Sum.inr x :: st) M := eb_E_s hk144 rfl
theorem e144_102  : eb_E L d 144 102 ls (st) M = eb_E L d 144 103 ls (zi 3 :: st) M := eb_E_s hk144 rfl
theorem e144_103 {x : Int32} : eb_E L d 144 103 ls (zi x :: st) (nc, ns, I, J, R) = if eb_ty L (eb_nm nc).1 = (10, x.toNatClampNeg) ∧ ¬ x < 0 ∧ x.toNatClampNeg ≤ 1000 then eb_E L d 144 105 ls (zr (eb_nm nc) :: st) (nc + 1, ns + x.toNatClampNeg, eb_zI I (eb_nm nc), J, R) else none := eb_E_iy hk144 rfl
theorem e144_105 {x : Option eb_A} : eb_E L d 144 105 ls (Sum.inr x :: Sum.inr (some a) :: st) (nc, ns, I, J, R) = if (eb_ty L a.1).1 = 6 then eb_E L d 144 108 ls (st) (nc, ns, I, J, eb_u R a 23 x) else none := eb_E_iy hk144 rfl
theorem e144_108 {x : Option eb_A} : eb_E L d 144 108 [some (Sum.inr x)] (st) M = eb_E L d 144 109 [some (Sum.inr x)] (Sum.inr x :: st) M := eb_E_s hk144 rfl
theorem e144_109  : eb_E L d 144 109 ls (st) M = eb_E L d 144 111 ls (zi 6 :: st) M := eb_E_s hk144 rfl
theorem e144_111  : eb_E L d 144 111 ls (st) M = eb_E L d 144 113 ls (zi 6 :: st) M := eb_E_s hk144 rfl
theorem e144_113 {x : Int32} {y : Int32} : eb_E L d 144 113 ls (zi y :: zi x :: st) (nc, ns, I, J, R) = if eb_ty L (eb_nm nc).1 = (15, x.toNatClampNeg) ∧ (¬ x < 0 ∧ x.toNatClampNeg ≤ 1000 ∧ ¬ y < 0 ∧ y.toNatClampNeg ≤ 1000) ∧ (List.range x.toNatClampNeg).all (fun i => decide (eb_ty L (eb_nm (nc + 1 + i)).1 = (10, y.toNatClampNeg))) = true then eb_E L d 144 117 ls (zr (eb_nm nc) :: st) (nc + 1 + x.toNatClampNeg, ns + (x.toNatClampNeg + x.toNatClampNeg * y.toNatClampNeg), eb_zIs I (nc + 1) x.toNatClampNeg, J, eb_uRs R (eb_nm nc) (nc + 1) x.toNatClampNeg) else none := eb_E_iy hk144 rfl
theorem e144_117 {x : Option eb_A} : eb_E L d 144 117 ls (Sum.inr x :: Sum.inr (some a) :: st) (nc, ns, I, J, R) = if (eb_ty L a.1).1 = 6 then eb_E L d 144 120 ls (st) (nc, ns, I, J, eb_u R a 25 x) else none := eb_E_iy hk144 rfl
theorem e144_120 {x : Option eb_A} : eb_E L d 144 120 [some (Sum.inr x)] (st) M = eb_E L d 144 121 [some (Sum.inr x)] (Sum.inr x :: st) M := eb_E_s hk144 rfl
theorem e144_121  : eb_E L d 144 121 ls (st) M = eb_E L d 144 123 ls (zi 6 :: st) M := eb_E_s hk144 rfl
theorem e144_123 {x : Int32} : eb_E L d 144 123 ls (zi x :: st) (nc, ns, I, J, R) = if eb_ty L (eb_nm nc).1 = (10, x.toNatClampNeg) ∧ ¬ x < 0 ∧ x.toNatClampNeg ≤ 1000 then eb_E L d 144 125 ls (zr (eb_nm nc) :: st) (nc + 1, ns + x.toNatClampNeg, eb_zI I (eb_nm nc), J, R) else none := eb_E_iy hk144 rfl
theorem e144_125 {x : Option eb_A} : eb_E L d 144 125 ls (Sum.inr x :: Sum.inr (some a) :: st) (nc, ns, I, J, R) = if (eb_ty L a.1).1 = 6 then eb_E L d 144 128 ls (st) (nc, ns, I, J, eb_u R a 26 x) else none := eb_E_iy hk144 rfl
theorem e144_128 {x : Option eb_A} : eb_E L d 144 128 [some (Sum.inr x)] (st) M = eb_E L d 144 129 [some (Sum.inr x)] (Sum.inr x :: st) M := eb_E_s hk144 rfl
theorem e144_129  : eb_E L d 144 129 ls (st) M = eb_E L d 144 131 ls (zi 6 :: st) M := eb_E_s hk144 rfl
theorem e144_131 {x : Int32} : eb_E L d 144 131 ls (zi x :: st) (nc, ns, I, J, R) = if eb_ty L (eb_nm nc).1 = (10, x.toNatClampNeg) ∧ ¬ x < 0 ∧ x.toNatClampNeg ≤ 1000 then eb_E L d 144 133 ls (zr (eb_nm nc) :: st) (nc + 1, ns + x.toNatClampNeg, eb_zI I (eb_nm nc), J, R) else none := eb_E_iy hk144 rfl
theorem e144_133 {x : Option eb_A} : eb_E L d 144 133 ls (Sum.inr x :: Sum.inr (some a) :: st) (nc, ns, I, J, R) = if (eb_ty L a.1).1 = 6 then eb_E L d 144 136 ls (st) (nc, ns, I, J, eb_u R a 27 x) else none := eb_E_iy hk144 rfl
theorem e144_136 {x : Option eb_A} : eb_E L d 144 136 [some (Sum.inr x)] (st) M = eb_E L d 144 137 [some (Sum.inr x)] (Sum.inr x :: st) M := eb_E_s hk144 rfl
theorem e144_137  : eb_E L d 144 137 ls (st) M = eb_E L d 144 139 ls (zi 6 :: st) M := eb_E_s hk144 rfl
theorem e144_139 {x : Int32} : eb_E L d 144 139 ls (zi x :: st) (nc, ns, I, J, R) = if eb_ty L (eb_nm nc).1 = (10, x.toNatClampNeg) ∧ ¬ x < 0 ∧ x.toNatClampNeg ≤ 1000 then eb_E L d 144 141 ls (zr (eb_nm nc) :: st) (nc + 1, ns + x.toNatClampNeg, eb_zI I (eb_nm nc), J, R) else none := eb_E_iy hk144 rfl
theorem e144_141 {x : Option eb_A} : eb_E L d 144 141 ls (Sum.inr x :: Sum.inr (some a) :: st) (nc, ns, I, J, R) = if (eb_ty L a.1).1 = 6 then eb_E L d 144 144 ls (st) (nc, ns, I, J, eb_u R a 28 x) else none := eb_E_iy hk144 rfl
theorem e144_144 {x : Option eb_A} : eb_E L d 144 144 [some (Sum.inr x)] (st) M = eb_E L d 144 145 [some (Sum.inr x)] (Sum.inr x :: st) M := eb_E_s hk144 rfl
theorem e144_145  : eb_E L d 144 145 ls (st) M = eb_E L d 144 147 ls (zi 6 :: st) M := eb_E_s hk144 rfl
theorem e144_147 {x : Int32} : eb_E L d 144 147 ls (zi x :: st) (nc, ns, I, J, R) = if eb_ty L (eb_nm nc).1 = (10, x.toNatClampNeg) ∧ ¬ x < 0 ∧ x.toNatClampNeg ≤ 1000 then eb_E L d 144 149 ls (zr (eb_nm nc) :: st) (nc + 1, ns + x.toNatClampNeg, eb_zI I (eb_nm nc), J, R) else none := eb_E_iy hk144 rfl
theorem e144_149 {x : Option eb_A} : eb_E L d 144 149 ls (Sum.inr x :: Sum.inr (some a) :: st) (nc, ns, I, J, R) = if (eb_ty L a.1).1 = 6 then eb_E L d 144 152 ls (st) (nc, ns, I, J, eb_u R a 30 x) else none := eb_E_iy hk144 rfl
theorem e144_152 {x : Option eb_A} : eb_E L d 144 152 [some (Sum.inr x)] (st) M = eb_E L d 144 153 [some (Sum.inr x)] (Sum.inr x :: st) M := eb_E_s hk144 rfl
theorem e144_153  : eb_E L d 144 153 ls (st) M = eb_E L d 144 155 ls (zi 6 :: st) M := eb_E_s hk144 rfl
theorem e144_155 {x : Int32} : eb_E L d 144 155 ls (zi x :: st) (nc, ns, I, J, R) = if eb_ty L (eb_nm nc).1 = (10, x.toNatClampNeg) ∧ ¬ x < 0 ∧ x.toNatClampNeg ≤ 1000 then eb_E L d 144 157 ls (zr (eb_nm nc) :: st) (nc + 1, ns + x.toNatClampNeg, eb_zI I (eb_nm nc), J, R) else none := eb_E_iy hk144 rfl
theorem e144_157 {x : Option eb_A} : eb_E L d 144 157 ls (Sum.inr x :: Sum.inr (some a) :: st) (nc, ns, I, J, R) = if (eb_ty L a.1).1 = 6 then eb_E L d 144 160 ls (st) (nc, ns, I, J, eb_u R a 31 x) else none := eb_E_iy hk144 rfl
theorem e144_160 {x : Option eb_A} : eb_E L d 144 160 [some (Sum.inr x)] (st) M = eb_E L d 144 161 [some (Sum.inr x)] (Sum.inr x :: st) M := eb_E_s hk144 rfl
theorem e144_161  : eb_E L d 144 161 ls (st) M = eb_E L d 144 162 ls (zi 3 :: st) M := eb_E_s hk144 rfl
theorem e144_162 {x : Int32} : eb_E L d 144 162 ls (zi x :: st) (nc, ns, I, J, R) = if eb_ty L (eb_nm nc).1 = (10, x.toNatClampNeg) ∧ ¬ x < 0 ∧ x.toNatClampNeg ≤ 1000 then eb_E L d 144 164 ls (zr (eb_nm nc) :: st) (nc + 1, ns + x.toNatClampNeg, eb_zI I (eb_nm nc), J, R) else none := eb_E_iy hk144 rfl
theorem e144_164 {x : Option eb_A} : eb_E L d 144 164 ls (Sum.inr x :: Sum.inr (some a) :: st) (nc, ns, I, J, R) = if (eb_ty L a.1).1 = 6 then eb_E L d 144 167 ls (st) (nc, ns, I, J, eb_u R a 33 x) else none := eb_E_iy hk144 rfl
theorem e144_167  : eb_E L d 144 167 ls ([]) M = some (zn, M) := eb_E_r hk144 rfl
/-! X6_refuse -/
theorem hk145 : eb_cd L 145 = eb_look (kt145 L) := rfl
theorem h145 (ha : (eb_ty L a.1).1 = 6) {x1 : Int32} : eb_ev L (d + 1) 145 [zr a, zi x1] M = eb_E L d 145 0 [some (zr a), some (zi x1)] [] M := eb_ev_s rfl (eb_chk_i ha rfl)
theorem e145_0 {x : Option eb_A} : eb_E L d 145 0 [some (Sum.inr x), v1] (st) M = eb_E L d 145 1 [some (Sum.inr x), v1] (Sum.inr x :: st) M := eb_E_s hk145 rfl
theorem e145_1  : eb_E L d 145 1 ls (Sum.inr (some a) :: st) (nc, ns, I, J, R) = if (eb_ty L a.1).1 = 6 then eb_E L d 145 4 ls (Sum.inr (R a 8) :: st) (nc, ns, I, J, R) else none := eb_E_iy hk145 rfl
theorem e145_4 {x : Int32} : eb_E L d 145 4 [v0, some (zi x)] (st) M = eb_E L d 145 5 [v0, some (zi x)] (zi x :: st) M := eb_E_s hk145 rfl
theorem e145_5 {x : Int32} : eb_E L d 145 5 ls (zi x :: st) M = eb_E L d 145 6 ls (zi (-x) :: st) M := eb_E_s hk145 rfl
theorem e145_6 {x : Option eb_A} {y : Int32} : eb_E L d 145 6 ls (zi y :: Sum.inr x :: st) M = eb_E L d 145 7 ls (zi y :: Sum.inr x :: zi y :: Sum.inr x :: st) M := eb_E_s hk145 rfl
theorem e145_7 {x : Int32} : eb_E L d 145 7 ls (zi x :: Sum.inr (some a) :: st) (nc, ns, I, J, R) = if (eb_ty L a.1).1 = 10 ∧ eb_in x (eb_ty L a.1).2 = true then eb_E L d 145 8 ls (zi (I a x.toNatClampNeg) :: st) (nc, ns, I, J, R) else none := eb_E_iy hk145 rfl
theorem e145_8  : eb_E L d 145 8 ls (st) M = eb_E L d 145 9 ls (zi 1 :: st) M := eb_E_s hk145 rfl
theorem e145_9 {x : Int32} {y : Int32} : eb_E L d 145 9 ls (zi y :: zi x :: st) M = eb_E L d 145 10 ls (zi (x + y) :: st) M := eb_E_s hk145 rfl
theorem e145_10 {x : Int32} {v : Int32} : eb_E L d 145 10 ls (zi v :: zi x :: Sum.inr (some a) :: st) (nc, ns, I, J, R) = if (eb_ty L a.1).1 = 10 ∧ eb_in x (eb_ty L a.1).2 = true then eb_E L d 145 11 ls (st) (nc, ns, eb_u I a x.toNatClampNeg v, J, R) else none := eb_E_iy hk145 rfl
theorem e145_11 {x : Int32} : eb_E L d 145 11 [v0, some (zi x)] (st) M = eb_E L d 145 12 [v0, some (zi x)] (zi x :: st) M := eb_E_s hk145 rfl
theorem e145_12 {x : Int32} : eb_E L d 145 12 ls ([zi x]) M = some (zi x, M) := eb_E_r hk145 rfl
/-! X6_in -/
theorem hk146 : eb_cd L 146 = eb_look (kt146 L) := rfl
theorem h146 {l0 : Int64} {l1 : Int64} {l2 : Int64} : eb_ev L (d + 1) 146 [zl l0, zl l1, zl l2] M = eb_E L d 146 0 [some (zl l0), none, some (zl l1), none, some (zl l2), none] [] M := eb_ev_s rfl rfl
theorem e146_0 {x : Int64} : eb_E L d 146 0 [some (zl x), v1, v2, v3, v4, v5] (st) M = eb_E L d 146 1 [some (zl x), v1, v2, v3, v4, v5] (zl x :: st) M := eb_E_s hk146 rfl
theorem e146_1 {x : Int64} : eb_E L d 146 1 [v0, v1, some (zl x), v3, v4, v5] (st) M = eb_E L d 146 2 [v0, v1, some (zl x), v3, v4, v5] (zl x :: st) M := eb_E_s hk146 rfl
theorem e146_2 {x : Int64} {y : Int64} : eb_E L d 146 2 ls (zl y :: zl x :: st) M = eb_E L d 146 3 ls (zi (if x < y then -1 else if x = y then 0 else 1) :: st) M := eb_E_s hk146 rfl
theorem e146_3 {x : Int32} : eb_E L d 146 3 ls (zi x :: st) M = if x < 0 then eb_E L d 146 17 ls st M else eb_E L d 146 6 ls st M := eb_E_b hk146 rfl
theorem e146_6 {x : Int64} : eb_E L d 146 6 [some (zl x), v1, v2, v3, v4, v5] (st) M = eb_E L d 146 7 [some (zl x), v1, v2, v3, v4, v5] (zl x :: st) M := eb_E_s hk146 rfl
theorem e146_7 {x : Int64} : eb_E L d 146 7 [v0, v1, v2, v3, some (zl x), v5] (st) M = eb_E L d 146 9 [v0, v1, v2, v3, some (zl x), v5] (zl x :: st) M := eb_E_s hk146 rfl
theorem e146_9 {x : Int64} {y : Int64} : eb_E L d 146 9 ls (zl y :: zl x :: st) M = eb_E L d 146 10 ls (zi (if x < y then -1 else if x = y then 0 else 1) :: st) M := eb_E_s hk146 rfl
theorem e146_10 {x : Int32} : eb_E L d 146 10 ls (zi x :: st) M = if 0 < x then eb_E L d 146 17 ls st M else eb_E L d 146 13 ls st M := eb_E_b hk146 rfl
theorem e146_13  : eb_E L d 146 13 ls (st) M = eb_E L d 146 14 ls (zi 1 :: st) M := eb_E_s hk146 rfl
theorem e146_14  : eb_E L d 146 14 ls (st) M = eb_E L d 146 18 ls (st) M := eb_E_s hk146 rfl
theorem e146_17  : eb_E L d 146 17 ls (st) M = eb_E L d 146 18 ls (zi 0 :: st) M := eb_E_s hk146 rfl
theorem e146_18 {x : Int32} : eb_E L d 146 18 ls ([zi x]) M = if x = 0 ∨ x = 1 then some (zi x, M) else none := eb_E_ri hk146 rfl
/-! X6_within -/
theorem hk147 : eb_cd L 147 = eb_look (kt147 L) := rfl
theorem h147 {x0 : Int32} {x1 : Int32} : eb_ev L (d + 1) 147 [zi x0, zi x1] M = eb_E L d 147 0 [some (zi x0), some (zi x1)] [] M := eb_ev_s rfl rfl
theorem e147_0 {x : Int32} : eb_E L d 147 0 [some (zi x), v1] (st) M = eb_E L d 147 1 [some (zi x), v1] (zi x :: st) M := eb_E_s hk147 rfl
theorem e147_1 {x : Int32} : eb_E L d 147 1 ls (zi x :: st) M = if x < 0 then eb_E L d 147 4 ls st M else eb_E L d 147 8 ls st M := eb_E_b hk147 rfl
theorem e147_4  : eb_E L d 147 4 ls (st) M = eb_E L d 147 5 ls (zi 0 :: st) M := eb_E_s hk147 rfl
theorem e147_5  : eb_E L d 147 5 ls (st) M = eb_E L d 147 18 ls (st) M := eb_E_s hk147 rfl
theorem e147_8 {x : Int32} : eb_E L d 147 8 [some (zi x), v1] (st) M = eb_E L d 147 9 [some (zi x), v1] (zi x :: st) M := eb_E_s hk147 rfl
theorem e147_9 {x : Int32} : eb_E L d 147 9 [v0, some (zi x)] (st) M = eb_E L d 147 10 [v0, some (zi x)] (zi x :: st) M := eb_E_s hk147 rfl
theorem e147_10 {x : Int32} {y : Int32} : eb_E L d 147 10 ls (zi y :: zi x :: st) M = if y < x then eb_E L d 147 13 ls st M else eb_E L d 147 17 ls st M := eb_E_b hk147 rfl
theorem e147_13 {x : Int32} : eb_E L d 147 13 [v0, some (zi x)] (st) M = eb_E L d 147 14 [v0, some (zi x)] (zi x :: st) M := eb_E_s hk147 rfl
theorem e147_14  : eb_E L d 147 14 ls (st) M = eb_E L d 147 18 ls (st) M := eb_E_s hk147 rfl
theorem e147_17 {x : Int32} : eb_E L d 147 17 [some (zi x), v1] (st) M = eb_E L d 147 18 [some (zi x), v1] (zi x :: st) M := eb_E_s hk147 rfl
theorem e147_18 {x : Int32} : eb_E L d 147 18 ls ([zi x]) M = some (zi x, M) := eb_E_r hk147 rfl
/-! X6_isInn -/
theorem hk148 : eb_cd L 148 = eb_look (kt148 L) := rfl
theorem h148 (ha : (eb_ty L a.1).1 = 6) {x1 : Int32} : eb_ev L (d + 1) 148 [zr a, zi x1] M = eb_E L d 148 0 [some (zr a), some (zi x1)] [] M := eb_ev_s rfl (eb_chk_i ha rfl)
theorem e148_0 {x : Int32} : eb_E L d 148 0 [v0, some (zi x)] (st) M = eb_E L d 148 1 [v0, some (zi x)] (zi x :: st) M := eb_E_s hk148 rfl
theorem e148_1 {x : Int32} : eb_E L d 148 1 ls (zi x :: st) M = eb_E L d 148 2 ls (zl x.toInt64 :: st) M := eb_E_s hk148 rfl
theorem e148_2  : eb_E L d 148 2 ls (st) M = eb_E L d 148 3 ls (zl 0 :: st) M := eb_E_s hk148 rfl
theorem e148_3 {x : Option eb_A} : eb_E L d 148 3 [some (Sum.inr x), v1] (st) M = eb_E L d 148 4 [some (Sum.inr x), v1] (Sum.inr x :: st) M := eb_E_s hk148 rfl
theorem e148_4  : eb_E L d 148 4 ls (Sum.inr (some a) :: st) (nc, ns, I, J, R) = if (eb_ty L a.1).1 = 6 then eb_E L d 148 7 ls (zi (I a 9) :: st) (nc, ns, I, J, R) else none := eb_E_iy hk148 rfl
theorem e148_7  : eb_E L d 148 7 ls (st) M = eb_E L d 148 8 ls (zi 1 :: st) M := eb_E_s hk148 rfl
theorem e148_8 {x : Int32} {y : Int32} : eb_E L d 148 8 ls (zi y :: zi x :: st) M = eb_E L d 148 9 ls (zi (x - y) :: st) M := eb_E_s hk148 rfl
theorem e148_9 {x : Int32} : eb_E L d 148 9 ls (zi x :: st) M = eb_E L d 148 10 ls (zl x.toInt64 :: st) M := eb_E_s hk148 rfl
theorem e148_10  : eb_E L d 148 10 ls ([a2, a1, a0]) M = (eb_ev L d 146 [a0, a1, a2] M).bind (fun q => eb_E L d 148 13 ls [q.1] q.2) := eb_E_c hk148 rfl
theorem e148_13 {x : Int32} : eb_E L d 148 13 ls ([zi x]) M = if x = 0 ∨ x = 1 then some (zi x, M) else none := eb_E_ri hk148 rfl
/-! X6_isGoer -/
theorem hk149 : eb_cd L 149 = eb_look (kt149 L) := rfl
theorem h149 (ha : (eb_ty L a.1).1 = 6) {x1 : Int32} : eb_ev L (d + 1) 149 [zr a, zi x1] M = eb_E L d 149 0 [some (zr a), some (zi x1)] [] M := eb_ev_s rfl (eb_chk_i ha rfl)
theorem e149_0 {x : Int32} : eb_E L d 149 0 [v0, some (zi x)] (st) M = eb_E L d 149 1 [v0, some (zi x)] (zi x :: st) M := eb_E_s hk149 rfl
theorem e149_1 {x : Int32} : eb_E L d 149 1 ls (zi x :: st) M = eb_E L d 149 2 ls (zl x.toInt64 :: st) M := eb_E_s hk149 rfl
theorem e149_2  : eb_E L d 149 2 ls (st) M = eb_E L d 149 3 ls (zl 0 :: st) M := eb_E_s hk149 rfl
theorem e149_3 {x : Option eb_A} : eb_E L d 149 3 [some (Sum.inr x), v1] (st) M = eb_E L d 149 4 [some (Sum.inr x), v1] (Sum.inr x :: st) M := eb_E_s hk149 rfl
theorem e149_4  : eb_E L d 149 4 ls (Sum.inr (some a) :: st) (nc, ns, I, J, R) = if (eb_ty L a.1).1 = 6 then eb_E L d 149 7 ls (zi (I a 11) :: st) (nc, ns, I, J, R) else none := eb_E_iy hk149 rfl
theorem e149_7  : eb_E L d 149 7 ls (st) M = eb_E L d 149 8 ls (zi 1 :: st) M := eb_E_s hk149 rfl
theorem e149_8 {x : Int32} {y : Int32} : eb_E L d 149 8 ls (zi y :: zi x :: st) M = eb_E L d 149 9 ls (zi (x - y) :: st) M := eb_E_s hk149 rfl
theorem e149_9 {x : Int32} : eb_E L d 149 9 ls (zi x :: st) M = eb_E L d 149 10 ls (zl x.toInt64 :: st) M := eb_E_s hk149 rfl
theorem e149_10  : eb_E L d 149 10 ls ([a2, a1, a0]) M = (eb_ev L d 146 [a0, a1, a2] M).bind (fun q => eb_E L d 149 13 ls [q.1] q.2) := eb_E_c hk149 rfl
theorem e149_13 {x : Int32} : eb_E L d 149 13 ls ([zi x]) M = if x = 0 ∨ x = 1 then some (zi x, M) else none := eb_E_ri hk149 rfl
/-! X6_isYears -/
theorem hk150 : eb_cd L 150 = eb_look (kt150 L) := rfl
theorem h150 {x0 : Int32} : eb_ev L (d + 1) 150 [zi x0] M = eb_E L d 150 0 [some (zi x0)] [] M := eb_ev_s rfl rfl
theorem e150_0 {x : Int32} : eb_E L d 150 0 [some (zi x)] (st) M = eb_E L d 150 1 [some (zi x)] (zi x :: st) M := eb_E_s hk150 rfl
theorem e150_1 {x : Int32} : eb_E L d 150 1 ls (zi x :: st) M = eb_E L d 150 2 ls (zl x.toInt64 :: st) M := eb_E_s hk150 rfl
theorem e150_2  : eb_E L d 150 2 ls (st) M = eb_E L d 150 3 ls (zl 1 :: st) M := eb_E_s hk150 rfl
theorem e150_3  : eb_E L d 150 3 ls (st) M = eb_E L d 150 6 ls (zl 12 :: st) M := eb_E_s hk150 rfl
theorem e150_6  : eb_E L d 150 6 ls ([a2, a1, a0]) M = (eb_ev L d 146 [a0, a1, a2] M).bind (fun q => eb_E L d 150 9 ls [q.1] q.2) := eb_E_c hk150 rfl
theorem e150_9 {x : Int32} : eb_E L d 150 9 ls ([zi x]) M = if x = 0 ∨ x = 1 then some (zi x, M) else none := eb_E_ri hk150 rfl
/-! X6_row -/
theorem hk151 : eb_cd L 151 = eb_look (kt151 L) := rfl
theorem h151 (ha : (eb_ty L a.1).1 = 6) {x1 : Int32} {x2 : Int32} {x3 : Int32} : eb_ev L (d + 1) 151 [zr a, zi x1, zi x2, zi x3] M = eb_E L d 151 0 [some (zr a), some (zi x1), some (zi x2), some (zi x3), none] [] M := eb_ev_s rfl (eb_chk_i ha rfl)
theorem e151_0 {x : Int32} : eb_E L d 151 0 [v0, some (zi x), v2, v3, v4] (st) M = eb_E L d 151 1 [v0, some (zi x), v2, v3, v4] (zi x :: st) M := eb_E_s hk151 rfl
theorem e151_1 {x : Int32} : eb_E L d 151 1 ls (zi x :: st) M = eb_E L d 151 2 ls (zl x.toInt64 :: st) M := eb_E_s hk151 rfl
theorem e151_2  : eb_E L d 151 2 ls (st) M = eb_E L d 151 3 ls (zl 0 :: st) M := eb_E_s hk151 rfl
theorem e151_3  : eb_E L d 151 3 ls (st) M = eb_E L d 151 6 ls (zl 7 :: st) M := eb_E_s hk151 rfl
theorem e151_6  : eb_E L d 151 6 ls ([a2, a1, a0]) M = (eb_ev L d 146 [a0, a1, a2] M).bind (fun q => eb_E L d 151 9 ls [q.1] q.2) := eb_E_c hk151 rfl
theorem e151_9 {x : Int32} : eb_E L d 151 9 ls (zi x :: st) M = if x = 0 then eb_E L d 151 36 ls st M else eb_E L d 151 12 ls st M := eb_E_b hk151 rfl
theorem e151_12 {x : Int32} : eb_E L d 151 12 [v0, v1, some (zi x), v3, v4] (st) M = eb_E L d 151 13 [v0, v1, some (zi x), v3, v4] (zi x :: st) M := eb_E_s hk151 rfl
theorem e151_13 {x : Int32} : eb_E L d 151 13 ls (zi x :: st) M = eb_E L d 151 14 ls (zl x.toInt64 :: st) M := eb_E_s hk151 rfl
theorem e151_14  : eb_E L d 151 14 ls (st) M = eb_E L d 151 15 ls (zl 0 :: st) M := eb_E_s hk151 rfl
theorem e151_15  : eb_E L d 151 15 ls (st) M = eb_E L d 151 18 ls (zl 4 :: st) M := eb_E_s hk151 rfl
theorem e151_18  : eb_E L d 151 18 ls ([a2, a1, a0]) M = (eb_ev L d 146 [a0, a1, a2] M).bind (fun q => eb_E L d 151 21 ls [q.1] q.2) := eb_E_c hk151 rfl
theorem e151_21 {x : Int32} : eb_E L d 151 21 ls (zi x :: st) M = if x = 0 then eb_E L d 151 36 ls st M else eb_E L d 151 24 ls st M := eb_E_b hk151 rfl
theorem e151_24 {x : Int32} : eb_E L d 151 24 [v0, v1, v2, some (zi x), v4] (st) M = eb_E L d 151 25 [v0, v1, v2, some (zi x), v4] (zi x :: st) M := eb_E_s hk151 rfl
theorem e151_25 {x : Int32} : eb_E L d 151 25 ls (zi x :: st) M = eb_E L d 151 26 ls (zl x.toInt64 :: st) M := eb_E_s hk151 rfl
theorem e151_26  : eb_E L d 151 26 ls (st) M = eb_E L d 151 27 ls (zl 0 :: st) M := eb_E_s hk151 rfl
theorem e151_27  : eb_E L d 151 27 ls (st) M = eb_E L d 151 30 ls (zl 40 :: st) M := eb_E_s hk151 rfl
theorem e151_30  : eb_E L d 151 30 ls ([a2, a1, a0]) M = (eb_ev L d 146 [a0, a1, a2] M).bind (fun q => eb_E L d 151 33 ls [q.1] q.2) := eb_E_c hk151 rfl
theorem e151_33 {x : Int32} : eb_E L d 151 33 ls (zi x :: st) M = if x = 0 then eb_E L d 151 36 ls st M else eb_E L d 151 43 ls st M := eb_E_b hk151 rfl
theorem e151_36 {x : Option eb_A} : eb_E L d 151 36 [some (Sum.inr x), v1, v2, v3, v4] (st) M = eb_E L d 151 37 [some (Sum.inr x), v1, v2, v3, v4] (Sum.inr x :: st) M := eb_E_s hk151 rfl
theorem e151_37  : eb_E L d 151 37 ls (st) M = eb_E L d 151 39 ls (zi (-2) :: st) M := eb_E_s hk151 rfl
theorem e151_39  : eb_E L d 151 39 ls ([a1, a0]) M = (eb_ev L d 145 [a0, a1] M).bind (fun q => eb_E L d 151 42 ls [q.1] q.2) := eb_E_c hk151 rfl
theorem e151_42 {x : Int32} : eb_E L d 151 42 ls ([zi x]) M = some (zi x, M) := eb_E_r hk151 rfl
theorem e151_43 {x : Option eb_A} : eb_E L d 151 43 [some (Sum.inr x), v1, v2, v3, v4] (st) M = eb_E L d 151 44 [some (Sum.inr x), v1, v2, v3, v4] (Sum.inr x :: st) M := eb_E_s hk151 rfl
theorem e151_44  : eb_E L d 151 44 ls (Sum.inr (some a) :: st) (nc, ns, I, J, R) = if (eb_ty L a.1).1 = 6 then eb_E L d 151 47 ls (Sum.inr (R a 0) :: st) (nc, ns, I, J, R) else none := eb_E_iy hk151 rfl
theorem e151_47 {x : Int32} : eb_E L d 151 47 [v0, some (zi x), v2, v3, v4] (st) M = eb_E L d 151 48 [v0, some (zi x), v2, v3, v4] (zi x :: st) M := eb_E_s hk151 rfl
theorem e151_48  : eb_E L d 151 48 ls (st) M = eb_E L d 151 49 ls (zi 1 :: st) M := eb_E_s hk151 rfl
theorem e151_49 {x : Int32} {v : Int32} : eb_E L d 151 49 ls (zi v :: zi x :: Sum.inr (some a) :: st) (nc, ns, I, J, R) = if (eb_ty L a.1).1 = 10 ∧ eb_in x (eb_ty L a.1).2 = true then eb_E L d 151 50 ls (st) (nc, ns, eb_u I a x.toNatClampNeg v, J, R) else none := eb_E_iy hk151 rfl
theorem e151_50 {x : Option eb_A} : eb_E L d 151 50 [some (Sum.inr x), v1, v2, v3, v4] (st) M = eb_E L d 151 51 [some (Sum.inr x), v1, v2, v3, v4] (Sum.inr x :: st) M := eb_E_s hk151 rfl
theorem e151_51  : eb_E L d 151 51 ls (Sum.inr (some a) :: st) (nc, ns, I, J, R) = if (eb_ty L a.1).1 = 6 then eb_E L d 151 54 ls (Sum.inr (R a 1) :: st) (nc, ns, I, J, R) else none := eb_E_iy hk151 rfl
theorem e151_54 {x : Int32} : eb_E L d 151 54 [v0, some (zi x), v2, v3, v4] (st) M = eb_E L d 151 55 [v0, some (zi x), v2, v3, v4] (zi x :: st) M := eb_E_s hk151 rfl
theorem e151_55 {x : Int32} : eb_E L d 151 55 [v0, v1, some (zi x), v3, v4] (st) M = eb_E L d 151 56 [v0, v1, some (zi x), v3, v4] (zi x :: st) M := eb_E_s hk151 rfl
theorem e151_56 {x : Int32} {v : Int32} : eb_E L d 151 56 ls (zi v :: zi x :: Sum.inr (some a) :: st) (nc, ns, I, J, R) = if (eb_ty L a.1).1 = 10 ∧ eb_in x (eb_ty L a.1).2 = true then eb_E L d 151 57 ls (st) (nc, ns, eb_u I a x.toNatClampNeg v, J, R) else none := eb_E_iy hk151 rfl
theorem e151_57 {x : Option eb_A} : eb_E L d 151 57 [some (Sum.inr x), v1, v2, v3, v4] (st) M = eb_E L d 151 58 [some (Sum.inr x), v1, v2, v3, v4] (Sum.inr x :: st) M := eb_E_s hk151 rfl
theorem e151_58  : eb_E L d 151 58 ls (Sum.inr (some a) :: st) (nc, ns, I, J, R) = if (eb_ty L a.1).1 = 6 then eb_E L d 151 61 ls (Sum.inr (R a 2) :: st) (nc, ns, I, J, R) else none := eb_E_iy hk151 rfl
theorem e151_61 {x : Int32} : eb_E L d 151 61 [v0, some (zi x), v2, v3, v4] (st) M = eb_E L d 151 62 [v0, some (zi x), v2, v3, v4] (zi x :: st) M := eb_E_s hk151 rfl
theorem e151_62 {x : Int32} : eb_E L d 151 62 [v0, v1, v2, some (zi x), v4] (st) M = eb_E L d 151 63 [v0, v1, v2, some (zi x), v4] (zi x :: st) M := eb_E_s hk151 rfl
theorem e151_63 {x : Int32} {v : Int32} : eb_E L d 151 63 ls (zi v :: zi x :: Sum.inr (some a) :: st) (nc, ns, I, J, R) = if (eb_ty L a.1).1 = 10 ∧ eb_in x (eb_ty L a.1).2 = true then eb_E L d 151 64 ls (st) (nc, ns, eb_u I a x.toNatClampNeg v, J, R) else none := eb_E_iy hk151 rfl
theorem e151_64  : eb_E L d 151 64 ls (st) M = eb_E L d 151 65 ls (zi 0 :: st) M := eb_E_s hk151 rfl
theorem e151_65 {x : Int32} : eb_E L d 151 65 [v0, v1, v2, v3, v4] (zi x :: st) M = eb_E L d 151 67 [v0, v1, v2, v3, some (zi x)] (st) M := eb_E_s hk151 rfl
theorem e151_67 {x : Int32} : eb_E L d 151 67 [v0, v1, v2, v3, some (zi x)] (st) M = eb_E L d 151 69 [v0, v1, v2, v3, some (zi x)] (zi x :: st) M := eb_E_s hk151 rfl
theorem e151_69  : eb_E L d 151 69 ls (st) M = eb_E L d 151 71 ls (zi 40 :: st) M := eb_E_s hk151 rfl
theorem e151_71 {x : Int32} {y : Int32} : eb_E L d 151 71 ls (zi y :: zi x :: st) M = if x < y then eb_E L d 151 74 ls st M else eb_E L d 151 90 ls st M := eb_E_b hk151 rfl
theorem e151_74 {x : Option eb_A} : eb_E L d 151 74 [some (Sum.inr x), v1, v2, v3, v4] (st) M = eb_E L d 151 75 [some (Sum.inr x), v1, v2, v3, v4] (Sum.inr x :: st) M := eb_E_s hk151 rfl
theorem e151_75  : eb_E L d 151 75 ls (Sum.inr (some a) :: st) (nc, ns, I, J, R) = if (eb_ty L a.1).1 = 6 then eb_E L d 151 78 ls (Sum.inr (R a 3) :: st) (nc, ns, I, J, R) else none := eb_E_iy hk151 rfl
theorem e151_78 {x : Int32} : eb_E L d 151 78 [v0, some (zi x), v2, v3, v4] (st) M = eb_E L d 151 79 [v0, some (zi x), v2, v3, v4] (zi x :: st) M := eb_E_s hk151 rfl
theorem e151_79 {x : Int32} : eb_E L d 151 79 ls (zi x :: Sum.inr (some a) :: st) (nc, ns, I, J, R) = if (12 ≤ (eb_ty L a.1).1 ∧ (eb_ty L a.1).1 ≤ 16) ∧ eb_in x (eb_ty L a.1).2 = true then eb_E L d 151 80 ls (Sum.inr (R a x.toNatClampNeg) :: st) (nc, ns, I, J, R) else none := eb_E_iy hk151 rfl
theorem e151_80 {x : Int32} : eb_E L d 151 80 [v0, v1, v2, v3, some (zi x)] (st) M = eb_E L d 151 82 [v0, v1, v2, v3, some (zi x)] (zi x :: st) M := eb_E_s hk151 rfl
theorem e151_82  : eb_E L d 151 82 ls (st) M = eb_E L d 151 83 ls (zl 0 :: st) M := eb_E_s hk151 rfl
theorem e151_83 {x : Int32} {v : Int64} : eb_E L d 151 83 ls (zl v :: zi x :: Sum.inr (some a) :: st) (nc, ns, I, J, R) = if (eb_ty L a.1).1 = 11 ∧ eb_in x (eb_ty L a.1).2 = true then eb_E L d 151 84 ls (st) (nc, ns, I, eb_u J a x.toNatClampNeg v, R) else none := eb_E_iy hk151 rfl
theorem e151_84 {x : Int32} : eb_E L d 151 84 [v0, v1, v2, v3, some (zi x)] (st) M = eb_E L d 151 87 [v0, v1, v2, v3, some (zi (x + 1))] (st) M := eb_E_s hk151 rfl
theorem e151_87  : eb_E L d 151 87 ls (st) M = eb_E L d 151 67 ls (st) M := eb_E_s hk151 rfl
theorem e151_90  : eb_E L d 151 90 ls (st) M = eb_E L d 151 91 ls (zi 1 :: st) M := eb_E_s hk151 rfl
theorem e151_91 {x : Int32} : eb_E L d 151 91 ls ([zi x]) M = some (zi x, M) := eb_E_r hk151 rfl
/-! X6_fit -/
theorem hk152 : eb_cd L 152 = eb_look (kt152 L) := rfl
theorem h152 {x0 : Int32} {l1 : Int64} : eb_ev L (d + 1) 152 [zi x0, zl l1] M = eb_E L d 152 0 [some (zi x0), some (zl l1), none] [] M := eb_ev_s rfl rfl
theorem e152_0 {x : Int32} : eb_E L d 152 0 [some (zi x), v1, v2] (st) M = eb_E L d 152 1 [some (zi x), v1, v2] (zi x :: st) M := eb_E_s hk152 rfl
theorem e152_1 {x : Int32} : eb_E L d 152 1 ls (zi x :: st) M = eb_sw x (fun t => eb_E L d 152 t ls st M) 48 [(0, 32), (1, 37), (2, 42), (3, 46)] := eb_E_w hk152 rfl
theorem e152_32 {x : Int64} : eb_E L d 152 32 [v0, some (zl x), v2] (st) M = eb_E L d 152 33 [v0, some (zl x), v2] (zl x :: st) M := eb_E_s hk152 rfl
theorem e152_33 {x : Int64} : eb_E L d 152 33 ls (zl x :: st) M = eb_E L d 152 34 ls (zi x.toInt32 :: st) M := eb_E_s hk152 rfl
theorem e152_34 {x : Int32} : eb_E L d 152 34 ls (zi x :: st) M = eb_E L d 152 35 ls (zi x.toInt8.toInt32 :: st) M := eb_E_s hk152 rfl
theorem e152_35 {x : Int32} : eb_E L d 152 35 ls (zi x :: st) M = eb_E L d 152 36 ls (zl x.toInt64 :: st) M := eb_E_s hk152 rfl
theorem e152_36 {x : Int64} : eb_E L d 152 36 ls ([zl x]) M = some (zl x, M) := eb_E_r hk152 rfl
theorem e152_37 {x : Int64} : eb_E L d 152 37 [v0, some (zl x), v2] (st) M = eb_E L d 152 38 [v0, some (zl x), v2] (zl x :: st) M := eb_E_s hk152 rfl
theorem e152_38 {x : Int64} : eb_E L d 152 38 ls (zl x :: st) M = eb_E L d 152 39 ls (zi x.toInt32 :: st) M := eb_E_s hk152 rfl
theorem e152_39 {x : Int32} : eb_E L d 152 39 ls (zi x :: st) M = eb_E L d 152 40 ls (zi x.toInt16.toInt32 :: st) M := eb_E_s hk152 rfl
theorem e152_40 {x : Int32} : eb_E L d 152 40 ls (zi x :: st) M = eb_E L d 152 41 ls (zl x.toInt64 :: st) M := eb_E_s hk152 rfl
theorem e152_41 {x : Int64} : eb_E L d 152 41 ls ([zl x]) M = some (zl x, M) := eb_E_r hk152 rfl
theorem e152_42 {x : Int64} : eb_E L d 152 42 [v0, some (zl x), v2] (st) M = eb_E L d 152 43 [v0, some (zl x), v2] (zl x :: st) M := eb_E_s hk152 rfl
theorem e152_43 {x : Int64} : eb_E L d 152 43 ls (zl x :: st) M = eb_E L d 152 44 ls (zi x.toInt32 :: st) M := eb_E_s hk152 rfl
theorem e152_44 {x : Int32} : eb_E L d 152 44 ls (zi x :: st) M = eb_E L d 152 45 ls (zl x.toInt64 :: st) M := eb_E_s hk152 rfl
theorem e152_45 {x : Int64} : eb_E L d 152 45 ls ([zl x]) M = some (zl x, M) := eb_E_r hk152 rfl
theorem e152_46 {x : Int64} : eb_E L d 152 46 [v0, some (zl x), v2] (st) M = eb_E L d 152 47 [v0, some (zl x), v2] (zl x :: st) M := eb_E_s hk152 rfl
theorem e152_47 {x : Int64} : eb_E L d 152 47 ls ([zl x]) M = some (zl x, M) := eb_E_r hk152 rfl
theorem e152_48 {x : Int64} : eb_E L d 152 48 [v0, some (zl x), v2] (st) M = eb_E L d 152 49 [v0, some (zl x), v2] (zl x :: st) M := eb_E_s hk152 rfl
theorem e152_49  : eb_E L d 152 49 ls (st) M = eb_E L d 152 50 ls (zl 0 :: st) M := eb_E_s hk152 rfl
theorem e152_50 {x : Int64} {y : Int64} : eb_E L d 152 50 ls (zl y :: zl x :: st) M = eb_E L d 152 51 ls (zi (if x < y then -1 else if x = y then 0 else 1) :: st) M := eb_E_s hk152 rfl
theorem e152_51 {x : Int32} : eb_E L d 152 51 ls (zi x :: st) M = if x = 0 then eb_E L d 152 58 ls st M else eb_E L d 152 54 ls st M := eb_E_b hk152 rfl
theorem e152_54  : eb_E L d 152 54 ls (st) M = eb_E L d 152 55 ls (zl 1 :: st) M := eb_E_s hk152 rfl
theorem e152_55  : eb_E L d 152 55 ls (st) M = eb_E L d 152 59 ls (st) M := eb_E_s hk152 rfl
theorem e152_58  : eb_E L d 152 58 ls (st) M = eb_E L d 152 59 ls (zl 0 :: st) M := eb_E_s hk152 rfl
theorem e152_59 {x : Int64} : eb_E L d 152 59 ls ([zl x]) M = some (zl x, M) := eb_E_r hk152 rfl
/-! X6_noRow -/
theorem hk153 : eb_cd L 153 = eb_look (kt153 L) := rfl
theorem h153 (ha : (eb_ty L a.1).1 = 6) {x1 : Int32} : eb_ev L (d + 1) 153 [zr a, zi x1] M = eb_E L d 153 0 [some (zr a), some (zi x1)] [] M := eb_ev_s rfl (eb_chk_i ha rfl)
theorem e153_0 {x : Int32} : eb_E L d 153 0 [v0, some (zi x)] (st) M = eb_E L d 153 1 [v0, some (zi x)] (zi x :: st) M := eb_E_s hk153 rfl
theorem e153_1 {x : Int32} : eb_E L d 153 1 ls (zi x :: st) M = eb_E L d 153 2 ls (zl x.toInt64 :: st) M := eb_E_s hk153 rfl
theorem e153_2  : eb_E L d 153 2 ls (st) M = eb_E L d 153 3 ls (zl 0 :: st) M := eb_E_s hk153 rfl
theorem e153_3  : eb_E L d 153 3 ls (st) M = eb_E L d 153 6 ls (zl 7 :: st) M := eb_E_s hk153 rfl
theorem e153_6  : eb_E L d 153 6 ls ([a2, a1, a0]) M = (eb_ev L d 146 [a0, a1, a2] M).bind (fun q => eb_E L d 153 9 ls [q.1] q.2) := eb_E_c hk153 rfl
theorem e153_9 {x : Int32} : eb_E L d 153 9 ls (zi x :: st) M = if x = 0 then eb_E L d 153 12 ls st M else eb_E L d 153 19 ls st M := eb_E_b hk153 rfl
theorem e153_12 {x : Option eb_A} : eb_E L d 153 12 [some (Sum.inr x), v1] (st) M = eb_E L d 153 13 [some (Sum.inr x), v1] (Sum.inr x :: st) M := eb_E_s hk153 rfl
theorem e153_13  : eb_E L d 153 13 ls (st) M = eb_E L d 153 15 ls (zi (-2) :: st) M := eb_E_s hk153 rfl
theorem e153_15  : eb_E L d 153 15 ls ([a1, a0]) M = (eb_ev L d 145 [a0, a1] M).bind (fun q => eb_E L d 153 18 ls [q.1] q.2) := eb_E_c hk153 rfl
theorem e153_18 {x : Int32} : eb_E L d 153 18 ls ([zi x]) M = some (zi x, M) := eb_E_r hk153 rfl
theorem e153_19 {x : Option eb_A} : eb_E L d 153 19 [some (Sum.inr x), v1] (st) M = eb_E L d 153 20 [some (Sum.inr x), v1] (Sum.inr x :: st) M := eb_E_s hk153 rfl
theorem e153_20  : eb_E L d 153 20 ls (Sum.inr (some a) :: st) (nc, ns, I, J, R) = if (eb_ty L a.1).1 = 6 then eb_E L d 153 23 ls (Sum.inr (R a 0) :: st) (nc, ns, I, J, R) else none := eb_E_iy hk153 rfl
theorem e153_23 {x : Int32} : eb_E L d 153 23 [v0, some (zi x)] (st) M = eb_E L d 153 24 [v0, some (zi x)] (zi x :: st) M := eb_E_s hk153 rfl
theorem e153_24 {x : Int32} : eb_E L d 153 24 ls (zi x :: Sum.inr (some a) :: st) (nc, ns, I, J, R) = if (eb_ty L a.1).1 = 10 ∧ eb_in x (eb_ty L a.1).2 = true then eb_E L d 153 25 ls (zi (I a x.toNatClampNeg) :: st) (nc, ns, I, J, R) else none := eb_E_iy hk153 rfl
theorem e153_25  : eb_E L d 153 25 ls (st) M = eb_E L d 153 26 ls (zi 2 :: st) M := eb_E_s hk153 rfl
theorem e153_26 {x : Int32} {y : Int32} : eb_E L d 153 26 ls (zi y :: zi x :: st) M = if x = y then eb_E L d 153 29 ls st M else eb_E L d 153 36 ls st M := eb_E_b hk153 rfl
theorem e153_29 {x : Option eb_A} : eb_E L d 153 29 [some (Sum.inr x), v1] (st) M = eb_E L d 153 30 [some (Sum.inr x), v1] (Sum.inr x :: st) M := eb_E_s hk153 rfl
theorem e153_30  : eb_E L d 153 30 ls (st) M = eb_E L d 153 32 ls (zi (-3) :: st) M := eb_E_s hk153 rfl
theorem e153_32  : eb_E L d 153 32 ls ([a1, a0]) M = (eb_ev L d 145 [a0, a1] M).bind (fun q => eb_E L d 153 35 ls [q.1] q.2) := eb_E_c hk153 rfl
theorem e153_35 {x : Int32} : eb_E L d 153 35 ls ([zi x]) M = some (zi x, M) := eb_E_r hk153 rfl
theorem e153_36 {x : Option eb_A} : eb_E L d 153 36 [some (Sum.inr x), v1] (st) M = eb_E L d 153 37 [some (Sum.inr x), v1] (Sum.inr x :: st) M := eb_E_s hk153 rfl
theorem e153_37  : eb_E L d 153 37 ls (Sum.inr (some a) :: st) (nc, ns, I, J, R) = if (eb_ty L a.1).1 = 6 then eb_E L d 153 40 ls (Sum.inr (R a 0) :: st) (nc, ns, I, J, R) else none := eb_E_iy hk153 rfl
theorem e153_40 {x : Int32} : eb_E L d 153 40 [v0, some (zi x)] (st) M = eb_E L d 153 41 [v0, some (zi x)] (zi x :: st) M := eb_E_s hk153 rfl
theorem e153_41 {x : Int32} : eb_E L d 153 41 ls (zi x :: Sum.inr (some a) :: st) (nc, ns, I, J, R) = if (eb_ty L a.1).1 = 10 ∧ eb_in x (eb_ty L a.1).2 = true then eb_E L d 153 42 ls (zi (I a x.toNatClampNeg) :: st) (nc, ns, I, J, R) else none := eb_E_iy hk153 rfl
theorem e153_42 {x : Int32} : eb_E L d 153 42 ls (zi x :: st) M = if x = 0 then eb_E L d 153 45 ls st M else eb_E L d 153 54 ls st M := eb_E_b hk153 rfl
theorem e153_45 {x : Option eb_A} : eb_E L d 153 45 [some (Sum.inr x), v1] (st) M = eb_E L d 153 46 [some (Sum.inr x), v1] (Sum.inr x :: st) M := eb_E_s hk153 rfl
theorem e153_46  : eb_E L d 153 46 ls (st) M = eb_E L d 153 48 ls (zi (-4) :: st) M := eb_E_s hk153 rfl
theorem e153_48  : eb_E L d 153 48 ls ([a1, a0]) M = (eb_ev L d 145 [a0, a1] M).bind (fun q => eb_E L d 153 51 ls [q.1] q.2) := eb_E_c hk153 rfl
theorem e153_51  : eb_E L d 153 51 ls (st) M = eb_E L d 153 55 ls (st) M := eb_E_s hk153 rfl
theorem e153_54  : eb_E L d 153 54 ls (st) M = eb_E L d 153 55 ls (zi 0 :: st) M := eb_E_s hk153 rfl
theorem e153_55 {x : Int32} : eb_E L d 153 55 ls ([zi x]) M = some (zi x, M) := eb_E_r hk153 rfl
/-! X6_set -/
theorem hk154 : eb_cd L 154 = eb_look (kt154 L) := rfl
theorem h154 (ha : (eb_ty L a.1).1 = 6) {x1 : Int32} {x2 : Int32} {l3 : Int64} : eb_ev L (d + 1) 154 [zr a, zi x1, zi x2, zl l3] M = eb_E L d 154 0 [some (zr a), some (zi x1), some (zi x2), some (zl l3), none, none] [] M := eb_ev_s rfl (eb_chk_i ha rfl)
theorem e154_0 {x : Option eb_A} : eb_E L d 154 0 [some (Sum.inr x), v1, v2, v3, v4, v5] (st) M = eb_E L d 154 1 [some (Sum.inr x), v1, v2, v3, v4, v5] (Sum.inr x :: st) M := eb_E_s hk154 rfl
theorem e154_1 {x : Int32} : eb_E L d 154 1 [v0, some (zi x), v2, v3, v4, v5] (st) M = eb_E L d 154 2 [v0, some (zi x), v2, v3, v4, v5] (zi x :: st) M := eb_E_s hk154 rfl
theorem e154_2  : eb_E L d 154 2 ls ([a1, a0]) M = (eb_ev L d 153 [a0, a1] M).bind (fun q => eb_E L d 154 5 ls [q.1] q.2) := eb_E_c hk154 rfl
theorem e154_5 {x : Int32} : eb_E L d 154 5 [v0, v1, v2, v3, v4, v5] (zi x :: st) M = eb_E L d 154 7 [v0, v1, v2, v3, v4, some (zi x)] (st) M := eb_E_s hk154 rfl
theorem e154_7 {x : Int32} : eb_E L d 154 7 [v0, v1, v2, v3, v4, some (zi x)] (st) M = eb_E L d 154 9 [v0, v1, v2, v3, v4, some (zi x)] (zi x :: st) M := eb_E_s hk154 rfl
theorem e154_9 {x : Int32} : eb_E L d 154 9 ls (zi x :: st) M = if x = 0 then eb_E L d 154 15 ls st M else eb_E L d 154 12 ls st M := eb_E_b hk154 rfl
theorem e154_12 {x : Int32} : eb_E L d 154 12 [v0, v1, v2, v3, v4, some (zi x)] (st) M = eb_E L d 154 14 [v0, v1, v2, v3, v4, some (zi x)] (zi x :: st) M := eb_E_s hk154 rfl
theorem e154_14 {x : Int32} : eb_E L d 154 14 ls ([zi x]) M = some (zi x, M) := eb_E_r hk154 rfl
theorem e154_15 {x : Int32} : eb_E L d 154 15 [v0, v1, some (zi x), v3, v4, v5] (st) M = eb_E L d 154 16 [v0, v1, some (zi x), v3, v4, v5] (zi x :: st) M := eb_E_s hk154 rfl
theorem e154_16 {x : Int32} : eb_E L d 154 16 ls (zi x :: st) M = eb_E L d 154 17 ls (zl x.toInt64 :: st) M := eb_E_s hk154 rfl
theorem e154_17  : eb_E L d 154 17 ls (st) M = eb_E L d 154 18 ls (zl 0 :: st) M := eb_E_s hk154 rfl
theorem e154_18 {x : Option eb_A} : eb_E L d 154 18 [some (Sum.inr x), v1, v2, v3, v4, v5] (st) M = eb_E L d 154 19 [some (Sum.inr x), v1, v2, v3, v4, v5] (Sum.inr x :: st) M := eb_E_s hk154 rfl
theorem e154_19  : eb_E L d 154 19 ls (Sum.inr (some a) :: st) (nc, ns, I, J, R) = if (eb_ty L a.1).1 = 6 then eb_E L d 154 22 ls (Sum.inr (R a 2) :: st) (nc, ns, I, J, R) else none := eb_E_iy hk154 rfl
theorem e154_22 {x : Int32} : eb_E L d 154 22 [v0, some (zi x), v2, v3, v4, v5] (st) M = eb_E L d 154 23 [v0, some (zi x), v2, v3, v4, v5] (zi x :: st) M := eb_E_s hk154 rfl
theorem e154_23 {x : Int32} : eb_E L d 154 23 ls (zi x :: Sum.inr (some a) :: st) (nc, ns, I, J, R) = if (eb_ty L a.1).1 = 10 ∧ eb_in x (eb_ty L a.1).2 = true then eb_E L d 154 24 ls (zi (I a x.toNatClampNeg) :: st) (nc, ns, I, J, R) else none := eb_E_iy hk154 rfl
theorem e154_24  : eb_E L d 154 24 ls (st) M = eb_E L d 154 25 ls (zi 1 :: st) M := eb_E_s hk154 rfl
theorem e154_25 {x : Int32} {y : Int32} : eb_E L d 154 25 ls (zi y :: zi x :: st) M = eb_E L d 154 26 ls (zi (x - y) :: st) M := eb_E_s hk154 rfl
theorem e154_26 {x : Int32} : eb_E L d 154 26 ls (zi x :: st) M = eb_E L d 154 27 ls (zl x.toInt64 :: st) M := eb_E_s hk154 rfl
theorem e154_27  : eb_E L d 154 27 ls ([a2, a1, a0]) M = (eb_ev L d 146 [a0, a1, a2] M).bind (fun q => eb_E L d 154 30 ls [q.1] q.2) := eb_E_c hk154 rfl
theorem e154_30 {x : Int32} : eb_E L d 154 30 ls (zi x :: st) M = if x = 0 then eb_E L d 154 33 ls st M else eb_E L d 154 40 ls st M := eb_E_b hk154 rfl
theorem e154_33 {x : Option eb_A} : eb_E L d 154 33 [some (Sum.inr x), v1, v2, v3, v4, v5] (st) M = eb_E L d 154 34 [some (Sum.inr x), v1, v2, v3, v4, v5] (Sum.inr x :: st) M := eb_E_s hk154 rfl
theorem e154_34  : eb_E L d 154 34 ls (st) M = eb_E L d 154 36 ls (zi (-2) :: st) M := eb_E_s hk154 rfl
theorem e154_36  : eb_E L d 154 36 ls ([a1, a0]) M = (eb_ev L d 145 [a0, a1] M).bind (fun q => eb_E L d 154 39 ls [q.1] q.2) := eb_E_c hk154 rfl
theorem e154_39 {x : Int32} : eb_E L d 154 39 ls ([zi x]) M = some (zi x, M) := eb_E_r hk154 rfl
theorem e154_40 {x : Option eb_A} : eb_E L d 154 40 [some (Sum.inr x), v1, v2, v3, v4, v5] (st) M = eb_E L d 154 41 [some (Sum.inr x), v1, v2, v3, v4, v5] (Sum.inr x :: st) M := eb_E_s hk154 rfl
theorem e154_41  : eb_E L d 154 41 ls (Sum.inr (some a) :: st) (nc, ns, I, J, R) = if (eb_ty L a.1).1 = 6 then eb_E L d 154 44 ls (Sum.inr (R a 3) :: st) (nc, ns, I, J, R) else none := eb_E_iy hk154 rfl
theorem e154_44 {x : Int32} : eb_E L d 154 44 [v0, some (zi x), v2, v3, v4, v5] (st) M = eb_E L d 154 45 [v0, some (zi x), v2, v3, v4, v5] (zi x :: st) M := eb_E_s hk154 rfl
theorem e154_45 {x : Int32} : eb_E L d 154 45 ls (zi x :: Sum.inr (some a) :: st) (nc, ns, I, J, R) = if (12 ≤ (eb_ty L a.1).1 ∧ (eb_ty L a.1).1 ≤ 16) ∧ eb_in x (eb_ty L a.1).2 = true then eb_E L d 154 46 ls (Sum.inr (R a x.toNatClampNeg) :: st) (nc, ns, I, J, R) else none := eb_E_iy hk154 rfl
theorem e154_46 {x : Int32} : eb_E L d 154 46 [v0, v1, some (zi x), v3, v4, v5] (st) M = eb_E L d 154 47 [v0, v1, some (zi x), v3, v4, v5] (zi x :: st) M := eb_E_s hk154 rfl
theorem e154_47 {x : Option eb_A} : eb_E L d 154 47 [some (Sum.inr x), v1, v2, v3, v4, v5] (st) M = eb_E L d 154 48 [some (Sum.inr x), v1, v2, v3, v4, v5] (Sum.inr x :: st) M := eb_E_s hk154 rfl
theorem e154_48  : eb_E L d 154 48 ls (Sum.inr (some a) :: st) (nc, ns, I, J, R) = if (eb_ty L a.1).1 = 6 then eb_E L d 154 51 ls (Sum.inr (R a 1) :: st) (nc, ns, I, J, R) else none := eb_E_iy hk154 rfl
theorem e154_51 {x : Int32} : eb_E L d 154 51 [v0, some (zi x), v2, v3, v4, v5] (st) M = eb_E L d 154 52 [v0, some (zi x), v2, v3, v4, v5] (zi x :: st) M := eb_E_s hk154 rfl
theorem e154_52 {x : Int32} : eb_E L d 154 52 ls (zi x :: Sum.inr (some a) :: st) (nc, ns, I, J, R) = if (eb_ty L a.1).1 = 10 ∧ eb_in x (eb_ty L a.1).2 = true then eb_E L d 154 53 ls (zi (I a x.toNatClampNeg) :: st) (nc, ns, I, J, R) else none := eb_E_iy hk154 rfl
theorem e154_53 {x : Int64} : eb_E L d 154 53 [v0, v1, v2, some (zl x), v4, v5] (st) M = eb_E L d 154 54 [v0, v1, v2, some (zl x), v4, v5] (zl x :: st) M := eb_E_s hk154 rfl
theorem e154_54 {s0 : Int32} {s1 : Option eb_A} : eb_E L d 154 54 ls ([a1, a0, zi s0, Sum.inr s1]) M = (eb_ev L d 152 [a0, a1] M).bind (fun q => eb_E L d 154 57 ls [q.1, zi s0, Sum.inr s1] q.2) := eb_E_c hk154 rfl
theorem e154_57 {x : Int32} {v : Int64} : eb_E L d 154 57 ls (zl v :: zi x :: Sum.inr (some a) :: st) (nc, ns, I, J, R) = if (eb_ty L a.1).1 = 11 ∧ eb_in x (eb_ty L a.1).2 = true then eb_E L d 154 58 ls (st) (nc, ns, I, eb_u J a x.toNatClampNeg v, R) else none := eb_E_iy hk154 rfl
theorem e154_58  : eb_E L d 154 58 ls (st) M = eb_E L d 154 59 ls (zi 1 :: st) M := eb_E_s hk154 rfl
theorem e154_59 {x : Int32} : eb_E L d 154 59 ls ([zi x]) M = some (zi x, M) := eb_E_r hk154 rfl
/-! X6_copy -/
theorem hk155 : eb_cd L 155 = eb_look (kt155 L) := rfl
theorem h155 (ha : (eb_ty L a.1).1 = 6) {x1 : Int32} {x2 : Int32} {x3 : Int32} {x4 : Int32} {x5 : Int32} : eb_ev L (d + 1) 155 [zr a, zi x1, zi x2, zi x3, zi x4, zi x5] M = eb_E L d 155 0 [some (zr a), some (zi x1), some (zi x2), some (zi x3), some (zi x4), some (zi x5), none] [] M := eb_ev_s rfl (eb_chk_i ha rfl)
theorem e155_0 {x : Int32} : eb_E L d 155 0 [v0, some (zi x), v2, v3, v4, v5, v6] (st) M = eb_E L d 155 1 [v0, some (zi x), v2, v3, v4, v5, v6] (zi x :: st) M := eb_E_s hk155 rfl
theorem e155_1 {x : Int32} : eb_E L d 155 1 ls (zi x :: st) M = eb_E L d 155 2 ls (zl x.toInt64 :: st) M := eb_E_s hk155 rfl
theorem e155_2  : eb_E L d 155 2 ls (st) M = eb_E L d 155 3 ls (zl 0 :: st) M := eb_E_s hk155 rfl
theorem e155_3  : eb_E L d 155 3 ls (st) M = eb_E L d 155 6 ls (zl 7 :: st) M := eb_E_s hk155 rfl
theorem e155_6  : eb_E L d 155 6 ls ([a2, a1, a0]) M = (eb_ev L d 146 [a0, a1, a2] M).bind (fun q => eb_E L d 155 9 ls [q.1] q.2) := eb_E_c hk155 rfl
theorem e155_9 {x : Int32} : eb_E L d 155 9 ls (zi x :: st) M = if x = 0 then eb_E L d 155 24 ls st M else eb_E L d 155 12 ls st M := eb_E_b hk155 rfl
theorem e155_12 {x : Int32} : eb_E L d 155 12 [v0, v1, some (zi x), v3, v4, v5, v6] (st) M = eb_E L d 155 13 [v0, v1, some (zi x), v3, v4, v5, v6] (zi x :: st) M := eb_E_s hk155 rfl
theorem e155_13 {x : Int32} : eb_E L d 155 13 ls (zi x :: st) M = eb_E L d 155 14 ls (zl x.toInt64 :: st) M := eb_E_s hk155 rfl
theorem e155_14  : eb_E L d 155 14 ls (st) M = eb_E L d 155 15 ls (zl 0 :: st) M := eb_E_s hk155 rfl
theorem e155_15  : eb_E L d 155 15 ls (st) M = eb_E L d 155 18 ls (zl 7 :: st) M := eb_E_s hk155 rfl
theorem e155_18  : eb_E L d 155 18 ls ([a2, a1, a0]) M = (eb_ev L d 146 [a0, a1, a2] M).bind (fun q => eb_E L d 155 21 ls [q.1] q.2) := eb_E_c hk155 rfl
theorem e155_21 {x : Int32} : eb_E L d 155 21 ls (zi x :: st) M = if x = 0 then eb_E L d 155 24 ls st M else eb_E L d 155 31 ls st M := eb_E_b hk155 rfl
theorem e155_24 {x : Option eb_A} : eb_E L d 155 24 [some (Sum.inr x), v1, v2, v3, v4, v5, v6] (st) M = eb_E L d 155 25 [some (Sum.inr x), v1, v2, v3, v4, v5, v6] (Sum.inr x :: st) M := eb_E_s hk155 rfl
theorem e155_25  : eb_E L d 155 25 ls (st) M = eb_E L d 155 27 ls (zi (-2) :: st) M := eb_E_s hk155 rfl
theorem e155_27  : eb_E L d 155 27 ls ([a1, a0]) M = (eb_ev L d 145 [a0, a1] M).bind (fun q => eb_E L d 155 30 ls [q.1] q.2) := eb_E_c hk155 rfl
theorem e155_30 {x : Int32} : eb_E L d 155 30 ls ([zi x]) M = some (zi x, M) := eb_E_r hk155 rfl
theorem e155_31 {x : Option eb_A} : eb_E L d 155 31 [some (Sum.inr x), v1, v2, v3, v4, v5, v6] (st) M = eb_E L d 155 32 [some (Sum.inr x), v1, v2, v3, v4, v5, v6] (Sum.inr x :: st) M := eb_E_s hk155 rfl
theorem e155_32  : eb_E L d 155 32 ls (Sum.inr (some a) :: st) (nc, ns, I, J, R) = if (eb_ty L a.1).1 = 6 then eb_E L d 155 35 ls (Sum.inr (R a 0) :: st) (nc, ns, I, J, R) else none := eb_E_iy hk155 rfl
theorem e155_35 {x : Int32} : eb_E L d 155 35 [v0, some (zi x), v2, v3, v4, v5, v6] (st) M = eb_E L d 155 36 [v0, some (zi x), v2, v3, v4, v5, v6] (zi x :: st) M := eb_E_s hk155 rfl
theorem e155_36 {x : Int32} : eb_E L d 155 36 ls (zi x :: Sum.inr (some a) :: st) (nc, ns, I, J, R) = if (eb_ty L a.1).1 = 10 ∧ eb_in x (eb_ty L a.1).2 = true then eb_E L d 155 37 ls (zi (I a x.toNatClampNeg) :: st) (nc, ns, I, J, R) else none := eb_E_iy hk155 rfl
theorem e155_37  : eb_E L d 155 37 ls (st) M = eb_E L d 155 38 ls (zi 2 :: st) M := eb_E_s hk155 rfl
theorem e155_38 {x : Int32} {y : Int32} : eb_E L d 155 38 ls (zi y :: zi x :: st) M = if x = y then eb_E L d 155 86 ls st M else eb_E L d 155 41 ls st M := eb_E_b hk155 rfl
theorem e155_41 {x : Option eb_A} : eb_E L d 155 41 [some (Sum.inr x), v1, v2, v3, v4, v5, v6] (st) M = eb_E L d 155 42 [some (Sum.inr x), v1, v2, v3, v4, v5, v6] (Sum.inr x :: st) M := eb_E_s hk155 rfl
theorem e155_42  : eb_E L d 155 42 ls (Sum.inr (some a) :: st) (nc, ns, I, J, R) = if (eb_ty L a.1).1 = 6 then eb_E L d 155 45 ls (Sum.inr (R a 0) :: st) (nc, ns, I, J, R) else none := eb_E_iy hk155 rfl
theorem e155_45 {x : Int32} : eb_E L d 155 45 [v0, v1, some (zi x), v3, v4, v5, v6] (st) M = eb_E L d 155 46 [v0, v1, some (zi x), v3, v4, v5, v6] (zi x :: st) M := eb_E_s hk155 rfl
theorem e155_46 {x : Int32} : eb_E L d 155 46 ls (zi x :: Sum.inr (some a) :: st) (nc, ns, I, J, R) = if (eb_ty L a.1).1 = 10 ∧ eb_in x (eb_ty L a.1).2 = true then eb_E L d 155 47 ls (zi (I a x.toNatClampNeg) :: st) (nc, ns, I, J, R) else none := eb_E_iy hk155 rfl
theorem e155_47  : eb_E L d 155 47 ls (st) M = eb_E L d 155 48 ls (zi 2 :: st) M := eb_E_s hk155 rfl
theorem e155_48 {x : Int32} {y : Int32} : eb_E L d 155 48 ls (zi y :: zi x :: st) M = if x = y then eb_E L d 155 86 ls st M else eb_E L d 155 51 ls st M := eb_E_b hk155 rfl
theorem e155_51 {x : Option eb_A} : eb_E L d 155 51 [some (Sum.inr x), v1, v2, v3, v4, v5, v6] (st) M = eb_E L d 155 52 [some (Sum.inr x), v1, v2, v3, v4, v5, v6] (Sum.inr x :: st) M := eb_E_s hk155 rfl
theorem e155_52  : eb_E L d 155 52 ls (Sum.inr (some a) :: st) (nc, ns, I, J, R) = if (eb_ty L a.1).1 = 6 then eb_E L d 155 55 ls (Sum.inr (R a 0) :: st) (nc, ns, I, J, R) else none := eb_E_iy hk155 rfl
theorem e155_55 {x : Int32} : eb_E L d 155 55 [v0, some (zi x), v2, v3, v4, v5, v6] (st) M = eb_E L d 155 56 [v0, some (zi x), v2, v3, v4, v5, v6] (zi x :: st) M := eb_E_s hk155 rfl
theorem e155_56 {x : Int32} : eb_E L d 155 56 ls (zi x :: Sum.inr (some a) :: st) (nc, ns, I, J, R) = if (eb_ty L a.1).1 = 10 ∧ eb_in x (eb_ty L a.1).2 = true then eb_E L d 155 57 ls (zi (I a x.toNatClampNeg) :: st) (nc, ns, I, J, R) else none := eb_E_iy hk155 rfl
theorem e155_57  : eb_E L d 155 57 ls (st) M = eb_E L d 155 58 ls (zi 1 :: st) M := eb_E_s hk155 rfl
theorem e155_58 {x : Int32} {y : Int32} : eb_E L d 155 58 ls (zi y :: zi x :: st) M = if x = y then eb_E L d 155 61 ls st M else eb_E L d 155 93 ls st M := eb_E_b hk155 rfl
theorem e155_61 {x : Option eb_A} : eb_E L d 155 61 [some (Sum.inr x), v1, v2, v3, v4, v5, v6] (st) M = eb_E L d 155 62 [some (Sum.inr x), v1, v2, v3, v4, v5, v6] (Sum.inr x :: st) M := eb_E_s hk155 rfl
theorem e155_62  : eb_E L d 155 62 ls (Sum.inr (some a) :: st) (nc, ns, I, J, R) = if (eb_ty L a.1).1 = 6 then eb_E L d 155 65 ls (Sum.inr (R a 0) :: st) (nc, ns, I, J, R) else none := eb_E_iy hk155 rfl
theorem e155_65 {x : Int32} : eb_E L d 155 65 [v0, v1, some (zi x), v3, v4, v5, v6] (st) M = eb_E L d 155 66 [v0, v1, some (zi x), v3, v4, v5, v6] (zi x :: st) M := eb_E_s hk155 rfl
theorem e155_66 {x : Int32} : eb_E L d 155 66 ls (zi x :: Sum.inr (some a) :: st) (nc, ns, I, J, R) = if (eb_ty L a.1).1 = 10 ∧ eb_in x (eb_ty L a.1).2 = true then eb_E L d 155 67 ls (zi (I a x.toNatClampNeg) :: st) (nc, ns, I, J, R) else none := eb_E_iy hk155 rfl
theorem e155_67  : eb_E L d 155 67 ls (st) M = eb_E L d 155 68 ls (zi 1 :: st) M := eb_E_s hk155 rfl
theorem e155_68 {x : Int32} {y : Int32} : eb_E L d 155 68 ls (zi y :: zi x :: st) M = if x = y then eb_E L d 155 71 ls st M else eb_E L d 155 93 ls st M := eb_E_b hk155 rfl
theorem e155_71 {x : Option eb_A} : eb_E L d 155 71 [some (Sum.inr x), v1, v2, v3, v4, v5, v6] (st) M = eb_E L d 155 72 [some (Sum.inr x), v1, v2, v3, v4, v5, v6] (Sum.inr x :: st) M := eb_E_s hk155 rfl
theorem e155_72  : eb_E L d 155 72 ls (Sum.inr (some a) :: st) (nc, ns, I, J, R) = if (eb_ty L a.1).1 = 6 then eb_E L d 155 75 ls (Sum.inr (R a 1) :: st) (nc, ns, I, J, R) else none := eb_E_iy hk155 rfl
theorem e155_75 {x : Int32} : eb_E L d 155 75 [v0, some (zi x), v2, v3, v4, v5, v6] (st) M = eb_E L d 155 76 [v0, some (zi x), v2, v3, v4, v5, v6] (zi x :: st) M := eb_E_s hk155 rfl
theorem e155_76 {x : Int32} : eb_E L d 155 76 ls (zi x :: Sum.inr (some a) :: st) (nc, ns, I, J, R) = if (eb_ty L a.1).1 = 10 ∧ eb_in x (eb_ty L a.1).2 = true then eb_E L d 155 77 ls (zi (I a x.toNatClampNeg) :: st) (nc, ns, I, J, R) else none := eb_E_iy hk155 rfl
theorem e155_77 {x : Option eb_A} : eb_E L d 155 77 [some (Sum.inr x), v1, v2, v3, v4, v5, v6] (st) M = eb_E L d 155 78 [some (Sum.inr x), v1, v2, v3, v4, v5, v6] (Sum.inr x :: st) M := eb_E_s hk155 rfl
theorem e155_78  : eb_E L d 155 78 ls (Sum.inr (some a) :: st) (nc, ns, I, J, R) = if (eb_ty L a.1).1 = 6 then eb_E L d 155 81 ls (Sum.inr (R a 1) :: st) (nc, ns, I, J, R) else none := eb_E_iy hk155 rfl
theorem e155_81 {x : Int32} : eb_E L d 155 81 [v0, v1, some (zi x), v3, v4, v5, v6] (st) M = eb_E L d 155 82 [v0, v1, some (zi x), v3, v4, v5, v6] (zi x :: st) M := eb_E_s hk155 rfl
theorem e155_82 {x : Int32} : eb_E L d 155 82 ls (zi x :: Sum.inr (some a) :: st) (nc, ns, I, J, R) = if (eb_ty L a.1).1 = 10 ∧ eb_in x (eb_ty L a.1).2 = true then eb_E L d 155 83 ls (zi (I a x.toNatClampNeg) :: st) (nc, ns, I, J, R) else none := eb_E_iy hk155 rfl
theorem e155_83 {x : Int32} {y : Int32} : eb_E L d 155 83 ls (zi y :: zi x :: st) M = if x = y then eb_E L d 155 93 ls st M else eb_E L d 155 86 ls st M := eb_E_b hk155 rfl
theorem e155_86 {x : Option eb_A} : eb_E L d 155 86 [some (Sum.inr x), v1, v2, v3, v4, v5, v6] (st) M = eb_E L d 155 87 [some (Sum.inr x), v1, v2, v3, v4, v5, v6] (Sum.inr x :: st) M := eb_E_s hk155 rfl
theorem e155_87  : eb_E L d 155 87 ls (st) M = eb_E L d 155 89 ls (zi (-3) :: st) M := eb_E_s hk155 rfl
theorem e155_89  : eb_E L d 155 89 ls ([a1, a0]) M = (eb_ev L d 145 [a0, a1] M).bind (fun q => eb_E L d 155 92 ls [q.1] q.2) := eb_E_c hk155 rfl
theorem e155_92 {x : Int32} : eb_E L d 155 92 ls ([zi x]) M = some (zi x, M) := eb_E_r hk155 rfl
theorem e155_93 {x : Option eb_A} : eb_E L d 155 93 [some (Sum.inr x), v1, v2, v3, v4, v5, v6] (st) M = eb_E L d 155 94 [some (Sum.inr x), v1, v2, v3, v4, v5, v6] (Sum.inr x :: st) M := eb_E_s hk155 rfl
theorem e155_94  : eb_E L d 155 94 ls (Sum.inr (some a) :: st) (nc, ns, I, J, R) = if (eb_ty L a.1).1 = 6 then eb_E L d 155 97 ls (Sum.inr (R a 0) :: st) (nc, ns, I, J, R) else none := eb_E_iy hk155 rfl
theorem e155_97 {x : Int32} : eb_E L d 155 97 [v0, some (zi x), v2, v3, v4, v5, v6] (st) M = eb_E L d 155 98 [v0, some (zi x), v2, v3, v4, v5, v6] (zi x :: st) M := eb_E_s hk155 rfl
theorem e155_98 {x : Int32} : eb_E L d 155 98 ls (zi x :: Sum.inr (some a) :: st) (nc, ns, I, J, R) = if (eb_ty L a.1).1 = 10 ∧ eb_in x (eb_ty L a.1).2 = true then eb_E L d 155 99 ls (zi (I a x.toNatClampNeg) :: st) (nc, ns, I, J, R) else none := eb_E_iy hk155 rfl
theorem e155_99 {x : Int32} : eb_E L d 155 99 ls (zi x :: st) M = if x = 0 then eb_E L d 155 111 ls st M else eb_E L d 155 102 ls st M := eb_E_b hk155 rfl
theorem e155_102 {x : Option eb_A} : eb_E L d 155 102 [some (Sum.inr x), v1, v2, v3, v4, v5, v6] (st) M = eb_E L d 155 103 [some (Sum.inr x), v1, v2, v3, v4, v5, v6] (Sum.inr x :: st) M := eb_E_s hk155 rfl
theorem e155_103  : eb_E L d 155 103 ls (Sum.inr (some a) :: st) (nc, ns, I, J, R) = if (eb_ty L a.1).1 = 6 then eb_E L d 155 106 ls (Sum.inr (R a 0) :: st) (nc, ns, I, J, R) else none := eb_E_iy hk155 rfl
theorem e155_106 {x : Int32} : eb_E L d 155 106 [v0, v1, some (zi x), v3, v4, v5, v6] (st) M = eb_E L d 155 107 [v0, v1, some (zi x), v3, v4, v5, v6] (zi x :: st) M := eb_E_s hk155 rfl
theorem e155_107 {x : Int32} : eb_E L d 155 107 ls (zi x :: Sum.inr (some a) :: st) (nc, ns, I, J, R) = if (eb_ty L a.1).1 = 10 ∧ eb_in x (eb_ty L a.1).2 = true then eb_E L d 155 108 ls (zi (I a x.toNatClampNeg) :: st) (nc, ns, I, J, R) else none := eb_E_iy hk155 rfl
theorem e155_108 {x : Int32} : eb_E L d 155 108 ls (zi x :: st) M = if x = 0 then eb_E L d 155 111 ls st M else eb_E L d 155 118 ls st M := eb_E_b hk155 rfl
theorem e155_111 {x : Option eb_A} : eb_E L d 155 111 [some (Sum.inr x), v1, v2, v3, v4, v5, v6] (st) M = eb_E L d 155 112 [some (Sum.inr x), v1, v2, v3, v4, v5, v6] (Sum.inr x :: st) M := eb_E_s hk155 rfl
theorem e155_112  : eb_E L d 155 112 ls (st) M = eb_E L d 155 114 ls (zi (-4) :: st) M := eb_E_s hk155 rfl
theorem e155_114  : eb_E L d 155 114 ls ([a1, a0]) M = (eb_ev L d 145 [a0, a1] M).bind (fun q => eb_E L d 155 117 ls [q.1] q.2) := eb_E_c hk155 rfl
theorem e155_117 {x : Int32} : eb_E L d 155 117 ls ([zi x]) M = some (zi x, M) := eb_E_r hk155 rfl
theorem e155_118 {x : Int32} : eb_E L d 155 118 [v0, v1, v2, v3, v4, some (zi x), v6] (st) M = eb_E L d 155 120 [v0, v1, v2, v3, v4, some (zi x), v6] (zi x :: st) M := eb_E_s hk155 rfl
theorem e155_120 {x : Int32} : eb_E L d 155 120 ls (zi x :: st) M = if x < 0 then eb_E L d 155 181 ls st M else eb_E L d 155 123 ls st M := eb_E_b hk155 rfl
theorem e155_123 {x : Int32} : eb_E L d 155 123 [v0, v1, v2, some (zi x), v4, v5, v6] (st) M = eb_E L d 155 124 [v0, v1, v2, some (zi x), v4, v5, v6] (zi x :: st) M := eb_E_s hk155 rfl
theorem e155_124 {x : Int32} : eb_E L d 155 124 ls (zi x :: st) M = if x < 0 then eb_E L d 155 181 ls st M else eb_E L d 155 127 ls st M := eb_E_b hk155 rfl
theorem e155_127 {x : Int32} : eb_E L d 155 127 [v0, v1, v2, v3, some (zi x), v5, v6] (st) M = eb_E L d 155 129 [v0, v1, v2, v3, some (zi x), v5, v6] (zi x :: st) M := eb_E_s hk155 rfl
theorem e155_129 {x : Int32} : eb_E L d 155 129 ls (zi x :: st) M = if x < 0 then eb_E L d 155 181 ls st M else eb_E L d 155 132 ls st M := eb_E_b hk155 rfl
theorem e155_132 {x : Int32} : eb_E L d 155 132 [v0, v1, v2, v3, v4, some (zi x), v6] (st) M = eb_E L d 155 134 [v0, v1, v2, v3, v4, some (zi x), v6] (zi x :: st) M := eb_E_s hk155 rfl
theorem e155_134 {x : Option eb_A} : eb_E L d 155 134 [some (Sum.inr x), v1, v2, v3, v4, v5, v6] (st) M = eb_E L d 155 135 [some (Sum.inr x), v1, v2, v3, v4, v5, v6] (Sum.inr x :: st) M := eb_E_s hk155 rfl
theorem e155_135  : eb_E L d 155 135 ls (Sum.inr (some a) :: st) (nc, ns, I, J, R) = if (eb_ty L a.1).1 = 6 then eb_E L d 155 138 ls (Sum.inr (R a 2) :: st) (nc, ns, I, J, R) else none := eb_E_iy hk155 rfl
theorem e155_138 {x : Int32} : eb_E L d 155 138 [v0, some (zi x), v2, v3, v4, v5, v6] (st) M = eb_E L d 155 139 [v0, some (zi x), v2, v3, v4, v5, v6] (zi x :: st) M := eb_E_s hk155 rfl
theorem e155_139 {x : Int32} : eb_E L d 155 139 ls (zi x :: Sum.inr (some a) :: st) (nc, ns, I, J, R) = if (eb_ty L a.1).1 = 10 ∧ eb_in x (eb_ty L a.1).2 = true then eb_E L d 155 140 ls (zi (I a x.toNatClampNeg) :: st) (nc, ns, I, J, R) else none := eb_E_iy hk155 rfl
theorem e155_140 {x : Int32} {y : Int32} : eb_E L d 155 140 ls (zi y :: zi x :: st) M = if y < x then eb_E L d 155 181 ls st M else eb_E L d 155 143 ls st M := eb_E_b hk155 rfl
theorem e155_143 {x : Int32} : eb_E L d 155 143 [v0, v1, v2, v3, v4, some (zi x), v6] (st) M = eb_E L d 155 145 [v0, v1, v2, v3, v4, some (zi x), v6] (zi x :: st) M := eb_E_s hk155 rfl
theorem e155_145 {x : Option eb_A} : eb_E L d 155 145 [some (Sum.inr x), v1, v2, v3, v4, v5, v6] (st) M = eb_E L d 155 146 [some (Sum.inr x), v1, v2, v3, v4, v5, v6] (Sum.inr x :: st) M := eb_E_s hk155 rfl
theorem e155_146  : eb_E L d 155 146 ls (Sum.inr (some a) :: st) (nc, ns, I, J, R) = if (eb_ty L a.1).1 = 6 then eb_E L d 155 149 ls (Sum.inr (R a 2) :: st) (nc, ns, I, J, R) else none := eb_E_iy hk155 rfl
theorem e155_149 {x : Int32} : eb_E L d 155 149 [v0, v1, some (zi x), v3, v4, v5, v6] (st) M = eb_E L d 155 150 [v0, v1, some (zi x), v3, v4, v5, v6] (zi x :: st) M := eb_E_s hk155 rfl
theorem e155_150 {x : Int32} : eb_E L d 155 150 ls (zi x :: Sum.inr (some a) :: st) (nc, ns, I, J, R) = if (eb_ty L a.1).1 = 10 ∧ eb_in x (eb_ty L a.1).2 = true then eb_E L d 155 151 ls (zi (I a x.toNatClampNeg) :: st) (nc, ns, I, J, R) else none := eb_E_iy hk155 rfl
theorem e155_151 {x : Int32} {y : Int32} : eb_E L d 155 151 ls (zi y :: zi x :: st) M = if y < x then eb_E L d 155 181 ls st M else eb_E L d 155 154 ls st M := eb_E_b hk155 rfl
theorem e155_154 {x : Int32} : eb_E L d 155 154 [v0, v1, v2, some (zi x), v4, v5, v6] (st) M = eb_E L d 155 155 [v0, v1, v2, some (zi x), v4, v5, v6] (zi x :: st) M := eb_E_s hk155 rfl
theorem e155_155 {x : Option eb_A} : eb_E L d 155 155 [some (Sum.inr x), v1, v2, v3, v4, v5, v6] (st) M = eb_E L d 155 156 [some (Sum.inr x), v1, v2, v3, v4, v5, v6] (Sum.inr x :: st) M := eb_E_s hk155 rfl
theorem e155_156  : eb_E L d 155 156 ls (Sum.inr (some a) :: st) (nc, ns, I, J, R) = if (eb_ty L a.1).1 = 6 then eb_E L d 155 159 ls (Sum.inr (R a 2) :: st) (nc, ns, I, J, R) else none := eb_E_iy hk155 rfl
theorem e155_159 {x : Int32} : eb_E L d 155 159 [v0, some (zi x), v2, v3, v4, v5, v6] (st) M = eb_E L d 155 160 [v0, some (zi x), v2, v3, v4, v5, v6] (zi x :: st) M := eb_E_s hk155 rfl
theorem e155_160 {x : Int32} : eb_E L d 155 160 ls (zi x :: Sum.inr (some a) :: st) (nc, ns, I, J, R) = if (eb_ty L a.1).1 = 10 ∧ eb_in x (eb_ty L a.1).2 = true then eb_E L d 155 161 ls (zi (I a x.toNatClampNeg) :: st) (nc, ns, I, J, R) else none := eb_E_iy hk155 rfl
theorem e155_161 {x : Int32} : eb_E L d 155 161 [v0, v1, v2, v3, v4, some (zi x), v6] (st) M = eb_E L d 155 163 [v0, v1, v2, v3, v4, some (zi x), v6] (zi x :: st) M := eb_E_s hk155 rfl
theorem e155_163 {x : Int32} {y : Int32} : eb_E L d 155 163 ls (zi y :: zi x :: st) M = eb_E L d 155 164 ls (zi (x - y) :: st) M := eb_E_s hk155 rfl
theorem e155_164 {x : Int32} {y : Int32} : eb_E L d 155 164 ls (zi y :: zi x :: st) M = if y < x then eb_E L d 155 181 ls st M else eb_E L d 155 167 ls st M := eb_E_b hk155 rfl
theorem e155_167 {x : Int32} : eb_E L d 155 167 [v0, v1, v2, v3, some (zi x), v5, v6] (st) M = eb_E L d 155 169 [v0, v1, v2, v3, some (zi x), v5, v6] (zi x :: st) M := eb_E_s hk155 rfl
theorem e155_169 {x : Option eb_A} : eb_E L d 155 169 [some (Sum.inr x), v1, v2, v3, v4, v5, v6] (st) M = eb_E L d 155 170 [some (Sum.inr x), v1, v2, v3, v4, v5, v6] (Sum.inr x :: st) M := eb_E_s hk155 rfl
theorem e155_170  : eb_E L d 155 170 ls (Sum.inr (some a) :: st) (nc, ns, I, J, R) = if (eb_ty L a.1).1 = 6 then eb_E L d 155 173 ls (Sum.inr (R a 2) :: st) (nc, ns, I, J, R) else none := eb_E_iy hk155 rfl
theorem e155_173 {x : Int32} : eb_E L d 155 173 [v0, v1, some (zi x), v3, v4, v5, v6] (st) M = eb_E L d 155 174 [v0, v1, some (zi x), v3, v4, v5, v6] (zi x :: st) M := eb_E_s hk155 rfl
theorem e155_174 {x : Int32} : eb_E L d 155 174 ls (zi x :: Sum.inr (some a) :: st) (nc, ns, I, J, R) = if (eb_ty L a.1).1 = 10 ∧ eb_in x (eb_ty L a.1).2 = true then eb_E L d 155 175 ls (zi (I a x.toNatClampNeg) :: st) (nc, ns, I, J, R) else none := eb_E_iy hk155 rfl
theorem e155_175 {x : Int32} : eb_E L d 155 175 [v0, v1, v2, v3, v4, some (zi x), v6] (st) M = eb_E L d 155 177 [v0, v1, v2, v3, v4, some (zi x), v6] (zi x :: st) M := eb_E_s hk155 rfl
theorem e155_177 {x : Int32} {y : Int32} : eb_E L d 155 177 ls (zi y :: zi x :: st) M = eb_E L d 155 178 ls (zi (x - y) :: st) M := eb_E_s hk155 rfl
theorem e155_178 {x : Int32} {y : Int32} : eb_E L d 155 178 ls (zi y :: zi x :: st) M = if y < x then eb_E L d 155 181 ls st M else eb_E L d 155 188 ls st M := eb_E_b hk155 rfl
theorem e155_181 {x : Option eb_A} : eb_E L d 155 181 [some (Sum.inr x), v1, v2, v3, v4, v5, v6] (st) M = eb_E L d 155 182 [some (Sum.inr x), v1, v2, v3, v4, v5, v6] (Sum.inr x :: st) M := eb_E_s hk155 rfl
theorem e155_182  : eb_E L d 155 182 ls (st) M = eb_E L d 155 184 ls (zi (-2) :: st) M := eb_E_s hk155 rfl
theorem e155_184  : eb_E L d 155 184 ls ([a1, a0]) M = (eb_ev L d 145 [a0, a1] M).bind (fun q => eb_E L d 155 187 ls [q.1] q.2) := eb_E_c hk155 rfl
theorem e155_187 {x : Int32} : eb_E L d 155 187 ls ([zi x]) M = some (zi x, M) := eb_E_r hk155 rfl
theorem e155_188  : eb_E L d 155 188 ls (st) M = eb_E L d 155 189 ls (zi 0 :: st) M := eb_E_s hk155 rfl
theorem e155_189 {x : Int32} : eb_E L d 155 189 [v0, v1, v2, v3, v4, v5, v6] (zi x :: st) M = eb_E L d 155 191 [v0, v1, v2, v3, v4, v5, some (zi x)] (st) M := eb_E_s hk155 rfl
theorem e155_191 {x : Int32} : eb_E L d 155 191 [v0, v1, v2, v3, v4, v5, some (zi x)] (st) M = eb_E L d 155 193 [v0, v1, v2, v3, v4, v5, some (zi x)] (zi x :: st) M := eb_E_s hk155 rfl
theorem e155_193 {x : Int32} : eb_E L d 155 193 [v0, v1, v2, v3, v4, some (zi x), v6] (st) M = eb_E L d 155 195 [v0, v1, v2, v3, v4, some (zi x), v6] (zi x :: st) M := eb_E_s hk155 rfl
theorem e155_195 {x : Int32} {y : Int32} : eb_E L d 155 195 ls (zi y :: zi x :: st) M = if x < y then eb_E L d 155 198 ls st M else eb_E L d 155 222 ls st M := eb_E_b hk155 rfl
theorem e155_198 {x : Option eb_A} : eb_E L d 155 198 [some (Sum.inr x), v1, v2, v3, v4, v5, v6] (st) M = eb_E L d 155 199 [some (Sum.inr x), v1, v2, v3, v4, v5, v6] (Sum.inr x :: st) M := eb_E_s hk155 rfl
theorem e155_199  : eb_E L d 155 199 ls (Sum.inr (some a) :: st) (nc, ns, I, J, R) = if (eb_ty L a.1).1 = 6 then eb_E L d 155 202 ls (Sum.inr (R a 4) :: st) (nc, ns, I, J, R) else none := eb_E_iy hk155 rfl
theorem e155_202 {x : Int32} : eb_E L d 155 202 [v0, v1, v2, v3, v4, v5, some (zi x)] (st) M = eb_E L d 155 204 [v0, v1, v2, v3, v4, v5, some (zi x)] (zi x :: st) M := eb_E_s hk155 rfl
theorem e155_204 {x : Option eb_A} : eb_E L d 155 204 [some (Sum.inr x), v1, v2, v3, v4, v5, v6] (st) M = eb_E L d 155 205 [some (Sum.inr x), v1, v2, v3, v4, v5, v6] (Sum.inr x :: st) M := eb_E_s hk155 rfl
theorem e155_205  : eb_E L d 155 205 ls (Sum.inr (some a) :: st) (nc, ns, I, J, R) = if (eb_ty L a.1).1 = 6 then eb_E L d 155 208 ls (Sum.inr (R a 3) :: st) (nc, ns, I, J, R) else none := eb_E_iy hk155 rfl
theorem e155_208 {x : Int32} : eb_E L d 155 208 [v0, some (zi x), v2, v3, v4, v5, v6] (st) M = eb_E L d 155 209 [v0, some (zi x), v2, v3, v4, v5, v6] (zi x :: st) M := eb_E_s hk155 rfl
theorem e155_209 {x : Int32} : eb_E L d 155 209 ls (zi x :: Sum.inr (some a) :: st) (nc, ns, I, J, R) = if (12 ≤ (eb_ty L a.1).1 ∧ (eb_ty L a.1).1 ≤ 16) ∧ eb_in x (eb_ty L a.1).2 = true then eb_E L d 155 210 ls (Sum.inr (R a x.toNatClampNeg) :: st) (nc, ns, I, J, R) else none := eb_E_iy hk155 rfl
theorem e155_210 {x : Int32} : eb_E L d 155 210 [v0, v1, v2, some (zi x), v4, v5, v6] (st) M = eb_E L d 155 211 [v0, v1, v2, some (zi x), v4, v5, v6] (zi x :: st) M := eb_E_s hk155 rfl
theorem e155_211 {x : Int32} : eb_E L d 155 211 [v0, v1, v2, v3, v4, v5, some (zi x)] (st) M = eb_E L d 155 213 [v0, v1, v2, v3, v4, v5, some (zi x)] (zi x :: st) M := eb_E_s hk155 rfl
theorem e155_213 {x : Int32} {y : Int32} : eb_E L d 155 213 ls (zi y :: zi x :: st) M = eb_E L d 155 214 ls (zi (x + y) :: st) M := eb_E_s hk155 rfl
theorem e155_214 {x : Int32} : eb_E L d 155 214 ls (zi x :: Sum.inr (some a) :: st) (nc, ns, I, J, R) = if (eb_ty L a.1).1 = 11 ∧ eb_in x (eb_ty L a.1).2 = true then eb_E L d 155 215 ls (zl (J a x.toNatClampNeg) :: st) (nc, ns, I, J, R) else none := eb_E_iy hk155 rfl
theorem e155_215 {x : Int32} {v : Int64} : eb_E L d 155 215 ls (zl v :: zi x :: Sum.inr (some a) :: st) (nc, ns, I, J, R) = if (eb_ty L a.1).1 = 11 ∧ eb_in x (eb_ty L a.1).2 = true then eb_E L d 155 216 ls (st) (nc, ns, I, eb_u J a x.toNatClampNeg v, R) else none := eb_E_iy hk155 rfl
theorem e155_216 {x : Int32} : eb_E L d 155 216 [v0, v1, v2, v3, v4, v5, some (zi x)] (st) M = eb_E L d 155 219 [v0, v1, v2, v3, v4, v5, some (zi (x + 1))] (st) M := eb_E_s hk155 rfl
theorem e155_219  : eb_E L d 155 219 ls (st) M = eb_E L d 155 191 ls (st) M := eb_E_s hk155 rfl
theorem e155_222  : eb_E L d 155 222 ls (st) M = eb_E L d 155 223 ls (zi 0 :: st) M := eb_E_s hk155 rfl
theorem e155_223 {x : Int32} : eb_E L d 155 223 [v0, v1, v2, v3, v4, v5, v6] (zi x :: st) M = eb_E L d 155 225 [v0, v1, v2, v3, v4, v5, some (zi x)] (st) M := eb_E_s hk155 rfl
theorem e155_225 {x : Int32} : eb_E L d 155 225 [v0, v1, v2, v3, v4, v5, some (zi x)] (st) M = eb_E L d 155 227 [v0, v1, v2, v3, v4, v5, some (zi x)] (zi x :: st) M := eb_E_s hk155 rfl
theorem e155_227 {x : Int32} : eb_E L d 155 227 [v0, v1, v2, v3, v4, some (zi x), v6] (st) M = eb_E L d 155 229 [v0, v1, v2, v3, v4, some (zi x), v6] (zi x :: st) M := eb_E_s hk155 rfl
theorem e155_229 {x : Int32} {y : Int32} : eb_E L d 155 229 ls (zi y :: zi x :: st) M = if x < y then eb_E L d 155 232 ls st M else eb_E L d 155 257 ls st M := eb_E_b hk155 rfl
theorem e155_232 {x : Option eb_A} : eb_E L d 155 232 [some (Sum.inr x), v1, v2, v3, v4, v5, v6] (st) M = eb_E L d 155 233 [some (Sum.inr x), v1, v2, v3, v4, v5, v6] (Sum.inr x :: st) M := eb_E_s hk155 rfl
theorem e155_233  : eb_E L d 155 233 ls (Sum.inr (some a) :: st) (nc, ns, I, J, R) = if (eb_ty L a.1).1 = 6 then eb_E L d 155 236 ls (Sum.inr (R a 3) :: st) (nc, ns, I, J, R) else none := eb_E_iy hk155 rfl
theorem e155_236 {x : Int32} : eb_E L d 155 236 [v0, v1, some (zi x), v3, v4, v5, v6] (st) M = eb_E L d 155 237 [v0, v1, some (zi x), v3, v4, v5, v6] (zi x :: st) M := eb_E_s hk155 rfl
theorem e155_237 {x : Int32} : eb_E L d 155 237 ls (zi x :: Sum.inr (some a) :: st) (nc, ns, I, J, R) = if (12 ≤ (eb_ty L a.1).1 ∧ (eb_ty L a.1).1 ≤ 16) ∧ eb_in x (eb_ty L a.1).2 = true then eb_E L d 155 238 ls (Sum.inr (R a x.toNatClampNeg) :: st) (nc, ns, I, J, R) else none := eb_E_iy hk155 rfl
theorem e155_238 {x : Int32} : eb_E L d 155 238 [v0, v1, v2, v3, some (zi x), v5, v6] (st) M = eb_E L d 155 240 [v0, v1, v2, v3, some (zi x), v5, v6] (zi x :: st) M := eb_E_s hk155 rfl
theorem e155_240 {x : Int32} : eb_E L d 155 240 [v0, v1, v2, v3, v4, v5, some (zi x)] (st) M = eb_E L d 155 242 [v0, v1, v2, v3, v4, v5, some (zi x)] (zi x :: st) M := eb_E_s hk155 rfl
theorem e155_242 {x : Int32} {y : Int32} : eb_E L d 155 242 ls (zi y :: zi x :: st) M = eb_E L d 155 243 ls (zi (x + y) :: st) M := eb_E_s hk155 rfl
theorem e155_243 {x : Option eb_A} : eb_E L d 155 243 [some (Sum.inr x), v1, v2, v3, v4, v5, v6] (st) M = eb_E L d 155 244 [some (Sum.inr x), v1, v2, v3, v4, v5, v6] (Sum.inr x :: st) M := eb_E_s hk155 rfl
theorem e155_244  : eb_E L d 155 244 ls (Sum.inr (some a) :: st) (nc, ns, I, J, R) = if (eb_ty L a.1).1 = 6 then eb_E L d 155 247 ls (Sum.inr (R a 4) :: st) (nc, ns, I, J, R) else none := eb_E_iy hk155 rfl
theorem e155_247 {x : Int32} : eb_E L d 155 247 [v0, v1, v2, v3, v4, v5, some (zi x)] (st) M = eb_E L d 155 249 [v0, v1, v2, v3, v4, v5, some (zi x)] (zi x :: st) M := eb_E_s hk155 rfl
theorem e155_249 {x : Int32} : eb_E L d 155 249 ls (zi x :: Sum.inr (some a) :: st) (nc, ns, I, J, R) = if (eb_ty L a.1).1 = 11 ∧ eb_in x (eb_ty L a.1).2 = true then eb_E L d 155 250 ls (zl (J a x.toNatClampNeg) :: st) (nc, ns, I, J, R) else none := eb_E_iy hk155 rfl
theorem e155_250 {x : Int32} {v : Int64} : eb_E L d 155 250 ls (zl v :: zi x :: Sum.inr (some a) :: st) (nc, ns, I, J, R) = if (eb_ty L a.1).1 = 11 ∧ eb_in x (eb_ty L a.1).2 = true then eb_E L d 155 251 ls (st) (nc, ns, I, eb_u J a x.toNatClampNeg v, R) else none := eb_E_iy hk155 rfl
theorem e155_251 {x : Int32} : eb_E L d 155 251 [v0, v1, v2, v3, v4, v5, some (zi x)] (st) M = eb_E L d 155 254 [v0, v1, v2, v3, v4, v5, some (zi (x + 1))] (st) M := eb_E_s hk155 rfl
theorem e155_254  : eb_E L d 155 254 ls (st) M = eb_E L d 155 225 ls (st) M := eb_E_s hk155 rfl
theorem e155_257 {x : Int32} : eb_E L d 155 257 [v0, v1, v2, v3, v4, some (zi x), v6] (st) M = eb_E L d 155 259 [v0, v1, v2, v3, v4, some (zi x), v6] (zi x :: st) M := eb_E_s hk155 rfl
theorem e155_259 {x : Int32} : eb_E L d 155 259 ls ([zi x]) M = some (zi x, M) := eb_E_r hk155 rfl
/-! X6_element -/
theorem hk156 : eb_cd L 156 = eb_look (kt156 L) := rfl
theorem h156 (ha : (eb_ty L a.1).1 = 6) {x1 : Int32} {x2 : Int32} : eb_ev L (d + 1) 156 [zr a, zi x1, zi x2] M = eb_E L d 156 0 [some (zr a), some (zi x1), some (zi x2)] [] M := eb_ev_s rfl (eb_chk_i ha rfl)
theorem e156_0 {x : Int32} : eb_E L d 156 0 [v0, some (zi x), v2] (st) M = eb_E L d 156 1 [v0, some (zi x), v2] (zi x :: st) M := eb_E_s hk156 rfl
theorem e156_1 {x : Int32} : eb_E L d 156 1 ls (zi x :: st) M = eb_E L d 156 2 ls (zl x.toInt64 :: st) M := eb_E_s hk156 rfl
theorem e156_2  : eb_E L d 156 2 ls (st) M = eb_E L d 156 3 ls (zl 0 :: st) M := eb_E_s hk156 rfl
theorem e156_3  : eb_E L d 156 3 ls (st) M = eb_E L d 156 6 ls (zl 7 :: st) M := eb_E_s hk156 rfl
theorem e156_6  : eb_E L d 156 6 ls ([a2, a1, a0]) M = (eb_ev L d 146 [a0, a1, a2] M).bind (fun q => eb_E L d 156 9 ls [q.1] q.2) := eb_E_c hk156 rfl
theorem e156_9 {x : Int32} : eb_E L d 156 9 ls (zi x :: st) M = if x = 0 then eb_E L d 156 51 ls st M else eb_E L d 156 12 ls st M := eb_E_b hk156 rfl
theorem e156_12 {x : Option eb_A} : eb_E L d 156 12 [some (Sum.inr x), v1, v2] (st) M = eb_E L d 156 13 [some (Sum.inr x), v1, v2] (Sum.inr x :: st) M := eb_E_s hk156 rfl
theorem e156_13  : eb_E L d 156 13 ls (Sum.inr (some a) :: st) (nc, ns, I, J, R) = if (eb_ty L a.1).1 = 6 then eb_E L d 156 16 ls (Sum.inr (R a 0) :: st) (nc, ns, I, J, R) else none := eb_E_iy hk156 rfl
theorem e156_16 {x : Int32} : eb_E L d 156 16 [v0, some (zi x), v2] (st) M = eb_E L d 156 17 [v0, some (zi x), v2] (zi x :: st) M := eb_E_s hk156 rfl
theorem e156_17 {x : Int32} : eb_E L d 156 17 ls (zi x :: Sum.inr (some a) :: st) (nc, ns, I, J, R) = if (eb_ty L a.1).1 = 10 ∧ eb_in x (eb_ty L a.1).2 = true then eb_E L d 156 18 ls (zi (I a x.toNatClampNeg) :: st) (nc, ns, I, J, R) else none := eb_E_iy hk156 rfl
theorem e156_18  : eb_E L d 156 18 ls (st) M = eb_E L d 156 19 ls (zi 1 :: st) M := eb_E_s hk156 rfl
theorem e156_19 {x : Int32} {y : Int32} : eb_E L d 156 19 ls (zi y :: zi x :: st) M = if x = y then eb_E L d 156 22 ls st M else eb_E L d 156 51 ls st M := eb_E_b hk156 rfl
theorem e156_22 {x : Int32} : eb_E L d 156 22 [v0, v1, some (zi x)] (st) M = eb_E L d 156 23 [v0, v1, some (zi x)] (zi x :: st) M := eb_E_s hk156 rfl
theorem e156_23 {x : Int32} : eb_E L d 156 23 ls (zi x :: st) M = eb_E L d 156 24 ls (zl x.toInt64 :: st) M := eb_E_s hk156 rfl
theorem e156_24  : eb_E L d 156 24 ls (st) M = eb_E L d 156 25 ls (zl 0 :: st) M := eb_E_s hk156 rfl
theorem e156_25 {x : Option eb_A} : eb_E L d 156 25 [some (Sum.inr x), v1, v2] (st) M = eb_E L d 156 26 [some (Sum.inr x), v1, v2] (Sum.inr x :: st) M := eb_E_s hk156 rfl
theorem e156_26  : eb_E L d 156 26 ls (Sum.inr (some a) :: st) (nc, ns, I, J, R) = if (eb_ty L a.1).1 = 6 then eb_E L d 156 29 ls (Sum.inr (R a 2) :: st) (nc, ns, I, J, R) else none := eb_E_iy hk156 rfl
theorem e156_29 {x : Int32} : eb_E L d 156 29 [v0, some (zi x), v2] (st) M = eb_E L d 156 30 [v0, some (zi x), v2] (zi x :: st) M := eb_E_s hk156 rfl
theorem e156_30 {x : Int32} : eb_E L d 156 30 ls (zi x :: Sum.inr (some a) :: st) (nc, ns, I, J, R) = if (eb_ty L a.1).1 = 10 ∧ eb_in x (eb_ty L a.1).2 = true then eb_E L d 156 31 ls (zi (I a x.toNatClampNeg) :: st) (nc, ns, I, J, R) else none := eb_E_iy hk156 rfl
theorem e156_31  : eb_E L d 156 31 ls (st) M = eb_E L d 156 32 ls (zi 1 :: st) M := eb_E_s hk156 rfl
theorem e156_32 {x : Int32} {y : Int32} : eb_E L d 156 32 ls (zi y :: zi x :: st) M = eb_E L d 156 33 ls (zi (x - y) :: st) M := eb_E_s hk156 rfl
theorem e156_33 {x : Int32} : eb_E L d 156 33 ls (zi x :: st) M = eb_E L d 156 34 ls (zl x.toInt64 :: st) M := eb_E_s hk156 rfl
theorem e156_34  : eb_E L d 156 34 ls ([a2, a1, a0]) M = (eb_ev L d 146 [a0, a1, a2] M).bind (fun q => eb_E L d 156 37 ls [q.1] q.2) := eb_E_c hk156 rfl
theorem e156_37 {x : Int32} : eb_E L d 156 37 ls (zi x :: st) M = if x = 0 then eb_E L d 156 51 ls st M else eb_E L d 156 40 ls st M := eb_E_b hk156 rfl
theorem e156_40 {x : Option eb_A} : eb_E L d 156 40 [some (Sum.inr x), v1, v2] (st) M = eb_E L d 156 41 [some (Sum.inr x), v1, v2] (Sum.inr x :: st) M := eb_E_s hk156 rfl
theorem e156_41  : eb_E L d 156 41 ls (Sum.inr (some a) :: st) (nc, ns, I, J, R) = if (eb_ty L a.1).1 = 6 then eb_E L d 156 44 ls (Sum.inr (R a 3) :: st) (nc, ns, I, J, R) else none := eb_E_iy hk156 rfl
theorem e156_44 {x : Int32} : eb_E L d 156 44 [v0, some (zi x), v2] (st) M = eb_E L d 156 45 [v0, some (zi x), v2] (zi x :: st) M := eb_E_s hk156 rfl
theorem e156_45 {x : Int32} : eb_E L d 156 45 ls (zi x :: Sum.inr (some a) :: st) (nc, ns, I, J, R) = if (12 ≤ (eb_ty L a.1).1 ∧ (eb_ty L a.1).1 ≤ 16) ∧ eb_in x (eb_ty L a.1).2 = true then eb_E L d 156 46 ls (Sum.inr (R a x.toNatClampNeg) :: st) (nc, ns, I, J, R) else none := eb_E_iy hk156 rfl
theorem e156_46 {x : Int32} : eb_E L d 156 46 [v0, v1, some (zi x)] (st) M = eb_E L d 156 47 [v0, v1, some (zi x)] (zi x :: st) M := eb_E_s hk156 rfl
theorem e156_47 {x : Int32} : eb_E L d 156 47 ls (zi x :: Sum.inr (some a) :: st) (nc, ns, I, J, R) = if (eb_ty L a.1).1 = 11 ∧ eb_in x (eb_ty L a.1).2 = true then eb_E L d 156 48 ls (zl (J a x.toNatClampNeg) :: st) (nc, ns, I, J, R) else none := eb_E_iy hk156 rfl
theorem e156_48  : eb_E L d 156 48 ls (st) M = eb_E L d 156 52 ls (st) M := eb_E_s hk156 rfl
theorem e156_51  : eb_E L d 156 51 ls (st) M = eb_E L d 156 52 ls (zl 0 :: st) M := eb_E_s hk156 rfl
theorem e156_52 {x : Int64} : eb_E L d 156 52 ls ([zl x]) M = some (zl x, M) := eb_E_r hk156 rfl
/-! X6_holds -/
theorem hk157 : eb_cd L 157 = eb_look (kt157 L) := rfl
theorem h157 (ha : (eb_ty L a.1).1 = 6) {x1 : Int32} : eb_ev L (d + 1) 157 [zr a, zi x1] M = eb_E L d 157 0 [some (zr a), some (zi x1)] [] M := eb_ev_s rfl (eb_chk_i ha rfl)
theorem e157_0 {x : Int32} : eb_E L d 157 0 [v0, some (zi x)] (st) M = eb_E L d 157 1 [v0, some (zi x)] (zi x :: st) M := eb_E_s hk157 rfl
theorem e157_1 {x : Int32} : eb_E L d 157 1 ls (zi x :: st) M = eb_E L d 157 2 ls (zl x.toInt64 :: st) M := eb_E_s hk157 rfl
theorem e157_2  : eb_E L d 157 2 ls (st) M = eb_E L d 157 3 ls (zl 0 :: st) M := eb_E_s hk157 rfl
theorem e157_3  : eb_E L d 157 3 ls (st) M = eb_E L d 157 6 ls (zl 7 :: st) M := eb_E_s hk157 rfl
theorem e157_6  : eb_E L d 157 6 ls ([a2, a1, a0]) M = (eb_ev L d 146 [a0, a1, a2] M).bind (fun q => eb_E L d 157 9 ls [q.1] q.2) := eb_E_c hk157 rfl
theorem e157_9 {x : Int32} : eb_E L d 157 9 ls (zi x :: st) M = if x = 0 then eb_E L d 157 21 ls st M else eb_E L d 157 12 ls st M := eb_E_b hk157 rfl
theorem e157_12 {x : Option eb_A} : eb_E L d 157 12 [some (Sum.inr x), v1] (st) M = eb_E L d 157 13 [some (Sum.inr x), v1] (Sum.inr x :: st) M := eb_E_s hk157 rfl
theorem e157_13  : eb_E L d 157 13 ls (Sum.inr (some a) :: st) (nc, ns, I, J, R) = if (eb_ty L a.1).1 = 6 then eb_E L d 157 16 ls (Sum.inr (R a 0) :: st) (nc, ns, I, J, R) else none := eb_E_iy hk157 rfl
theorem e157_16 {x : Int32} : eb_E L d 157 16 [v0, some (zi x)] (st) M = eb_E L d 157 17 [v0, some (zi x)] (zi x :: st) M := eb_E_s hk157 rfl
theorem e157_17 {x : Int32} : eb_E L d 157 17 ls (zi x :: Sum.inr (some a) :: st) (nc, ns, I, J, R) = if (eb_ty L a.1).1 = 10 ∧ eb_in x (eb_ty L a.1).2 = true then eb_E L d 157 18 ls (zi (I a x.toNatClampNeg) :: st) (nc, ns, I, J, R) else none := eb_E_iy hk157 rfl
theorem e157_18 {x : Int32} : eb_E L d 157 18 ls (zi x :: st) M = if x = 0 then eb_E L d 157 21 ls st M else eb_E L d 157 23 ls st M := eb_E_b hk157 rfl
theorem e157_21  : eb_E L d 157 21 ls (st) M = eb_E L d 157 22 ls (zi (-1) :: st) M := eb_E_s hk157 rfl
theorem e157_22 {x : Int32} : eb_E L d 157 22 ls ([zi x]) M = some (zi x, M) := eb_E_r hk157 rfl
theorem e157_23 {x : Option eb_A} : eb_E L d 157 23 [some (Sum.inr x), v1] (st) M = eb_E L d 157 24 [some (Sum.inr x), v1] (Sum.inr x :: st) M := eb_E_s hk157 rfl
theorem e157_24  : eb_E L d 157 24 ls (Sum.inr (some a) :: st) (nc, ns, I, J, R) = if (eb_ty L a.1).1 = 6 then eb_E L d 157 27 ls (Sum.inr (R a 0) :: st) (nc, ns, I, J, R) else none := eb_E_iy hk157 rfl
theorem e157_27 {x : Int32} : eb_E L d 157 27 [v0, some (zi x)] (st) M = eb_E L d 157 28 [v0, some (zi x)] (zi x :: st) M := eb_E_s hk157 rfl
theorem e157_28 {x : Int32} : eb_E L d 157 28 ls (zi x :: Sum.inr (some a) :: st) (nc, ns, I, J, R) = if (eb_ty L a.1).1 = 10 ∧ eb_in x (eb_ty L a.1).2 = true then eb_E L d 157 29 ls (zi (I a x.toNatClampNeg) :: st) (nc, ns, I, J, R) else none := eb_E_iy hk157 rfl
theorem e157_29  : eb_E L d 157 29 ls (st) M = eb_E L d 157 30 ls (zi 1 :: st) M := eb_E_s hk157 rfl
theorem e157_30 {x : Int32} {y : Int32} : eb_E L d 157 30 ls (zi y :: zi x :: st) M = if x = y then eb_E L d 157 33 ls st M else eb_E L d 157 42 ls st M := eb_E_b hk157 rfl
theorem e157_33 {x : Option eb_A} : eb_E L d 157 33 [some (Sum.inr x), v1] (st) M = eb_E L d 157 34 [some (Sum.inr x), v1] (Sum.inr x :: st) M := eb_E_s hk157 rfl
theorem e157_34  : eb_E L d 157 34 ls (Sum.inr (some a) :: st) (nc, ns, I, J, R) = if (eb_ty L a.1).1 = 6 then eb_E L d 157 37 ls (Sum.inr (R a 1) :: st) (nc, ns, I, J, R) else none := eb_E_iy hk157 rfl
theorem e157_37 {x : Int32} : eb_E L d 157 37 [v0, some (zi x)] (st) M = eb_E L d 157 38 [v0, some (zi x)] (zi x :: st) M := eb_E_s hk157 rfl
theorem e157_38 {x : Int32} : eb_E L d 157 38 ls (zi x :: Sum.inr (some a) :: st) (nc, ns, I, J, R) = if (eb_ty L a.1).1 = 10 ∧ eb_in x (eb_ty L a.1).2 = true then eb_E L d 157 39 ls (zi (I a x.toNatClampNeg) :: st) (nc, ns, I, J, R) else none := eb_E_iy hk157 rfl
theorem e157_39  : eb_E L d 157 39 ls (st) M = eb_E L d 157 51 ls (st) M := eb_E_s hk157 rfl
theorem e157_42  : eb_E L d 157 42 ls (st) M = eb_E L d 157 44 ls (zi 10 :: st) M := eb_E_s hk157 rfl
theorem e157_44 {x : Option eb_A} : eb_E L d 157 44 [some (Sum.inr x), v1] (st) M = eb_E L d 157 45 [some (Sum.inr x), v1] (Sum.inr x :: st) M := eb_E_s hk157 rfl
theorem e157_45  : eb_E L d 157 45 ls (Sum.inr (some a) :: st) (nc, ns, I, J, R) = if (eb_ty L a.1).1 = 6 then eb_E L d 157 48 ls (Sum.inr (R a 5) :: st) (nc, ns, I, J, R) else none := eb_E_iy hk157 rfl
theorem e157_48 {x : Int32} : eb_E L d 157 48 [v0, some (zi x)] (st) M = eb_E L d 157 49 [v0, some (zi x)] (zi x :: st) M := eb_E_s hk157 rfl
theorem e157_49 {x : Int32} : eb_E L d 157 49 ls (zi x :: Sum.inr (some a) :: st) (nc, ns, I, J, R) = if (eb_ty L a.1).1 = 10 ∧ eb_in x (eb_ty L a.1).2 = true then eb_E L d 157 50 ls (zi (I a x.toNatClampNeg) :: st) (nc, ns, I, J, R) else none := eb_E_iy hk157 rfl
theorem e157_50 {x : Int32} {y : Int32} : eb_E L d 157 50 ls (zi y :: zi x :: st) M = eb_E L d 157 51 ls (zi (x + y) :: st) M := eb_E_s hk157 rfl
theorem e157_51 {x : Int32} : eb_E L d 157 51 ls ([zi x]) M = some (zi x, M) := eb_E_r hk157 rfl
/-! X6_show -/
theorem hk158 : eb_cd L 158 = eb_look (kt158 L) := rfl
theorem h158 (ha : (eb_ty L a.1).1 = 6) {x1 : Int32} {x2 : Int32} : eb_ev L (d + 1) 158 [zr a, zi x1, zi x2] M = eb_E L d 158 0 [some (zr a), some (zi x1), some (zi x2)] [] M := eb_ev_s rfl (eb_chk_i ha rfl)
theorem e158_0 {x : Int32} : eb_E L d 158 0 [v0, some (zi x), v2] (st) M = eb_E L d 158 1 [v0, some (zi x), v2] (zi x :: st) M := eb_E_s hk158 rfl
theorem e158_1 {x : Int32} : eb_E L d 158 1 ls (zi x :: st) M = eb_E L d 158 2 ls (zl x.toInt64 :: st) M := eb_E_s hk158 rfl
theorem e158_2  : eb_E L d 158 2 ls (st) M = eb_E L d 158 3 ls (zl 0 :: st) M := eb_E_s hk158 rfl
theorem e158_3  : eb_E L d 158 3 ls (st) M = eb_E L d 158 6 ls (zl 7 :: st) M := eb_E_s hk158 rfl
theorem e158_6  : eb_E L d 158 6 ls ([a2, a1, a0]) M = (eb_ev L d 146 [a0, a1, a2] M).bind (fun q => eb_E L d 158 9 ls [q.1] q.2) := eb_E_c hk158 rfl
theorem e158_9 {x : Int32} : eb_E L d 158 9 ls (zi x :: st) M = if x = 0 then eb_E L d 158 25 ls st M else eb_E L d 158 12 ls st M := eb_E_b hk158 rfl
theorem e158_12 {x : Int32} : eb_E L d 158 12 [v0, v1, some (zi x)] (st) M = eb_E L d 158 13 [v0, v1, some (zi x)] (zi x :: st) M := eb_E_s hk158 rfl
theorem e158_13  : eb_E L d 158 13 ls (st) M = eb_E L d 158 14 ls (zi (-1) :: st) M := eb_E_s hk158 rfl
theorem e158_14 {x : Int32} {y : Int32} : eb_E L d 158 14 ls (zi y :: zi x :: st) M = if x = y then eb_E L d 158 32 ls st M else eb_E L d 158 17 ls st M := eb_E_b hk158 rfl
theorem e158_17 {x : Option eb_A} : eb_E L d 158 17 [some (Sum.inr x), v1, v2] (st) M = eb_E L d 158 18 [some (Sum.inr x), v1, v2] (Sum.inr x :: st) M := eb_E_s hk158 rfl
theorem e158_18 {x : Int32} : eb_E L d 158 18 [v0, v1, some (zi x)] (st) M = eb_E L d 158 19 [v0, v1, some (zi x)] (zi x :: st) M := eb_E_s hk158 rfl
theorem e158_19  : eb_E L d 158 19 ls ([a1, a0]) M = (eb_ev L d 149 [a0, a1] M).bind (fun q => eb_E L d 158 22 ls [q.1] q.2) := eb_E_c hk158 rfl
theorem e158_22 {x : Int32} : eb_E L d 158 22 ls (zi x :: st) M = if x = 0 then eb_E L d 158 25 ls st M else eb_E L d 158 32 ls st M := eb_E_b hk158 rfl
theorem e158_25 {x : Option eb_A} : eb_E L d 158 25 [some (Sum.inr x), v1, v2] (st) M = eb_E L d 158 26 [some (Sum.inr x), v1, v2] (Sum.inr x :: st) M := eb_E_s hk158 rfl
theorem e158_26  : eb_E L d 158 26 ls (st) M = eb_E L d 158 28 ls (zi (-2) :: st) M := eb_E_s hk158 rfl
theorem e158_28  : eb_E L d 158 28 ls ([a1, a0]) M = (eb_ev L d 145 [a0, a1] M).bind (fun q => eb_E L d 158 31 ls [q.1] q.2) := eb_E_c hk158 rfl
theorem e158_31 {x : Int32} : eb_E L d 158 31 ls ([zi x]) M = some (zi x, M) := eb_E_r hk158 rfl
theorem e158_32 {x : Option eb_A} : eb_E L d 158 32 [some (Sum.inr x), v1, v2] (st) M = eb_E L d 158 33 [some (Sum.inr x), v1, v2] (Sum.inr x :: st) M := eb_E_s hk158 rfl
theorem e158_33  : eb_E L d 158 33 ls (Sum.inr (some a) :: st) (nc, ns, I, J, R) = if (eb_ty L a.1).1 = 6 then eb_E L d 158 36 ls (Sum.inr (R a 0) :: st) (nc, ns, I, J, R) else none := eb_E_iy hk158 rfl
theorem e158_36 {x : Int32} : eb_E L d 158 36 [v0, some (zi x), v2] (st) M = eb_E L d 158 37 [v0, some (zi x), v2] (zi x :: st) M := eb_E_s hk158 rfl
theorem e158_37 {x : Int32} : eb_E L d 158 37 [v0, v1, some (zi x)] (st) M = eb_E L d 158 38 [v0, v1, some (zi x)] (zi x :: st) M := eb_E_s hk158 rfl
theorem e158_38  : eb_E L d 158 38 ls (st) M = eb_E L d 158 39 ls (zi (-1) :: st) M := eb_E_s hk158 rfl
theorem e158_39 {x : Int32} {y : Int32} : eb_E L d 158 39 ls (zi y :: zi x :: st) M = if x = y then eb_E L d 158 42 ls st M else eb_E L d 158 46 ls st M := eb_E_b hk158 rfl
theorem e158_42  : eb_E L d 158 42 ls (st) M = eb_E L d 158 43 ls (zi 0 :: st) M := eb_E_s hk158 rfl
theorem e158_43  : eb_E L d 158 43 ls (st) M = eb_E L d 158 47 ls (st) M := eb_E_s hk158 rfl
theorem e158_46  : eb_E L d 158 46 ls (st) M = eb_E L d 158 47 ls (zi 2 :: st) M := eb_E_s hk158 rfl
theorem e158_47 {x : Int32} {v : Int32} : eb_E L d 158 47 ls (zi v :: zi x :: Sum.inr (some a) :: st) (nc, ns, I, J, R) = if (eb_ty L a.1).1 = 10 ∧ eb_in x (eb_ty L a.1).2 = true then eb_E L d 158 48 ls (st) (nc, ns, eb_u I a x.toNatClampNeg v, J, R) else none := eb_E_iy hk158 rfl
theorem e158_48 {x : Option eb_A} : eb_E L d 158 48 [some (Sum.inr x), v1, v2] (st) M = eb_E L d 158 49 [some (Sum.inr x), v1, v2] (Sum.inr x :: st) M := eb_E_s hk158 rfl
theorem e158_49  : eb_E L d 158 49 ls (Sum.inr (some a) :: st) (nc, ns, I, J, R) = if (eb_ty L a.1).1 = 6 then eb_E L d 158 52 ls (Sum.inr (R a 5) :: st) (nc, ns, I, J, R) else none := eb_E_iy hk158 rfl
theorem e158_52 {x : Int32} : eb_E L d 158 52 [v0, some (zi x), v2] (st) M = eb_E L d 158 53 [v0, some (zi x), v2] (zi x :: st) M := eb_E_s hk158 rfl
theorem e158_53 {x : Int32} : eb_E L d 158 53 [v0, v1, some (zi x)] (st) M = eb_E L d 158 54 [v0, v1, some (zi x)] (zi x :: st) M := eb_E_s hk158 rfl
theorem e158_54 {x : Int32} {v : Int32} : eb_E L d 158 54 ls (zi v :: zi x :: Sum.inr (some a) :: st) (nc, ns, I, J, R) = if (eb_ty L a.1).1 = 10 ∧ eb_in x (eb_ty L a.1).2 = true then eb_E L d 158 55 ls (st) (nc, ns, eb_u I a x.toNatClampNeg v, J, R) else none := eb_E_iy hk158 rfl
theorem e158_55  : eb_E L d 158 55 ls (st) M = eb_E L d 158 56 ls (zi 1 :: st) M := eb_E_s hk158 rfl
theorem e158_56 {x : Int32} : eb_E L d 158 56 ls ([zi x]) M = some (zi x, M) := eb_E_r hk158 rfl
/-! X6_isUnder -/
theorem hk159 : eb_cd L 159 = eb_look (kt159 L) := rfl
theorem h159 {x0 : Int32} {x1 : Int32} : eb_ev L (d + 1) 159 [zi x0, zi x1] M = eb_E L d 159 0 [some (zi x0), some (zi x1)] [] M := eb_ev_s rfl rfl
theorem e159_0 {x : Int32} : eb_E L d 159 0 [v0, some (zi x)] (st) M = eb_E L d 159 1 [v0, some (zi x)] (zi x :: st) M := eb_E_s hk159 rfl
theorem e159_1 {x : Int32} : eb_E L d 159 1 ls (zi x :: st) M = if x = 0 then eb_E L d 159 23 ls st M else eb_E L d 159 4 ls st M := eb_E_b hk159 rfl
theorem e159_4 {x : Int32} : eb_E L d 159 4 [some (zi x), v1] (st) M = eb_E L d 159 5 [some (zi x), v1] (zi x :: st) M := eb_E_s hk159 rfl
theorem e159_5 {x : Int32} : eb_E L d 159 5 [v0, some (zi x)] (st) M = eb_E L d 159 6 [v0, some (zi x)] (zi x :: st) M := eb_E_s hk159 rfl
theorem e159_6 {x : Int32} {y : Int32} : eb_E L d 159 6 ls (zi y :: zi x :: st) M = if x = y then eb_E L d 159 23 ls st M else eb_E L d 159 9 ls st M := eb_E_b hk159 rfl
theorem e159_9 {x : Int32} : eb_E L d 159 9 [v0, some (zi x)] (st) M = eb_E L d 159 10 [v0, some (zi x)] (zi x :: st) M := eb_E_s hk159 rfl
theorem e159_10  : eb_E L d 159 10 ls (st) M = eb_E L d 159 11 ls (zi 1 :: st) M := eb_E_s hk159 rfl
theorem e159_11 {x : Int32} {y : Int32} : eb_E L d 159 11 ls (zi y :: zi x :: st) M = if x = y then eb_E L d 159 14 ls st M else eb_E L d 159 27 ls st M := eb_E_b hk159 rfl
theorem e159_14 {x : Int32} : eb_E L d 159 14 [some (zi x), v1] (st) M = eb_E L d 159 15 [some (zi x), v1] (zi x :: st) M := eb_E_s hk159 rfl
theorem e159_15 {x : Int32} : eb_E L d 159 15 ls (zi x :: st) M = if x = 0 then eb_E L d 159 27 ls st M else eb_E L d 159 18 ls st M := eb_E_b hk159 rfl
theorem e159_18 {x : Int32} : eb_E L d 159 18 [some (zi x), v1] (st) M = eb_E L d 159 19 [some (zi x), v1] (zi x :: st) M := eb_E_s hk159 rfl
theorem e159_19  : eb_E L d 159 19 ls (st) M = eb_E L d 159 20 ls (zi 3 :: st) M := eb_E_s hk159 rfl
theorem e159_20 {x : Int32} {y : Int32} : eb_E L d 159 20 ls (zi y :: zi x :: st) M = if x = y then eb_E L d 159 27 ls st M else eb_E L d 159 23 ls st M := eb_E_b hk159 rfl
theorem e159_23  : eb_E L d 159 23 ls (st) M = eb_E L d 159 24 ls (zi 1 :: st) M := eb_E_s hk159 rfl
theorem e159_24  : eb_E L d 159 24 ls (st) M = eb_E L d 159 28 ls (st) M := eb_E_s hk159 rfl
theorem e159_27  : eb_E L d 159 27 ls (st) M = eb_E L d 159 28 ls (zi 0 :: st) M := eb_E_s hk159 rfl
theorem e159_28 {x : Int32} : eb_E L d 159 28 ls ([zi x]) M = if x = 0 ∨ x = 1 then some (zi x, M) else none := eb_E_ri hk159 rfl
/-! X6_says -/
theorem hk160 : eb_cd L 160 = eb_look (kt160 L) := rfl
theorem h160 (ha : (eb_ty L a.1).1 = 6) {x1 : Int32} {x2 : Int32} : eb_ev L (d + 1) 160 [zr a, zi x1, zi x2] M = eb_E L d 160 0 [some (zr a), some (zi x1), some (zi x2)] [] M := eb_ev_s rfl (eb_chk_i ha rfl)
theorem e160_0 {x : Int32} : eb_E L d 160 0 [v0, some (zi x), v2] (st) M = eb_E L d 160 1 [v0, some (zi x), v2] (zi x :: st) M := eb_E_s hk160 rfl
theorem e160_1 {x : Int32} : eb_E L d 160 1 ls (zi x :: st) M = eb_E L d 160 2 ls (zl x.toInt64 :: st) M := eb_E_s hk160 rfl
theorem e160_2  : eb_E L d 160 2 ls (st) M = eb_E L d 160 3 ls (zl 0 :: st) M := eb_E_s hk160 rfl
theorem e160_3  : eb_E L d 160 3 ls (st) M = eb_E L d 160 6 ls (zl 7 :: st) M := eb_E_s hk160 rfl
theorem e160_6  : eb_E L d 160 6 ls ([a2, a1, a0]) M = (eb_ev L d 146 [a0, a1, a2] M).bind (fun q => eb_E L d 160 9 ls [q.1] q.2) := eb_E_c hk160 rfl
theorem e160_9 {x : Int32} : eb_E L d 160 9 ls (zi x :: st) M = if x = 0 then eb_E L d 160 24 ls st M else eb_E L d 160 12 ls st M := eb_E_b hk160 rfl
theorem e160_12 {x : Int32} : eb_E L d 160 12 [v0, v1, some (zi x)] (st) M = eb_E L d 160 13 [v0, v1, some (zi x)] (zi x :: st) M := eb_E_s hk160 rfl
theorem e160_13 {x : Int32} : eb_E L d 160 13 ls (zi x :: st) M = eb_E L d 160 14 ls (zl x.toInt64 :: st) M := eb_E_s hk160 rfl
theorem e160_14  : eb_E L d 160 14 ls (st) M = eb_E L d 160 15 ls (zl 0 :: st) M := eb_E_s hk160 rfl
theorem e160_15  : eb_E L d 160 15 ls (st) M = eb_E L d 160 18 ls (zl 5 :: st) M := eb_E_s hk160 rfl
theorem e160_18  : eb_E L d 160 18 ls ([a2, a1, a0]) M = (eb_ev L d 146 [a0, a1, a2] M).bind (fun q => eb_E L d 160 21 ls [q.1] q.2) := eb_E_c hk160 rfl
theorem e160_21 {x : Int32} : eb_E L d 160 21 ls (zi x :: st) M = if x = 0 then eb_E L d 160 24 ls st M else eb_E L d 160 31 ls st M := eb_E_b hk160 rfl
theorem e160_24 {x : Option eb_A} : eb_E L d 160 24 [some (Sum.inr x), v1, v2] (st) M = eb_E L d 160 25 [some (Sum.inr x), v1, v2] (Sum.inr x :: st) M := eb_E_s hk160 rfl
theorem e160_25  : eb_E L d 160 25 ls (st) M = eb_E L d 160 27 ls (zi (-2) :: st) M := eb_E_s hk160 rfl
theorem e160_27  : eb_E L d 160 27 ls ([a1, a0]) M = (eb_ev L d 145 [a0, a1] M).bind (fun q => eb_E L d 160 30 ls [q.1] q.2) := eb_E_c hk160 rfl
theorem e160_30 {x : Int32} : eb_E L d 160 30 ls ([zi x]) M = some (zi x, M) := eb_E_r hk160 rfl
theorem e160_31 {x : Option eb_A} : eb_E L d 160 31 [some (Sum.inr x), v1, v2] (st) M = eb_E L d 160 32 [some (Sum.inr x), v1, v2] (Sum.inr x :: st) M := eb_E_s hk160 rfl
theorem e160_32  : eb_E L d 160 32 ls (Sum.inr (some a) :: st) (nc, ns, I, J, R) = if (eb_ty L a.1).1 = 6 then eb_E L d 160 35 ls (Sum.inr (R a 0) :: st) (nc, ns, I, J, R) else none := eb_E_iy hk160 rfl
theorem e160_35 {x : Int32} : eb_E L d 160 35 [v0, some (zi x), v2] (st) M = eb_E L d 160 36 [v0, some (zi x), v2] (zi x :: st) M := eb_E_s hk160 rfl
theorem e160_36 {x : Int32} : eb_E L d 160 36 ls (zi x :: Sum.inr (some a) :: st) (nc, ns, I, J, R) = if (eb_ty L a.1).1 = 10 ∧ eb_in x (eb_ty L a.1).2 = true then eb_E L d 160 37 ls (zi (I a x.toNatClampNeg) :: st) (nc, ns, I, J, R) else none := eb_E_iy hk160 rfl
theorem e160_37  : eb_E L d 160 37 ls (st) M = eb_E L d 160 38 ls (zi 1 :: st) M := eb_E_s hk160 rfl
theorem e160_38 {x : Int32} {y : Int32} : eb_E L d 160 38 ls (zi y :: zi x :: st) M = if x = y then eb_E L d 160 71 ls st M else eb_E L d 160 41 ls st M := eb_E_b hk160 rfl
theorem e160_41 {x : Option eb_A} : eb_E L d 160 41 [some (Sum.inr x), v1, v2] (st) M = eb_E L d 160 42 [some (Sum.inr x), v1, v2] (Sum.inr x :: st) M := eb_E_s hk160 rfl
theorem e160_42  : eb_E L d 160 42 ls (Sum.inr (some a) :: st) (nc, ns, I, J, R) = if (eb_ty L a.1).1 = 6 then eb_E L d 160 45 ls (Sum.inr (R a 0) :: st) (nc, ns, I, J, R) else none := eb_E_iy hk160 rfl
theorem e160_45 {x : Int32} : eb_E L d 160 45 [v0, some (zi x), v2] (st) M = eb_E L d 160 46 [v0, some (zi x), v2] (zi x :: st) M := eb_E_s hk160 rfl
theorem e160_46 {x : Int32} : eb_E L d 160 46 ls (zi x :: Sum.inr (some a) :: st) (nc, ns, I, J, R) = if (eb_ty L a.1).1 = 10 ∧ eb_in x (eb_ty L a.1).2 = true then eb_E L d 160 47 ls (zi (I a x.toNatClampNeg) :: st) (nc, ns, I, J, R) else none := eb_E_iy hk160 rfl
theorem e160_47  : eb_E L d 160 47 ls (st) M = eb_E L d 160 48 ls (zi 2 :: st) M := eb_E_s hk160 rfl
theorem e160_48 {x : Int32} {y : Int32} : eb_E L d 160 48 ls (zi y :: zi x :: st) M = if x = y then eb_E L d 160 51 ls st M else eb_E L d 160 78 ls st M := eb_E_b hk160 rfl
theorem e160_51 {x : Option eb_A} : eb_E L d 160 51 [some (Sum.inr x), v1, v2] (st) M = eb_E L d 160 52 [some (Sum.inr x), v1, v2] (Sum.inr x :: st) M := eb_E_s hk160 rfl
theorem e160_52  : eb_E L d 160 52 ls (Sum.inr (some a) :: st) (nc, ns, I, J, R) = if (eb_ty L a.1).1 = 6 then eb_E L d 160 55 ls (Sum.inr (R a 12) :: st) (nc, ns, I, J, R) else none := eb_E_iy hk160 rfl
theorem e160_55 {x : Option eb_A} : eb_E L d 160 55 [some (Sum.inr x), v1, v2] (st) M = eb_E L d 160 56 [some (Sum.inr x), v1, v2] (Sum.inr x :: st) M := eb_E_s hk160 rfl
theorem e160_56  : eb_E L d 160 56 ls (Sum.inr (some a) :: st) (nc, ns, I, J, R) = if (eb_ty L a.1).1 = 6 then eb_E L d 160 59 ls (Sum.inr (R a 5) :: st) (nc, ns, I, J, R) else none := eb_E_iy hk160 rfl
theorem e160_59 {x : Int32} : eb_E L d 160 59 [v0, some (zi x), v2] (st) M = eb_E L d 160 60 [v0, some (zi x), v2] (zi x :: st) M := eb_E_s hk160 rfl
theorem e160_60 {x : Int32} : eb_E L d 160 60 ls (zi x :: Sum.inr (some a) :: st) (nc, ns, I, J, R) = if (eb_ty L a.1).1 = 10 ∧ eb_in x (eb_ty L a.1).2 = true then eb_E L d 160 61 ls (zi (I a x.toNatClampNeg) :: st) (nc, ns, I, J, R) else none := eb_E_iy hk160 rfl
theorem e160_61 {x : Int32} : eb_E L d 160 61 ls (zi x :: Sum.inr (some a) :: st) (nc, ns, I, J, R) = if (12 ≤ (eb_ty L a.1).1 ∧ (eb_ty L a.1).1 ≤ 16) ∧ eb_in x (eb_ty L a.1).2 = true then eb_E L d 160 62 ls (Sum.inr (R a x.toNatClampNeg) :: st) (nc, ns, I, J, R) else none := eb_E_iy hk160 rfl
theorem e160_62  : eb_E L d 160 62 ls (st) M = eb_E L d 160 63 ls (zi 0 :: st) M := eb_E_s hk160 rfl
theorem e160_63 {x : Int32} : eb_E L d 160 63 ls (zi x :: Sum.inr (some a) :: st) (nc, ns, I, J, R) = if (eb_ty L a.1).1 = 10 ∧ eb_in x (eb_ty L a.1).2 = true then eb_E L d 160 64 ls (zi (I a x.toNatClampNeg) :: st) (nc, ns, I, J, R) else none := eb_E_iy hk160 rfl
theorem e160_64 {x : Int32} : eb_E L d 160 64 [v0, v1, some (zi x)] (st) M = eb_E L d 160 65 [v0, v1, some (zi x)] (zi x :: st) M := eb_E_s hk160 rfl
theorem e160_65  : eb_E L d 160 65 ls ([a1, a0]) M = (eb_ev L d 159 [a0, a1] M).bind (fun q => eb_E L d 160 68 ls [q.1] q.2) := eb_E_c hk160 rfl
theorem e160_68 {x : Int32} : eb_E L d 160 68 ls (zi x :: st) M = if x = 0 then eb_E L d 160 71 ls st M else eb_E L d 160 78 ls st M := eb_E_b hk160 rfl
theorem e160_71 {x : Option eb_A} : eb_E L d 160 71 [some (Sum.inr x), v1, v2] (st) M = eb_E L d 160 72 [some (Sum.inr x), v1, v2] (Sum.inr x :: st) M := eb_E_s hk160 rfl
theorem e160_72  : eb_E L d 160 72 ls (st) M = eb_E L d 160 74 ls (zi (-3) :: st) M := eb_E_s hk160 rfl
theorem e160_74  : eb_E L d 160 74 ls ([a1, a0]) M = (eb_ev L d 145 [a0, a1] M).bind (fun q => eb_E L d 160 77 ls [q.1] q.2) := eb_E_c hk160 rfl
theorem e160_77 {x : Int32} : eb_E L d 160 77 ls ([zi x]) M = some (zi x, M) := eb_E_r hk160 rfl
theorem e160_78 {x : Option eb_A} : eb_E L d 160 78 [some (Sum.inr x), v1, v2] (st) M = eb_E L d 160 79 [some (Sum.inr x), v1, v2] (Sum.inr x :: st) M := eb_E_s hk160 rfl
theorem e160_79  : eb_E L d 160 79 ls (Sum.inr (some a) :: st) (nc, ns, I, J, R) = if (eb_ty L a.1).1 = 6 then eb_E L d 160 82 ls (Sum.inr (R a 0) :: st) (nc, ns, I, J, R) else none := eb_E_iy hk160 rfl
theorem e160_82 {x : Int32} : eb_E L d 160 82 [v0, some (zi x), v2] (st) M = eb_E L d 160 83 [v0, some (zi x), v2] (zi x :: st) M := eb_E_s hk160 rfl
theorem e160_83 {x : Int32} : eb_E L d 160 83 ls (zi x :: Sum.inr (some a) :: st) (nc, ns, I, J, R) = if (eb_ty L a.1).1 = 10 ∧ eb_in x (eb_ty L a.1).2 = true then eb_E L d 160 84 ls (zi (I a x.toNatClampNeg) :: st) (nc, ns, I, J, R) else none := eb_E_iy hk160 rfl
theorem e160_84 {x : Int32} : eb_E L d 160 84 ls (zi x :: st) M = if x = 0 then eb_E L d 160 87 ls st M else eb_E L d 160 94 ls st M := eb_E_b hk160 rfl
theorem e160_87 {x : Option eb_A} : eb_E L d 160 87 [some (Sum.inr x), v1, v2] (st) M = eb_E L d 160 88 [some (Sum.inr x), v1, v2] (Sum.inr x :: st) M := eb_E_s hk160 rfl
theorem e160_88  : eb_E L d 160 88 ls (st) M = eb_E L d 160 90 ls (zi (-4) :: st) M := eb_E_s hk160 rfl
theorem e160_90  : eb_E L d 160 90 ls ([a1, a0]) M = (eb_ev L d 145 [a0, a1] M).bind (fun q => eb_E L d 160 93 ls [q.1] q.2) := eb_E_c hk160 rfl
theorem e160_93 {x : Int32} : eb_E L d 160 93 ls ([zi x]) M = some (zi x, M) := eb_E_r hk160 rfl
theorem e160_94 {x : Int32} : eb_E L d 160 94 [v0, v1, some (zi x)] (st) M = eb_E L d 160 95 [v0, v1, some (zi x)] (zi x :: st) M := eb_E_s hk160 rfl
theorem e160_95 {x : Int32} : eb_E L d 160 95 ls (zi x :: st) M = if x = 0 then eb_E L d 160 98 ls st M else eb_E L d 160 114 ls st M := eb_E_b hk160 rfl
theorem e160_98 {x : Option eb_A} : eb_E L d 160 98 [some (Sum.inr x), v1, v2] (st) M = eb_E L d 160 99 [some (Sum.inr x), v1, v2] (Sum.inr x :: st) M := eb_E_s hk160 rfl
theorem e160_99  : eb_E L d 160 99 ls (Sum.inr (some a) :: st) (nc, ns, I, J, R) = if (eb_ty L a.1).1 = 6 then eb_E L d 160 102 ls (Sum.inr (R a 12) :: st) (nc, ns, I, J, R) else none := eb_E_iy hk160 rfl
theorem e160_102 {x : Option eb_A} : eb_E L d 160 102 [some (Sum.inr x), v1, v2] (st) M = eb_E L d 160 103 [some (Sum.inr x), v1, v2] (Sum.inr x :: st) M := eb_E_s hk160 rfl
theorem e160_103  : eb_E L d 160 103 ls (Sum.inr (some a) :: st) (nc, ns, I, J, R) = if (eb_ty L a.1).1 = 6 then eb_E L d 160 106 ls (Sum.inr (R a 5) :: st) (nc, ns, I, J, R) else none := eb_E_iy hk160 rfl
theorem e160_106 {x : Int32} : eb_E L d 160 106 [v0, some (zi x), v2] (st) M = eb_E L d 160 107 [v0, some (zi x), v2] (zi x :: st) M := eb_E_s hk160 rfl
theorem e160_107 {x : Int32} : eb_E L d 160 107 ls (zi x :: Sum.inr (some a) :: st) (nc, ns, I, J, R) = if (eb_ty L a.1).1 = 10 ∧ eb_in x (eb_ty L a.1).2 = true then eb_E L d 160 108 ls (zi (I a x.toNatClampNeg) :: st) (nc, ns, I, J, R) else none := eb_E_iy hk160 rfl
theorem e160_108 {x : Int32} : eb_E L d 160 108 ls (zi x :: Sum.inr (some a) :: st) (nc, ns, I, J, R) = if (12 ≤ (eb_ty L a.1).1 ∧ (eb_ty L a.1).1 ≤ 16) ∧ eb_in x (eb_ty L a.1).2 = true then eb_E L d 160 109 ls (Sum.inr (R a x.toNatClampNeg) :: st) (nc, ns, I, J, R) else none := eb_E_iy hk160 rfl
theorem e160_109  : eb_E L d 160 109 ls (st) M = eb_E L d 160 110 ls (zi 1 :: st) M := eb_E_s hk160 rfl
theorem e160_110 {x : Int32} : eb_E L d 160 110 ls (zi x :: Sum.inr (some a) :: st) (nc, ns, I, J, R) = if (eb_ty L a.1).1 = 10 ∧ eb_in x (eb_ty L a.1).2 = true then eb_E L d 160 111 ls (zi (I a x.toNatClampNeg) :: st) (nc, ns, I, J, R) else none := eb_E_iy hk160 rfl
theorem e160_111  : eb_E L d 160 111 ls (st) M = eb_E L d 160 124 ls (st) M := eb_E_s hk160 rfl
theorem e160_114 {x : Option eb_A} : eb_E L d 160 114 [some (Sum.inr x), v1, v2] (st) M = eb_E L d 160 115 [some (Sum.inr x), v1, v2] (Sum.inr x :: st) M := eb_E_s hk160 rfl
theorem e160_115 {x : Option eb_A} : eb_E L d 160 115 [some (Sum.inr x), v1, v2] (st) M = eb_E L d 160 116 [some (Sum.inr x), v1, v2] (Sum.inr x :: st) M := eb_E_s hk160 rfl
theorem e160_116  : eb_E L d 160 116 ls (Sum.inr (some a) :: st) (nc, ns, I, J, R) = if (eb_ty L a.1).1 = 6 then eb_E L d 160 119 ls (Sum.inr (R a 5) :: st) (nc, ns, I, J, R) else none := eb_E_iy hk160 rfl
theorem e160_119 {x : Int32} : eb_E L d 160 119 [v0, some (zi x), v2] (st) M = eb_E L d 160 120 [v0, some (zi x), v2] (zi x :: st) M := eb_E_s hk160 rfl
theorem e160_120 {x : Int32} : eb_E L d 160 120 ls (zi x :: Sum.inr (some a) :: st) (nc, ns, I, J, R) = if (eb_ty L a.1).1 = 10 ∧ eb_in x (eb_ty L a.1).2 = true then eb_E L d 160 121 ls (zi (I a x.toNatClampNeg) :: st) (nc, ns, I, J, R) else none := eb_E_iy hk160 rfl
theorem e160_121  : eb_E L d 160 121 ls ([a1, a0]) M = (eb_ev L d 194 [a0, a1] M).bind (fun q => eb_E L d 160 124 ls [q.1] q.2) := eb_E_c hk160 rfl
theorem e160_124 {x : Int32} : eb_E L d 160 124 ls ([zi x]) M = some (zi x, M) := eb_E_r hk160 rfl
/-! X6_addInn -/
theorem hk161 : eb_cd L 161 = eb_look (kt161 L) := rfl
theorem h161 (ha : (eb_ty L a.1).1 = 6) {x1 : Int32} {x2 : Int32} {x3 : Int32} {x4 : Int32} : eb_ev L (d + 1) 161 [zr a, zi x1, zi x2, zi x3, zi x4] M = eb_E L d 161 0 [some (zr a), some (zi x1), some (zi x2), some (zi x3), some (zi x4), none] [] M := eb_ev_s rfl (eb_chk_i ha rfl)
theorem e161_0 {x : Option eb_A} : eb_E L d 161 0 [some (Sum.inr x), v1, v2, v3, v4, v5] (st) M = eb_E L d 161 1 [some (Sum.inr x), v1, v2, v3, v4, v5] (Sum.inr x :: st) M := eb_E_s hk161 rfl
theorem e161_1  : eb_E L d 161 1 ls (Sum.inr (some a) :: st) (nc, ns, I, J, R) = if (eb_ty L a.1).1 = 6 then eb_E L d 161 4 ls (Sum.inr (R a 10) :: st) (nc, ns, I, J, R) else none := eb_E_iy hk161 rfl
theorem e161_4 {x : Option eb_A} : eb_E L d 161 4 [some (Sum.inr x), v1, v2, v3, v4, v5] (st) M = eb_E L d 161 5 [some (Sum.inr x), v1, v2, v3, v4, v5] (Sum.inr x :: st) M := eb_E_s hk161 rfl
theorem e161_5a {x : Int32} : eb_E L d 161 5 ls (zi x :: st) M = eb_E L d 161 6 ls (zi x :: zi x :: st) M := eb_E_s hk161 rfl
theorem e161_5b {x : Option eb_A} : eb_E L d 161 5 ls (Sum.inr x :: st) M = eb_E L d 161 6 ls (Sum.inr x :: Sum.inr x :: st) M := eb_E_s hk161 rfl
theorem e161_6  : eb_E L d 161 6 ls (Sum.inr (some a) :: st) (nc, ns, I, J, R) = if (eb_ty L a.1).1 = 6 then eb_E L d 161 9 ls (zi (I a 9) :: st) (nc, ns, I, J, R) else none := eb_E_iy hk161 rfl
theorem e161_9 {x : Option eb_A} {y : Int32} : eb_E L d 161 9 ls (zi y :: Sum.inr x :: st) M = eb_E L d 161 10 ls (zi y :: Sum.inr x :: zi y :: st) M := eb_E_s hk161 rfl
theorem e161_10  : eb_E L d 161 10 ls (st) M = eb_E L d 161 11 ls (zi 1 :: st) M := eb_E_s hk161 rfl
theorem e161_11 {x : Int32} {y : Int32} : eb_E L d 161 11 ls (zi y :: zi x :: st) M = eb_E L d 161 12 ls (zi (x + y) :: st) M := eb_E_s hk161 rfl
theorem e161_12 {x : Int32} : eb_E L d 161 12 ls (zi x :: Sum.inr (some a) :: st) (nc, ns, I, J, R) = if (eb_ty L a.1).1 = 6 then eb_E L d 161 15 ls (st) (nc, ns, eb_u I a 9 x, J, R) else none := eb_E_iy hk161 rfl
theorem e161_15 {x : Int32} : eb_E L d 161 15 ls (zi x :: Sum.inr (some a) :: st) (nc, ns, I, J, R) = if (12 ≤ (eb_ty L a.1).1 ∧ (eb_ty L a.1).1 ≤ 16) ∧ eb_in x (eb_ty L a.1).2 = true then eb_E L d 161 16 ls (Sum.inr (R a x.toNatClampNeg) :: st) (nc, ns, I, J, R) else none := eb_E_iy hk161 rfl
theorem e161_16 {x : Option eb_A} : eb_E L d 161 16 [v0, v1, v2, v3, v4, v5] (Sum.inr x :: st) M = eb_E L d 161 18 [v0, v1, v2, v3, v4, some (Sum.inr x)] (st) M := eb_E_s hk161 rfl
theorem e161_18 {x : Option eb_A} : eb_E L d 161 18 [v0, v1, v2, v3, v4, some (Sum.inr x)] (st) M = eb_E L d 161 20 [v0, v1, v2, v3, v4, some (Sum.inr x)] (Sum.inr x :: st) M := eb_E_s hk161 rfl
theorem e161_20  : eb_E L d 161 20 ls (st) M = eb_E L d 161 21 ls (zi 0 :: st) M := eb_E_s hk161 rfl
theorem e161_21 {x : Int32} : eb_E L d 161 21 [v0, some (zi x), v2, v3, v4, v5] (st) M = eb_E L d 161 22 [v0, some (zi x), v2, v3, v4, v5] (zi x :: st) M := eb_E_s hk161 rfl
theorem e161_22 {x : Int32} {v : Int32} : eb_E L d 161 22 ls (zi v :: zi x :: Sum.inr (some a) :: st) (nc, ns, I, J, R) = if (eb_ty L a.1).1 = 10 ∧ eb_in x (eb_ty L a.1).2 = true then eb_E L d 161 23 ls (st) (nc, ns, eb_u I a x.toNatClampNeg v, J, R) else none := eb_E_iy hk161 rfl
theorem e161_23 {x : Option eb_A} : eb_E L d 161 23 [v0, v1, v2, v3, v4, some (Sum.inr x)] (st) M = eb_E L d 161 25 [v0, v1, v2, v3, v4, some (Sum.inr x)] (Sum.inr x :: st) M := eb_E_s hk161 rfl
theorem e161_25  : eb_E L d 161 25 ls (st) M = eb_E L d 161 26 ls (zi 1 :: st) M := eb_E_s hk161 rfl
theorem e161_26 {x : Int32} : eb_E L d 161 26 [v0, some (zi x), v2, v3, v4, v5] (st) M = eb_E L d 161 27 [v0, some (zi x), v2, v3, v4, v5] (zi x :: st) M := eb_E_s hk161 rfl
theorem e161_27 {x : Int32} {v : Int32} : eb_E L d 161 27 ls (zi v :: zi x :: Sum.inr (some a) :: st) (nc, ns, I, J, R) = if (eb_ty L a.1).1 = 10 ∧ eb_in x (eb_ty L a.1).2 = true then eb_E L d 161 28 ls (st) (nc, ns, eb_u I a x.toNatClampNeg v, J, R) else none := eb_E_iy hk161 rfl
theorem e161_28 {x : Option eb_A} : eb_E L d 161 28 [v0, v1, v2, v3, v4, some (Sum.inr x)] (st) M = eb_E L d 161 30 [v0, v1, v2, v3, v4, some (Sum.inr x)] (Sum.inr x :: st) M := eb_E_s hk161 rfl
theorem e161_30  : eb_E L d 161 30 ls (st) M = eb_E L d 161 31 ls (zi 2 :: st) M := eb_E_s hk161 rfl
theorem e161_31 {x : Int32} : eb_E L d 161 31 [v0, v1, some (zi x), v3, v4, v5] (st) M = eb_E L d 161 32 [v0, v1, some (zi x), v3, v4, v5] (zi x :: st) M := eb_E_s hk161 rfl
theorem e161_32 {x : Int32} {v : Int32} : eb_E L d 161 32 ls (zi v :: zi x :: Sum.inr (some a) :: st) (nc, ns, I, J, R) = if (eb_ty L a.1).1 = 10 ∧ eb_in x (eb_ty L a.1).2 = true then eb_E L d 161 33 ls (st) (nc, ns, eb_u I a x.toNatClampNeg v, J, R) else none := eb_E_iy hk161 rfl
theorem e161_33 {x : Option eb_A} : eb_E L d 161 33 [v0, v1, v2, v3, v4, some (Sum.inr x)] (st) M = eb_E L d 161 35 [v0, v1, v2, v3, v4, some (Sum.inr x)] (Sum.inr x :: st) M := eb_E_s hk161 rfl
theorem e161_35  : eb_E L d 161 35 ls (st) M = eb_E L d 161 36 ls (zi 3 :: st) M := eb_E_s hk161 rfl
theorem e161_36 {x : Int32} : eb_E L d 161 36 [v0, v1, v2, some (zi x), v4, v5] (st) M = eb_E L d 161 37 [v0, v1, v2, some (zi x), v4, v5] (zi x :: st) M := eb_E_s hk161 rfl
theorem e161_37 {x : Int32} {v : Int32} : eb_E L d 161 37 ls (zi v :: zi x :: Sum.inr (some a) :: st) (nc, ns, I, J, R) = if (eb_ty L a.1).1 = 10 ∧ eb_in x (eb_ty L a.1).2 = true then eb_E L d 161 38 ls (st) (nc, ns, eb_u I a x.toNatClampNeg v, J, R) else none := eb_E_iy hk161 rfl
theorem e161_38 {x : Option eb_A} : eb_E L d 161 38 [v0, v1, v2, v3, v4, some (Sum.inr x)] (st) M = eb_E L d 161 40 [v0, v1, v2, v3, v4, some (Sum.inr x)] (Sum.inr x :: st) M := eb_E_s hk161 rfl
theorem e161_40  : eb_E L d 161 40 ls (st) M = eb_E L d 161 41 ls (zi 4 :: st) M := eb_E_s hk161 rfl
theorem e161_41 {x : Int32} : eb_E L d 161 41 [v0, v1, v2, v3, some (zi x), v5] (st) M = eb_E L d 161 43 [v0, v1, v2, v3, some (zi x), v5] (zi x :: st) M := eb_E_s hk161 rfl
theorem e161_43 {x : Int32} {v : Int32} : eb_E L d 161 43 ls (zi v :: zi x :: Sum.inr (some a) :: st) (nc, ns, I, J, R) = if (eb_ty L a.1).1 = 10 ∧ eb_in x (eb_ty L a.1).2 = true then eb_E L d 161 44 ls (st) (nc, ns, eb_u I a x.toNatClampNeg v, J, R) else none := eb_E_iy hk161 rfl
theorem e161_44 {x : Option eb_A} : eb_E L d 161 44 [v0, v1, v2, v3, v4, some (Sum.inr x)] (st) M = eb_E L d 161 46 [v0, v1, v2, v3, v4, some (Sum.inr x)] (Sum.inr x :: st) M := eb_E_s hk161 rfl
theorem e161_46  : eb_E L d 161 46 ls (st) M = eb_E L d 161 47 ls (zi 5 :: st) M := eb_E_s hk161 rfl
theorem e161_47  : eb_E L d 161 47 ls (st) M = eb_E L d 161 48 ls (zi 0 :: st) M := eb_E_s hk161 rfl
theorem e161_48 {x : Int32} {v : Int32} : eb_E L d 161 48 ls (zi v :: zi x :: Sum.inr (some a) :: st) (nc, ns, I, J, R) = if (eb_ty L a.1).1 = 10 ∧ eb_in x (eb_ty L a.1).2 = true then eb_E L d 161 49 ls (st) (nc, ns, eb_u I a x.toNatClampNeg v, J, R) else none := eb_E_iy hk161 rfl
theorem e161_49 {x : Option eb_A} : eb_E L d 161 49 [v0, v1, v2, v3, v4, some (Sum.inr x)] (st) M = eb_E L d 161 51 [v0, v1, v2, v3, v4, some (Sum.inr x)] (Sum.inr x :: st) M := eb_E_s hk161 rfl
theorem e161_51  : eb_E L d 161 51 ls (st) M = eb_E L d 161 53 ls (zi 6 :: st) M := eb_E_s hk161 rfl
theorem e161_53  : eb_E L d 161 53 ls (st) M = eb_E L d 161 54 ls (zi 0 :: st) M := eb_E_s hk161 rfl
theorem e161_54 {x : Int32} {v : Int32} : eb_E L d 161 54 ls (zi v :: zi x :: Sum.inr (some a) :: st) (nc, ns, I, J, R) = if (eb_ty L a.1).1 = 10 ∧ eb_in x (eb_ty L a.1).2 = true then eb_E L d 161 55 ls (st) (nc, ns, eb_u I a x.toNatClampNeg v, J, R) else none := eb_E_iy hk161 rfl
theorem e161_55  : eb_E L d 161 55 ls ([]) M = some (zn, M) := eb_E_r hk161 rfl
/-! X6_inn -/
theorem hk162 : eb_cd L 162 = eb_look (kt162 L) := rfl
theorem h162 (ha : (eb_ty L a.1).1 = 6) {x1 : Int32} {x2 : Int32} {x3 : Int32} : eb_ev L (d + 1) 162 [zr a, zi x1, zi x2, zi x3] M = eb_E L d 162 0 [some (zr a), some (zi x1), some (zi x2), some (zi x3)] [] M := eb_ev_s rfl (eb_chk_i ha rfl)
theorem e162_0 {x : Int32} : eb_E L d 162 0 [v0, some (zi x), v2, v3] (st) M = eb_E L d 162 1 [v0, some (zi x), v2, v3] (zi x :: st) M := eb_E_s hk162 rfl
theorem e162_1 {x : Int32} : eb_E L d 162 1 ls (zi x :: st) M = eb_E L d 162 2 ls (zl x.toInt64 :: st) M := eb_E_s hk162 rfl
theorem e162_2  : eb_E L d 162 2 ls (st) M = eb_E L d 162 3 ls (zl 0 :: st) M := eb_E_s hk162 rfl
theorem e162_3  : eb_E L d 162 3 ls (st) M = eb_E L d 162 6 ls (zl 100 :: st) M := eb_E_s hk162 rfl
theorem e162_6  : eb_E L d 162 6 ls ([a2, a1, a0]) M = (eb_ev L d 146 [a0, a1, a2] M).bind (fun q => eb_E L d 162 9 ls [q.1] q.2) := eb_E_c hk162 rfl
theorem e162_9 {x : Int32} : eb_E L d 162 9 ls (zi x :: st) M = if x = 0 then eb_E L d 162 36 ls st M else eb_E L d 162 12 ls st M := eb_E_b hk162 rfl
theorem e162_12 {x : Int32} : eb_E L d 162 12 [v0, v1, some (zi x), v3] (st) M = eb_E L d 162 13 [v0, v1, some (zi x), v3] (zi x :: st) M := eb_E_s hk162 rfl
theorem e162_13 {x : Int32} : eb_E L d 162 13 ls (zi x :: st) M = eb_E L d 162 14 ls (zl x.toInt64 :: st) M := eb_E_s hk162 rfl
theorem e162_14  : eb_E L d 162 14 ls (st) M = eb_E L d 162 15 ls (zl 1 :: st) M := eb_E_s hk162 rfl
theorem e162_15  : eb_E L d 162 15 ls (st) M = eb_E L d 162 18 ls (zl 20 :: st) M := eb_E_s hk162 rfl
theorem e162_18  : eb_E L d 162 18 ls ([a2, a1, a0]) M = (eb_ev L d 146 [a0, a1, a2] M).bind (fun q => eb_E L d 162 21 ls [q.1] q.2) := eb_E_c hk162 rfl
theorem e162_21 {x : Int32} : eb_E L d 162 21 ls (zi x :: st) M = if x = 0 then eb_E L d 162 36 ls st M else eb_E L d 162 24 ls st M := eb_E_b hk162 rfl
theorem e162_24 {x : Int32} : eb_E L d 162 24 [v0, v1, v2, some (zi x)] (st) M = eb_E L d 162 25 [v0, v1, v2, some (zi x)] (zi x :: st) M := eb_E_s hk162 rfl
theorem e162_25 {x : Int32} : eb_E L d 162 25 ls (zi x :: st) M = eb_E L d 162 26 ls (zl x.toInt64 :: st) M := eb_E_s hk162 rfl
theorem e162_26  : eb_E L d 162 26 ls (st) M = eb_E L d 162 27 ls (zl 0 :: st) M := eb_E_s hk162 rfl
theorem e162_27  : eb_E L d 162 27 ls (st) M = eb_E L d 162 30 ls (zl 99 :: st) M := eb_E_s hk162 rfl
theorem e162_30  : eb_E L d 162 30 ls ([a2, a1, a0]) M = (eb_ev L d 146 [a0, a1, a2] M).bind (fun q => eb_E L d 162 33 ls [q.1] q.2) := eb_E_c hk162 rfl
theorem e162_33 {x : Int32} : eb_E L d 162 33 ls (zi x :: st) M = if x = 0 then eb_E L d 162 36 ls st M else eb_E L d 162 43 ls st M := eb_E_b hk162 rfl
theorem e162_36 {x : Option eb_A} : eb_E L d 162 36 [some (Sum.inr x), v1, v2, v3] (st) M = eb_E L d 162 37 [some (Sum.inr x), v1, v2, v3] (Sum.inr x :: st) M := eb_E_s hk162 rfl
theorem e162_37  : eb_E L d 162 37 ls (st) M = eb_E L d 162 39 ls (zi (-2) :: st) M := eb_E_s hk162 rfl
theorem e162_39  : eb_E L d 162 39 ls ([a1, a0]) M = (eb_ev L d 145 [a0, a1] M).bind (fun q => eb_E L d 162 42 ls [q.1] q.2) := eb_E_c hk162 rfl
theorem e162_42 {x : Int32} : eb_E L d 162 42 ls ([zi x]) M = some (zi x, M) := eb_E_r hk162 rfl
theorem e162_43 {x : Option eb_A} : eb_E L d 162 43 [some (Sum.inr x), v1, v2, v3] (st) M = eb_E L d 162 44 [some (Sum.inr x), v1, v2, v3] (Sum.inr x :: st) M := eb_E_s hk162 rfl
theorem e162_44  : eb_E L d 162 44 ls (Sum.inr (some a) :: st) (nc, ns, I, J, R) = if (eb_ty L a.1).1 = 6 then eb_E L d 162 47 ls (zi (I a 9) :: st) (nc, ns, I, J, R) else none := eb_E_iy hk162 rfl
theorem e162_47  : eb_E L d 162 47 ls (st) M = eb_E L d 162 49 ls (zi 6 :: st) M := eb_E_s hk162 rfl
theorem e162_49 {x : Int32} {y : Int32} : eb_E L d 162 49 ls (zi y :: zi x :: st) M = if x = y then eb_E L d 162 52 ls st M else eb_E L d 162 59 ls st M := eb_E_b hk162 rfl
theorem e162_52 {x : Option eb_A} : eb_E L d 162 52 [some (Sum.inr x), v1, v2, v3] (st) M = eb_E L d 162 53 [some (Sum.inr x), v1, v2, v3] (Sum.inr x :: st) M := eb_E_s hk162 rfl
theorem e162_53  : eb_E L d 162 53 ls (st) M = eb_E L d 162 55 ls (zi (-6) :: st) M := eb_E_s hk162 rfl
theorem e162_55  : eb_E L d 162 55 ls ([a1, a0]) M = (eb_ev L d 145 [a0, a1] M).bind (fun q => eb_E L d 162 58 ls [q.1] q.2) := eb_E_c hk162 rfl
theorem e162_58 {x : Int32} : eb_E L d 162 58 ls ([zi x]) M = some (zi x, M) := eb_E_r hk162 rfl
theorem e162_59 {x : Option eb_A} : eb_E L d 162 59 [some (Sum.inr x), v1, v2, v3] (st) M = eb_E L d 162 60 [some (Sum.inr x), v1, v2, v3] (Sum.inr x :: st) M := eb_E_s hk162 rfl
theorem e162_60 {x : Int32} : eb_E L d 162 60 [v0, some (zi x), v2, v3] (st) M = eb_E L d 162 61 [v0, some (zi x), v2, v3] (zi x :: st) M := eb_E_s hk162 rfl
theorem e162_61 {x : Int32} : eb_E L d 162 61 [v0, v1, some (zi x), v3] (st) M = eb_E L d 162 62 [v0, v1, some (zi x), v3] (zi x :: st) M := eb_E_s hk162 rfl
theorem e162_62 {x : Int32} : eb_E L d 162 62 [v0, v1, v2, some (zi x)] (st) M = eb_E L d 162 63 [v0, v1, v2, some (zi x)] (zi x :: st) M := eb_E_s hk162 rfl
theorem e162_63  : eb_E L d 162 63 ls (st) M = eb_E L d 162 64 ls (zi (-1) :: st) M := eb_E_s hk162 rfl
theorem e162_64  : eb_E L d 162 64 ls ([a4, a3, a2, a1, a0]) M = (eb_ev L d 161 [a0, a1, a2, a3, a4] M).bind (fun q => eb_E L d 162 67 ls [] q.2) := eb_E_c hk162 rfl
theorem e162_67 {x : Option eb_A} : eb_E L d 162 67 [some (Sum.inr x), v1, v2, v3] (st) M = eb_E L d 162 68 [some (Sum.inr x), v1, v2, v3] (Sum.inr x :: st) M := eb_E_s hk162 rfl
theorem e162_68  : eb_E L d 162 68 ls (Sum.inr (some a) :: st) (nc, ns, I, J, R) = if (eb_ty L a.1).1 = 6 then eb_E L d 162 71 ls (zi (I a 9) :: st) (nc, ns, I, J, R) else none := eb_E_iy hk162 rfl
theorem e162_71  : eb_E L d 162 71 ls (st) M = eb_E L d 162 72 ls (zi 1 :: st) M := eb_E_s hk162 rfl
theorem e162_72 {x : Int32} {y : Int32} : eb_E L d 162 72 ls (zi y :: zi x :: st) M = eb_E L d 162 73 ls (zi (x - y) :: st) M := eb_E_s hk162 rfl
theorem e162_73 {x : Int32} : eb_E L d 162 73 ls ([zi x]) M = some (zi x, M) := eb_E_r hk162 rfl
/-! X6_goer -/
theorem hk163 : eb_cd L 163 = eb_look (kt163 L) := rfl
theorem h163 (ha : (eb_ty L a.1).1 = 6) {x1 : Int32} {x2 : Int32} {x3 : Int32} : eb_ev L (d + 1) 163 [zr a, zi x1, zi x2, zi x3] M = eb_E L d 163 0 [some (zr a), some (zi x1), some (zi x2), some (zi x3)] [] M := eb_ev_s rfl (eb_chk_i ha rfl)
theorem e163_0 {x : Int32} : eb_E L d 163 0 [v0, some (zi x), v2, v3] (st) M = eb_E L d 163 1 [v0, some (zi x), v2, v3] (zi x :: st) M := eb_E_s hk163 rfl
theorem e163_1 {x : Int32} : eb_E L d 163 1 ls (zi x :: st) M = eb_E L d 163 2 ls (zl x.toInt64 :: st) M := eb_E_s hk163 rfl
theorem e163_2  : eb_E L d 163 2 ls (st) M = eb_E L d 163 3 ls (zl 0 :: st) M := eb_E_s hk163 rfl
theorem e163_3  : eb_E L d 163 3 ls (st) M = eb_E L d 163 6 ls (zl 5 :: st) M := eb_E_s hk163 rfl
theorem e163_6  : eb_E L d 163 6 ls ([a2, a1, a0]) M = (eb_ev L d 146 [a0, a1, a2] M).bind (fun q => eb_E L d 163 9 ls [q.1] q.2) := eb_E_c hk163 rfl
theorem e163_9 {x : Int32} : eb_E L d 163 9 ls (zi x :: st) M = if x = 0 then eb_E L d 163 36 ls st M else eb_E L d 163 12 ls st M := eb_E_b hk163 rfl
theorem e163_12 {x : Int32} : eb_E L d 163 12 [v0, v1, some (zi x), v3] (st) M = eb_E L d 163 13 [v0, v1, some (zi x), v3] (zi x :: st) M := eb_E_s hk163 rfl
theorem e163_13 {x : Int32} : eb_E L d 163 13 ls (zi x :: st) M = eb_E L d 163 14 ls (zl x.toInt64 :: st) M := eb_E_s hk163 rfl
theorem e163_14  : eb_E L d 163 14 ls (st) M = eb_E L d 163 15 ls (zl 1 :: st) M := eb_E_s hk163 rfl
theorem e163_15  : eb_E L d 163 15 ls (st) M = eb_E L d 163 18 ls (zl 30 :: st) M := eb_E_s hk163 rfl
theorem e163_18  : eb_E L d 163 18 ls ([a2, a1, a0]) M = (eb_ev L d 146 [a0, a1, a2] M).bind (fun q => eb_E L d 163 21 ls [q.1] q.2) := eb_E_c hk163 rfl
theorem e163_21 {x : Int32} : eb_E L d 163 21 ls (zi x :: st) M = if x = 0 then eb_E L d 163 36 ls st M else eb_E L d 163 24 ls st M := eb_E_b hk163 rfl
theorem e163_24 {x : Int32} : eb_E L d 163 24 [v0, v1, v2, some (zi x)] (st) M = eb_E L d 163 25 [v0, v1, v2, some (zi x)] (zi x :: st) M := eb_E_s hk163 rfl
theorem e163_25 {x : Int32} : eb_E L d 163 25 ls (zi x :: st) M = eb_E L d 163 26 ls (zl x.toInt64 :: st) M := eb_E_s hk163 rfl
theorem e163_26  : eb_E L d 163 26 ls (st) M = eb_E L d 163 27 ls (zl 0 :: st) M := eb_E_s hk163 rfl
theorem e163_27  : eb_E L d 163 27 ls (st) M = eb_E L d 163 30 ls (zl 99 :: st) M := eb_E_s hk163 rfl
theorem e163_30  : eb_E L d 163 30 ls ([a2, a1, a0]) M = (eb_ev L d 146 [a0, a1, a2] M).bind (fun q => eb_E L d 163 33 ls [q.1] q.2) := eb_E_c hk163 rfl
theorem e163_33 {x : Int32} : eb_E L d 163 33 ls (zi x :: st) M = if x = 0 then eb_E L d 163 36 ls st M else eb_E L d 163 43 ls st M := eb_E_b hk163 rfl
theorem e163_36 {x : Option eb_A} : eb_E L d 163 36 [some (Sum.inr x), v1, v2, v3] (st) M = eb_E L d 163 37 [some (Sum.inr x), v1, v2, v3] (Sum.inr x :: st) M := eb_E_s hk163 rfl
theorem e163_37  : eb_E L d 163 37 ls (st) M = eb_E L d 163 39 ls (zi (-2) :: st) M := eb_E_s hk163 rfl
theorem e163_39  : eb_E L d 163 39 ls ([a1, a0]) M = (eb_ev L d 145 [a0, a1] M).bind (fun q => eb_E L d 163 42 ls [q.1] q.2) := eb_E_c hk163 rfl
theorem e163_42 {x : Int32} : eb_E L d 163 42 ls ([zi x]) M = some (zi x, M) := eb_E_r hk163 rfl
theorem e163_43 {x : Option eb_A} : eb_E L d 163 43 [some (Sum.inr x), v1, v2, v3] (st) M = eb_E L d 163 44 [some (Sum.inr x), v1, v2, v3] (Sum.inr x :: st) M := eb_E_s hk163 rfl
theorem e163_44  : eb_E L d 163 44 ls (Sum.inr (some a) :: st) (nc, ns, I, J, R) = if (eb_ty L a.1).1 = 6 then eb_E L d 163 47 ls (zi (I a 11) :: st) (nc, ns, I, J, R) else none := eb_E_iy hk163 rfl
theorem e163_47  : eb_E L d 163 47 ls (st) M = eb_E L d 163 49 ls (zi 6 :: st) M := eb_E_s hk163 rfl
theorem e163_49 {x : Int32} {y : Int32} : eb_E L d 163 49 ls (zi y :: zi x :: st) M = if x = y then eb_E L d 163 52 ls st M else eb_E L d 163 59 ls st M := eb_E_b hk163 rfl
theorem e163_52 {x : Option eb_A} : eb_E L d 163 52 [some (Sum.inr x), v1, v2, v3] (st) M = eb_E L d 163 53 [some (Sum.inr x), v1, v2, v3] (Sum.inr x :: st) M := eb_E_s hk163 rfl
theorem e163_53  : eb_E L d 163 53 ls (st) M = eb_E L d 163 55 ls (zi (-6) :: st) M := eb_E_s hk163 rfl
theorem e163_55  : eb_E L d 163 55 ls ([a1, a0]) M = (eb_ev L d 145 [a0, a1] M).bind (fun q => eb_E L d 163 58 ls [q.1] q.2) := eb_E_c hk163 rfl
theorem e163_58 {x : Int32} : eb_E L d 163 58 ls ([zi x]) M = some (zi x, M) := eb_E_r hk163 rfl
theorem e163_59 {x : Option eb_A} : eb_E L d 163 59 [some (Sum.inr x), v1, v2, v3] (st) M = eb_E L d 163 60 [some (Sum.inr x), v1, v2, v3] (Sum.inr x :: st) M := eb_E_s hk163 rfl
theorem e163_60  : eb_E L d 163 60 ls (Sum.inr (some a) :: st) (nc, ns, I, J, R) = if (eb_ty L a.1).1 = 6 then eb_E L d 163 63 ls (Sum.inr (R a 12) :: st) (nc, ns, I, J, R) else none := eb_E_iy hk163 rfl
theorem e163_63 {x : Option eb_A} : eb_E L d 163 63 [some (Sum.inr x), v1, v2, v3] (st) M = eb_E L d 163 64 [some (Sum.inr x), v1, v2, v3] (Sum.inr x :: st) M := eb_E_s hk163 rfl
theorem e163_64  : eb_E L d 163 64 ls (Sum.inr (some a) :: st) (nc, ns, I, J, R) = if (eb_ty L a.1).1 = 6 then eb_E L d 163 67 ls (zi (I a 11) :: st) (nc, ns, I, J, R) else none := eb_E_iy hk163 rfl
theorem e163_67 {x : Int32} : eb_E L d 163 67 ls (zi x :: Sum.inr (some a) :: st) (nc, ns, I, J, R) = if (12 ≤ (eb_ty L a.1).1 ∧ (eb_ty L a.1).1 ≤ 16) ∧ eb_in x (eb_ty L a.1).2 = true then eb_E L d 163 68 ls (Sum.inr (R a x.toNatClampNeg) :: st) (nc, ns, I, J, R) else none := eb_E_iy hk163 rfl
theorem e163_68  : eb_E L d 163 68 ls (st) M = eb_E L d 163 69 ls (zi 0 :: st) M := eb_E_s hk163 rfl
theorem e163_69 {x : Int32} : eb_E L d 163 69 [v0, some (zi x), v2, v3] (st) M = eb_E L d 163 70 [v0, some (zi x), v2, v3] (zi x :: st) M := eb_E_s hk163 rfl
theorem e163_70 {x : Int32} {v : Int32} : eb_E L d 163 70 ls (zi v :: zi x :: Sum.inr (some a) :: st) (nc, ns, I, J, R) = if (eb_ty L a.1).1 = 10 ∧ eb_in x (eb_ty L a.1).2 = true then eb_E L d 163 71 ls (st) (nc, ns, eb_u I a x.toNatClampNeg v, J, R) else none := eb_E_iy hk163 rfl
theorem e163_71 {x : Option eb_A} : eb_E L d 163 71 [some (Sum.inr x), v1, v2, v3] (st) M = eb_E L d 163 72 [some (Sum.inr x), v1, v2, v3] (Sum.inr x :: st) M := eb_E_s hk163 rfl
theorem e163_72  : eb_E L d 163 72 ls (Sum.inr (some a) :: st) (nc, ns, I, J, R) = if (eb_ty L a.1).1 = 6 then eb_E L d 163 75 ls (Sum.inr (R a 12) :: st) (nc, ns, I, J, R) else none := eb_E_iy hk163 rfl
theorem e163_75 {x : Option eb_A} : eb_E L d 163 75 [some (Sum.inr x), v1, v2, v3] (st) M = eb_E L d 163 76 [some (Sum.inr x), v1, v2, v3] (Sum.inr x :: st) M := eb_E_s hk163 rfl
theorem e163_76  : eb_E L d 163 76 ls (Sum.inr (some a) :: st) (nc, ns, I, J, R) = if (eb_ty L a.1).1 = 6 then eb_E L d 163 79 ls (zi (I a 11) :: st) (nc, ns, I, J, R) else none := eb_E_iy hk163 rfl
theorem e163_79 {x : Int32} : eb_E L d 163 79 ls (zi x :: Sum.inr (some a) :: st) (nc, ns, I, J, R) = if (12 ≤ (eb_ty L a.1).1 ∧ (eb_ty L a.1).1 ≤ 16) ∧ eb_in x (eb_ty L a.1).2 = true then eb_E L d 163 80 ls (Sum.inr (R a x.toNatClampNeg) :: st) (nc, ns, I, J, R) else none := eb_E_iy hk163 rfl
theorem e163_80  : eb_E L d 163 80 ls (st) M = eb_E L d 163 81 ls (zi 1 :: st) M := eb_E_s hk163 rfl
theorem e163_81 {x : Int32} : eb_E L d 163 81 [v0, v1, some (zi x), v3] (st) M = eb_E L d 163 82 [v0, v1, some (zi x), v3] (zi x :: st) M := eb_E_s hk163 rfl
theorem e163_82 {x : Int32} {v : Int32} : eb_E L d 163 82 ls (zi v :: zi x :: Sum.inr (some a) :: st) (nc, ns, I, J, R) = if (eb_ty L a.1).1 = 10 ∧ eb_in x (eb_ty L a.1).2 = true then eb_E L d 163 83 ls (st) (nc, ns, eb_u I a x.toNatClampNeg v, J, R) else none := eb_E_iy hk163 rfl
theorem e163_83 {x : Option eb_A} : eb_E L d 163 83 [some (Sum.inr x), v1, v2, v3] (st) M = eb_E L d 163 84 [some (Sum.inr x), v1, v2, v3] (Sum.inr x :: st) M := eb_E_s hk163 rfl
theorem e163_84  : eb_E L d 163 84 ls (Sum.inr (some a) :: st) (nc, ns, I, J, R) = if (eb_ty L a.1).1 = 6 then eb_E L d 163 87 ls (Sum.inr (R a 12) :: st) (nc, ns, I, J, R) else none := eb_E_iy hk163 rfl
theorem e163_87 {x : Option eb_A} : eb_E L d 163 87 [some (Sum.inr x), v1, v2, v3] (st) M = eb_E L d 163 88 [some (Sum.inr x), v1, v2, v3] (Sum.inr x :: st) M := eb_E_s hk163 rfl
theorem e163_88  : eb_E L d 163 88 ls (Sum.inr (some a) :: st) (nc, ns, I, J, R) = if (eb_ty L a.1).1 = 6 then eb_E L d 163 91 ls (zi (I a 11) :: st) (nc, ns, I, J, R) else none := eb_E_iy hk163 rfl
theorem e163_91 {x : Int32} : eb_E L d 163 91 ls (zi x :: Sum.inr (some a) :: st) (nc, ns, I, J, R) = if (12 ≤ (eb_ty L a.1).1 ∧ (eb_ty L a.1).1 ≤ 16) ∧ eb_in x (eb_ty L a.1).2 = true then eb_E L d 163 92 ls (Sum.inr (R a x.toNatClampNeg) :: st) (nc, ns, I, J, R) else none := eb_E_iy hk163 rfl
theorem e163_92  : eb_E L d 163 92 ls (st) M = eb_E L d 163 93 ls (zi 2 :: st) M := eb_E_s hk163 rfl
theorem e163_93 {x : Int32} : eb_E L d 163 93 [v0, v1, v2, some (zi x)] (st) M = eb_E L d 163 94 [v0, v1, v2, some (zi x)] (zi x :: st) M := eb_E_s hk163 rfl
theorem e163_94 {x : Int32} {v : Int32} : eb_E L d 163 94 ls (zi v :: zi x :: Sum.inr (some a) :: st) (nc, ns, I, J, R) = if (eb_ty L a.1).1 = 10 ∧ eb_in x (eb_ty L a.1).2 = true then eb_E L d 163 95 ls (st) (nc, ns, eb_u I a x.toNatClampNeg v, J, R) else none := eb_E_iy hk163 rfl
theorem e163_95 {x : Option eb_A} : eb_E L d 163 95 [some (Sum.inr x), v1, v2, v3] (st) M = eb_E L d 163 96 [some (Sum.inr x), v1, v2, v3] (Sum.inr x :: st) M := eb_E_s hk163 rfl
theorem e163_96a {x : Int32} : eb_E L d 163 96 ls (zi x :: st) M = eb_E L d 163 97 ls (zi x :: zi x :: st) M := eb_E_s hk163 rfl
theorem e163_96b {x : Option eb_A} : eb_E L d 163 96 ls (Sum.inr x :: st) M = eb_E L d 163 97 ls (Sum.inr x :: Sum.inr x :: st) M := eb_E_s hk163 rfl
theorem e163_97  : eb_E L d 163 97 ls (Sum.inr (some a) :: st) (nc, ns, I, J, R) = if (eb_ty L a.1).1 = 6 then eb_E L d 163 100 ls (zi (I a 11) :: st) (nc, ns, I, J, R) else none := eb_E_iy hk163 rfl
theorem e163_100 {x : Option eb_A} {y : Int32} : eb_E L d 163 100 ls (zi y :: Sum.inr x :: st) M = eb_E L d 163 101 ls (zi y :: Sum.inr x :: zi y :: st) M := eb_E_s hk163 rfl
theorem e163_101  : eb_E L d 163 101 ls (st) M = eb_E L d 163 102 ls (zi 1 :: st) M := eb_E_s hk163 rfl
theorem e163_102 {x : Int32} {y : Int32} : eb_E L d 163 102 ls (zi y :: zi x :: st) M = eb_E L d 163 103 ls (zi (x + y) :: st) M := eb_E_s hk163 rfl
theorem e163_103 {x : Int32} : eb_E L d 163 103 ls (zi x :: Sum.inr (some a) :: st) (nc, ns, I, J, R) = if (eb_ty L a.1).1 = 6 then eb_E L d 163 106 ls (st) (nc, ns, eb_u I a 11 x, J, R) else none := eb_E_iy hk163 rfl
theorem e163_106 {x : Int32} : eb_E L d 163 106 ls ([zi x]) M = some (zi x, M) := eb_E_r hk163 rfl
/-! X6_change -/
theorem hk164 : eb_cd L 164 = eb_look (kt164 L) := rfl
theorem h164 (ha : (eb_ty L a.1).1 = 6) {x1 : Int32} {x2 : Int32} {x3 : Int32} : eb_ev L (d + 1) 164 [zr a, zi x1, zi x2, zi x3] M = eb_E L d 164 0 [some (zr a), some (zi x1), some (zi x2), some (zi x3), none, none] [] M := eb_ev_s rfl (eb_chk_i ha rfl)
theorem e164_0 {x : Option eb_A} : eb_E L d 164 0 [some (Sum.inr x), v1, v2, v3, v4, v5] (st) M = eb_E L d 164 1 [some (Sum.inr x), v1, v2, v3, v4, v5] (Sum.inr x :: st) M := eb_E_s hk164 rfl
theorem e164_1 {x : Int32} : eb_E L d 164 1 [v0, some (zi x), v2, v3, v4, v5] (st) M = eb_E L d 164 2 [v0, some (zi x), v2, v3, v4, v5] (zi x :: st) M := eb_E_s hk164 rfl
theorem e164_2  : eb_E L d 164 2 ls ([a1, a0]) M = (eb_ev L d 148 [a0, a1] M).bind (fun q => eb_E L d 164 5 ls [q.1] q.2) := eb_E_c hk164 rfl
theorem e164_5 {x : Int32} : eb_E L d 164 5 ls (zi x :: st) M = if x = 0 then eb_E L d 164 40 ls st M else eb_E L d 164 8 ls st M := eb_E_b hk164 rfl
theorem e164_8 {x : Int32} : eb_E L d 164 8 [v0, v1, some (zi x), v3, v4, v5] (st) M = eb_E L d 164 9 [v0, v1, some (zi x), v3, v4, v5] (zi x :: st) M := eb_E_s hk164 rfl
theorem e164_9 {x : Int32} : eb_E L d 164 9 ls (zi x :: st) M = eb_E L d 164 10 ls (zl x.toInt64 :: st) M := eb_E_s hk164 rfl
theorem e164_10  : eb_E L d 164 10 ls (st) M = eb_E L d 164 11 ls (zl 0 :: st) M := eb_E_s hk164 rfl
theorem e164_11  : eb_E L d 164 11 ls (st) M = eb_E L d 164 12 ls (zl 1 :: st) M := eb_E_s hk164 rfl
theorem e164_12  : eb_E L d 164 12 ls ([a2, a1, a0]) M = (eb_ev L d 146 [a0, a1, a2] M).bind (fun q => eb_E L d 164 15 ls [q.1] q.2) := eb_E_c hk164 rfl
theorem e164_15 {x : Int32} : eb_E L d 164 15 ls (zi x :: st) M = if x = 0 then eb_E L d 164 40 ls st M else eb_E L d 164 18 ls st M := eb_E_b hk164 rfl
theorem e164_18 {x : Int32} : eb_E L d 164 18 [v0, v1, v2, some (zi x), v4, v5] (st) M = eb_E L d 164 19 [v0, v1, v2, some (zi x), v4, v5] (zi x :: st) M := eb_E_s hk164 rfl
theorem e164_19 {x : Int32} : eb_E L d 164 19 ls (zi x :: st) M = eb_E L d 164 20 ls (zl x.toInt64 :: st) M := eb_E_s hk164 rfl
theorem e164_20  : eb_E L d 164 20 ls (st) M = eb_E L d 164 21 ls (zl 0 :: st) M := eb_E_s hk164 rfl
theorem e164_21 {x : Int32} : eb_E L d 164 21 [v0, v1, some (zi x), v3, v4, v5] (st) M = eb_E L d 164 22 [v0, v1, some (zi x), v3, v4, v5] (zi x :: st) M := eb_E_s hk164 rfl
theorem e164_22 {x : Int32} : eb_E L d 164 22 ls (zi x :: st) M = if x = 0 then eb_E L d 164 25 ls st M else eb_E L d 164 31 ls st M := eb_E_b hk164 rfl
theorem e164_25  : eb_E L d 164 25 ls (st) M = eb_E L d 164 28 ls (zl 100 :: st) M := eb_E_s hk164 rfl
theorem e164_28  : eb_E L d 164 28 ls (st) M = eb_E L d 164 34 ls (st) M := eb_E_s hk164 rfl
theorem e164_31  : eb_E L d 164 31 ls (st) M = eb_E L d 164 34 ls (zl 99 :: st) M := eb_E_s hk164 rfl
theorem e164_34  : eb_E L d 164 34 ls ([a2, a1, a0]) M = (eb_ev L d 146 [a0, a1, a2] M).bind (fun q => eb_E L d 164 37 ls [q.1] q.2) := eb_E_c hk164 rfl
theorem e164_37 {x : Int32} : eb_E L d 164 37 ls (zi x :: st) M = if x = 0 then eb_E L d 164 40 ls st M else eb_E L d 164 47 ls st M := eb_E_b hk164 rfl
theorem e164_40 {x : Option eb_A} : eb_E L d 164 40 [some (Sum.inr x), v1, v2, v3, v4, v5] (st) M = eb_E L d 164 41 [some (Sum.inr x), v1, v2, v3, v4, v5] (Sum.inr x :: st) M := eb_E_s hk164 rfl
theorem e164_41  : eb_E L d 164 41 ls (st) M = eb_E L d 164 43 ls (zi (-2) :: st) M := eb_E_s hk164 rfl
theorem e164_43  : eb_E L d 164 43 ls ([a1, a0]) M = (eb_ev L d 145 [a0, a1] M).bind (fun q => eb_E L d 164 46 ls [q.1] q.2) := eb_E_c hk164 rfl
theorem e164_46 {x : Int32} : eb_E L d 164 46 ls ([zi x]) M = some (zi x, M) := eb_E_r hk164 rfl
theorem e164_47 {x : Int32} : eb_E L d 164 47 [v0, v1, some (zi x), v3, v4, v5] (st) M = eb_E L d 164 48 [v0, v1, some (zi x), v3, v4, v5] (zi x :: st) M := eb_E_s hk164 rfl
theorem e164_48 {x : Int32} : eb_E L d 164 48 ls (zi x :: st) M = if x = 0 then eb_E L d 164 51 ls st M else eb_E L d 164 55 ls st M := eb_E_b hk164 rfl
theorem e164_51  : eb_E L d 164 51 ls (st) M = eb_E L d 164 52 ls (zi 0 :: st) M := eb_E_s hk164 rfl
theorem e164_52  : eb_E L d 164 52 ls (st) M = eb_E L d 164 56 ls (st) M := eb_E_s hk164 rfl
theorem e164_55  : eb_E L d 164 55 ls (st) M = eb_E L d 164 56 ls (zi 3 :: st) M := eb_E_s hk164 rfl
theorem e164_56 {x : Int32} : eb_E L d 164 56 [v0, v1, v2, v3, v4, v5] (zi x :: st) M = eb_E L d 164 58 [v0, v1, v2, v3, some (zi x), v5] (st) M := eb_E_s hk164 rfl
theorem e164_58 {x : Option eb_A} : eb_E L d 164 58 [some (Sum.inr x), v1, v2, v3, v4, v5] (st) M = eb_E L d 164 59 [some (Sum.inr x), v1, v2, v3, v4, v5] (Sum.inr x :: st) M := eb_E_s hk164 rfl
theorem e164_59  : eb_E L d 164 59 ls (Sum.inr (some a) :: st) (nc, ns, I, J, R) = if (eb_ty L a.1).1 = 6 then eb_E L d 164 62 ls (Sum.inr (R a 10) :: st) (nc, ns, I, J, R) else none := eb_E_iy hk164 rfl
theorem e164_62 {x : Int32} : eb_E L d 164 62 [v0, some (zi x), v2, v3, v4, v5] (st) M = eb_E L d 164 63 [v0, some (zi x), v2, v3, v4, v5] (zi x :: st) M := eb_E_s hk164 rfl
theorem e164_63 {x : Int32} : eb_E L d 164 63 ls (zi x :: Sum.inr (some a) :: st) (nc, ns, I, J, R) = if (12 ≤ (eb_ty L a.1).1 ∧ (eb_ty L a.1).1 ≤ 16) ∧ eb_in x (eb_ty L a.1).2 = true then eb_E L d 164 64 ls (Sum.inr (R a x.toNatClampNeg) :: st) (nc, ns, I, J, R) else none := eb_E_iy hk164 rfl
theorem e164_64 {x : Int32} : eb_E L d 164 64 [v0, v1, v2, v3, some (zi x), v5] (st) M = eb_E L d 164 66 [v0, v1, v2, v3, some (zi x), v5] (zi x :: st) M := eb_E_s hk164 rfl
theorem e164_66 {x : Int32} : eb_E L d 164 66 ls (zi x :: Sum.inr (some a) :: st) (nc, ns, I, J, R) = if (eb_ty L a.1).1 = 10 ∧ eb_in x (eb_ty L a.1).2 = true then eb_E L d 164 67 ls (zi (I a x.toNatClampNeg) :: st) (nc, ns, I, J, R) else none := eb_E_iy hk164 rfl
theorem e164_67 {x : Int32} : eb_E L d 164 67 [v0, v1, v2, v3, v4, v5] (zi x :: st) M = eb_E L d 164 69 [v0, v1, v2, v3, v4, some (zi x)] (st) M := eb_E_s hk164 rfl
theorem e164_69 {x : Option eb_A} : eb_E L d 164 69 [some (Sum.inr x), v1, v2, v3, v4, v5] (st) M = eb_E L d 164 70 [some (Sum.inr x), v1, v2, v3, v4, v5] (Sum.inr x :: st) M := eb_E_s hk164 rfl
theorem e164_70  : eb_E L d 164 70 ls (Sum.inr (some a) :: st) (nc, ns, I, J, R) = if (eb_ty L a.1).1 = 6 then eb_E L d 164 73 ls (Sum.inr (R a 10) :: st) (nc, ns, I, J, R) else none := eb_E_iy hk164 rfl
theorem e164_73 {x : Int32} : eb_E L d 164 73 [v0, some (zi x), v2, v3, v4, v5] (st) M = eb_E L d 164 74 [v0, some (zi x), v2, v3, v4, v5] (zi x :: st) M := eb_E_s hk164 rfl
theorem e164_74 {x : Int32} : eb_E L d 164 74 ls (zi x :: Sum.inr (some a) :: st) (nc, ns, I, J, R) = if (12 ≤ (eb_ty L a.1).1 ∧ (eb_ty L a.1).1 ≤ 16) ∧ eb_in x (eb_ty L a.1).2 = true then eb_E L d 164 75 ls (Sum.inr (R a x.toNatClampNeg) :: st) (nc, ns, I, J, R) else none := eb_E_iy hk164 rfl
theorem e164_75 {x : Int32} : eb_E L d 164 75 [v0, v1, v2, v3, some (zi x), v5] (st) M = eb_E L d 164 77 [v0, v1, v2, v3, some (zi x), v5] (zi x :: st) M := eb_E_s hk164 rfl
theorem e164_77 {x : Int32} : eb_E L d 164 77 [v0, v1, v2, some (zi x), v4, v5] (st) M = eb_E L d 164 78 [v0, v1, v2, some (zi x), v4, v5] (zi x :: st) M := eb_E_s hk164 rfl
theorem e164_78 {x : Int32} {v : Int32} : eb_E L d 164 78 ls (zi v :: zi x :: Sum.inr (some a) :: st) (nc, ns, I, J, R) = if (eb_ty L a.1).1 = 10 ∧ eb_in x (eb_ty L a.1).2 = true then eb_E L d 164 79 ls (st) (nc, ns, eb_u I a x.toNatClampNeg v, J, R) else none := eb_E_iy hk164 rfl
theorem e164_79 {x : Int32} : eb_E L d 164 79 [v0, v1, v2, v3, v4, some (zi x)] (st) M = eb_E L d 164 81 [v0, v1, v2, v3, v4, some (zi x)] (zi x :: st) M := eb_E_s hk164 rfl
theorem e164_81 {x : Int32} : eb_E L d 164 81 ls ([zi x]) M = some (zi x, M) := eb_E_r hk164 rfl
/-! X6_say -/
theorem hk165 : eb_cd L 165 = eb_look (kt165 L) := rfl
theorem h165 (ha : (eb_ty L a.1).1 = 6) {x1 : Int32} {x2 : Int32} : eb_ev L (d + 1) 165 [zr a, zi x1, zi x2] M = eb_E L d 165 0 [some (zr a), some (zi x1), some (zi x2), none] [] M := eb_ev_s rfl (eb_chk_i ha rfl)
theorem e165_0 {x : Option eb_A} : eb_E L d 165 0 [some (Sum.inr x), v1, v2, v3] (st) M = eb_E L d 165 1 [some (Sum.inr x), v1, v2, v3] (Sum.inr x :: st) M := eb_E_s hk165 rfl
theorem e165_1 {x : Int32} : eb_E L d 165 1 [v0, some (zi x), v2, v3] (st) M = eb_E L d 165 2 [v0, some (zi x), v2, v3] (zi x :: st) M := eb_E_s hk165 rfl
theorem e165_2  : eb_E L d 165 2 ls ([a1, a0]) M = (eb_ev L d 148 [a0, a1] M).bind (fun q => eb_E L d 165 5 ls [q.1] q.2) := eb_E_c hk165 rfl
theorem e165_5 {x : Int32} : eb_E L d 165 5 ls (zi x :: st) M = if x = 0 then eb_E L d 165 22 ls st M else eb_E L d 165 8 ls st M := eb_E_b hk165 rfl
theorem e165_8 {x : Int32} : eb_E L d 165 8 [v0, v1, some (zi x), v3] (st) M = eb_E L d 165 9 [v0, v1, some (zi x), v3] (zi x :: st) M := eb_E_s hk165 rfl
theorem e165_9 {x : Int32} : eb_E L d 165 9 ls (zi x :: st) M = eb_E L d 165 10 ls (zl x.toInt64 :: st) M := eb_E_s hk165 rfl
theorem e165_10  : eb_E L d 165 10 ls (st) M = eb_E L d 165 13 ls (zl (-1) :: st) M := eb_E_s hk165 rfl
theorem e165_13  : eb_E L d 165 13 ls (st) M = eb_E L d 165 16 ls (zl 100 :: st) M := eb_E_s hk165 rfl
theorem e165_16  : eb_E L d 165 16 ls ([a2, a1, a0]) M = (eb_ev L d 146 [a0, a1, a2] M).bind (fun q => eb_E L d 165 19 ls [q.1] q.2) := eb_E_c hk165 rfl
theorem e165_19 {x : Int32} : eb_E L d 165 19 ls (zi x :: st) M = if x = 0 then eb_E L d 165 22 ls st M else eb_E L d 165 29 ls st M := eb_E_b hk165 rfl
theorem e165_22 {x : Option eb_A} : eb_E L d 165 22 [some (Sum.inr x), v1, v2, v3] (st) M = eb_E L d 165 23 [some (Sum.inr x), v1, v2, v3] (Sum.inr x :: st) M := eb_E_s hk165 rfl
theorem e165_23  : eb_E L d 165 23 ls (st) M = eb_E L d 165 25 ls (zi (-2) :: st) M := eb_E_s hk165 rfl
theorem e165_25  : eb_E L d 165 25 ls ([a1, a0]) M = (eb_ev L d 145 [a0, a1] M).bind (fun q => eb_E L d 165 28 ls [q.1] q.2) := eb_E_c hk165 rfl
theorem e165_28 {x : Int32} : eb_E L d 165 28 ls ([zi x]) M = some (zi x, M) := eb_E_r hk165 rfl
theorem e165_29 {x : Option eb_A} : eb_E L d 165 29 [some (Sum.inr x), v1, v2, v3] (st) M = eb_E L d 165 30 [some (Sum.inr x), v1, v2, v3] (Sum.inr x :: st) M := eb_E_s hk165 rfl
theorem e165_30  : eb_E L d 165 30 ls (Sum.inr (some a) :: st) (nc, ns, I, J, R) = if (eb_ty L a.1).1 = 6 then eb_E L d 165 33 ls (Sum.inr (R a 10) :: st) (nc, ns, I, J, R) else none := eb_E_iy hk165 rfl
theorem e165_33 {x : Int32} : eb_E L d 165 33 [v0, some (zi x), v2, v3] (st) M = eb_E L d 165 34 [v0, some (zi x), v2, v3] (zi x :: st) M := eb_E_s hk165 rfl
theorem e165_34 {x : Int32} : eb_E L d 165 34 ls (zi x :: Sum.inr (some a) :: st) (nc, ns, I, J, R) = if (12 ≤ (eb_ty L a.1).1 ∧ (eb_ty L a.1).1 ≤ 16) ∧ eb_in x (eb_ty L a.1).2 = true then eb_E L d 165 35 ls (Sum.inr (R a x.toNatClampNeg) :: st) (nc, ns, I, J, R) else none := eb_E_iy hk165 rfl
theorem e165_35  : eb_E L d 165 35 ls (st) M = eb_E L d 165 36 ls (zi 4 :: st) M := eb_E_s hk165 rfl
theorem e165_36 {x : Int32} : eb_E L d 165 36 ls (zi x :: Sum.inr (some a) :: st) (nc, ns, I, J, R) = if (eb_ty L a.1).1 = 10 ∧ eb_in x (eb_ty L a.1).2 = true then eb_E L d 165 37 ls (zi (I a x.toNatClampNeg) :: st) (nc, ns, I, J, R) else none := eb_E_iy hk165 rfl
theorem e165_37 {x : Int32} : eb_E L d 165 37 [v0, v1, v2, v3] (zi x :: st) M = eb_E L d 165 38 [v0, v1, v2, some (zi x)] (st) M := eb_E_s hk165 rfl
theorem e165_38 {x : Option eb_A} : eb_E L d 165 38 [some (Sum.inr x), v1, v2, v3] (st) M = eb_E L d 165 39 [some (Sum.inr x), v1, v2, v3] (Sum.inr x :: st) M := eb_E_s hk165 rfl
theorem e165_39  : eb_E L d 165 39 ls (Sum.inr (some a) :: st) (nc, ns, I, J, R) = if (eb_ty L a.1).1 = 6 then eb_E L d 165 42 ls (Sum.inr (R a 10) :: st) (nc, ns, I, J, R) else none := eb_E_iy hk165 rfl
theorem e165_42 {x : Int32} : eb_E L d 165 42 [v0, some (zi x), v2, v3] (st) M = eb_E L d 165 43 [v0, some (zi x), v2, v3] (zi x :: st) M := eb_E_s hk165 rfl
theorem e165_43 {x : Int32} : eb_E L d 165 43 ls (zi x :: Sum.inr (some a) :: st) (nc, ns, I, J, R) = if (12 ≤ (eb_ty L a.1).1 ∧ (eb_ty L a.1).1 ≤ 16) ∧ eb_in x (eb_ty L a.1).2 = true then eb_E L d 165 44 ls (Sum.inr (R a x.toNatClampNeg) :: st) (nc, ns, I, J, R) else none := eb_E_iy hk165 rfl
theorem e165_44  : eb_E L d 165 44 ls (st) M = eb_E L d 165 45 ls (zi 4 :: st) M := eb_E_s hk165 rfl
theorem e165_45 {x : Int32} : eb_E L d 165 45 [v0, v1, some (zi x), v3] (st) M = eb_E L d 165 46 [v0, v1, some (zi x), v3] (zi x :: st) M := eb_E_s hk165 rfl
theorem e165_46 {x : Int32} {v : Int32} : eb_E L d 165 46 ls (zi v :: zi x :: Sum.inr (some a) :: st) (nc, ns, I, J, R) = if (eb_ty L a.1).1 = 10 ∧ eb_in x (eb_ty L a.1).2 = true then eb_E L d 165 47 ls (st) (nc, ns, eb_u I a x.toNatClampNeg v, J, R) else none := eb_E_iy hk165 rfl
theorem e165_47 {x : Int32} : eb_E L d 165 47 [v0, v1, v2, some (zi x)] (st) M = eb_E L d 165 48 [v0, v1, v2, some (zi x)] (zi x :: st) M := eb_E_s hk165 rfl
theorem e165_48 {x : Int32} : eb_E L d 165 48 ls ([zi x]) M = some (zi x, M) := eb_E_r hk165 rfl
/-! X6_writes -/
theorem hk166 : eb_cd L 166 = eb_look (kt166 L) := rfl
theorem h166 (ha : (eb_ty L a.1).1 = 6) {x1 : Int32} : eb_ev L (d + 1) 166 [zr a, zi x1] M = eb_E L d 166 0 [some (zr a), some (zi x1), none, none, none] [] M := eb_ev_s rfl (eb_chk_i ha rfl)
theorem e166_0  : eb_E L d 166 0 ls (st) M = eb_E L d 166 1 ls (zi 0 :: st) M := eb_E_s hk166 rfl
theorem e166_1 {x : Int32} : eb_E L d 166 1 [v0, v1, v2, v3, v4] (zi x :: st) M = eb_E L d 166 2 [v0, v1, some (zi x), v3, v4] (st) M := eb_E_s hk166 rfl
theorem e166_2  : eb_E L d 166 2 ls (st) M = eb_E L d 166 3 ls (zi 0 :: st) M := eb_E_s hk166 rfl
theorem e166_3 {x : Int32} : eb_E L d 166 3 [v0, v1, v2, v3, v4] (zi x :: st) M = eb_E L d 166 4 [v0, v1, v2, some (zi x), v4] (st) M := eb_E_s hk166 rfl
theorem e166_4 {x : Int32} : eb_E L d 166 4 [v0, v1, v2, some (zi x), v4] (st) M = eb_E L d 166 5 [v0, v1, v2, some (zi x), v4] (zi x :: st) M := eb_E_s hk166 rfl
theorem e166_5 {x : Option eb_A} : eb_E L d 166 5 [some (Sum.inr x), v1, v2, v3, v4] (st) M = eb_E L d 166 6 [some (Sum.inr x), v1, v2, v3, v4] (Sum.inr x :: st) M := eb_E_s hk166 rfl
theorem e166_6  : eb_E L d 166 6 ls (Sum.inr (some a) :: st) (nc, ns, I, J, R) = if (eb_ty L a.1).1 = 6 then eb_E L d 166 9 ls (zi (I a 9) :: st) (nc, ns, I, J, R) else none := eb_E_iy hk166 rfl
theorem e166_9 {x : Int32} {y : Int32} : eb_E L d 166 9 ls (zi y :: zi x :: st) M = if x < y then eb_E L d 166 12 ls st M else eb_E L d 166 71 ls st M := eb_E_b hk166 rfl
theorem e166_12 {x : Int32} : eb_E L d 166 12 [v0, some (zi x), v2, v3, v4] (st) M = eb_E L d 166 13 [v0, some (zi x), v2, v3, v4] (zi x :: st) M := eb_E_s hk166 rfl
theorem e166_13 {x : Int32} : eb_E L d 166 13 [v0, v1, v2, some (zi x), v4] (st) M = eb_E L d 166 14 [v0, v1, v2, some (zi x), v4] (zi x :: st) M := eb_E_s hk166 rfl
theorem e166_14 {x : Int32} {y : Int32} : eb_E L d 166 14 ls (zi y :: zi x :: st) M = eb_E L d 166 15 ls (zi (x >>> (y &&& 31)) :: st) M := eb_E_s hk166 rfl
theorem e166_15  : eb_E L d 166 15 ls (st) M = eb_E L d 166 16 ls (zi 1 :: st) M := eb_E_s hk166 rfl
theorem e166_16 {x : Int32} {y : Int32} : eb_E L d 166 16 ls (zi y :: zi x :: st) M = eb_E L d 166 17 ls (zi (x &&& y) :: st) M := eb_E_s hk166 rfl
theorem e166_17 {x : Int32} : eb_E L d 166 17 ls (zi x :: st) M = if x = 0 then eb_E L d 166 24 ls st M else eb_E L d 166 20 ls st M := eb_E_b hk166 rfl
theorem e166_20  : eb_E L d 166 20 ls (st) M = eb_E L d 166 21 ls (zi 1 :: st) M := eb_E_s hk166 rfl
theorem e166_21  : eb_E L d 166 21 ls (st) M = eb_E L d 166 25 ls (st) M := eb_E_s hk166 rfl
theorem e166_24  : eb_E L d 166 24 ls (st) M = eb_E L d 166 25 ls (zi 0 :: st) M := eb_E_s hk166 rfl
theorem e166_25 {x : Int32} : eb_E L d 166 25 [v0, v1, v2, v3, v4] (zi x :: st) M = eb_E L d 166 27 [v0, v1, v2, v3, some (zi x)] (st) M := eb_E_s hk166 rfl
theorem e166_27 {x : Option eb_A} : eb_E L d 166 27 [some (Sum.inr x), v1, v2, v3, v4] (st) M = eb_E L d 166 28 [some (Sum.inr x), v1, v2, v3, v4] (Sum.inr x :: st) M := eb_E_s hk166 rfl
theorem e166_28  : eb_E L d 166 28 ls (Sum.inr (some a) :: st) (nc, ns, I, J, R) = if (eb_ty L a.1).1 = 6 then eb_E L d 166 31 ls (Sum.inr (R a 10) :: st) (nc, ns, I, J, R) else none := eb_E_iy hk166 rfl
theorem e166_31 {x : Int32} : eb_E L d 166 31 [v0, v1, v2, some (zi x), v4] (st) M = eb_E L d 166 32 [v0, v1, v2, some (zi x), v4] (zi x :: st) M := eb_E_s hk166 rfl
theorem e166_32 {x : Int32} : eb_E L d 166 32 ls (zi x :: Sum.inr (some a) :: st) (nc, ns, I, J, R) = if (12 ≤ (eb_ty L a.1).1 ∧ (eb_ty L a.1).1 ≤ 16) ∧ eb_in x (eb_ty L a.1).2 = true then eb_E L d 166 33 ls (Sum.inr (R a x.toNatClampNeg) :: st) (nc, ns, I, J, R) else none := eb_E_iy hk166 rfl
theorem e166_33  : eb_E L d 166 33 ls (st) M = eb_E L d 166 34 ls (zi 4 :: st) M := eb_E_s hk166 rfl
theorem e166_34 {x : Int32} : eb_E L d 166 34 [v0, v1, v2, v3, some (zi x)] (st) M = eb_E L d 166 36 [v0, v1, v2, v3, some (zi x)] (zi x :: st) M := eb_E_s hk166 rfl
theorem e166_36 {x : Int32} : eb_E L d 166 36 ls (zi x :: st) M = if x = 0 then eb_E L d 166 50 ls st M else eb_E L d 166 39 ls st M := eb_E_b hk166 rfl
theorem e166_39 {x : Option eb_A} : eb_E L d 166 39 [some (Sum.inr x), v1, v2, v3, v4] (st) M = eb_E L d 166 40 [some (Sum.inr x), v1, v2, v3, v4] (Sum.inr x :: st) M := eb_E_s hk166 rfl
theorem e166_40  : eb_E L d 166 40 ls (Sum.inr (some a) :: st) (nc, ns, I, J, R) = if (eb_ty L a.1).1 = 6 then eb_E L d 166 43 ls (Sum.inr (R a 10) :: st) (nc, ns, I, J, R) else none := eb_E_iy hk166 rfl
theorem e166_43 {x : Int32} : eb_E L d 166 43 [v0, v1, v2, some (zi x), v4] (st) M = eb_E L d 166 44 [v0, v1, v2, some (zi x), v4] (zi x :: st) M := eb_E_s hk166 rfl
theorem e166_44 {x : Int32} : eb_E L d 166 44 ls (zi x :: Sum.inr (some a) :: st) (nc, ns, I, J, R) = if (12 ≤ (eb_ty L a.1).1 ∧ (eb_ty L a.1).1 ≤ 16) ∧ eb_in x (eb_ty L a.1).2 = true then eb_E L d 166 45 ls (Sum.inr (R a x.toNatClampNeg) :: st) (nc, ns, I, J, R) else none := eb_E_iy hk166 rfl
theorem e166_45  : eb_E L d 166 45 ls (st) M = eb_E L d 166 46 ls (zi 0 :: st) M := eb_E_s hk166 rfl
theorem e166_46 {x : Int32} : eb_E L d 166 46 ls (zi x :: Sum.inr (some a) :: st) (nc, ns, I, J, R) = if (eb_ty L a.1).1 = 10 ∧ eb_in x (eb_ty L a.1).2 = true then eb_E L d 166 47 ls (zi (I a x.toNatClampNeg) :: st) (nc, ns, I, J, R) else none := eb_E_iy hk166 rfl
theorem e166_47  : eb_E L d 166 47 ls (st) M = eb_E L d 166 51 ls (st) M := eb_E_s hk166 rfl
theorem e166_50  : eb_E L d 166 50 ls (st) M = eb_E L d 166 51 ls (zi (-1) :: st) M := eb_E_s hk166 rfl
theorem e166_51 {x : Int32} {v : Int32} : eb_E L d 166 51 ls (zi v :: zi x :: Sum.inr (some a) :: st) (nc, ns, I, J, R) = if (eb_ty L a.1).1 = 10 ∧ eb_in x (eb_ty L a.1).2 = true then eb_E L d 166 52 ls (st) (nc, ns, eb_u I a x.toNatClampNeg v, J, R) else none := eb_E_iy hk166 rfl
theorem e166_52 {x : Int32} : eb_E L d 166 52 [v0, v1, some (zi x), v3, v4] (st) M = eb_E L d 166 53 [v0, v1, some (zi x), v3, v4] (zi x :: st) M := eb_E_s hk166 rfl
theorem e166_53 {x : Int32} : eb_E L d 166 53 [v0, v1, v2, v3, some (zi x)] (st) M = eb_E L d 166 55 [v0, v1, v2, v3, some (zi x)] (zi x :: st) M := eb_E_s hk166 rfl
theorem e166_55 {x : Int32} : eb_E L d 166 55 ls (zi x :: st) M = if x = 0 then eb_E L d 166 62 ls st M else eb_E L d 166 58 ls st M := eb_E_b hk166 rfl
theorem e166_58  : eb_E L d 166 58 ls (st) M = eb_E L d 166 59 ls (zi 1 :: st) M := eb_E_s hk166 rfl
theorem e166_59  : eb_E L d 166 59 ls (st) M = eb_E L d 166 63 ls (st) M := eb_E_s hk166 rfl
theorem e166_62  : eb_E L d 166 62 ls (st) M = eb_E L d 166 63 ls (zi 0 :: st) M := eb_E_s hk166 rfl
theorem e166_63 {x : Int32} {y : Int32} : eb_E L d 166 63 ls (zi y :: zi x :: st) M = eb_E L d 166 64 ls (zi (x + y) :: st) M := eb_E_s hk166 rfl
theorem e166_64 {x : Int32} : eb_E L d 166 64 [v0, v1, v2, v3, v4] (zi x :: st) M = eb_E L d 166 65 [v0, v1, some (zi x), v3, v4] (st) M := eb_E_s hk166 rfl
theorem e166_65 {x : Int32} : eb_E L d 166 65 [v0, v1, v2, some (zi x), v4] (st) M = eb_E L d 166 68 [v0, v1, v2, some (zi (x + 1)), v4] (st) M := eb_E_s hk166 rfl
theorem e166_68  : eb_E L d 166 68 ls (st) M = eb_E L d 166 4 ls (st) M := eb_E_s hk166 rfl
theorem e166_71 {x : Option eb_A} : eb_E L d 166 71 [some (Sum.inr x), v1, v2, v3, v4] (st) M = eb_E L d 166 72 [some (Sum.inr x), v1, v2, v3, v4] (Sum.inr x :: st) M := eb_E_s hk166 rfl
theorem e166_72  : eb_E L d 166 72 ls (st) M = eb_E L d 166 73 ls (zi 0 :: st) M := eb_E_s hk166 rfl
theorem e166_73 {x : Int32} : eb_E L d 166 73 ls (zi x :: Sum.inr (some a) :: st) (nc, ns, I, J, R) = if (eb_ty L a.1).1 = 6 then eb_E L d 166 76 ls (st) (nc, ns, eb_u I a 13 x, J, R) else none := eb_E_iy hk166 rfl
theorem e166_76 {x : Int32} : eb_E L d 166 76 [v0, v1, some (zi x), v3, v4] (st) M = eb_E L d 166 77 [v0, v1, some (zi x), v3, v4] (zi x :: st) M := eb_E_s hk166 rfl
theorem e166_77 {x : Int32} : eb_E L d 166 77 ls ([zi x]) M = some (zi x, M) := eb_E_r hk166 rfl
/-! X6_isSet -/
theorem hk167 : eb_cd L 167 = eb_look (kt167 L) := rfl
theorem h167 (ha : (eb_ty L a.1).1 = 6) {x1 : Int32} : eb_ev L (d + 1) 167 [zr a, zi x1] M = eb_E L d 167 0 [some (zr a), some (zi x1)] [] M := eb_ev_s rfl (eb_chk_i ha rfl)
theorem e167_0 {x : Int32} : eb_E L d 167 0 [v0, some (zi x)] (st) M = eb_E L d 167 1 [v0, some (zi x)] (zi x :: st) M := eb_E_s hk167 rfl
theorem e167_1 {x : Int32} : eb_E L d 167 1 ls (zi x :: st) M = eb_E L d 167 2 ls (zl x.toInt64 :: st) M := eb_E_s hk167 rfl
theorem e167_2  : eb_E L d 167 2 ls (st) M = eb_E L d 167 3 ls (zl 0 :: st) M := eb_E_s hk167 rfl
theorem e167_3  : eb_E L d 167 3 ls (st) M = eb_E L d 167 4 ls (zi 1 :: st) M := eb_E_s hk167 rfl
theorem e167_4 {x : Option eb_A} : eb_E L d 167 4 [some (Sum.inr x), v1] (st) M = eb_E L d 167 5 [some (Sum.inr x), v1] (Sum.inr x :: st) M := eb_E_s hk167 rfl
theorem e167_5  : eb_E L d 167 5 ls (Sum.inr (some a) :: st) (nc, ns, I, J, R) = if (eb_ty L a.1).1 = 6 then eb_E L d 167 8 ls (zi (I a 9) :: st) (nc, ns, I, J, R) else none := eb_E_iy hk167 rfl
theorem e167_8 {x : Int32} {y : Int32} : eb_E L d 167 8 ls (zi y :: zi x :: st) M = eb_E L d 167 9 ls (zi (x <<< (y &&& 31)) :: st) M := eb_E_s hk167 rfl
theorem e167_9  : eb_E L d 167 9 ls (st) M = eb_E L d 167 10 ls (zi 1 :: st) M := eb_E_s hk167 rfl
theorem e167_10 {x : Int32} {y : Int32} : eb_E L d 167 10 ls (zi y :: zi x :: st) M = eb_E L d 167 11 ls (zi (x - y) :: st) M := eb_E_s hk167 rfl
theorem e167_11 {x : Int32} : eb_E L d 167 11 ls (zi x :: st) M = eb_E L d 167 12 ls (zl x.toInt64 :: st) M := eb_E_s hk167 rfl
theorem e167_12  : eb_E L d 167 12 ls ([a2, a1, a0]) M = (eb_ev L d 146 [a0, a1, a2] M).bind (fun q => eb_E L d 167 15 ls [q.1] q.2) := eb_E_c hk167 rfl
theorem e167_15 {x : Int32} : eb_E L d 167 15 ls ([zi x]) M = if x = 0 ∨ x = 1 then some (zi x, M) else none := eb_E_ri hk167 rfl
/-! X6_write -/
theorem hk168 : eb_cd L 168 = eb_look (kt168 L) := rfl
theorem h168 (ha : (eb_ty L a.1).1 = 6) {x1 : Int32} : eb_ev L (d + 1) 168 [zr a, zi x1] M = eb_E L d 168 0 [some (zr a), some (zi x1)] [] M := eb_ev_s rfl (eb_chk_i ha rfl)
theorem e168_0 {x : Option eb_A} : eb_E L d 168 0 [some (Sum.inr x), v1] (st) M = eb_E L d 168 1 [some (Sum.inr x), v1] (Sum.inr x :: st) M := eb_E_s hk168 rfl
theorem e168_1 {x : Int32} : eb_E L d 168 1 [v0, some (zi x)] (st) M = eb_E L d 168 2 [v0, some (zi x)] (zi x :: st) M := eb_E_s hk168 rfl
theorem e168_2  : eb_E L d 168 2 ls ([a1, a0]) M = (eb_ev L d 167 [a0, a1] M).bind (fun q => eb_E L d 168 5 ls [q.1] q.2) := eb_E_c hk168 rfl
theorem e168_5 {x : Int32} : eb_E L d 168 5 ls (zi x :: st) M = if x = 0 then eb_E L d 168 16 ls st M else eb_E L d 168 8 ls st M := eb_E_b hk168 rfl
theorem e168_8 {x : Option eb_A} : eb_E L d 168 8 [some (Sum.inr x), v1] (st) M = eb_E L d 168 9 [some (Sum.inr x), v1] (Sum.inr x :: st) M := eb_E_s hk168 rfl
theorem e168_9 {x : Int32} : eb_E L d 168 9 [v0, some (zi x)] (st) M = eb_E L d 168 10 [v0, some (zi x)] (zi x :: st) M := eb_E_s hk168 rfl
theorem e168_10  : eb_E L d 168 10 ls ([a1, a0]) M = (eb_ev L d 166 [a0, a1] M).bind (fun q => eb_E L d 168 13 ls [q.1] q.2) := eb_E_c hk168 rfl
theorem e168_13  : eb_E L d 168 13 ls (st) M = eb_E L d 168 22 ls (st) M := eb_E_s hk168 rfl
theorem e168_16 {x : Option eb_A} : eb_E L d 168 16 [some (Sum.inr x), v1] (st) M = eb_E L d 168 17 [some (Sum.inr x), v1] (Sum.inr x :: st) M := eb_E_s hk168 rfl
theorem e168_17  : eb_E L d 168 17 ls (st) M = eb_E L d 168 19 ls (zi (-2) :: st) M := eb_E_s hk168 rfl
theorem e168_19  : eb_E L d 168 19 ls ([a1, a0]) M = (eb_ev L d 145 [a0, a1] M).bind (fun q => eb_E L d 168 22 ls [q.1] q.2) := eb_E_c hk168 rfl
theorem e168_22 {x : Int32} : eb_E L d 168 22 ls ([zi x]) M = some (zi x, M) := eb_E_r hk168 rfl
/-! X6_getsLetter -/
theorem hk169 : eb_cd L 169 = eb_look (kt169 L) := rfl
theorem h169 (ha : (eb_ty L a.1).1 = 6) {x1 : Int32} {x2 : Int32} : eb_ev L (d + 1) 169 [zr a, zi x1, zi x2] M = eb_E L d 169 0 [some (zr a), some (zi x1), some (zi x2)] [] M := eb_ev_s rfl (eb_chk_i ha rfl)
theorem e169_0 {x : Option eb_A} : eb_E L d 169 0 [some (Sum.inr x), v1, v2] (st) M = eb_E L d 169 1 [some (Sum.inr x), v1, v2] (Sum.inr x :: st) M := eb_E_s hk169 rfl
theorem e169_1  : eb_E L d 169 1 ls (Sum.inr (some a) :: st) (nc, ns, I, J, R) = if (eb_ty L a.1).1 = 6 then eb_E L d 169 4 ls (Sum.inr (R a 10) :: st) (nc, ns, I, J, R) else none := eb_E_iy hk169 rfl
theorem e169_4 {x : Int32} : eb_E L d 169 4 [v0, some (zi x), v2] (st) M = eb_E L d 169 5 [v0, some (zi x), v2] (zi x :: st) M := eb_E_s hk169 rfl
theorem e169_5 {x : Int32} : eb_E L d 169 5 ls (zi x :: Sum.inr (some a) :: st) (nc, ns, I, J, R) = if (12 ≤ (eb_ty L a.1).1 ∧ (eb_ty L a.1).1 ≤ 16) ∧ eb_in x (eb_ty L a.1).2 = true then eb_E L d 169 6 ls (Sum.inr (R a x.toNatClampNeg) :: st) (nc, ns, I, J, R) else none := eb_E_iy hk169 rfl
theorem e169_6  : eb_E L d 169 6 ls (st) M = eb_E L d 169 7 ls (zi 5 :: st) M := eb_E_s hk169 rfl
theorem e169_7 {x : Int32} : eb_E L d 169 7 ls (zi x :: Sum.inr (some a) :: st) (nc, ns, I, J, R) = if (eb_ty L a.1).1 = 10 ∧ eb_in x (eb_ty L a.1).2 = true then eb_E L d 169 8 ls (zi (I a x.toNatClampNeg) :: st) (nc, ns, I, J, R) else none := eb_E_iy hk169 rfl
theorem e169_8  : eb_E L d 169 8 ls (st) M = eb_E L d 169 10 ls (zi 99 :: st) M := eb_E_s hk169 rfl
theorem e169_10 {x : Int32} {y : Int32} : eb_E L d 169 10 ls (zi y :: zi x :: st) M = if x < y then eb_E L d 169 13 ls st M else eb_E L d 169 38 ls st M := eb_E_b hk169 rfl
theorem e169_13 {x : Option eb_A} : eb_E L d 169 13 [some (Sum.inr x), v1, v2] (st) M = eb_E L d 169 14 [some (Sum.inr x), v1, v2] (Sum.inr x :: st) M := eb_E_s hk169 rfl
theorem e169_14  : eb_E L d 169 14 ls (Sum.inr (some a) :: st) (nc, ns, I, J, R) = if (eb_ty L a.1).1 = 6 then eb_E L d 169 17 ls (Sum.inr (R a 10) :: st) (nc, ns, I, J, R) else none := eb_E_iy hk169 rfl
theorem e169_17 {x : Int32} : eb_E L d 169 17 [v0, some (zi x), v2] (st) M = eb_E L d 169 18 [v0, some (zi x), v2] (zi x :: st) M := eb_E_s hk169 rfl
theorem e169_18 {x : Int32} : eb_E L d 169 18 ls (zi x :: Sum.inr (some a) :: st) (nc, ns, I, J, R) = if (12 ≤ (eb_ty L a.1).1 ∧ (eb_ty L a.1).1 ≤ 16) ∧ eb_in x (eb_ty L a.1).2 = true then eb_E L d 169 19 ls (Sum.inr (R a x.toNatClampNeg) :: st) (nc, ns, I, J, R) else none := eb_E_iy hk169 rfl
theorem e169_19  : eb_E L d 169 19 ls (st) M = eb_E L d 169 20 ls (zi 5 :: st) M := eb_E_s hk169 rfl
theorem e169_20 {x : Option eb_A} {y : Int32} : eb_E L d 169 20 ls (zi y :: Sum.inr x :: st) M = eb_E L d 169 21 ls (zi y :: Sum.inr x :: zi y :: Sum.inr x :: st) M := eb_E_s hk169 rfl
theorem e169_21 {x : Int32} : eb_E L d 169 21 ls (zi x :: Sum.inr (some a) :: st) (nc, ns, I, J, R) = if (eb_ty L a.1).1 = 10 ∧ eb_in x (eb_ty L a.1).2 = true then eb_E L d 169 22 ls (zi (I a x.toNatClampNeg) :: st) (nc, ns, I, J, R) else none := eb_E_iy hk169 rfl
theorem e169_22  : eb_E L d 169 22 ls (st) M = eb_E L d 169 23 ls (zi 1 :: st) M := eb_E_s hk169 rfl
theorem e169_23 {x : Int32} {y : Int32} : eb_E L d 169 23 ls (zi y :: zi x :: st) M = eb_E L d 169 24 ls (zi (x + y) :: st) M := eb_E_s hk169 rfl
theorem e169_24 {x : Int32} {v : Int32} : eb_E L d 169 24 ls (zi v :: zi x :: Sum.inr (some a) :: st) (nc, ns, I, J, R) = if (eb_ty L a.1).1 = 10 ∧ eb_in x (eb_ty L a.1).2 = true then eb_E L d 169 25 ls (st) (nc, ns, eb_u I a x.toNatClampNeg v, J, R) else none := eb_E_iy hk169 rfl
theorem e169_25 {x : Option eb_A} : eb_E L d 169 25 [some (Sum.inr x), v1, v2] (st) M = eb_E L d 169 26 [some (Sum.inr x), v1, v2] (Sum.inr x :: st) M := eb_E_s hk169 rfl
theorem e169_26  : eb_E L d 169 26 ls (Sum.inr (some a) :: st) (nc, ns, I, J, R) = if (eb_ty L a.1).1 = 6 then eb_E L d 169 29 ls (Sum.inr (R a 10) :: st) (nc, ns, I, J, R) else none := eb_E_iy hk169 rfl
theorem e169_29 {x : Int32} : eb_E L d 169 29 [v0, some (zi x), v2] (st) M = eb_E L d 169 30 [v0, some (zi x), v2] (zi x :: st) M := eb_E_s hk169 rfl
theorem e169_30 {x : Int32} : eb_E L d 169 30 ls (zi x :: Sum.inr (some a) :: st) (nc, ns, I, J, R) = if (12 ≤ (eb_ty L a.1).1 ∧ (eb_ty L a.1).1 ≤ 16) ∧ eb_in x (eb_ty L a.1).2 = true then eb_E L d 169 31 ls (Sum.inr (R a x.toNatClampNeg) :: st) (nc, ns, I, J, R) else none := eb_E_iy hk169 rfl
theorem e169_31  : eb_E L d 169 31 ls (st) M = eb_E L d 169 33 ls (zi 6 :: st) M := eb_E_s hk169 rfl
theorem e169_33 {x : Option eb_A} {y : Int32} : eb_E L d 169 33 ls (zi y :: Sum.inr x :: st) M = eb_E L d 169 34 ls (zi y :: Sum.inr x :: zi y :: Sum.inr x :: st) M := eb_E_s hk169 rfl
theorem e169_34 {x : Int32} : eb_E L d 169 34 ls (zi x :: Sum.inr (some a) :: st) (nc, ns, I, J, R) = if (eb_ty L a.1).1 = 10 ∧ eb_in x (eb_ty L a.1).2 = true then eb_E L d 169 35 ls (zi (I a x.toNatClampNeg) :: st) (nc, ns, I, J, R) else none := eb_E_iy hk169 rfl
theorem e169_35 {x : Int32} : eb_E L d 169 35 [v0, v1, some (zi x)] (st) M = eb_E L d 169 36 [v0, v1, some (zi x)] (zi x :: st) M := eb_E_s hk169 rfl
theorem e169_36 {x : Int32} {y : Int32} : eb_E L d 169 36 ls (zi y :: zi x :: st) M = eb_E L d 169 37 ls (zi (x + y) :: st) M := eb_E_s hk169 rfl
theorem e169_37 {x : Int32} {v : Int32} : eb_E L d 169 37 ls (zi v :: zi x :: Sum.inr (some a) :: st) (nc, ns, I, J, R) = if (eb_ty L a.1).1 = 10 ∧ eb_in x (eb_ty L a.1).2 = true then eb_E L d 169 38 ls (st) (nc, ns, eb_u I a x.toNatClampNeg v, J, R) else none := eb_E_iy hk169 rfl
theorem e169_38  : eb_E L d 169 38 ls ([]) M = some (zn, M) := eb_E_r hk169 rfl
/-! X6_letter -/
theorem hk170 : eb_cd L 170 = eb_look (kt170 L) := rfl
theorem h170 (ha : (eb_ty L a.1).1 = 6) {x1 : Int32} {x2 : Int32} : eb_ev L (d + 1) 170 [zr a, zi x1, zi x2] M = eb_E L d 170 0 [some (zr a), some (zi x1), some (zi x2)] [] M := eb_ev_s rfl (eb_chk_i ha rfl)
theorem e170_0 {x : Option eb_A} : eb_E L d 170 0 [some (Sum.inr x), v1, v2] (st) M = eb_E L d 170 1 [some (Sum.inr x), v1, v2] (Sum.inr x :: st) M := eb_E_s hk170 rfl
theorem e170_1 {x : Int32} : eb_E L d 170 1 [v0, some (zi x), v2] (st) M = eb_E L d 170 2 [v0, some (zi x), v2] (zi x :: st) M := eb_E_s hk170 rfl
theorem e170_2  : eb_E L d 170 2 ls ([a1, a0]) M = (eb_ev L d 148 [a0, a1] M).bind (fun q => eb_E L d 170 5 ls [q.1] q.2) := eb_E_c hk170 rfl
theorem e170_5 {x : Int32} : eb_E L d 170 5 ls (zi x :: st) M = if x = 0 then eb_E L d 170 20 ls st M else eb_E L d 170 8 ls st M := eb_E_b hk170 rfl
theorem e170_8 {x : Int32} : eb_E L d 170 8 [v0, v1, some (zi x)] (st) M = eb_E L d 170 9 [v0, v1, some (zi x)] (zi x :: st) M := eb_E_s hk170 rfl
theorem e170_9 {x : Int32} : eb_E L d 170 9 ls (zi x :: st) M = eb_E L d 170 10 ls (zl x.toInt64 :: st) M := eb_E_s hk170 rfl
theorem e170_10  : eb_E L d 170 10 ls (st) M = eb_E L d 170 11 ls (zl 0 :: st) M := eb_E_s hk170 rfl
theorem e170_11  : eb_E L d 170 11 ls (st) M = eb_E L d 170 14 ls (zl 100 :: st) M := eb_E_s hk170 rfl
theorem e170_14  : eb_E L d 170 14 ls ([a2, a1, a0]) M = (eb_ev L d 146 [a0, a1, a2] M).bind (fun q => eb_E L d 170 17 ls [q.1] q.2) := eb_E_c hk170 rfl
theorem e170_17 {x : Int32} : eb_E L d 170 17 ls (zi x :: st) M = if x = 0 then eb_E L d 170 20 ls st M else eb_E L d 170 27 ls st M := eb_E_b hk170 rfl
theorem e170_20 {x : Option eb_A} : eb_E L d 170 20 [some (Sum.inr x), v1, v2] (st) M = eb_E L d 170 21 [some (Sum.inr x), v1, v2] (Sum.inr x :: st) M := eb_E_s hk170 rfl
theorem e170_21  : eb_E L d 170 21 ls (st) M = eb_E L d 170 23 ls (zi (-2) :: st) M := eb_E_s hk170 rfl
theorem e170_23  : eb_E L d 170 23 ls ([a1, a0]) M = (eb_ev L d 145 [a0, a1] M).bind (fun q => eb_E L d 170 26 ls [q.1] q.2) := eb_E_c hk170 rfl
theorem e170_26 {x : Int32} : eb_E L d 170 26 ls ([zi x]) M = some (zi x, M) := eb_E_r hk170 rfl
theorem e170_27 {x : Option eb_A} : eb_E L d 170 27 [some (Sum.inr x), v1, v2] (st) M = eb_E L d 170 28 [some (Sum.inr x), v1, v2] (Sum.inr x :: st) M := eb_E_s hk170 rfl
theorem e170_28  : eb_E L d 170 28 ls (Sum.inr (some a) :: st) (nc, ns, I, J, R) = if (eb_ty L a.1).1 = 6 then eb_E L d 170 31 ls (Sum.inr (R a 10) :: st) (nc, ns, I, J, R) else none := eb_E_iy hk170 rfl
theorem e170_31 {x : Int32} : eb_E L d 170 31 [v0, some (zi x), v2] (st) M = eb_E L d 170 32 [v0, some (zi x), v2] (zi x :: st) M := eb_E_s hk170 rfl
theorem e170_32 {x : Int32} : eb_E L d 170 32 ls (zi x :: Sum.inr (some a) :: st) (nc, ns, I, J, R) = if (12 ≤ (eb_ty L a.1).1 ∧ (eb_ty L a.1).1 ≤ 16) ∧ eb_in x (eb_ty L a.1).2 = true then eb_E L d 170 33 ls (Sum.inr (R a x.toNatClampNeg) :: st) (nc, ns, I, J, R) else none := eb_E_iy hk170 rfl
theorem e170_33  : eb_E L d 170 33 ls (st) M = eb_E L d 170 34 ls (zi 5 :: st) M := eb_E_s hk170 rfl
theorem e170_34 {x : Int32} : eb_E L d 170 34 ls (zi x :: Sum.inr (some a) :: st) (nc, ns, I, J, R) = if (eb_ty L a.1).1 = 10 ∧ eb_in x (eb_ty L a.1).2 = true then eb_E L d 170 35 ls (zi (I a x.toNatClampNeg) :: st) (nc, ns, I, J, R) else none := eb_E_iy hk170 rfl
theorem e170_35  : eb_E L d 170 35 ls (st) M = eb_E L d 170 37 ls (zi 99 :: st) M := eb_E_s hk170 rfl
theorem e170_37 {x : Int32} {y : Int32} : eb_E L d 170 37 ls (zi y :: zi x :: st) M = if x = y then eb_E L d 170 40 ls st M else eb_E L d 170 47 ls st M := eb_E_b hk170 rfl
theorem e170_40 {x : Option eb_A} : eb_E L d 170 40 [some (Sum.inr x), v1, v2] (st) M = eb_E L d 170 41 [some (Sum.inr x), v1, v2] (Sum.inr x :: st) M := eb_E_s hk170 rfl
theorem e170_41  : eb_E L d 170 41 ls (st) M = eb_E L d 170 43 ls (zi (-6) :: st) M := eb_E_s hk170 rfl
theorem e170_43  : eb_E L d 170 43 ls ([a1, a0]) M = (eb_ev L d 145 [a0, a1] M).bind (fun q => eb_E L d 170 46 ls [q.1] q.2) := eb_E_c hk170 rfl
theorem e170_46 {x : Int32} : eb_E L d 170 46 ls ([zi x]) M = some (zi x, M) := eb_E_r hk170 rfl
theorem e170_47 {x : Option eb_A} : eb_E L d 170 47 [some (Sum.inr x), v1, v2] (st) M = eb_E L d 170 48 [some (Sum.inr x), v1, v2] (Sum.inr x :: st) M := eb_E_s hk170 rfl
theorem e170_48 {x : Int32} : eb_E L d 170 48 [v0, some (zi x), v2] (st) M = eb_E L d 170 49 [v0, some (zi x), v2] (zi x :: st) M := eb_E_s hk170 rfl
theorem e170_49 {x : Int32} : eb_E L d 170 49 [v0, v1, some (zi x)] (st) M = eb_E L d 170 50 [v0, v1, some (zi x)] (zi x :: st) M := eb_E_s hk170 rfl
theorem e170_50  : eb_E L d 170 50 ls ([a2, a1, a0]) M = (eb_ev L d 169 [a0, a1, a2] M).bind (fun q => eb_E L d 170 53 ls [] q.2) := eb_E_c hk170 rfl
theorem e170_53 {x : Option eb_A} : eb_E L d 170 53 [some (Sum.inr x), v1, v2] (st) M = eb_E L d 170 54 [some (Sum.inr x), v1, v2] (Sum.inr x :: st) M := eb_E_s hk170 rfl
theorem e170_54  : eb_E L d 170 54 ls (Sum.inr (some a) :: st) (nc, ns, I, J, R) = if (eb_ty L a.1).1 = 6 then eb_E L d 170 57 ls (Sum.inr (R a 10) :: st) (nc, ns, I, J, R) else none := eb_E_iy hk170 rfl
theorem e170_57 {x : Int32} : eb_E L d 170 57 [v0, some (zi x), v2] (st) M = eb_E L d 170 58 [v0, some (zi x), v2] (zi x :: st) M := eb_E_s hk170 rfl
theorem e170_58 {x : Int32} : eb_E L d 170 58 ls (zi x :: Sum.inr (some a) :: st) (nc, ns, I, J, R) = if (12 ≤ (eb_ty L a.1).1 ∧ (eb_ty L a.1).1 ≤ 16) ∧ eb_in x (eb_ty L a.1).2 = true then eb_E L d 170 59 ls (Sum.inr (R a x.toNatClampNeg) :: st) (nc, ns, I, J, R) else none := eb_E_iy hk170 rfl
theorem e170_59  : eb_E L d 170 59 ls (st) M = eb_E L d 170 60 ls (zi 5 :: st) M := eb_E_s hk170 rfl
theorem e170_60 {x : Int32} : eb_E L d 170 60 ls (zi x :: Sum.inr (some a) :: st) (nc, ns, I, J, R) = if (eb_ty L a.1).1 = 10 ∧ eb_in x (eb_ty L a.1).2 = true then eb_E L d 170 61 ls (zi (I a x.toNatClampNeg) :: st) (nc, ns, I, J, R) else none := eb_E_iy hk170 rfl
theorem e170_61 {x : Int32} : eb_E L d 170 61 ls ([zi x]) M = some (zi x, M) := eb_E_r hk170 rfl
/-! X6_age -/
theorem hk171 : eb_cd L 171 = eb_look (kt171 L) := rfl
theorem h171 (ha : (eb_ty L a.1).1 = 6) {x1 : Int32} : eb_ev L (d + 1) 171 [zr a, zi x1] M = eb_E L d 171 0 [some (zr a), some (zi x1), none] [] M := eb_ev_s rfl (eb_chk_i ha rfl)
theorem e171_0 {x : Int32} : eb_E L d 171 0 [v0, some (zi x), v2] (st) M = eb_E L d 171 1 [v0, some (zi x), v2] (zi x :: st) M := eb_E_s hk171 rfl
theorem e171_1 {x : Int32} : eb_E L d 171 1 ls (zi x :: st) M = eb_E L d 171 2 ls (zl x.toInt64 :: st) M := eb_E_s hk171 rfl
theorem e171_2  : eb_E L d 171 2 ls (st) M = eb_E L d 171 3 ls (zl 0 :: st) M := eb_E_s hk171 rfl
theorem e171_3  : eb_E L d 171 3 ls (st) M = eb_E L d 171 6 ls (zl 99 :: st) M := eb_E_s hk171 rfl
theorem e171_6  : eb_E L d 171 6 ls ([a2, a1, a0]) M = (eb_ev L d 146 [a0, a1, a2] M).bind (fun q => eb_E L d 171 9 ls [q.1] q.2) := eb_E_c hk171 rfl
theorem e171_9 {x : Int32} : eb_E L d 171 9 ls (zi x :: st) M = if x = 0 then eb_E L d 171 12 ls st M else eb_E L d 171 19 ls st M := eb_E_b hk171 rfl
theorem e171_12 {x : Option eb_A} : eb_E L d 171 12 [some (Sum.inr x), v1, v2] (st) M = eb_E L d 171 13 [some (Sum.inr x), v1, v2] (Sum.inr x :: st) M := eb_E_s hk171 rfl
theorem e171_13  : eb_E L d 171 13 ls (st) M = eb_E L d 171 15 ls (zi (-2) :: st) M := eb_E_s hk171 rfl
theorem e171_15  : eb_E L d 171 15 ls ([a1, a0]) M = (eb_ev L d 145 [a0, a1] M).bind (fun q => eb_E L d 171 18 ls [q.1] q.2) := eb_E_c hk171 rfl
theorem e171_18 {x : Int32} : eb_E L d 171 18 ls ([zi x]) M = some (zi x, M) := eb_E_r hk171 rfl
theorem e171_19 {x : Option eb_A} : eb_E L d 171 19 [some (Sum.inr x), v1, v2] (st) M = eb_E L d 171 20 [some (Sum.inr x), v1, v2] (Sum.inr x :: st) M := eb_E_s hk171 rfl
theorem e171_20  : eb_E L d 171 20 ls (Sum.inr (some a) :: st) (nc, ns, I, J, R) = if (eb_ty L a.1).1 = 6 then eb_E L d 171 23 ls (zi (I a 13) :: st) (nc, ns, I, J, R) else none := eb_E_iy hk171 rfl
theorem e171_23 {x : Int32} : eb_E L d 171 23 [v0, v1, v2] (zi x :: st) M = eb_E L d 171 24 [v0, v1, some (zi x)] (st) M := eb_E_s hk171 rfl
theorem e171_24 {x : Option eb_A} : eb_E L d 171 24 [some (Sum.inr x), v1, v2] (st) M = eb_E L d 171 25 [some (Sum.inr x), v1, v2] (Sum.inr x :: st) M := eb_E_s hk171 rfl
theorem e171_25 {x : Int32} : eb_E L d 171 25 [v0, some (zi x), v2] (st) M = eb_E L d 171 26 [v0, some (zi x), v2] (zi x :: st) M := eb_E_s hk171 rfl
theorem e171_26 {x : Int32} : eb_E L d 171 26 ls (zi x :: Sum.inr (some a) :: st) (nc, ns, I, J, R) = if (eb_ty L a.1).1 = 6 then eb_E L d 171 29 ls (st) (nc, ns, eb_u I a 13 x, J, R) else none := eb_E_iy hk171 rfl
theorem e171_29 {x : Int32} : eb_E L d 171 29 [v0, v1, some (zi x)] (st) M = eb_E L d 171 30 [v0, v1, some (zi x)] (zi x :: st) M := eb_E_s hk171 rfl
theorem e171_30 {x : Int32} : eb_E L d 171 30 ls ([zi x]) M = some (zi x, M) := eb_E_r hk171 rfl
/-! X6_heads -/
theorem hk172 : eb_cd L 172 = eb_look (kt172 L) := rfl
theorem h172 (ha : (eb_ty L a.1).1 = 6) {x1 : Int32} {x2 : Int32} : eb_ev L (d + 1) 172 [zr a, zi x1, zi x2] M = eb_E L d 172 0 [some (zr a), some (zi x1), some (zi x2), none] [] M := eb_ev_s rfl (eb_chk_i ha rfl)
theorem e172_0 {x : Option eb_A} : eb_E L d 172 0 [some (Sum.inr x), v1, v2, v3] (st) M = eb_E L d 172 1 [some (Sum.inr x), v1, v2, v3] (Sum.inr x :: st) M := eb_E_s hk172 rfl
theorem e172_1 {x : Int32} : eb_E L d 172 1 [v0, some (zi x), v2, v3] (st) M = eb_E L d 172 2 [v0, some (zi x), v2, v3] (zi x :: st) M := eb_E_s hk172 rfl
theorem e172_2  : eb_E L d 172 2 ls ([a1, a0]) M = (eb_ev L d 149 [a0, a1] M).bind (fun q => eb_E L d 172 5 ls [q.1] q.2) := eb_E_c hk172 rfl
theorem e172_5 {x : Int32} : eb_E L d 172 5 ls (zi x :: st) M = if x = 0 then eb_E L d 172 20 ls st M else eb_E L d 172 8 ls st M := eb_E_b hk172 rfl
theorem e172_8 {x : Int32} : eb_E L d 172 8 [v0, v1, some (zi x), v3] (st) M = eb_E L d 172 9 [v0, v1, some (zi x), v3] (zi x :: st) M := eb_E_s hk172 rfl
theorem e172_9 {x : Int32} : eb_E L d 172 9 ls (zi x :: st) M = eb_E L d 172 10 ls (zl x.toInt64 :: st) M := eb_E_s hk172 rfl
theorem e172_10  : eb_E L d 172 10 ls (st) M = eb_E L d 172 11 ls (zl 1 :: st) M := eb_E_s hk172 rfl
theorem e172_11  : eb_E L d 172 11 ls (st) M = eb_E L d 172 14 ls (zl 30 :: st) M := eb_E_s hk172 rfl
theorem e172_14  : eb_E L d 172 14 ls ([a2, a1, a0]) M = (eb_ev L d 146 [a0, a1, a2] M).bind (fun q => eb_E L d 172 17 ls [q.1] q.2) := eb_E_c hk172 rfl
theorem e172_17 {x : Int32} : eb_E L d 172 17 ls (zi x :: st) M = if x = 0 then eb_E L d 172 20 ls st M else eb_E L d 172 27 ls st M := eb_E_b hk172 rfl
theorem e172_20 {x : Option eb_A} : eb_E L d 172 20 [some (Sum.inr x), v1, v2, v3] (st) M = eb_E L d 172 21 [some (Sum.inr x), v1, v2, v3] (Sum.inr x :: st) M := eb_E_s hk172 rfl
theorem e172_21  : eb_E L d 172 21 ls (st) M = eb_E L d 172 23 ls (zi (-2) :: st) M := eb_E_s hk172 rfl
theorem e172_23  : eb_E L d 172 23 ls ([a1, a0]) M = (eb_ev L d 145 [a0, a1] M).bind (fun q => eb_E L d 172 26 ls [q.1] q.2) := eb_E_c hk172 rfl
theorem e172_26 {x : Int32} : eb_E L d 172 26 ls ([zi x]) M = some (zi x, M) := eb_E_r hk172 rfl
theorem e172_27 {x : Option eb_A} : eb_E L d 172 27 [some (Sum.inr x), v1, v2, v3] (st) M = eb_E L d 172 28 [some (Sum.inr x), v1, v2, v3] (Sum.inr x :: st) M := eb_E_s hk172 rfl
theorem e172_28  : eb_E L d 172 28 ls (Sum.inr (some a) :: st) (nc, ns, I, J, R) = if (eb_ty L a.1).1 = 6 then eb_E L d 172 31 ls (Sum.inr (R a 12) :: st) (nc, ns, I, J, R) else none := eb_E_iy hk172 rfl
theorem e172_31 {x : Int32} : eb_E L d 172 31 [v0, some (zi x), v2, v3] (st) M = eb_E L d 172 32 [v0, some (zi x), v2, v3] (zi x :: st) M := eb_E_s hk172 rfl
theorem e172_32 {x : Int32} : eb_E L d 172 32 ls (zi x :: Sum.inr (some a) :: st) (nc, ns, I, J, R) = if (12 ≤ (eb_ty L a.1).1 ∧ (eb_ty L a.1).1 ≤ 16) ∧ eb_in x (eb_ty L a.1).2 = true then eb_E L d 172 33 ls (Sum.inr (R a x.toNatClampNeg) :: st) (nc, ns, I, J, R) else none := eb_E_iy hk172 rfl
theorem e172_33  : eb_E L d 172 33 ls (st) M = eb_E L d 172 34 ls (zi 1 :: st) M := eb_E_s hk172 rfl
theorem e172_34 {x : Int32} : eb_E L d 172 34 ls (zi x :: Sum.inr (some a) :: st) (nc, ns, I, J, R) = if (eb_ty L a.1).1 = 10 ∧ eb_in x (eb_ty L a.1).2 = true then eb_E L d 172 35 ls (zi (I a x.toNatClampNeg) :: st) (nc, ns, I, J, R) else none := eb_E_iy hk172 rfl
theorem e172_35 {x : Int32} : eb_E L d 172 35 [v0, v1, v2, v3] (zi x :: st) M = eb_E L d 172 36 [v0, v1, v2, some (zi x)] (st) M := eb_E_s hk172 rfl
theorem e172_36 {x : Option eb_A} : eb_E L d 172 36 [some (Sum.inr x), v1, v2, v3] (st) M = eb_E L d 172 37 [some (Sum.inr x), v1, v2, v3] (Sum.inr x :: st) M := eb_E_s hk172 rfl
theorem e172_37  : eb_E L d 172 37 ls (Sum.inr (some a) :: st) (nc, ns, I, J, R) = if (eb_ty L a.1).1 = 6 then eb_E L d 172 40 ls (Sum.inr (R a 12) :: st) (nc, ns, I, J, R) else none := eb_E_iy hk172 rfl
theorem e172_40 {x : Int32} : eb_E L d 172 40 [v0, some (zi x), v2, v3] (st) M = eb_E L d 172 41 [v0, some (zi x), v2, v3] (zi x :: st) M := eb_E_s hk172 rfl
theorem e172_41 {x : Int32} : eb_E L d 172 41 ls (zi x :: Sum.inr (some a) :: st) (nc, ns, I, J, R) = if (12 ≤ (eb_ty L a.1).1 ∧ (eb_ty L a.1).1 ≤ 16) ∧ eb_in x (eb_ty L a.1).2 = true then eb_E L d 172 42 ls (Sum.inr (R a x.toNatClampNeg) :: st) (nc, ns, I, J, R) else none := eb_E_iy hk172 rfl
theorem e172_42  : eb_E L d 172 42 ls (st) M = eb_E L d 172 43 ls (zi 1 :: st) M := eb_E_s hk172 rfl
theorem e172_43 {x : Int32} : eb_E L d 172 43 [v0, v1, some (zi x), v3] (st) M = eb_E L d 172 44 [v0, v1, some (zi x), v3] (zi x :: st) M := eb_E_s hk172 rfl
theorem e172_44 {x : Int32} {v : Int32} : eb_E L d 172 44 ls (zi v :: zi x :: Sum.inr (some a) :: st) (nc, ns, I, J, R) = if (eb_ty L a.1).1 = 10 ∧ eb_in x (eb_ty L a.1).2 = true then eb_E L d 172 45 ls (st) (nc, ns, eb_u I a x.toNatClampNeg v, J, R) else none := eb_E_iy hk172 rfl
theorem e172_45 {x : Int32} : eb_E L d 172 45 [v0, v1, v2, some (zi x)] (st) M = eb_E L d 172 46 [v0, v1, v2, some (zi x)] (zi x :: st) M := eb_E_s hk172 rfl
theorem e172_46 {x : Int32} : eb_E L d 172 46 ls ([zi x]) M = some (zi x, M) := eb_E_r hk172 rfl
/-! X6_feed -/
theorem hk173 : eb_cd L 173 = eb_look (kt173 L) := rfl
theorem h173 (ha : (eb_ty L a.1).1 = 6) {x1 : Int32} : eb_ev L (d + 1) 173 [zr a, zi x1] M = eb_E L d 173 0 [some (zr a), some (zi x1)] [] M := eb_ev_s rfl (eb_chk_i ha rfl)
theorem e173_0 {x : Int32} : eb_E L d 173 0 [v0, some (zi x)] (st) M = eb_E L d 173 1 [v0, some (zi x)] (zi x :: st) M := eb_E_s hk173 rfl
theorem e173_1 {x : Int32} : eb_E L d 173 1 ls (zi x :: st) M = eb_E L d 173 2 ls (zl x.toInt64 :: st) M := eb_E_s hk173 rfl
theorem e173_2  : eb_E L d 173 2 ls (st) M = eb_E L d 173 3 ls (zl 0 :: st) M := eb_E_s hk173 rfl
theorem e173_3  : eb_E L d 173 3 ls (st) M = eb_E L d 173 6 ls (zl 255 :: st) M := eb_E_s hk173 rfl
theorem e173_6  : eb_E L d 173 6 ls ([a2, a1, a0]) M = (eb_ev L d 146 [a0, a1, a2] M).bind (fun q => eb_E L d 173 9 ls [q.1] q.2) := eb_E_c hk173 rfl
theorem e173_9 {x : Int32} : eb_E L d 173 9 ls (zi x :: st) M = if x = 0 then eb_E L d 173 12 ls st M else eb_E L d 173 19 ls st M := eb_E_b hk173 rfl
theorem e173_12 {x : Option eb_A} : eb_E L d 173 12 [some (Sum.inr x), v1] (st) M = eb_E L d 173 13 [some (Sum.inr x), v1] (Sum.inr x :: st) M := eb_E_s hk173 rfl
theorem e173_13  : eb_E L d 173 13 ls (st) M = eb_E L d 173 15 ls (zi (-2) :: st) M := eb_E_s hk173 rfl
theorem e173_15  : eb_E L d 173 15 ls ([a1, a0]) M = (eb_ev L d 145 [a0, a1] M).bind (fun q => eb_E L d 173 18 ls [q.1] q.2) := eb_E_c hk173 rfl
theorem e173_18 {x : Int32} : eb_E L d 173 18 ls ([zi x]) M = some (zi x, M) := eb_E_r hk173 rfl
theorem e173_19 {x : Option eb_A} : eb_E L d 173 19 [some (Sum.inr x), v1] (st) M = eb_E L d 173 20 [some (Sum.inr x), v1] (Sum.inr x :: st) M := eb_E_s hk173 rfl
theorem e173_20  : eb_E L d 173 20 ls (Sum.inr (some a) :: st) (nc, ns, I, J, R) = if (eb_ty L a.1).1 = 6 then eb_E L d 173 23 ls (zi (I a 7) :: st) (nc, ns, I, J, R) else none := eb_E_iy hk173 rfl
theorem e173_23  : eb_E L d 173 23 ls (st) M = eb_E L d 173 26 ls (zi 250 :: st) M := eb_E_s hk173 rfl
theorem e173_26 {x : Int32} {y : Int32} : eb_E L d 173 26 ls (zi y :: zi x :: st) M = if x = y then eb_E L d 173 29 ls st M else eb_E L d 173 36 ls st M := eb_E_b hk173 rfl
theorem e173_29 {x : Option eb_A} : eb_E L d 173 29 [some (Sum.inr x), v1] (st) M = eb_E L d 173 30 [some (Sum.inr x), v1] (Sum.inr x :: st) M := eb_E_s hk173 rfl
theorem e173_30  : eb_E L d 173 30 ls (st) M = eb_E L d 173 32 ls (zi (-6) :: st) M := eb_E_s hk173 rfl
theorem e173_32  : eb_E L d 173 32 ls ([a1, a0]) M = (eb_ev L d 145 [a0, a1] M).bind (fun q => eb_E L d 173 35 ls [q.1] q.2) := eb_E_c hk173 rfl
theorem e173_35 {x : Int32} : eb_E L d 173 35 ls ([zi x]) M = some (zi x, M) := eb_E_r hk173 rfl
theorem e173_36 {x : Option eb_A} : eb_E L d 173 36 [some (Sum.inr x), v1] (st) M = eb_E L d 173 37 [some (Sum.inr x), v1] (Sum.inr x :: st) M := eb_E_s hk173 rfl
theorem e173_37  : eb_E L d 173 37 ls (Sum.inr (some a) :: st) (nc, ns, I, J, R) = if (eb_ty L a.1).1 = 6 then eb_E L d 173 40 ls (Sum.inr (R a 6) :: st) (nc, ns, I, J, R) else none := eb_E_iy hk173 rfl
theorem e173_40 {x : Option eb_A} : eb_E L d 173 40 [some (Sum.inr x), v1] (st) M = eb_E L d 173 41 [some (Sum.inr x), v1] (Sum.inr x :: st) M := eb_E_s hk173 rfl
theorem e173_41a {x : Int32} : eb_E L d 173 41 ls (zi x :: st) M = eb_E L d 173 42 ls (zi x :: zi x :: st) M := eb_E_s hk173 rfl
theorem e173_41b {x : Option eb_A} : eb_E L d 173 41 ls (Sum.inr x :: st) M = eb_E L d 173 42 ls (Sum.inr x :: Sum.inr x :: st) M := eb_E_s hk173 rfl
theorem e173_42  : eb_E L d 173 42 ls (Sum.inr (some a) :: st) (nc, ns, I, J, R) = if (eb_ty L a.1).1 = 6 then eb_E L d 173 45 ls (zi (I a 7) :: st) (nc, ns, I, J, R) else none := eb_E_iy hk173 rfl
theorem e173_45 {x : Option eb_A} {y : Int32} : eb_E L d 173 45 ls (zi y :: Sum.inr x :: st) M = eb_E L d 173 46 ls (zi y :: Sum.inr x :: zi y :: st) M := eb_E_s hk173 rfl
theorem e173_46  : eb_E L d 173 46 ls (st) M = eb_E L d 173 47 ls (zi 1 :: st) M := eb_E_s hk173 rfl
theorem e173_47 {x : Int32} {y : Int32} : eb_E L d 173 47 ls (zi y :: zi x :: st) M = eb_E L d 173 48 ls (zi (x + y) :: st) M := eb_E_s hk173 rfl
theorem e173_48 {x : Int32} : eb_E L d 173 48 ls (zi x :: Sum.inr (some a) :: st) (nc, ns, I, J, R) = if (eb_ty L a.1).1 = 6 then eb_E L d 173 51 ls (st) (nc, ns, eb_u I a 7 x, J, R) else none := eb_E_iy hk173 rfl
theorem e173_51 {x : Int32} : eb_E L d 173 51 [v0, some (zi x)] (st) M = eb_E L d 173 52 [v0, some (zi x)] (zi x :: st) M := eb_E_s hk173 rfl
theorem e173_52 {x : Int32} {v : Int32} : eb_E L d 173 52 ls (zi v :: zi x :: Sum.inr (some a) :: st) (nc, ns, I, J, R) = if (eb_ty L a.1).1 = 10 ∧ eb_in x (eb_ty L a.1).2 = true then eb_E L d 173 53 ls (st) (nc, ns, eb_u I a x.toNatClampNeg v, J, R) else none := eb_E_iy hk173 rfl
theorem e173_53 {x : Option eb_A} : eb_E L d 173 53 [some (Sum.inr x), v1] (st) M = eb_E L d 173 54 [some (Sum.inr x), v1] (Sum.inr x :: st) M := eb_E_s hk173 rfl
theorem e173_54  : eb_E L d 173 54 ls (Sum.inr (some a) :: st) (nc, ns, I, J, R) = if (eb_ty L a.1).1 = 6 then eb_E L d 173 57 ls (zi (I a 7) :: st) (nc, ns, I, J, R) else none := eb_E_iy hk173 rfl
theorem e173_57 {x : Int32} : eb_E L d 173 57 ls ([zi x]) M = some (zi x, M) := eb_E_r hk173 rfl
/-! X6_wipe -/
theorem hk174 : eb_cd L 174 = eb_look (kt174 L) := rfl
theorem h174 (ha : (eb_ty L a.1).1 = 6) : eb_ev L (d + 1) 174 [zr a] M = eb_E L d 174 0 [some (zr a), none] [] M := eb_ev_s rfl (eb_chk_i ha rfl)
theorem e174_0 {x : Option eb_A} : eb_E L d 174 0 [some (Sum.inr x), v1] (st) M = eb_E L d 174 1 [some (Sum.inr x), v1] (Sum.inr x :: st) M := eb_E_s hk174 rfl
theorem e174_1  : eb_E L d 174 1 ls (Sum.inr (some a) :: st) (nc, ns, I, J, R) = if (eb_ty L a.1).1 = 6 then eb_E L d 174 4 ls (zi (I a 7) :: st) (nc, ns, I, J, R) else none := eb_E_iy hk174 rfl
theorem e174_4 {x : Int32} : eb_E L d 174 4 [v0, v1] (zi x :: st) M = eb_E L d 174 5 [v0, some (zi x)] (st) M := eb_E_s hk174 rfl
theorem e174_5 {x : Option eb_A} : eb_E L d 174 5 [some (Sum.inr x), v1] (st) M = eb_E L d 174 6 [some (Sum.inr x), v1] (Sum.inr x :: st) M := eb_E_s hk174 rfl
theorem e174_6  : eb_E L d 174 6 ls (st) M = eb_E L d 174 7 ls (zi 0 :: st) M := eb_E_s hk174 rfl
theorem e174_7 {x : Int32} : eb_E L d 174 7 ls (zi x :: Sum.inr (some a) :: st) (nc, ns, I, J, R) = if (eb_ty L a.1).1 = 6 then eb_E L d 174 10 ls (st) (nc, ns, eb_u I a 7 x, J, R) else none := eb_E_iy hk174 rfl
theorem e174_10 {x : Int32} : eb_E L d 174 10 [v0, some (zi x)] (st) M = eb_E L d 174 11 [v0, some (zi x)] (zi x :: st) M := eb_E_s hk174 rfl
theorem e174_11 {x : Int32} : eb_E L d 174 11 ls ([zi x]) M = some (zi x, M) := eb_E_r hk174 rfl
/-! X6_isLetter -/
theorem hk175 : eb_cd L 175 = eb_look (kt175 L) := rfl
theorem h175 {x0 : Int32} : eb_ev L (d + 1) 175 [zi x0] M = eb_E L d 175 0 [some (zi x0)] [] M := eb_ev_s rfl rfl
theorem e175_0 {x : Int32} : eb_E L d 175 0 [some (zi x)] (st) M = eb_E L d 175 1 [some (zi x)] (zi x :: st) M := eb_E_s hk175 rfl
theorem e175_1  : eb_E L d 175 1 ls (st) M = eb_E L d 175 3 ls (zi 97 :: st) M := eb_E_s hk175 rfl
theorem e175_3 {x : Int32} {y : Int32} : eb_E L d 175 3 ls (zi y :: zi x :: st) M = if x < y then eb_E L d 175 16 ls st M else eb_E L d 175 6 ls st M := eb_E_b hk175 rfl
theorem e175_6 {x : Int32} : eb_E L d 175 6 [some (zi x)] (st) M = eb_E L d 175 7 [some (zi x)] (zi x :: st) M := eb_E_s hk175 rfl
theorem e175_7  : eb_E L d 175 7 ls (st) M = eb_E L d 175 9 ls (zi 122 :: st) M := eb_E_s hk175 rfl
theorem e175_9 {x : Int32} {y : Int32} : eb_E L d 175 9 ls (zi y :: zi x :: st) M = if y < x then eb_E L d 175 16 ls st M else eb_E L d 175 12 ls st M := eb_E_b hk175 rfl
theorem e175_12  : eb_E L d 175 12 ls (st) M = eb_E L d 175 13 ls (zi 1 :: st) M := eb_E_s hk175 rfl
theorem e175_13  : eb_E L d 175 13 ls (st) M = eb_E L d 175 17 ls (st) M := eb_E_s hk175 rfl
theorem e175_16  : eb_E L d 175 16 ls (st) M = eb_E L d 175 17 ls (zi 0 :: st) M := eb_E_s hk175 rfl
theorem e175_17 {x : Int32} : eb_E L d 175 17 ls ([zi x]) M = if x = 0 ∨ x = 1 then some (zi x, M) else none := eb_E_ri hk175 rfl
/-! X6_isDigit -/
theorem hk176 : eb_cd L 176 = eb_look (kt176 L) := rfl
theorem h176 {x0 : Int32} : eb_ev L (d + 1) 176 [zi x0] M = eb_E L d 176 0 [some (zi x0)] [] M := eb_ev_s rfl rfl
theorem e176_0 {x : Int32} : eb_E L d 176 0 [some (zi x)] (st) M = eb_E L d 176 1 [some (zi x)] (zi x :: st) M := eb_E_s hk176 rfl
theorem e176_1  : eb_E L d 176 1 ls (st) M = eb_E L d 176 3 ls (zi 48 :: st) M := eb_E_s hk176 rfl
theorem e176_3 {x : Int32} {y : Int32} : eb_E L d 176 3 ls (zi y :: zi x :: st) M = if x < y then eb_E L d 176 16 ls st M else eb_E L d 176 6 ls st M := eb_E_b hk176 rfl
theorem e176_6 {x : Int32} : eb_E L d 176 6 [some (zi x)] (st) M = eb_E L d 176 7 [some (zi x)] (zi x :: st) M := eb_E_s hk176 rfl
theorem e176_7  : eb_E L d 176 7 ls (st) M = eb_E L d 176 9 ls (zi 57 :: st) M := eb_E_s hk176 rfl
theorem e176_9 {x : Int32} {y : Int32} : eb_E L d 176 9 ls (zi y :: zi x :: st) M = if y < x then eb_E L d 176 16 ls st M else eb_E L d 176 12 ls st M := eb_E_b hk176 rfl
theorem e176_12  : eb_E L d 176 12 ls (st) M = eb_E L d 176 13 ls (zi 1 :: st) M := eb_E_s hk176 rfl
theorem e176_13  : eb_E L d 176 13 ls (st) M = eb_E L d 176 17 ls (st) M := eb_E_s hk176 rfl
theorem e176_16  : eb_E L d 176 16 ls (st) M = eb_E L d 176 17 ls (zi 0 :: st) M := eb_E_s hk176 rfl
theorem e176_17 {x : Int32} : eb_E L d 176 17 ls ([zi x]) M = if x = 0 ∨ x = 1 then some (zi x, M) else none := eb_E_ri hk176 rfl
/-! X6_look -/
theorem hk177 : eb_cd L 177 = eb_look (kt177 L) := rfl
theorem h177 (ha : (eb_ty L a.1).1 = 6) : eb_ev L (d + 1) 177 [zr a] M = eb_E L d 177 0 [some (zr a)] [] M := eb_ev_s rfl (eb_chk_i ha rfl)
theorem e177_0 {x : Option eb_A} : eb_E L d 177 0 [some (Sum.inr x)] (st) M = eb_E L d 177 1 [some (Sum.inr x)] (Sum.inr x :: st) M := eb_E_s hk177 rfl
theorem e177_1  : eb_E L d 177 1 ls (Sum.inr (some a) :: st) (nc, ns, I, J, R) = if (eb_ty L a.1).1 = 6 then eb_E L d 177 4 ls (zi (I a 18) :: st) (nc, ns, I, J, R) else none := eb_E_iy hk177 rfl
theorem e177_4 {x : Option eb_A} : eb_E L d 177 4 [some (Sum.inr x)] (st) M = eb_E L d 177 5 [some (Sum.inr x)] (Sum.inr x :: st) M := eb_E_s hk177 rfl
theorem e177_5  : eb_E L d 177 5 ls (Sum.inr (some a) :: st) (nc, ns, I, J, R) = if (eb_ty L a.1).1 = 6 then eb_E L d 177 8 ls (zi (I a 7) :: st) (nc, ns, I, J, R) else none := eb_E_iy hk177 rfl
theorem e177_8 {x : Int32} {y : Int32} : eb_E L d 177 8 ls (zi y :: zi x :: st) M = if x < y then eb_E L d 177 11 ls st M else eb_E L d 177 38 ls st M := eb_E_b hk177 rfl
theorem e177_11 {x : Option eb_A} : eb_E L d 177 11 [some (Sum.inr x)] (st) M = eb_E L d 177 12 [some (Sum.inr x)] (Sum.inr x :: st) M := eb_E_s hk177 rfl
theorem e177_12  : eb_E L d 177 12 ls (Sum.inr (some a) :: st) (nc, ns, I, J, R) = if (eb_ty L a.1).1 = 6 then eb_E L d 177 15 ls (Sum.inr (R a 6) :: st) (nc, ns, I, J, R) else none := eb_E_iy hk177 rfl
theorem e177_15 {x : Option eb_A} : eb_E L d 177 15 [some (Sum.inr x)] (st) M = eb_E L d 177 16 [some (Sum.inr x)] (Sum.inr x :: st) M := eb_E_s hk177 rfl
theorem e177_16  : eb_E L d 177 16 ls (Sum.inr (some a) :: st) (nc, ns, I, J, R) = if (eb_ty L a.1).1 = 6 then eb_E L d 177 19 ls (zi (I a 18) :: st) (nc, ns, I, J, R) else none := eb_E_iy hk177 rfl
theorem e177_19 {x : Int32} : eb_E L d 177 19 ls (zi x :: Sum.inr (some a) :: st) (nc, ns, I, J, R) = if (eb_ty L a.1).1 = 10 ∧ eb_in x (eb_ty L a.1).2 = true then eb_E L d 177 20 ls (zi (I a x.toNatClampNeg) :: st) (nc, ns, I, J, R) else none := eb_E_iy hk177 rfl
theorem e177_20  : eb_E L d 177 20 ls (st) M = eb_E L d 177 22 ls (zi 32 :: st) M := eb_E_s hk177 rfl
theorem e177_22 {x : Int32} {y : Int32} : eb_E L d 177 22 ls (zi y :: zi x :: st) M = if x = y then eb_E L d 177 25 ls st M else eb_E L d 177 38 ls st M := eb_E_b hk177 rfl
theorem e177_25 {x : Option eb_A} : eb_E L d 177 25 [some (Sum.inr x)] (st) M = eb_E L d 177 26 [some (Sum.inr x)] (Sum.inr x :: st) M := eb_E_s hk177 rfl
theorem e177_26a {x : Int32} : eb_E L d 177 26 ls (zi x :: st) M = eb_E L d 177 27 ls (zi x :: zi x :: st) M := eb_E_s hk177 rfl
theorem e177_26b {x : Option eb_A} : eb_E L d 177 26 ls (Sum.inr x :: st) M = eb_E L d 177 27 ls (Sum.inr x :: Sum.inr x :: st) M := eb_E_s hk177 rfl
theorem e177_27  : eb_E L d 177 27 ls (Sum.inr (some a) :: st) (nc, ns, I, J, R) = if (eb_ty L a.1).1 = 6 then eb_E L d 177 30 ls (zi (I a 18) :: st) (nc, ns, I, J, R) else none := eb_E_iy hk177 rfl
theorem e177_30  : eb_E L d 177 30 ls (st) M = eb_E L d 177 31 ls (zi 1 :: st) M := eb_E_s hk177 rfl
theorem e177_31 {x : Int32} {y : Int32} : eb_E L d 177 31 ls (zi y :: zi x :: st) M = eb_E L d 177 32 ls (zi (x + y) :: st) M := eb_E_s hk177 rfl
theorem e177_32 {x : Int32} : eb_E L d 177 32 ls (zi x :: Sum.inr (some a) :: st) (nc, ns, I, J, R) = if (eb_ty L a.1).1 = 6 then eb_E L d 177 35 ls (st) (nc, ns, eb_u I a 18 x, J, R) else none := eb_E_iy hk177 rfl
theorem e177_35  : eb_E L d 177 35 ls (st) M = eb_E L d 177 0 ls (st) M := eb_E_s hk177 rfl
theorem e177_38 {x : Option eb_A} : eb_E L d 177 38 [some (Sum.inr x)] (st) M = eb_E L d 177 39 [some (Sum.inr x)] (Sum.inr x :: st) M := eb_E_s hk177 rfl
theorem e177_39 {x : Option eb_A} : eb_E L d 177 39 [some (Sum.inr x)] (st) M = eb_E L d 177 40 [some (Sum.inr x)] (Sum.inr x :: st) M := eb_E_s hk177 rfl
theorem e177_40  : eb_E L d 177 40 ls (Sum.inr (some a) :: st) (nc, ns, I, J, R) = if (eb_ty L a.1).1 = 6 then eb_E L d 177 43 ls (zi (I a 18) :: st) (nc, ns, I, J, R) else none := eb_E_iy hk177 rfl
theorem e177_43 {x : Int32} : eb_E L d 177 43 ls (zi x :: Sum.inr (some a) :: st) (nc, ns, I, J, R) = if (eb_ty L a.1).1 = 6 then eb_E L d 177 46 ls (st) (nc, ns, eb_u I a 20 x, J, R) else none := eb_E_iy hk177 rfl
theorem e177_46 {x : Option eb_A} : eb_E L d 177 46 [some (Sum.inr x)] (st) M = eb_E L d 177 47 [some (Sum.inr x)] (Sum.inr x :: st) M := eb_E_s hk177 rfl
theorem e177_47  : eb_E L d 177 47 ls (st) M = eb_E L d 177 48 ls (zi 0 :: st) M := eb_E_s hk177 rfl
theorem e177_48 {x : Int32} : eb_E L d 177 48 ls (zi x :: Sum.inr (some a) :: st) (nc, ns, I, J, R) = if (eb_ty L a.1).1 = 6 then eb_E L d 177 51 ls (st) (nc, ns, eb_u I a 21 x, J, R) else none := eb_E_iy hk177 rfl
theorem e177_51 {x : Option eb_A} : eb_E L d 177 51 [some (Sum.inr x)] (st) M = eb_E L d 177 52 [some (Sum.inr x)] (Sum.inr x :: st) M := eb_E_s hk177 rfl
theorem e177_52  : eb_E L d 177 52 ls (Sum.inr (some a) :: st) (nc, ns, I, J, R) = if (eb_ty L a.1).1 = 6 then eb_E L d 177 55 ls (zi (I a 18) :: st) (nc, ns, I, J, R) else none := eb_E_iy hk177 rfl
theorem e177_55 {x : Option eb_A} : eb_E L d 177 55 [some (Sum.inr x)] (st) M = eb_E L d 177 56 [some (Sum.inr x)] (Sum.inr x :: st) M := eb_E_s hk177 rfl
theorem e177_56  : eb_E L d 177 56 ls (Sum.inr (some a) :: st) (nc, ns, I, J, R) = if (eb_ty L a.1).1 = 6 then eb_E L d 177 59 ls (zi (I a 7) :: st) (nc, ns, I, J, R) else none := eb_E_iy hk177 rfl
theorem e177_59 {x : Int32} {y : Int32} : eb_E L d 177 59 ls (zi y :: zi x :: st) M = if x = y then eb_E L d 177 62 ls st M else eb_E L d 177 70 ls st M := eb_E_b hk177 rfl
theorem e177_62 {x : Option eb_A} : eb_E L d 177 62 [some (Sum.inr x)] (st) M = eb_E L d 177 63 [some (Sum.inr x)] (Sum.inr x :: st) M := eb_E_s hk177 rfl
theorem e177_63  : eb_E L d 177 63 ls (st) M = eb_E L d 177 64 ls (zi 0 :: st) M := eb_E_s hk177 rfl
theorem e177_64 {x : Int32} : eb_E L d 177 64 ls (zi x :: Sum.inr (some a) :: st) (nc, ns, I, J, R) = if (eb_ty L a.1).1 = 6 then eb_E L d 177 67 ls (st) (nc, ns, eb_u I a 19 x, J, R) else none := eb_E_iy hk177 rfl
theorem e177_67  : eb_E L d 177 67 ls (st) M = eb_E L d 177 263 ls (st) M := eb_E_s hk177 rfl
theorem e177_70 {x : Option eb_A} : eb_E L d 177 70 [some (Sum.inr x)] (st) M = eb_E L d 177 71 [some (Sum.inr x)] (Sum.inr x :: st) M := eb_E_s hk177 rfl
theorem e177_71  : eb_E L d 177 71 ls (Sum.inr (some a) :: st) (nc, ns, I, J, R) = if (eb_ty L a.1).1 = 6 then eb_E L d 177 74 ls (Sum.inr (R a 6) :: st) (nc, ns, I, J, R) else none := eb_E_iy hk177 rfl
theorem e177_74 {x : Option eb_A} : eb_E L d 177 74 [some (Sum.inr x)] (st) M = eb_E L d 177 75 [some (Sum.inr x)] (Sum.inr x :: st) M := eb_E_s hk177 rfl
theorem e177_75  : eb_E L d 177 75 ls (Sum.inr (some a) :: st) (nc, ns, I, J, R) = if (eb_ty L a.1).1 = 6 then eb_E L d 177 78 ls (zi (I a 18) :: st) (nc, ns, I, J, R) else none := eb_E_iy hk177 rfl
theorem e177_78 {x : Int32} : eb_E L d 177 78 ls (zi x :: Sum.inr (some a) :: st) (nc, ns, I, J, R) = if (eb_ty L a.1).1 = 10 ∧ eb_in x (eb_ty L a.1).2 = true then eb_E L d 177 79 ls (zi (I a x.toNatClampNeg) :: st) (nc, ns, I, J, R) else none := eb_E_iy hk177 rfl
theorem e177_79  : eb_E L d 177 79 ls ([a0]) M = (eb_ev L d 175 [a0] M).bind (fun q => eb_E L d 177 82 ls [q.1] q.2) := eb_E_c hk177 rfl
theorem e177_82 {x : Int32} : eb_E L d 177 82 ls (zi x :: st) M = if x = 0 then eb_E L d 177 129 ls st M else eb_E L d 177 85 ls st M := eb_E_b hk177 rfl
theorem e177_85 {x : Option eb_A} : eb_E L d 177 85 [some (Sum.inr x)] (st) M = eb_E L d 177 86 [some (Sum.inr x)] (Sum.inr x :: st) M := eb_E_s hk177 rfl
theorem e177_86  : eb_E L d 177 86 ls (st) M = eb_E L d 177 87 ls (zi 1 :: st) M := eb_E_s hk177 rfl
theorem e177_87 {x : Int32} : eb_E L d 177 87 ls (zi x :: Sum.inr (some a) :: st) (nc, ns, I, J, R) = if (eb_ty L a.1).1 = 6 then eb_E L d 177 90 ls (st) (nc, ns, eb_u I a 19 x, J, R) else none := eb_E_iy hk177 rfl
theorem e177_90 {x : Option eb_A} : eb_E L d 177 90 [some (Sum.inr x)] (st) M = eb_E L d 177 91 [some (Sum.inr x)] (Sum.inr x :: st) M := eb_E_s hk177 rfl
theorem e177_91  : eb_E L d 177 91 ls (Sum.inr (some a) :: st) (nc, ns, I, J, R) = if (eb_ty L a.1).1 = 6 then eb_E L d 177 94 ls (zi (I a 18) :: st) (nc, ns, I, J, R) else none := eb_E_iy hk177 rfl
theorem e177_94 {x : Option eb_A} : eb_E L d 177 94 [some (Sum.inr x)] (st) M = eb_E L d 177 95 [some (Sum.inr x)] (Sum.inr x :: st) M := eb_E_s hk177 rfl
theorem e177_95  : eb_E L d 177 95 ls (Sum.inr (some a) :: st) (nc, ns, I, J, R) = if (eb_ty L a.1).1 = 6 then eb_E L d 177 98 ls (zi (I a 7) :: st) (nc, ns, I, J, R) else none := eb_E_iy hk177 rfl
theorem e177_98 {x : Int32} {y : Int32} : eb_E L d 177 98 ls (zi y :: zi x :: st) M = if x < y then eb_E L d 177 101 ls st M else eb_E L d 177 263 ls st M := eb_E_b hk177 rfl
theorem e177_101 {x : Option eb_A} : eb_E L d 177 101 [some (Sum.inr x)] (st) M = eb_E L d 177 102 [some (Sum.inr x)] (Sum.inr x :: st) M := eb_E_s hk177 rfl
theorem e177_102  : eb_E L d 177 102 ls (Sum.inr (some a) :: st) (nc, ns, I, J, R) = if (eb_ty L a.1).1 = 6 then eb_E L d 177 105 ls (Sum.inr (R a 6) :: st) (nc, ns, I, J, R) else none := eb_E_iy hk177 rfl
theorem e177_105 {x : Option eb_A} : eb_E L d 177 105 [some (Sum.inr x)] (st) M = eb_E L d 177 106 [some (Sum.inr x)] (Sum.inr x :: st) M := eb_E_s hk177 rfl
theorem e177_106  : eb_E L d 177 106 ls (Sum.inr (some a) :: st) (nc, ns, I, J, R) = if (eb_ty L a.1).1 = 6 then eb_E L d 177 109 ls (zi (I a 18) :: st) (nc, ns, I, J, R) else none := eb_E_iy hk177 rfl
theorem e177_109 {x : Int32} : eb_E L d 177 109 ls (zi x :: Sum.inr (some a) :: st) (nc, ns, I, J, R) = if (eb_ty L a.1).1 = 10 ∧ eb_in x (eb_ty L a.1).2 = true then eb_E L d 177 110 ls (zi (I a x.toNatClampNeg) :: st) (nc, ns, I, J, R) else none := eb_E_iy hk177 rfl
theorem e177_110  : eb_E L d 177 110 ls ([a0]) M = (eb_ev L d 175 [a0] M).bind (fun q => eb_E L d 177 113 ls [q.1] q.2) := eb_E_c hk177 rfl
theorem e177_113 {x : Int32} : eb_E L d 177 113 ls (zi x :: st) M = if x = 0 then eb_E L d 177 263 ls st M else eb_E L d 177 116 ls st M := eb_E_b hk177 rfl
theorem e177_116 {x : Option eb_A} : eb_E L d 177 116 [some (Sum.inr x)] (st) M = eb_E L d 177 117 [some (Sum.inr x)] (Sum.inr x :: st) M := eb_E_s hk177 rfl
theorem e177_117a {x : Int32} : eb_E L d 177 117 ls (zi x :: st) M = eb_E L d 177 118 ls (zi x :: zi x :: st) M := eb_E_s hk177 rfl
theorem e177_117b {x : Option eb_A} : eb_E L d 177 117 ls (Sum.inr x :: st) M = eb_E L d 177 118 ls (Sum.inr x :: Sum.inr x :: st) M := eb_E_s hk177 rfl
theorem e177_118  : eb_E L d 177 118 ls (Sum.inr (some a) :: st) (nc, ns, I, J, R) = if (eb_ty L a.1).1 = 6 then eb_E L d 177 121 ls (zi (I a 18) :: st) (nc, ns, I, J, R) else none := eb_E_iy hk177 rfl
theorem e177_121  : eb_E L d 177 121 ls (st) M = eb_E L d 177 122 ls (zi 1 :: st) M := eb_E_s hk177 rfl
theorem e177_122 {x : Int32} {y : Int32} : eb_E L d 177 122 ls (zi y :: zi x :: st) M = eb_E L d 177 123 ls (zi (x + y) :: st) M := eb_E_s hk177 rfl
theorem e177_123 {x : Int32} : eb_E L d 177 123 ls (zi x :: Sum.inr (some a) :: st) (nc, ns, I, J, R) = if (eb_ty L a.1).1 = 6 then eb_E L d 177 126 ls (st) (nc, ns, eb_u I a 18 x, J, R) else none := eb_E_iy hk177 rfl
theorem e177_126  : eb_E L d 177 126 ls (st) M = eb_E L d 177 90 ls (st) M := eb_E_s hk177 rfl
theorem e177_129 {x : Option eb_A} : eb_E L d 177 129 [some (Sum.inr x)] (st) M = eb_E L d 177 130 [some (Sum.inr x)] (Sum.inr x :: st) M := eb_E_s hk177 rfl
theorem e177_130  : eb_E L d 177 130 ls (Sum.inr (some a) :: st) (nc, ns, I, J, R) = if (eb_ty L a.1).1 = 6 then eb_E L d 177 133 ls (Sum.inr (R a 6) :: st) (nc, ns, I, J, R) else none := eb_E_iy hk177 rfl
theorem e177_133 {x : Option eb_A} : eb_E L d 177 133 [some (Sum.inr x)] (st) M = eb_E L d 177 134 [some (Sum.inr x)] (Sum.inr x :: st) M := eb_E_s hk177 rfl
theorem e177_134  : eb_E L d 177 134 ls (Sum.inr (some a) :: st) (nc, ns, I, J, R) = if (eb_ty L a.1).1 = 6 then eb_E L d 177 137 ls (zi (I a 18) :: st) (nc, ns, I, J, R) else none := eb_E_iy hk177 rfl
theorem e177_137 {x : Int32} : eb_E L d 177 137 ls (zi x :: Sum.inr (some a) :: st) (nc, ns, I, J, R) = if (eb_ty L a.1).1 = 10 ∧ eb_in x (eb_ty L a.1).2 = true then eb_E L d 177 138 ls (zi (I a x.toNatClampNeg) :: st) (nc, ns, I, J, R) else none := eb_E_iy hk177 rfl
theorem e177_138  : eb_E L d 177 138 ls ([a0]) M = (eb_ev L d 176 [a0] M).bind (fun q => eb_E L d 177 141 ls [q.1] q.2) := eb_E_c hk177 rfl
theorem e177_141 {x : Int32} : eb_E L d 177 141 ls (zi x :: st) M = if x = 0 then eb_E L d 177 230 ls st M else eb_E L d 177 144 ls st M := eb_E_b hk177 rfl
theorem e177_144 {x : Option eb_A} : eb_E L d 177 144 [some (Sum.inr x)] (st) M = eb_E L d 177 145 [some (Sum.inr x)] (Sum.inr x :: st) M := eb_E_s hk177 rfl
theorem e177_145  : eb_E L d 177 145 ls (st) M = eb_E L d 177 146 ls (zi 2 :: st) M := eb_E_s hk177 rfl
theorem e177_146 {x : Int32} : eb_E L d 177 146 ls (zi x :: Sum.inr (some a) :: st) (nc, ns, I, J, R) = if (eb_ty L a.1).1 = 6 then eb_E L d 177 149 ls (st) (nc, ns, eb_u I a 19 x, J, R) else none := eb_E_iy hk177 rfl
theorem e177_149 {x : Option eb_A} : eb_E L d 177 149 [some (Sum.inr x)] (st) M = eb_E L d 177 150 [some (Sum.inr x)] (Sum.inr x :: st) M := eb_E_s hk177 rfl
theorem e177_150  : eb_E L d 177 150 ls (Sum.inr (some a) :: st) (nc, ns, I, J, R) = if (eb_ty L a.1).1 = 6 then eb_E L d 177 153 ls (zi (I a 18) :: st) (nc, ns, I, J, R) else none := eb_E_iy hk177 rfl
theorem e177_153 {x : Option eb_A} : eb_E L d 177 153 [some (Sum.inr x)] (st) M = eb_E L d 177 154 [some (Sum.inr x)] (Sum.inr x :: st) M := eb_E_s hk177 rfl
theorem e177_154  : eb_E L d 177 154 ls (Sum.inr (some a) :: st) (nc, ns, I, J, R) = if (eb_ty L a.1).1 = 6 then eb_E L d 177 157 ls (zi (I a 7) :: st) (nc, ns, I, J, R) else none := eb_E_iy hk177 rfl
theorem e177_157 {x : Int32} {y : Int32} : eb_E L d 177 157 ls (zi y :: zi x :: st) M = if x < y then eb_E L d 177 160 ls st M else eb_E L d 177 263 ls st M := eb_E_b hk177 rfl
theorem e177_160 {x : Option eb_A} : eb_E L d 177 160 [some (Sum.inr x)] (st) M = eb_E L d 177 161 [some (Sum.inr x)] (Sum.inr x :: st) M := eb_E_s hk177 rfl
theorem e177_161  : eb_E L d 177 161 ls (Sum.inr (some a) :: st) (nc, ns, I, J, R) = if (eb_ty L a.1).1 = 6 then eb_E L d 177 164 ls (Sum.inr (R a 6) :: st) (nc, ns, I, J, R) else none := eb_E_iy hk177 rfl
theorem e177_164 {x : Option eb_A} : eb_E L d 177 164 [some (Sum.inr x)] (st) M = eb_E L d 177 165 [some (Sum.inr x)] (Sum.inr x :: st) M := eb_E_s hk177 rfl
theorem e177_165  : eb_E L d 177 165 ls (Sum.inr (some a) :: st) (nc, ns, I, J, R) = if (eb_ty L a.1).1 = 6 then eb_E L d 177 168 ls (zi (I a 18) :: st) (nc, ns, I, J, R) else none := eb_E_iy hk177 rfl
theorem e177_168 {x : Int32} : eb_E L d 177 168 ls (zi x :: Sum.inr (some a) :: st) (nc, ns, I, J, R) = if (eb_ty L a.1).1 = 10 ∧ eb_in x (eb_ty L a.1).2 = true then eb_E L d 177 169 ls (zi (I a x.toNatClampNeg) :: st) (nc, ns, I, J, R) else none := eb_E_iy hk177 rfl
theorem e177_169  : eb_E L d 177 169 ls ([a0]) M = (eb_ev L d 176 [a0] M).bind (fun q => eb_E L d 177 172 ls [q.1] q.2) := eb_E_c hk177 rfl
theorem e177_172 {x : Int32} : eb_E L d 177 172 ls (zi x :: st) M = if x = 0 then eb_E L d 177 263 ls st M else eb_E L d 177 175 ls st M := eb_E_b hk177 rfl
theorem e177_175 {x : Option eb_A} : eb_E L d 177 175 [some (Sum.inr x)] (st) M = eb_E L d 177 176 [some (Sum.inr x)] (Sum.inr x :: st) M := eb_E_s hk177 rfl
theorem e177_176 {x : Option eb_A} : eb_E L d 177 176 [some (Sum.inr x)] (st) M = eb_E L d 177 177 [some (Sum.inr x)] (Sum.inr x :: st) M := eb_E_s hk177 rfl
theorem e177_177  : eb_E L d 177 177 ls (Sum.inr (some a) :: st) (nc, ns, I, J, R) = if (eb_ty L a.1).1 = 6 then eb_E L d 177 180 ls (zi (I a 18) :: st) (nc, ns, I, J, R) else none := eb_E_iy hk177 rfl
theorem e177_180 {x : Option eb_A} : eb_E L d 177 180 [some (Sum.inr x)] (st) M = eb_E L d 177 181 [some (Sum.inr x)] (Sum.inr x :: st) M := eb_E_s hk177 rfl
theorem e177_181  : eb_E L d 177 181 ls (Sum.inr (some a) :: st) (nc, ns, I, J, R) = if (eb_ty L a.1).1 = 6 then eb_E L d 177 184 ls (zi (I a 20) :: st) (nc, ns, I, J, R) else none := eb_E_iy hk177 rfl
theorem e177_184 {x : Int32} {y : Int32} : eb_E L d 177 184 ls (zi y :: zi x :: st) M = eb_E L d 177 185 ls (zi (x - y) :: st) M := eb_E_s hk177 rfl
theorem e177_185  : eb_E L d 177 185 ls (st) M = eb_E L d 177 186 ls (zi 3 :: st) M := eb_E_s hk177 rfl
theorem e177_186 {x : Int32} {y : Int32} : eb_E L d 177 186 ls (zi y :: zi x :: st) M = if x < y then eb_E L d 177 189 ls st M else eb_E L d 177 212 ls st M := eb_E_b hk177 rfl
theorem e177_189 {x : Option eb_A} : eb_E L d 177 189 [some (Sum.inr x)] (st) M = eb_E L d 177 190 [some (Sum.inr x)] (Sum.inr x :: st) M := eb_E_s hk177 rfl
theorem e177_190  : eb_E L d 177 190 ls (Sum.inr (some a) :: st) (nc, ns, I, J, R) = if (eb_ty L a.1).1 = 6 then eb_E L d 177 193 ls (zi (I a 21) :: st) (nc, ns, I, J, R) else none := eb_E_iy hk177 rfl
theorem e177_193  : eb_E L d 177 193 ls (st) M = eb_E L d 177 195 ls (zi 10 :: st) M := eb_E_s hk177 rfl
theorem e177_195 {x : Int32} {y : Int32} : eb_E L d 177 195 ls (zi y :: zi x :: st) M = eb_E L d 177 196 ls (zi (x * y) :: st) M := eb_E_s hk177 rfl
theorem e177_196 {x : Option eb_A} : eb_E L d 177 196 [some (Sum.inr x)] (st) M = eb_E L d 177 197 [some (Sum.inr x)] (Sum.inr x :: st) M := eb_E_s hk177 rfl
theorem e177_197  : eb_E L d 177 197 ls (Sum.inr (some a) :: st) (nc, ns, I, J, R) = if (eb_ty L a.1).1 = 6 then eb_E L d 177 200 ls (Sum.inr (R a 6) :: st) (nc, ns, I, J, R) else none := eb_E_iy hk177 rfl
theorem e177_200 {x : Option eb_A} : eb_E L d 177 200 [some (Sum.inr x)] (st) M = eb_E L d 177 201 [some (Sum.inr x)] (Sum.inr x :: st) M := eb_E_s hk177 rfl
theorem e177_201  : eb_E L d 177 201 ls (Sum.inr (some a) :: st) (nc, ns, I, J, R) = if (eb_ty L a.1).1 = 6 then eb_E L d 177 204 ls (zi (I a 18) :: st) (nc, ns, I, J, R) else none := eb_E_iy hk177 rfl
theorem e177_204 {x : Int32} : eb_E L d 177 204 ls (zi x :: Sum.inr (some a) :: st) (nc, ns, I, J, R) = if (eb_ty L a.1).1 = 10 ∧ eb_in x (eb_ty L a.1).2 = true then eb_E L d 177 205 ls (zi (I a x.toNatClampNeg) :: st) (nc, ns, I, J, R) else none := eb_E_iy hk177 rfl
theorem e177_205 {x : Int32} {y : Int32} : eb_E L d 177 205 ls (zi y :: zi x :: st) M = eb_E L d 177 206 ls (zi (x + y) :: st) M := eb_E_s hk177 rfl
theorem e177_206  : eb_E L d 177 206 ls (st) M = eb_E L d 177 208 ls (zi 48 :: st) M := eb_E_s hk177 rfl
theorem e177_208 {x : Int32} {y : Int32} : eb_E L d 177 208 ls (zi y :: zi x :: st) M = eb_E L d 177 209 ls (zi (x - y) :: st) M := eb_E_s hk177 rfl
theorem e177_209  : eb_E L d 177 209 ls (st) M = eb_E L d 177 214 ls (st) M := eb_E_s hk177 rfl
theorem e177_212  : eb_E L d 177 212 ls (st) M = eb_E L d 177 214 ls (zi 100000 :: st) M := eb_E_s hk177 rfl
theorem e177_214 {x : Int32} : eb_E L d 177 214 ls (zi x :: Sum.inr (some a) :: st) (nc, ns, I, J, R) = if (eb_ty L a.1).1 = 6 then eb_E L d 177 217 ls (st) (nc, ns, eb_u I a 21 x, J, R) else none := eb_E_iy hk177 rfl
theorem e177_217 {x : Option eb_A} : eb_E L d 177 217 [some (Sum.inr x)] (st) M = eb_E L d 177 218 [some (Sum.inr x)] (Sum.inr x :: st) M := eb_E_s hk177 rfl
theorem e177_218a {x : Int32} : eb_E L d 177 218 ls (zi x :: st) M = eb_E L d 177 219 ls (zi x :: zi x :: st) M := eb_E_s hk177 rfl
theorem e177_218b {x : Option eb_A} : eb_E L d 177 218 ls (Sum.inr x :: st) M = eb_E L d 177 219 ls (Sum.inr x :: Sum.inr x :: st) M := eb_E_s hk177 rfl
theorem e177_219  : eb_E L d 177 219 ls (Sum.inr (some a) :: st) (nc, ns, I, J, R) = if (eb_ty L a.1).1 = 6 then eb_E L d 177 222 ls (zi (I a 18) :: st) (nc, ns, I, J, R) else none := eb_E_iy hk177 rfl
theorem e177_222  : eb_E L d 177 222 ls (st) M = eb_E L d 177 223 ls (zi 1 :: st) M := eb_E_s hk177 rfl
theorem e177_223 {x : Int32} {y : Int32} : eb_E L d 177 223 ls (zi y :: zi x :: st) M = eb_E L d 177 224 ls (zi (x + y) :: st) M := eb_E_s hk177 rfl
theorem e177_224 {x : Int32} : eb_E L d 177 224 ls (zi x :: Sum.inr (some a) :: st) (nc, ns, I, J, R) = if (eb_ty L a.1).1 = 6 then eb_E L d 177 227 ls (st) (nc, ns, eb_u I a 18 x, J, R) else none := eb_E_iy hk177 rfl
theorem e177_227  : eb_E L d 177 227 ls (st) M = eb_E L d 177 149 ls (st) M := eb_E_s hk177 rfl
theorem e177_230 {x : Option eb_A} : eb_E L d 177 230 [some (Sum.inr x)] (st) M = eb_E L d 177 231 [some (Sum.inr x)] (Sum.inr x :: st) M := eb_E_s hk177 rfl
theorem e177_231 {x : Option eb_A} : eb_E L d 177 231 [some (Sum.inr x)] (st) M = eb_E L d 177 232 [some (Sum.inr x)] (Sum.inr x :: st) M := eb_E_s hk177 rfl
theorem e177_232  : eb_E L d 177 232 ls (Sum.inr (some a) :: st) (nc, ns, I, J, R) = if (eb_ty L a.1).1 = 6 then eb_E L d 177 235 ls (Sum.inr (R a 6) :: st) (nc, ns, I, J, R) else none := eb_E_iy hk177 rfl
theorem e177_235 {x : Option eb_A} : eb_E L d 177 235 [some (Sum.inr x)] (st) M = eb_E L d 177 236 [some (Sum.inr x)] (Sum.inr x :: st) M := eb_E_s hk177 rfl
theorem e177_236  : eb_E L d 177 236 ls (Sum.inr (some a) :: st) (nc, ns, I, J, R) = if (eb_ty L a.1).1 = 6 then eb_E L d 177 239 ls (zi (I a 18) :: st) (nc, ns, I, J, R) else none := eb_E_iy hk177 rfl
theorem e177_239 {x : Int32} : eb_E L d 177 239 ls (zi x :: Sum.inr (some a) :: st) (nc, ns, I, J, R) = if (eb_ty L a.1).1 = 10 ∧ eb_in x (eb_ty L a.1).2 = true then eb_E L d 177 240 ls (zi (I a x.toNatClampNeg) :: st) (nc, ns, I, J, R) else none := eb_E_iy hk177 rfl
theorem e177_240  : eb_E L d 177 240 ls (st) M = eb_E L d 177 242 ls (zi 59 :: st) M := eb_E_s hk177 rfl
theorem e177_242 {x : Int32} {y : Int32} : eb_E L d 177 242 ls (zi y :: zi x :: st) M = if x = y then eb_E L d 177 245 ls st M else eb_E L d 177 249 ls st M := eb_E_b hk177 rfl
theorem e177_245  : eb_E L d 177 245 ls (st) M = eb_E L d 177 246 ls (zi 3 :: st) M := eb_E_s hk177 rfl
theorem e177_246  : eb_E L d 177 246 ls (st) M = eb_E L d 177 250 ls (st) M := eb_E_s hk177 rfl
theorem e177_249  : eb_E L d 177 249 ls (st) M = eb_E L d 177 250 ls (zi 4 :: st) M := eb_E_s hk177 rfl
theorem e177_250 {x : Int32} : eb_E L d 177 250 ls (zi x :: Sum.inr (some a) :: st) (nc, ns, I, J, R) = if (eb_ty L a.1).1 = 6 then eb_E L d 177 253 ls (st) (nc, ns, eb_u I a 19 x, J, R) else none := eb_E_iy hk177 rfl
theorem e177_253 {x : Option eb_A} : eb_E L d 177 253 [some (Sum.inr x)] (st) M = eb_E L d 177 254 [some (Sum.inr x)] (Sum.inr x :: st) M := eb_E_s hk177 rfl
theorem e177_254a {x : Int32} : eb_E L d 177 254 ls (zi x :: st) M = eb_E L d 177 255 ls (zi x :: zi x :: st) M := eb_E_s hk177 rfl
theorem e177_254b {x : Option eb_A} : eb_E L d 177 254 ls (Sum.inr x :: st) M = eb_E L d 177 255 ls (Sum.inr x :: Sum.inr x :: st) M := eb_E_s hk177 rfl
theorem e177_255  : eb_E L d 177 255 ls (Sum.inr (some a) :: st) (nc, ns, I, J, R) = if (eb_ty L a.1).1 = 6 then eb_E L d 177 258 ls (zi (I a 18) :: st) (nc, ns, I, J, R) else none := eb_E_iy hk177 rfl
theorem e177_258  : eb_E L d 177 258 ls (st) M = eb_E L d 177 259 ls (zi 1 :: st) M := eb_E_s hk177 rfl
theorem e177_259 {x : Int32} {y : Int32} : eb_E L d 177 259 ls (zi y :: zi x :: st) M = eb_E L d 177 260 ls (zi (x + y) :: st) M := eb_E_s hk177 rfl
theorem e177_260 {x : Int32} : eb_E L d 177 260 ls (zi x :: Sum.inr (some a) :: st) (nc, ns, I, J, R) = if (eb_ty L a.1).1 = 6 then eb_E L d 177 263 ls (st) (nc, ns, eb_u I a 18 x, J, R) else none := eb_E_iy hk177 rfl
theorem e177_263  : eb_E L d 177 263 ls ([]) M = some (zn, M) := eb_E_r hk177 rfl
/-! X6_wrong -/
theorem hk178 : eb_cd L 178 = eb_look (kt178 L) := rfl
theorem h178 (ha : (eb_ty L a.1).1 = 6) : eb_ev L (d + 1) 178 [zr a] M = eb_E L d 178 0 [some (zr a)] [] M := eb_ev_s rfl (eb_chk_i ha rfl)
theorem e178_0 {x : Option eb_A} : eb_E L d 178 0 [some (Sum.inr x)] (st) M = eb_E L d 178 1 [some (Sum.inr x)] (Sum.inr x :: st) M := eb_E_s hk178 rfl
theorem e178_1 {x : Option eb_A} : eb_E L d 178 1 [some (Sum.inr x)] (st) M = eb_E L d 178 2 [some (Sum.inr x)] (Sum.inr x :: st) M := eb_E_s hk178 rfl
theorem e178_2  : eb_E L d 178 2 ls (Sum.inr (some a) :: st) (nc, ns, I, J, R) = if (eb_ty L a.1).1 = 6 then eb_E L d 178 5 ls (zi (I a 20) :: st) (nc, ns, I, J, R) else none := eb_E_iy hk178 rfl
theorem e178_5 {x : Int32} : eb_E L d 178 5 ls (zi x :: Sum.inr (some a) :: st) (nc, ns, I, J, R) = if (eb_ty L a.1).1 = 6 then eb_E L d 178 8 ls (st) (nc, ns, eb_u I a 22 x, J, R) else none := eb_E_iy hk178 rfl
theorem e178_8  : eb_E L d 178 8 ls (st) M = eb_E L d 178 9 ls (zi 0 :: st) M := eb_E_s hk178 rfl
theorem e178_9 {x : Int32} : eb_E L d 178 9 ls ([zi x]) M = if x = 0 ∨ x = 1 then some (zi x, M) else none := eb_E_ri hk178 rfl
/-! X6_isWord -/
theorem hk179 : eb_cd L 179 = eb_look (kt179 L) := rfl
theorem h179 (ha : (eb_ty L a.1).1 = 6) {r1 : Option eb_A} : eb_ev L (d + 1) 179 [zr a, Sum.inr r1] M = eb_E L d 179 0 [some (zr a), some (Sum.inr r1), none] [] M := eb_ev_s rfl (eb_chk_i ha rfl)
theorem e179_0 {x : Option eb_A} : eb_E L d 179 0 [some (Sum.inr x), v1, v2] (st) M = eb_E L d 179 1 [some (Sum.inr x), v1, v2] (Sum.inr x :: st) M := eb_E_s hk179 rfl
theorem e179_1  : eb_E L d 179 1 ls (Sum.inr (some a) :: st) (nc, ns, I, J, R) = if (eb_ty L a.1).1 = 6 then eb_E L d 179 4 ls (zi (I a 19) :: st) (nc, ns, I, J, R) else none := eb_E_iy hk179 rfl
theorem e179_4  : eb_E L d 179 4 ls (st) M = eb_E L d 179 5 ls (zi 1 :: st) M := eb_E_s hk179 rfl
theorem e179_5 {x : Int32} {y : Int32} : eb_E L d 179 5 ls (zi y :: zi x :: st) M = if x = y then eb_E L d 179 8 ls st M else eb_E L d 179 24 ls st M := eb_E_b hk179 rfl
theorem e179_8 {x : Option eb_A} : eb_E L d 179 8 [some (Sum.inr x), v1, v2] (st) M = eb_E L d 179 9 [some (Sum.inr x), v1, v2] (Sum.inr x :: st) M := eb_E_s hk179 rfl
theorem e179_9  : eb_E L d 179 9 ls (Sum.inr (some a) :: st) (nc, ns, I, J, R) = if (eb_ty L a.1).1 = 6 then eb_E L d 179 12 ls (zi (I a 18) :: st) (nc, ns, I, J, R) else none := eb_E_iy hk179 rfl
theorem e179_12 {x : Option eb_A} : eb_E L d 179 12 [some (Sum.inr x), v1, v2] (st) M = eb_E L d 179 13 [some (Sum.inr x), v1, v2] (Sum.inr x :: st) M := eb_E_s hk179 rfl
theorem e179_13  : eb_E L d 179 13 ls (Sum.inr (some a) :: st) (nc, ns, I, J, R) = if (eb_ty L a.1).1 = 6 then eb_E L d 179 16 ls (zi (I a 20) :: st) (nc, ns, I, J, R) else none := eb_E_iy hk179 rfl
theorem e179_16 {x : Int32} {y : Int32} : eb_E L d 179 16 ls (zi y :: zi x :: st) M = eb_E L d 179 17 ls (zi (x - y) :: st) M := eb_E_s hk179 rfl
theorem e179_17 {x : Option eb_A} : eb_E L d 179 17 [v0, some (Sum.inr x), v2] (st) M = eb_E L d 179 18 [v0, some (Sum.inr x), v2] (Sum.inr x :: st) M := eb_E_s hk179 rfl
theorem e179_18 {s0 : Int32} : eb_E L d 179 18 ls ([a0, zi s0]) M = (eb_ev L d 905 [a0] M).bind (fun q => eb_E L d 179 21 ls [q.1, zi s0] q.2) := eb_E_c hk179 rfl
theorem e179_21 {x : Int32} {y : Int32} : eb_E L d 179 21 ls (zi y :: zi x :: st) M = if x = y then eb_E L d 179 26 ls st M else eb_E L d 179 24 ls st M := eb_E_b hk179 rfl
theorem e179_24  : eb_E L d 179 24 ls (st) M = eb_E L d 179 25 ls (zi 0 :: st) M := eb_E_s hk179 rfl
theorem e179_25 {x : Int32} : eb_E L d 179 25 ls ([zi x]) M = if x = 0 ∨ x = 1 then some (zi x, M) else none := eb_E_ri hk179 rfl
theorem e179_26  : eb_E L d 179 26 ls (st) M = eb_E L d 179 27 ls (zi 0 :: st) M := eb_E_s hk179 rfl
theorem e179_27 {x : Int32} : eb_E L d 179 27 [v0, v1, v2] (zi x :: st) M = eb_E L d 179 28 [v0, v1, some (zi x)] (st) M := eb_E_s hk179 rfl
theorem e179_28 {x : Int32} : eb_E L d 179 28 [v0, v1, some (zi x)] (st) M = eb_E L d 179 29 [v0, v1, some (zi x)] (zi x :: st) M := eb_E_s hk179 rfl
theorem e179_29 {x : Option eb_A} : eb_E L d 179 29 [v0, some (Sum.inr x), v2] (st) M = eb_E L d 179 30 [v0, some (Sum.inr x), v2] (Sum.inr x :: st) M := eb_E_s hk179 rfl
theorem e179_30 {s0 : Int32} : eb_E L d 179 30 ls ([a0, zi s0]) M = (eb_ev L d 905 [a0] M).bind (fun q => eb_E L d 179 33 ls [q.1, zi s0] q.2) := eb_E_c hk179 rfl
theorem e179_33 {x : Int32} {y : Int32} : eb_E L d 179 33 ls (zi y :: zi x :: st) M = if x < y then eb_E L d 179 36 ls st M else eb_E L d 179 63 ls st M := eb_E_b hk179 rfl
theorem e179_36 {x : Option eb_A} : eb_E L d 179 36 [some (Sum.inr x), v1, v2] (st) M = eb_E L d 179 37 [some (Sum.inr x), v1, v2] (Sum.inr x :: st) M := eb_E_s hk179 rfl
theorem e179_37  : eb_E L d 179 37 ls (Sum.inr (some a) :: st) (nc, ns, I, J, R) = if (eb_ty L a.1).1 = 6 then eb_E L d 179 40 ls (Sum.inr (R a 6) :: st) (nc, ns, I, J, R) else none := eb_E_iy hk179 rfl
theorem e179_40 {x : Option eb_A} : eb_E L d 179 40 [some (Sum.inr x), v1, v2] (st) M = eb_E L d 179 41 [some (Sum.inr x), v1, v2] (Sum.inr x :: st) M := eb_E_s hk179 rfl
theorem e179_41  : eb_E L d 179 41 ls (Sum.inr (some a) :: st) (nc, ns, I, J, R) = if (eb_ty L a.1).1 = 6 then eb_E L d 179 44 ls (zi (I a 20) :: st) (nc, ns, I, J, R) else none := eb_E_iy hk179 rfl
theorem e179_44 {x : Int32} : eb_E L d 179 44 [v0, v1, some (zi x)] (st) M = eb_E L d 179 45 [v0, v1, some (zi x)] (zi x :: st) M := eb_E_s hk179 rfl
theorem e179_45 {x : Int32} {y : Int32} : eb_E L d 179 45 ls (zi y :: zi x :: st) M = eb_E L d 179 46 ls (zi (x + y) :: st) M := eb_E_s hk179 rfl
theorem e179_46 {x : Int32} : eb_E L d 179 46 ls (zi x :: Sum.inr (some a) :: st) (nc, ns, I, J, R) = if (eb_ty L a.1).1 = 10 ∧ eb_in x (eb_ty L a.1).2 = true then eb_E L d 179 47 ls (zi (I a x.toNatClampNeg) :: st) (nc, ns, I, J, R) else none := eb_E_iy hk179 rfl
theorem e179_47 {x : Option eb_A} : eb_E L d 179 47 [v0, some (Sum.inr x), v2] (st) M = eb_E L d 179 48 [v0, some (Sum.inr x), v2] (Sum.inr x :: st) M := eb_E_s hk179 rfl
theorem e179_48 {x : Int32} : eb_E L d 179 48 [v0, v1, some (zi x)] (st) M = eb_E L d 179 49 [v0, v1, some (zi x)] (zi x :: st) M := eb_E_s hk179 rfl
theorem e179_49 {s0 : Int32} : eb_E L d 179 49 ls ([a1, a0, zi s0]) M = (eb_ev L d 906 [a0, a1] M).bind (fun q => eb_E L d 179 52 ls [q.1, zi s0] q.2) := eb_E_c hk179 rfl
theorem e179_52 {x : Int32} {y : Int32} : eb_E L d 179 52 ls (zi y :: zi x :: st) M = if x = y then eb_E L d 179 57 ls st M else eb_E L d 179 55 ls st M := eb_E_b hk179 rfl
theorem e179_55  : eb_E L d 179 55 ls (st) M = eb_E L d 179 56 ls (zi 0 :: st) M := eb_E_s hk179 rfl
theorem e179_56 {x : Int32} : eb_E L d 179 56 ls ([zi x]) M = if x = 0 ∨ x = 1 then some (zi x, M) else none := eb_E_ri hk179 rfl
theorem e179_57 {x : Int32} : eb_E L d 179 57 [v0, v1, some (zi x)] (st) M = eb_E L d 179 60 [v0, v1, some (zi (x + 1))] (st) M := eb_E_s hk179 rfl
theorem e179_60  : eb_E L d 179 60 ls (st) M = eb_E L d 179 28 ls (st) M := eb_E_s hk179 rfl
theorem e179_63  : eb_E L d 179 63 ls (st) M = eb_E L d 179 64 ls (zi 1 :: st) M := eb_E_s hk179 rfl
theorem e179_64 {x : Int32} : eb_E L d 179 64 ls ([zi x]) M = if x = 0 ∨ x = 1 then some (zi x, M) else none := eb_E_ri hk179 rfl
/-! X6_number -/
theorem hk180 : eb_cd L 180 = eb_look (kt180 L) := rfl
theorem h180 (ha : (eb_ty L a.1).1 = 6) {x1 : Int32} {x2 : Int32} {x3 : Int32} : eb_ev L (d + 1) 180 [zr a, zi x1, zi x2, zi x3] M = eb_E L d 180 0 [some (zr a), some (zi x1), some (zi x2), some (zi x3)] [] M := eb_ev_s rfl (eb_chk_i ha rfl)
theorem e180_0 {x : Option eb_A} : eb_E L d 180 0 [some (Sum.inr x), v1, v2, v3] (st) M = eb_E L d 180 1 [some (Sum.inr x), v1, v2, v3] (Sum.inr x :: st) M := eb_E_s hk180 rfl
theorem e180_1  : eb_E L d 180 1 ls (Sum.inr (some a) :: st) (nc, ns, I, J, R) = if (eb_ty L a.1).1 = 6 then eb_E L d 180 4 ls (zi (I a 19) :: st) (nc, ns, I, J, R) else none := eb_E_iy hk180 rfl
theorem e180_4  : eb_E L d 180 4 ls (st) M = eb_E L d 180 5 ls (zi 2 :: st) M := eb_E_s hk180 rfl
theorem e180_5 {x : Int32} {y : Int32} : eb_E L d 180 5 ls (zi y :: zi x :: st) M = if x = y then eb_E L d 180 8 ls st M else eb_E L d 180 23 ls st M := eb_E_b hk180 rfl
theorem e180_8 {x : Option eb_A} : eb_E L d 180 8 [some (Sum.inr x), v1, v2, v3] (st) M = eb_E L d 180 9 [some (Sum.inr x), v1, v2, v3] (Sum.inr x :: st) M := eb_E_s hk180 rfl
theorem e180_9  : eb_E L d 180 9 ls (Sum.inr (some a) :: st) (nc, ns, I, J, R) = if (eb_ty L a.1).1 = 6 then eb_E L d 180 12 ls (zi (I a 21) :: st) (nc, ns, I, J, R) else none := eb_E_iy hk180 rfl
theorem e180_12 {x : Int32} : eb_E L d 180 12 ls (zi x :: st) M = eb_E L d 180 13 ls (zl x.toInt64 :: st) M := eb_E_s hk180 rfl
theorem e180_13 {x : Int32} : eb_E L d 180 13 [v0, v1, some (zi x), v3] (st) M = eb_E L d 180 14 [v0, v1, some (zi x), v3] (zi x :: st) M := eb_E_s hk180 rfl
theorem e180_14 {x : Int32} : eb_E L d 180 14 ls (zi x :: st) M = eb_E L d 180 15 ls (zl x.toInt64 :: st) M := eb_E_s hk180 rfl
theorem e180_15 {x : Int32} : eb_E L d 180 15 [v0, v1, v2, some (zi x)] (st) M = eb_E L d 180 16 [v0, v1, v2, some (zi x)] (zi x :: st) M := eb_E_s hk180 rfl
theorem e180_16 {x : Int32} : eb_E L d 180 16 ls (zi x :: st) M = eb_E L d 180 17 ls (zl x.toInt64 :: st) M := eb_E_s hk180 rfl
theorem e180_17  : eb_E L d 180 17 ls ([a2, a1, a0]) M = (eb_ev L d 146 [a0, a1, a2] M).bind (fun q => eb_E L d 180 20 ls [q.1] q.2) := eb_E_c hk180 rfl
theorem e180_20 {x : Int32} : eb_E L d 180 20 ls (zi x :: st) M = if x = 0 then eb_E L d 180 23 ls st M else eb_E L d 180 28 ls st M := eb_E_b hk180 rfl
theorem e180_23 {x : Option eb_A} : eb_E L d 180 23 [some (Sum.inr x), v1, v2, v3] (st) M = eb_E L d 180 24 [some (Sum.inr x), v1, v2, v3] (Sum.inr x :: st) M := eb_E_s hk180 rfl
theorem e180_24  : eb_E L d 180 24 ls ([a0]) M = (eb_ev L d 178 [a0] M).bind (fun q => eb_E L d 180 27 ls [q.1] q.2) := eb_E_c hk180 rfl
theorem e180_27 {x : Int32} : eb_E L d 180 27 ls ([zi x]) M = if x = 0 ∨ x = 1 then some (zi x, M) else none := eb_E_ri hk180 rfl
theorem e180_28 {x : Option eb_A} : eb_E L d 180 28 [some (Sum.inr x), v1, v2, v3] (st) M = eb_E L d 180 29 [some (Sum.inr x), v1, v2, v3] (Sum.inr x :: st) M := eb_E_s hk180 rfl
theorem e180_29  : eb_E L d 180 29 ls (Sum.inr (some a) :: st) (nc, ns, I, J, R) = if (eb_ty L a.1).1 = 6 then eb_E L d 180 32 ls (Sum.inr (R a 23) :: st) (nc, ns, I, J, R) else none := eb_E_iy hk180 rfl
theorem e180_32 {x : Int32} : eb_E L d 180 32 [v0, some (zi x), v2, v3] (st) M = eb_E L d 180 33 [v0, some (zi x), v2, v3] (zi x :: st) M := eb_E_s hk180 rfl
theorem e180_33 {x : Option eb_A} : eb_E L d 180 33 [some (Sum.inr x), v1, v2, v3] (st) M = eb_E L d 180 34 [some (Sum.inr x), v1, v2, v3] (Sum.inr x :: st) M := eb_E_s hk180 rfl
theorem e180_34  : eb_E L d 180 34 ls (Sum.inr (some a) :: st) (nc, ns, I, J, R) = if (eb_ty L a.1).1 = 6 then eb_E L d 180 37 ls (zi (I a 21) :: st) (nc, ns, I, J, R) else none := eb_E_iy hk180 rfl
theorem e180_37 {x : Int32} {v : Int32} : eb_E L d 180 37 ls (zi v :: zi x :: Sum.inr (some a) :: st) (nc, ns, I, J, R) = if (eb_ty L a.1).1 = 10 ∧ eb_in x (eb_ty L a.1).2 = true then eb_E L d 180 38 ls (st) (nc, ns, eb_u I a x.toNatClampNeg v, J, R) else none := eb_E_iy hk180 rfl
theorem e180_38 {x : Option eb_A} : eb_E L d 180 38 [some (Sum.inr x), v1, v2, v3] (st) M = eb_E L d 180 39 [some (Sum.inr x), v1, v2, v3] (Sum.inr x :: st) M := eb_E_s hk180 rfl
theorem e180_39  : eb_E L d 180 39 ls ([a0]) M = (eb_ev L d 177 [a0] M).bind (fun q => eb_E L d 180 42 ls [] q.2) := eb_E_c hk180 rfl
theorem e180_42  : eb_E L d 180 42 ls (st) M = eb_E L d 180 43 ls (zi 1 :: st) M := eb_E_s hk180 rfl
theorem e180_43 {x : Int32} : eb_E L d 180 43 ls ([zi x]) M = if x = 0 ∨ x = 1 then some (zi x, M) else none := eb_E_ri hk180 rfl
/-! X6_tells -/
theorem hk181 : eb_cd L 181 = eb_look (kt181 L) := rfl
theorem h181 (ha : (eb_ty L a.1).1 = 6) {x1 : Int32} {x2 : Int32} : eb_ev L (d + 1) 181 [zr a, zi x1, zi x2] M = eb_E L d 181 0 [some (zr a), some (zi x1), some (zi x2)] [] M := eb_ev_s rfl (eb_chk_i ha rfl)
theorem e181_0 {x : Option eb_A} : eb_E L d 181 0 [some (Sum.inr x), v1, v2] (st) M = eb_E L d 181 1 [some (Sum.inr x), v1, v2] (Sum.inr x :: st) M := eb_E_s hk181 rfl
theorem e181_1  : eb_E L d 181 1 ls ([a0]) M = (eb_ev L d 177 [a0] M).bind (fun q => eb_E L d 181 4 ls [] q.2) := eb_E_c hk181 rfl
theorem e181_4 {x : Option eb_A} : eb_E L d 181 4 [some (Sum.inr x), v1, v2] (st) M = eb_E L d 181 5 [some (Sum.inr x), v1, v2] (Sum.inr x :: st) M := eb_E_s hk181 rfl
theorem e181_5  : eb_E L d 181 5 ls (st) M = eb_E L d 181 6 ls (zi 0 :: st) M := eb_E_s hk181 rfl
theorem e181_6 {x : Int32} : eb_E L d 181 6 [v0, some (zi x), v2] (st) M = eb_E L d 181 7 [v0, some (zi x), v2] (zi x :: st) M := eb_E_s hk181 rfl
theorem e181_7 {x : Int32} : eb_E L d 181 7 [v0, v1, some (zi x)] (st) M = eb_E L d 181 8 [v0, v1, some (zi x)] (zi x :: st) M := eb_E_s hk181 rfl
theorem e181_8  : eb_E L d 181 8 ls ([a3, a2, a1, a0]) M = (eb_ev L d 180 [a0, a1, a2, a3] M).bind (fun q => eb_E L d 181 11 ls [q.1] q.2) := eb_E_c hk181 rfl
theorem e181_11 {x : Int32} : eb_E L d 181 11 ls ([zi x]) M = if x = 0 ∨ x = 1 then some (zi x, M) else none := eb_E_ri hk181 rfl
/-! X6_innTold -/
theorem hk182 : eb_cd L 182 = eb_look (kt182 L) := rfl
theorem h182 (ha : (eb_ty L a.1).1 = 6) : eb_ev L (d + 1) 182 [zr a] M = eb_E L d 182 0 [some (zr a), none, none] [] M := eb_ev_s rfl (eb_chk_i ha rfl)
theorem e182_0 {x : Option eb_A} : eb_E L d 182 0 [some (Sum.inr x), v1, v2] (st) M = eb_E L d 182 1 [some (Sum.inr x), v1, v2] (Sum.inr x :: st) M := eb_E_s hk182 rfl
theorem e182_1  : eb_E L d 182 1 ls (st) M = eb_E L d 182 2 ls (zi 0 :: st) M := eb_E_s hk182 rfl
theorem e182_2  : eb_E L d 182 2 ls (st) M = eb_E L d 182 4 ls (zi 100 :: st) M := eb_E_s hk182 rfl
theorem e182_4  : eb_E L d 182 4 ls ([a2, a1, a0]) M = (eb_ev L d 181 [a0, a1, a2] M).bind (fun q => eb_E L d 182 7 ls [q.1] q.2) := eb_E_c hk182 rfl
theorem e182_7 {x : Int32} : eb_E L d 182 7 ls (zi x :: st) M = if x = 0 then eb_E L d 182 32 ls st M else eb_E L d 182 10 ls st M := eb_E_b hk182 rfl
theorem e182_10 {x : Option eb_A} : eb_E L d 182 10 [some (Sum.inr x), v1, v2] (st) M = eb_E L d 182 11 [some (Sum.inr x), v1, v2] (Sum.inr x :: st) M := eb_E_s hk182 rfl
theorem e182_11  : eb_E L d 182 11 ls (st) M = eb_E L d 182 12 ls (zi 1 :: st) M := eb_E_s hk182 rfl
theorem e182_12  : eb_E L d 182 12 ls (st) M = eb_E L d 182 13 ls (zi 1 :: st) M := eb_E_s hk182 rfl
theorem e182_13  : eb_E L d 182 13 ls (st) M = eb_E L d 182 15 ls (zi 20 :: st) M := eb_E_s hk182 rfl
theorem e182_15  : eb_E L d 182 15 ls ([a3, a2, a1, a0]) M = (eb_ev L d 180 [a0, a1, a2, a3] M).bind (fun q => eb_E L d 182 18 ls [q.1] q.2) := eb_E_c hk182 rfl
theorem e182_18 {x : Int32} : eb_E L d 182 18 ls (zi x :: st) M = if x = 0 then eb_E L d 182 32 ls st M else eb_E L d 182 21 ls st M := eb_E_b hk182 rfl
theorem e182_21 {x : Option eb_A} : eb_E L d 182 21 [some (Sum.inr x), v1, v2] (st) M = eb_E L d 182 22 [some (Sum.inr x), v1, v2] (Sum.inr x :: st) M := eb_E_s hk182 rfl
theorem e182_22  : eb_E L d 182 22 ls (st) M = eb_E L d 182 23 ls (zi 2 :: st) M := eb_E_s hk182 rfl
theorem e182_23  : eb_E L d 182 23 ls (st) M = eb_E L d 182 24 ls (zi 0 :: st) M := eb_E_s hk182 rfl
theorem e182_24  : eb_E L d 182 24 ls (st) M = eb_E L d 182 26 ls (zi 99 :: st) M := eb_E_s hk182 rfl
theorem e182_26  : eb_E L d 182 26 ls ([a3, a2, a1, a0]) M = (eb_ev L d 180 [a0, a1, a2, a3] M).bind (fun q => eb_E L d 182 29 ls [q.1] q.2) := eb_E_c hk182 rfl
theorem e182_29 {x : Int32} : eb_E L d 182 29 ls (zi x :: st) M = if x = 0 then eb_E L d 182 32 ls st M else eb_E L d 182 34 ls st M := eb_E_b hk182 rfl
theorem e182_32  : eb_E L d 182 32 ls (st) M = eb_E L d 182 33 ls (zi 0 :: st) M := eb_E_s hk182 rfl
theorem e182_33 {x : Int32} : eb_E L d 182 33 ls ([zi x]) M = if x = 0 ∨ x = 1 then some (zi x, M) else none := eb_E_ri hk182 rfl
theorem e182_34 {x : Option eb_A} : eb_E L d 182 34 [some (Sum.inr x), v1, v2] (st) M = eb_E L d 182 35 [some (Sum.inr x), v1, v2] (Sum.inr x :: st) M := eb_E_s hk182 rfl
theorem e182_35  : eb_E L d 182 35 ls (Sum.inr (some a) :: st) (nc, ns, I, J, R) = if (eb_ty L a.1).1 = 6 then eb_E L d 182 38 ls (Sum.inr (R a 23) :: st) (nc, ns, I, J, R) else none := eb_E_iy hk182 rfl
theorem e182_38  : eb_E L d 182 38 ls (st) M = eb_E L d 182 39 ls (zi 0 :: st) M := eb_E_s hk182 rfl
theorem e182_39 {x : Int32} : eb_E L d 182 39 ls (zi x :: Sum.inr (some a) :: st) (nc, ns, I, J, R) = if (eb_ty L a.1).1 = 10 ∧ eb_in x (eb_ty L a.1).2 = true then eb_E L d 182 40 ls (zi (I a x.toNatClampNeg) :: st) (nc, ns, I, J, R) else none := eb_E_iy hk182 rfl
theorem e182_40 {x : Int32} : eb_E L d 182 40 [v0, v1, v2] (zi x :: st) M = eb_E L d 182 41 [v0, some (zi x), v2] (st) M := eb_E_s hk182 rfl
theorem e182_41  : eb_E L d 182 41 ls (st) M = eb_E L d 182 42 ls (zi (-1) :: st) M := eb_E_s hk182 rfl
theorem e182_42 {x : Int32} : eb_E L d 182 42 [v0, v1, v2] (zi x :: st) M = eb_E L d 182 43 [v0, v1, some (zi x)] (st) M := eb_E_s hk182 rfl
theorem e182_43 {x : Option eb_A} : eb_E L d 182 43 [some (Sum.inr x), v1, v2] (st) M = eb_E L d 182 44 [some (Sum.inr x), v1, v2] (Sum.inr x :: st) M := eb_E_s hk182 rfl
theorem e182_44  : eb_E L d 182 44 ls (st) M = eb_E L d 182 46 ls (zr (50, 11, 0) :: st) M := eb_E_s hk182 rfl
theorem e182_46  : eb_E L d 182 46 ls ([a1, a0]) M = (eb_ev L d 179 [a0, a1] M).bind (fun q => eb_E L d 182 49 ls [q.1] q.2) := eb_E_c hk182 rfl
theorem e182_49 {x : Int32} : eb_E L d 182 49 ls (zi x :: st) M = if x = 0 then eb_E L d 182 71 ls st M else eb_E L d 182 52 ls st M := eb_E_b hk182 rfl
theorem e182_52 {x : Option eb_A} : eb_E L d 182 52 [some (Sum.inr x), v1, v2] (st) M = eb_E L d 182 53 [some (Sum.inr x), v1, v2] (Sum.inr x :: st) M := eb_E_s hk182 rfl
theorem e182_53  : eb_E L d 182 53 ls (st) M = eb_E L d 182 54 ls (zi 0 :: st) M := eb_E_s hk182 rfl
theorem e182_54  : eb_E L d 182 54 ls (st) M = eb_E L d 182 56 ls (zi 100 :: st) M := eb_E_s hk182 rfl
theorem e182_56  : eb_E L d 182 56 ls ([a2, a1, a0]) M = (eb_ev L d 181 [a0, a1, a2] M).bind (fun q => eb_E L d 182 59 ls [q.1] q.2) := eb_E_c hk182 rfl
theorem e182_59 {x : Int32} : eb_E L d 182 59 ls (zi x :: st) M = if x = 0 then eb_E L d 182 62 ls st M else eb_E L d 182 64 ls st M := eb_E_b hk182 rfl
theorem e182_62  : eb_E L d 182 62 ls (st) M = eb_E L d 182 63 ls (zi 0 :: st) M := eb_E_s hk182 rfl
theorem e182_63 {x : Int32} : eb_E L d 182 63 ls ([zi x]) M = if x = 0 ∨ x = 1 then some (zi x, M) else none := eb_E_ri hk182 rfl
theorem e182_64 {x : Option eb_A} : eb_E L d 182 64 [some (Sum.inr x), v1, v2] (st) M = eb_E L d 182 65 [some (Sum.inr x), v1, v2] (Sum.inr x :: st) M := eb_E_s hk182 rfl
theorem e182_65  : eb_E L d 182 65 ls (Sum.inr (some a) :: st) (nc, ns, I, J, R) = if (eb_ty L a.1).1 = 6 then eb_E L d 182 68 ls (Sum.inr (R a 23) :: st) (nc, ns, I, J, R) else none := eb_E_iy hk182 rfl
theorem e182_68  : eb_E L d 182 68 ls (st) M = eb_E L d 182 69 ls (zi 0 :: st) M := eb_E_s hk182 rfl
theorem e182_69 {x : Int32} : eb_E L d 182 69 ls (zi x :: Sum.inr (some a) :: st) (nc, ns, I, J, R) = if (eb_ty L a.1).1 = 10 ∧ eb_in x (eb_ty L a.1).2 = true then eb_E L d 182 70 ls (zi (I a x.toNatClampNeg) :: st) (nc, ns, I, J, R) else none := eb_E_iy hk182 rfl
theorem e182_70 {x : Int32} : eb_E L d 182 70 [v0, v1, v2] (zi x :: st) M = eb_E L d 182 71 [v0, v1, some (zi x)] (st) M := eb_E_s hk182 rfl
theorem e182_71 {x : Option eb_A} : eb_E L d 182 71 [some (Sum.inr x), v1, v2] (st) M = eb_E L d 182 72 [some (Sum.inr x), v1, v2] (Sum.inr x :: st) M := eb_E_s hk182 rfl
theorem e182_72 {x : Int32} : eb_E L d 182 72 [v0, some (zi x), v2] (st) M = eb_E L d 182 73 [v0, some (zi x), v2] (zi x :: st) M := eb_E_s hk182 rfl
theorem e182_73 {x : Option eb_A} : eb_E L d 182 73 [some (Sum.inr x), v1, v2] (st) M = eb_E L d 182 74 [some (Sum.inr x), v1, v2] (Sum.inr x :: st) M := eb_E_s hk182 rfl
theorem e182_74  : eb_E L d 182 74 ls (Sum.inr (some a) :: st) (nc, ns, I, J, R) = if (eb_ty L a.1).1 = 6 then eb_E L d 182 77 ls (Sum.inr (R a 23) :: st) (nc, ns, I, J, R) else none := eb_E_iy hk182 rfl
theorem e182_77  : eb_E L d 182 77 ls (st) M = eb_E L d 182 78 ls (zi 1 :: st) M := eb_E_s hk182 rfl
theorem e182_78 {x : Int32} : eb_E L d 182 78 ls (zi x :: Sum.inr (some a) :: st) (nc, ns, I, J, R) = if (eb_ty L a.1).1 = 10 ∧ eb_in x (eb_ty L a.1).2 = true then eb_E L d 182 79 ls (zi (I a x.toNatClampNeg) :: st) (nc, ns, I, J, R) else none := eb_E_iy hk182 rfl
theorem e182_79 {x : Option eb_A} : eb_E L d 182 79 [some (Sum.inr x), v1, v2] (st) M = eb_E L d 182 80 [some (Sum.inr x), v1, v2] (Sum.inr x :: st) M := eb_E_s hk182 rfl
theorem e182_80  : eb_E L d 182 80 ls (Sum.inr (some a) :: st) (nc, ns, I, J, R) = if (eb_ty L a.1).1 = 6 then eb_E L d 182 83 ls (Sum.inr (R a 23) :: st) (nc, ns, I, J, R) else none := eb_E_iy hk182 rfl
theorem e182_83  : eb_E L d 182 83 ls (st) M = eb_E L d 182 84 ls (zi 2 :: st) M := eb_E_s hk182 rfl
theorem e182_84 {x : Int32} : eb_E L d 182 84 ls (zi x :: Sum.inr (some a) :: st) (nc, ns, I, J, R) = if (eb_ty L a.1).1 = 10 ∧ eb_in x (eb_ty L a.1).2 = true then eb_E L d 182 85 ls (zi (I a x.toNatClampNeg) :: st) (nc, ns, I, J, R) else none := eb_E_iy hk182 rfl
theorem e182_85 {x : Int32} : eb_E L d 182 85 [v0, v1, some (zi x)] (st) M = eb_E L d 182 86 [v0, v1, some (zi x)] (zi x :: st) M := eb_E_s hk182 rfl
theorem e182_86  : eb_E L d 182 86 ls ([a4, a3, a2, a1, a0]) M = (eb_ev L d 161 [a0, a1, a2, a3, a4] M).bind (fun q => eb_E L d 182 89 ls [] q.2) := eb_E_c hk182 rfl
theorem e182_89  : eb_E L d 182 89 ls (st) M = eb_E L d 182 90 ls (zi 1 :: st) M := eb_E_s hk182 rfl
theorem e182_90 {x : Int32} : eb_E L d 182 90 ls ([zi x]) M = if x = 0 ∨ x = 1 then some (zi x, M) else none := eb_E_ri hk182 rfl
/-! X6_letterTold -/
theorem hk183 : eb_cd L 183 = eb_look (kt183 L) := rfl
theorem h183 (ha : (eb_ty L a.1).1 = 6) : eb_ev L (d + 1) 183 [zr a] M = eb_E L d 183 0 [some (zr a)] [] M := eb_ev_s rfl (eb_chk_i ha rfl)
theorem e183_0 {x : Option eb_A} : eb_E L d 183 0 [some (Sum.inr x)] (st) M = eb_E L d 183 1 [some (Sum.inr x)] (Sum.inr x :: st) M := eb_E_s hk183 rfl
theorem e183_1  : eb_E L d 183 1 ls ([a0]) M = (eb_ev L d 177 [a0] M).bind (fun q => eb_E L d 183 4 ls [] q.2) := eb_E_c hk183 rfl
theorem e183_4 {x : Option eb_A} : eb_E L d 183 4 [some (Sum.inr x)] (st) M = eb_E L d 183 5 [some (Sum.inr x)] (Sum.inr x :: st) M := eb_E_s hk183 rfl
theorem e183_5  : eb_E L d 183 5 ls (Sum.inr (some a) :: st) (nc, ns, I, J, R) = if (eb_ty L a.1).1 = 6 then eb_E L d 183 8 ls (zi (I a 19) :: st) (nc, ns, I, J, R) else none := eb_E_iy hk183 rfl
theorem e183_8  : eb_E L d 183 8 ls (st) M = eb_E L d 183 9 ls (zi 2 :: st) M := eb_E_s hk183 rfl
theorem e183_9 {x : Int32} {y : Int32} : eb_E L d 183 9 ls (zi y :: zi x :: st) M = if x = y then eb_E L d 183 12 ls st M else eb_E L d 183 44 ls st M := eb_E_b hk183 rfl
theorem e183_12 {x : Option eb_A} : eb_E L d 183 12 [some (Sum.inr x)] (st) M = eb_E L d 183 13 [some (Sum.inr x)] (Sum.inr x :: st) M := eb_E_s hk183 rfl
theorem e183_13  : eb_E L d 183 13 ls (Sum.inr (some a) :: st) (nc, ns, I, J, R) = if (eb_ty L a.1).1 = 6 then eb_E L d 183 16 ls (zi (I a 21) :: st) (nc, ns, I, J, R) else none := eb_E_iy hk183 rfl
theorem e183_16 {x : Option eb_A} : eb_E L d 183 16 [some (Sum.inr x)] (st) M = eb_E L d 183 17 [some (Sum.inr x)] (Sum.inr x :: st) M := eb_E_s hk183 rfl
theorem e183_17  : eb_E L d 183 17 ls (Sum.inr (some a) :: st) (nc, ns, I, J, R) = if (eb_ty L a.1).1 = 6 then eb_E L d 183 20 ls (zi (I a 9) :: st) (nc, ns, I, J, R) else none := eb_E_iy hk183 rfl
theorem e183_20 {x : Int32} {y : Int32} : eb_E L d 183 20 ls (zi y :: zi x :: st) M = if x < y then eb_E L d 183 23 ls st M else eb_E L d 183 44 ls st M := eb_E_b hk183 rfl
theorem e183_23 {x : Option eb_A} : eb_E L d 183 23 [some (Sum.inr x)] (st) M = eb_E L d 183 24 [some (Sum.inr x)] (Sum.inr x :: st) M := eb_E_s hk183 rfl
theorem e183_24  : eb_E L d 183 24 ls (Sum.inr (some a) :: st) (nc, ns, I, J, R) = if (eb_ty L a.1).1 = 6 then eb_E L d 183 27 ls (Sum.inr (R a 10) :: st) (nc, ns, I, J, R) else none := eb_E_iy hk183 rfl
theorem e183_27 {x : Option eb_A} : eb_E L d 183 27 [some (Sum.inr x)] (st) M = eb_E L d 183 28 [some (Sum.inr x)] (Sum.inr x :: st) M := eb_E_s hk183 rfl
theorem e183_28  : eb_E L d 183 28 ls (Sum.inr (some a) :: st) (nc, ns, I, J, R) = if (eb_ty L a.1).1 = 6 then eb_E L d 183 31 ls (zi (I a 21) :: st) (nc, ns, I, J, R) else none := eb_E_iy hk183 rfl
theorem e183_31 {x : Int32} : eb_E L d 183 31 ls (zi x :: Sum.inr (some a) :: st) (nc, ns, I, J, R) = if (12 ≤ (eb_ty L a.1).1 ∧ (eb_ty L a.1).1 ≤ 16) ∧ eb_in x (eb_ty L a.1).2 = true then eb_E L d 183 32 ls (Sum.inr (R a x.toNatClampNeg) :: st) (nc, ns, I, J, R) else none := eb_E_iy hk183 rfl
theorem e183_32  : eb_E L d 183 32 ls (st) M = eb_E L d 183 33 ls (zi 5 :: st) M := eb_E_s hk183 rfl
theorem e183_33 {x : Int32} : eb_E L d 183 33 ls (zi x :: Sum.inr (some a) :: st) (nc, ns, I, J, R) = if (eb_ty L a.1).1 = 10 ∧ eb_in x (eb_ty L a.1).2 = true then eb_E L d 183 34 ls (zi (I a x.toNatClampNeg) :: st) (nc, ns, I, J, R) else none := eb_E_iy hk183 rfl
theorem e183_34  : eb_E L d 183 34 ls (st) M = eb_E L d 183 36 ls (zi 99 :: st) M := eb_E_s hk183 rfl
theorem e183_36 {x : Int32} {y : Int32} : eb_E L d 183 36 ls (zi y :: zi x :: st) M = if x = y then eb_E L d 183 39 ls st M else eb_E L d 183 44 ls st M := eb_E_b hk183 rfl
theorem e183_39 {x : Option eb_A} : eb_E L d 183 39 [some (Sum.inr x)] (st) M = eb_E L d 183 40 [some (Sum.inr x)] (Sum.inr x :: st) M := eb_E_s hk183 rfl
theorem e183_40  : eb_E L d 183 40 ls ([a0]) M = (eb_ev L d 178 [a0] M).bind (fun q => eb_E L d 183 43 ls [q.1] q.2) := eb_E_c hk183 rfl
theorem e183_43 {x : Int32} : eb_E L d 183 43 ls ([zi x]) M = if x = 0 ∨ x = 1 then some (zi x, M) else none := eb_E_ri hk183 rfl
theorem e183_44 {x : Option eb_A} : eb_E L d 183 44 [some (Sum.inr x)] (st) M = eb_E L d 183 45 [some (Sum.inr x)] (Sum.inr x :: st) M := eb_E_s hk183 rfl
theorem e183_45  : eb_E L d 183 45 ls (st) M = eb_E L d 183 46 ls (zi 0 :: st) M := eb_E_s hk183 rfl
theorem e183_46  : eb_E L d 183 46 ls (st) M = eb_E L d 183 47 ls (zi 0 :: st) M := eb_E_s hk183 rfl
theorem e183_47 {x : Option eb_A} : eb_E L d 183 47 [some (Sum.inr x)] (st) M = eb_E L d 183 48 [some (Sum.inr x)] (Sum.inr x :: st) M := eb_E_s hk183 rfl
theorem e183_48  : eb_E L d 183 48 ls (Sum.inr (some a) :: st) (nc, ns, I, J, R) = if (eb_ty L a.1).1 = 6 then eb_E L d 183 51 ls (zi (I a 9) :: st) (nc, ns, I, J, R) else none := eb_E_iy hk183 rfl
theorem e183_51  : eb_E L d 183 51 ls (st) M = eb_E L d 183 52 ls (zi 1 :: st) M := eb_E_s hk183 rfl
theorem e183_52 {x : Int32} {y : Int32} : eb_E L d 183 52 ls (zi y :: zi x :: st) M = eb_E L d 183 53 ls (zi (x - y) :: st) M := eb_E_s hk183 rfl
theorem e183_53  : eb_E L d 183 53 ls ([a3, a2, a1, a0]) M = (eb_ev L d 180 [a0, a1, a2, a3] M).bind (fun q => eb_E L d 183 56 ls [q.1] q.2) := eb_E_c hk183 rfl
theorem e183_56 {x : Int32} : eb_E L d 183 56 ls (zi x :: st) M = if x = 0 then eb_E L d 183 70 ls st M else eb_E L d 183 59 ls st M := eb_E_b hk183 rfl
theorem e183_59 {x : Option eb_A} : eb_E L d 183 59 [some (Sum.inr x)] (st) M = eb_E L d 183 60 [some (Sum.inr x)] (Sum.inr x :: st) M := eb_E_s hk183 rfl
theorem e183_60  : eb_E L d 183 60 ls (st) M = eb_E L d 183 61 ls (zi 1 :: st) M := eb_E_s hk183 rfl
theorem e183_61  : eb_E L d 183 61 ls (st) M = eb_E L d 183 62 ls (zi 0 :: st) M := eb_E_s hk183 rfl
theorem e183_62  : eb_E L d 183 62 ls (st) M = eb_E L d 183 64 ls (zi 100 :: st) M := eb_E_s hk183 rfl
theorem e183_64  : eb_E L d 183 64 ls ([a3, a2, a1, a0]) M = (eb_ev L d 180 [a0, a1, a2, a3] M).bind (fun q => eb_E L d 183 67 ls [q.1] q.2) := eb_E_c hk183 rfl
theorem e183_67 {x : Int32} : eb_E L d 183 67 ls (zi x :: st) M = if x = 0 then eb_E L d 183 70 ls st M else eb_E L d 183 72 ls st M := eb_E_b hk183 rfl
theorem e183_70  : eb_E L d 183 70 ls (st) M = eb_E L d 183 71 ls (zi 0 :: st) M := eb_E_s hk183 rfl
theorem e183_71 {x : Int32} : eb_E L d 183 71 ls ([zi x]) M = if x = 0 ∨ x = 1 then some (zi x, M) else none := eb_E_ri hk183 rfl
theorem e183_72 {x : Option eb_A} : eb_E L d 183 72 [some (Sum.inr x)] (st) M = eb_E L d 183 73 [some (Sum.inr x)] (Sum.inr x :: st) M := eb_E_s hk183 rfl
theorem e183_73 {x : Option eb_A} : eb_E L d 183 73 [some (Sum.inr x)] (st) M = eb_E L d 183 74 [some (Sum.inr x)] (Sum.inr x :: st) M := eb_E_s hk183 rfl
theorem e183_74  : eb_E L d 183 74 ls (Sum.inr (some a) :: st) (nc, ns, I, J, R) = if (eb_ty L a.1).1 = 6 then eb_E L d 183 77 ls (Sum.inr (R a 23) :: st) (nc, ns, I, J, R) else none := eb_E_iy hk183 rfl
theorem e183_77  : eb_E L d 183 77 ls (st) M = eb_E L d 183 78 ls (zi 0 :: st) M := eb_E_s hk183 rfl
theorem e183_78 {x : Int32} : eb_E L d 183 78 ls (zi x :: Sum.inr (some a) :: st) (nc, ns, I, J, R) = if (eb_ty L a.1).1 = 10 ∧ eb_in x (eb_ty L a.1).2 = true then eb_E L d 183 79 ls (zi (I a x.toNatClampNeg) :: st) (nc, ns, I, J, R) else none := eb_E_iy hk183 rfl
theorem e183_79 {x : Option eb_A} : eb_E L d 183 79 [some (Sum.inr x)] (st) M = eb_E L d 183 80 [some (Sum.inr x)] (Sum.inr x :: st) M := eb_E_s hk183 rfl
theorem e183_80  : eb_E L d 183 80 ls (Sum.inr (some a) :: st) (nc, ns, I, J, R) = if (eb_ty L a.1).1 = 6 then eb_E L d 183 83 ls (Sum.inr (R a 23) :: st) (nc, ns, I, J, R) else none := eb_E_iy hk183 rfl
theorem e183_83  : eb_E L d 183 83 ls (st) M = eb_E L d 183 84 ls (zi 1 :: st) M := eb_E_s hk183 rfl
theorem e183_84 {x : Int32} : eb_E L d 183 84 ls (zi x :: Sum.inr (some a) :: st) (nc, ns, I, J, R) = if (eb_ty L a.1).1 = 10 ∧ eb_in x (eb_ty L a.1).2 = true then eb_E L d 183 85 ls (zi (I a x.toNatClampNeg) :: st) (nc, ns, I, J, R) else none := eb_E_iy hk183 rfl
theorem e183_85  : eb_E L d 183 85 ls ([a2, a1, a0]) M = (eb_ev L d 169 [a0, a1, a2] M).bind (fun q => eb_E L d 183 88 ls [] q.2) := eb_E_c hk183 rfl
theorem e183_88  : eb_E L d 183 88 ls (st) M = eb_E L d 183 89 ls (zi 1 :: st) M := eb_E_s hk183 rfl
theorem e183_89 {x : Int32} : eb_E L d 183 89 ls ([zi x]) M = if x = 0 ∨ x = 1 then some (zi x, M) else none := eb_E_ri hk183 rfl
/-! X6_writeTold -/
theorem hk184 : eb_cd L 184 = eb_look (kt184 L) := rfl
theorem h184 (ha : (eb_ty L a.1).1 = 6) : eb_ev L (d + 1) 184 [zr a] M = eb_E L d 184 0 [some (zr a), none, none] [] M := eb_ev_s rfl (eb_chk_i ha rfl)
theorem e184_0 {x : Option eb_A} : eb_E L d 184 0 [some (Sum.inr x), v1, v2] (st) M = eb_E L d 184 1 [some (Sum.inr x), v1, v2] (Sum.inr x :: st) M := eb_E_s hk184 rfl
theorem e184_1  : eb_E L d 184 1 ls ([a0]) M = (eb_ev L d 177 [a0] M).bind (fun q => eb_E L d 184 4 ls [] q.2) := eb_E_c hk184 rfl
theorem e184_4  : eb_E L d 184 4 ls (st) M = eb_E L d 184 5 ls (zi 0 :: st) M := eb_E_s hk184 rfl
theorem e184_5 {x : Int32} : eb_E L d 184 5 [v0, v1, v2] (zi x :: st) M = eb_E L d 184 6 [v0, some (zi x), v2] (st) M := eb_E_s hk184 rfl
theorem e184_6  : eb_E L d 184 6 ls (st) M = eb_E L d 184 7 ls (zi 1 :: st) M := eb_E_s hk184 rfl
theorem e184_7 {x : Int32} : eb_E L d 184 7 [v0, v1, v2] (zi x :: st) M = eb_E L d 184 8 [v0, v1, some (zi x)] (st) M := eb_E_s hk184 rfl
theorem e184_8 {x : Int32} : eb_E L d 184 8 [v0, v1, some (zi x)] (st) M = eb_E L d 184 9 [v0, v1, some (zi x)] (zi x :: st) M := eb_E_s hk184 rfl
theorem e184_9 {x : Int32} : eb_E L d 184 9 ls (zi x :: st) M = if x = 0 then eb_E L d 184 12 ls st M else eb_E L d 184 20 ls st M := eb_E_b hk184 rfl
theorem e184_12 {x : Option eb_A} : eb_E L d 184 12 [some (Sum.inr x), v1, v2] (st) M = eb_E L d 184 13 [some (Sum.inr x), v1, v2] (Sum.inr x :: st) M := eb_E_s hk184 rfl
theorem e184_13  : eb_E L d 184 13 ls (Sum.inr (some a) :: st) (nc, ns, I, J, R) = if (eb_ty L a.1).1 = 6 then eb_E L d 184 16 ls (zi (I a 19) :: st) (nc, ns, I, J, R) else none := eb_E_iy hk184 rfl
theorem e184_16  : eb_E L d 184 16 ls (st) M = eb_E L d 184 17 ls (zi 2 :: st) M := eb_E_s hk184 rfl
theorem e184_17 {x : Int32} {y : Int32} : eb_E L d 184 17 ls (zi y :: zi x :: st) M = if x = y then eb_E L d 184 20 ls st M else eb_E L d 184 86 ls st M := eb_E_b hk184 rfl
theorem e184_20  : eb_E L d 184 20 ls (st) M = eb_E L d 184 21 ls (zi 0 :: st) M := eb_E_s hk184 rfl
theorem e184_21 {x : Int32} : eb_E L d 184 21 [v0, v1, v2] (zi x :: st) M = eb_E L d 184 22 [v0, v1, some (zi x)] (st) M := eb_E_s hk184 rfl
theorem e184_22 {x : Option eb_A} : eb_E L d 184 22 [some (Sum.inr x), v1, v2] (st) M = eb_E L d 184 23 [some (Sum.inr x), v1, v2] (Sum.inr x :: st) M := eb_E_s hk184 rfl
theorem e184_23  : eb_E L d 184 23 ls (Sum.inr (some a) :: st) (nc, ns, I, J, R) = if (eb_ty L a.1).1 = 6 then eb_E L d 184 26 ls (zi (I a 19) :: st) (nc, ns, I, J, R) else none := eb_E_iy hk184 rfl
theorem e184_26  : eb_E L d 184 26 ls (st) M = eb_E L d 184 27 ls (zi 2 :: st) M := eb_E_s hk184 rfl
theorem e184_27 {x : Int32} {y : Int32} : eb_E L d 184 27 ls (zi y :: zi x :: st) M = if x = y then eb_E L d 184 30 ls st M else eb_E L d 184 52 ls st M := eb_E_b hk184 rfl
theorem e184_30 {x : Option eb_A} : eb_E L d 184 30 [some (Sum.inr x), v1, v2] (st) M = eb_E L d 184 31 [some (Sum.inr x), v1, v2] (Sum.inr x :: st) M := eb_E_s hk184 rfl
theorem e184_31  : eb_E L d 184 31 ls (Sum.inr (some a) :: st) (nc, ns, I, J, R) = if (eb_ty L a.1).1 = 6 then eb_E L d 184 34 ls (zi (I a 21) :: st) (nc, ns, I, J, R) else none := eb_E_iy hk184 rfl
theorem e184_34 {x : Option eb_A} : eb_E L d 184 34 [some (Sum.inr x), v1, v2] (st) M = eb_E L d 184 35 [some (Sum.inr x), v1, v2] (Sum.inr x :: st) M := eb_E_s hk184 rfl
theorem e184_35  : eb_E L d 184 35 ls (Sum.inr (some a) :: st) (nc, ns, I, J, R) = if (eb_ty L a.1).1 = 6 then eb_E L d 184 38 ls (zi (I a 9) :: st) (nc, ns, I, J, R) else none := eb_E_iy hk184 rfl
theorem e184_38 {x : Int32} {y : Int32} : eb_E L d 184 38 ls (zi y :: zi x :: st) M = if x < y then eb_E L d 184 41 ls st M else eb_E L d 184 52 ls st M := eb_E_b hk184 rfl
theorem e184_41 {x : Int32} : eb_E L d 184 41 [v0, some (zi x), v2] (st) M = eb_E L d 184 42 [v0, some (zi x), v2] (zi x :: st) M := eb_E_s hk184 rfl
theorem e184_42 {x : Option eb_A} : eb_E L d 184 42 [some (Sum.inr x), v1, v2] (st) M = eb_E L d 184 43 [some (Sum.inr x), v1, v2] (Sum.inr x :: st) M := eb_E_s hk184 rfl
theorem e184_43  : eb_E L d 184 43 ls (Sum.inr (some a) :: st) (nc, ns, I, J, R) = if (eb_ty L a.1).1 = 6 then eb_E L d 184 46 ls (zi (I a 21) :: st) (nc, ns, I, J, R) else none := eb_E_iy hk184 rfl
theorem e184_46 {x : Int32} {y : Int32} : eb_E L d 184 46 ls (zi y :: zi x :: st) M = eb_E L d 184 47 ls (zi (x >>> (y &&& 31)) :: st) M := eb_E_s hk184 rfl
theorem e184_47  : eb_E L d 184 47 ls (st) M = eb_E L d 184 48 ls (zi 1 :: st) M := eb_E_s hk184 rfl
theorem e184_48 {x : Int32} {y : Int32} : eb_E L d 184 48 ls (zi y :: zi x :: st) M = eb_E L d 184 49 ls (zi (x &&& y) :: st) M := eb_E_s hk184 rfl
theorem e184_49 {x : Int32} : eb_E L d 184 49 ls (zi x :: st) M = if x = 0 then eb_E L d 184 52 ls st M else eb_E L d 184 67 ls st M := eb_E_b hk184 rfl
theorem e184_52 {x : Option eb_A} : eb_E L d 184 52 [some (Sum.inr x), v1, v2] (st) M = eb_E L d 184 53 [some (Sum.inr x), v1, v2] (Sum.inr x :: st) M := eb_E_s hk184 rfl
theorem e184_53  : eb_E L d 184 53 ls (st) M = eb_E L d 184 54 ls (zi 0 :: st) M := eb_E_s hk184 rfl
theorem e184_54  : eb_E L d 184 54 ls (st) M = eb_E L d 184 55 ls (zi 0 :: st) M := eb_E_s hk184 rfl
theorem e184_55 {x : Option eb_A} : eb_E L d 184 55 [some (Sum.inr x), v1, v2] (st) M = eb_E L d 184 56 [some (Sum.inr x), v1, v2] (Sum.inr x :: st) M := eb_E_s hk184 rfl
theorem e184_56  : eb_E L d 184 56 ls (Sum.inr (some a) :: st) (nc, ns, I, J, R) = if (eb_ty L a.1).1 = 6 then eb_E L d 184 59 ls (zi (I a 9) :: st) (nc, ns, I, J, R) else none := eb_E_iy hk184 rfl
theorem e184_59  : eb_E L d 184 59 ls (st) M = eb_E L d 184 60 ls (zi 1 :: st) M := eb_E_s hk184 rfl
theorem e184_60 {x : Int32} {y : Int32} : eb_E L d 184 60 ls (zi y :: zi x :: st) M = eb_E L d 184 61 ls (zi (x - y) :: st) M := eb_E_s hk184 rfl
theorem e184_61  : eb_E L d 184 61 ls ([a3, a2, a1, a0]) M = (eb_ev L d 180 [a0, a1, a2, a3] M).bind (fun q => eb_E L d 184 64 ls [q.1] q.2) := eb_E_c hk184 rfl
theorem e184_64 {x : Int32} : eb_E L d 184 64 ls (zi x :: st) M = if x = 0 then eb_E L d 184 67 ls st M else eb_E L d 184 72 ls st M := eb_E_b hk184 rfl
theorem e184_67 {x : Option eb_A} : eb_E L d 184 67 [some (Sum.inr x), v1, v2] (st) M = eb_E L d 184 68 [some (Sum.inr x), v1, v2] (Sum.inr x :: st) M := eb_E_s hk184 rfl
theorem e184_68  : eb_E L d 184 68 ls ([a0]) M = (eb_ev L d 178 [a0] M).bind (fun q => eb_E L d 184 71 ls [q.1] q.2) := eb_E_c hk184 rfl
theorem e184_71 {x : Int32} : eb_E L d 184 71 ls ([zi x]) M = if x = 0 ∨ x = 1 then some (zi x, M) else none := eb_E_ri hk184 rfl
theorem e184_72 {x : Int32} : eb_E L d 184 72 [v0, some (zi x), v2] (st) M = eb_E L d 184 73 [v0, some (zi x), v2] (zi x :: st) M := eb_E_s hk184 rfl
theorem e184_73  : eb_E L d 184 73 ls (st) M = eb_E L d 184 74 ls (zi 1 :: st) M := eb_E_s hk184 rfl
theorem e184_74 {x : Option eb_A} : eb_E L d 184 74 [some (Sum.inr x), v1, v2] (st) M = eb_E L d 184 75 [some (Sum.inr x), v1, v2] (Sum.inr x :: st) M := eb_E_s hk184 rfl
theorem e184_75  : eb_E L d 184 75 ls (Sum.inr (some a) :: st) (nc, ns, I, J, R) = if (eb_ty L a.1).1 = 6 then eb_E L d 184 78 ls (Sum.inr (R a 23) :: st) (nc, ns, I, J, R) else none := eb_E_iy hk184 rfl
theorem e184_78  : eb_E L d 184 78 ls (st) M = eb_E L d 184 79 ls (zi 0 :: st) M := eb_E_s hk184 rfl
theorem e184_79 {x : Int32} : eb_E L d 184 79 ls (zi x :: Sum.inr (some a) :: st) (nc, ns, I, J, R) = if (eb_ty L a.1).1 = 10 ∧ eb_in x (eb_ty L a.1).2 = true then eb_E L d 184 80 ls (zi (I a x.toNatClampNeg) :: st) (nc, ns, I, J, R) else none := eb_E_iy hk184 rfl
theorem e184_80 {x : Int32} {y : Int32} : eb_E L d 184 80 ls (zi y :: zi x :: st) M = eb_E L d 184 81 ls (zi (x <<< (y &&& 31)) :: st) M := eb_E_s hk184 rfl
theorem e184_81 {x : Int32} {y : Int32} : eb_E L d 184 81 ls (zi y :: zi x :: st) M = eb_E L d 184 82 ls (zi (x ||| y) :: st) M := eb_E_s hk184 rfl
theorem e184_82 {x : Int32} : eb_E L d 184 82 [v0, v1, v2] (zi x :: st) M = eb_E L d 184 83 [v0, some (zi x), v2] (st) M := eb_E_s hk184 rfl
theorem e184_83  : eb_E L d 184 83 ls (st) M = eb_E L d 184 8 ls (st) M := eb_E_s hk184 rfl
theorem e184_86 {x : Option eb_A} : eb_E L d 184 86 [some (Sum.inr x), v1, v2] (st) M = eb_E L d 184 87 [some (Sum.inr x), v1, v2] (Sum.inr x :: st) M := eb_E_s hk184 rfl
theorem e184_87 {x : Int32} : eb_E L d 184 87 [v0, some (zi x), v2] (st) M = eb_E L d 184 88 [v0, some (zi x), v2] (zi x :: st) M := eb_E_s hk184 rfl
theorem e184_88  : eb_E L d 184 88 ls ([a1, a0]) M = (eb_ev L d 166 [a0, a1] M).bind (fun q => eb_E L d 184 91 ls [q.1] q.2) := eb_E_c hk184 rfl
theorem e184_91a {x : Int32} : eb_E L d 184 91 ls (zi x :: st) M = eb_E L d 184 92 ls (st) M := eb_E_s hk184 rfl
theorem e184_91b {x : Option eb_A} : eb_E L d 184 91 ls (Sum.inr x :: st) M = eb_E L d 184 92 ls (st) M := eb_E_s hk184 rfl
theorem e184_92  : eb_E L d 184 92 ls (st) M = eb_E L d 184 93 ls (zi 1 :: st) M := eb_E_s hk184 rfl
theorem e184_93 {x : Int32} : eb_E L d 184 93 ls ([zi x]) M = if x = 0 ∨ x = 1 then some (zi x, M) else none := eb_E_ri hk184 rfl
/-! X6_statement -/
theorem hk185 : eb_cd L 185 = eb_look (kt185 L) := rfl
theorem h185 (ha : (eb_ty L a.1).1 = 6) : eb_ev L (d + 1) 185 [zr a] M = eb_E L d 185 0 [some (zr a)] [] M := eb_ev_s rfl (eb_chk_i ha rfl)
theorem e185_0 {x : Option eb_A} : eb_E L d 185 0 [some (Sum.inr x)] (st) M = eb_E L d 185 1 [some (Sum.inr x)] (Sum.inr x :: st) M := eb_E_s hk185 rfl
theorem e185_1  : eb_E L d 185 1 ls (st) M = eb_E L d 185 3 ls (zr (50, 6, 0) :: st) M := eb_E_s hk185 rfl
theorem e185_3  : eb_E L d 185 3 ls ([a1, a0]) M = (eb_ev L d 179 [a0, a1] M).bind (fun q => eb_E L d 185 6 ls [q.1] q.2) := eb_E_c hk185 rfl
theorem e185_6 {x : Int32} : eb_E L d 185 6 ls (zi x :: st) M = if x = 0 then eb_E L d 185 23 ls st M else eb_E L d 185 9 ls st M := eb_E_b hk185 rfl
theorem e185_9 {x : Option eb_A} : eb_E L d 185 9 [some (Sum.inr x)] (st) M = eb_E L d 185 10 [some (Sum.inr x)] (Sum.inr x :: st) M := eb_E_s hk185 rfl
theorem e185_10  : eb_E L d 185 10 ls (Sum.inr (some a) :: st) (nc, ns, I, J, R) = if (eb_ty L a.1).1 = 6 then eb_E L d 185 13 ls (zi (I a 9) :: st) (nc, ns, I, J, R) else none := eb_E_iy hk185 rfl
theorem e185_13  : eb_E L d 185 13 ls (st) M = eb_E L d 185 15 ls (zi 6 :: st) M := eb_E_s hk185 rfl
theorem e185_15 {x : Int32} {y : Int32} : eb_E L d 185 15 ls (zi y :: zi x :: st) M = if x < y then eb_E L d 185 18 ls st M else eb_E L d 185 23 ls st M := eb_E_b hk185 rfl
theorem e185_18 {x : Option eb_A} : eb_E L d 185 18 [some (Sum.inr x)] (st) M = eb_E L d 185 19 [some (Sum.inr x)] (Sum.inr x :: st) M := eb_E_s hk185 rfl
theorem e185_19  : eb_E L d 185 19 ls ([a0]) M = (eb_ev L d 182 [a0] M).bind (fun q => eb_E L d 185 22 ls [q.1] q.2) := eb_E_c hk185 rfl
theorem e185_22 {x : Int32} : eb_E L d 185 22 ls ([zi x]) M = if x = 0 ∨ x = 1 then some (zi x, M) else none := eb_E_ri hk185 rfl
theorem e185_23 {x : Option eb_A} : eb_E L d 185 23 [some (Sum.inr x)] (st) M = eb_E L d 185 24 [some (Sum.inr x)] (Sum.inr x :: st) M := eb_E_s hk185 rfl
theorem e185_24  : eb_E L d 185 24 ls (st) M = eb_E L d 185 26 ls (zr (50, 7, 0) :: st) M := eb_E_s hk185 rfl
theorem e185_26  : eb_E L d 185 26 ls ([a1, a0]) M = (eb_ev L d 179 [a0, a1] M).bind (fun q => eb_E L d 185 29 ls [q.1] q.2) := eb_E_c hk185 rfl
theorem e185_29 {x : Int32} : eb_E L d 185 29 ls (zi x :: st) M = if x = 0 then eb_E L d 185 99 ls st M else eb_E L d 185 32 ls st M := eb_E_b hk185 rfl
theorem e185_32 {x : Option eb_A} : eb_E L d 185 32 [some (Sum.inr x)] (st) M = eb_E L d 185 33 [some (Sum.inr x)] (Sum.inr x :: st) M := eb_E_s hk185 rfl
theorem e185_33  : eb_E L d 185 33 ls (Sum.inr (some a) :: st) (nc, ns, I, J, R) = if (eb_ty L a.1).1 = 6 then eb_E L d 185 36 ls (zi (I a 11) :: st) (nc, ns, I, J, R) else none := eb_E_iy hk185 rfl
theorem e185_36  : eb_E L d 185 36 ls (st) M = eb_E L d 185 38 ls (zi 6 :: st) M := eb_E_s hk185 rfl
theorem e185_38 {x : Int32} {y : Int32} : eb_E L d 185 38 ls (zi y :: zi x :: st) M = if x < y then eb_E L d 185 41 ls st M else eb_E L d 185 99 ls st M := eb_E_b hk185 rfl
theorem e185_41 {x : Option eb_A} : eb_E L d 185 41 [some (Sum.inr x)] (st) M = eb_E L d 185 42 [some (Sum.inr x)] (Sum.inr x :: st) M := eb_E_s hk185 rfl
theorem e185_42  : eb_E L d 185 42 ls (st) M = eb_E L d 185 43 ls (zi 0 :: st) M := eb_E_s hk185 rfl
theorem e185_43  : eb_E L d 185 43 ls (st) M = eb_E L d 185 44 ls (zi 5 :: st) M := eb_E_s hk185 rfl
theorem e185_44  : eb_E L d 185 44 ls ([a2, a1, a0]) M = (eb_ev L d 181 [a0, a1, a2] M).bind (fun q => eb_E L d 185 47 ls [q.1] q.2) := eb_E_c hk185 rfl
theorem e185_47 {x : Int32} : eb_E L d 185 47 ls (zi x :: st) M = if x = 0 then eb_E L d 185 72 ls st M else eb_E L d 185 50 ls st M := eb_E_b hk185 rfl
theorem e185_50 {x : Option eb_A} : eb_E L d 185 50 [some (Sum.inr x)] (st) M = eb_E L d 185 51 [some (Sum.inr x)] (Sum.inr x :: st) M := eb_E_s hk185 rfl
theorem e185_51  : eb_E L d 185 51 ls (st) M = eb_E L d 185 52 ls (zi 1 :: st) M := eb_E_s hk185 rfl
theorem e185_52  : eb_E L d 185 52 ls (st) M = eb_E L d 185 53 ls (zi 1 :: st) M := eb_E_s hk185 rfl
theorem e185_53  : eb_E L d 185 53 ls (st) M = eb_E L d 185 55 ls (zi 30 :: st) M := eb_E_s hk185 rfl
theorem e185_55  : eb_E L d 185 55 ls ([a3, a2, a1, a0]) M = (eb_ev L d 180 [a0, a1, a2, a3] M).bind (fun q => eb_E L d 185 58 ls [q.1] q.2) := eb_E_c hk185 rfl
theorem e185_58 {x : Int32} : eb_E L d 185 58 ls (zi x :: st) M = if x = 0 then eb_E L d 185 72 ls st M else eb_E L d 185 61 ls st M := eb_E_b hk185 rfl
theorem e185_61 {x : Option eb_A} : eb_E L d 185 61 [some (Sum.inr x)] (st) M = eb_E L d 185 62 [some (Sum.inr x)] (Sum.inr x :: st) M := eb_E_s hk185 rfl
theorem e185_62  : eb_E L d 185 62 ls (st) M = eb_E L d 185 63 ls (zi 2 :: st) M := eb_E_s hk185 rfl
theorem e185_63  : eb_E L d 185 63 ls (st) M = eb_E L d 185 64 ls (zi 0 :: st) M := eb_E_s hk185 rfl
theorem e185_64  : eb_E L d 185 64 ls (st) M = eb_E L d 185 66 ls (zi 99 :: st) M := eb_E_s hk185 rfl
theorem e185_66  : eb_E L d 185 66 ls ([a3, a2, a1, a0]) M = (eb_ev L d 180 [a0, a1, a2, a3] M).bind (fun q => eb_E L d 185 69 ls [q.1] q.2) := eb_E_c hk185 rfl
theorem e185_69 {x : Int32} : eb_E L d 185 69 ls (zi x :: st) M = if x = 0 then eb_E L d 185 72 ls st M else eb_E L d 185 74 ls st M := eb_E_b hk185 rfl
theorem e185_72  : eb_E L d 185 72 ls (st) M = eb_E L d 185 73 ls (zi 0 :: st) M := eb_E_s hk185 rfl
theorem e185_73 {x : Int32} : eb_E L d 185 73 ls ([zi x]) M = if x = 0 ∨ x = 1 then some (zi x, M) else none := eb_E_ri hk185 rfl
theorem e185_74 {x : Option eb_A} : eb_E L d 185 74 [some (Sum.inr x)] (st) M = eb_E L d 185 75 [some (Sum.inr x)] (Sum.inr x :: st) M := eb_E_s hk185 rfl
theorem e185_75 {x : Option eb_A} : eb_E L d 185 75 [some (Sum.inr x)] (st) M = eb_E L d 185 76 [some (Sum.inr x)] (Sum.inr x :: st) M := eb_E_s hk185 rfl
theorem e185_76  : eb_E L d 185 76 ls (Sum.inr (some a) :: st) (nc, ns, I, J, R) = if (eb_ty L a.1).1 = 6 then eb_E L d 185 79 ls (Sum.inr (R a 23) :: st) (nc, ns, I, J, R) else none := eb_E_iy hk185 rfl
theorem e185_79  : eb_E L d 185 79 ls (st) M = eb_E L d 185 80 ls (zi 0 :: st) M := eb_E_s hk185 rfl
theorem e185_80 {x : Int32} : eb_E L d 185 80 ls (zi x :: Sum.inr (some a) :: st) (nc, ns, I, J, R) = if (eb_ty L a.1).1 = 10 ∧ eb_in x (eb_ty L a.1).2 = true then eb_E L d 185 81 ls (zi (I a x.toNatClampNeg) :: st) (nc, ns, I, J, R) else none := eb_E_iy hk185 rfl
theorem e185_81 {x : Option eb_A} : eb_E L d 185 81 [some (Sum.inr x)] (st) M = eb_E L d 185 82 [some (Sum.inr x)] (Sum.inr x :: st) M := eb_E_s hk185 rfl
theorem e185_82  : eb_E L d 185 82 ls (Sum.inr (some a) :: st) (nc, ns, I, J, R) = if (eb_ty L a.1).1 = 6 then eb_E L d 185 85 ls (Sum.inr (R a 23) :: st) (nc, ns, I, J, R) else none := eb_E_iy hk185 rfl
theorem e185_85  : eb_E L d 185 85 ls (st) M = eb_E L d 185 86 ls (zi 1 :: st) M := eb_E_s hk185 rfl
theorem e185_86 {x : Int32} : eb_E L d 185 86 ls (zi x :: Sum.inr (some a) :: st) (nc, ns, I, J, R) = if (eb_ty L a.1).1 = 10 ∧ eb_in x (eb_ty L a.1).2 = true then eb_E L d 185 87 ls (zi (I a x.toNatClampNeg) :: st) (nc, ns, I, J, R) else none := eb_E_iy hk185 rfl
theorem e185_87 {x : Option eb_A} : eb_E L d 185 87 [some (Sum.inr x)] (st) M = eb_E L d 185 88 [some (Sum.inr x)] (Sum.inr x :: st) M := eb_E_s hk185 rfl
theorem e185_88  : eb_E L d 185 88 ls (Sum.inr (some a) :: st) (nc, ns, I, J, R) = if (eb_ty L a.1).1 = 6 then eb_E L d 185 91 ls (Sum.inr (R a 23) :: st) (nc, ns, I, J, R) else none := eb_E_iy hk185 rfl
theorem e185_91  : eb_E L d 185 91 ls (st) M = eb_E L d 185 92 ls (zi 2 :: st) M := eb_E_s hk185 rfl
theorem e185_92 {x : Int32} : eb_E L d 185 92 ls (zi x :: Sum.inr (some a) :: st) (nc, ns, I, J, R) = if (eb_ty L a.1).1 = 10 ∧ eb_in x (eb_ty L a.1).2 = true then eb_E L d 185 93 ls (zi (I a x.toNatClampNeg) :: st) (nc, ns, I, J, R) else none := eb_E_iy hk185 rfl
theorem e185_93  : eb_E L d 185 93 ls ([a3, a2, a1, a0]) M = (eb_ev L d 163 [a0, a1, a2, a3] M).bind (fun q => eb_E L d 185 96 ls [q.1] q.2) := eb_E_c hk185 rfl
theorem e185_96a {x : Int32} : eb_E L d 185 96 ls (zi x :: st) M = eb_E L d 185 97 ls (st) M := eb_E_s hk185 rfl
theorem e185_96b {x : Option eb_A} : eb_E L d 185 96 ls (Sum.inr x :: st) M = eb_E L d 185 97 ls (st) M := eb_E_s hk185 rfl
theorem e185_97  : eb_E L d 185 97 ls (st) M = eb_E L d 185 98 ls (zi 1 :: st) M := eb_E_s hk185 rfl
theorem e185_98 {x : Int32} : eb_E L d 185 98 ls ([zi x]) M = if x = 0 ∨ x = 1 then some (zi x, M) else none := eb_E_ri hk185 rfl
theorem e185_99 {x : Option eb_A} : eb_E L d 185 99 [some (Sum.inr x)] (st) M = eb_E L d 185 100 [some (Sum.inr x)] (Sum.inr x :: st) M := eb_E_s hk185 rfl
theorem e185_100  : eb_E L d 185 100 ls (st) M = eb_E L d 185 102 ls (zr (50, 8, 0) :: st) M := eb_E_s hk185 rfl
theorem e185_102  : eb_E L d 185 102 ls ([a1, a0]) M = (eb_ev L d 179 [a0, a1] M).bind (fun q => eb_E L d 185 105 ls [q.1] q.2) := eb_E_c hk185 rfl
theorem e185_105 {x : Int32} : eb_E L d 185 105 ls (zi x :: st) M = if x = 0 then eb_E L d 185 113 ls st M else eb_E L d 185 108 ls st M := eb_E_b hk185 rfl
theorem e185_108 {x : Option eb_A} : eb_E L d 185 108 [some (Sum.inr x)] (st) M = eb_E L d 185 109 [some (Sum.inr x)] (Sum.inr x :: st) M := eb_E_s hk185 rfl
theorem e185_109  : eb_E L d 185 109 ls ([a0]) M = (eb_ev L d 183 [a0] M).bind (fun q => eb_E L d 185 112 ls [q.1] q.2) := eb_E_c hk185 rfl
theorem e185_112 {x : Int32} : eb_E L d 185 112 ls ([zi x]) M = if x = 0 ∨ x = 1 then some (zi x, M) else none := eb_E_ri hk185 rfl
theorem e185_113 {x : Option eb_A} : eb_E L d 185 113 [some (Sum.inr x)] (st) M = eb_E L d 185 114 [some (Sum.inr x)] (Sum.inr x :: st) M := eb_E_s hk185 rfl
theorem e185_114  : eb_E L d 185 114 ls (st) M = eb_E L d 185 116 ls (zr (50, 10, 0) :: st) M := eb_E_s hk185 rfl
theorem e185_116  : eb_E L d 185 116 ls ([a1, a0]) M = (eb_ev L d 179 [a0, a1] M).bind (fun q => eb_E L d 185 119 ls [q.1] q.2) := eb_E_c hk185 rfl
theorem e185_119 {x : Int32} : eb_E L d 185 119 ls (zi x :: st) M = if x = 0 then eb_E L d 185 127 ls st M else eb_E L d 185 122 ls st M := eb_E_b hk185 rfl
theorem e185_122 {x : Option eb_A} : eb_E L d 185 122 [some (Sum.inr x)] (st) M = eb_E L d 185 123 [some (Sum.inr x)] (Sum.inr x :: st) M := eb_E_s hk185 rfl
theorem e185_123  : eb_E L d 185 123 ls ([a0]) M = (eb_ev L d 184 [a0] M).bind (fun q => eb_E L d 185 126 ls [q.1] q.2) := eb_E_c hk185 rfl
theorem e185_126 {x : Int32} : eb_E L d 185 126 ls ([zi x]) M = if x = 0 ∨ x = 1 then some (zi x, M) else none := eb_E_ri hk185 rfl
theorem e185_127 {x : Option eb_A} : eb_E L d 185 127 [some (Sum.inr x)] (st) M = eb_E L d 185 128 [some (Sum.inr x)] (Sum.inr x :: st) M := eb_E_s hk185 rfl
theorem e185_128  : eb_E L d 185 128 ls (st) M = eb_E L d 185 130 ls (zr (50, 9, 0) :: st) M := eb_E_s hk185 rfl
theorem e185_130  : eb_E L d 185 130 ls ([a1, a0]) M = (eb_ev L d 179 [a0, a1] M).bind (fun q => eb_E L d 185 133 ls [q.1] q.2) := eb_E_c hk185 rfl
theorem e185_133 {x : Int32} : eb_E L d 185 133 ls (zi x :: st) M = if x = 0 then eb_E L d 185 136 ls st M else eb_E L d 185 141 ls st M := eb_E_b hk185 rfl
theorem e185_136 {x : Option eb_A} : eb_E L d 185 136 [some (Sum.inr x)] (st) M = eb_E L d 185 137 [some (Sum.inr x)] (Sum.inr x :: st) M := eb_E_s hk185 rfl
theorem e185_137  : eb_E L d 185 137 ls ([a0]) M = (eb_ev L d 178 [a0] M).bind (fun q => eb_E L d 185 140 ls [q.1] q.2) := eb_E_c hk185 rfl
theorem e185_140 {x : Int32} : eb_E L d 185 140 ls ([zi x]) M = if x = 0 ∨ x = 1 then some (zi x, M) else none := eb_E_ri hk185 rfl
theorem e185_141 {x : Option eb_A} : eb_E L d 185 141 [some (Sum.inr x)] (st) M = eb_E L d 185 142 [some (Sum.inr x)] (Sum.inr x :: st) M := eb_E_s hk185 rfl
theorem e185_142  : eb_E L d 185 142 ls (st) M = eb_E L d 185 143 ls (zi 0 :: st) M := eb_E_s hk185 rfl
theorem e185_143  : eb_E L d 185 143 ls (st) M = eb_E L d 185 145 ls (zi 99 :: st) M := eb_E_s hk185 rfl
theorem e185_145  : eb_E L d 185 145 ls ([a2, a1, a0]) M = (eb_ev L d 181 [a0, a1, a2] M).bind (fun q => eb_E L d 185 148 ls [q.1] q.2) := eb_E_c hk185 rfl
theorem e185_148 {x : Int32} : eb_E L d 185 148 ls (zi x :: st) M = if x = 0 then eb_E L d 185 151 ls st M else eb_E L d 185 153 ls st M := eb_E_b hk185 rfl
theorem e185_151  : eb_E L d 185 151 ls (st) M = eb_E L d 185 152 ls (zi 0 :: st) M := eb_E_s hk185 rfl
theorem e185_152 {x : Int32} : eb_E L d 185 152 ls ([zi x]) M = if x = 0 ∨ x = 1 then some (zi x, M) else none := eb_E_ri hk185 rfl
theorem e185_153 {x : Option eb_A} : eb_E L d 185 153 [some (Sum.inr x)] (st) M = eb_E L d 185 154 [some (Sum.inr x)] (Sum.inr x :: st) M := eb_E_s hk185 rfl
theorem e185_154 {x : Option eb_A} : eb_E L d 185 154 [some (Sum.inr x)] (st) M = eb_E L d 185 155 [some (Sum.inr x)] (Sum.inr x :: st) M := eb_E_s hk185 rfl
theorem e185_155  : eb_E L d 185 155 ls (Sum.inr (some a) :: st) (nc, ns, I, J, R) = if (eb_ty L a.1).1 = 6 then eb_E L d 185 158 ls (Sum.inr (R a 23) :: st) (nc, ns, I, J, R) else none := eb_E_iy hk185 rfl
theorem e185_158  : eb_E L d 185 158 ls (st) M = eb_E L d 185 159 ls (zi 0 :: st) M := eb_E_s hk185 rfl
theorem e185_159 {x : Int32} : eb_E L d 185 159 ls (zi x :: Sum.inr (some a) :: st) (nc, ns, I, J, R) = if (eb_ty L a.1).1 = 10 ∧ eb_in x (eb_ty L a.1).2 = true then eb_E L d 185 160 ls (zi (I a x.toNatClampNeg) :: st) (nc, ns, I, J, R) else none := eb_E_iy hk185 rfl
theorem e185_160 {x : Int32} : eb_E L d 185 160 ls (zi x :: Sum.inr (some a) :: st) (nc, ns, I, J, R) = if (eb_ty L a.1).1 = 6 then eb_E L d 185 163 ls (st) (nc, ns, eb_u I a 13 x, J, R) else none := eb_E_iy hk185 rfl
theorem e185_163  : eb_E L d 185 163 ls (st) M = eb_E L d 185 164 ls (zi 1 :: st) M := eb_E_s hk185 rfl
theorem e185_164 {x : Int32} : eb_E L d 185 164 ls ([zi x]) M = if x = 0 ∨ x = 1 then some (zi x, M) else none := eb_E_ri hk185 rfl
/-! X6_readAll -/
theorem hk186 : eb_cd L 186 = eb_look (kt186 L) := rfl
theorem h186 (ha : (eb_ty L a.1).1 = 6) : eb_ev L (d + 1) 186 [zr a] M = eb_E L d 186 0 [some (zr a)] [] M := eb_ev_s rfl (eb_chk_i ha rfl)
theorem e186_0 {x : Option eb_A} : eb_E L d 186 0 [some (Sum.inr x)] (st) M = eb_E L d 186 1 [some (Sum.inr x)] (Sum.inr x :: st) M := eb_E_s hk186 rfl
theorem e186_1  : eb_E L d 186 1 ls (st) M = eb_E L d 186 2 ls (zi 1 :: st) M := eb_E_s hk186 rfl
theorem e186_2 {x : Int32} : eb_E L d 186 2 ls (zi x :: Sum.inr (some a) :: st) (nc, ns, I, J, R) = if (eb_ty L a.1).1 = 6 then eb_E L d 186 5 ls (st) (nc, ns, eb_u I a 24 x, J, R) else none := eb_E_iy hk186 rfl
theorem e186_5 {x : Option eb_A} : eb_E L d 186 5 [some (Sum.inr x)] (st) M = eb_E L d 186 6 [some (Sum.inr x)] (Sum.inr x :: st) M := eb_E_s hk186 rfl
theorem e186_6  : eb_E L d 186 6 ls (st) M = eb_E L d 186 7 ls (zi 0 :: st) M := eb_E_s hk186 rfl
theorem e186_7 {x : Int32} : eb_E L d 186 7 ls (zi x :: Sum.inr (some a) :: st) (nc, ns, I, J, R) = if (eb_ty L a.1).1 = 6 then eb_E L d 186 10 ls (st) (nc, ns, eb_u I a 18 x, J, R) else none := eb_E_iy hk186 rfl
theorem e186_10 {x : Option eb_A} : eb_E L d 186 10 [some (Sum.inr x)] (st) M = eb_E L d 186 11 [some (Sum.inr x)] (Sum.inr x :: st) M := eb_E_s hk186 rfl
theorem e186_11  : eb_E L d 186 11 ls ([a0]) M = (eb_ev L d 177 [a0] M).bind (fun q => eb_E L d 186 14 ls [] q.2) := eb_E_c hk186 rfl
theorem e186_14 {x : Option eb_A} : eb_E L d 186 14 [some (Sum.inr x)] (st) M = eb_E L d 186 15 [some (Sum.inr x)] (Sum.inr x :: st) M := eb_E_s hk186 rfl
theorem e186_15  : eb_E L d 186 15 ls ([a0]) M = (eb_ev L d 185 [a0] M).bind (fun q => eb_E L d 186 18 ls [q.1] q.2) := eb_E_c hk186 rfl
theorem e186_18 {x : Int32} : eb_E L d 186 18 ls (zi x :: st) M = if x = 0 then eb_E L d 186 21 ls st M else eb_E L d 186 23 ls st M := eb_E_b hk186 rfl
theorem e186_21  : eb_E L d 186 21 ls (st) M = eb_E L d 186 22 ls (zi 0 :: st) M := eb_E_s hk186 rfl
theorem e186_22 {x : Int32} : eb_E L d 186 22 ls ([zi x]) M = if x = 0 ∨ x = 1 then some (zi x, M) else none := eb_E_ri hk186 rfl
theorem e186_23 {x : Option eb_A} : eb_E L d 186 23 [some (Sum.inr x)] (st) M = eb_E L d 186 24 [some (Sum.inr x)] (Sum.inr x :: st) M := eb_E_s hk186 rfl
theorem e186_24  : eb_E L d 186 24 ls (Sum.inr (some a) :: st) (nc, ns, I, J, R) = if (eb_ty L a.1).1 = 6 then eb_E L d 186 27 ls (zi (I a 19) :: st) (nc, ns, I, J, R) else none := eb_E_iy hk186 rfl
theorem e186_27 {x : Int32} : eb_E L d 186 27 ls (zi x :: st) M = if x = 0 then eb_E L d 186 69 ls st M else eb_E L d 186 30 ls st M := eb_E_b hk186 rfl
theorem e186_30 {x : Option eb_A} : eb_E L d 186 30 [some (Sum.inr x)] (st) M = eb_E L d 186 31 [some (Sum.inr x)] (Sum.inr x :: st) M := eb_E_s hk186 rfl
theorem e186_31  : eb_E L d 186 31 ls (Sum.inr (some a) :: st) (nc, ns, I, J, R) = if (eb_ty L a.1).1 = 6 then eb_E L d 186 34 ls (zi (I a 19) :: st) (nc, ns, I, J, R) else none := eb_E_iy hk186 rfl
theorem e186_34  : eb_E L d 186 34 ls (st) M = eb_E L d 186 35 ls (zi 3 :: st) M := eb_E_s hk186 rfl
theorem e186_35 {x : Int32} {y : Int32} : eb_E L d 186 35 ls (zi y :: zi x :: st) M = if x = y then eb_E L d 186 43 ls st M else eb_E L d 186 38 ls st M := eb_E_b hk186 rfl
theorem e186_38 {x : Option eb_A} : eb_E L d 186 38 [some (Sum.inr x)] (st) M = eb_E L d 186 39 [some (Sum.inr x)] (Sum.inr x :: st) M := eb_E_s hk186 rfl
theorem e186_39  : eb_E L d 186 39 ls ([a0]) M = (eb_ev L d 178 [a0] M).bind (fun q => eb_E L d 186 42 ls [q.1] q.2) := eb_E_c hk186 rfl
theorem e186_42 {x : Int32} : eb_E L d 186 42 ls ([zi x]) M = if x = 0 ∨ x = 1 then some (zi x, M) else none := eb_E_ri hk186 rfl
theorem e186_43 {x : Option eb_A} : eb_E L d 186 43 [some (Sum.inr x)] (st) M = eb_E L d 186 44 [some (Sum.inr x)] (Sum.inr x :: st) M := eb_E_s hk186 rfl
theorem e186_44  : eb_E L d 186 44 ls ([a0]) M = (eb_ev L d 177 [a0] M).bind (fun q => eb_E L d 186 47 ls [] q.2) := eb_E_c hk186 rfl
theorem e186_47 {x : Option eb_A} : eb_E L d 186 47 [some (Sum.inr x)] (st) M = eb_E L d 186 48 [some (Sum.inr x)] (Sum.inr x :: st) M := eb_E_s hk186 rfl
theorem e186_48  : eb_E L d 186 48 ls ([a0]) M = (eb_ev L d 185 [a0] M).bind (fun q => eb_E L d 186 51 ls [q.1] q.2) := eb_E_c hk186 rfl
theorem e186_51 {x : Int32} : eb_E L d 186 51 ls (zi x :: st) M = if x = 0 then eb_E L d 186 54 ls st M else eb_E L d 186 56 ls st M := eb_E_b hk186 rfl
theorem e186_54  : eb_E L d 186 54 ls (st) M = eb_E L d 186 55 ls (zi 0 :: st) M := eb_E_s hk186 rfl
theorem e186_55 {x : Int32} : eb_E L d 186 55 ls ([zi x]) M = if x = 0 ∨ x = 1 then some (zi x, M) else none := eb_E_ri hk186 rfl
theorem e186_56 {x : Option eb_A} : eb_E L d 186 56 [some (Sum.inr x)] (st) M = eb_E L d 186 57 [some (Sum.inr x)] (Sum.inr x :: st) M := eb_E_s hk186 rfl
theorem e186_57a {x : Int32} : eb_E L d 186 57 ls (zi x :: st) M = eb_E L d 186 58 ls (zi x :: zi x :: st) M := eb_E_s hk186 rfl
theorem e186_57b {x : Option eb_A} : eb_E L d 186 57 ls (Sum.inr x :: st) M = eb_E L d 186 58 ls (Sum.inr x :: Sum.inr x :: st) M := eb_E_s hk186 rfl
theorem e186_58  : eb_E L d 186 58 ls (Sum.inr (some a) :: st) (nc, ns, I, J, R) = if (eb_ty L a.1).1 = 6 then eb_E L d 186 61 ls (zi (I a 24) :: st) (nc, ns, I, J, R) else none := eb_E_iy hk186 rfl
theorem e186_61  : eb_E L d 186 61 ls (st) M = eb_E L d 186 62 ls (zi 1 :: st) M := eb_E_s hk186 rfl
theorem e186_62 {x : Int32} {y : Int32} : eb_E L d 186 62 ls (zi y :: zi x :: st) M = eb_E L d 186 63 ls (zi (x + y) :: st) M := eb_E_s hk186 rfl
theorem e186_63 {x : Int32} : eb_E L d 186 63 ls (zi x :: Sum.inr (some a) :: st) (nc, ns, I, J, R) = if (eb_ty L a.1).1 = 6 then eb_E L d 186 66 ls (st) (nc, ns, eb_u I a 24 x, J, R) else none := eb_E_iy hk186 rfl
theorem e186_66  : eb_E L d 186 66 ls (st) M = eb_E L d 186 23 ls (st) M := eb_E_s hk186 rfl
theorem e186_69  : eb_E L d 186 69 ls (st) M = eb_E L d 186 70 ls (zi 1 :: st) M := eb_E_s hk186 rfl
theorem e186_70 {x : Int32} : eb_E L d 186 70 ls ([zi x]) M = if x = 0 ∨ x = 1 then some (zi x, M) else none := eb_E_ri hk186 rfl
/-! X6_valley -/
theorem hk187 : eb_cd L 187 = eb_look (kt187 L) := rfl
theorem h187 (ha : (eb_ty L a.1).1 = 6) : eb_ev L (d + 1) 187 [zr a] M = eb_E L d 187 0 [some (zr a), none, none] [] M := eb_ev_s rfl (eb_chk_i ha rfl)
theorem e187_0 {x : Option eb_A} : eb_E L d 187 0 [some (Sum.inr x), v1, v2] (st) M = eb_E L d 187 1 [some (Sum.inr x), v1, v2] (Sum.inr x :: st) M := eb_E_s hk187 rfl
theorem e187_1  : eb_E L d 187 1 ls ([a0]) M = (eb_ev L d 246 [a0] M).bind (fun q => eb_E L d 187 4 ls [q.1] q.2) := eb_E_c hk187 rfl
theorem e187_4 {x : Option eb_A} : eb_E L d 187 4 [v0, v1, v2] (Sum.inr x :: st) M = eb_E L d 187 5 [v0, some (Sum.inr x), v2] (st) M := eb_E_s hk187 rfl
theorem e187_5 {x : Option eb_A} : eb_E L d 187 5 [some (Sum.inr x), v1, v2] (st) M = eb_E L d 187 6 [some (Sum.inr x), v1, v2] (Sum.inr x :: st) M := eb_E_s hk187 rfl
theorem e187_6  : eb_E L d 187 6 ls ([a0]) M = (eb_ev L d 186 [a0] M).bind (fun q => eb_E L d 187 9 ls [q.1] q.2) := eb_E_c hk187 rfl
theorem e187_9 {x : Int32} : eb_E L d 187 9 [v0, v1, v2] (zi x :: st) M = eb_E L d 187 10 [v0, v1, some (zi x)] (st) M := eb_E_s hk187 rfl
theorem e187_10 {x : Option eb_A} : eb_E L d 187 10 [some (Sum.inr x), v1, v2] (st) M = eb_E L d 187 11 [some (Sum.inr x), v1, v2] (Sum.inr x :: st) M := eb_E_s hk187 rfl
theorem e187_11  : eb_E L d 187 11 ls (st) M = eb_E L d 187 12 ls (zi 0 :: st) M := eb_E_s hk187 rfl
theorem e187_12 {x : Int32} : eb_E L d 187 12 ls (zi x :: Sum.inr (some a) :: st) (nc, ns, I, J, R) = if (eb_ty L a.1).1 = 6 then eb_E L d 187 15 ls (st) (nc, ns, eb_u I a 7 x, J, R) else none := eb_E_iy hk187 rfl
theorem e187_15 {x : Int32} : eb_E L d 187 15 [v0, v1, some (zi x)] (st) M = eb_E L d 187 16 [v0, v1, some (zi x)] (zi x :: st) M := eb_E_s hk187 rfl
theorem e187_16 {x : Int32} : eb_E L d 187 16 ls (zi x :: st) M = if x = 0 then eb_E L d 187 19 ls st M else eb_E L d 187 39 ls st M := eb_E_b hk187 rfl
theorem e187_19 {x : Option eb_A} : eb_E L d 187 19 [some (Sum.inr x), v1, v2] (st) M = eb_E L d 187 20 [some (Sum.inr x), v1, v2] (Sum.inr x :: st) M := eb_E_s hk187 rfl
theorem e187_20 {x : Option eb_A} : eb_E L d 187 20 [v0, some (Sum.inr x), v2] (st) M = eb_E L d 187 21 [v0, some (Sum.inr x), v2] (Sum.inr x :: st) M := eb_E_s hk187 rfl
theorem e187_21  : eb_E L d 187 21 ls ([a1, a0]) M = (eb_ev L d 248 [a0, a1] M).bind (fun q => eb_E L d 187 24 ls [] q.2) := eb_E_c hk187 rfl
theorem e187_24 {x : Option eb_A} : eb_E L d 187 24 [some (Sum.inr x), v1, v2] (st) M = eb_E L d 187 25 [some (Sum.inr x), v1, v2] (Sum.inr x :: st) M := eb_E_s hk187 rfl
theorem e187_25  : eb_E L d 187 25 ls (st) M = eb_E L d 187 27 ls (zi (-2) :: st) M := eb_E_s hk187 rfl
theorem e187_27  : eb_E L d 187 27 ls ([a1, a0]) M = (eb_ev L d 145 [a0, a1] M).bind (fun q => eb_E L d 187 30 ls [q.1] q.2) := eb_E_c hk187 rfl
theorem e187_30a {x : Int32} : eb_E L d 187 30 ls (zi x :: st) M = eb_E L d 187 31 ls (st) M := eb_E_s hk187 rfl
theorem e187_30b {x : Option eb_A} : eb_E L d 187 30 ls (Sum.inr x :: st) M = eb_E L d 187 31 ls (st) M := eb_E_s hk187 rfl
theorem e187_31  : eb_E L d 187 31 ls (st) M = eb_E L d 187 33 ls (zi (-20) :: st) M := eb_E_s hk187 rfl
theorem e187_33 {x : Option eb_A} : eb_E L d 187 33 [some (Sum.inr x), v1, v2] (st) M = eb_E L d 187 34 [some (Sum.inr x), v1, v2] (Sum.inr x :: st) M := eb_E_s hk187 rfl
theorem e187_34  : eb_E L d 187 34 ls (Sum.inr (some a) :: st) (nc, ns, I, J, R) = if (eb_ty L a.1).1 = 6 then eb_E L d 187 37 ls (zi (I a 22) :: st) (nc, ns, I, J, R) else none := eb_E_iy hk187 rfl
theorem e187_37 {x : Int32} {y : Int32} : eb_E L d 187 37 ls (zi y :: zi x :: st) M = eb_E L d 187 38 ls (zi (x - y) :: st) M := eb_E_s hk187 rfl
theorem e187_38 {x : Int32} : eb_E L d 187 38 ls ([zi x]) M = some (zi x, M) := eb_E_r hk187 rfl
theorem e187_39 {x : Option eb_A} : eb_E L d 187 39 [some (Sum.inr x), v1, v2] (st) M = eb_E L d 187 40 [some (Sum.inr x), v1, v2] (Sum.inr x :: st) M := eb_E_s hk187 rfl
theorem e187_40  : eb_E L d 187 40 ls (Sum.inr (some a) :: st) (nc, ns, I, J, R) = if (eb_ty L a.1).1 = 6 then eb_E L d 187 43 ls (zi (I a 24) :: st) (nc, ns, I, J, R) else none := eb_E_iy hk187 rfl
theorem e187_43 {x : Int32} : eb_E L d 187 43 ls ([zi x]) M = some (zi x, M) := eb_E_r hk187 rfl
/-! X6_innOf -/
theorem hk188 : eb_cd L 188 = eb_look (kt188 L) := rfl
theorem h188 (ha : (eb_ty L a.1).1 = 6) {x1 : Int32} {x2 : Int32} : eb_ev L (d + 1) 188 [zr a, zi x1, zi x2] M = eb_E L d 188 0 [some (zr a), some (zi x1), some (zi x2)] [] M := eb_ev_s rfl (eb_chk_i ha rfl)
theorem e188_0 {x : Option eb_A} : eb_E L d 188 0 [some (Sum.inr x), v1, v2] (st) M = eb_E L d 188 1 [some (Sum.inr x), v1, v2] (Sum.inr x :: st) M := eb_E_s hk188 rfl
theorem e188_1 {x : Int32} : eb_E L d 188 1 [v0, some (zi x), v2] (st) M = eb_E L d 188 2 [v0, some (zi x), v2] (zi x :: st) M := eb_E_s hk188 rfl
theorem e188_2  : eb_E L d 188 2 ls ([a1, a0]) M = (eb_ev L d 148 [a0, a1] M).bind (fun q => eb_E L d 188 5 ls [q.1] q.2) := eb_E_c hk188 rfl
theorem e188_5 {x : Int32} : eb_E L d 188 5 ls (zi x :: st) M = if x = 0 then eb_E L d 188 31 ls st M else eb_E L d 188 8 ls st M := eb_E_b hk188 rfl
theorem e188_8 {x : Int32} : eb_E L d 188 8 [v0, v1, some (zi x)] (st) M = eb_E L d 188 9 [v0, v1, some (zi x)] (zi x :: st) M := eb_E_s hk188 rfl
theorem e188_9 {x : Int32} : eb_E L d 188 9 ls (zi x :: st) M = eb_E L d 188 10 ls (zl x.toInt64 :: st) M := eb_E_s hk188 rfl
theorem e188_10  : eb_E L d 188 10 ls (st) M = eb_E L d 188 11 ls (zl 0 :: st) M := eb_E_s hk188 rfl
theorem e188_11  : eb_E L d 188 11 ls (st) M = eb_E L d 188 14 ls (zl 6 :: st) M := eb_E_s hk188 rfl
theorem e188_14  : eb_E L d 188 14 ls ([a2, a1, a0]) M = (eb_ev L d 146 [a0, a1, a2] M).bind (fun q => eb_E L d 188 17 ls [q.1] q.2) := eb_E_c hk188 rfl
theorem e188_17 {x : Int32} : eb_E L d 188 17 ls (zi x :: st) M = if x = 0 then eb_E L d 188 31 ls st M else eb_E L d 188 20 ls st M := eb_E_b hk188 rfl
theorem e188_20 {x : Option eb_A} : eb_E L d 188 20 [some (Sum.inr x), v1, v2] (st) M = eb_E L d 188 21 [some (Sum.inr x), v1, v2] (Sum.inr x :: st) M := eb_E_s hk188 rfl
theorem e188_21  : eb_E L d 188 21 ls (Sum.inr (some a) :: st) (nc, ns, I, J, R) = if (eb_ty L a.1).1 = 6 then eb_E L d 188 24 ls (Sum.inr (R a 10) :: st) (nc, ns, I, J, R) else none := eb_E_iy hk188 rfl
theorem e188_24 {x : Int32} : eb_E L d 188 24 [v0, some (zi x), v2] (st) M = eb_E L d 188 25 [v0, some (zi x), v2] (zi x :: st) M := eb_E_s hk188 rfl
theorem e188_25 {x : Int32} : eb_E L d 188 25 ls (zi x :: Sum.inr (some a) :: st) (nc, ns, I, J, R) = if (12 ≤ (eb_ty L a.1).1 ∧ (eb_ty L a.1).1 ≤ 16) ∧ eb_in x (eb_ty L a.1).2 = true then eb_E L d 188 26 ls (Sum.inr (R a x.toNatClampNeg) :: st) (nc, ns, I, J, R) else none := eb_E_iy hk188 rfl
theorem e188_26 {x : Int32} : eb_E L d 188 26 [v0, v1, some (zi x)] (st) M = eb_E L d 188 27 [v0, v1, some (zi x)] (zi x :: st) M := eb_E_s hk188 rfl
theorem e188_27 {x : Int32} : eb_E L d 188 27 ls (zi x :: Sum.inr (some a) :: st) (nc, ns, I, J, R) = if (eb_ty L a.1).1 = 10 ∧ eb_in x (eb_ty L a.1).2 = true then eb_E L d 188 28 ls (zi (I a x.toNatClampNeg) :: st) (nc, ns, I, J, R) else none := eb_E_iy hk188 rfl
theorem e188_28  : eb_E L d 188 28 ls (st) M = eb_E L d 188 37 ls (st) M := eb_E_s hk188 rfl
theorem e188_31 {x : Option eb_A} : eb_E L d 188 31 [some (Sum.inr x), v1, v2] (st) M = eb_E L d 188 32 [some (Sum.inr x), v1, v2] (Sum.inr x :: st) M := eb_E_s hk188 rfl
theorem e188_32  : eb_E L d 188 32 ls (st) M = eb_E L d 188 34 ls (zi (-2) :: st) M := eb_E_s hk188 rfl
theorem e188_34  : eb_E L d 188 34 ls ([a1, a0]) M = (eb_ev L d 145 [a0, a1] M).bind (fun q => eb_E L d 188 37 ls [q.1] q.2) := eb_E_c hk188 rfl
theorem e188_37 {x : Int32} : eb_E L d 188 37 ls ([zi x]) M = some (zi x, M) := eb_E_r hk188 rfl
/-! X6_goerOf -/
theorem hk189 : eb_cd L 189 = eb_look (kt189 L) := rfl
theorem h189 (ha : (eb_ty L a.1).1 = 6) {x1 : Int32} {x2 : Int32} : eb_ev L (d + 1) 189 [zr a, zi x1, zi x2] M = eb_E L d 189 0 [some (zr a), some (zi x1), some (zi x2)] [] M := eb_ev_s rfl (eb_chk_i ha rfl)
theorem e189_0 {x : Option eb_A} : eb_E L d 189 0 [some (Sum.inr x), v1, v2] (st) M = eb_E L d 189 1 [some (Sum.inr x), v1, v2] (Sum.inr x :: st) M := eb_E_s hk189 rfl
theorem e189_1 {x : Int32} : eb_E L d 189 1 [v0, some (zi x), v2] (st) M = eb_E L d 189 2 [v0, some (zi x), v2] (zi x :: st) M := eb_E_s hk189 rfl
theorem e189_2  : eb_E L d 189 2 ls ([a1, a0]) M = (eb_ev L d 149 [a0, a1] M).bind (fun q => eb_E L d 189 5 ls [q.1] q.2) := eb_E_c hk189 rfl
theorem e189_5 {x : Int32} : eb_E L d 189 5 ls (zi x :: st) M = if x = 0 then eb_E L d 189 31 ls st M else eb_E L d 189 8 ls st M := eb_E_b hk189 rfl
theorem e189_8 {x : Int32} : eb_E L d 189 8 [v0, v1, some (zi x)] (st) M = eb_E L d 189 9 [v0, v1, some (zi x)] (zi x :: st) M := eb_E_s hk189 rfl
theorem e189_9 {x : Int32} : eb_E L d 189 9 ls (zi x :: st) M = eb_E L d 189 10 ls (zl x.toInt64 :: st) M := eb_E_s hk189 rfl
theorem e189_10  : eb_E L d 189 10 ls (st) M = eb_E L d 189 11 ls (zl 0 :: st) M := eb_E_s hk189 rfl
theorem e189_11  : eb_E L d 189 11 ls (st) M = eb_E L d 189 14 ls (zl 2 :: st) M := eb_E_s hk189 rfl
theorem e189_14  : eb_E L d 189 14 ls ([a2, a1, a0]) M = (eb_ev L d 146 [a0, a1, a2] M).bind (fun q => eb_E L d 189 17 ls [q.1] q.2) := eb_E_c hk189 rfl
theorem e189_17 {x : Int32} : eb_E L d 189 17 ls (zi x :: st) M = if x = 0 then eb_E L d 189 31 ls st M else eb_E L d 189 20 ls st M := eb_E_b hk189 rfl
theorem e189_20 {x : Option eb_A} : eb_E L d 189 20 [some (Sum.inr x), v1, v2] (st) M = eb_E L d 189 21 [some (Sum.inr x), v1, v2] (Sum.inr x :: st) M := eb_E_s hk189 rfl
theorem e189_21  : eb_E L d 189 21 ls (Sum.inr (some a) :: st) (nc, ns, I, J, R) = if (eb_ty L a.1).1 = 6 then eb_E L d 189 24 ls (Sum.inr (R a 12) :: st) (nc, ns, I, J, R) else none := eb_E_iy hk189 rfl
theorem e189_24 {x : Int32} : eb_E L d 189 24 [v0, some (zi x), v2] (st) M = eb_E L d 189 25 [v0, some (zi x), v2] (zi x :: st) M := eb_E_s hk189 rfl
theorem e189_25 {x : Int32} : eb_E L d 189 25 ls (zi x :: Sum.inr (some a) :: st) (nc, ns, I, J, R) = if (12 ≤ (eb_ty L a.1).1 ∧ (eb_ty L a.1).1 ≤ 16) ∧ eb_in x (eb_ty L a.1).2 = true then eb_E L d 189 26 ls (Sum.inr (R a x.toNatClampNeg) :: st) (nc, ns, I, J, R) else none := eb_E_iy hk189 rfl
theorem e189_26 {x : Int32} : eb_E L d 189 26 [v0, v1, some (zi x)] (st) M = eb_E L d 189 27 [v0, v1, some (zi x)] (zi x :: st) M := eb_E_s hk189 rfl
theorem e189_27 {x : Int32} : eb_E L d 189 27 ls (zi x :: Sum.inr (some a) :: st) (nc, ns, I, J, R) = if (eb_ty L a.1).1 = 10 ∧ eb_in x (eb_ty L a.1).2 = true then eb_E L d 189 28 ls (zi (I a x.toNatClampNeg) :: st) (nc, ns, I, J, R) else none := eb_E_iy hk189 rfl
theorem e189_28  : eb_E L d 189 28 ls (st) M = eb_E L d 189 37 ls (st) M := eb_E_s hk189 rfl
theorem e189_31 {x : Option eb_A} : eb_E L d 189 31 [some (Sum.inr x), v1, v2] (st) M = eb_E L d 189 32 [some (Sum.inr x), v1, v2] (Sum.inr x :: st) M := eb_E_s hk189 rfl
theorem e189_32  : eb_E L d 189 32 ls (st) M = eb_E L d 189 34 ls (zi (-2) :: st) M := eb_E_s hk189 rfl
theorem e189_34  : eb_E L d 189 34 ls ([a1, a0]) M = (eb_ev L d 145 [a0, a1] M).bind (fun q => eb_E L d 189 37 ls [q.1] q.2) := eb_E_c hk189 rfl
theorem e189_37 {x : Int32} : eb_E L d 189 37 ls ([zi x]) M = some (zi x, M) := eb_E_r hk189 rfl
/-! X6_booked -/
theorem hk190 : eb_cd L 190 = eb_look (kt190 L) := rfl
theorem h190 (ha : (eb_ty L a.1).1 = 6) {x1 : Int32} : eb_ev L (d + 1) 190 [zr a, zi x1] M = eb_E L d 190 0 [some (zr a), some (zi x1), none] [] M := eb_ev_s rfl (eb_chk_i ha rfl)
theorem e190_0 {x : Int32} : eb_E L d 190 0 [v0, some (zi x), v2] (st) M = eb_E L d 190 1 [v0, some (zi x), v2] (zi x :: st) M := eb_E_s hk190 rfl
theorem e190_1  : eb_E L d 190 1 ls (st) M = eb_E L d 190 2 ls (zi 2 :: st) M := eb_E_s hk190 rfl
theorem e190_2 {x : Option eb_A} : eb_E L d 190 2 [some (Sum.inr x), v1, v2] (st) M = eb_E L d 190 3 [some (Sum.inr x), v1, v2] (Sum.inr x :: st) M := eb_E_s hk190 rfl
theorem e190_3  : eb_E L d 190 3 ls (Sum.inr (some a) :: st) (nc, ns, I, J, R) = if (eb_ty L a.1).1 = 6 then eb_E L d 190 6 ls (zi (I a 13) :: st) (nc, ns, I, J, R) else none := eb_E_iy hk190 rfl
theorem e190_6 {x : Int32} {y : Int32} : eb_E L d 190 6 ls (zi y :: zi x :: st) M = eb_E L d 190 7 ls (zi (x * y) :: st) M := eb_E_s hk190 rfl
theorem e190_7 {x : Int32} {y : Int32} : eb_E L d 190 7 ls (zi y :: zi x :: st) M = eb_E L d 190 8 ls (zi (x - y) :: st) M := eb_E_s hk190 rfl
theorem e190_8 {x : Int32} : eb_E L d 190 8 [v0, v1, v2] (zi x :: st) M = eb_E L d 190 9 [v0, v1, some (zi x)] (st) M := eb_E_s hk190 rfl
theorem e190_9 {x : Int32} : eb_E L d 190 9 [v0, some (zi x), v2] (st) M = eb_E L d 190 10 [v0, some (zi x), v2] (zi x :: st) M := eb_E_s hk190 rfl
theorem e190_10  : eb_E L d 190 10 ls (st) M = eb_E L d 190 11 ls (zi (-1) :: st) M := eb_E_s hk190 rfl
theorem e190_11 {x : Int32} {y : Int32} : eb_E L d 190 11 ls (zi y :: zi x :: st) M = if x = y then eb_E L d 190 18 ls st M else eb_E L d 190 14 ls st M := eb_E_b hk190 rfl
theorem e190_14 {x : Int32} : eb_E L d 190 14 [v0, v1, some (zi x)] (st) M = eb_E L d 190 15 [v0, v1, some (zi x)] (zi x :: st) M := eb_E_s hk190 rfl
theorem e190_15 {x : Int32} : eb_E L d 190 15 ls (zi x :: st) M = if x < 0 then eb_E L d 190 18 ls st M else eb_E L d 190 22 ls st M := eb_E_b hk190 rfl
theorem e190_18  : eb_E L d 190 18 ls (st) M = eb_E L d 190 19 ls (zi 0 :: st) M := eb_E_s hk190 rfl
theorem e190_19  : eb_E L d 190 19 ls (st) M = eb_E L d 190 23 ls (st) M := eb_E_s hk190 rfl
theorem e190_22 {x : Int32} : eb_E L d 190 22 [v0, v1, some (zi x)] (st) M = eb_E L d 190 23 [v0, v1, some (zi x)] (zi x :: st) M := eb_E_s hk190 rfl
theorem e190_23 {x : Int32} : eb_E L d 190 23 ls ([zi x]) M = some (zi x, M) := eb_E_r hk190 rfl
/-! X6_scoreBy -/
theorem hk191 : eb_cd L 191 = eb_look (kt191 L) := rfl
theorem h191 (ha : (eb_ty L a.1).1 = 6) {x1 : Int32} {x2 : Int32} {x3 : Int32} : eb_ev L (d + 1) 191 [zr a, zi x1, zi x2, zi x3] M = eb_E L d 191 0 [some (zr a), some (zi x1), some (zi x2), some (zi x3), none, none] [] M := eb_ev_s rfl (eb_chk_i ha rfl)
theorem e191_0 {x : Option eb_A} : eb_E L d 191 0 [some (Sum.inr x), v1, v2, v3, v4, v5] (st) M = eb_E L d 191 1 [some (Sum.inr x), v1, v2, v3, v4, v5] (Sum.inr x :: st) M := eb_E_s hk191 rfl
theorem e191_1  : eb_E L d 191 1 ls (Sum.inr (some a) :: st) (nc, ns, I, J, R) = if (eb_ty L a.1).1 = 6 then eb_E L d 191 4 ls (Sum.inr (R a 10) :: st) (nc, ns, I, J, R) else none := eb_E_iy hk191 rfl
theorem e191_4 {x : Int32} : eb_E L d 191 4 [v0, v1, some (zi x), v3, v4, v5] (st) M = eb_E L d 191 5 [v0, v1, some (zi x), v3, v4, v5] (zi x :: st) M := eb_E_s hk191 rfl
theorem e191_5 {x : Int32} : eb_E L d 191 5 ls (zi x :: Sum.inr (some a) :: st) (nc, ns, I, J, R) = if (12 ≤ (eb_ty L a.1).1 ∧ (eb_ty L a.1).1 ≤ 16) ∧ eb_in x (eb_ty L a.1).2 = true then eb_E L d 191 6 ls (Sum.inr (R a x.toNatClampNeg) :: st) (nc, ns, I, J, R) else none := eb_E_iy hk191 rfl
theorem e191_6 {x : Option eb_A} : eb_E L d 191 6 [v0, v1, v2, v3, v4, v5] (Sum.inr x :: st) M = eb_E L d 191 8 [v0, v1, v2, v3, some (Sum.inr x), v5] (st) M := eb_E_s hk191 rfl
theorem e191_8 {x : Option eb_A} : eb_E L d 191 8 [some (Sum.inr x), v1, v2, v3, v4, v5] (st) M = eb_E L d 191 9 [some (Sum.inr x), v1, v2, v3, v4, v5] (Sum.inr x :: st) M := eb_E_s hk191 rfl
theorem e191_9  : eb_E L d 191 9 ls (Sum.inr (some a) :: st) (nc, ns, I, J, R) = if (eb_ty L a.1).1 = 6 then eb_E L d 191 12 ls (Sum.inr (R a 12) :: st) (nc, ns, I, J, R) else none := eb_E_iy hk191 rfl
theorem e191_12 {x : Int32} : eb_E L d 191 12 [v0, some (zi x), v2, v3, v4, v5] (st) M = eb_E L d 191 13 [v0, some (zi x), v2, v3, v4, v5] (zi x :: st) M := eb_E_s hk191 rfl
theorem e191_13 {x : Int32} : eb_E L d 191 13 ls (zi x :: Sum.inr (some a) :: st) (nc, ns, I, J, R) = if (12 ≤ (eb_ty L a.1).1 ∧ (eb_ty L a.1).1 ≤ 16) ∧ eb_in x (eb_ty L a.1).2 = true then eb_E L d 191 14 ls (Sum.inr (R a x.toNatClampNeg) :: st) (nc, ns, I, J, R) else none := eb_E_iy hk191 rfl
theorem e191_14  : eb_E L d 191 14 ls (st) M = eb_E L d 191 15 ls (zi 2 :: st) M := eb_E_s hk191 rfl
theorem e191_15 {x : Int32} : eb_E L d 191 15 ls (zi x :: Sum.inr (some a) :: st) (nc, ns, I, J, R) = if (eb_ty L a.1).1 = 10 ∧ eb_in x (eb_ty L a.1).2 = true then eb_E L d 191 16 ls (zi (I a x.toNatClampNeg) :: st) (nc, ns, I, J, R) else none := eb_E_iy hk191 rfl
theorem e191_16 {x : Int32} : eb_E L d 191 16 [v0, v1, v2, v3, v4, v5] (zi x :: st) M = eb_E L d 191 18 [v0, v1, v2, v3, v4, some (zi x)] (st) M := eb_E_s hk191 rfl
theorem e191_18 {x : Option eb_A} : eb_E L d 191 18 [some (Sum.inr x), v1, v2, v3, v4, v5] (st) M = eb_E L d 191 19 [some (Sum.inr x), v1, v2, v3, v4, v5] (Sum.inr x :: st) M := eb_E_s hk191 rfl
theorem e191_19  : eb_E L d 191 19 ls (Sum.inr (some a) :: st) (nc, ns, I, J, R) = if (eb_ty L a.1).1 = 6 then eb_E L d 191 22 ls (Sum.inr (R a 12) :: st) (nc, ns, I, J, R) else none := eb_E_iy hk191 rfl
theorem e191_22 {x : Int32} : eb_E L d 191 22 [v0, some (zi x), v2, v3, v4, v5] (st) M = eb_E L d 191 23 [v0, some (zi x), v2, v3, v4, v5] (zi x :: st) M := eb_E_s hk191 rfl
theorem e191_23 {x : Int32} : eb_E L d 191 23 ls (zi x :: Sum.inr (some a) :: st) (nc, ns, I, J, R) = if (12 ≤ (eb_ty L a.1).1 ∧ (eb_ty L a.1).1 ≤ 16) ∧ eb_in x (eb_ty L a.1).2 = true then eb_E L d 191 24 ls (Sum.inr (R a x.toNatClampNeg) :: st) (nc, ns, I, J, R) else none := eb_E_iy hk191 rfl
theorem e191_24  : eb_E L d 191 24 ls (st) M = eb_E L d 191 25 ls (zi 0 :: st) M := eb_E_s hk191 rfl
theorem e191_25 {x : Int32} : eb_E L d 191 25 ls (zi x :: Sum.inr (some a) :: st) (nc, ns, I, J, R) = if (eb_ty L a.1).1 = 10 ∧ eb_in x (eb_ty L a.1).2 = true then eb_E L d 191 26 ls (zi (I a x.toNatClampNeg) :: st) (nc, ns, I, J, R) else none := eb_E_iy hk191 rfl
theorem e191_26 {x : Int32} : eb_E L d 191 26 ls (zi x :: st) M = eb_sw x (fun t => eb_E L d 191 t ls st M) 139 [(0, 60), (1, 139), (2, 68), (3, 92), (4, 104)] := eb_E_w hk191 rfl
theorem e191_60  : eb_E L d 191 60 ls (st) M = eb_E L d 191 62 ls (zi 100 :: st) M := eb_E_s hk191 rfl
theorem e191_62 {x : Option eb_A} : eb_E L d 191 62 [v0, v1, v2, v3, some (Sum.inr x), v5] (st) M = eb_E L d 191 64 [v0, v1, v2, v3, some (Sum.inr x), v5] (Sum.inr x :: st) M := eb_E_s hk191 rfl
theorem e191_64  : eb_E L d 191 64 ls (st) M = eb_E L d 191 65 ls (zi 3 :: st) M := eb_E_s hk191 rfl
theorem e191_65 {x : Int32} : eb_E L d 191 65 ls (zi x :: Sum.inr (some a) :: st) (nc, ns, I, J, R) = if (eb_ty L a.1).1 = 10 ∧ eb_in x (eb_ty L a.1).2 = true then eb_E L d 191 66 ls (zi (I a x.toNatClampNeg) :: st) (nc, ns, I, J, R) else none := eb_E_iy hk191 rfl
theorem e191_66 {x : Int32} {y : Int32} : eb_E L d 191 66 ls (zi y :: zi x :: st) M = eb_E L d 191 67 ls (zi (x - y) :: st) M := eb_E_s hk191 rfl
theorem e191_67 {x : Int32} : eb_E L d 191 67 ls ([zi x]) M = some (zi x, M) := eb_E_r hk191 rfl
theorem e191_68 {x : Int32} : eb_E L d 191 68 [v0, v1, v2, some (zi x), v4, v5] (st) M = eb_E L d 191 69 [v0, v1, v2, some (zi x), v4, v5] (zi x :: st) M := eb_E_s hk191 rfl
theorem e191_69  : eb_E L d 191 69 ls (st) M = eb_E L d 191 70 ls (zi (-1) :: st) M := eb_E_s hk191 rfl
theorem e191_70 {x : Int32} {y : Int32} : eb_E L d 191 70 ls (zi y :: zi x :: st) M = if x = y then eb_E L d 191 73 ls st M else eb_E L d 191 83 ls st M := eb_E_b hk191 rfl
theorem e191_73  : eb_E L d 191 73 ls (st) M = eb_E L d 191 75 ls (zi 100 :: st) M := eb_E_s hk191 rfl
theorem e191_75 {x : Option eb_A} : eb_E L d 191 75 [v0, v1, v2, v3, some (Sum.inr x), v5] (st) M = eb_E L d 191 77 [v0, v1, v2, v3, some (Sum.inr x), v5] (Sum.inr x :: st) M := eb_E_s hk191 rfl
theorem e191_77  : eb_E L d 191 77 ls (st) M = eb_E L d 191 78 ls (zi 3 :: st) M := eb_E_s hk191 rfl
theorem e191_78 {x : Int32} : eb_E L d 191 78 ls (zi x :: Sum.inr (some a) :: st) (nc, ns, I, J, R) = if (eb_ty L a.1).1 = 10 ∧ eb_in x (eb_ty L a.1).2 = true then eb_E L d 191 79 ls (zi (I a x.toNatClampNeg) :: st) (nc, ns, I, J, R) else none := eb_E_iy hk191 rfl
theorem e191_79 {x : Int32} {y : Int32} : eb_E L d 191 79 ls (zi y :: zi x :: st) M = eb_E L d 191 80 ls (zi (x - y) :: st) M := eb_E_s hk191 rfl
theorem e191_80  : eb_E L d 191 80 ls (st) M = eb_E L d 191 91 ls (st) M := eb_E_s hk191 rfl
theorem e191_83 {x : Option eb_A} : eb_E L d 191 83 [some (Sum.inr x), v1, v2, v3, v4, v5] (st) M = eb_E L d 191 84 [some (Sum.inr x), v1, v2, v3, v4, v5] (Sum.inr x :: st) M := eb_E_s hk191 rfl
theorem e191_84 {x : Int32} : eb_E L d 191 84 [v0, v1, v2, some (zi x), v4, v5] (st) M = eb_E L d 191 85 [v0, v1, v2, some (zi x), v4, v5] (zi x :: st) M := eb_E_s hk191 rfl
theorem e191_85  : eb_E L d 191 85 ls ([a1, a0]) M = (eb_ev L d 190 [a0, a1] M).bind (fun q => eb_E L d 191 88 ls [q.1] q.2) := eb_E_c hk191 rfl
theorem e191_88 {x : Int32} : eb_E L d 191 88 [v0, v1, v2, v3, v4, some (zi x)] (st) M = eb_E L d 191 90 [v0, v1, v2, v3, v4, some (zi x)] (zi x :: st) M := eb_E_s hk191 rfl
theorem e191_90 {x : Int32} {y : Int32} : eb_E L d 191 90 ls (zi y :: zi x :: st) M = eb_E L d 191 91 ls (zi (x - y) :: st) M := eb_E_s hk191 rfl
theorem e191_91 {x : Int32} : eb_E L d 191 91 ls ([zi x]) M = some (zi x, M) := eb_E_r hk191 rfl
theorem e191_92 {x : Option eb_A} : eb_E L d 191 92 [v0, v1, v2, v3, some (Sum.inr x), v5] (st) M = eb_E L d 191 94 [v0, v1, v2, v3, some (Sum.inr x), v5] (Sum.inr x :: st) M := eb_E_s hk191 rfl
theorem e191_94  : eb_E L d 191 94 ls (st) M = eb_E L d 191 95 ls (zi 0 :: st) M := eb_E_s hk191 rfl
theorem e191_95 {x : Int32} : eb_E L d 191 95 ls (zi x :: Sum.inr (some a) :: st) (nc, ns, I, J, R) = if (eb_ty L a.1).1 = 10 ∧ eb_in x (eb_ty L a.1).2 = true then eb_E L d 191 96 ls (zi (I a x.toNatClampNeg) :: st) (nc, ns, I, J, R) else none := eb_E_iy hk191 rfl
theorem e191_96 {x : Option eb_A} : eb_E L d 191 96 [v0, v1, v2, v3, some (Sum.inr x), v5] (st) M = eb_E L d 191 98 [v0, v1, v2, v3, some (Sum.inr x), v5] (Sum.inr x :: st) M := eb_E_s hk191 rfl
theorem e191_98  : eb_E L d 191 98 ls (st) M = eb_E L d 191 99 ls (zi 3 :: st) M := eb_E_s hk191 rfl
theorem e191_99 {x : Int32} : eb_E L d 191 99 ls (zi x :: Sum.inr (some a) :: st) (nc, ns, I, J, R) = if (eb_ty L a.1).1 = 10 ∧ eb_in x (eb_ty L a.1).2 = true then eb_E L d 191 100 ls (zi (I a x.toNatClampNeg) :: st) (nc, ns, I, J, R) else none := eb_E_iy hk191 rfl
theorem e191_100  : eb_E L d 191 100 ls (st) M = eb_E L d 191 101 ls (zi 2 :: st) M := eb_E_s hk191 rfl
theorem e191_101 {x : Int32} {y : Int32} : eb_E L d 191 101 ls (zi y :: zi x :: st) M = if y = 0 then none else eb_E L d 191 102 ls (zi (x / y) :: st) M := eb_E_in hk191 rfl
theorem e191_102 {x : Int32} {y : Int32} : eb_E L d 191 102 ls (zi y :: zi x :: st) M = eb_E L d 191 103 ls (zi (x - y) :: st) M := eb_E_s hk191 rfl
theorem e191_103 {x : Int32} : eb_E L d 191 103 ls ([zi x]) M = some (zi x, M) := eb_E_r hk191 rfl
theorem e191_104 {x : Option eb_A} : eb_E L d 191 104 [v0, v1, v2, v3, some (Sum.inr x), v5] (st) M = eb_E L d 191 106 [v0, v1, v2, v3, some (Sum.inr x), v5] (Sum.inr x :: st) M := eb_E_s hk191 rfl
theorem e191_106  : eb_E L d 191 106 ls (st) M = eb_E L d 191 107 ls (zi 5 :: st) M := eb_E_s hk191 rfl
theorem e191_107 {x : Int32} : eb_E L d 191 107 ls (zi x :: Sum.inr (some a) :: st) (nc, ns, I, J, R) = if (eb_ty L a.1).1 = 10 ∧ eb_in x (eb_ty L a.1).2 = true then eb_E L d 191 108 ls (zi (I a x.toNatClampNeg) :: st) (nc, ns, I, J, R) else none := eb_E_iy hk191 rfl
theorem e191_108 {x : Int32} : eb_E L d 191 108 [v0, v1, v2, v3, v4, some (zi x)] (st) M = eb_E L d 191 110 [v0, v1, v2, v3, v4, some (zi x)] (zi x :: st) M := eb_E_s hk191 rfl
theorem e191_110 {x : Int32} {y : Int32} : eb_E L d 191 110 ls (zi y :: zi x :: st) M = if x < y then eb_E L d 191 133 ls st M else eb_E L d 191 113 ls st M := eb_E_b hk191 rfl
theorem e191_113 {x : Option eb_A} : eb_E L d 191 113 [v0, v1, v2, v3, some (Sum.inr x), v5] (st) M = eb_E L d 191 115 [v0, v1, v2, v3, some (Sum.inr x), v5] (Sum.inr x :: st) M := eb_E_s hk191 rfl
theorem e191_115  : eb_E L d 191 115 ls (st) M = eb_E L d 191 116 ls (zi 5 :: st) M := eb_E_s hk191 rfl
theorem e191_116 {x : Int32} : eb_E L d 191 116 ls (zi x :: Sum.inr (some a) :: st) (nc, ns, I, J, R) = if (eb_ty L a.1).1 = 10 ∧ eb_in x (eb_ty L a.1).2 = true then eb_E L d 191 117 ls (zi (I a x.toNatClampNeg) :: st) (nc, ns, I, J, R) else none := eb_E_iy hk191 rfl
theorem e191_117 {x : Int32} : eb_E L d 191 117 ls (zi x :: st) M = if 0 < x then eb_E L d 191 120 ls st M else eb_E L d 191 133 ls st M := eb_E_b hk191 rfl
theorem e191_120 {x : Option eb_A} : eb_E L d 191 120 [v0, v1, v2, v3, some (Sum.inr x), v5] (st) M = eb_E L d 191 122 [v0, v1, v2, v3, some (Sum.inr x), v5] (Sum.inr x :: st) M := eb_E_s hk191 rfl
theorem e191_122  : eb_E L d 191 122 ls (st) M = eb_E L d 191 124 ls (zi 6 :: st) M := eb_E_s hk191 rfl
theorem e191_124 {x : Int32} : eb_E L d 191 124 ls (zi x :: Sum.inr (some a) :: st) (nc, ns, I, J, R) = if (eb_ty L a.1).1 = 10 ∧ eb_in x (eb_ty L a.1).2 = true then eb_E L d 191 125 ls (zi (I a x.toNatClampNeg) :: st) (nc, ns, I, J, R) else none := eb_E_iy hk191 rfl
theorem e191_125 {x : Option eb_A} : eb_E L d 191 125 [v0, v1, v2, v3, some (Sum.inr x), v5] (st) M = eb_E L d 191 127 [v0, v1, v2, v3, some (Sum.inr x), v5] (Sum.inr x :: st) M := eb_E_s hk191 rfl
theorem e191_127  : eb_E L d 191 127 ls (st) M = eb_E L d 191 128 ls (zi 5 :: st) M := eb_E_s hk191 rfl
theorem e191_128 {x : Int32} : eb_E L d 191 128 ls (zi x :: Sum.inr (some a) :: st) (nc, ns, I, J, R) = if (eb_ty L a.1).1 = 10 ∧ eb_in x (eb_ty L a.1).2 = true then eb_E L d 191 129 ls (zi (I a x.toNatClampNeg) :: st) (nc, ns, I, J, R) else none := eb_E_iy hk191 rfl
theorem e191_129 {x : Int32} {y : Int32} : eb_E L d 191 129 ls (zi y :: zi x :: st) M = if y = 0 then none else eb_E L d 191 130 ls (zi (x / y) :: st) M := eb_E_in hk191 rfl
theorem e191_130  : eb_E L d 191 130 ls (st) M = eb_E L d 191 138 ls (st) M := eb_E_s hk191 rfl
theorem e191_133 {x : Option eb_A} : eb_E L d 191 133 [some (Sum.inr x), v1, v2, v3, v4, v5] (st) M = eb_E L d 191 134 [some (Sum.inr x), v1, v2, v3, v4, v5] (Sum.inr x :: st) M := eb_E_s hk191 rfl
theorem e191_134 {x : Int32} : eb_E L d 191 134 [v0, v1, v2, some (zi x), v4, v5] (st) M = eb_E L d 191 135 [v0, v1, v2, some (zi x), v4, v5] (zi x :: st) M := eb_E_s hk191 rfl
theorem e191_135  : eb_E L d 191 135 ls ([a1, a0]) M = (eb_ev L d 190 [a0, a1] M).bind (fun q => eb_E L d 191 138 ls [q.1] q.2) := eb_E_c hk191 rfl
theorem e191_138 {x : Int32} : eb_E L d 191 138 ls ([zi x]) M = some (zi x, M) := eb_E_r hk191 rfl
theorem e191_139 {x : Option eb_A} : eb_E L d 191 139 [some (Sum.inr x), v1, v2, v3, v4, v5] (st) M = eb_E L d 191 140 [some (Sum.inr x), v1, v2, v3, v4, v5] (Sum.inr x :: st) M := eb_E_s hk191 rfl
theorem e191_140 {x : Int32} : eb_E L d 191 140 [v0, v1, v2, some (zi x), v4, v5] (st) M = eb_E L d 191 141 [v0, v1, v2, some (zi x), v4, v5] (zi x :: st) M := eb_E_s hk191 rfl
theorem e191_141  : eb_E L d 191 141 ls ([a1, a0]) M = (eb_ev L d 190 [a0, a1] M).bind (fun q => eb_E L d 191 144 ls [q.1] q.2) := eb_E_c hk191 rfl
theorem e191_144 {x : Int32} : eb_E L d 191 144 ls ([zi x]) M = some (zi x, M) := eb_E_r hk191 rfl
/-! X6_scoreOf -/
theorem hk192 : eb_cd L 192 = eb_look (kt192 L) := rfl
theorem h192 (ha : (eb_ty L a.1).1 = 6) {x1 : Int32} {x2 : Int32} : eb_ev L (d + 1) 192 [zr a, zi x1, zi x2] M = eb_E L d 192 0 [some (zr a), some (zi x1), some (zi x2)] [] M := eb_ev_s rfl (eb_chk_i ha rfl)
theorem e192_0 {x : Option eb_A} : eb_E L d 192 0 [some (Sum.inr x), v1, v2] (st) M = eb_E L d 192 1 [some (Sum.inr x), v1, v2] (Sum.inr x :: st) M := eb_E_s hk192 rfl
theorem e192_1 {x : Int32} : eb_E L d 192 1 [v0, some (zi x), v2] (st) M = eb_E L d 192 2 [v0, some (zi x), v2] (zi x :: st) M := eb_E_s hk192 rfl
theorem e192_2 {x : Int32} : eb_E L d 192 2 [v0, v1, some (zi x)] (st) M = eb_E L d 192 3 [v0, v1, some (zi x)] (zi x :: st) M := eb_E_s hk192 rfl
theorem e192_3 {x : Option eb_A} : eb_E L d 192 3 [some (Sum.inr x), v1, v2] (st) M = eb_E L d 192 4 [some (Sum.inr x), v1, v2] (Sum.inr x :: st) M := eb_E_s hk192 rfl
theorem e192_4  : eb_E L d 192 4 ls (Sum.inr (some a) :: st) (nc, ns, I, J, R) = if (eb_ty L a.1).1 = 6 then eb_E L d 192 7 ls (Sum.inr (R a 10) :: st) (nc, ns, I, J, R) else none := eb_E_iy hk192 rfl
theorem e192_7 {x : Int32} : eb_E L d 192 7 [v0, v1, some (zi x)] (st) M = eb_E L d 192 8 [v0, v1, some (zi x)] (zi x :: st) M := eb_E_s hk192 rfl
theorem e192_8 {x : Int32} : eb_E L d 192 8 ls (zi x :: Sum.inr (some a) :: st) (nc, ns, I, J, R) = if (12 ≤ (eb_ty L a.1).1 ∧ (eb_ty L a.1).1 ≤ 16) ∧ eb_in x (eb_ty L a.1).2 = true then eb_E L d 192 9 ls (Sum.inr (R a x.toNatClampNeg) :: st) (nc, ns, I, J, R) else none := eb_E_iy hk192 rfl
theorem e192_9  : eb_E L d 192 9 ls (st) M = eb_E L d 192 10 ls (zi 4 :: st) M := eb_E_s hk192 rfl
theorem e192_10 {x : Int32} : eb_E L d 192 10 ls (zi x :: Sum.inr (some a) :: st) (nc, ns, I, J, R) = if (eb_ty L a.1).1 = 10 ∧ eb_in x (eb_ty L a.1).2 = true then eb_E L d 192 11 ls (zi (I a x.toNatClampNeg) :: st) (nc, ns, I, J, R) else none := eb_E_iy hk192 rfl
theorem e192_11  : eb_E L d 192 11 ls ([a3, a2, a1, a0]) M = (eb_ev L d 191 [a0, a1, a2, a3] M).bind (fun q => eb_E L d 192 14 ls [q.1] q.2) := eb_E_c hk192 rfl
theorem e192_14 {x : Int32} : eb_E L d 192 14 ls ([zi x]) M = some (zi x, M) := eb_E_r hk192 rfl
/-! X6_score -/
theorem hk193 : eb_cd L 193 = eb_look (kt193 L) := rfl
theorem h193 (ha : (eb_ty L a.1).1 = 6) {x1 : Int32} {x2 : Int32} : eb_ev L (d + 1) 193 [zr a, zi x1, zi x2] M = eb_E L d 193 0 [some (zr a), some (zi x1), some (zi x2)] [] M := eb_ev_s rfl (eb_chk_i ha rfl)
theorem e193_0 {x : Option eb_A} : eb_E L d 193 0 [some (Sum.inr x), v1, v2] (st) M = eb_E L d 193 1 [some (Sum.inr x), v1, v2] (Sum.inr x :: st) M := eb_E_s hk193 rfl
theorem e193_1 {x : Int32} : eb_E L d 193 1 [v0, some (zi x), v2] (st) M = eb_E L d 193 2 [v0, some (zi x), v2] (zi x :: st) M := eb_E_s hk193 rfl
theorem e193_2  : eb_E L d 193 2 ls ([a1, a0]) M = (eb_ev L d 149 [a0, a1] M).bind (fun q => eb_E L d 193 5 ls [q.1] q.2) := eb_E_c hk193 rfl
theorem e193_5 {x : Int32} : eb_E L d 193 5 ls (zi x :: st) M = if x = 0 then eb_E L d 193 25 ls st M else eb_E L d 193 8 ls st M := eb_E_b hk193 rfl
theorem e193_8 {x : Option eb_A} : eb_E L d 193 8 [some (Sum.inr x), v1, v2] (st) M = eb_E L d 193 9 [some (Sum.inr x), v1, v2] (Sum.inr x :: st) M := eb_E_s hk193 rfl
theorem e193_9 {x : Int32} : eb_E L d 193 9 [v0, v1, some (zi x)] (st) M = eb_E L d 193 10 [v0, v1, some (zi x)] (zi x :: st) M := eb_E_s hk193 rfl
theorem e193_10  : eb_E L d 193 10 ls ([a1, a0]) M = (eb_ev L d 148 [a0, a1] M).bind (fun q => eb_E L d 193 13 ls [q.1] q.2) := eb_E_c hk193 rfl
theorem e193_13 {x : Int32} : eb_E L d 193 13 ls (zi x :: st) M = if x = 0 then eb_E L d 193 25 ls st M else eb_E L d 193 16 ls st M := eb_E_b hk193 rfl
theorem e193_16 {x : Option eb_A} : eb_E L d 193 16 [some (Sum.inr x), v1, v2] (st) M = eb_E L d 193 17 [some (Sum.inr x), v1, v2] (Sum.inr x :: st) M := eb_E_s hk193 rfl
theorem e193_17 {x : Int32} : eb_E L d 193 17 [v0, some (zi x), v2] (st) M = eb_E L d 193 18 [v0, some (zi x), v2] (zi x :: st) M := eb_E_s hk193 rfl
theorem e193_18 {x : Int32} : eb_E L d 193 18 [v0, v1, some (zi x)] (st) M = eb_E L d 193 19 [v0, v1, some (zi x)] (zi x :: st) M := eb_E_s hk193 rfl
theorem e193_19  : eb_E L d 193 19 ls ([a2, a1, a0]) M = (eb_ev L d 192 [a0, a1, a2] M).bind (fun q => eb_E L d 193 22 ls [q.1] q.2) := eb_E_c hk193 rfl
theorem e193_22  : eb_E L d 193 22 ls (st) M = eb_E L d 193 34 ls (st) M := eb_E_s hk193 rfl
theorem e193_25  : eb_E L d 193 25 ls (st) M = eb_E L d 193 27 ls (zi (-1000000) :: st) M := eb_E_s hk193 rfl
theorem e193_27 {x : Option eb_A} : eb_E L d 193 27 [some (Sum.inr x), v1, v2] (st) M = eb_E L d 193 28 [some (Sum.inr x), v1, v2] (Sum.inr x :: st) M := eb_E_s hk193 rfl
theorem e193_28  : eb_E L d 193 28 ls (st) M = eb_E L d 193 30 ls (zi (-2) :: st) M := eb_E_s hk193 rfl
theorem e193_30 {s0 : Int32} : eb_E L d 193 30 ls ([a1, a0, zi s0]) M = (eb_ev L d 145 [a0, a1] M).bind (fun q => eb_E L d 193 33 ls [q.1, zi s0] q.2) := eb_E_c hk193 rfl
theorem e193_33 {x : Int32} {y : Int32} : eb_E L d 193 33 ls (zi y :: zi x :: st) M = eb_E L d 193 34 ls (zi (x + y) :: st) M := eb_E_s hk193 rfl
theorem e193_34 {x : Int32} : eb_E L d 193 34 ls ([zi x]) M = some (zi x, M) := eb_E_r hk193 rfl
/-! X6_choiceOf -/
theorem hk194 : eb_cd L 194 = eb_look (kt194 L) := rfl
theorem h194 (ha : (eb_ty L a.1).1 = 6) {x1 : Int32} : eb_ev L (d + 1) 194 [zr a, zi x1] M = eb_E L d 194 0 [some (zr a), some (zi x1), none, none] [] M := eb_ev_s rfl (eb_chk_i ha rfl)
theorem e194_0  : eb_E L d 194 0 ls (st) M = eb_E L d 194 1 ls (zi (-1) :: st) M := eb_E_s hk194 rfl
theorem e194_1 {x : Int32} : eb_E L d 194 1 [v0, v1, v2, v3] (zi x :: st) M = eb_E L d 194 2 [v0, v1, some (zi x), v3] (st) M := eb_E_s hk194 rfl
theorem e194_2  : eb_E L d 194 2 ls (st) M = eb_E L d 194 3 ls (zi 0 :: st) M := eb_E_s hk194 rfl
theorem e194_3 {x : Int32} : eb_E L d 194 3 [v0, v1, v2, v3] (zi x :: st) M = eb_E L d 194 4 [v0, v1, v2, some (zi x)] (st) M := eb_E_s hk194 rfl
theorem e194_4 {x : Int32} : eb_E L d 194 4 [v0, v1, v2, some (zi x)] (st) M = eb_E L d 194 5 [v0, v1, v2, some (zi x)] (zi x :: st) M := eb_E_s hk194 rfl
theorem e194_5 {x : Option eb_A} : eb_E L d 194 5 [some (Sum.inr x), v1, v2, v3] (st) M = eb_E L d 194 6 [some (Sum.inr x), v1, v2, v3] (Sum.inr x :: st) M := eb_E_s hk194 rfl
theorem e194_6  : eb_E L d 194 6 ls (Sum.inr (some a) :: st) (nc, ns, I, J, R) = if (eb_ty L a.1).1 = 6 then eb_E L d 194 9 ls (zi (I a 9) :: st) (nc, ns, I, J, R) else none := eb_E_iy hk194 rfl
theorem e194_9 {x : Int32} {y : Int32} : eb_E L d 194 9 ls (zi y :: zi x :: st) M = if x < y then eb_E L d 194 12 ls st M else eb_E L d 194 44 ls st M := eb_E_b hk194 rfl
theorem e194_12 {x : Int32} : eb_E L d 194 12 [v0, v1, some (zi x), v3] (st) M = eb_E L d 194 13 [v0, v1, some (zi x), v3] (zi x :: st) M := eb_E_s hk194 rfl
theorem e194_13  : eb_E L d 194 13 ls (st) M = eb_E L d 194 14 ls (zi (-1) :: st) M := eb_E_s hk194 rfl
theorem e194_14 {x : Int32} {y : Int32} : eb_E L d 194 14 ls (zi y :: zi x :: st) M = if x = y then eb_E L d 194 32 ls st M else eb_E L d 194 17 ls st M := eb_E_b hk194 rfl
theorem e194_17 {x : Option eb_A} : eb_E L d 194 17 [some (Sum.inr x), v1, v2, v3] (st) M = eb_E L d 194 18 [some (Sum.inr x), v1, v2, v3] (Sum.inr x :: st) M := eb_E_s hk194 rfl
theorem e194_18 {x : Int32} : eb_E L d 194 18 [v0, some (zi x), v2, v3] (st) M = eb_E L d 194 19 [v0, some (zi x), v2, v3] (zi x :: st) M := eb_E_s hk194 rfl
theorem e194_19 {x : Int32} : eb_E L d 194 19 [v0, v1, v2, some (zi x)] (st) M = eb_E L d 194 20 [v0, v1, v2, some (zi x)] (zi x :: st) M := eb_E_s hk194 rfl
theorem e194_20  : eb_E L d 194 20 ls ([a2, a1, a0]) M = (eb_ev L d 192 [a0, a1, a2] M).bind (fun q => eb_E L d 194 23 ls [q.1] q.2) := eb_E_c hk194 rfl
theorem e194_23 {x : Option eb_A} : eb_E L d 194 23 [some (Sum.inr x), v1, v2, v3] (st) M = eb_E L d 194 24 [some (Sum.inr x), v1, v2, v3] (Sum.inr x :: st) M := eb_E_s hk194 rfl
theorem e194_24 {x : Int32} : eb_E L d 194 24 [v0, some (zi x), v2, v3] (st) M = eb_E L d 194 25 [v0, some (zi x), v2, v3] (zi x :: st) M := eb_E_s hk194 rfl
theorem e194_25 {x : Int32} : eb_E L d 194 25 [v0, v1, some (zi x), v3] (st) M = eb_E L d 194 26 [v0, v1, some (zi x), v3] (zi x :: st) M := eb_E_s hk194 rfl
theorem e194_26 {s0 : Int32} : eb_E L d 194 26 ls ([a2, a1, a0, zi s0]) M = (eb_ev L d 192 [a0, a1, a2] M).bind (fun q => eb_E L d 194 29 ls [q.1, zi s0] q.2) := eb_E_c hk194 rfl
theorem e194_29 {x : Int32} {y : Int32} : eb_E L d 194 29 ls (zi y :: zi x :: st) M = if y < x then eb_E L d 194 32 ls st M else eb_E L d 194 36 ls st M := eb_E_b hk194 rfl
theorem e194_32 {x : Int32} : eb_E L d 194 32 [v0, v1, v2, some (zi x)] (st) M = eb_E L d 194 33 [v0, v1, v2, some (zi x)] (zi x :: st) M := eb_E_s hk194 rfl
theorem e194_33  : eb_E L d 194 33 ls (st) M = eb_E L d 194 37 ls (st) M := eb_E_s hk194 rfl
theorem e194_36 {x : Int32} : eb_E L d 194 36 [v0, v1, some (zi x), v3] (st) M = eb_E L d 194 37 [v0, v1, some (zi x), v3] (zi x :: st) M := eb_E_s hk194 rfl
theorem e194_37 {x : Int32} : eb_E L d 194 37 [v0, v1, v2, v3] (zi x :: st) M = eb_E L d 194 38 [v0, v1, some (zi x), v3] (st) M := eb_E_s hk194 rfl
theorem e194_38 {x : Int32} : eb_E L d 194 38 [v0, v1, v2, some (zi x)] (st) M = eb_E L d 194 41 [v0, v1, v2, some (zi (x + 1))] (st) M := eb_E_s hk194 rfl
theorem e194_41  : eb_E L d 194 41 ls (st) M = eb_E L d 194 4 ls (st) M := eb_E_s hk194 rfl
theorem e194_44 {x : Int32} : eb_E L d 194 44 [v0, v1, some (zi x), v3] (st) M = eb_E L d 194 45 [v0, v1, some (zi x), v3] (zi x :: st) M := eb_E_s hk194 rfl
theorem e194_45 {x : Int32} : eb_E L d 194 45 ls ([zi x]) M = some (zi x, M) := eb_E_r hk194 rfl
/-! X6_startNight -/
theorem hk195 : eb_cd L 195 = eb_look (kt195 L) := rfl
theorem h195 (ha : (eb_ty L a.1).1 = 6) : eb_ev L (d + 1) 195 [zr a] M = eb_E L d 195 0 [some (zr a), none, none] [] M := eb_ev_s rfl (eb_chk_i ha rfl)
theorem e195_0  : eb_E L d 195 0 ls (st) M = eb_E L d 195 1 ls (zi 0 :: st) M := eb_E_s hk195 rfl
theorem e195_1 {x : Int32} : eb_E L d 195 1 [v0, v1, v2] (zi x :: st) M = eb_E L d 195 2 [v0, some (zi x), v2] (st) M := eb_E_s hk195 rfl
theorem e195_2 {x : Int32} : eb_E L d 195 2 [v0, some (zi x), v2] (st) M = eb_E L d 195 3 [v0, some (zi x), v2] (zi x :: st) M := eb_E_s hk195 rfl
theorem e195_3 {x : Option eb_A} : eb_E L d 195 3 [some (Sum.inr x), v1, v2] (st) M = eb_E L d 195 4 [some (Sum.inr x), v1, v2] (Sum.inr x :: st) M := eb_E_s hk195 rfl
theorem e195_4  : eb_E L d 195 4 ls (Sum.inr (some a) :: st) (nc, ns, I, J, R) = if (eb_ty L a.1).1 = 6 then eb_E L d 195 7 ls (zi (I a 9) :: st) (nc, ns, I, J, R) else none := eb_E_iy hk195 rfl
theorem e195_7 {x : Int32} {y : Int32} : eb_E L d 195 7 ls (zi y :: zi x :: st) M = if x < y then eb_E L d 195 10 ls st M else eb_E L d 195 44 ls st M := eb_E_b hk195 rfl
theorem e195_10 {x : Option eb_A} : eb_E L d 195 10 [some (Sum.inr x), v1, v2] (st) M = eb_E L d 195 11 [some (Sum.inr x), v1, v2] (Sum.inr x :: st) M := eb_E_s hk195 rfl
theorem e195_11  : eb_E L d 195 11 ls (Sum.inr (some a) :: st) (nc, ns, I, J, R) = if (eb_ty L a.1).1 = 6 then eb_E L d 195 14 ls (Sum.inr (R a 27) :: st) (nc, ns, I, J, R) else none := eb_E_iy hk195 rfl
theorem e195_14 {x : Int32} : eb_E L d 195 14 [v0, some (zi x), v2] (st) M = eb_E L d 195 15 [v0, some (zi x), v2] (zi x :: st) M := eb_E_s hk195 rfl
theorem e195_15 {x : Option eb_A} : eb_E L d 195 15 [some (Sum.inr x), v1, v2] (st) M = eb_E L d 195 16 [some (Sum.inr x), v1, v2] (Sum.inr x :: st) M := eb_E_s hk195 rfl
theorem e195_16  : eb_E L d 195 16 ls (Sum.inr (some a) :: st) (nc, ns, I, J, R) = if (eb_ty L a.1).1 = 6 then eb_E L d 195 19 ls (Sum.inr (R a 10) :: st) (nc, ns, I, J, R) else none := eb_E_iy hk195 rfl
theorem e195_19 {x : Int32} : eb_E L d 195 19 [v0, some (zi x), v2] (st) M = eb_E L d 195 20 [v0, some (zi x), v2] (zi x :: st) M := eb_E_s hk195 rfl
theorem e195_20 {x : Int32} : eb_E L d 195 20 ls (zi x :: Sum.inr (some a) :: st) (nc, ns, I, J, R) = if (12 ≤ (eb_ty L a.1).1 ∧ (eb_ty L a.1).1 ≤ 16) ∧ eb_in x (eb_ty L a.1).2 = true then eb_E L d 195 21 ls (Sum.inr (R a x.toNatClampNeg) :: st) (nc, ns, I, J, R) else none := eb_E_iy hk195 rfl
theorem e195_21  : eb_E L d 195 21 ls (st) M = eb_E L d 195 22 ls (zi 2 :: st) M := eb_E_s hk195 rfl
theorem e195_22 {x : Int32} : eb_E L d 195 22 ls (zi x :: Sum.inr (some a) :: st) (nc, ns, I, J, R) = if (eb_ty L a.1).1 = 10 ∧ eb_in x (eb_ty L a.1).2 = true then eb_E L d 195 23 ls (zi (I a x.toNatClampNeg) :: st) (nc, ns, I, J, R) else none := eb_E_iy hk195 rfl
theorem e195_23 {x : Int32} {v : Int32} : eb_E L d 195 23 ls (zi v :: zi x :: Sum.inr (some a) :: st) (nc, ns, I, J, R) = if (eb_ty L a.1).1 = 10 ∧ eb_in x (eb_ty L a.1).2 = true then eb_E L d 195 24 ls (st) (nc, ns, eb_u I a x.toNatClampNeg v, J, R) else none := eb_E_iy hk195 rfl
theorem e195_24 {x : Option eb_A} : eb_E L d 195 24 [some (Sum.inr x), v1, v2] (st) M = eb_E L d 195 25 [some (Sum.inr x), v1, v2] (Sum.inr x :: st) M := eb_E_s hk195 rfl
theorem e195_25  : eb_E L d 195 25 ls (Sum.inr (some a) :: st) (nc, ns, I, J, R) = if (eb_ty L a.1).1 = 6 then eb_E L d 195 28 ls (Sum.inr (R a 28) :: st) (nc, ns, I, J, R) else none := eb_E_iy hk195 rfl
theorem e195_28 {x : Int32} : eb_E L d 195 28 [v0, some (zi x), v2] (st) M = eb_E L d 195 29 [v0, some (zi x), v2] (zi x :: st) M := eb_E_s hk195 rfl
theorem e195_29 {x : Option eb_A} : eb_E L d 195 29 [some (Sum.inr x), v1, v2] (st) M = eb_E L d 195 30 [some (Sum.inr x), v1, v2] (Sum.inr x :: st) M := eb_E_s hk195 rfl
theorem e195_30  : eb_E L d 195 30 ls (Sum.inr (some a) :: st) (nc, ns, I, J, R) = if (eb_ty L a.1).1 = 6 then eb_E L d 195 33 ls (Sum.inr (R a 10) :: st) (nc, ns, I, J, R) else none := eb_E_iy hk195 rfl
theorem e195_33 {x : Int32} : eb_E L d 195 33 [v0, some (zi x), v2] (st) M = eb_E L d 195 34 [v0, some (zi x), v2] (zi x :: st) M := eb_E_s hk195 rfl
theorem e195_34 {x : Int32} : eb_E L d 195 34 ls (zi x :: Sum.inr (some a) :: st) (nc, ns, I, J, R) = if (12 ≤ (eb_ty L a.1).1 ∧ (eb_ty L a.1).1 ≤ 16) ∧ eb_in x (eb_ty L a.1).2 = true then eb_E L d 195 35 ls (Sum.inr (R a x.toNatClampNeg) :: st) (nc, ns, I, J, R) else none := eb_E_iy hk195 rfl
theorem e195_35  : eb_E L d 195 35 ls (st) M = eb_E L d 195 36 ls (zi 4 :: st) M := eb_E_s hk195 rfl
theorem e195_36 {x : Int32} : eb_E L d 195 36 ls (zi x :: Sum.inr (some a) :: st) (nc, ns, I, J, R) = if (eb_ty L a.1).1 = 10 ∧ eb_in x (eb_ty L a.1).2 = true then eb_E L d 195 37 ls (zi (I a x.toNatClampNeg) :: st) (nc, ns, I, J, R) else none := eb_E_iy hk195 rfl
theorem e195_37 {x : Int32} {v : Int32} : eb_E L d 195 37 ls (zi v :: zi x :: Sum.inr (some a) :: st) (nc, ns, I, J, R) = if (eb_ty L a.1).1 = 10 ∧ eb_in x (eb_ty L a.1).2 = true then eb_E L d 195 38 ls (st) (nc, ns, eb_u I a x.toNatClampNeg v, J, R) else none := eb_E_iy hk195 rfl
theorem e195_38 {x : Int32} : eb_E L d 195 38 [v0, some (zi x), v2] (st) M = eb_E L d 195 41 [v0, some (zi (x + 1)), v2] (st) M := eb_E_s hk195 rfl
theorem e195_41  : eb_E L d 195 41 ls (st) M = eb_E L d 195 2 ls (st) M := eb_E_s hk195 rfl
theorem e195_44  : eb_E L d 195 44 ls (st) M = eb_E L d 195 45 ls (zi 0 :: st) M := eb_E_s hk195 rfl
theorem e195_45 {x : Int32} : eb_E L d 195 45 [v0, v1, v2] (zi x :: st) M = eb_E L d 195 46 [v0, some (zi x), v2] (st) M := eb_E_s hk195 rfl
theorem e195_46 {x : Int32} : eb_E L d 195 46 [v0, some (zi x), v2] (st) M = eb_E L d 195 47 [v0, some (zi x), v2] (zi x :: st) M := eb_E_s hk195 rfl
theorem e195_47 {x : Option eb_A} : eb_E L d 195 47 [some (Sum.inr x), v1, v2] (st) M = eb_E L d 195 48 [some (Sum.inr x), v1, v2] (Sum.inr x :: st) M := eb_E_s hk195 rfl
theorem e195_48  : eb_E L d 195 48 ls (Sum.inr (some a) :: st) (nc, ns, I, J, R) = if (eb_ty L a.1).1 = 6 then eb_E L d 195 51 ls (zi (I a 11) :: st) (nc, ns, I, J, R) else none := eb_E_iy hk195 rfl
theorem e195_51 {x : Int32} {y : Int32} : eb_E L d 195 51 ls (zi y :: zi x :: st) M = if x < y then eb_E L d 195 54 ls st M else eb_E L d 195 90 ls st M := eb_E_b hk195 rfl
theorem e195_54 {x : Option eb_A} : eb_E L d 195 54 [some (Sum.inr x), v1, v2] (st) M = eb_E L d 195 55 [some (Sum.inr x), v1, v2] (Sum.inr x :: st) M := eb_E_s hk195 rfl
theorem e195_55  : eb_E L d 195 55 ls (Sum.inr (some a) :: st) (nc, ns, I, J, R) = if (eb_ty L a.1).1 = 6 then eb_E L d 195 58 ls (Sum.inr (R a 26) :: st) (nc, ns, I, J, R) else none := eb_E_iy hk195 rfl
theorem e195_58 {x : Int32} : eb_E L d 195 58 [v0, some (zi x), v2] (st) M = eb_E L d 195 59 [v0, some (zi x), v2] (zi x :: st) M := eb_E_s hk195 rfl
theorem e195_59  : eb_E L d 195 59 ls (st) M = eb_E L d 195 60 ls (zi 0 :: st) M := eb_E_s hk195 rfl
theorem e195_60 {x : Int32} {v : Int32} : eb_E L d 195 60 ls (zi v :: zi x :: Sum.inr (some a) :: st) (nc, ns, I, J, R) = if (eb_ty L a.1).1 = 10 ∧ eb_in x (eb_ty L a.1).2 = true then eb_E L d 195 61 ls (st) (nc, ns, eb_u I a x.toNatClampNeg v, J, R) else none := eb_E_iy hk195 rfl
theorem e195_61  : eb_E L d 195 61 ls (st) M = eb_E L d 195 62 ls (zi 0 :: st) M := eb_E_s hk195 rfl
theorem e195_62 {x : Int32} : eb_E L d 195 62 [v0, v1, v2] (zi x :: st) M = eb_E L d 195 63 [v0, v1, some (zi x)] (st) M := eb_E_s hk195 rfl
theorem e195_63 {x : Int32} : eb_E L d 195 63 [v0, v1, some (zi x)] (st) M = eb_E L d 195 64 [v0, v1, some (zi x)] (zi x :: st) M := eb_E_s hk195 rfl
theorem e195_64  : eb_E L d 195 64 ls (st) M = eb_E L d 195 66 ls (zi 6 :: st) M := eb_E_s hk195 rfl
theorem e195_66 {x : Int32} {y : Int32} : eb_E L d 195 66 ls (zi y :: zi x :: st) M = if x < y then eb_E L d 195 69 ls st M else eb_E L d 195 84 ls st M := eb_E_b hk195 rfl
theorem e195_69 {x : Option eb_A} : eb_E L d 195 69 [some (Sum.inr x), v1, v2] (st) M = eb_E L d 195 70 [some (Sum.inr x), v1, v2] (Sum.inr x :: st) M := eb_E_s hk195 rfl
theorem e195_70  : eb_E L d 195 70 ls (Sum.inr (some a) :: st) (nc, ns, I, J, R) = if (eb_ty L a.1).1 = 6 then eb_E L d 195 73 ls (Sum.inr (R a 25) :: st) (nc, ns, I, J, R) else none := eb_E_iy hk195 rfl
theorem e195_73 {x : Int32} : eb_E L d 195 73 [v0, some (zi x), v2] (st) M = eb_E L d 195 74 [v0, some (zi x), v2] (zi x :: st) M := eb_E_s hk195 rfl
theorem e195_74 {x : Int32} : eb_E L d 195 74 ls (zi x :: Sum.inr (some a) :: st) (nc, ns, I, J, R) = if (12 ≤ (eb_ty L a.1).1 ∧ (eb_ty L a.1).1 ≤ 16) ∧ eb_in x (eb_ty L a.1).2 = true then eb_E L d 195 75 ls (Sum.inr (R a x.toNatClampNeg) :: st) (nc, ns, I, J, R) else none := eb_E_iy hk195 rfl
theorem e195_75 {x : Int32} : eb_E L d 195 75 [v0, v1, some (zi x)] (st) M = eb_E L d 195 76 [v0, v1, some (zi x)] (zi x :: st) M := eb_E_s hk195 rfl
theorem e195_76  : eb_E L d 195 76 ls (st) M = eb_E L d 195 77 ls (zi 0 :: st) M := eb_E_s hk195 rfl
theorem e195_77 {x : Int32} {v : Int32} : eb_E L d 195 77 ls (zi v :: zi x :: Sum.inr (some a) :: st) (nc, ns, I, J, R) = if (eb_ty L a.1).1 = 10 ∧ eb_in x (eb_ty L a.1).2 = true then eb_E L d 195 78 ls (st) (nc, ns, eb_u I a x.toNatClampNeg v, J, R) else none := eb_E_iy hk195 rfl
theorem e195_78 {x : Int32} : eb_E L d 195 78 [v0, v1, some (zi x)] (st) M = eb_E L d 195 81 [v0, v1, some (zi (x + 1))] (st) M := eb_E_s hk195 rfl
theorem e195_81  : eb_E L d 195 81 ls (st) M = eb_E L d 195 63 ls (st) M := eb_E_s hk195 rfl
theorem e195_84 {x : Int32} : eb_E L d 195 84 [v0, some (zi x), v2] (st) M = eb_E L d 195 87 [v0, some (zi (x + 1)), v2] (st) M := eb_E_s hk195 rfl
theorem e195_87  : eb_E L d 195 87 ls (st) M = eb_E L d 195 46 ls (st) M := eb_E_s hk195 rfl
theorem e195_90  : eb_E L d 195 90 ls ([]) M = some (zn, M) := eb_E_r hk195 rfl
/-! X6_comes -/
theorem hk196 : eb_cd L 196 = eb_look (kt196 L) := rfl
theorem h196 (ha : (eb_ty L a.1).1 = 6) {x1 : Int32} {x2 : Int32} : eb_ev L (d + 1) 196 [zr a, zi x1, zi x2] M = eb_E L d 196 0 [some (zr a), some (zi x1), some (zi x2), none, none, none, none] [] M := eb_ev_s rfl (eb_chk_i ha rfl)
theorem e196_0 {x : Int32} : eb_E L d 196 0 [v0, v1, some (zi x), v3, v4, v5, v6] (st) M = eb_E L d 196 1 [v0, v1, some (zi x), v3, v4, v5, v6] (zi x :: st) M := eb_E_s hk196 rfl
theorem e196_1 {x : Int32} : eb_E L d 196 1 [v0, v1, v2, v3, v4, v5, v6] (zi x :: st) M = eb_E L d 196 2 [v0, v1, v2, some (zi x), v4, v5, v6] (st) M := eb_E_s hk196 rfl
theorem e196_2 {x : Int32} : eb_E L d 196 2 [v0, v1, v2, some (zi x), v4, v5, v6] (st) M = eb_E L d 196 3 [v0, v1, v2, some (zi x), v4, v5, v6] (zi x :: st) M := eb_E_s hk196 rfl
theorem e196_3 {x : Int32} : eb_E L d 196 3 ls (zi x :: st) M = if 0 < x then eb_E L d 196 6 ls st M else eb_E L d 196 170 ls st M := eb_E_b hk196 rfl
theorem e196_6  : eb_E L d 196 6 ls (st) M = eb_E L d 196 7 ls (zi (-1) :: st) M := eb_E_s hk196 rfl
theorem e196_7 {x : Int32} : eb_E L d 196 7 [v0, v1, v2, v3, v4, v5, v6] (zi x :: st) M = eb_E L d 196 9 [v0, v1, v2, v3, some (zi x), v5, v6] (st) M := eb_E_s hk196 rfl
theorem e196_9  : eb_E L d 196 9 ls (st) M = eb_E L d 196 10 ls (zi 0 :: st) M := eb_E_s hk196 rfl
theorem e196_10 {x : Int32} : eb_E L d 196 10 [v0, v1, v2, v3, v4, v5, v6] (zi x :: st) M = eb_E L d 196 12 [v0, v1, v2, v3, v4, some (zi x), v6] (st) M := eb_E_s hk196 rfl
theorem e196_12 {x : Int32} : eb_E L d 196 12 [v0, v1, v2, v3, v4, some (zi x), v6] (st) M = eb_E L d 196 14 [v0, v1, v2, v3, v4, some (zi x), v6] (zi x :: st) M := eb_E_s hk196 rfl
theorem e196_14 {x : Option eb_A} : eb_E L d 196 14 [some (Sum.inr x), v1, v2, v3, v4, v5, v6] (st) M = eb_E L d 196 15 [some (Sum.inr x), v1, v2, v3, v4, v5, v6] (Sum.inr x :: st) M := eb_E_s hk196 rfl
theorem e196_15  : eb_E L d 196 15 ls (Sum.inr (some a) :: st) (nc, ns, I, J, R) = if (eb_ty L a.1).1 = 6 then eb_E L d 196 18 ls (zi (I a 9) :: st) (nc, ns, I, J, R) else none := eb_E_iy hk196 rfl
theorem e196_18 {x : Int32} {y : Int32} : eb_E L d 196 18 ls (zi y :: zi x :: st) M = if x < y then eb_E L d 196 21 ls st M else eb_E L d 196 95 ls st M := eb_E_b hk196 rfl
theorem e196_21 {x : Option eb_A} : eb_E L d 196 21 [some (Sum.inr x), v1, v2, v3, v4, v5, v6] (st) M = eb_E L d 196 22 [some (Sum.inr x), v1, v2, v3, v4, v5, v6] (Sum.inr x :: st) M := eb_E_s hk196 rfl
theorem e196_22  : eb_E L d 196 22 ls (Sum.inr (some a) :: st) (nc, ns, I, J, R) = if (eb_ty L a.1).1 = 6 then eb_E L d 196 25 ls (Sum.inr (R a 27) :: st) (nc, ns, I, J, R) else none := eb_E_iy hk196 rfl
theorem e196_25 {x : Int32} : eb_E L d 196 25 [v0, v1, v2, v3, v4, some (zi x), v6] (st) M = eb_E L d 196 27 [v0, v1, v2, v3, v4, some (zi x), v6] (zi x :: st) M := eb_E_s hk196 rfl
theorem e196_27 {x : Int32} : eb_E L d 196 27 ls (zi x :: Sum.inr (some a) :: st) (nc, ns, I, J, R) = if (eb_ty L a.1).1 = 10 ∧ eb_in x (eb_ty L a.1).2 = true then eb_E L d 196 28 ls (zi (I a x.toNatClampNeg) :: st) (nc, ns, I, J, R) else none := eb_E_iy hk196 rfl
theorem e196_28 {x : Int32} : eb_E L d 196 28 ls (zi x :: st) M = if 0 < x then eb_E L d 196 31 ls st M else eb_E L d 196 35 ls st M := eb_E_b hk196 rfl
theorem e196_31  : eb_E L d 196 31 ls (st) M = eb_E L d 196 32 ls (zi 1 :: st) M := eb_E_s hk196 rfl
theorem e196_32  : eb_E L d 196 32 ls (st) M = eb_E L d 196 36 ls (st) M := eb_E_s hk196 rfl
theorem e196_35  : eb_E L d 196 35 ls (st) M = eb_E L d 196 36 ls (zi 0 :: st) M := eb_E_s hk196 rfl
theorem e196_36 {x : Int32} : eb_E L d 196 36 [v0, v1, v2, v3, v4, v5, v6] (zi x :: st) M = eb_E L d 196 38 [v0, v1, v2, v3, v4, v5, some (zi x)] (st) M := eb_E_s hk196 rfl
theorem e196_38 {x : Int32} : eb_E L d 196 38 [v0, v1, v2, v3, v4, v5, some (zi x)] (st) M = eb_E L d 196 40 [v0, v1, v2, v3, v4, v5, some (zi x)] (zi x :: st) M := eb_E_s hk196 rfl
theorem e196_40 {x : Int32} : eb_E L d 196 40 ls (zi x :: st) M = if x = 0 then eb_E L d 196 85 ls st M else eb_E L d 196 43 ls st M := eb_E_b hk196 rfl
theorem e196_43 {x : Int32} : eb_E L d 196 43 [v0, v1, v2, v3, some (zi x), v5, v6] (st) M = eb_E L d 196 45 [v0, v1, v2, v3, some (zi x), v5, v6] (zi x :: st) M := eb_E_s hk196 rfl
theorem e196_45  : eb_E L d 196 45 ls (st) M = eb_E L d 196 46 ls (zi (-1) :: st) M := eb_E_s hk196 rfl
theorem e196_46 {x : Int32} {y : Int32} : eb_E L d 196 46 ls (zi y :: zi x :: st) M = if x = y then eb_E L d 196 80 ls st M else eb_E L d 196 49 ls st M := eb_E_b hk196 rfl
theorem e196_49 {x : Option eb_A} : eb_E L d 196 49 [some (Sum.inr x), v1, v2, v3, v4, v5, v6] (st) M = eb_E L d 196 50 [some (Sum.inr x), v1, v2, v3, v4, v5, v6] (Sum.inr x :: st) M := eb_E_s hk196 rfl
theorem e196_50 {x : Int32} : eb_E L d 196 50 [v0, some (zi x), v2, v3, v4, v5, v6] (st) M = eb_E L d 196 51 [v0, some (zi x), v2, v3, v4, v5, v6] (zi x :: st) M := eb_E_s hk196 rfl
theorem e196_51 {x : Int32} : eb_E L d 196 51 [v0, v1, v2, v3, v4, some (zi x), v6] (st) M = eb_E L d 196 53 [v0, v1, v2, v3, v4, some (zi x), v6] (zi x :: st) M := eb_E_s hk196 rfl
theorem e196_53 {x : Option eb_A} : eb_E L d 196 53 [some (Sum.inr x), v1, v2, v3, v4, v5, v6] (st) M = eb_E L d 196 54 [some (Sum.inr x), v1, v2, v3, v4, v5, v6] (Sum.inr x :: st) M := eb_E_s hk196 rfl
theorem e196_54  : eb_E L d 196 54 ls (Sum.inr (some a) :: st) (nc, ns, I, J, R) = if (eb_ty L a.1).1 = 6 then eb_E L d 196 57 ls (Sum.inr (R a 28) :: st) (nc, ns, I, J, R) else none := eb_E_iy hk196 rfl
theorem e196_57 {x : Int32} : eb_E L d 196 57 [v0, v1, v2, v3, v4, some (zi x), v6] (st) M = eb_E L d 196 59 [v0, v1, v2, v3, v4, some (zi x), v6] (zi x :: st) M := eb_E_s hk196 rfl
theorem e196_59 {x : Int32} : eb_E L d 196 59 ls (zi x :: Sum.inr (some a) :: st) (nc, ns, I, J, R) = if (eb_ty L a.1).1 = 10 ∧ eb_in x (eb_ty L a.1).2 = true then eb_E L d 196 60 ls (zi (I a x.toNatClampNeg) :: st) (nc, ns, I, J, R) else none := eb_E_iy hk196 rfl
theorem e196_60  : eb_E L d 196 60 ls ([a3, a2, a1, a0]) M = (eb_ev L d 191 [a0, a1, a2, a3] M).bind (fun q => eb_E L d 196 63 ls [q.1] q.2) := eb_E_c hk196 rfl
theorem e196_63 {x : Option eb_A} : eb_E L d 196 63 [some (Sum.inr x), v1, v2, v3, v4, v5, v6] (st) M = eb_E L d 196 64 [some (Sum.inr x), v1, v2, v3, v4, v5, v6] (Sum.inr x :: st) M := eb_E_s hk196 rfl
theorem e196_64 {x : Int32} : eb_E L d 196 64 [v0, some (zi x), v2, v3, v4, v5, v6] (st) M = eb_E L d 196 65 [v0, some (zi x), v2, v3, v4, v5, v6] (zi x :: st) M := eb_E_s hk196 rfl
theorem e196_65 {x : Int32} : eb_E L d 196 65 [v0, v1, v2, v3, some (zi x), v5, v6] (st) M = eb_E L d 196 67 [v0, v1, v2, v3, some (zi x), v5, v6] (zi x :: st) M := eb_E_s hk196 rfl
theorem e196_67 {x : Option eb_A} : eb_E L d 196 67 [some (Sum.inr x), v1, v2, v3, v4, v5, v6] (st) M = eb_E L d 196 68 [some (Sum.inr x), v1, v2, v3, v4, v5, v6] (Sum.inr x :: st) M := eb_E_s hk196 rfl
theorem e196_68  : eb_E L d 196 68 ls (Sum.inr (some a) :: st) (nc, ns, I, J, R) = if (eb_ty L a.1).1 = 6 then eb_E L d 196 71 ls (Sum.inr (R a 28) :: st) (nc, ns, I, J, R) else none := eb_E_iy hk196 rfl
theorem e196_71 {x : Int32} : eb_E L d 196 71 [v0, v1, v2, v3, some (zi x), v5, v6] (st) M = eb_E L d 196 73 [v0, v1, v2, v3, some (zi x), v5, v6] (zi x :: st) M := eb_E_s hk196 rfl
theorem e196_73 {x : Int32} : eb_E L d 196 73 ls (zi x :: Sum.inr (some a) :: st) (nc, ns, I, J, R) = if (eb_ty L a.1).1 = 10 ∧ eb_in x (eb_ty L a.1).2 = true then eb_E L d 196 74 ls (zi (I a x.toNatClampNeg) :: st) (nc, ns, I, J, R) else none := eb_E_iy hk196 rfl
theorem e196_74 {s0 : Int32} : eb_E L d 196 74 ls ([a3, a2, a1, a0, zi s0]) M = (eb_ev L d 191 [a0, a1, a2, a3] M).bind (fun q => eb_E L d 196 77 ls [q.1, zi s0] q.2) := eb_E_c hk196 rfl
theorem e196_77 {x : Int32} {y : Int32} : eb_E L d 196 77 ls (zi y :: zi x :: st) M = if y < x then eb_E L d 196 80 ls st M else eb_E L d 196 85 ls st M := eb_E_b hk196 rfl
theorem e196_80 {x : Int32} : eb_E L d 196 80 [v0, v1, v2, v3, v4, some (zi x), v6] (st) M = eb_E L d 196 82 [v0, v1, v2, v3, v4, some (zi x), v6] (zi x :: st) M := eb_E_s hk196 rfl
theorem e196_82  : eb_E L d 196 82 ls (st) M = eb_E L d 196 87 ls (st) M := eb_E_s hk196 rfl
theorem e196_85 {x : Int32} : eb_E L d 196 85 [v0, v1, v2, v3, some (zi x), v5, v6] (st) M = eb_E L d 196 87 [v0, v1, v2, v3, some (zi x), v5, v6] (zi x :: st) M := eb_E_s hk196 rfl
theorem e196_87 {x : Int32} : eb_E L d 196 87 [v0, v1, v2, v3, v4, v5, v6] (zi x :: st) M = eb_E L d 196 89 [v0, v1, v2, v3, some (zi x), v5, v6] (st) M := eb_E_s hk196 rfl
theorem e196_89 {x : Int32} : eb_E L d 196 89 [v0, v1, v2, v3, v4, some (zi x), v6] (st) M = eb_E L d 196 92 [v0, v1, v2, v3, v4, some (zi (x + 1)), v6] (st) M := eb_E_s hk196 rfl
theorem e196_92  : eb_E L d 196 92 ls (st) M = eb_E L d 196 12 ls (st) M := eb_E_s hk196 rfl
theorem e196_95 {x : Int32} : eb_E L d 196 95 [v0, v1, v2, v3, some (zi x), v5, v6] (st) M = eb_E L d 196 97 [v0, v1, v2, v3, some (zi x), v5, v6] (zi x :: st) M := eb_E_s hk196 rfl
theorem e196_97  : eb_E L d 196 97 ls (st) M = eb_E L d 196 98 ls (zi (-1) :: st) M := eb_E_s hk196 rfl
theorem e196_98 {x : Int32} {y : Int32} : eb_E L d 196 98 ls (zi y :: zi x :: st) M = if x = y then eb_E L d 196 101 ls st M else eb_E L d 196 112 ls st M := eb_E_b hk196 rfl
theorem e196_101 {x : Option eb_A} : eb_E L d 196 101 [some (Sum.inr x), v1, v2, v3, v4, v5, v6] (st) M = eb_E L d 196 102 [some (Sum.inr x), v1, v2, v3, v4, v5, v6] (Sum.inr x :: st) M := eb_E_s hk196 rfl
theorem e196_102  : eb_E L d 196 102 ls (Sum.inr (some a) :: st) (nc, ns, I, J, R) = if (eb_ty L a.1).1 = 6 then eb_E L d 196 105 ls (Sum.inr (R a 26) :: st) (nc, ns, I, J, R) else none := eb_E_iy hk196 rfl
theorem e196_105 {x : Int32} : eb_E L d 196 105 [v0, some (zi x), v2, v3, v4, v5, v6] (st) M = eb_E L d 196 106 [v0, some (zi x), v2, v3, v4, v5, v6] (zi x :: st) M := eb_E_s hk196 rfl
theorem e196_106 {x : Option eb_A} {y : Int32} : eb_E L d 196 106 ls (zi y :: Sum.inr x :: st) M = eb_E L d 196 107 ls (zi y :: Sum.inr x :: zi y :: Sum.inr x :: st) M := eb_E_s hk196 rfl
theorem e196_107 {x : Int32} : eb_E L d 196 107 ls (zi x :: Sum.inr (some a) :: st) (nc, ns, I, J, R) = if (eb_ty L a.1).1 = 10 ∧ eb_in x (eb_ty L a.1).2 = true then eb_E L d 196 108 ls (zi (I a x.toNatClampNeg) :: st) (nc, ns, I, J, R) else none := eb_E_iy hk196 rfl
theorem e196_108 {x : Int32} : eb_E L d 196 108 [v0, v1, v2, some (zi x), v4, v5, v6] (st) M = eb_E L d 196 109 [v0, v1, v2, some (zi x), v4, v5, v6] (zi x :: st) M := eb_E_s hk196 rfl
theorem e196_109 {x : Int32} {y : Int32} : eb_E L d 196 109 ls (zi y :: zi x :: st) M = eb_E L d 196 110 ls (zi (x + y) :: st) M := eb_E_s hk196 rfl
theorem e196_110 {x : Int32} {v : Int32} : eb_E L d 196 110 ls (zi v :: zi x :: Sum.inr (some a) :: st) (nc, ns, I, J, R) = if (eb_ty L a.1).1 = 10 ∧ eb_in x (eb_ty L a.1).2 = true then eb_E L d 196 111 ls (st) (nc, ns, eb_u I a x.toNatClampNeg v, J, R) else none := eb_E_iy hk196 rfl
theorem e196_111  : eb_E L d 196 111 ls ([]) M = some (zn, M) := eb_E_r hk196 rfl
theorem e196_112 {x : Int32} : eb_E L d 196 112 [v0, v1, v2, some (zi x), v4, v5, v6] (st) M = eb_E L d 196 113 [v0, v1, v2, some (zi x), v4, v5, v6] (zi x :: st) M := eb_E_s hk196 rfl
theorem e196_113 {x : Option eb_A} : eb_E L d 196 113 [some (Sum.inr x), v1, v2, v3, v4, v5, v6] (st) M = eb_E L d 196 114 [some (Sum.inr x), v1, v2, v3, v4, v5, v6] (Sum.inr x :: st) M := eb_E_s hk196 rfl
theorem e196_114  : eb_E L d 196 114 ls (Sum.inr (some a) :: st) (nc, ns, I, J, R) = if (eb_ty L a.1).1 = 6 then eb_E L d 196 117 ls (Sum.inr (R a 27) :: st) (nc, ns, I, J, R) else none := eb_E_iy hk196 rfl
theorem e196_117 {x : Int32} : eb_E L d 196 117 [v0, v1, v2, v3, some (zi x), v5, v6] (st) M = eb_E L d 196 119 [v0, v1, v2, v3, some (zi x), v5, v6] (zi x :: st) M := eb_E_s hk196 rfl
theorem e196_119 {x : Int32} : eb_E L d 196 119 ls (zi x :: Sum.inr (some a) :: st) (nc, ns, I, J, R) = if (eb_ty L a.1).1 = 10 ∧ eb_in x (eb_ty L a.1).2 = true then eb_E L d 196 120 ls (zi (I a x.toNatClampNeg) :: st) (nc, ns, I, J, R) else none := eb_E_iy hk196 rfl
theorem e196_120 {x : Int32} {y : Int32} : eb_E L d 196 120 ls (zi y :: zi x :: st) M = if x < y then eb_E L d 196 123 ls st M else eb_E L d 196 127 ls st M := eb_E_b hk196 rfl
theorem e196_123 {x : Int32} : eb_E L d 196 123 [v0, v1, v2, some (zi x), v4, v5, v6] (st) M = eb_E L d 196 124 [v0, v1, v2, some (zi x), v4, v5, v6] (zi x :: st) M := eb_E_s hk196 rfl
theorem e196_124  : eb_E L d 196 124 ls (st) M = eb_E L d 196 134 ls (st) M := eb_E_s hk196 rfl
theorem e196_127 {x : Option eb_A} : eb_E L d 196 127 [some (Sum.inr x), v1, v2, v3, v4, v5, v6] (st) M = eb_E L d 196 128 [some (Sum.inr x), v1, v2, v3, v4, v5, v6] (Sum.inr x :: st) M := eb_E_s hk196 rfl
theorem e196_128  : eb_E L d 196 128 ls (Sum.inr (some a) :: st) (nc, ns, I, J, R) = if (eb_ty L a.1).1 = 6 then eb_E L d 196 131 ls (Sum.inr (R a 27) :: st) (nc, ns, I, J, R) else none := eb_E_iy hk196 rfl
theorem e196_131 {x : Int32} : eb_E L d 196 131 [v0, v1, v2, v3, some (zi x), v5, v6] (st) M = eb_E L d 196 133 [v0, v1, v2, v3, some (zi x), v5, v6] (zi x :: st) M := eb_E_s hk196 rfl
theorem e196_133 {x : Int32} : eb_E L d 196 133 ls (zi x :: Sum.inr (some a) :: st) (nc, ns, I, J, R) = if (eb_ty L a.1).1 = 10 ∧ eb_in x (eb_ty L a.1).2 = true then eb_E L d 196 134 ls (zi (I a x.toNatClampNeg) :: st) (nc, ns, I, J, R) else none := eb_E_iy hk196 rfl
theorem e196_134 {x : Int32} : eb_E L d 196 134 [v0, v1, v2, v3, v4, v5, v6] (zi x :: st) M = eb_E L d 196 136 [v0, v1, v2, v3, v4, some (zi x), v6] (st) M := eb_E_s hk196 rfl
theorem e196_136 {x : Option eb_A} : eb_E L d 196 136 [some (Sum.inr x), v1, v2, v3, v4, v5, v6] (st) M = eb_E L d 196 137 [some (Sum.inr x), v1, v2, v3, v4, v5, v6] (Sum.inr x :: st) M := eb_E_s hk196 rfl
theorem e196_137  : eb_E L d 196 137 ls (Sum.inr (some a) :: st) (nc, ns, I, J, R) = if (eb_ty L a.1).1 = 6 then eb_E L d 196 140 ls (Sum.inr (R a 25) :: st) (nc, ns, I, J, R) else none := eb_E_iy hk196 rfl
theorem e196_140 {x : Int32} : eb_E L d 196 140 [v0, some (zi x), v2, v3, v4, v5, v6] (st) M = eb_E L d 196 141 [v0, some (zi x), v2, v3, v4, v5, v6] (zi x :: st) M := eb_E_s hk196 rfl
theorem e196_141 {x : Int32} : eb_E L d 196 141 ls (zi x :: Sum.inr (some a) :: st) (nc, ns, I, J, R) = if (12 ≤ (eb_ty L a.1).1 ∧ (eb_ty L a.1).1 ≤ 16) ∧ eb_in x (eb_ty L a.1).2 = true then eb_E L d 196 142 ls (Sum.inr (R a x.toNatClampNeg) :: st) (nc, ns, I, J, R) else none := eb_E_iy hk196 rfl
theorem e196_142 {x : Int32} : eb_E L d 196 142 [v0, v1, v2, v3, some (zi x), v5, v6] (st) M = eb_E L d 196 144 [v0, v1, v2, v3, some (zi x), v5, v6] (zi x :: st) M := eb_E_s hk196 rfl
theorem e196_144 {x : Option eb_A} {y : Int32} : eb_E L d 196 144 ls (zi y :: Sum.inr x :: st) M = eb_E L d 196 145 ls (zi y :: Sum.inr x :: zi y :: Sum.inr x :: st) M := eb_E_s hk196 rfl
theorem e196_145 {x : Int32} : eb_E L d 196 145 ls (zi x :: Sum.inr (some a) :: st) (nc, ns, I, J, R) = if (eb_ty L a.1).1 = 10 ∧ eb_in x (eb_ty L a.1).2 = true then eb_E L d 196 146 ls (zi (I a x.toNatClampNeg) :: st) (nc, ns, I, J, R) else none := eb_E_iy hk196 rfl
theorem e196_146 {x : Int32} : eb_E L d 196 146 [v0, v1, v2, v3, v4, some (zi x), v6] (st) M = eb_E L d 196 148 [v0, v1, v2, v3, v4, some (zi x), v6] (zi x :: st) M := eb_E_s hk196 rfl
theorem e196_148 {x : Int32} {y : Int32} : eb_E L d 196 148 ls (zi y :: zi x :: st) M = eb_E L d 196 149 ls (zi (x + y) :: st) M := eb_E_s hk196 rfl
theorem e196_149 {x : Int32} {v : Int32} : eb_E L d 196 149 ls (zi v :: zi x :: Sum.inr (some a) :: st) (nc, ns, I, J, R) = if (eb_ty L a.1).1 = 10 ∧ eb_in x (eb_ty L a.1).2 = true then eb_E L d 196 150 ls (st) (nc, ns, eb_u I a x.toNatClampNeg v, J, R) else none := eb_E_iy hk196 rfl
theorem e196_150 {x : Option eb_A} : eb_E L d 196 150 [some (Sum.inr x), v1, v2, v3, v4, v5, v6] (st) M = eb_E L d 196 151 [some (Sum.inr x), v1, v2, v3, v4, v5, v6] (Sum.inr x :: st) M := eb_E_s hk196 rfl
theorem e196_151  : eb_E L d 196 151 ls (Sum.inr (some a) :: st) (nc, ns, I, J, R) = if (eb_ty L a.1).1 = 6 then eb_E L d 196 154 ls (Sum.inr (R a 27) :: st) (nc, ns, I, J, R) else none := eb_E_iy hk196 rfl
theorem e196_154 {x : Int32} : eb_E L d 196 154 [v0, v1, v2, v3, some (zi x), v5, v6] (st) M = eb_E L d 196 156 [v0, v1, v2, v3, some (zi x), v5, v6] (zi x :: st) M := eb_E_s hk196 rfl
theorem e196_156 {x : Option eb_A} {y : Int32} : eb_E L d 196 156 ls (zi y :: Sum.inr x :: st) M = eb_E L d 196 157 ls (zi y :: Sum.inr x :: zi y :: Sum.inr x :: st) M := eb_E_s hk196 rfl
theorem e196_157 {x : Int32} : eb_E L d 196 157 ls (zi x :: Sum.inr (some a) :: st) (nc, ns, I, J, R) = if (eb_ty L a.1).1 = 10 ∧ eb_in x (eb_ty L a.1).2 = true then eb_E L d 196 158 ls (zi (I a x.toNatClampNeg) :: st) (nc, ns, I, J, R) else none := eb_E_iy hk196 rfl
theorem e196_158 {x : Int32} : eb_E L d 196 158 [v0, v1, v2, v3, v4, some (zi x), v6] (st) M = eb_E L d 196 160 [v0, v1, v2, v3, v4, some (zi x), v6] (zi x :: st) M := eb_E_s hk196 rfl
theorem e196_160 {x : Int32} {y : Int32} : eb_E L d 196 160 ls (zi y :: zi x :: st) M = eb_E L d 196 161 ls (zi (x - y) :: st) M := eb_E_s hk196 rfl
theorem e196_161 {x : Int32} {v : Int32} : eb_E L d 196 161 ls (zi v :: zi x :: Sum.inr (some a) :: st) (nc, ns, I, J, R) = if (eb_ty L a.1).1 = 10 ∧ eb_in x (eb_ty L a.1).2 = true then eb_E L d 196 162 ls (st) (nc, ns, eb_u I a x.toNatClampNeg v, J, R) else none := eb_E_iy hk196 rfl
theorem e196_162 {x : Int32} : eb_E L d 196 162 [v0, v1, v2, some (zi x), v4, v5, v6] (st) M = eb_E L d 196 163 [v0, v1, v2, some (zi x), v4, v5, v6] (zi x :: st) M := eb_E_s hk196 rfl
theorem e196_163 {x : Int32} : eb_E L d 196 163 [v0, v1, v2, v3, v4, some (zi x), v6] (st) M = eb_E L d 196 165 [v0, v1, v2, v3, v4, some (zi x), v6] (zi x :: st) M := eb_E_s hk196 rfl
theorem e196_165 {x : Int32} {y : Int32} : eb_E L d 196 165 ls (zi y :: zi x :: st) M = eb_E L d 196 166 ls (zi (x - y) :: st) M := eb_E_s hk196 rfl
theorem e196_166 {x : Int32} : eb_E L d 196 166 [v0, v1, v2, v3, v4, v5, v6] (zi x :: st) M = eb_E L d 196 167 [v0, v1, v2, some (zi x), v4, v5, v6] (st) M := eb_E_s hk196 rfl
theorem e196_167  : eb_E L d 196 167 ls (st) M = eb_E L d 196 2 ls (st) M := eb_E_s hk196 rfl
theorem e196_170  : eb_E L d 196 170 ls ([]) M = some (zn, M) := eb_E_r hk196 rfl
/-! X6_goThrough -/
theorem hk197 : eb_cd L 197 = eb_look (kt197 L) := rfl
theorem h197 (ha : (eb_ty L a.1).1 = 6) : eb_ev L (d + 1) 197 [zr a] M = eb_E L d 197 0 [some (zr a), none, none] [] M := eb_ev_s rfl (eb_chk_i ha rfl)
theorem e197_0 {x : Option eb_A} : eb_E L d 197 0 [some (Sum.inr x), v1, v2] (st) M = eb_E L d 197 1 [some (Sum.inr x), v1, v2] (Sum.inr x :: st) M := eb_E_s hk197 rfl
theorem e197_1  : eb_E L d 197 1 ls ([a0]) M = (eb_ev L d 195 [a0] M).bind (fun q => eb_E L d 197 4 ls [] q.2) := eb_E_c hk197 rfl
theorem e197_4  : eb_E L d 197 4 ls (st) M = eb_E L d 197 5 ls (zi 0 :: st) M := eb_E_s hk197 rfl
theorem e197_5 {x : Int32} : eb_E L d 197 5 [v0, v1, v2] (zi x :: st) M = eb_E L d 197 6 [v0, some (zi x), v2] (st) M := eb_E_s hk197 rfl
theorem e197_6 {x : Int32} : eb_E L d 197 6 [v0, some (zi x), v2] (st) M = eb_E L d 197 7 [v0, some (zi x), v2] (zi x :: st) M := eb_E_s hk197 rfl
theorem e197_7  : eb_E L d 197 7 ls (st) M = eb_E L d 197 8 ls (zi 2 :: st) M := eb_E_s hk197 rfl
theorem e197_8 {x : Int32} {y : Int32} : eb_E L d 197 8 ls (zi y :: zi x :: st) M = if x < y then eb_E L d 197 11 ls st M else eb_E L d 197 76 ls st M := eb_E_b hk197 rfl
theorem e197_11  : eb_E L d 197 11 ls (st) M = eb_E L d 197 12 ls (zi 0 :: st) M := eb_E_s hk197 rfl
theorem e197_12 {x : Int32} : eb_E L d 197 12 [v0, v1, v2] (zi x :: st) M = eb_E L d 197 13 [v0, v1, some (zi x)] (st) M := eb_E_s hk197 rfl
theorem e197_13 {x : Int32} : eb_E L d 197 13 [v0, v1, some (zi x)] (st) M = eb_E L d 197 14 [v0, v1, some (zi x)] (zi x :: st) M := eb_E_s hk197 rfl
theorem e197_14 {x : Option eb_A} : eb_E L d 197 14 [some (Sum.inr x), v1, v2] (st) M = eb_E L d 197 15 [some (Sum.inr x), v1, v2] (Sum.inr x :: st) M := eb_E_s hk197 rfl
theorem e197_15  : eb_E L d 197 15 ls (Sum.inr (some a) :: st) (nc, ns, I, J, R) = if (eb_ty L a.1).1 = 6 then eb_E L d 197 18 ls (zi (I a 11) :: st) (nc, ns, I, J, R) else none := eb_E_iy hk197 rfl
theorem e197_18 {x : Int32} {y : Int32} : eb_E L d 197 18 ls (zi y :: zi x :: st) M = if x < y then eb_E L d 197 21 ls st M else eb_E L d 197 70 ls st M := eb_E_b hk197 rfl
theorem e197_21 {x : Option eb_A} : eb_E L d 197 21 [some (Sum.inr x), v1, v2] (st) M = eb_E L d 197 22 [some (Sum.inr x), v1, v2] (Sum.inr x :: st) M := eb_E_s hk197 rfl
theorem e197_22  : eb_E L d 197 22 ls (Sum.inr (some a) :: st) (nc, ns, I, J, R) = if (eb_ty L a.1).1 = 6 then eb_E L d 197 25 ls (Sum.inr (R a 12) :: st) (nc, ns, I, J, R) else none := eb_E_iy hk197 rfl
theorem e197_25 {x : Int32} : eb_E L d 197 25 [v0, v1, some (zi x)] (st) M = eb_E L d 197 26 [v0, v1, some (zi x)] (zi x :: st) M := eb_E_s hk197 rfl
theorem e197_26 {x : Int32} : eb_E L d 197 26 ls (zi x :: Sum.inr (some a) :: st) (nc, ns, I, J, R) = if (12 ≤ (eb_ty L a.1).1 ∧ (eb_ty L a.1).1 ≤ 16) ∧ eb_in x (eb_ty L a.1).2 = true then eb_E L d 197 27 ls (Sum.inr (R a x.toNatClampNeg) :: st) (nc, ns, I, J, R) else none := eb_E_iy hk197 rfl
theorem e197_27  : eb_E L d 197 27 ls (st) M = eb_E L d 197 28 ls (zi 0 :: st) M := eb_E_s hk197 rfl
theorem e197_28 {x : Int32} : eb_E L d 197 28 ls (zi x :: Sum.inr (some a) :: st) (nc, ns, I, J, R) = if (eb_ty L a.1).1 = 10 ∧ eb_in x (eb_ty L a.1).2 = true then eb_E L d 197 29 ls (zi (I a x.toNatClampNeg) :: st) (nc, ns, I, J, R) else none := eb_E_iy hk197 rfl
theorem e197_29  : eb_E L d 197 29 ls (st) M = eb_E L d 197 30 ls (zi 5 :: st) M := eb_E_s hk197 rfl
theorem e197_30 {x : Int32} {y : Int32} : eb_E L d 197 30 ls (zi y :: zi x :: st) M = if x = y then eb_E L d 197 33 ls st M else eb_E L d 197 37 ls st M := eb_E_b hk197 rfl
theorem e197_33  : eb_E L d 197 33 ls (st) M = eb_E L d 197 34 ls (zi 1 :: st) M := eb_E_s hk197 rfl
theorem e197_34  : eb_E L d 197 34 ls (st) M = eb_E L d 197 38 ls (st) M := eb_E_s hk197 rfl
theorem e197_37  : eb_E L d 197 37 ls (st) M = eb_E L d 197 38 ls (zi 0 :: st) M := eb_E_s hk197 rfl
theorem e197_38 {x : Int32} : eb_E L d 197 38 [v0, some (zi x), v2] (st) M = eb_E L d 197 39 [v0, some (zi x), v2] (zi x :: st) M := eb_E_s hk197 rfl
theorem e197_39  : eb_E L d 197 39 ls (st) M = eb_E L d 197 40 ls (zi 1 :: st) M := eb_E_s hk197 rfl
theorem e197_40 {x : Int32} {y : Int32} : eb_E L d 197 40 ls (zi y :: zi x :: st) M = if x = y then eb_E L d 197 43 ls st M else eb_E L d 197 47 ls st M := eb_E_b hk197 rfl
theorem e197_43  : eb_E L d 197 43 ls (st) M = eb_E L d 197 44 ls (zi 1 :: st) M := eb_E_s hk197 rfl
theorem e197_44  : eb_E L d 197 44 ls (st) M = eb_E L d 197 48 ls (st) M := eb_E_s hk197 rfl
theorem e197_47  : eb_E L d 197 47 ls (st) M = eb_E L d 197 48 ls (zi 0 :: st) M := eb_E_s hk197 rfl
theorem e197_48 {x : Int32} {y : Int32} : eb_E L d 197 48 ls (zi y :: zi x :: st) M = if x = y then eb_E L d 197 51 ls st M else eb_E L d 197 64 ls st M := eb_E_b hk197 rfl
theorem e197_51 {x : Option eb_A} : eb_E L d 197 51 [some (Sum.inr x), v1, v2] (st) M = eb_E L d 197 52 [some (Sum.inr x), v1, v2] (Sum.inr x :: st) M := eb_E_s hk197 rfl
theorem e197_52 {x : Int32} : eb_E L d 197 52 [v0, v1, some (zi x)] (st) M = eb_E L d 197 53 [v0, v1, some (zi x)] (zi x :: st) M := eb_E_s hk197 rfl
theorem e197_53 {x : Option eb_A} : eb_E L d 197 53 [some (Sum.inr x), v1, v2] (st) M = eb_E L d 197 54 [some (Sum.inr x), v1, v2] (Sum.inr x :: st) M := eb_E_s hk197 rfl
theorem e197_54  : eb_E L d 197 54 ls (Sum.inr (some a) :: st) (nc, ns, I, J, R) = if (eb_ty L a.1).1 = 6 then eb_E L d 197 57 ls (Sum.inr (R a 12) :: st) (nc, ns, I, J, R) else none := eb_E_iy hk197 rfl
theorem e197_57 {x : Int32} : eb_E L d 197 57 [v0, v1, some (zi x)] (st) M = eb_E L d 197 58 [v0, v1, some (zi x)] (zi x :: st) M := eb_E_s hk197 rfl
theorem e197_58 {x : Int32} : eb_E L d 197 58 ls (zi x :: Sum.inr (some a) :: st) (nc, ns, I, J, R) = if (12 ≤ (eb_ty L a.1).1 ∧ (eb_ty L a.1).1 ≤ 16) ∧ eb_in x (eb_ty L a.1).2 = true then eb_E L d 197 59 ls (Sum.inr (R a x.toNatClampNeg) :: st) (nc, ns, I, J, R) else none := eb_E_iy hk197 rfl
theorem e197_59  : eb_E L d 197 59 ls (st) M = eb_E L d 197 60 ls (zi 1 :: st) M := eb_E_s hk197 rfl
theorem e197_60 {x : Int32} : eb_E L d 197 60 ls (zi x :: Sum.inr (some a) :: st) (nc, ns, I, J, R) = if (eb_ty L a.1).1 = 10 ∧ eb_in x (eb_ty L a.1).2 = true then eb_E L d 197 61 ls (zi (I a x.toNatClampNeg) :: st) (nc, ns, I, J, R) else none := eb_E_iy hk197 rfl
theorem e197_61  : eb_E L d 197 61 ls ([a2, a1, a0]) M = (eb_ev L d 196 [a0, a1, a2] M).bind (fun q => eb_E L d 197 64 ls [] q.2) := eb_E_c hk197 rfl
theorem e197_64 {x : Int32} : eb_E L d 197 64 [v0, v1, some (zi x)] (st) M = eb_E L d 197 67 [v0, v1, some (zi (x + 1))] (st) M := eb_E_s hk197 rfl
theorem e197_67  : eb_E L d 197 67 ls (st) M = eb_E L d 197 13 ls (st) M := eb_E_s hk197 rfl
theorem e197_70 {x : Int32} : eb_E L d 197 70 [v0, some (zi x), v2] (st) M = eb_E L d 197 73 [v0, some (zi (x + 1)), v2] (st) M := eb_E_s hk197 rfl
theorem e197_73  : eb_E L d 197 73 ls (st) M = eb_E L d 197 6 ls (st) M := eb_E_s hk197 rfl
theorem e197_76  : eb_E L d 197 76 ls ([]) M = some (zn, M) := eb_E_r hk197 rfl
/-! X6_headsIn -/
theorem hk198 : eb_cd L 198 = eb_look (kt198 L) := rfl
theorem h198 (ha : (eb_ty L a.1).1 = 6) {x1 : Int32} : eb_ev L (d + 1) 198 [zr a, zi x1] M = eb_E L d 198 0 [some (zr a), some (zi x1), none, none] [] M := eb_ev_s rfl (eb_chk_i ha rfl)
theorem e198_0  : eb_E L d 198 0 ls (st) M = eb_E L d 198 1 ls (zi 0 :: st) M := eb_E_s hk198 rfl
theorem e198_1 {x : Int32} : eb_E L d 198 1 [v0, v1, v2, v3] (zi x :: st) M = eb_E L d 198 2 [v0, v1, some (zi x), v3] (st) M := eb_E_s hk198 rfl
theorem e198_2  : eb_E L d 198 2 ls (st) M = eb_E L d 198 3 ls (zi 0 :: st) M := eb_E_s hk198 rfl
theorem e198_3 {x : Int32} : eb_E L d 198 3 [v0, v1, v2, v3] (zi x :: st) M = eb_E L d 198 4 [v0, v1, v2, some (zi x)] (st) M := eb_E_s hk198 rfl
theorem e198_4 {x : Int32} : eb_E L d 198 4 [v0, v1, v2, some (zi x)] (st) M = eb_E L d 198 5 [v0, v1, v2, some (zi x)] (zi x :: st) M := eb_E_s hk198 rfl
theorem e198_5 {x : Option eb_A} : eb_E L d 198 5 [some (Sum.inr x), v1, v2, v3] (st) M = eb_E L d 198 6 [some (Sum.inr x), v1, v2, v3] (Sum.inr x :: st) M := eb_E_s hk198 rfl
theorem e198_6  : eb_E L d 198 6 ls (Sum.inr (some a) :: st) (nc, ns, I, J, R) = if (eb_ty L a.1).1 = 6 then eb_E L d 198 9 ls (zi (I a 11) :: st) (nc, ns, I, J, R) else none := eb_E_iy hk198 rfl
theorem e198_9 {x : Int32} {y : Int32} : eb_E L d 198 9 ls (zi y :: zi x :: st) M = if x < y then eb_E L d 198 12 ls st M else eb_E L d 198 29 ls st M := eb_E_b hk198 rfl
theorem e198_12 {x : Int32} : eb_E L d 198 12 [v0, v1, some (zi x), v3] (st) M = eb_E L d 198 13 [v0, v1, some (zi x), v3] (zi x :: st) M := eb_E_s hk198 rfl
theorem e198_13 {x : Option eb_A} : eb_E L d 198 13 [some (Sum.inr x), v1, v2, v3] (st) M = eb_E L d 198 14 [some (Sum.inr x), v1, v2, v3] (Sum.inr x :: st) M := eb_E_s hk198 rfl
theorem e198_14  : eb_E L d 198 14 ls (Sum.inr (some a) :: st) (nc, ns, I, J, R) = if (eb_ty L a.1).1 = 6 then eb_E L d 198 17 ls (Sum.inr (R a 25) :: st) (nc, ns, I, J, R) else none := eb_E_iy hk198 rfl
theorem e198_17 {x : Int32} : eb_E L d 198 17 [v0, v1, v2, some (zi x)] (st) M = eb_E L d 198 18 [v0, v1, v2, some (zi x)] (zi x :: st) M := eb_E_s hk198 rfl
theorem e198_18 {x : Int32} : eb_E L d 198 18 ls (zi x :: Sum.inr (some a) :: st) (nc, ns, I, J, R) = if (12 ≤ (eb_ty L a.1).1 ∧ (eb_ty L a.1).1 ≤ 16) ∧ eb_in x (eb_ty L a.1).2 = true then eb_E L d 198 19 ls (Sum.inr (R a x.toNatClampNeg) :: st) (nc, ns, I, J, R) else none := eb_E_iy hk198 rfl
theorem e198_19 {x : Int32} : eb_E L d 198 19 [v0, some (zi x), v2, v3] (st) M = eb_E L d 198 20 [v0, some (zi x), v2, v3] (zi x :: st) M := eb_E_s hk198 rfl
theorem e198_20 {x : Int32} : eb_E L d 198 20 ls (zi x :: Sum.inr (some a) :: st) (nc, ns, I, J, R) = if (eb_ty L a.1).1 = 10 ∧ eb_in x (eb_ty L a.1).2 = true then eb_E L d 198 21 ls (zi (I a x.toNatClampNeg) :: st) (nc, ns, I, J, R) else none := eb_E_iy hk198 rfl
theorem e198_21 {x : Int32} {y : Int32} : eb_E L d 198 21 ls (zi y :: zi x :: st) M = eb_E L d 198 22 ls (zi (x + y) :: st) M := eb_E_s hk198 rfl
theorem e198_22 {x : Int32} : eb_E L d 198 22 [v0, v1, v2, v3] (zi x :: st) M = eb_E L d 198 23 [v0, v1, some (zi x), v3] (st) M := eb_E_s hk198 rfl
theorem e198_23 {x : Int32} : eb_E L d 198 23 [v0, v1, v2, some (zi x)] (st) M = eb_E L d 198 26 [v0, v1, v2, some (zi (x + 1))] (st) M := eb_E_s hk198 rfl
theorem e198_26  : eb_E L d 198 26 ls (st) M = eb_E L d 198 4 ls (st) M := eb_E_s hk198 rfl
theorem e198_29 {x : Int32} : eb_E L d 198 29 [v0, v1, some (zi x), v3] (st) M = eb_E L d 198 30 [v0, v1, some (zi x), v3] (zi x :: st) M := eb_E_s hk198 rfl
theorem e198_30 {x : Int32} : eb_E L d 198 30 ls ([zi x]) M = some (zi x, M) := eb_E_r hk198 rfl
/-! X6_sleeps -/
theorem hk199 : eb_cd L 199 = eb_look (kt199 L) := rfl
theorem h199 (ha : (eb_ty L a.1).1 = 6) {x1 : Int32} {x2 : Int32} : eb_ev L (d + 1) 199 [zr a, zi x1, zi x2] M = eb_E L d 199 0 [some (zr a), some (zi x1), some (zi x2)] [] M := eb_ev_s rfl (eb_chk_i ha rfl)
theorem e199_0 {x : Option eb_A} : eb_E L d 199 0 [some (Sum.inr x), v1, v2] (st) M = eb_E L d 199 1 [some (Sum.inr x), v1, v2] (Sum.inr x :: st) M := eb_E_s hk199 rfl
theorem e199_1 {x : Int32} : eb_E L d 199 1 [v0, some (zi x), v2] (st) M = eb_E L d 199 2 [v0, some (zi x), v2] (zi x :: st) M := eb_E_s hk199 rfl
theorem e199_2  : eb_E L d 199 2 ls ([a1, a0]) M = (eb_ev L d 149 [a0, a1] M).bind (fun q => eb_E L d 199 5 ls [q.1] q.2) := eb_E_c hk199 rfl
theorem e199_5 {x : Int32} : eb_E L d 199 5 ls (zi x :: st) M = if x = 0 then eb_E L d 199 16 ls st M else eb_E L d 199 8 ls st M := eb_E_b hk199 rfl
theorem e199_8 {x : Option eb_A} : eb_E L d 199 8 [some (Sum.inr x), v1, v2] (st) M = eb_E L d 199 9 [some (Sum.inr x), v1, v2] (Sum.inr x :: st) M := eb_E_s hk199 rfl
theorem e199_9 {x : Int32} : eb_E L d 199 9 [v0, v1, some (zi x)] (st) M = eb_E L d 199 10 [v0, v1, some (zi x)] (zi x :: st) M := eb_E_s hk199 rfl
theorem e199_10  : eb_E L d 199 10 ls ([a1, a0]) M = (eb_ev L d 148 [a0, a1] M).bind (fun q => eb_E L d 199 13 ls [q.1] q.2) := eb_E_c hk199 rfl
theorem e199_13 {x : Int32} : eb_E L d 199 13 ls (zi x :: st) M = if x = 0 then eb_E L d 199 16 ls st M else eb_E L d 199 23 ls st M := eb_E_b hk199 rfl
theorem e199_16 {x : Option eb_A} : eb_E L d 199 16 [some (Sum.inr x), v1, v2] (st) M = eb_E L d 199 17 [some (Sum.inr x), v1, v2] (Sum.inr x :: st) M := eb_E_s hk199 rfl
theorem e199_17  : eb_E L d 199 17 ls (st) M = eb_E L d 199 19 ls (zi (-2) :: st) M := eb_E_s hk199 rfl
theorem e199_19  : eb_E L d 199 19 ls ([a1, a0]) M = (eb_ev L d 145 [a0, a1] M).bind (fun q => eb_E L d 199 22 ls [q.1] q.2) := eb_E_c hk199 rfl
theorem e199_22 {x : Int32} : eb_E L d 199 22 ls ([zi x]) M = some (zi x, M) := eb_E_r hk199 rfl
theorem e199_23 {x : Option eb_A} : eb_E L d 199 23 [some (Sum.inr x), v1, v2] (st) M = eb_E L d 199 24 [some (Sum.inr x), v1, v2] (Sum.inr x :: st) M := eb_E_s hk199 rfl
theorem e199_24  : eb_E L d 199 24 ls ([a0]) M = (eb_ev L d 197 [a0] M).bind (fun q => eb_E L d 199 27 ls [] q.2) := eb_E_c hk199 rfl
theorem e199_27 {x : Option eb_A} : eb_E L d 199 27 [some (Sum.inr x), v1, v2] (st) M = eb_E L d 199 28 [some (Sum.inr x), v1, v2] (Sum.inr x :: st) M := eb_E_s hk199 rfl
theorem e199_28  : eb_E L d 199 28 ls (Sum.inr (some a) :: st) (nc, ns, I, J, R) = if (eb_ty L a.1).1 = 6 then eb_E L d 199 31 ls (Sum.inr (R a 25) :: st) (nc, ns, I, J, R) else none := eb_E_iy hk199 rfl
theorem e199_31 {x : Int32} : eb_E L d 199 31 [v0, some (zi x), v2] (st) M = eb_E L d 199 32 [v0, some (zi x), v2] (zi x :: st) M := eb_E_s hk199 rfl
theorem e199_32 {x : Int32} : eb_E L d 199 32 ls (zi x :: Sum.inr (some a) :: st) (nc, ns, I, J, R) = if (12 ≤ (eb_ty L a.1).1 ∧ (eb_ty L a.1).1 ≤ 16) ∧ eb_in x (eb_ty L a.1).2 = true then eb_E L d 199 33 ls (Sum.inr (R a x.toNatClampNeg) :: st) (nc, ns, I, J, R) else none := eb_E_iy hk199 rfl
theorem e199_33 {x : Int32} : eb_E L d 199 33 [v0, v1, some (zi x)] (st) M = eb_E L d 199 34 [v0, v1, some (zi x)] (zi x :: st) M := eb_E_s hk199 rfl
theorem e199_34 {x : Int32} : eb_E L d 199 34 ls (zi x :: Sum.inr (some a) :: st) (nc, ns, I, J, R) = if (eb_ty L a.1).1 = 10 ∧ eb_in x (eb_ty L a.1).2 = true then eb_E L d 199 35 ls (zi (I a x.toNatClampNeg) :: st) (nc, ns, I, J, R) else none := eb_E_iy hk199 rfl
theorem e199_35 {x : Int32} : eb_E L d 199 35 ls ([zi x]) M = some (zi x, M) := eb_E_r hk199 rfl
/-! X6_guests -/
theorem hk200 : eb_cd L 200 = eb_look (kt200 L) := rfl
theorem h200 (ha : (eb_ty L a.1).1 = 6) {x1 : Int32} : eb_ev L (d + 1) 200 [zr a, zi x1] M = eb_E L d 200 0 [some (zr a), some (zi x1)] [] M := eb_ev_s rfl (eb_chk_i ha rfl)
theorem e200_0 {x : Option eb_A} : eb_E L d 200 0 [some (Sum.inr x), v1] (st) M = eb_E L d 200 1 [some (Sum.inr x), v1] (Sum.inr x :: st) M := eb_E_s hk200 rfl
theorem e200_1 {x : Int32} : eb_E L d 200 1 [v0, some (zi x)] (st) M = eb_E L d 200 2 [v0, some (zi x)] (zi x :: st) M := eb_E_s hk200 rfl
theorem e200_2  : eb_E L d 200 2 ls ([a1, a0]) M = (eb_ev L d 148 [a0, a1] M).bind (fun q => eb_E L d 200 5 ls [q.1] q.2) := eb_E_c hk200 rfl
theorem e200_5 {x : Int32} : eb_E L d 200 5 ls (zi x :: st) M = if x = 0 then eb_E L d 200 8 ls st M else eb_E L d 200 15 ls st M := eb_E_b hk200 rfl
theorem e200_8 {x : Option eb_A} : eb_E L d 200 8 [some (Sum.inr x), v1] (st) M = eb_E L d 200 9 [some (Sum.inr x), v1] (Sum.inr x :: st) M := eb_E_s hk200 rfl
theorem e200_9  : eb_E L d 200 9 ls (st) M = eb_E L d 200 11 ls (zi (-2) :: st) M := eb_E_s hk200 rfl
theorem e200_11  : eb_E L d 200 11 ls ([a1, a0]) M = (eb_ev L d 145 [a0, a1] M).bind (fun q => eb_E L d 200 14 ls [q.1] q.2) := eb_E_c hk200 rfl
theorem e200_14 {x : Int32} : eb_E L d 200 14 ls ([zi x]) M = some (zi x, M) := eb_E_r hk200 rfl
theorem e200_15 {x : Option eb_A} : eb_E L d 200 15 [some (Sum.inr x), v1] (st) M = eb_E L d 200 16 [some (Sum.inr x), v1] (Sum.inr x :: st) M := eb_E_s hk200 rfl
theorem e200_16  : eb_E L d 200 16 ls ([a0]) M = (eb_ev L d 197 [a0] M).bind (fun q => eb_E L d 200 19 ls [] q.2) := eb_E_c hk200 rfl
theorem e200_19 {x : Option eb_A} : eb_E L d 200 19 [some (Sum.inr x), v1] (st) M = eb_E L d 200 20 [some (Sum.inr x), v1] (Sum.inr x :: st) M := eb_E_s hk200 rfl
theorem e200_20 {x : Int32} : eb_E L d 200 20 [v0, some (zi x)] (st) M = eb_E L d 200 21 [v0, some (zi x)] (zi x :: st) M := eb_E_s hk200 rfl
theorem e200_21  : eb_E L d 200 21 ls ([a1, a0]) M = (eb_ev L d 198 [a0, a1] M).bind (fun q => eb_E L d 200 24 ls [q.1] q.2) := eb_E_c hk200 rfl
theorem e200_24 {x : Int32} : eb_E L d 200 24 ls ([zi x]) M = some (zi x, M) := eb_E_r hk200 rfl
/-! X6_out -/
theorem hk201 : eb_cd L 201 = eb_look (kt201 L) := rfl
theorem h201 (ha : (eb_ty L a.1).1 = 6) {x1 : Int32} : eb_ev L (d + 1) 201 [zr a, zi x1] M = eb_E L d 201 0 [some (zr a), some (zi x1), none, none] [] M := eb_ev_s rfl (eb_chk_i ha rfl)
theorem e201_0 {x : Int32} : eb_E L d 201 0 [v0, some (zi x), v2, v3] (st) M = eb_E L d 201 1 [v0, some (zi x), v2, v3] (zi x :: st) M := eb_E_s hk201 rfl
theorem e201_1  : eb_E L d 201 1 ls (st) M = eb_E L d 201 2 ls (zi (-1) :: st) M := eb_E_s hk201 rfl
theorem e201_2 {x : Int32} {y : Int32} : eb_E L d 201 2 ls (zi y :: zi x :: st) M = if x = y then eb_E L d 201 20 ls st M else eb_E L d 201 5 ls st M := eb_E_b hk201 rfl
theorem e201_5 {x : Option eb_A} : eb_E L d 201 5 [some (Sum.inr x), v1, v2, v3] (st) M = eb_E L d 201 6 [some (Sum.inr x), v1, v2, v3] (Sum.inr x :: st) M := eb_E_s hk201 rfl
theorem e201_6 {x : Int32} : eb_E L d 201 6 [v0, some (zi x), v2, v3] (st) M = eb_E L d 201 7 [v0, some (zi x), v2, v3] (zi x :: st) M := eb_E_s hk201 rfl
theorem e201_7  : eb_E L d 201 7 ls ([a1, a0]) M = (eb_ev L d 149 [a0, a1] M).bind (fun q => eb_E L d 201 10 ls [q.1] q.2) := eb_E_c hk201 rfl
theorem e201_10 {x : Int32} : eb_E L d 201 10 ls (zi x :: st) M = if x = 0 then eb_E L d 201 13 ls st M else eb_E L d 201 20 ls st M := eb_E_b hk201 rfl
theorem e201_13 {x : Option eb_A} : eb_E L d 201 13 [some (Sum.inr x), v1, v2, v3] (st) M = eb_E L d 201 14 [some (Sum.inr x), v1, v2, v3] (Sum.inr x :: st) M := eb_E_s hk201 rfl
theorem e201_14  : eb_E L d 201 14 ls (st) M = eb_E L d 201 16 ls (zi (-2) :: st) M := eb_E_s hk201 rfl
theorem e201_16  : eb_E L d 201 16 ls ([a1, a0]) M = (eb_ev L d 145 [a0, a1] M).bind (fun q => eb_E L d 201 19 ls [q.1] q.2) := eb_E_c hk201 rfl
theorem e201_19 {x : Int32} : eb_E L d 201 19 ls ([zi x]) M = some (zi x, M) := eb_E_r hk201 rfl
theorem e201_20 {x : Option eb_A} : eb_E L d 201 20 [some (Sum.inr x), v1, v2, v3] (st) M = eb_E L d 201 21 [some (Sum.inr x), v1, v2, v3] (Sum.inr x :: st) M := eb_E_s hk201 rfl
theorem e201_21  : eb_E L d 201 21 ls ([a0]) M = (eb_ev L d 197 [a0] M).bind (fun q => eb_E L d 201 24 ls [] q.2) := eb_E_c hk201 rfl
theorem e201_24  : eb_E L d 201 24 ls (st) M = eb_E L d 201 25 ls (zi 0 :: st) M := eb_E_s hk201 rfl
theorem e201_25 {x : Int32} : eb_E L d 201 25 [v0, v1, v2, v3] (zi x :: st) M = eb_E L d 201 26 [v0, v1, some (zi x), v3] (st) M := eb_E_s hk201 rfl
theorem e201_26  : eb_E L d 201 26 ls (st) M = eb_E L d 201 27 ls (zi 0 :: st) M := eb_E_s hk201 rfl
theorem e201_27 {x : Int32} : eb_E L d 201 27 [v0, v1, v2, v3] (zi x :: st) M = eb_E L d 201 28 [v0, v1, v2, some (zi x)] (st) M := eb_E_s hk201 rfl
theorem e201_28 {x : Int32} : eb_E L d 201 28 [v0, v1, v2, some (zi x)] (st) M = eb_E L d 201 29 [v0, v1, v2, some (zi x)] (zi x :: st) M := eb_E_s hk201 rfl
theorem e201_29 {x : Option eb_A} : eb_E L d 201 29 [some (Sum.inr x), v1, v2, v3] (st) M = eb_E L d 201 30 [some (Sum.inr x), v1, v2, v3] (Sum.inr x :: st) M := eb_E_s hk201 rfl
theorem e201_30  : eb_E L d 201 30 ls (Sum.inr (some a) :: st) (nc, ns, I, J, R) = if (eb_ty L a.1).1 = 6 then eb_E L d 201 33 ls (zi (I a 11) :: st) (nc, ns, I, J, R) else none := eb_E_iy hk201 rfl
theorem e201_33 {x : Int32} {y : Int32} : eb_E L d 201 33 ls (zi y :: zi x :: st) M = if x < y then eb_E L d 201 36 ls st M else eb_E L d 201 65 ls st M := eb_E_b hk201 rfl
theorem e201_36 {x : Int32} : eb_E L d 201 36 [v0, v1, some (zi x), v3] (st) M = eb_E L d 201 37 [v0, v1, some (zi x), v3] (zi x :: st) M := eb_E_s hk201 rfl
theorem e201_37 {x : Int32} : eb_E L d 201 37 [v0, some (zi x), v2, v3] (st) M = eb_E L d 201 38 [v0, some (zi x), v2, v3] (zi x :: st) M := eb_E_s hk201 rfl
theorem e201_38  : eb_E L d 201 38 ls (st) M = eb_E L d 201 39 ls (zi (-1) :: st) M := eb_E_s hk201 rfl
theorem e201_39 {x : Int32} {y : Int32} : eb_E L d 201 39 ls (zi y :: zi x :: st) M = if x = y then eb_E L d 201 47 ls st M else eb_E L d 201 42 ls st M := eb_E_b hk201 rfl
theorem e201_42 {x : Int32} : eb_E L d 201 42 [v0, v1, v2, some (zi x)] (st) M = eb_E L d 201 43 [v0, v1, v2, some (zi x)] (zi x :: st) M := eb_E_s hk201 rfl
theorem e201_43 {x : Int32} : eb_E L d 201 43 [v0, some (zi x), v2, v3] (st) M = eb_E L d 201 44 [v0, some (zi x), v2, v3] (zi x :: st) M := eb_E_s hk201 rfl
theorem e201_44 {x : Int32} {y : Int32} : eb_E L d 201 44 ls (zi y :: zi x :: st) M = if x = y then eb_E L d 201 47 ls st M else eb_E L d 201 56 ls st M := eb_E_b hk201 rfl
theorem e201_47 {x : Option eb_A} : eb_E L d 201 47 [some (Sum.inr x), v1, v2, v3] (st) M = eb_E L d 201 48 [some (Sum.inr x), v1, v2, v3] (Sum.inr x :: st) M := eb_E_s hk201 rfl
theorem e201_48  : eb_E L d 201 48 ls (Sum.inr (some a) :: st) (nc, ns, I, J, R) = if (eb_ty L a.1).1 = 6 then eb_E L d 201 51 ls (Sum.inr (R a 26) :: st) (nc, ns, I, J, R) else none := eb_E_iy hk201 rfl
theorem e201_51 {x : Int32} : eb_E L d 201 51 [v0, v1, v2, some (zi x)] (st) M = eb_E L d 201 52 [v0, v1, v2, some (zi x)] (zi x :: st) M := eb_E_s hk201 rfl
theorem e201_52 {x : Int32} : eb_E L d 201 52 ls (zi x :: Sum.inr (some a) :: st) (nc, ns, I, J, R) = if (eb_ty L a.1).1 = 10 ∧ eb_in x (eb_ty L a.1).2 = true then eb_E L d 201 53 ls (zi (I a x.toNatClampNeg) :: st) (nc, ns, I, J, R) else none := eb_E_iy hk201 rfl
theorem e201_53  : eb_E L d 201 53 ls (st) M = eb_E L d 201 57 ls (st) M := eb_E_s hk201 rfl
theorem e201_56  : eb_E L d 201 56 ls (st) M = eb_E L d 201 57 ls (zi 0 :: st) M := eb_E_s hk201 rfl
theorem e201_57 {x : Int32} {y : Int32} : eb_E L d 201 57 ls (zi y :: zi x :: st) M = eb_E L d 201 58 ls (zi (x + y) :: st) M := eb_E_s hk201 rfl
theorem e201_58 {x : Int32} : eb_E L d 201 58 [v0, v1, v2, v3] (zi x :: st) M = eb_E L d 201 59 [v0, v1, some (zi x), v3] (st) M := eb_E_s hk201 rfl
theorem e201_59 {x : Int32} : eb_E L d 201 59 [v0, v1, v2, some (zi x)] (st) M = eb_E L d 201 62 [v0, v1, v2, some (zi (x + 1))] (st) M := eb_E_s hk201 rfl
theorem e201_62  : eb_E L d 201 62 ls (st) M = eb_E L d 201 28 ls (st) M := eb_E_s hk201 rfl
theorem e201_65 {x : Int32} : eb_E L d 201 65 [v0, v1, some (zi x), v3] (st) M = eb_E L d 201 66 [v0, v1, some (zi x), v3] (zi x :: st) M := eb_E_s hk201 rfl
theorem e201_66 {x : Int32} : eb_E L d 201 66 ls ([zi x]) M = some (zi x, M) := eb_E_r hk201 rfl
/-! X6_full -/
theorem hk202 : eb_cd L 202 = eb_look (kt202 L) := rfl
theorem h202 (ha : (eb_ty L a.1).1 = 6) : eb_ev L (d + 1) 202 [zr a] M = eb_E L d 202 0 [some (zr a), none, none] [] M := eb_ev_s rfl (eb_chk_i ha rfl)
theorem e202_0 {x : Option eb_A} : eb_E L d 202 0 [some (Sum.inr x), v1, v2] (st) M = eb_E L d 202 1 [some (Sum.inr x), v1, v2] (Sum.inr x :: st) M := eb_E_s hk202 rfl
theorem e202_1  : eb_E L d 202 1 ls ([a0]) M = (eb_ev L d 197 [a0] M).bind (fun q => eb_E L d 202 4 ls [] q.2) := eb_E_c hk202 rfl
theorem e202_4  : eb_E L d 202 4 ls (st) M = eb_E L d 202 5 ls (zi 0 :: st) M := eb_E_s hk202 rfl
theorem e202_5 {x : Int32} : eb_E L d 202 5 [v0, v1, v2] (zi x :: st) M = eb_E L d 202 6 [v0, some (zi x), v2] (st) M := eb_E_s hk202 rfl
theorem e202_6  : eb_E L d 202 6 ls (st) M = eb_E L d 202 7 ls (zi 0 :: st) M := eb_E_s hk202 rfl
theorem e202_7 {x : Int32} : eb_E L d 202 7 [v0, v1, v2] (zi x :: st) M = eb_E L d 202 8 [v0, v1, some (zi x)] (st) M := eb_E_s hk202 rfl
theorem e202_8 {x : Int32} : eb_E L d 202 8 [v0, v1, some (zi x)] (st) M = eb_E L d 202 9 [v0, v1, some (zi x)] (zi x :: st) M := eb_E_s hk202 rfl
theorem e202_9 {x : Option eb_A} : eb_E L d 202 9 [some (Sum.inr x), v1, v2] (st) M = eb_E L d 202 10 [some (Sum.inr x), v1, v2] (Sum.inr x :: st) M := eb_E_s hk202 rfl
theorem e202_10  : eb_E L d 202 10 ls (Sum.inr (some a) :: st) (nc, ns, I, J, R) = if (eb_ty L a.1).1 = 6 then eb_E L d 202 13 ls (zi (I a 9) :: st) (nc, ns, I, J, R) else none := eb_E_iy hk202 rfl
theorem e202_13 {x : Int32} {y : Int32} : eb_E L d 202 13 ls (zi y :: zi x :: st) M = if x < y then eb_E L d 202 16 ls st M else eb_E L d 202 41 ls st M := eb_E_b hk202 rfl
theorem e202_16 {x : Int32} : eb_E L d 202 16 [v0, some (zi x), v2] (st) M = eb_E L d 202 17 [v0, some (zi x), v2] (zi x :: st) M := eb_E_s hk202 rfl
theorem e202_17 {x : Option eb_A} : eb_E L d 202 17 [some (Sum.inr x), v1, v2] (st) M = eb_E L d 202 18 [some (Sum.inr x), v1, v2] (Sum.inr x :: st) M := eb_E_s hk202 rfl
theorem e202_18  : eb_E L d 202 18 ls (Sum.inr (some a) :: st) (nc, ns, I, J, R) = if (eb_ty L a.1).1 = 6 then eb_E L d 202 21 ls (Sum.inr (R a 27) :: st) (nc, ns, I, J, R) else none := eb_E_iy hk202 rfl
theorem e202_21 {x : Int32} : eb_E L d 202 21 [v0, v1, some (zi x)] (st) M = eb_E L d 202 22 [v0, v1, some (zi x)] (zi x :: st) M := eb_E_s hk202 rfl
theorem e202_22 {x : Int32} : eb_E L d 202 22 ls (zi x :: Sum.inr (some a) :: st) (nc, ns, I, J, R) = if (eb_ty L a.1).1 = 10 ∧ eb_in x (eb_ty L a.1).2 = true then eb_E L d 202 23 ls (zi (I a x.toNatClampNeg) :: st) (nc, ns, I, J, R) else none := eb_E_iy hk202 rfl
theorem e202_23 {x : Int32} : eb_E L d 202 23 ls (zi x :: st) M = if x = 0 then eb_E L d 202 26 ls st M else eb_E L d 202 32 ls st M := eb_E_b hk202 rfl
theorem e202_26  : eb_E L d 202 26 ls (st) M = eb_E L d 202 27 ls (zi 1 :: st) M := eb_E_s hk202 rfl
theorem e202_27 {x : Int32} : eb_E L d 202 27 [v0, v1, some (zi x)] (st) M = eb_E L d 202 28 [v0, v1, some (zi x)] (zi x :: st) M := eb_E_s hk202 rfl
theorem e202_28 {x : Int32} {y : Int32} : eb_E L d 202 28 ls (zi y :: zi x :: st) M = eb_E L d 202 29 ls (zi (x <<< (y &&& 31)) :: st) M := eb_E_s hk202 rfl
theorem e202_29  : eb_E L d 202 29 ls (st) M = eb_E L d 202 33 ls (st) M := eb_E_s hk202 rfl
theorem e202_32  : eb_E L d 202 32 ls (st) M = eb_E L d 202 33 ls (zi 0 :: st) M := eb_E_s hk202 rfl
theorem e202_33 {x : Int32} {y : Int32} : eb_E L d 202 33 ls (zi y :: zi x :: st) M = eb_E L d 202 34 ls (zi (x ||| y) :: st) M := eb_E_s hk202 rfl
theorem e202_34 {x : Int32} : eb_E L d 202 34 [v0, v1, v2] (zi x :: st) M = eb_E L d 202 35 [v0, some (zi x), v2] (st) M := eb_E_s hk202 rfl
theorem e202_35 {x : Int32} : eb_E L d 202 35 [v0, v1, some (zi x)] (st) M = eb_E L d 202 38 [v0, v1, some (zi (x + 1))] (st) M := eb_E_s hk202 rfl
theorem e202_38  : eb_E L d 202 38 ls (st) M = eb_E L d 202 8 ls (st) M := eb_E_s hk202 rfl
theorem e202_41 {x : Int32} : eb_E L d 202 41 [v0, some (zi x), v2] (st) M = eb_E L d 202 42 [v0, some (zi x), v2] (zi x :: st) M := eb_E_s hk202 rfl
theorem e202_42 {x : Int32} : eb_E L d 202 42 ls ([zi x]) M = some (zi x, M) := eb_E_r hk202 rfl
/-! X6_joyOf -/
theorem hk203 : eb_cd L 203 = eb_look (kt203 L) := rfl
theorem h203 (ha : (eb_ty L a.1).1 = 6) {x1 : Int32} : eb_ev L (d + 1) 203 [zr a, zi x1] M = eb_E L d 203 0 [some (zr a), some (zi x1), none, none] [] M := eb_ev_s rfl (eb_chk_i ha rfl)
theorem e203_0  : eb_E L d 203 0 ls (st) M = eb_E L d 203 2 ls (zi (-30) :: st) M := eb_E_s hk203 rfl
theorem e203_2 {x : Option eb_A} : eb_E L d 203 2 [some (Sum.inr x), v1, v2, v3] (st) M = eb_E L d 203 3 [some (Sum.inr x), v1, v2, v3] (Sum.inr x :: st) M := eb_E_s hk203 rfl
theorem e203_3  : eb_E L d 203 3 ls (Sum.inr (some a) :: st) (nc, ns, I, J, R) = if (eb_ty L a.1).1 = 6 then eb_E L d 203 6 ls (Sum.inr (R a 26) :: st) (nc, ns, I, J, R) else none := eb_E_iy hk203 rfl
theorem e203_6 {x : Int32} : eb_E L d 203 6 [v0, some (zi x), v2, v3] (st) M = eb_E L d 203 7 [v0, some (zi x), v2, v3] (zi x :: st) M := eb_E_s hk203 rfl
theorem e203_7 {x : Int32} : eb_E L d 203 7 ls (zi x :: Sum.inr (some a) :: st) (nc, ns, I, J, R) = if (eb_ty L a.1).1 = 10 ∧ eb_in x (eb_ty L a.1).2 = true then eb_E L d 203 8 ls (zi (I a x.toNatClampNeg) :: st) (nc, ns, I, J, R) else none := eb_E_iy hk203 rfl
theorem e203_8 {x : Int32} {y : Int32} : eb_E L d 203 8 ls (zi y :: zi x :: st) M = eb_E L d 203 9 ls (zi (x * y) :: st) M := eb_E_s hk203 rfl
theorem e203_9 {x : Int32} : eb_E L d 203 9 [v0, v1, v2, v3] (zi x :: st) M = eb_E L d 203 10 [v0, v1, some (zi x), v3] (st) M := eb_E_s hk203 rfl
theorem e203_10  : eb_E L d 203 10 ls (st) M = eb_E L d 203 11 ls (zi 0 :: st) M := eb_E_s hk203 rfl
theorem e203_11 {x : Int32} : eb_E L d 203 11 [v0, v1, v2, v3] (zi x :: st) M = eb_E L d 203 12 [v0, v1, v2, some (zi x)] (st) M := eb_E_s hk203 rfl
theorem e203_12 {x : Int32} : eb_E L d 203 12 [v0, v1, v2, some (zi x)] (st) M = eb_E L d 203 13 [v0, v1, v2, some (zi x)] (zi x :: st) M := eb_E_s hk203 rfl
theorem e203_13 {x : Option eb_A} : eb_E L d 203 13 [some (Sum.inr x), v1, v2, v3] (st) M = eb_E L d 203 14 [some (Sum.inr x), v1, v2, v3] (Sum.inr x :: st) M := eb_E_s hk203 rfl
theorem e203_14  : eb_E L d 203 14 ls (Sum.inr (some a) :: st) (nc, ns, I, J, R) = if (eb_ty L a.1).1 = 6 then eb_E L d 203 17 ls (zi (I a 9) :: st) (nc, ns, I, J, R) else none := eb_E_iy hk203 rfl
theorem e203_17 {x : Int32} {y : Int32} : eb_E L d 203 17 ls (zi y :: zi x :: st) M = if x < y then eb_E L d 203 20 ls st M else eb_E L d 203 71 ls st M := eb_E_b hk203 rfl
theorem e203_20 {x : Int32} : eb_E L d 203 20 [v0, v1, some (zi x), v3] (st) M = eb_E L d 203 21 [v0, v1, some (zi x), v3] (zi x :: st) M := eb_E_s hk203 rfl
theorem e203_21 {x : Option eb_A} : eb_E L d 203 21 [some (Sum.inr x), v1, v2, v3] (st) M = eb_E L d 203 22 [some (Sum.inr x), v1, v2, v3] (Sum.inr x :: st) M := eb_E_s hk203 rfl
theorem e203_22  : eb_E L d 203 22 ls (Sum.inr (some a) :: st) (nc, ns, I, J, R) = if (eb_ty L a.1).1 = 6 then eb_E L d 203 25 ls (Sum.inr (R a 25) :: st) (nc, ns, I, J, R) else none := eb_E_iy hk203 rfl
theorem e203_25 {x : Int32} : eb_E L d 203 25 [v0, some (zi x), v2, v3] (st) M = eb_E L d 203 26 [v0, some (zi x), v2, v3] (zi x :: st) M := eb_E_s hk203 rfl
theorem e203_26 {x : Int32} : eb_E L d 203 26 ls (zi x :: Sum.inr (some a) :: st) (nc, ns, I, J, R) = if (12 ≤ (eb_ty L a.1).1 ∧ (eb_ty L a.1).1 ≤ 16) ∧ eb_in x (eb_ty L a.1).2 = true then eb_E L d 203 27 ls (Sum.inr (R a x.toNatClampNeg) :: st) (nc, ns, I, J, R) else none := eb_E_iy hk203 rfl
theorem e203_27 {x : Int32} : eb_E L d 203 27 [v0, v1, v2, some (zi x)] (st) M = eb_E L d 203 28 [v0, v1, v2, some (zi x)] (zi x :: st) M := eb_E_s hk203 rfl
theorem e203_28 {x : Int32} : eb_E L d 203 28 ls (zi x :: Sum.inr (some a) :: st) (nc, ns, I, J, R) = if (eb_ty L a.1).1 = 10 ∧ eb_in x (eb_ty L a.1).2 = true then eb_E L d 203 29 ls (zi (I a x.toNatClampNeg) :: st) (nc, ns, I, J, R) else none := eb_E_iy hk203 rfl
theorem e203_29 {x : Option eb_A} : eb_E L d 203 29 [some (Sum.inr x), v1, v2, v3] (st) M = eb_E L d 203 30 [some (Sum.inr x), v1, v2, v3] (Sum.inr x :: st) M := eb_E_s hk203 rfl
theorem e203_30  : eb_E L d 203 30 ls (Sum.inr (some a) :: st) (nc, ns, I, J, R) = if (eb_ty L a.1).1 = 6 then eb_E L d 203 33 ls (Sum.inr (R a 10) :: st) (nc, ns, I, J, R) else none := eb_E_iy hk203 rfl
theorem e203_33 {x : Int32} : eb_E L d 203 33 [v0, v1, v2, some (zi x)] (st) M = eb_E L d 203 34 [v0, v1, v2, some (zi x)] (zi x :: st) M := eb_E_s hk203 rfl
theorem e203_34 {x : Int32} : eb_E L d 203 34 ls (zi x :: Sum.inr (some a) :: st) (nc, ns, I, J, R) = if (12 ≤ (eb_ty L a.1).1 ∧ (eb_ty L a.1).1 ≤ 16) ∧ eb_in x (eb_ty L a.1).2 = true then eb_E L d 203 35 ls (Sum.inr (R a x.toNatClampNeg) :: st) (nc, ns, I, J, R) else none := eb_E_iy hk203 rfl
theorem e203_35  : eb_E L d 203 35 ls (st) M = eb_E L d 203 36 ls (zi 0 :: st) M := eb_E_s hk203 rfl
theorem e203_36 {x : Int32} : eb_E L d 203 36 ls (zi x :: Sum.inr (some a) :: st) (nc, ns, I, J, R) = if (eb_ty L a.1).1 = 10 ∧ eb_in x (eb_ty L a.1).2 = true then eb_E L d 203 37 ls (zi (I a x.toNatClampNeg) :: st) (nc, ns, I, J, R) else none := eb_E_iy hk203 rfl
theorem e203_37 {x : Option eb_A} : eb_E L d 203 37 [some (Sum.inr x), v1, v2, v3] (st) M = eb_E L d 203 38 [some (Sum.inr x), v1, v2, v3] (Sum.inr x :: st) M := eb_E_s hk203 rfl
theorem e203_38  : eb_E L d 203 38 ls (Sum.inr (some a) :: st) (nc, ns, I, J, R) = if (eb_ty L a.1).1 = 6 then eb_E L d 203 41 ls (Sum.inr (R a 10) :: st) (nc, ns, I, J, R) else none := eb_E_iy hk203 rfl
theorem e203_41 {x : Int32} : eb_E L d 203 41 [v0, v1, v2, some (zi x)] (st) M = eb_E L d 203 42 [v0, v1, v2, some (zi x)] (zi x :: st) M := eb_E_s hk203 rfl
theorem e203_42 {x : Int32} : eb_E L d 203 42 ls (zi x :: Sum.inr (some a) :: st) (nc, ns, I, J, R) = if (12 ≤ (eb_ty L a.1).1 ∧ (eb_ty L a.1).1 ≤ 16) ∧ eb_in x (eb_ty L a.1).2 = true then eb_E L d 203 43 ls (Sum.inr (R a x.toNatClampNeg) :: st) (nc, ns, I, J, R) else none := eb_E_iy hk203 rfl
theorem e203_43  : eb_E L d 203 43 ls (st) M = eb_E L d 203 44 ls (zi 3 :: st) M := eb_E_s hk203 rfl
theorem e203_44 {x : Int32} : eb_E L d 203 44 ls (zi x :: Sum.inr (some a) :: st) (nc, ns, I, J, R) = if (eb_ty L a.1).1 = 10 ∧ eb_in x (eb_ty L a.1).2 = true then eb_E L d 203 45 ls (zi (I a x.toNatClampNeg) :: st) (nc, ns, I, J, R) else none := eb_E_iy hk203 rfl
theorem e203_45 {x : Int32} {y : Int32} : eb_E L d 203 45 ls (zi y :: zi x :: st) M = eb_E L d 203 46 ls (zi (x - y) :: st) M := eb_E_s hk203 rfl
theorem e203_46 {x : Option eb_A} : eb_E L d 203 46 [some (Sum.inr x), v1, v2, v3] (st) M = eb_E L d 203 47 [some (Sum.inr x), v1, v2, v3] (Sum.inr x :: st) M := eb_E_s hk203 rfl
theorem e203_47  : eb_E L d 203 47 ls (Sum.inr (some a) :: st) (nc, ns, I, J, R) = if (eb_ty L a.1).1 = 6 then eb_E L d 203 50 ls (Sum.inr (R a 27) :: st) (nc, ns, I, J, R) else none := eb_E_iy hk203 rfl
theorem e203_50 {x : Int32} : eb_E L d 203 50 [v0, v1, v2, some (zi x)] (st) M = eb_E L d 203 51 [v0, v1, v2, some (zi x)] (zi x :: st) M := eb_E_s hk203 rfl
theorem e203_51 {x : Int32} : eb_E L d 203 51 ls (zi x :: Sum.inr (some a) :: st) (nc, ns, I, J, R) = if (eb_ty L a.1).1 = 10 ∧ eb_in x (eb_ty L a.1).2 = true then eb_E L d 203 52 ls (zi (I a x.toNatClampNeg) :: st) (nc, ns, I, J, R) else none := eb_E_iy hk203 rfl
theorem e203_52 {x : Int32} : eb_E L d 203 52 ls (zi x :: st) M = if x = 0 then eb_E L d 203 55 ls st M else eb_E L d 203 60 ls st M := eb_E_b hk203 rfl
theorem e203_55  : eb_E L d 203 55 ls (st) M = eb_E L d 203 57 ls (zi 20 :: st) M := eb_E_s hk203 rfl
theorem e203_57  : eb_E L d 203 57 ls (st) M = eb_E L d 203 61 ls (st) M := eb_E_s hk203 rfl
theorem e203_60  : eb_E L d 203 60 ls (st) M = eb_E L d 203 61 ls (zi 0 :: st) M := eb_E_s hk203 rfl
theorem e203_61 {x : Int32} {y : Int32} : eb_E L d 203 61 ls (zi y :: zi x :: st) M = eb_E L d 203 62 ls (zi (x - y) :: st) M := eb_E_s hk203 rfl
theorem e203_62 {x : Int32} {y : Int32} : eb_E L d 203 62 ls (zi y :: zi x :: st) M = eb_E L d 203 63 ls (zi (x * y) :: st) M := eb_E_s hk203 rfl
theorem e203_63 {x : Int32} {y : Int32} : eb_E L d 203 63 ls (zi y :: zi x :: st) M = eb_E L d 203 64 ls (zi (x + y) :: st) M := eb_E_s hk203 rfl
theorem e203_64 {x : Int32} : eb_E L d 203 64 [v0, v1, v2, v3] (zi x :: st) M = eb_E L d 203 65 [v0, v1, some (zi x), v3] (st) M := eb_E_s hk203 rfl
theorem e203_65 {x : Int32} : eb_E L d 203 65 [v0, v1, v2, some (zi x)] (st) M = eb_E L d 203 68 [v0, v1, v2, some (zi (x + 1))] (st) M := eb_E_s hk203 rfl
theorem e203_68  : eb_E L d 203 68 ls (st) M = eb_E L d 203 12 ls (st) M := eb_E_s hk203 rfl
theorem e203_71 {x : Int32} : eb_E L d 203 71 [v0, v1, some (zi x), v3] (st) M = eb_E L d 203 72 [v0, v1, some (zi x), v3] (zi x :: st) M := eb_E_s hk203 rfl
theorem e203_72 {x : Int32} : eb_E L d 203 72 ls ([zi x]) M = some (zi x, M) := eb_E_r hk203 rfl
/-! X6_joyBy -/
theorem hk204 : eb_cd L 204 = eb_look (kt204 L) := rfl
theorem h204 (ha : (eb_ty L a.1).1 = 6) {x1 : Int32} : eb_ev L (d + 1) 204 [zr a, zi x1] M = eb_E L d 204 0 [some (zr a), some (zi x1), none, none] [] M := eb_ev_s rfl (eb_chk_i ha rfl)
theorem e204_0  : eb_E L d 204 0 ls (st) M = eb_E L d 204 1 ls (zi 0 :: st) M := eb_E_s hk204 rfl
theorem e204_1 {x : Int32} : eb_E L d 204 1 [v0, v1, v2, v3] (zi x :: st) M = eb_E L d 204 2 [v0, v1, some (zi x), v3] (st) M := eb_E_s hk204 rfl
theorem e204_2  : eb_E L d 204 2 ls (st) M = eb_E L d 204 3 ls (zi 0 :: st) M := eb_E_s hk204 rfl
theorem e204_3 {x : Int32} : eb_E L d 204 3 [v0, v1, v2, v3] (zi x :: st) M = eb_E L d 204 4 [v0, v1, v2, some (zi x)] (st) M := eb_E_s hk204 rfl
theorem e204_4 {x : Int32} : eb_E L d 204 4 [v0, v1, v2, some (zi x)] (st) M = eb_E L d 204 5 [v0, v1, v2, some (zi x)] (zi x :: st) M := eb_E_s hk204 rfl
theorem e204_5 {x : Option eb_A} : eb_E L d 204 5 [some (Sum.inr x), v1, v2, v3] (st) M = eb_E L d 204 6 [some (Sum.inr x), v1, v2, v3] (Sum.inr x :: st) M := eb_E_s hk204 rfl
theorem e204_6  : eb_E L d 204 6 ls (Sum.inr (some a) :: st) (nc, ns, I, J, R) = if (eb_ty L a.1).1 = 6 then eb_E L d 204 9 ls (zi (I a 11) :: st) (nc, ns, I, J, R) else none := eb_E_iy hk204 rfl
theorem e204_9 {x : Int32} {y : Int32} : eb_E L d 204 9 ls (zi y :: zi x :: st) M = if x < y then eb_E L d 204 12 ls st M else eb_E L d 204 40 ls st M := eb_E_b hk204 rfl
theorem e204_12 {x : Int32} : eb_E L d 204 12 [v0, v1, some (zi x), v3] (st) M = eb_E L d 204 13 [v0, v1, some (zi x), v3] (zi x :: st) M := eb_E_s hk204 rfl
theorem e204_13 {x : Int32} : eb_E L d 204 13 [v0, some (zi x), v2, v3] (st) M = eb_E L d 204 14 [v0, some (zi x), v2, v3] (zi x :: st) M := eb_E_s hk204 rfl
theorem e204_14  : eb_E L d 204 14 ls (st) M = eb_E L d 204 15 ls (zi (-1) :: st) M := eb_E_s hk204 rfl
theorem e204_15 {x : Int32} {y : Int32} : eb_E L d 204 15 ls (zi y :: zi x :: st) M = if x = y then eb_E L d 204 23 ls st M else eb_E L d 204 18 ls st M := eb_E_b hk204 rfl
theorem e204_18 {x : Int32} : eb_E L d 204 18 [v0, v1, v2, some (zi x)] (st) M = eb_E L d 204 19 [v0, v1, v2, some (zi x)] (zi x :: st) M := eb_E_s hk204 rfl
theorem e204_19 {x : Int32} : eb_E L d 204 19 [v0, some (zi x), v2, v3] (st) M = eb_E L d 204 20 [v0, some (zi x), v2, v3] (zi x :: st) M := eb_E_s hk204 rfl
theorem e204_20 {x : Int32} {y : Int32} : eb_E L d 204 20 ls (zi y :: zi x :: st) M = if x = y then eb_E L d 204 23 ls st M else eb_E L d 204 31 ls st M := eb_E_b hk204 rfl
theorem e204_23 {x : Option eb_A} : eb_E L d 204 23 [some (Sum.inr x), v1, v2, v3] (st) M = eb_E L d 204 24 [some (Sum.inr x), v1, v2, v3] (Sum.inr x :: st) M := eb_E_s hk204 rfl
theorem e204_24 {x : Int32} : eb_E L d 204 24 [v0, v1, v2, some (zi x)] (st) M = eb_E L d 204 25 [v0, v1, v2, some (zi x)] (zi x :: st) M := eb_E_s hk204 rfl
theorem e204_25 {s0 : Int32} : eb_E L d 204 25 ls ([a1, a0, zi s0]) M = (eb_ev L d 203 [a0, a1] M).bind (fun q => eb_E L d 204 28 ls [q.1, zi s0] q.2) := eb_E_c hk204 rfl
theorem e204_28  : eb_E L d 204 28 ls (st) M = eb_E L d 204 32 ls (st) M := eb_E_s hk204 rfl
theorem e204_31  : eb_E L d 204 31 ls (st) M = eb_E L d 204 32 ls (zi 0 :: st) M := eb_E_s hk204 rfl
theorem e204_32 {x : Int32} {y : Int32} : eb_E L d 204 32 ls (zi y :: zi x :: st) M = eb_E L d 204 33 ls (zi (x + y) :: st) M := eb_E_s hk204 rfl
theorem e204_33 {x : Int32} : eb_E L d 204 33 [v0, v1, v2, v3] (zi x :: st) M = eb_E L d 204 34 [v0, v1, some (zi x), v3] (st) M := eb_E_s hk204 rfl
theorem e204_34 {x : Int32} : eb_E L d 204 34 [v0, v1, v2, some (zi x)] (st) M = eb_E L d 204 37 [v0, v1, v2, some (zi (x + 1))] (st) M := eb_E_s hk204 rfl
theorem e204_37  : eb_E L d 204 37 ls (st) M = eb_E L d 204 4 ls (st) M := eb_E_s hk204 rfl
theorem e204_40 {x : Int32} : eb_E L d 204 40 [v0, v1, some (zi x), v3] (st) M = eb_E L d 204 41 [v0, v1, some (zi x), v3] (zi x :: st) M := eb_E_s hk204 rfl
theorem e204_41 {x : Int32} : eb_E L d 204 41 ls ([zi x]) M = some (zi x, M) := eb_E_r hk204 rfl
/-! X6_joy -/
theorem hk205 : eb_cd L 205 = eb_look (kt205 L) := rfl
theorem h205 (ha : (eb_ty L a.1).1 = 6) {x1 : Int32} : eb_ev L (d + 1) 205 [zr a, zi x1] M = eb_E L d 205 0 [some (zr a), some (zi x1)] [] M := eb_ev_s rfl (eb_chk_i ha rfl)
theorem e205_0 {x : Int32} : eb_E L d 205 0 [v0, some (zi x)] (st) M = eb_E L d 205 1 [v0, some (zi x)] (zi x :: st) M := eb_E_s hk205 rfl
theorem e205_1  : eb_E L d 205 1 ls (st) M = eb_E L d 205 2 ls (zi (-1) :: st) M := eb_E_s hk205 rfl
theorem e205_2 {x : Int32} {y : Int32} : eb_E L d 205 2 ls (zi y :: zi x :: st) M = if x = y then eb_E L d 205 23 ls st M else eb_E L d 205 5 ls st M := eb_E_b hk205 rfl
theorem e205_5 {x : Option eb_A} : eb_E L d 205 5 [some (Sum.inr x), v1] (st) M = eb_E L d 205 6 [some (Sum.inr x), v1] (Sum.inr x :: st) M := eb_E_s hk205 rfl
theorem e205_6 {x : Int32} : eb_E L d 205 6 [v0, some (zi x)] (st) M = eb_E L d 205 7 [v0, some (zi x)] (zi x :: st) M := eb_E_s hk205 rfl
theorem e205_7  : eb_E L d 205 7 ls ([a1, a0]) M = (eb_ev L d 149 [a0, a1] M).bind (fun q => eb_E L d 205 10 ls [q.1] q.2) := eb_E_c hk205 rfl
theorem e205_10 {x : Int32} : eb_E L d 205 10 ls (zi x :: st) M = if x = 0 then eb_E L d 205 13 ls st M else eb_E L d 205 23 ls st M := eb_E_b hk205 rfl
theorem e205_13  : eb_E L d 205 13 ls (st) M = eb_E L d 205 15 ls (zi (-1000000) :: st) M := eb_E_s hk205 rfl
theorem e205_15 {x : Option eb_A} : eb_E L d 205 15 [some (Sum.inr x), v1] (st) M = eb_E L d 205 16 [some (Sum.inr x), v1] (Sum.inr x :: st) M := eb_E_s hk205 rfl
theorem e205_16  : eb_E L d 205 16 ls (st) M = eb_E L d 205 18 ls (zi (-2) :: st) M := eb_E_s hk205 rfl
theorem e205_18 {s0 : Int32} : eb_E L d 205 18 ls ([a1, a0, zi s0]) M = (eb_ev L d 145 [a0, a1] M).bind (fun q => eb_E L d 205 21 ls [q.1, zi s0] q.2) := eb_E_c hk205 rfl
theorem e205_21 {x : Int32} {y : Int32} : eb_E L d 205 21 ls (zi y :: zi x :: st) M = eb_E L d 205 22 ls (zi (x + y) :: st) M := eb_E_s hk205 rfl
theorem e205_22 {x : Int32} : eb_E L d 205 22 ls ([zi x]) M = some (zi x, M) := eb_E_r hk205 rfl
theorem e205_23 {x : Option eb_A} : eb_E L d 205 23 [some (Sum.inr x), v1] (st) M = eb_E L d 205 24 [some (Sum.inr x), v1] (Sum.inr x :: st) M := eb_E_s hk205 rfl
theorem e205_24  : eb_E L d 205 24 ls ([a0]) M = (eb_ev L d 197 [a0] M).bind (fun q => eb_E L d 205 27 ls [] q.2) := eb_E_c hk205 rfl
theorem e205_27 {x : Option eb_A} : eb_E L d 205 27 [some (Sum.inr x), v1] (st) M = eb_E L d 205 28 [some (Sum.inr x), v1] (Sum.inr x :: st) M := eb_E_s hk205 rfl
theorem e205_28 {x : Int32} : eb_E L d 205 28 [v0, some (zi x)] (st) M = eb_E L d 205 29 [v0, some (zi x)] (zi x :: st) M := eb_E_s hk205 rfl
theorem e205_29  : eb_E L d 205 29 ls ([a1, a0]) M = (eb_ev L d 204 [a0, a1] M).bind (fun q => eb_E L d 205 32 ls [q.1] q.2) := eb_E_c hk205 rfl
theorem e205_32 {x : Int32} : eb_E L d 205 32 ls ([zi x]) M = some (zi x, M) := eb_E_r hk205 rfl
/-! X6_taken -/
theorem hk206 : eb_cd L 206 = eb_look (kt206 L) := rfl
theorem h206 (ha : (eb_ty L a.1).1 = 6) {x1 : Int32} : eb_ev L (d + 1) 206 [zr a, zi x1] M = eb_E L d 206 0 [some (zr a), some (zi x1)] [] M := eb_ev_s rfl (eb_chk_i ha rfl)
theorem e206_0 {x : Option eb_A} : eb_E L d 206 0 [some (Sum.inr x), v1] (st) M = eb_E L d 206 1 [some (Sum.inr x), v1] (Sum.inr x :: st) M := eb_E_s hk206 rfl
theorem e206_1 {x : Int32} : eb_E L d 206 1 [v0, some (zi x)] (st) M = eb_E L d 206 2 [v0, some (zi x)] (zi x :: st) M := eb_E_s hk206 rfl
theorem e206_2  : eb_E L d 206 2 ls ([a1, a0]) M = (eb_ev L d 148 [a0, a1] M).bind (fun q => eb_E L d 206 5 ls [q.1] q.2) := eb_E_c hk206 rfl
theorem e206_5 {x : Int32} : eb_E L d 206 5 ls (zi x :: st) M = if x = 0 then eb_E L d 206 8 ls st M else eb_E L d 206 15 ls st M := eb_E_b hk206 rfl
theorem e206_8 {x : Option eb_A} : eb_E L d 206 8 [some (Sum.inr x), v1] (st) M = eb_E L d 206 9 [some (Sum.inr x), v1] (Sum.inr x :: st) M := eb_E_s hk206 rfl
theorem e206_9  : eb_E L d 206 9 ls (st) M = eb_E L d 206 11 ls (zi (-2) :: st) M := eb_E_s hk206 rfl
theorem e206_11  : eb_E L d 206 11 ls ([a1, a0]) M = (eb_ev L d 145 [a0, a1] M).bind (fun q => eb_E L d 206 14 ls [q.1] q.2) := eb_E_c hk206 rfl
theorem e206_14 {x : Int32} : eb_E L d 206 14 ls ([zi x]) M = some (zi x, M) := eb_E_r hk206 rfl
theorem e206_15 {x : Option eb_A} : eb_E L d 206 15 [some (Sum.inr x), v1] (st) M = eb_E L d 206 16 [some (Sum.inr x), v1] (Sum.inr x :: st) M := eb_E_s hk206 rfl
theorem e206_16  : eb_E L d 206 16 ls ([a0]) M = (eb_ev L d 197 [a0] M).bind (fun q => eb_E L d 206 19 ls [] q.2) := eb_E_c hk206 rfl
theorem e206_19 {x : Option eb_A} : eb_E L d 206 19 [some (Sum.inr x), v1] (st) M = eb_E L d 206 20 [some (Sum.inr x), v1] (Sum.inr x :: st) M := eb_E_s hk206 rfl
theorem e206_20  : eb_E L d 206 20 ls (Sum.inr (some a) :: st) (nc, ns, I, J, R) = if (eb_ty L a.1).1 = 6 then eb_E L d 206 23 ls (Sum.inr (R a 10) :: st) (nc, ns, I, J, R) else none := eb_E_iy hk206 rfl
theorem e206_23 {x : Int32} : eb_E L d 206 23 [v0, some (zi x)] (st) M = eb_E L d 206 24 [v0, some (zi x)] (zi x :: st) M := eb_E_s hk206 rfl
theorem e206_24 {x : Int32} : eb_E L d 206 24 ls (zi x :: Sum.inr (some a) :: st) (nc, ns, I, J, R) = if (12 ≤ (eb_ty L a.1).1 ∧ (eb_ty L a.1).1 ≤ 16) ∧ eb_in x (eb_ty L a.1).2 = true then eb_E L d 206 25 ls (Sum.inr (R a x.toNatClampNeg) :: st) (nc, ns, I, J, R) else none := eb_E_iy hk206 rfl
theorem e206_25  : eb_E L d 206 25 ls (st) M = eb_E L d 206 26 ls (zi 3 :: st) M := eb_E_s hk206 rfl
theorem e206_26 {x : Int32} : eb_E L d 206 26 ls (zi x :: Sum.inr (some a) :: st) (nc, ns, I, J, R) = if (eb_ty L a.1).1 = 10 ∧ eb_in x (eb_ty L a.1).2 = true then eb_E L d 206 27 ls (zi (I a x.toNatClampNeg) :: st) (nc, ns, I, J, R) else none := eb_E_iy hk206 rfl
theorem e206_27 {x : Option eb_A} : eb_E L d 206 27 [some (Sum.inr x), v1] (st) M = eb_E L d 206 28 [some (Sum.inr x), v1] (Sum.inr x :: st) M := eb_E_s hk206 rfl
theorem e206_28 {x : Int32} : eb_E L d 206 28 [v0, some (zi x)] (st) M = eb_E L d 206 29 [v0, some (zi x)] (zi x :: st) M := eb_E_s hk206 rfl
theorem e206_29 {s0 : Int32} : eb_E L d 206 29 ls ([a1, a0, zi s0]) M = (eb_ev L d 198 [a0, a1] M).bind (fun q => eb_E L d 206 32 ls [q.1, zi s0] q.2) := eb_E_c hk206 rfl
theorem e206_32 {x : Int32} {y : Int32} : eb_E L d 206 32 ls (zi y :: zi x :: st) M = eb_E L d 206 33 ls (zi (x * y) :: st) M := eb_E_s hk206 rfl
theorem e206_33 {x : Int32} : eb_E L d 206 33 ls ([zi x]) M = some (zi x, M) := eb_E_r hk206 rfl
/-! X6_isByBook -/
theorem hk207 : eb_cd L 207 = eb_look (kt207 L) := rfl
theorem h207 (ha : (eb_ty L a.1).1 = 6) {x1 : Int32} : eb_ev L (d + 1) 207 [zr a, zi x1] M = eb_E L d 207 0 [some (zr a), some (zi x1)] [] M := eb_ev_s rfl (eb_chk_i ha rfl)
theorem e207_0 {x : Option eb_A} : eb_E L d 207 0 [some (Sum.inr x), v1] (st) M = eb_E L d 207 1 [some (Sum.inr x), v1] (Sum.inr x :: st) M := eb_E_s hk207 rfl
theorem e207_1  : eb_E L d 207 1 ls (Sum.inr (some a) :: st) (nc, ns, I, J, R) = if (eb_ty L a.1).1 = 6 then eb_E L d 207 4 ls (Sum.inr (R a 12) :: st) (nc, ns, I, J, R) else none := eb_E_iy hk207 rfl
theorem e207_4 {x : Int32} : eb_E L d 207 4 [v0, some (zi x)] (st) M = eb_E L d 207 5 [v0, some (zi x)] (zi x :: st) M := eb_E_s hk207 rfl
theorem e207_5 {x : Int32} : eb_E L d 207 5 ls (zi x :: Sum.inr (some a) :: st) (nc, ns, I, J, R) = if (12 ≤ (eb_ty L a.1).1 ∧ (eb_ty L a.1).1 ≤ 16) ∧ eb_in x (eb_ty L a.1).2 = true then eb_E L d 207 6 ls (Sum.inr (R a x.toNatClampNeg) :: st) (nc, ns, I, J, R) else none := eb_E_iy hk207 rfl
theorem e207_6  : eb_E L d 207 6 ls (st) M = eb_E L d 207 7 ls (zi 0 :: st) M := eb_E_s hk207 rfl
theorem e207_7 {x : Int32} : eb_E L d 207 7 ls (zi x :: Sum.inr (some a) :: st) (nc, ns, I, J, R) = if (eb_ty L a.1).1 = 10 ∧ eb_in x (eb_ty L a.1).2 = true then eb_E L d 207 8 ls (zi (I a x.toNatClampNeg) :: st) (nc, ns, I, J, R) else none := eb_E_iy hk207 rfl
theorem e207_8 {x : Int32} : eb_E L d 207 8 ls (zi x :: st) M = if x = 0 then eb_E L d 207 27 ls st M else eb_E L d 207 11 ls st M := eb_E_b hk207 rfl
theorem e207_11 {x : Option eb_A} : eb_E L d 207 11 [some (Sum.inr x), v1] (st) M = eb_E L d 207 12 [some (Sum.inr x), v1] (Sum.inr x :: st) M := eb_E_s hk207 rfl
theorem e207_12  : eb_E L d 207 12 ls (Sum.inr (some a) :: st) (nc, ns, I, J, R) = if (eb_ty L a.1).1 = 6 then eb_E L d 207 15 ls (Sum.inr (R a 12) :: st) (nc, ns, I, J, R) else none := eb_E_iy hk207 rfl
theorem e207_15 {x : Int32} : eb_E L d 207 15 [v0, some (zi x)] (st) M = eb_E L d 207 16 [v0, some (zi x)] (zi x :: st) M := eb_E_s hk207 rfl
theorem e207_16 {x : Int32} : eb_E L d 207 16 ls (zi x :: Sum.inr (some a) :: st) (nc, ns, I, J, R) = if (12 ≤ (eb_ty L a.1).1 ∧ (eb_ty L a.1).1 ≤ 16) ∧ eb_in x (eb_ty L a.1).2 = true then eb_E L d 207 17 ls (Sum.inr (R a x.toNatClampNeg) :: st) (nc, ns, I, J, R) else none := eb_E_iy hk207 rfl
theorem e207_17  : eb_E L d 207 17 ls (st) M = eb_E L d 207 18 ls (zi 0 :: st) M := eb_E_s hk207 rfl
theorem e207_18 {x : Int32} : eb_E L d 207 18 ls (zi x :: Sum.inr (some a) :: st) (nc, ns, I, J, R) = if (eb_ty L a.1).1 = 10 ∧ eb_in x (eb_ty L a.1).2 = true then eb_E L d 207 19 ls (zi (I a x.toNatClampNeg) :: st) (nc, ns, I, J, R) else none := eb_E_iy hk207 rfl
theorem e207_19  : eb_E L d 207 19 ls (st) M = eb_E L d 207 20 ls (zi 3 :: st) M := eb_E_s hk207 rfl
theorem e207_20 {x : Int32} {y : Int32} : eb_E L d 207 20 ls (zi y :: zi x :: st) M = if x = y then eb_E L d 207 27 ls st M else eb_E L d 207 23 ls st M := eb_E_b hk207 rfl
theorem e207_23  : eb_E L d 207 23 ls (st) M = eb_E L d 207 24 ls (zi 1 :: st) M := eb_E_s hk207 rfl
theorem e207_24  : eb_E L d 207 24 ls (st) M = eb_E L d 207 28 ls (st) M := eb_E_s hk207 rfl
theorem e207_27  : eb_E L d 207 27 ls (st) M = eb_E L d 207 28 ls (zi 0 :: st) M := eb_E_s hk207 rfl
theorem e207_28 {x : Int32} : eb_E L d 207 28 ls ([zi x]) M = if x = 0 ∨ x = 1 then some (zi x, M) else none := eb_E_ri hk207 rfl
/-! X6_crowd -/
theorem hk208 : eb_cd L 208 = eb_look (kt208 L) := rfl
theorem h208 (ha : (eb_ty L a.1).1 = 6) {x1 : Int32} : eb_ev L (d + 1) 208 [zr a, zi x1] M = eb_E L d 208 0 [some (zr a), some (zi x1), none, none] [] M := eb_ev_s rfl (eb_chk_i ha rfl)
theorem e208_0 {x : Option eb_A} : eb_E L d 208 0 [some (Sum.inr x), v1, v2, v3] (st) M = eb_E L d 208 1 [some (Sum.inr x), v1, v2, v3] (Sum.inr x :: st) M := eb_E_s hk208 rfl
theorem e208_1 {x : Int32} : eb_E L d 208 1 [v0, some (zi x), v2, v3] (st) M = eb_E L d 208 2 [v0, some (zi x), v2, v3] (zi x :: st) M := eb_E_s hk208 rfl
theorem e208_2  : eb_E L d 208 2 ls ([a1, a0]) M = (eb_ev L d 148 [a0, a1] M).bind (fun q => eb_E L d 208 5 ls [q.1] q.2) := eb_E_c hk208 rfl
theorem e208_5 {x : Int32} : eb_E L d 208 5 ls (zi x :: st) M = if x = 0 then eb_E L d 208 8 ls st M else eb_E L d 208 15 ls st M := eb_E_b hk208 rfl
theorem e208_8 {x : Option eb_A} : eb_E L d 208 8 [some (Sum.inr x), v1, v2, v3] (st) M = eb_E L d 208 9 [some (Sum.inr x), v1, v2, v3] (Sum.inr x :: st) M := eb_E_s hk208 rfl
theorem e208_9  : eb_E L d 208 9 ls (st) M = eb_E L d 208 11 ls (zi (-2) :: st) M := eb_E_s hk208 rfl
theorem e208_11  : eb_E L d 208 11 ls ([a1, a0]) M = (eb_ev L d 145 [a0, a1] M).bind (fun q => eb_E L d 208 14 ls [q.1] q.2) := eb_E_c hk208 rfl
theorem e208_14 {x : Int32} : eb_E L d 208 14 ls ([zi x]) M = some (zi x, M) := eb_E_r hk208 rfl
theorem e208_15  : eb_E L d 208 15 ls (st) M = eb_E L d 208 16 ls (zi 0 :: st) M := eb_E_s hk208 rfl
theorem e208_16 {x : Int32} : eb_E L d 208 16 [v0, v1, v2, v3] (zi x :: st) M = eb_E L d 208 17 [v0, v1, some (zi x), v3] (st) M := eb_E_s hk208 rfl
theorem e208_17  : eb_E L d 208 17 ls (st) M = eb_E L d 208 18 ls (zi 0 :: st) M := eb_E_s hk208 rfl
theorem e208_18 {x : Int32} : eb_E L d 208 18 [v0, v1, v2, v3] (zi x :: st) M = eb_E L d 208 19 [v0, v1, v2, some (zi x)] (st) M := eb_E_s hk208 rfl
theorem e208_19 {x : Int32} : eb_E L d 208 19 [v0, v1, v2, some (zi x)] (st) M = eb_E L d 208 20 [v0, v1, v2, some (zi x)] (zi x :: st) M := eb_E_s hk208 rfl
theorem e208_20 {x : Option eb_A} : eb_E L d 208 20 [some (Sum.inr x), v1, v2, v3] (st) M = eb_E L d 208 21 [some (Sum.inr x), v1, v2, v3] (Sum.inr x :: st) M := eb_E_s hk208 rfl
theorem e208_21  : eb_E L d 208 21 ls (Sum.inr (some a) :: st) (nc, ns, I, J, R) = if (eb_ty L a.1).1 = 6 then eb_E L d 208 24 ls (zi (I a 11) :: st) (nc, ns, I, J, R) else none := eb_E_iy hk208 rfl
theorem e208_24 {x : Int32} {y : Int32} : eb_E L d 208 24 ls (zi y :: zi x :: st) M = if x < y then eb_E L d 208 27 ls st M else eb_E L d 208 65 ls st M := eb_E_b hk208 rfl
theorem e208_27 {x : Int32} : eb_E L d 208 27 [v0, v1, some (zi x), v3] (st) M = eb_E L d 208 28 [v0, v1, some (zi x), v3] (zi x :: st) M := eb_E_s hk208 rfl
theorem e208_28 {x : Option eb_A} : eb_E L d 208 28 [some (Sum.inr x), v1, v2, v3] (st) M = eb_E L d 208 29 [some (Sum.inr x), v1, v2, v3] (Sum.inr x :: st) M := eb_E_s hk208 rfl
theorem e208_29 {x : Int32} : eb_E L d 208 29 [v0, v1, v2, some (zi x)] (st) M = eb_E L d 208 30 [v0, v1, v2, some (zi x)] (zi x :: st) M := eb_E_s hk208 rfl
theorem e208_30 {s0 : Int32} : eb_E L d 208 30 ls ([a1, a0, zi s0]) M = (eb_ev L d 207 [a0, a1] M).bind (fun q => eb_E L d 208 33 ls [q.1, zi s0] q.2) := eb_E_c hk208 rfl
theorem e208_33 {x : Int32} : eb_E L d 208 33 ls (zi x :: st) M = if x = 0 then eb_E L d 208 56 ls st M else eb_E L d 208 36 ls st M := eb_E_b hk208 rfl
theorem e208_36 {x : Option eb_A} : eb_E L d 208 36 [some (Sum.inr x), v1, v2, v3] (st) M = eb_E L d 208 37 [some (Sum.inr x), v1, v2, v3] (Sum.inr x :: st) M := eb_E_s hk208 rfl
theorem e208_37 {x : Int32} : eb_E L d 208 37 [v0, v1, v2, some (zi x)] (st) M = eb_E L d 208 38 [v0, v1, v2, some (zi x)] (zi x :: st) M := eb_E_s hk208 rfl
theorem e208_38 {s0 : Int32} : eb_E L d 208 38 ls ([a1, a0, zi s0]) M = (eb_ev L d 194 [a0, a1] M).bind (fun q => eb_E L d 208 41 ls [q.1, zi s0] q.2) := eb_E_c hk208 rfl
theorem e208_41 {x : Int32} : eb_E L d 208 41 [v0, some (zi x), v2, v3] (st) M = eb_E L d 208 42 [v0, some (zi x), v2, v3] (zi x :: st) M := eb_E_s hk208 rfl
theorem e208_42 {x : Int32} {y : Int32} : eb_E L d 208 42 ls (zi y :: zi x :: st) M = if x = y then eb_E L d 208 45 ls st M else eb_E L d 208 56 ls st M := eb_E_b hk208 rfl
theorem e208_45 {x : Option eb_A} : eb_E L d 208 45 [some (Sum.inr x), v1, v2, v3] (st) M = eb_E L d 208 46 [some (Sum.inr x), v1, v2, v3] (Sum.inr x :: st) M := eb_E_s hk208 rfl
theorem e208_46  : eb_E L d 208 46 ls (Sum.inr (some a) :: st) (nc, ns, I, J, R) = if (eb_ty L a.1).1 = 6 then eb_E L d 208 49 ls (Sum.inr (R a 12) :: st) (nc, ns, I, J, R) else none := eb_E_iy hk208 rfl
theorem e208_49 {x : Int32} : eb_E L d 208 49 [v0, v1, v2, some (zi x)] (st) M = eb_E L d 208 50 [v0, v1, v2, some (zi x)] (zi x :: st) M := eb_E_s hk208 rfl
theorem e208_50 {x : Int32} : eb_E L d 208 50 ls (zi x :: Sum.inr (some a) :: st) (nc, ns, I, J, R) = if (12 ≤ (eb_ty L a.1).1 ∧ (eb_ty L a.1).1 ≤ 16) ∧ eb_in x (eb_ty L a.1).2 = true then eb_E L d 208 51 ls (Sum.inr (R a x.toNatClampNeg) :: st) (nc, ns, I, J, R) else none := eb_E_iy hk208 rfl
theorem e208_51  : eb_E L d 208 51 ls (st) M = eb_E L d 208 52 ls (zi 1 :: st) M := eb_E_s hk208 rfl
theorem e208_52 {x : Int32} : eb_E L d 208 52 ls (zi x :: Sum.inr (some a) :: st) (nc, ns, I, J, R) = if (eb_ty L a.1).1 = 10 ∧ eb_in x (eb_ty L a.1).2 = true then eb_E L d 208 53 ls (zi (I a x.toNatClampNeg) :: st) (nc, ns, I, J, R) else none := eb_E_iy hk208 rfl
theorem e208_53  : eb_E L d 208 53 ls (st) M = eb_E L d 208 57 ls (st) M := eb_E_s hk208 rfl
theorem e208_56  : eb_E L d 208 56 ls (st) M = eb_E L d 208 57 ls (zi 0 :: st) M := eb_E_s hk208 rfl
theorem e208_57 {x : Int32} {y : Int32} : eb_E L d 208 57 ls (zi y :: zi x :: st) M = eb_E L d 208 58 ls (zi (x + y) :: st) M := eb_E_s hk208 rfl
theorem e208_58 {x : Int32} : eb_E L d 208 58 [v0, v1, v2, v3] (zi x :: st) M = eb_E L d 208 59 [v0, v1, some (zi x), v3] (st) M := eb_E_s hk208 rfl
theorem e208_59 {x : Int32} : eb_E L d 208 59 [v0, v1, v2, some (zi x)] (st) M = eb_E L d 208 62 [v0, v1, v2, some (zi (x + 1))] (st) M := eb_E_s hk208 rfl
theorem e208_62  : eb_E L d 208 62 ls (st) M = eb_E L d 208 19 ls (st) M := eb_E_s hk208 rfl
theorem e208_65 {x : Int32} : eb_E L d 208 65 [v0, v1, some (zi x), v3] (st) M = eb_E L d 208 66 [v0, v1, some (zi x), v3] (zi x :: st) M := eb_E_s hk208 rfl
theorem e208_66 {x : Int32} : eb_E L d 208 66 ls ([zi x]) M = some (zi x, M) := eb_E_r hk208 rfl
/-! X6_lean -/
theorem hk209 : eb_cd L 209 = eb_look (kt209 L) := rfl
theorem h209 (ha : (eb_ty L a.1).1 = 6) {x1 : Int32} : eb_ev L (d + 1) 209 [zr a, zi x1] M = eb_E L d 209 0 [some (zr a), some (zi x1)] [] M := eb_ev_s rfl (eb_chk_i ha rfl)
theorem e209_0 {x : Option eb_A} : eb_E L d 209 0 [some (Sum.inr x), v1] (st) M = eb_E L d 209 1 [some (Sum.inr x), v1] (Sum.inr x :: st) M := eb_E_s hk209 rfl
theorem e209_1 {x : Int32} : eb_E L d 209 1 [v0, some (zi x)] (st) M = eb_E L d 209 2 [v0, some (zi x)] (zi x :: st) M := eb_E_s hk209 rfl
theorem e209_2  : eb_E L d 209 2 ls ([a1, a0]) M = (eb_ev L d 148 [a0, a1] M).bind (fun q => eb_E L d 209 5 ls [q.1] q.2) := eb_E_c hk209 rfl
theorem e209_5 {x : Int32} : eb_E L d 209 5 ls (zi x :: st) M = if x = 0 then eb_E L d 209 8 ls st M else eb_E L d 209 18 ls st M := eb_E_b hk209 rfl
theorem e209_8  : eb_E L d 209 8 ls (st) M = eb_E L d 209 10 ls (zi (-1000000) :: st) M := eb_E_s hk209 rfl
theorem e209_10 {x : Option eb_A} : eb_E L d 209 10 [some (Sum.inr x), v1] (st) M = eb_E L d 209 11 [some (Sum.inr x), v1] (Sum.inr x :: st) M := eb_E_s hk209 rfl
theorem e209_11  : eb_E L d 209 11 ls (st) M = eb_E L d 209 13 ls (zi (-2) :: st) M := eb_E_s hk209 rfl
theorem e209_13 {s0 : Int32} : eb_E L d 209 13 ls ([a1, a0, zi s0]) M = (eb_ev L d 145 [a0, a1] M).bind (fun q => eb_E L d 209 16 ls [q.1, zi s0] q.2) := eb_E_c hk209 rfl
theorem e209_16 {x : Int32} {y : Int32} : eb_E L d 209 16 ls (zi y :: zi x :: st) M = eb_E L d 209 17 ls (zi (x + y) :: st) M := eb_E_s hk209 rfl
theorem e209_17 {x : Int32} : eb_E L d 209 17 ls ([zi x]) M = some (zi x, M) := eb_E_r hk209 rfl
theorem e209_18 {x : Option eb_A} : eb_E L d 209 18 [some (Sum.inr x), v1] (st) M = eb_E L d 209 19 [some (Sum.inr x), v1] (Sum.inr x :: st) M := eb_E_s hk209 rfl
theorem e209_19  : eb_E L d 209 19 ls (Sum.inr (some a) :: st) (nc, ns, I, J, R) = if (eb_ty L a.1).1 = 6 then eb_E L d 209 22 ls (Sum.inr (R a 10) :: st) (nc, ns, I, J, R) else none := eb_E_iy hk209 rfl
theorem e209_22 {x : Int32} : eb_E L d 209 22 [v0, some (zi x)] (st) M = eb_E L d 209 23 [v0, some (zi x)] (zi x :: st) M := eb_E_s hk209 rfl
theorem e209_23 {x : Int32} : eb_E L d 209 23 ls (zi x :: Sum.inr (some a) :: st) (nc, ns, I, J, R) = if (12 ≤ (eb_ty L a.1).1 ∧ (eb_ty L a.1).1 ≤ 16) ∧ eb_in x (eb_ty L a.1).2 = true then eb_E L d 209 24 ls (Sum.inr (R a x.toNatClampNeg) :: st) (nc, ns, I, J, R) else none := eb_E_iy hk209 rfl
theorem e209_24  : eb_E L d 209 24 ls (st) M = eb_E L d 209 25 ls (zi 5 :: st) M := eb_E_s hk209 rfl
theorem e209_25 {x : Int32} : eb_E L d 209 25 ls (zi x :: Sum.inr (some a) :: st) (nc, ns, I, J, R) = if (eb_ty L a.1).1 = 10 ∧ eb_in x (eb_ty L a.1).2 = true then eb_E L d 209 26 ls (zi (I a x.toNatClampNeg) :: st) (nc, ns, I, J, R) else none := eb_E_iy hk209 rfl
theorem e209_26 {x : Int32} : eb_E L d 209 26 ls (zi x :: st) M = if x = 0 then eb_E L d 209 29 ls st M else eb_E L d 209 41 ls st M := eb_E_b hk209 rfl
theorem e209_29  : eb_E L d 209 29 ls (st) M = eb_E L d 209 31 ls (zi (-1000000) :: st) M := eb_E_s hk209 rfl
theorem e209_31 {x : Option eb_A} : eb_E L d 209 31 [some (Sum.inr x), v1] (st) M = eb_E L d 209 32 [some (Sum.inr x), v1] (Sum.inr x :: st) M := eb_E_s hk209 rfl
theorem e209_32  : eb_E L d 209 32 ls (st) M = eb_E L d 209 34 ls (zi (-5) :: st) M := eb_E_s hk209 rfl
theorem e209_34 {s0 : Int32} : eb_E L d 209 34 ls ([a1, a0, zi s0]) M = (eb_ev L d 145 [a0, a1] M).bind (fun q => eb_E L d 209 37 ls [q.1, zi s0] q.2) := eb_E_c hk209 rfl
theorem e209_37 {x : Int32} {y : Int32} : eb_E L d 209 37 ls (zi y :: zi x :: st) M = eb_E L d 209 38 ls (zi (x + y) :: st) M := eb_E_s hk209 rfl
theorem e209_38  : eb_E L d 209 38 ls (st) M = eb_E L d 209 68 ls (st) M := eb_E_s hk209 rfl
theorem e209_41 {x : Option eb_A} : eb_E L d 209 41 [some (Sum.inr x), v1] (st) M = eb_E L d 209 42 [some (Sum.inr x), v1] (Sum.inr x :: st) M := eb_E_s hk209 rfl
theorem e209_42  : eb_E L d 209 42 ls (Sum.inr (some a) :: st) (nc, ns, I, J, R) = if (eb_ty L a.1).1 = 6 then eb_E L d 209 45 ls (Sum.inr (R a 10) :: st) (nc, ns, I, J, R) else none := eb_E_iy hk209 rfl
theorem e209_45 {x : Int32} : eb_E L d 209 45 [v0, some (zi x)] (st) M = eb_E L d 209 46 [v0, some (zi x)] (zi x :: st) M := eb_E_s hk209 rfl
theorem e209_46 {x : Int32} : eb_E L d 209 46 ls (zi x :: Sum.inr (some a) :: st) (nc, ns, I, J, R) = if (12 ≤ (eb_ty L a.1).1 ∧ (eb_ty L a.1).1 ≤ 16) ∧ eb_in x (eb_ty L a.1).2 = true then eb_E L d 209 47 ls (Sum.inr (R a x.toNatClampNeg) :: st) (nc, ns, I, J, R) else none := eb_E_iy hk209 rfl
theorem e209_47  : eb_E L d 209 47 ls (st) M = eb_E L d 209 49 ls (zi 6 :: st) M := eb_E_s hk209 rfl
theorem e209_49 {x : Int32} : eb_E L d 209 49 ls (zi x :: Sum.inr (some a) :: st) (nc, ns, I, J, R) = if (eb_ty L a.1).1 = 10 ∧ eb_in x (eb_ty L a.1).2 = true then eb_E L d 209 50 ls (zi (I a x.toNatClampNeg) :: st) (nc, ns, I, J, R) else none := eb_E_iy hk209 rfl
theorem e209_50 {x : Option eb_A} : eb_E L d 209 50 [some (Sum.inr x), v1] (st) M = eb_E L d 209 51 [some (Sum.inr x), v1] (Sum.inr x :: st) M := eb_E_s hk209 rfl
theorem e209_51  : eb_E L d 209 51 ls (Sum.inr (some a) :: st) (nc, ns, I, J, R) = if (eb_ty L a.1).1 = 6 then eb_E L d 209 54 ls (Sum.inr (R a 10) :: st) (nc, ns, I, J, R) else none := eb_E_iy hk209 rfl
theorem e209_54 {x : Int32} : eb_E L d 209 54 [v0, some (zi x)] (st) M = eb_E L d 209 55 [v0, some (zi x)] (zi x :: st) M := eb_E_s hk209 rfl
theorem e209_55 {x : Int32} : eb_E L d 209 55 ls (zi x :: Sum.inr (some a) :: st) (nc, ns, I, J, R) = if (12 ≤ (eb_ty L a.1).1 ∧ (eb_ty L a.1).1 ≤ 16) ∧ eb_in x (eb_ty L a.1).2 = true then eb_E L d 209 56 ls (Sum.inr (R a x.toNatClampNeg) :: st) (nc, ns, I, J, R) else none := eb_E_iy hk209 rfl
theorem e209_56  : eb_E L d 209 56 ls (st) M = eb_E L d 209 57 ls (zi 5 :: st) M := eb_E_s hk209 rfl
theorem e209_57 {x : Int32} : eb_E L d 209 57 ls (zi x :: Sum.inr (some a) :: st) (nc, ns, I, J, R) = if (eb_ty L a.1).1 = 10 ∧ eb_in x (eb_ty L a.1).2 = true then eb_E L d 209 58 ls (zi (I a x.toNatClampNeg) :: st) (nc, ns, I, J, R) else none := eb_E_iy hk209 rfl
theorem e209_58 {x : Int32} {y : Int32} : eb_E L d 209 58 ls (zi y :: zi x :: st) M = if y = 0 then none else eb_E L d 209 59 ls (zi (x / y) :: st) M := eb_E_in hk209 rfl
theorem e209_59 {x : Option eb_A} : eb_E L d 209 59 [some (Sum.inr x), v1] (st) M = eb_E L d 209 60 [some (Sum.inr x), v1] (Sum.inr x :: st) M := eb_E_s hk209 rfl
theorem e209_60  : eb_E L d 209 60 ls (Sum.inr (some a) :: st) (nc, ns, I, J, R) = if (eb_ty L a.1).1 = 6 then eb_E L d 209 63 ls (Sum.inr (R a 10) :: st) (nc, ns, I, J, R) else none := eb_E_iy hk209 rfl
theorem e209_63 {x : Int32} : eb_E L d 209 63 [v0, some (zi x)] (st) M = eb_E L d 209 64 [v0, some (zi x)] (zi x :: st) M := eb_E_s hk209 rfl
theorem e209_64 {x : Int32} : eb_E L d 209 64 ls (zi x :: Sum.inr (some a) :: st) (nc, ns, I, J, R) = if (12 ≤ (eb_ty L a.1).1 ∧ (eb_ty L a.1).1 ≤ 16) ∧ eb_in x (eb_ty L a.1).2 = true then eb_E L d 209 65 ls (Sum.inr (R a x.toNatClampNeg) :: st) (nc, ns, I, J, R) else none := eb_E_iy hk209 rfl
theorem e209_65  : eb_E L d 209 65 ls (st) M = eb_E L d 209 66 ls (zi 0 :: st) M := eb_E_s hk209 rfl
theorem e209_66 {x : Int32} : eb_E L d 209 66 ls (zi x :: Sum.inr (some a) :: st) (nc, ns, I, J, R) = if (eb_ty L a.1).1 = 10 ∧ eb_in x (eb_ty L a.1).2 = true then eb_E L d 209 67 ls (zi (I a x.toNatClampNeg) :: st) (nc, ns, I, J, R) else none := eb_E_iy hk209 rfl
theorem e209_67 {x : Int32} {y : Int32} : eb_E L d 209 67 ls (zi y :: zi x :: st) M = eb_E L d 209 68 ls (zi (x - y) :: st) M := eb_E_s hk209 rfl
theorem e209_68 {x : Int32} : eb_E L d 209 68 ls ([zi x]) M = some (zi x, M) := eb_E_r hk209 rfl
/-! X6_truestOf -/
theorem hk210 : eb_cd L 210 = eb_look (kt210 L) := rfl
theorem h210 (ha : (eb_ty L a.1).1 = 6) : eb_ev L (d + 1) 210 [zr a] M = eb_E L d 210 0 [some (zr a), none, none] [] M := eb_ev_s rfl (eb_chk_i ha rfl)
theorem e210_0  : eb_E L d 210 0 ls (st) M = eb_E L d 210 1 ls (zi (-1) :: st) M := eb_E_s hk210 rfl
theorem e210_1 {x : Int32} : eb_E L d 210 1 [v0, v1, v2] (zi x :: st) M = eb_E L d 210 2 [v0, some (zi x), v2] (st) M := eb_E_s hk210 rfl
theorem e210_2  : eb_E L d 210 2 ls (st) M = eb_E L d 210 3 ls (zi 0 :: st) M := eb_E_s hk210 rfl
theorem e210_3 {x : Int32} : eb_E L d 210 3 [v0, v1, v2] (zi x :: st) M = eb_E L d 210 4 [v0, v1, some (zi x)] (st) M := eb_E_s hk210 rfl
theorem e210_4 {x : Int32} : eb_E L d 210 4 [v0, v1, some (zi x)] (st) M = eb_E L d 210 5 [v0, v1, some (zi x)] (zi x :: st) M := eb_E_s hk210 rfl
theorem e210_5 {x : Option eb_A} : eb_E L d 210 5 [some (Sum.inr x), v1, v2] (st) M = eb_E L d 210 6 [some (Sum.inr x), v1, v2] (Sum.inr x :: st) M := eb_E_s hk210 rfl
theorem e210_6  : eb_E L d 210 6 ls (Sum.inr (some a) :: st) (nc, ns, I, J, R) = if (eb_ty L a.1).1 = 6 then eb_E L d 210 9 ls (zi (I a 9) :: st) (nc, ns, I, J, R) else none := eb_E_iy hk210 rfl
theorem e210_9 {x : Int32} {y : Int32} : eb_E L d 210 9 ls (zi y :: zi x :: st) M = if x < y then eb_E L d 210 12 ls st M else eb_E L d 210 66 ls st M := eb_E_b hk210 rfl
theorem e210_12 {x : Int32} : eb_E L d 210 12 [v0, some (zi x), v2] (st) M = eb_E L d 210 13 [v0, some (zi x), v2] (zi x :: st) M := eb_E_s hk210 rfl
theorem e210_13  : eb_E L d 210 13 ls (st) M = eb_E L d 210 14 ls (zi (-1) :: st) M := eb_E_s hk210 rfl
theorem e210_14 {x : Int32} {y : Int32} : eb_E L d 210 14 ls (zi y :: zi x :: st) M = if x = y then eb_E L d 210 54 ls st M else eb_E L d 210 17 ls st M := eb_E_b hk210 rfl
theorem e210_17 {x : Option eb_A} : eb_E L d 210 17 [some (Sum.inr x), v1, v2] (st) M = eb_E L d 210 18 [some (Sum.inr x), v1, v2] (Sum.inr x :: st) M := eb_E_s hk210 rfl
theorem e210_18  : eb_E L d 210 18 ls (Sum.inr (some a) :: st) (nc, ns, I, J, R) = if (eb_ty L a.1).1 = 6 then eb_E L d 210 21 ls (Sum.inr (R a 10) :: st) (nc, ns, I, J, R) else none := eb_E_iy hk210 rfl
theorem e210_21 {x : Int32} : eb_E L d 210 21 [v0, v1, some (zi x)] (st) M = eb_E L d 210 22 [v0, v1, some (zi x)] (zi x :: st) M := eb_E_s hk210 rfl
theorem e210_22 {x : Int32} : eb_E L d 210 22 ls (zi x :: Sum.inr (some a) :: st) (nc, ns, I, J, R) = if (12 ≤ (eb_ty L a.1).1 ∧ (eb_ty L a.1).1 ≤ 16) ∧ eb_in x (eb_ty L a.1).2 = true then eb_E L d 210 23 ls (Sum.inr (R a x.toNatClampNeg) :: st) (nc, ns, I, J, R) else none := eb_E_iy hk210 rfl
theorem e210_23  : eb_E L d 210 23 ls (st) M = eb_E L d 210 24 ls (zi 0 :: st) M := eb_E_s hk210 rfl
theorem e210_24 {x : Int32} : eb_E L d 210 24 ls (zi x :: Sum.inr (some a) :: st) (nc, ns, I, J, R) = if (eb_ty L a.1).1 = 10 ∧ eb_in x (eb_ty L a.1).2 = true then eb_E L d 210 25 ls (zi (I a x.toNatClampNeg) :: st) (nc, ns, I, J, R) else none := eb_E_iy hk210 rfl
theorem e210_25 {x : Option eb_A} : eb_E L d 210 25 [some (Sum.inr x), v1, v2] (st) M = eb_E L d 210 26 [some (Sum.inr x), v1, v2] (Sum.inr x :: st) M := eb_E_s hk210 rfl
theorem e210_26  : eb_E L d 210 26 ls (Sum.inr (some a) :: st) (nc, ns, I, J, R) = if (eb_ty L a.1).1 = 6 then eb_E L d 210 29 ls (Sum.inr (R a 10) :: st) (nc, ns, I, J, R) else none := eb_E_iy hk210 rfl
theorem e210_29 {x : Int32} : eb_E L d 210 29 [v0, v1, some (zi x)] (st) M = eb_E L d 210 30 [v0, v1, some (zi x)] (zi x :: st) M := eb_E_s hk210 rfl
theorem e210_30 {x : Int32} : eb_E L d 210 30 ls (zi x :: Sum.inr (some a) :: st) (nc, ns, I, J, R) = if (12 ≤ (eb_ty L a.1).1 ∧ (eb_ty L a.1).1 ≤ 16) ∧ eb_in x (eb_ty L a.1).2 = true then eb_E L d 210 31 ls (Sum.inr (R a x.toNatClampNeg) :: st) (nc, ns, I, J, R) else none := eb_E_iy hk210 rfl
theorem e210_31  : eb_E L d 210 31 ls (st) M = eb_E L d 210 32 ls (zi 3 :: st) M := eb_E_s hk210 rfl
theorem e210_32 {x : Int32} : eb_E L d 210 32 ls (zi x :: Sum.inr (some a) :: st) (nc, ns, I, J, R) = if (eb_ty L a.1).1 = 10 ∧ eb_in x (eb_ty L a.1).2 = true then eb_E L d 210 33 ls (zi (I a x.toNatClampNeg) :: st) (nc, ns, I, J, R) else none := eb_E_iy hk210 rfl
theorem e210_33 {x : Int32} {y : Int32} : eb_E L d 210 33 ls (zi y :: zi x :: st) M = eb_E L d 210 34 ls (zi (x - y) :: st) M := eb_E_s hk210 rfl
theorem e210_34 {x : Option eb_A} : eb_E L d 210 34 [some (Sum.inr x), v1, v2] (st) M = eb_E L d 210 35 [some (Sum.inr x), v1, v2] (Sum.inr x :: st) M := eb_E_s hk210 rfl
theorem e210_35  : eb_E L d 210 35 ls (Sum.inr (some a) :: st) (nc, ns, I, J, R) = if (eb_ty L a.1).1 = 6 then eb_E L d 210 38 ls (Sum.inr (R a 10) :: st) (nc, ns, I, J, R) else none := eb_E_iy hk210 rfl
theorem e210_38 {x : Int32} : eb_E L d 210 38 [v0, some (zi x), v2] (st) M = eb_E L d 210 39 [v0, some (zi x), v2] (zi x :: st) M := eb_E_s hk210 rfl
theorem e210_39 {x : Int32} : eb_E L d 210 39 ls (zi x :: Sum.inr (some a) :: st) (nc, ns, I, J, R) = if (12 ≤ (eb_ty L a.1).1 ∧ (eb_ty L a.1).1 ≤ 16) ∧ eb_in x (eb_ty L a.1).2 = true then eb_E L d 210 40 ls (Sum.inr (R a x.toNatClampNeg) :: st) (nc, ns, I, J, R) else none := eb_E_iy hk210 rfl
theorem e210_40  : eb_E L d 210 40 ls (st) M = eb_E L d 210 41 ls (zi 0 :: st) M := eb_E_s hk210 rfl
theorem e210_41 {x : Int32} : eb_E L d 210 41 ls (zi x :: Sum.inr (some a) :: st) (nc, ns, I, J, R) = if (eb_ty L a.1).1 = 10 ∧ eb_in x (eb_ty L a.1).2 = true then eb_E L d 210 42 ls (zi (I a x.toNatClampNeg) :: st) (nc, ns, I, J, R) else none := eb_E_iy hk210 rfl
theorem e210_42 {x : Option eb_A} : eb_E L d 210 42 [some (Sum.inr x), v1, v2] (st) M = eb_E L d 210 43 [some (Sum.inr x), v1, v2] (Sum.inr x :: st) M := eb_E_s hk210 rfl
theorem e210_43  : eb_E L d 210 43 ls (Sum.inr (some a) :: st) (nc, ns, I, J, R) = if (eb_ty L a.1).1 = 6 then eb_E L d 210 46 ls (Sum.inr (R a 10) :: st) (nc, ns, I, J, R) else none := eb_E_iy hk210 rfl
theorem e210_46 {x : Int32} : eb_E L d 210 46 [v0, some (zi x), v2] (st) M = eb_E L d 210 47 [v0, some (zi x), v2] (zi x :: st) M := eb_E_s hk210 rfl
theorem e210_47 {x : Int32} : eb_E L d 210 47 ls (zi x :: Sum.inr (some a) :: st) (nc, ns, I, J, R) = if (12 ≤ (eb_ty L a.1).1 ∧ (eb_ty L a.1).1 ≤ 16) ∧ eb_in x (eb_ty L a.1).2 = true then eb_E L d 210 48 ls (Sum.inr (R a x.toNatClampNeg) :: st) (nc, ns, I, J, R) else none := eb_E_iy hk210 rfl
theorem e210_48  : eb_E L d 210 48 ls (st) M = eb_E L d 210 49 ls (zi 3 :: st) M := eb_E_s hk210 rfl
theorem e210_49 {x : Int32} : eb_E L d 210 49 ls (zi x :: Sum.inr (some a) :: st) (nc, ns, I, J, R) = if (eb_ty L a.1).1 = 10 ∧ eb_in x (eb_ty L a.1).2 = true then eb_E L d 210 50 ls (zi (I a x.toNatClampNeg) :: st) (nc, ns, I, J, R) else none := eb_E_iy hk210 rfl
theorem e210_50 {x : Int32} {y : Int32} : eb_E L d 210 50 ls (zi y :: zi x :: st) M = eb_E L d 210 51 ls (zi (x - y) :: st) M := eb_E_s hk210 rfl
theorem e210_51 {x : Int32} {y : Int32} : eb_E L d 210 51 ls (zi y :: zi x :: st) M = if y < x then eb_E L d 210 54 ls st M else eb_E L d 210 58 ls st M := eb_E_b hk210 rfl
theorem e210_54 {x : Int32} : eb_E L d 210 54 [v0, v1, some (zi x)] (st) M = eb_E L d 210 55 [v0, v1, some (zi x)] (zi x :: st) M := eb_E_s hk210 rfl
theorem e210_55  : eb_E L d 210 55 ls (st) M = eb_E L d 210 59 ls (st) M := eb_E_s hk210 rfl
theorem e210_58 {x : Int32} : eb_E L d 210 58 [v0, some (zi x), v2] (st) M = eb_E L d 210 59 [v0, some (zi x), v2] (zi x :: st) M := eb_E_s hk210 rfl
theorem e210_59 {x : Int32} : eb_E L d 210 59 [v0, v1, v2] (zi x :: st) M = eb_E L d 210 60 [v0, some (zi x), v2] (st) M := eb_E_s hk210 rfl
theorem e210_60 {x : Int32} : eb_E L d 210 60 [v0, v1, some (zi x)] (st) M = eb_E L d 210 63 [v0, v1, some (zi (x + 1))] (st) M := eb_E_s hk210 rfl
theorem e210_63  : eb_E L d 210 63 ls (st) M = eb_E L d 210 4 ls (st) M := eb_E_s hk210 rfl
theorem e210_66 {x : Int32} : eb_E L d 210 66 [v0, some (zi x), v2] (st) M = eb_E L d 210 67 [v0, some (zi x), v2] (zi x :: st) M := eb_E_s hk210 rfl
theorem e210_67 {x : Int32} : eb_E L d 210 67 ls ([zi x]) M = some (zi x, M) := eb_E_r hk210 rfl
/-! X6_truest -/
theorem hk211 : eb_cd L 211 = eb_look (kt211 L) := rfl
theorem h211 (ha : (eb_ty L a.1).1 = 6) : eb_ev L (d + 1) 211 [zr a] M = eb_E L d 211 0 [some (zr a), none] [] M := eb_ev_s rfl (eb_chk_i ha rfl)
theorem e211_0 {x : Option eb_A} : eb_E L d 211 0 [some (Sum.inr x), v1] (st) M = eb_E L d 211 1 [some (Sum.inr x), v1] (Sum.inr x :: st) M := eb_E_s hk211 rfl
theorem e211_1  : eb_E L d 211 1 ls ([a0]) M = (eb_ev L d 210 [a0] M).bind (fun q => eb_E L d 211 4 ls [q.1] q.2) := eb_E_c hk211 rfl
theorem e211_4 {x : Int32} : eb_E L d 211 4 [v0, v1] (zi x :: st) M = eb_E L d 211 5 [v0, some (zi x)] (st) M := eb_E_s hk211 rfl
theorem e211_5 {x : Int32} : eb_E L d 211 5 [v0, some (zi x)] (st) M = eb_E L d 211 6 [v0, some (zi x)] (zi x :: st) M := eb_E_s hk211 rfl
theorem e211_6  : eb_E L d 211 6 ls (st) M = eb_E L d 211 7 ls (zi (-1) :: st) M := eb_E_s hk211 rfl
theorem e211_7 {x : Int32} {y : Int32} : eb_E L d 211 7 ls (zi y :: zi x :: st) M = if x = y then eb_E L d 211 10 ls st M else eb_E L d 211 19 ls st M := eb_E_b hk211 rfl
theorem e211_10 {x : Option eb_A} : eb_E L d 211 10 [some (Sum.inr x), v1] (st) M = eb_E L d 211 11 [some (Sum.inr x), v1] (Sum.inr x :: st) M := eb_E_s hk211 rfl
theorem e211_11  : eb_E L d 211 11 ls (st) M = eb_E L d 211 13 ls (zi (-5) :: st) M := eb_E_s hk211 rfl
theorem e211_13  : eb_E L d 211 13 ls ([a1, a0]) M = (eb_ev L d 145 [a0, a1] M).bind (fun q => eb_E L d 211 16 ls [q.1] q.2) := eb_E_c hk211 rfl
theorem e211_16  : eb_E L d 211 16 ls (st) M = eb_E L d 211 20 ls (st) M := eb_E_s hk211 rfl
theorem e211_19 {x : Int32} : eb_E L d 211 19 [v0, some (zi x)] (st) M = eb_E L d 211 20 [v0, some (zi x)] (zi x :: st) M := eb_E_s hk211 rfl
theorem e211_20 {x : Int32} : eb_E L d 211 20 ls ([zi x]) M = some (zi x, M) := eb_E_r hk211 rfl
/-! X6_wrongBy -/
theorem hk212 : eb_cd L 212 = eb_look (kt212 L) := rfl
theorem h212 (ha : (eb_ty L a.1).1 = 6) {x1 : Int32} : eb_ev L (d + 1) 212 [zr a, zi x1] M = eb_E L d 212 0 [some (zr a), some (zi x1), none] [] M := eb_ev_s rfl (eb_chk_i ha rfl)
theorem e212_0 {x : Option eb_A} : eb_E L d 212 0 [some (Sum.inr x), v1, v2] (st) M = eb_E L d 212 1 [some (Sum.inr x), v1, v2] (Sum.inr x :: st) M := eb_E_s hk212 rfl
theorem e212_1  : eb_E L d 212 1 ls (Sum.inr (some a) :: st) (nc, ns, I, J, R) = if (eb_ty L a.1).1 = 6 then eb_E L d 212 4 ls (Sum.inr (R a 10) :: st) (nc, ns, I, J, R) else none := eb_E_iy hk212 rfl
theorem e212_4 {x : Int32} : eb_E L d 212 4 [v0, some (zi x), v2] (st) M = eb_E L d 212 5 [v0, some (zi x), v2] (zi x :: st) M := eb_E_s hk212 rfl
theorem e212_5 {x : Int32} : eb_E L d 212 5 ls (zi x :: Sum.inr (some a) :: st) (nc, ns, I, J, R) = if (12 ≤ (eb_ty L a.1).1 ∧ (eb_ty L a.1).1 ≤ 16) ∧ eb_in x (eb_ty L a.1).2 = true then eb_E L d 212 6 ls (Sum.inr (R a x.toNatClampNeg) :: st) (nc, ns, I, J, R) else none := eb_E_iy hk212 rfl
theorem e212_6  : eb_E L d 212 6 ls (st) M = eb_E L d 212 7 ls (zi 4 :: st) M := eb_E_s hk212 rfl
theorem e212_7 {x : Int32} : eb_E L d 212 7 ls (zi x :: Sum.inr (some a) :: st) (nc, ns, I, J, R) = if (eb_ty L a.1).1 = 10 ∧ eb_in x (eb_ty L a.1).2 = true then eb_E L d 212 8 ls (zi (I a x.toNatClampNeg) :: st) (nc, ns, I, J, R) else none := eb_E_iy hk212 rfl
theorem e212_8 {x : Option eb_A} : eb_E L d 212 8 [some (Sum.inr x), v1, v2] (st) M = eb_E L d 212 9 [some (Sum.inr x), v1, v2] (Sum.inr x :: st) M := eb_E_s hk212 rfl
theorem e212_9  : eb_E L d 212 9 ls (Sum.inr (some a) :: st) (nc, ns, I, J, R) = if (eb_ty L a.1).1 = 6 then eb_E L d 212 12 ls (Sum.inr (R a 10) :: st) (nc, ns, I, J, R) else none := eb_E_iy hk212 rfl
theorem e212_12 {x : Int32} : eb_E L d 212 12 [v0, some (zi x), v2] (st) M = eb_E L d 212 13 [v0, some (zi x), v2] (zi x :: st) M := eb_E_s hk212 rfl
theorem e212_13 {x : Int32} : eb_E L d 212 13 ls (zi x :: Sum.inr (some a) :: st) (nc, ns, I, J, R) = if (12 ≤ (eb_ty L a.1).1 ∧ (eb_ty L a.1).1 ≤ 16) ∧ eb_in x (eb_ty L a.1).2 = true then eb_E L d 212 14 ls (Sum.inr (R a x.toNatClampNeg) :: st) (nc, ns, I, J, R) else none := eb_E_iy hk212 rfl
theorem e212_14  : eb_E L d 212 14 ls (st) M = eb_E L d 212 15 ls (zi 0 :: st) M := eb_E_s hk212 rfl
theorem e212_15 {x : Int32} : eb_E L d 212 15 ls (zi x :: Sum.inr (some a) :: st) (nc, ns, I, J, R) = if (eb_ty L a.1).1 = 10 ∧ eb_in x (eb_ty L a.1).2 = true then eb_E L d 212 16 ls (zi (I a x.toNatClampNeg) :: st) (nc, ns, I, J, R) else none := eb_E_iy hk212 rfl
theorem e212_16 {x : Int32} {y : Int32} : eb_E L d 212 16 ls (zi y :: zi x :: st) M = eb_E L d 212 17 ls (zi (x - y) :: st) M := eb_E_s hk212 rfl
theorem e212_17 {x : Int32} : eb_E L d 212 17 [v0, v1, v2] (zi x :: st) M = eb_E L d 212 18 [v0, v1, some (zi x)] (st) M := eb_E_s hk212 rfl
theorem e212_18 {x : Int32} : eb_E L d 212 18 [v0, v1, some (zi x)] (st) M = eb_E L d 212 19 [v0, v1, some (zi x)] (zi x :: st) M := eb_E_s hk212 rfl
theorem e212_19 {x : Int32} : eb_E L d 212 19 ls (zi x :: st) M = if x < 0 then eb_E L d 212 22 ls st M else eb_E L d 212 27 ls st M := eb_E_b hk212 rfl
theorem e212_22 {x : Int32} : eb_E L d 212 22 [v0, v1, some (zi x)] (st) M = eb_E L d 212 23 [v0, v1, some (zi x)] (zi x :: st) M := eb_E_s hk212 rfl
theorem e212_23 {x : Int32} : eb_E L d 212 23 ls (zi x :: st) M = eb_E L d 212 24 ls (zi (-x) :: st) M := eb_E_s hk212 rfl
theorem e212_24  : eb_E L d 212 24 ls (st) M = eb_E L d 212 28 ls (st) M := eb_E_s hk212 rfl
theorem e212_27 {x : Int32} : eb_E L d 212 27 [v0, v1, some (zi x)] (st) M = eb_E L d 212 28 [v0, v1, some (zi x)] (zi x :: st) M := eb_E_s hk212 rfl
theorem e212_28 {x : Int32} : eb_E L d 212 28 ls ([zi x]) M = some (zi x, M) := eb_E_r hk212 rfl
/-! X6_oldest -/
theorem hk213 : eb_cd L 213 = eb_look (kt213 L) := rfl
theorem h213 (ha : (eb_ty L a.1).1 = 6) : eb_ev L (d + 1) 213 [zr a] M = eb_E L d 213 0 [some (zr a), none, none, none] [] M := eb_ev_s rfl (eb_chk_i ha rfl)
theorem e213_0  : eb_E L d 213 0 ls (st) M = eb_E L d 213 1 ls (zi (-1) :: st) M := eb_E_s hk213 rfl
theorem e213_1 {x : Int32} : eb_E L d 213 1 [v0, v1, v2, v3] (zi x :: st) M = eb_E L d 213 2 [v0, some (zi x), v2, v3] (st) M := eb_E_s hk213 rfl
theorem e213_2  : eb_E L d 213 2 ls (st) M = eb_E L d 213 3 ls (zi 0 :: st) M := eb_E_s hk213 rfl
theorem e213_3 {x : Int32} : eb_E L d 213 3 [v0, v1, v2, v3] (zi x :: st) M = eb_E L d 213 4 [v0, v1, some (zi x), v3] (st) M := eb_E_s hk213 rfl
theorem e213_4 {x : Int32} : eb_E L d 213 4 [v0, v1, some (zi x), v3] (st) M = eb_E L d 213 5 [v0, v1, some (zi x), v3] (zi x :: st) M := eb_E_s hk213 rfl
theorem e213_5 {x : Option eb_A} : eb_E L d 213 5 [some (Sum.inr x), v1, v2, v3] (st) M = eb_E L d 213 6 [some (Sum.inr x), v1, v2, v3] (Sum.inr x :: st) M := eb_E_s hk213 rfl
theorem e213_6  : eb_E L d 213 6 ls (Sum.inr (some a) :: st) (nc, ns, I, J, R) = if (eb_ty L a.1).1 = 6 then eb_E L d 213 9 ls (zi (I a 9) :: st) (nc, ns, I, J, R) else none := eb_E_iy hk213 rfl
theorem e213_9 {x : Int32} {y : Int32} : eb_E L d 213 9 ls (zi y :: zi x :: st) M = if x < y then eb_E L d 213 12 ls st M else eb_E L d 213 64 ls st M := eb_E_b hk213 rfl
theorem e213_12 {x : Option eb_A} : eb_E L d 213 12 [some (Sum.inr x), v1, v2, v3] (st) M = eb_E L d 213 13 [some (Sum.inr x), v1, v2, v3] (Sum.inr x :: st) M := eb_E_s hk213 rfl
theorem e213_13  : eb_E L d 213 13 ls (Sum.inr (some a) :: st) (nc, ns, I, J, R) = if (eb_ty L a.1).1 = 6 then eb_E L d 213 16 ls (Sum.inr (R a 10) :: st) (nc, ns, I, J, R) else none := eb_E_iy hk213 rfl
theorem e213_16 {x : Int32} : eb_E L d 213 16 [v0, v1, some (zi x), v3] (st) M = eb_E L d 213 17 [v0, v1, some (zi x), v3] (zi x :: st) M := eb_E_s hk213 rfl
theorem e213_17 {x : Int32} : eb_E L d 213 17 ls (zi x :: Sum.inr (some a) :: st) (nc, ns, I, J, R) = if (12 ≤ (eb_ty L a.1).1 ∧ (eb_ty L a.1).1 ≤ 16) ∧ eb_in x (eb_ty L a.1).2 = true then eb_E L d 213 18 ls (Sum.inr (R a x.toNatClampNeg) :: st) (nc, ns, I, J, R) else none := eb_E_iy hk213 rfl
theorem e213_18  : eb_E L d 213 18 ls (st) M = eb_E L d 213 19 ls (zi 4 :: st) M := eb_E_s hk213 rfl
theorem e213_19 {x : Int32} : eb_E L d 213 19 ls (zi x :: Sum.inr (some a) :: st) (nc, ns, I, J, R) = if (eb_ty L a.1).1 = 10 ∧ eb_in x (eb_ty L a.1).2 = true then eb_E L d 213 20 ls (zi (I a x.toNatClampNeg) :: st) (nc, ns, I, J, R) else none := eb_E_iy hk213 rfl
theorem e213_20  : eb_E L d 213 20 ls (st) M = eb_E L d 213 21 ls (zi (-1) :: st) M := eb_E_s hk213 rfl
theorem e213_21 {x : Int32} {y : Int32} : eb_E L d 213 21 ls (zi y :: zi x :: st) M = if x = y then eb_E L d 213 28 ls st M else eb_E L d 213 24 ls st M := eb_E_b hk213 rfl
theorem e213_24  : eb_E L d 213 24 ls (st) M = eb_E L d 213 25 ls (zi 1 :: st) M := eb_E_s hk213 rfl
theorem e213_25  : eb_E L d 213 25 ls (st) M = eb_E L d 213 29 ls (st) M := eb_E_s hk213 rfl
theorem e213_28  : eb_E L d 213 28 ls (st) M = eb_E L d 213 29 ls (zi 0 :: st) M := eb_E_s hk213 rfl
theorem e213_29 {x : Int32} : eb_E L d 213 29 [v0, v1, v2, v3] (zi x :: st) M = eb_E L d 213 30 [v0, v1, v2, some (zi x)] (st) M := eb_E_s hk213 rfl
theorem e213_30 {x : Int32} : eb_E L d 213 30 [v0, v1, v2, some (zi x)] (st) M = eb_E L d 213 31 [v0, v1, v2, some (zi x)] (zi x :: st) M := eb_E_s hk213 rfl
theorem e213_31 {x : Int32} : eb_E L d 213 31 ls (zi x :: st) M = if x = 0 then eb_E L d 213 56 ls st M else eb_E L d 213 34 ls st M := eb_E_b hk213 rfl
theorem e213_34 {x : Int32} : eb_E L d 213 34 [v0, some (zi x), v2, v3] (st) M = eb_E L d 213 35 [v0, some (zi x), v2, v3] (zi x :: st) M := eb_E_s hk213 rfl
theorem e213_35  : eb_E L d 213 35 ls (st) M = eb_E L d 213 36 ls (zi (-1) :: st) M := eb_E_s hk213 rfl
theorem e213_36 {x : Int32} {y : Int32} : eb_E L d 213 36 ls (zi y :: zi x :: st) M = if x = y then eb_E L d 213 52 ls st M else eb_E L d 213 39 ls st M := eb_E_b hk213 rfl
theorem e213_39 {x : Option eb_A} : eb_E L d 213 39 [some (Sum.inr x), v1, v2, v3] (st) M = eb_E L d 213 40 [some (Sum.inr x), v1, v2, v3] (Sum.inr x :: st) M := eb_E_s hk213 rfl
theorem e213_40 {x : Int32} : eb_E L d 213 40 [v0, v1, some (zi x), v3] (st) M = eb_E L d 213 41 [v0, v1, some (zi x), v3] (zi x :: st) M := eb_E_s hk213 rfl
theorem e213_41  : eb_E L d 213 41 ls ([a1, a0]) M = (eb_ev L d 212 [a0, a1] M).bind (fun q => eb_E L d 213 44 ls [q.1] q.2) := eb_E_c hk213 rfl
theorem e213_44 {x : Option eb_A} : eb_E L d 213 44 [some (Sum.inr x), v1, v2, v3] (st) M = eb_E L d 213 45 [some (Sum.inr x), v1, v2, v3] (Sum.inr x :: st) M := eb_E_s hk213 rfl
theorem e213_45 {x : Int32} : eb_E L d 213 45 [v0, some (zi x), v2, v3] (st) M = eb_E L d 213 46 [v0, some (zi x), v2, v3] (zi x :: st) M := eb_E_s hk213 rfl
theorem e213_46 {s0 : Int32} : eb_E L d 213 46 ls ([a1, a0, zi s0]) M = (eb_ev L d 212 [a0, a1] M).bind (fun q => eb_E L d 213 49 ls [q.1, zi s0] q.2) := eb_E_c hk213 rfl
theorem e213_49 {x : Int32} {y : Int32} : eb_E L d 213 49 ls (zi y :: zi x :: st) M = if y < x then eb_E L d 213 52 ls st M else eb_E L d 213 56 ls st M := eb_E_b hk213 rfl
theorem e213_52 {x : Int32} : eb_E L d 213 52 [v0, v1, some (zi x), v3] (st) M = eb_E L d 213 53 [v0, v1, some (zi x), v3] (zi x :: st) M := eb_E_s hk213 rfl
theorem e213_53  : eb_E L d 213 53 ls (st) M = eb_E L d 213 57 ls (st) M := eb_E_s hk213 rfl
theorem e213_56 {x : Int32} : eb_E L d 213 56 [v0, some (zi x), v2, v3] (st) M = eb_E L d 213 57 [v0, some (zi x), v2, v3] (zi x :: st) M := eb_E_s hk213 rfl
theorem e213_57 {x : Int32} : eb_E L d 213 57 [v0, v1, v2, v3] (zi x :: st) M = eb_E L d 213 58 [v0, some (zi x), v2, v3] (st) M := eb_E_s hk213 rfl
theorem e213_58 {x : Int32} : eb_E L d 213 58 [v0, v1, some (zi x), v3] (st) M = eb_E L d 213 61 [v0, v1, some (zi (x + 1)), v3] (st) M := eb_E_s hk213 rfl
theorem e213_61  : eb_E L d 213 61 ls (st) M = eb_E L d 213 4 ls (st) M := eb_E_s hk213 rfl
theorem e213_64 {x : Int32} : eb_E L d 213 64 [v0, some (zi x), v2, v3] (st) M = eb_E L d 213 65 [v0, some (zi x), v2, v3] (zi x :: st) M := eb_E_s hk213 rfl
theorem e213_65 {x : Int32} : eb_E L d 213 65 ls ([zi x]) M = some (zi x, M) := eb_E_r hk213 rfl
/-! X6_enough -/
theorem hk214 : eb_cd L 214 = eb_look (kt214 L) := rfl
theorem h214 (ha : (eb_ty L a.1).1 = 6) {x1 : Int32} : eb_ev L (d + 1) 214 [zr a, zi x1] M = eb_E L d 214 0 [some (zr a), some (zi x1), none, none, none] [] M := eb_ev_s rfl (eb_chk_i ha rfl)
theorem e214_0 {x : Option eb_A} : eb_E L d 214 0 [some (Sum.inr x), v1, v2, v3, v4] (st) M = eb_E L d 214 1 [some (Sum.inr x), v1, v2, v3, v4] (Sum.inr x :: st) M := eb_E_s hk214 rfl
theorem e214_1 {x : Int32} : eb_E L d 214 1 [v0, some (zi x), v2, v3, v4] (st) M = eb_E L d 214 2 [v0, some (zi x), v2, v3, v4] (zi x :: st) M := eb_E_s hk214 rfl
theorem e214_2  : eb_E L d 214 2 ls ([a1, a0]) M = (eb_ev L d 148 [a0, a1] M).bind (fun q => eb_E L d 214 5 ls [q.1] q.2) := eb_E_c hk214 rfl
theorem e214_5 {x : Int32} : eb_E L d 214 5 ls (zi x :: st) M = if x = 0 then eb_E L d 214 8 ls st M else eb_E L d 214 15 ls st M := eb_E_b hk214 rfl
theorem e214_8 {x : Option eb_A} : eb_E L d 214 8 [some (Sum.inr x), v1, v2, v3, v4] (st) M = eb_E L d 214 9 [some (Sum.inr x), v1, v2, v3, v4] (Sum.inr x :: st) M := eb_E_s hk214 rfl
theorem e214_9  : eb_E L d 214 9 ls (st) M = eb_E L d 214 11 ls (zi (-2) :: st) M := eb_E_s hk214 rfl
theorem e214_11  : eb_E L d 214 11 ls ([a1, a0]) M = (eb_ev L d 145 [a0, a1] M).bind (fun q => eb_E L d 214 14 ls [q.1] q.2) := eb_E_c hk214 rfl
theorem e214_14 {x : Int32} : eb_E L d 214 14 ls ([zi x]) M = some (zi x, M) := eb_E_r hk214 rfl
theorem e214_15 {x : Option eb_A} : eb_E L d 214 15 [some (Sum.inr x), v1, v2, v3, v4] (st) M = eb_E L d 214 16 [some (Sum.inr x), v1, v2, v3, v4] (Sum.inr x :: st) M := eb_E_s hk214 rfl
theorem e214_16  : eb_E L d 214 16 ls (Sum.inr (some a) :: st) (nc, ns, I, J, R) = if (eb_ty L a.1).1 = 6 then eb_E L d 214 19 ls (Sum.inr (R a 10) :: st) (nc, ns, I, J, R) else none := eb_E_iy hk214 rfl
theorem e214_19 {x : Int32} : eb_E L d 214 19 [v0, some (zi x), v2, v3, v4] (st) M = eb_E L d 214 20 [v0, some (zi x), v2, v3, v4] (zi x :: st) M := eb_E_s hk214 rfl
theorem e214_20 {x : Int32} : eb_E L d 214 20 ls (zi x :: Sum.inr (some a) :: st) (nc, ns, I, J, R) = if (12 ≤ (eb_ty L a.1).1 ∧ (eb_ty L a.1).1 ≤ 16) ∧ eb_in x (eb_ty L a.1).2 = true then eb_E L d 214 21 ls (Sum.inr (R a x.toNatClampNeg) :: st) (nc, ns, I, J, R) else none := eb_E_iy hk214 rfl
theorem e214_21  : eb_E L d 214 21 ls (st) M = eb_E L d 214 22 ls (zi 2 :: st) M := eb_E_s hk214 rfl
theorem e214_22 {x : Int32} : eb_E L d 214 22 ls (zi x :: Sum.inr (some a) :: st) (nc, ns, I, J, R) = if (eb_ty L a.1).1 = 10 ∧ eb_in x (eb_ty L a.1).2 = true then eb_E L d 214 23 ls (zi (I a x.toNatClampNeg) :: st) (nc, ns, I, J, R) else none := eb_E_iy hk214 rfl
theorem e214_23 {x : Int32} : eb_E L d 214 23 [v0, v1, v2, v3, v4] (zi x :: st) M = eb_E L d 214 24 [v0, v1, some (zi x), v3, v4] (st) M := eb_E_s hk214 rfl
theorem e214_24  : eb_E L d 214 24 ls (st) M = eb_E L d 214 25 ls (zi (-1) :: st) M := eb_E_s hk214 rfl
theorem e214_25 {x : Int32} : eb_E L d 214 25 [v0, v1, v2, v3, v4] (zi x :: st) M = eb_E L d 214 26 [v0, v1, v2, some (zi x), v4] (st) M := eb_E_s hk214 rfl
theorem e214_26  : eb_E L d 214 26 ls (st) M = eb_E L d 214 27 ls (zi 1 :: st) M := eb_E_s hk214 rfl
theorem e214_27 {x : Int32} : eb_E L d 214 27 [v0, v1, v2, v3, v4] (zi x :: st) M = eb_E L d 214 29 [v0, v1, v2, v3, some (zi x)] (st) M := eb_E_s hk214 rfl
theorem e214_29 {x : Int32} : eb_E L d 214 29 [v0, v1, v2, v3, some (zi x)] (st) M = eb_E L d 214 31 [v0, v1, v2, v3, some (zi x)] (zi x :: st) M := eb_E_s hk214 rfl
theorem e214_31  : eb_E L d 214 31 ls (st) M = eb_E L d 214 33 ls (zi 20 :: st) M := eb_E_s hk214 rfl
theorem e214_33 {x : Int32} {y : Int32} : eb_E L d 214 33 ls (zi y :: zi x :: st) M = if y < x then eb_E L d 214 77 ls st M else eb_E L d 214 36 ls st M := eb_E_b hk214 rfl
theorem e214_36 {x : Int32} : eb_E L d 214 36 [v0, v1, v2, some (zi x), v4] (st) M = eb_E L d 214 37 [v0, v1, v2, some (zi x), v4] (zi x :: st) M := eb_E_s hk214 rfl
theorem e214_37  : eb_E L d 214 37 ls (st) M = eb_E L d 214 38 ls (zi (-1) :: st) M := eb_E_s hk214 rfl
theorem e214_38 {x : Int32} {y : Int32} : eb_E L d 214 38 ls (zi y :: zi x :: st) M = if x = y then eb_E L d 214 41 ls st M else eb_E L d 214 77 ls st M := eb_E_b hk214 rfl
theorem e214_41 {x : Option eb_A} : eb_E L d 214 41 [some (Sum.inr x), v1, v2, v3, v4] (st) M = eb_E L d 214 42 [some (Sum.inr x), v1, v2, v3, v4] (Sum.inr x :: st) M := eb_E_s hk214 rfl
theorem e214_42  : eb_E L d 214 42 ls (Sum.inr (some a) :: st) (nc, ns, I, J, R) = if (eb_ty L a.1).1 = 6 then eb_E L d 214 45 ls (Sum.inr (R a 10) :: st) (nc, ns, I, J, R) else none := eb_E_iy hk214 rfl
theorem e214_45 {x : Int32} : eb_E L d 214 45 [v0, some (zi x), v2, v3, v4] (st) M = eb_E L d 214 46 [v0, some (zi x), v2, v3, v4] (zi x :: st) M := eb_E_s hk214 rfl
theorem e214_46 {x : Int32} : eb_E L d 214 46 ls (zi x :: Sum.inr (some a) :: st) (nc, ns, I, J, R) = if (12 ≤ (eb_ty L a.1).1 ∧ (eb_ty L a.1).1 ≤ 16) ∧ eb_in x (eb_ty L a.1).2 = true then eb_E L d 214 47 ls (Sum.inr (R a x.toNatClampNeg) :: st) (nc, ns, I, J, R) else none := eb_E_iy hk214 rfl
theorem e214_47  : eb_E L d 214 47 ls (st) M = eb_E L d 214 48 ls (zi 2 :: st) M := eb_E_s hk214 rfl
theorem e214_48 {x : Int32} : eb_E L d 214 48 [v0, v1, v2, v3, some (zi x)] (st) M = eb_E L d 214 50 [v0, v1, v2, v3, some (zi x)] (zi x :: st) M := eb_E_s hk214 rfl
theorem e214_50 {x : Int32} {v : Int32} : eb_E L d 214 50 ls (zi v :: zi x :: Sum.inr (some a) :: st) (nc, ns, I, J, R) = if (eb_ty L a.1).1 = 10 ∧ eb_in x (eb_ty L a.1).2 = true then eb_E L d 214 51 ls (st) (nc, ns, eb_u I a x.toNatClampNeg v, J, R) else none := eb_E_iy hk214 rfl
theorem e214_51 {x : Option eb_A} : eb_E L d 214 51 [some (Sum.inr x), v1, v2, v3, v4] (st) M = eb_E L d 214 52 [some (Sum.inr x), v1, v2, v3, v4] (Sum.inr x :: st) M := eb_E_s hk214 rfl
theorem e214_52  : eb_E L d 214 52 ls ([a0]) M = (eb_ev L d 197 [a0] M).bind (fun q => eb_E L d 214 55 ls [] q.2) := eb_E_c hk214 rfl
theorem e214_55 {x : Option eb_A} : eb_E L d 214 55 [some (Sum.inr x), v1, v2, v3, v4] (st) M = eb_E L d 214 56 [some (Sum.inr x), v1, v2, v3, v4] (Sum.inr x :: st) M := eb_E_s hk214 rfl
theorem e214_56  : eb_E L d 214 56 ls (Sum.inr (some a) :: st) (nc, ns, I, J, R) = if (eb_ty L a.1).1 = 6 then eb_E L d 214 59 ls (Sum.inr (R a 27) :: st) (nc, ns, I, J, R) else none := eb_E_iy hk214 rfl
theorem e214_59 {x : Int32} : eb_E L d 214 59 [v0, some (zi x), v2, v3, v4] (st) M = eb_E L d 214 60 [v0, some (zi x), v2, v3, v4] (zi x :: st) M := eb_E_s hk214 rfl
theorem e214_60 {x : Int32} : eb_E L d 214 60 ls (zi x :: Sum.inr (some a) :: st) (nc, ns, I, J, R) = if (eb_ty L a.1).1 = 10 ∧ eb_in x (eb_ty L a.1).2 = true then eb_E L d 214 61 ls (zi (I a x.toNatClampNeg) :: st) (nc, ns, I, J, R) else none := eb_E_iy hk214 rfl
theorem e214_61 {x : Int32} : eb_E L d 214 61 ls (zi x :: st) M = if 0 < x then eb_E L d 214 64 ls st M else eb_E L d 214 69 ls st M := eb_E_b hk214 rfl
theorem e214_64 {x : Int32} : eb_E L d 214 64 [v0, v1, v2, v3, some (zi x)] (st) M = eb_E L d 214 66 [v0, v1, v2, v3, some (zi x)] (zi x :: st) M := eb_E_s hk214 rfl
theorem e214_66  : eb_E L d 214 66 ls (st) M = eb_E L d 214 70 ls (st) M := eb_E_s hk214 rfl
theorem e214_69  : eb_E L d 214 69 ls (st) M = eb_E L d 214 70 ls (zi (-1) :: st) M := eb_E_s hk214 rfl
theorem e214_70 {x : Int32} : eb_E L d 214 70 [v0, v1, v2, v3, v4] (zi x :: st) M = eb_E L d 214 71 [v0, v1, v2, some (zi x), v4] (st) M := eb_E_s hk214 rfl
theorem e214_71 {x : Int32} : eb_E L d 214 71 [v0, v1, v2, v3, some (zi x)] (st) M = eb_E L d 214 74 [v0, v1, v2, v3, some (zi (x + 1))] (st) M := eb_E_s hk214 rfl
theorem e214_74  : eb_E L d 214 74 ls (st) M = eb_E L d 214 29 ls (st) M := eb_E_s hk214 rfl
theorem e214_77 {x : Option eb_A} : eb_E L d 214 77 [some (Sum.inr x), v1, v2, v3, v4] (st) M = eb_E L d 214 78 [some (Sum.inr x), v1, v2, v3, v4] (Sum.inr x :: st) M := eb_E_s hk214 rfl
theorem e214_78  : eb_E L d 214 78 ls (Sum.inr (some a) :: st) (nc, ns, I, J, R) = if (eb_ty L a.1).1 = 6 then eb_E L d 214 81 ls (Sum.inr (R a 10) :: st) (nc, ns, I, J, R) else none := eb_E_iy hk214 rfl
theorem e214_81 {x : Int32} : eb_E L d 214 81 [v0, some (zi x), v2, v3, v4] (st) M = eb_E L d 214 82 [v0, some (zi x), v2, v3, v4] (zi x :: st) M := eb_E_s hk214 rfl
theorem e214_82 {x : Int32} : eb_E L d 214 82 ls (zi x :: Sum.inr (some a) :: st) (nc, ns, I, J, R) = if (12 ≤ (eb_ty L a.1).1 ∧ (eb_ty L a.1).1 ≤ 16) ∧ eb_in x (eb_ty L a.1).2 = true then eb_E L d 214 83 ls (Sum.inr (R a x.toNatClampNeg) :: st) (nc, ns, I, J, R) else none := eb_E_iy hk214 rfl
theorem e214_83  : eb_E L d 214 83 ls (st) M = eb_E L d 214 84 ls (zi 2 :: st) M := eb_E_s hk214 rfl
theorem e214_84 {x : Int32} : eb_E L d 214 84 [v0, v1, some (zi x), v3, v4] (st) M = eb_E L d 214 85 [v0, v1, some (zi x), v3, v4] (zi x :: st) M := eb_E_s hk214 rfl
theorem e214_85 {x : Int32} {v : Int32} : eb_E L d 214 85 ls (zi v :: zi x :: Sum.inr (some a) :: st) (nc, ns, I, J, R) = if (eb_ty L a.1).1 = 10 ∧ eb_in x (eb_ty L a.1).2 = true then eb_E L d 214 86 ls (st) (nc, ns, eb_u I a x.toNatClampNeg v, J, R) else none := eb_E_iy hk214 rfl
theorem e214_86 {x : Int32} : eb_E L d 214 86 [v0, v1, v2, some (zi x), v4] (st) M = eb_E L d 214 87 [v0, v1, v2, some (zi x), v4] (zi x :: st) M := eb_E_s hk214 rfl
theorem e214_87 {x : Int32} : eb_E L d 214 87 ls ([zi x]) M = some (zi x, M) := eb_E_r hk214 rfl
/-! X6_better -/
theorem hk215 : eb_cd L 215 = eb_look (kt215 L) := rfl
theorem h215 (ha : (eb_ty L a.1).1 = 6) {x1 : Int32} : eb_ev L (d + 1) 215 [zr a, zi x1] M = eb_E L d 215 0 [some (zr a), some (zi x1), none, none, none, none, none] [] M := eb_ev_s rfl (eb_chk_i ha rfl)
theorem e215_0 {x : Option eb_A} : eb_E L d 215 0 [some (Sum.inr x), v1, v2, v3, v4, v5, v6] (st) M = eb_E L d 215 1 [some (Sum.inr x), v1, v2, v3, v4, v5, v6] (Sum.inr x :: st) M := eb_E_s hk215 rfl
theorem e215_1 {x : Int32} : eb_E L d 215 1 [v0, some (zi x), v2, v3, v4, v5, v6] (st) M = eb_E L d 215 2 [v0, some (zi x), v2, v3, v4, v5, v6] (zi x :: st) M := eb_E_s hk215 rfl
theorem e215_2  : eb_E L d 215 2 ls ([a1, a0]) M = (eb_ev L d 149 [a0, a1] M).bind (fun q => eb_E L d 215 5 ls [q.1] q.2) := eb_E_c hk215 rfl
theorem e215_5 {x : Int32} : eb_E L d 215 5 ls (zi x :: st) M = if x = 0 then eb_E L d 215 8 ls st M else eb_E L d 215 15 ls st M := eb_E_b hk215 rfl
theorem e215_8 {x : Option eb_A} : eb_E L d 215 8 [some (Sum.inr x), v1, v2, v3, v4, v5, v6] (st) M = eb_E L d 215 9 [some (Sum.inr x), v1, v2, v3, v4, v5, v6] (Sum.inr x :: st) M := eb_E_s hk215 rfl
theorem e215_9  : eb_E L d 215 9 ls (st) M = eb_E L d 215 11 ls (zi (-2) :: st) M := eb_E_s hk215 rfl
theorem e215_11  : eb_E L d 215 11 ls ([a1, a0]) M = (eb_ev L d 145 [a0, a1] M).bind (fun q => eb_E L d 215 14 ls [q.1] q.2) := eb_E_c hk215 rfl
theorem e215_14 {x : Int32} : eb_E L d 215 14 ls ([zi x]) M = some (zi x, M) := eb_E_r hk215 rfl
theorem e215_15 {x : Option eb_A} : eb_E L d 215 15 [some (Sum.inr x), v1, v2, v3, v4, v5, v6] (st) M = eb_E L d 215 16 [some (Sum.inr x), v1, v2, v3, v4, v5, v6] (Sum.inr x :: st) M := eb_E_s hk215 rfl
theorem e215_16  : eb_E L d 215 16 ls (Sum.inr (some a) :: st) (nc, ns, I, J, R) = if (eb_ty L a.1).1 = 6 then eb_E L d 215 19 ls (Sum.inr (R a 12) :: st) (nc, ns, I, J, R) else none := eb_E_iy hk215 rfl
theorem e215_19 {x : Int32} : eb_E L d 215 19 [v0, some (zi x), v2, v3, v4, v5, v6] (st) M = eb_E L d 215 20 [v0, some (zi x), v2, v3, v4, v5, v6] (zi x :: st) M := eb_E_s hk215 rfl
theorem e215_20 {x : Int32} : eb_E L d 215 20 ls (zi x :: Sum.inr (some a) :: st) (nc, ns, I, J, R) = if (12 ≤ (eb_ty L a.1).1 ∧ (eb_ty L a.1).1 ≤ 16) ∧ eb_in x (eb_ty L a.1).2 = true then eb_E L d 215 21 ls (Sum.inr (R a x.toNatClampNeg) :: st) (nc, ns, I, J, R) else none := eb_E_iy hk215 rfl
theorem e215_21  : eb_E L d 215 21 ls (st) M = eb_E L d 215 22 ls (zi 0 :: st) M := eb_E_s hk215 rfl
theorem e215_22 {x : Int32} : eb_E L d 215 22 ls (zi x :: Sum.inr (some a) :: st) (nc, ns, I, J, R) = if (eb_ty L a.1).1 = 10 ∧ eb_in x (eb_ty L a.1).2 = true then eb_E L d 215 23 ls (zi (I a x.toNatClampNeg) :: st) (nc, ns, I, J, R) else none := eb_E_iy hk215 rfl
theorem e215_23 {x : Int32} : eb_E L d 215 23 [v0, v1, v2, v3, v4, v5, v6] (zi x :: st) M = eb_E L d 215 24 [v0, v1, some (zi x), v3, v4, v5, v6] (st) M := eb_E_s hk215 rfl
theorem e215_24  : eb_E L d 215 24 ls (st) M = eb_E L d 215 25 ls (zi 0 :: st) M := eb_E_s hk215 rfl
theorem e215_25 {x : Int32} : eb_E L d 215 25 [v0, v1, v2, v3, v4, v5, v6] (zi x :: st) M = eb_E L d 215 26 [v0, v1, v2, some (zi x), v4, v5, v6] (st) M := eb_E_s hk215 rfl
theorem e215_26  : eb_E L d 215 26 ls (st) M = eb_E L d 215 27 ls (zi 0 :: st) M := eb_E_s hk215 rfl
theorem e215_27 {x : Int32} : eb_E L d 215 27 [v0, v1, v2, v3, v4, v5, v6] (zi x :: st) M = eb_E L d 215 29 [v0, v1, v2, v3, some (zi x), v5, v6] (st) M := eb_E_s hk215 rfl
theorem e215_29  : eb_E L d 215 29 ls (st) M = eb_E L d 215 30 ls (zi 0 :: st) M := eb_E_s hk215 rfl
theorem e215_30 {x : Int32} : eb_E L d 215 30 [v0, v1, v2, v3, v4, v5, v6] (zi x :: st) M = eb_E L d 215 32 [v0, v1, v2, v3, v4, some (zi x), v6] (st) M := eb_E_s hk215 rfl
theorem e215_32 {x : Int32} : eb_E L d 215 32 [v0, v1, v2, v3, v4, some (zi x), v6] (st) M = eb_E L d 215 34 [v0, v1, v2, v3, v4, some (zi x), v6] (zi x :: st) M := eb_E_s hk215 rfl
theorem e215_34  : eb_E L d 215 34 ls (st) M = eb_E L d 215 35 ls (zi 5 :: st) M := eb_E_s hk215 rfl
theorem e215_35 {x : Int32} {y : Int32} : eb_E L d 215 35 ls (zi y :: zi x :: st) M = if y < x then eb_E L d 215 84 ls st M else eb_E L d 215 38 ls st M := eb_E_b hk215 rfl
theorem e215_38 {x : Option eb_A} : eb_E L d 215 38 [some (Sum.inr x), v1, v2, v3, v4, v5, v6] (st) M = eb_E L d 215 39 [some (Sum.inr x), v1, v2, v3, v4, v5, v6] (Sum.inr x :: st) M := eb_E_s hk215 rfl
theorem e215_39  : eb_E L d 215 39 ls (Sum.inr (some a) :: st) (nc, ns, I, J, R) = if (eb_ty L a.1).1 = 6 then eb_E L d 215 42 ls (Sum.inr (R a 12) :: st) (nc, ns, I, J, R) else none := eb_E_iy hk215 rfl
theorem e215_42 {x : Int32} : eb_E L d 215 42 [v0, some (zi x), v2, v3, v4, v5, v6] (st) M = eb_E L d 215 43 [v0, some (zi x), v2, v3, v4, v5, v6] (zi x :: st) M := eb_E_s hk215 rfl
theorem e215_43 {x : Int32} : eb_E L d 215 43 ls (zi x :: Sum.inr (some a) :: st) (nc, ns, I, J, R) = if (12 ≤ (eb_ty L a.1).1 ∧ (eb_ty L a.1).1 ≤ 16) ∧ eb_in x (eb_ty L a.1).2 = true then eb_E L d 215 44 ls (Sum.inr (R a x.toNatClampNeg) :: st) (nc, ns, I, J, R) else none := eb_E_iy hk215 rfl
theorem e215_44  : eb_E L d 215 44 ls (st) M = eb_E L d 215 45 ls (zi 0 :: st) M := eb_E_s hk215 rfl
theorem e215_45 {x : Int32} : eb_E L d 215 45 [v0, v1, v2, v3, v4, some (zi x), v6] (st) M = eb_E L d 215 47 [v0, v1, v2, v3, v4, some (zi x), v6] (zi x :: st) M := eb_E_s hk215 rfl
theorem e215_47 {x : Int32} {v : Int32} : eb_E L d 215 47 ls (zi v :: zi x :: Sum.inr (some a) :: st) (nc, ns, I, J, R) = if (eb_ty L a.1).1 = 10 ∧ eb_in x (eb_ty L a.1).2 = true then eb_E L d 215 48 ls (st) (nc, ns, eb_u I a x.toNatClampNeg v, J, R) else none := eb_E_iy hk215 rfl
theorem e215_48 {x : Option eb_A} : eb_E L d 215 48 [some (Sum.inr x), v1, v2, v3, v4, v5, v6] (st) M = eb_E L d 215 49 [some (Sum.inr x), v1, v2, v3, v4, v5, v6] (Sum.inr x :: st) M := eb_E_s hk215 rfl
theorem e215_49  : eb_E L d 215 49 ls ([a0]) M = (eb_ev L d 197 [a0] M).bind (fun q => eb_E L d 215 52 ls [] q.2) := eb_E_c hk215 rfl
theorem e215_52 {x : Option eb_A} : eb_E L d 215 52 [some (Sum.inr x), v1, v2, v3, v4, v5, v6] (st) M = eb_E L d 215 53 [some (Sum.inr x), v1, v2, v3, v4, v5, v6] (Sum.inr x :: st) M := eb_E_s hk215 rfl
theorem e215_53 {x : Int32} : eb_E L d 215 53 [v0, some (zi x), v2, v3, v4, v5, v6] (st) M = eb_E L d 215 54 [v0, some (zi x), v2, v3, v4, v5, v6] (zi x :: st) M := eb_E_s hk215 rfl
theorem e215_54  : eb_E L d 215 54 ls ([a1, a0]) M = (eb_ev L d 203 [a0, a1] M).bind (fun q => eb_E L d 215 57 ls [q.1] q.2) := eb_E_c hk215 rfl
theorem e215_57 {x : Int32} : eb_E L d 215 57 [v0, v1, v2, v3, v4, v5, v6] (zi x :: st) M = eb_E L d 215 59 [v0, v1, v2, v3, v4, v5, some (zi x)] (st) M := eb_E_s hk215 rfl
theorem e215_59 {x : Int32} : eb_E L d 215 59 [v0, v1, v2, v3, v4, some (zi x), v6] (st) M = eb_E L d 215 61 [v0, v1, v2, v3, v4, some (zi x), v6] (zi x :: st) M := eb_E_s hk215 rfl
theorem e215_61 {x : Int32} : eb_E L d 215 61 ls (zi x :: st) M = if x = 0 then eb_E L d 215 71 ls st M else eb_E L d 215 64 ls st M := eb_E_b hk215 rfl
theorem e215_64 {x : Int32} : eb_E L d 215 64 [v0, v1, v2, v3, v4, v5, some (zi x)] (st) M = eb_E L d 215 66 [v0, v1, v2, v3, v4, v5, some (zi x)] (zi x :: st) M := eb_E_s hk215 rfl
theorem e215_66 {x : Int32} : eb_E L d 215 66 [v0, v1, v2, v3, some (zi x), v5, v6] (st) M = eb_E L d 215 68 [v0, v1, v2, v3, some (zi x), v5, v6] (zi x :: st) M := eb_E_s hk215 rfl
theorem e215_68 {x : Int32} {y : Int32} : eb_E L d 215 68 ls (zi y :: zi x :: st) M = if y < x then eb_E L d 215 71 ls st M else eb_E L d 215 78 ls st M := eb_E_b hk215 rfl
theorem e215_71 {x : Int32} : eb_E L d 215 71 [v0, v1, v2, v3, v4, some (zi x), v6] (st) M = eb_E L d 215 73 [v0, v1, v2, v3, v4, some (zi x), v6] (zi x :: st) M := eb_E_s hk215 rfl
theorem e215_73 {x : Int32} : eb_E L d 215 73 [v0, v1, v2, v3, v4, v5, v6] (zi x :: st) M = eb_E L d 215 74 [v0, v1, v2, some (zi x), v4, v5, v6] (st) M := eb_E_s hk215 rfl
theorem e215_74 {x : Int32} : eb_E L d 215 74 [v0, v1, v2, v3, v4, v5, some (zi x)] (st) M = eb_E L d 215 76 [v0, v1, v2, v3, v4, v5, some (zi x)] (zi x :: st) M := eb_E_s hk215 rfl
theorem e215_76 {x : Int32} : eb_E L d 215 76 [v0, v1, v2, v3, v4, v5, v6] (zi x :: st) M = eb_E L d 215 78 [v0, v1, v2, v3, some (zi x), v5, v6] (st) M := eb_E_s hk215 rfl
theorem e215_78 {x : Int32} : eb_E L d 215 78 [v0, v1, v2, v3, v4, some (zi x), v6] (st) M = eb_E L d 215 81 [v0, v1, v2, v3, v4, some (zi (x + 1)), v6] (st) M := eb_E_s hk215 rfl
theorem e215_81  : eb_E L d 215 81 ls (st) M = eb_E L d 215 32 ls (st) M := eb_E_s hk215 rfl
theorem e215_84 {x : Option eb_A} : eb_E L d 215 84 [some (Sum.inr x), v1, v2, v3, v4, v5, v6] (st) M = eb_E L d 215 85 [some (Sum.inr x), v1, v2, v3, v4, v5, v6] (Sum.inr x :: st) M := eb_E_s hk215 rfl
theorem e215_85  : eb_E L d 215 85 ls (Sum.inr (some a) :: st) (nc, ns, I, J, R) = if (eb_ty L a.1).1 = 6 then eb_E L d 215 88 ls (Sum.inr (R a 12) :: st) (nc, ns, I, J, R) else none := eb_E_iy hk215 rfl
theorem e215_88 {x : Int32} : eb_E L d 215 88 [v0, some (zi x), v2, v3, v4, v5, v6] (st) M = eb_E L d 215 89 [v0, some (zi x), v2, v3, v4, v5, v6] (zi x :: st) M := eb_E_s hk215 rfl
theorem e215_89 {x : Int32} : eb_E L d 215 89 ls (zi x :: Sum.inr (some a) :: st) (nc, ns, I, J, R) = if (12 ≤ (eb_ty L a.1).1 ∧ (eb_ty L a.1).1 ≤ 16) ∧ eb_in x (eb_ty L a.1).2 = true then eb_E L d 215 90 ls (Sum.inr (R a x.toNatClampNeg) :: st) (nc, ns, I, J, R) else none := eb_E_iy hk215 rfl
theorem e215_90  : eb_E L d 215 90 ls (st) M = eb_E L d 215 91 ls (zi 0 :: st) M := eb_E_s hk215 rfl
theorem e215_91 {x : Int32} : eb_E L d 215 91 [v0, v1, some (zi x), v3, v4, v5, v6] (st) M = eb_E L d 215 92 [v0, v1, some (zi x), v3, v4, v5, v6] (zi x :: st) M := eb_E_s hk215 rfl
theorem e215_92 {x : Int32} {v : Int32} : eb_E L d 215 92 ls (zi v :: zi x :: Sum.inr (some a) :: st) (nc, ns, I, J, R) = if (eb_ty L a.1).1 = 10 ∧ eb_in x (eb_ty L a.1).2 = true then eb_E L d 215 93 ls (st) (nc, ns, eb_u I a x.toNatClampNeg v, J, R) else none := eb_E_iy hk215 rfl
theorem e215_93 {x : Int32} : eb_E L d 215 93 [v0, v1, v2, some (zi x), v4, v5, v6] (st) M = eb_E L d 215 94 [v0, v1, v2, some (zi x), v4, v5, v6] (zi x :: st) M := eb_E_s hk215 rfl
theorem e215_94 {x : Int32} : eb_E L d 215 94 ls ([zi x]) M = some (zi x, M) := eb_E_r hk215 rfl
/-! X6_isChoice -/
theorem hk216 : eb_cd L 216 = eb_look (kt216 L) := rfl
theorem h216 (ha : (eb_ty L a.1).1 = 6) {x1 : Int32} : eb_ev L (d + 1) 216 [zr a, zi x1] M = eb_E L d 216 0 [some (zr a), some (zi x1), none] [] M := eb_ev_s rfl (eb_chk_i ha rfl)
theorem e216_0  : eb_E L d 216 0 ls (st) M = eb_E L d 216 1 ls (zi 0 :: st) M := eb_E_s hk216 rfl
theorem e216_1 {x : Int32} : eb_E L d 216 1 [v0, v1, v2] (zi x :: st) M = eb_E L d 216 2 [v0, v1, some (zi x)] (st) M := eb_E_s hk216 rfl
theorem e216_2 {x : Int32} : eb_E L d 216 2 [v0, v1, some (zi x)] (st) M = eb_E L d 216 3 [v0, v1, some (zi x)] (zi x :: st) M := eb_E_s hk216 rfl
theorem e216_3 {x : Option eb_A} : eb_E L d 216 3 [some (Sum.inr x), v1, v2] (st) M = eb_E L d 216 4 [some (Sum.inr x), v1, v2] (Sum.inr x :: st) M := eb_E_s hk216 rfl
theorem e216_4  : eb_E L d 216 4 ls (Sum.inr (some a) :: st) (nc, ns, I, J, R) = if (eb_ty L a.1).1 = 6 then eb_E L d 216 7 ls (zi (I a 11) :: st) (nc, ns, I, J, R) else none := eb_E_iy hk216 rfl
theorem e216_7 {x : Int32} {y : Int32} : eb_E L d 216 7 ls (zi y :: zi x :: st) M = if x < y then eb_E L d 216 10 ls st M else eb_E L d 216 35 ls st M := eb_E_b hk216 rfl
theorem e216_10 {x : Option eb_A} : eb_E L d 216 10 [some (Sum.inr x), v1, v2] (st) M = eb_E L d 216 11 [some (Sum.inr x), v1, v2] (Sum.inr x :: st) M := eb_E_s hk216 rfl
theorem e216_11 {x : Int32} : eb_E L d 216 11 [v0, v1, some (zi x)] (st) M = eb_E L d 216 12 [v0, v1, some (zi x)] (zi x :: st) M := eb_E_s hk216 rfl
theorem e216_12  : eb_E L d 216 12 ls ([a1, a0]) M = (eb_ev L d 207 [a0, a1] M).bind (fun q => eb_E L d 216 15 ls [q.1] q.2) := eb_E_c hk216 rfl
theorem e216_15 {x : Int32} : eb_E L d 216 15 ls (zi x :: st) M = if x = 0 then eb_E L d 216 29 ls st M else eb_E L d 216 18 ls st M := eb_E_b hk216 rfl
theorem e216_18 {x : Option eb_A} : eb_E L d 216 18 [some (Sum.inr x), v1, v2] (st) M = eb_E L d 216 19 [some (Sum.inr x), v1, v2] (Sum.inr x :: st) M := eb_E_s hk216 rfl
theorem e216_19 {x : Int32} : eb_E L d 216 19 [v0, v1, some (zi x)] (st) M = eb_E L d 216 20 [v0, v1, some (zi x)] (zi x :: st) M := eb_E_s hk216 rfl
theorem e216_20  : eb_E L d 216 20 ls ([a1, a0]) M = (eb_ev L d 194 [a0, a1] M).bind (fun q => eb_E L d 216 23 ls [q.1] q.2) := eb_E_c hk216 rfl
theorem e216_23 {x : Int32} : eb_E L d 216 23 [v0, some (zi x), v2] (st) M = eb_E L d 216 24 [v0, some (zi x), v2] (zi x :: st) M := eb_E_s hk216 rfl
theorem e216_24 {x : Int32} {y : Int32} : eb_E L d 216 24 ls (zi y :: zi x :: st) M = if x = y then eb_E L d 216 27 ls st M else eb_E L d 216 29 ls st M := eb_E_b hk216 rfl
theorem e216_27  : eb_E L d 216 27 ls (st) M = eb_E L d 216 28 ls (zi 1 :: st) M := eb_E_s hk216 rfl
theorem e216_28 {x : Int32} : eb_E L d 216 28 ls ([zi x]) M = if x = 0 ∨ x = 1 then some (zi x, M) else none := eb_E_ri hk216 rfl
theorem e216_29 {x : Int32} : eb_E L d 216 29 [v0, v1, some (zi x)] (st) M = eb_E L d 216 32 [v0, v1, some (zi (x + 1))] (st) M := eb_E_s hk216 rfl
theorem e216_32  : eb_E L d 216 32 ls (st) M = eb_E L d 216 2 ls (st) M := eb_E_s hk216 rfl
theorem e216_35  : eb_E L d 216 35 ls (st) M = eb_E L d 216 36 ls (zi 0 :: st) M := eb_E_s hk216 rfl
theorem e216_36 {x : Int32} : eb_E L d 216 36 ls ([zi x]) M = if x = 0 ∨ x = 1 then some (zi x, M) else none := eb_E_ri hk216 rfl
/-! X6_trust -/
theorem hk217 : eb_cd L 217 = eb_look (kt217 L) := rfl
theorem h217 (ha : (eb_ty L a.1).1 = 6) {x1 : Int32} : eb_ev L (d + 1) 217 [zr a, zi x1] M = eb_E L d 217 0 [some (zr a), some (zi x1), none, none, none] [] M := eb_ev_s rfl (eb_chk_i ha rfl)
theorem e217_0 {x : Option eb_A} : eb_E L d 217 0 [some (Sum.inr x), v1, v2, v3, v4] (st) M = eb_E L d 217 1 [some (Sum.inr x), v1, v2, v3, v4] (Sum.inr x :: st) M := eb_E_s hk217 rfl
theorem e217_1 {x : Int32} : eb_E L d 217 1 [v0, some (zi x), v2, v3, v4] (st) M = eb_E L d 217 2 [v0, some (zi x), v2, v3, v4] (zi x :: st) M := eb_E_s hk217 rfl
theorem e217_2  : eb_E L d 217 2 ls ([a1, a0]) M = (eb_ev L d 148 [a0, a1] M).bind (fun q => eb_E L d 217 5 ls [q.1] q.2) := eb_E_c hk217 rfl
theorem e217_5 {x : Int32} : eb_E L d 217 5 ls (zi x :: st) M = if x = 0 then eb_E L d 217 8 ls st M else eb_E L d 217 15 ls st M := eb_E_b hk217 rfl
theorem e217_8 {x : Option eb_A} : eb_E L d 217 8 [some (Sum.inr x), v1, v2, v3, v4] (st) M = eb_E L d 217 9 [some (Sum.inr x), v1, v2, v3, v4] (Sum.inr x :: st) M := eb_E_s hk217 rfl
theorem e217_9  : eb_E L d 217 9 ls (st) M = eb_E L d 217 11 ls (zi (-2) :: st) M := eb_E_s hk217 rfl
theorem e217_11  : eb_E L d 217 11 ls ([a1, a0]) M = (eb_ev L d 145 [a0, a1] M).bind (fun q => eb_E L d 217 14 ls [q.1] q.2) := eb_E_c hk217 rfl
theorem e217_14 {x : Int32} : eb_E L d 217 14 ls ([zi x]) M = some (zi x, M) := eb_E_r hk217 rfl
theorem e217_15 {x : Option eb_A} : eb_E L d 217 15 [some (Sum.inr x), v1, v2, v3, v4] (st) M = eb_E L d 217 16 [some (Sum.inr x), v1, v2, v3, v4] (Sum.inr x :: st) M := eb_E_s hk217 rfl
theorem e217_16  : eb_E L d 217 16 ls (Sum.inr (some a) :: st) (nc, ns, I, J, R) = if (eb_ty L a.1).1 = 6 then eb_E L d 217 19 ls (zi (I a 13) :: st) (nc, ns, I, J, R) else none := eb_E_iy hk217 rfl
theorem e217_19 {x : Int32} : eb_E L d 217 19 [v0, v1, v2, v3, v4] (zi x :: st) M = eb_E L d 217 20 [v0, v1, some (zi x), v3, v4] (st) M := eb_E_s hk217 rfl
theorem e217_20  : eb_E L d 217 20 ls (st) M = eb_E L d 217 21 ls (zi (-1) :: st) M := eb_E_s hk217 rfl
theorem e217_21 {x : Int32} : eb_E L d 217 21 [v0, v1, v2, v3, v4] (zi x :: st) M = eb_E L d 217 22 [v0, v1, v2, some (zi x), v4] (st) M := eb_E_s hk217 rfl
theorem e217_22  : eb_E L d 217 22 ls (st) M = eb_E L d 217 24 ls (zi 99 :: st) M := eb_E_s hk217 rfl
theorem e217_24 {x : Int32} : eb_E L d 217 24 [v0, v1, v2, v3, v4] (zi x :: st) M = eb_E L d 217 26 [v0, v1, v2, v3, some (zi x)] (st) M := eb_E_s hk217 rfl
theorem e217_26 {x : Int32} : eb_E L d 217 26 [v0, v1, v2, v3, some (zi x)] (st) M = eb_E L d 217 28 [v0, v1, v2, v3, some (zi x)] (zi x :: st) M := eb_E_s hk217 rfl
theorem e217_28 {x : Int32} : eb_E L d 217 28 ls (zi x :: st) M = if x < 0 then eb_E L d 217 63 ls st M else eb_E L d 217 31 ls st M := eb_E_b hk217 rfl
theorem e217_31 {x : Int32} : eb_E L d 217 31 [v0, v1, v2, some (zi x), v4] (st) M = eb_E L d 217 32 [v0, v1, v2, some (zi x), v4] (zi x :: st) M := eb_E_s hk217 rfl
theorem e217_32  : eb_E L d 217 32 ls (st) M = eb_E L d 217 33 ls (zi (-1) :: st) M := eb_E_s hk217 rfl
theorem e217_33 {x : Int32} {y : Int32} : eb_E L d 217 33 ls (zi y :: zi x :: st) M = if x = y then eb_E L d 217 36 ls st M else eb_E L d 217 63 ls st M := eb_E_b hk217 rfl
theorem e217_36 {x : Option eb_A} : eb_E L d 217 36 [some (Sum.inr x), v1, v2, v3, v4] (st) M = eb_E L d 217 37 [some (Sum.inr x), v1, v2, v3, v4] (Sum.inr x :: st) M := eb_E_s hk217 rfl
theorem e217_37 {x : Int32} : eb_E L d 217 37 [v0, v1, v2, v3, some (zi x)] (st) M = eb_E L d 217 39 [v0, v1, v2, v3, some (zi x)] (zi x :: st) M := eb_E_s hk217 rfl
theorem e217_39 {x : Int32} : eb_E L d 217 39 ls (zi x :: Sum.inr (some a) :: st) (nc, ns, I, J, R) = if (eb_ty L a.1).1 = 6 then eb_E L d 217 42 ls (st) (nc, ns, eb_u I a 13 x, J, R) else none := eb_E_iy hk217 rfl
theorem e217_42 {x : Option eb_A} : eb_E L d 217 42 [some (Sum.inr x), v1, v2, v3, v4] (st) M = eb_E L d 217 43 [some (Sum.inr x), v1, v2, v3, v4] (Sum.inr x :: st) M := eb_E_s hk217 rfl
theorem e217_43 {x : Int32} : eb_E L d 217 43 [v0, some (zi x), v2, v3, v4] (st) M = eb_E L d 217 44 [v0, some (zi x), v2, v3, v4] (zi x :: st) M := eb_E_s hk217 rfl
theorem e217_44  : eb_E L d 217 44 ls ([a1, a0]) M = (eb_ev L d 216 [a0, a1] M).bind (fun q => eb_E L d 217 47 ls [q.1] q.2) := eb_E_c hk217 rfl
theorem e217_47 {x : Int32} : eb_E L d 217 47 ls (zi x :: st) M = if x = 0 then eb_E L d 217 55 ls st M else eb_E L d 217 50 ls st M := eb_E_b hk217 rfl
theorem e217_50 {x : Int32} : eb_E L d 217 50 [v0, v1, v2, v3, some (zi x)] (st) M = eb_E L d 217 52 [v0, v1, v2, v3, some (zi x)] (zi x :: st) M := eb_E_s hk217 rfl
theorem e217_52  : eb_E L d 217 52 ls (st) M = eb_E L d 217 56 ls (st) M := eb_E_s hk217 rfl
theorem e217_55  : eb_E L d 217 55 ls (st) M = eb_E L d 217 56 ls (zi (-1) :: st) M := eb_E_s hk217 rfl
theorem e217_56 {x : Int32} : eb_E L d 217 56 [v0, v1, v2, v3, v4] (zi x :: st) M = eb_E L d 217 57 [v0, v1, v2, some (zi x), v4] (st) M := eb_E_s hk217 rfl
theorem e217_57 {x : Int32} : eb_E L d 217 57 [v0, v1, v2, v3, some (zi x)] (st) M = eb_E L d 217 60 [v0, v1, v2, v3, some (zi (x + (-1)))] (st) M := eb_E_s hk217 rfl
theorem e217_60  : eb_E L d 217 60 ls (st) M = eb_E L d 217 26 ls (st) M := eb_E_s hk217 rfl
theorem e217_63 {x : Option eb_A} : eb_E L d 217 63 [some (Sum.inr x), v1, v2, v3, v4] (st) M = eb_E L d 217 64 [some (Sum.inr x), v1, v2, v3, v4] (Sum.inr x :: st) M := eb_E_s hk217 rfl
theorem e217_64 {x : Int32} : eb_E L d 217 64 [v0, v1, some (zi x), v3, v4] (st) M = eb_E L d 217 65 [v0, v1, some (zi x), v3, v4] (zi x :: st) M := eb_E_s hk217 rfl
theorem e217_65 {x : Int32} : eb_E L d 217 65 ls (zi x :: Sum.inr (some a) :: st) (nc, ns, I, J, R) = if (eb_ty L a.1).1 = 6 then eb_E L d 217 68 ls (st) (nc, ns, eb_u I a 13 x, J, R) else none := eb_E_iy hk217 rfl
theorem e217_68 {x : Int32} : eb_E L d 217 68 [v0, v1, v2, some (zi x), v4] (st) M = eb_E L d 217 69 [v0, v1, v2, some (zi x), v4] (zi x :: st) M := eb_E_s hk217 rfl
theorem e217_69 {x : Int32} : eb_E L d 217 69 ls ([zi x]) M = some (zi x, M) := eb_E_r hk217 rfl
/-! X6_share -/
theorem hk218 : eb_cd L 218 = eb_look (kt218 L) := rfl
theorem h218 (ha : (eb_ty L a.1).1 = 6) {x1 : Int32} : eb_ev L (d + 1) 218 [zr a, zi x1] M = eb_E L d 218 0 [some (zr a), some (zi x1), none] [] M := eb_ev_s rfl (eb_chk_i ha rfl)
theorem e218_0 {x : Option eb_A} : eb_E L d 218 0 [some (Sum.inr x), v1, v2] (st) M = eb_E L d 218 1 [some (Sum.inr x), v1, v2] (Sum.inr x :: st) M := eb_E_s hk218 rfl
theorem e218_1 {x : Int32} : eb_E L d 218 1 [v0, some (zi x), v2] (st) M = eb_E L d 218 2 [v0, some (zi x), v2] (zi x :: st) M := eb_E_s hk218 rfl
theorem e218_2  : eb_E L d 218 2 ls ([a1, a0]) M = (eb_ev L d 149 [a0, a1] M).bind (fun q => eb_E L d 218 5 ls [q.1] q.2) := eb_E_c hk218 rfl
theorem e218_5 {x : Int32} : eb_E L d 218 5 ls (zi x :: st) M = if x = 0 then eb_E L d 218 8 ls st M else eb_E L d 218 15 ls st M := eb_E_b hk218 rfl
theorem e218_8 {x : Option eb_A} : eb_E L d 218 8 [some (Sum.inr x), v1, v2] (st) M = eb_E L d 218 9 [some (Sum.inr x), v1, v2] (Sum.inr x :: st) M := eb_E_s hk218 rfl
theorem e218_9  : eb_E L d 218 9 ls (st) M = eb_E L d 218 11 ls (zi (-2) :: st) M := eb_E_s hk218 rfl
theorem e218_11  : eb_E L d 218 11 ls ([a1, a0]) M = (eb_ev L d 145 [a0, a1] M).bind (fun q => eb_E L d 218 14 ls [q.1] q.2) := eb_E_c hk218 rfl
theorem e218_14 {x : Int32} : eb_E L d 218 14 ls ([zi x]) M = some (zi x, M) := eb_E_r hk218 rfl
theorem e218_15 {x : Option eb_A} : eb_E L d 218 15 [some (Sum.inr x), v1, v2] (st) M = eb_E L d 218 16 [some (Sum.inr x), v1, v2] (Sum.inr x :: st) M := eb_E_s hk218 rfl
theorem e218_16  : eb_E L d 218 16 ls ([a0]) M = (eb_ev L d 210 [a0] M).bind (fun q => eb_E L d 218 19 ls [q.1] q.2) := eb_E_c hk218 rfl
theorem e218_19 {x : Int32} : eb_E L d 218 19 [v0, v1, v2] (zi x :: st) M = eb_E L d 218 20 [v0, v1, some (zi x)] (st) M := eb_E_s hk218 rfl
theorem e218_20 {x : Int32} : eb_E L d 218 20 [v0, v1, some (zi x)] (st) M = eb_E L d 218 21 [v0, v1, some (zi x)] (zi x :: st) M := eb_E_s hk218 rfl
theorem e218_21  : eb_E L d 218 21 ls (st) M = eb_E L d 218 22 ls (zi (-1) :: st) M := eb_E_s hk218 rfl
theorem e218_22 {x : Int32} {y : Int32} : eb_E L d 218 22 ls (zi y :: zi x :: st) M = if x = y then eb_E L d 218 25 ls st M else eb_E L d 218 32 ls st M := eb_E_b hk218 rfl
theorem e218_25 {x : Option eb_A} : eb_E L d 218 25 [some (Sum.inr x), v1, v2] (st) M = eb_E L d 218 26 [some (Sum.inr x), v1, v2] (Sum.inr x :: st) M := eb_E_s hk218 rfl
theorem e218_26  : eb_E L d 218 26 ls (st) M = eb_E L d 218 28 ls (zi (-5) :: st) M := eb_E_s hk218 rfl
theorem e218_28  : eb_E L d 218 28 ls ([a1, a0]) M = (eb_ev L d 145 [a0, a1] M).bind (fun q => eb_E L d 218 31 ls [q.1] q.2) := eb_E_c hk218 rfl
theorem e218_31 {x : Int32} : eb_E L d 218 31 ls ([zi x]) M = some (zi x, M) := eb_E_r hk218 rfl
theorem e218_32 {x : Option eb_A} : eb_E L d 218 32 [some (Sum.inr x), v1, v2] (st) M = eb_E L d 218 33 [some (Sum.inr x), v1, v2] (Sum.inr x :: st) M := eb_E_s hk218 rfl
theorem e218_33  : eb_E L d 218 33 ls ([a0]) M = (eb_ev L d 197 [a0] M).bind (fun q => eb_E L d 218 36 ls [] q.2) := eb_E_c hk218 rfl
theorem e218_36  : eb_E L d 218 36 ls (st) M = eb_E L d 218 38 ls (zi 100 :: st) M := eb_E_s hk218 rfl
theorem e218_38 {x : Option eb_A} : eb_E L d 218 38 [some (Sum.inr x), v1, v2] (st) M = eb_E L d 218 39 [some (Sum.inr x), v1, v2] (Sum.inr x :: st) M := eb_E_s hk218 rfl
theorem e218_39  : eb_E L d 218 39 ls (Sum.inr (some a) :: st) (nc, ns, I, J, R) = if (eb_ty L a.1).1 = 6 then eb_E L d 218 42 ls (Sum.inr (R a 25) :: st) (nc, ns, I, J, R) else none := eb_E_iy hk218 rfl
theorem e218_42 {x : Int32} : eb_E L d 218 42 [v0, some (zi x), v2] (st) M = eb_E L d 218 43 [v0, some (zi x), v2] (zi x :: st) M := eb_E_s hk218 rfl
theorem e218_43 {x : Int32} : eb_E L d 218 43 ls (zi x :: Sum.inr (some a) :: st) (nc, ns, I, J, R) = if (12 ≤ (eb_ty L a.1).1 ∧ (eb_ty L a.1).1 ≤ 16) ∧ eb_in x (eb_ty L a.1).2 = true then eb_E L d 218 44 ls (Sum.inr (R a x.toNatClampNeg) :: st) (nc, ns, I, J, R) else none := eb_E_iy hk218 rfl
theorem e218_44 {x : Int32} : eb_E L d 218 44 [v0, v1, some (zi x)] (st) M = eb_E L d 218 45 [v0, v1, some (zi x)] (zi x :: st) M := eb_E_s hk218 rfl
theorem e218_45 {x : Int32} : eb_E L d 218 45 ls (zi x :: Sum.inr (some a) :: st) (nc, ns, I, J, R) = if (eb_ty L a.1).1 = 10 ∧ eb_in x (eb_ty L a.1).2 = true then eb_E L d 218 46 ls (zi (I a x.toNatClampNeg) :: st) (nc, ns, I, J, R) else none := eb_E_iy hk218 rfl
theorem e218_46 {x : Int32} {y : Int32} : eb_E L d 218 46 ls (zi y :: zi x :: st) M = eb_E L d 218 47 ls (zi (x * y) :: st) M := eb_E_s hk218 rfl
theorem e218_47 {x : Option eb_A} : eb_E L d 218 47 [some (Sum.inr x), v1, v2] (st) M = eb_E L d 218 48 [some (Sum.inr x), v1, v2] (Sum.inr x :: st) M := eb_E_s hk218 rfl
theorem e218_48  : eb_E L d 218 48 ls (Sum.inr (some a) :: st) (nc, ns, I, J, R) = if (eb_ty L a.1).1 = 6 then eb_E L d 218 51 ls (Sum.inr (R a 12) :: st) (nc, ns, I, J, R) else none := eb_E_iy hk218 rfl
theorem e218_51 {x : Int32} : eb_E L d 218 51 [v0, some (zi x), v2] (st) M = eb_E L d 218 52 [v0, some (zi x), v2] (zi x :: st) M := eb_E_s hk218 rfl
theorem e218_52 {x : Int32} : eb_E L d 218 52 ls (zi x :: Sum.inr (some a) :: st) (nc, ns, I, J, R) = if (12 ≤ (eb_ty L a.1).1 ∧ (eb_ty L a.1).1 ≤ 16) ∧ eb_in x (eb_ty L a.1).2 = true then eb_E L d 218 53 ls (Sum.inr (R a x.toNatClampNeg) :: st) (nc, ns, I, J, R) else none := eb_E_iy hk218 rfl
theorem e218_53  : eb_E L d 218 53 ls (st) M = eb_E L d 218 54 ls (zi 1 :: st) M := eb_E_s hk218 rfl
theorem e218_54 {x : Int32} : eb_E L d 218 54 ls (zi x :: Sum.inr (some a) :: st) (nc, ns, I, J, R) = if (eb_ty L a.1).1 = 10 ∧ eb_in x (eb_ty L a.1).2 = true then eb_E L d 218 55 ls (zi (I a x.toNatClampNeg) :: st) (nc, ns, I, J, R) else none := eb_E_iy hk218 rfl
theorem e218_55 {x : Int32} {y : Int32} : eb_E L d 218 55 ls (zi y :: zi x :: st) M = if y = 0 then none else eb_E L d 218 56 ls (zi (x / y) :: st) M := eb_E_in hk218 rfl
theorem e218_56 {x : Int32} : eb_E L d 218 56 ls ([zi x]) M = some (zi x, M) := eb_E_r hk218 rfl
/-! X6_nine -/
theorem hk219 : eb_cd L 219 = eb_look (kt219 L) := rfl
theorem h219 (ha : (eb_ty L a.1).1 = 6) {x1 : Int32} {x2 : Int32} {x3 : Int32} : eb_ev L (d + 1) 219 [zr a, zi x1, zi x2, zi x3] M = eb_E L d 219 0 [some (zr a), some (zi x1), some (zi x2), some (zi x3)] [] M := eb_ev_s rfl (eb_chk_i ha rfl)
theorem e219_0 {x : Option eb_A} : eb_E L d 219 0 [some (Sum.inr x), v1, v2, v3] (st) M = eb_E L d 219 1 [some (Sum.inr x), v1, v2, v3] (Sum.inr x :: st) M := eb_E_s hk219 rfl
theorem e219_1 {x : Int32} : eb_E L d 219 1 [v0, some (zi x), v2, v3] (st) M = eb_E L d 219 2 [v0, some (zi x), v2, v3] (zi x :: st) M := eb_E_s hk219 rfl
theorem e219_2  : eb_E L d 219 2 ls ([a1, a0]) M = (eb_ev L d 148 [a0, a1] M).bind (fun q => eb_E L d 219 5 ls [q.1] q.2) := eb_E_c hk219 rfl
theorem e219_5 {x : Int32} : eb_E L d 219 5 ls (zi x :: st) M = if x = 0 then eb_E L d 219 32 ls st M else eb_E L d 219 8 ls st M := eb_E_b hk219 rfl
theorem e219_8 {x : Int32} : eb_E L d 219 8 [v0, v1, some (zi x), v3] (st) M = eb_E L d 219 9 [v0, v1, some (zi x), v3] (zi x :: st) M := eb_E_s hk219 rfl
theorem e219_9 {x : Int32} : eb_E L d 219 9 ls (zi x :: st) M = eb_E L d 219 10 ls (zl x.toInt64 :: st) M := eb_E_s hk219 rfl
theorem e219_10  : eb_E L d 219 10 ls (st) M = eb_E L d 219 11 ls (zl 1 :: st) M := eb_E_s hk219 rfl
theorem e219_11  : eb_E L d 219 11 ls (st) M = eb_E L d 219 14 ls (zl 40 :: st) M := eb_E_s hk219 rfl
theorem e219_14  : eb_E L d 219 14 ls ([a2, a1, a0]) M = (eb_ev L d 146 [a0, a1, a2] M).bind (fun q => eb_E L d 219 17 ls [q.1] q.2) := eb_E_c hk219 rfl
theorem e219_17 {x : Int32} : eb_E L d 219 17 ls (zi x :: st) M = if x = 0 then eb_E L d 219 32 ls st M else eb_E L d 219 20 ls st M := eb_E_b hk219 rfl
theorem e219_20 {x : Int32} : eb_E L d 219 20 [v0, v1, v2, some (zi x)] (st) M = eb_E L d 219 21 [v0, v1, v2, some (zi x)] (zi x :: st) M := eb_E_s hk219 rfl
theorem e219_21 {x : Int32} : eb_E L d 219 21 ls (zi x :: st) M = eb_E L d 219 22 ls (zl x.toInt64 :: st) M := eb_E_s hk219 rfl
theorem e219_22  : eb_E L d 219 22 ls (st) M = eb_E L d 219 23 ls (zl 0 :: st) M := eb_E_s hk219 rfl
theorem e219_23  : eb_E L d 219 23 ls (st) M = eb_E L d 219 26 ls (zl 100 :: st) M := eb_E_s hk219 rfl
theorem e219_26  : eb_E L d 219 26 ls ([a2, a1, a0]) M = (eb_ev L d 146 [a0, a1, a2] M).bind (fun q => eb_E L d 219 29 ls [q.1] q.2) := eb_E_c hk219 rfl
theorem e219_29 {x : Int32} : eb_E L d 219 29 ls (zi x :: st) M = if x = 0 then eb_E L d 219 32 ls st M else eb_E L d 219 42 ls st M := eb_E_b hk219 rfl
theorem e219_32  : eb_E L d 219 32 ls (st) M = eb_E L d 219 34 ls (zi (-1000000) :: st) M := eb_E_s hk219 rfl
theorem e219_34 {x : Option eb_A} : eb_E L d 219 34 [some (Sum.inr x), v1, v2, v3] (st) M = eb_E L d 219 35 [some (Sum.inr x), v1, v2, v3] (Sum.inr x :: st) M := eb_E_s hk219 rfl
theorem e219_35  : eb_E L d 219 35 ls (st) M = eb_E L d 219 37 ls (zi (-2) :: st) M := eb_E_s hk219 rfl
theorem e219_37 {s0 : Int32} : eb_E L d 219 37 ls ([a1, a0, zi s0]) M = (eb_ev L d 145 [a0, a1] M).bind (fun q => eb_E L d 219 40 ls [q.1, zi s0] q.2) := eb_E_c hk219 rfl
theorem e219_40 {x : Int32} {y : Int32} : eb_E L d 219 40 ls (zi y :: zi x :: st) M = eb_E L d 219 41 ls (zi (x + y) :: st) M := eb_E_s hk219 rfl
theorem e219_41 {x : Int32} : eb_E L d 219 41 ls ([zi x]) M = some (zi x, M) := eb_E_r hk219 rfl
theorem e219_42 {x : Option eb_A} : eb_E L d 219 42 [some (Sum.inr x), v1, v2, v3] (st) M = eb_E L d 219 43 [some (Sum.inr x), v1, v2, v3] (Sum.inr x :: st) M := eb_E_s hk219 rfl
theorem e219_43  : eb_E L d 219 43 ls (Sum.inr (some a) :: st) (nc, ns, I, J, R) = if (eb_ty L a.1).1 = 6 then eb_E L d 219 46 ls (Sum.inr (R a 10) :: st) (nc, ns, I, J, R) else none := eb_E_iy hk219 rfl
theorem e219_46 {x : Int32} : eb_E L d 219 46 [v0, some (zi x), v2, v3] (st) M = eb_E L d 219 47 [v0, some (zi x), v2, v3] (zi x :: st) M := eb_E_s hk219 rfl
theorem e219_47 {x : Int32} : eb_E L d 219 47 ls (zi x :: Sum.inr (some a) :: st) (nc, ns, I, J, R) = if (12 ≤ (eb_ty L a.1).1 ∧ (eb_ty L a.1).1 ≤ 16) ∧ eb_in x (eb_ty L a.1).2 = true then eb_E L d 219 48 ls (Sum.inr (R a x.toNatClampNeg) :: st) (nc, ns, I, J, R) else none := eb_E_iy hk219 rfl
theorem e219_48  : eb_E L d 219 48 ls (st) M = eb_E L d 219 50 ls (zi 6 :: st) M := eb_E_s hk219 rfl
theorem e219_50 {x : Int32} : eb_E L d 219 50 ls (zi x :: Sum.inr (some a) :: st) (nc, ns, I, J, R) = if (eb_ty L a.1).1 = 10 ∧ eb_in x (eb_ty L a.1).2 = true then eb_E L d 219 51 ls (zi (I a x.toNatClampNeg) :: st) (nc, ns, I, J, R) else none := eb_E_iy hk219 rfl
theorem e219_51 {x : Int32} : eb_E L d 219 51 [v0, v1, some (zi x), v3] (st) M = eb_E L d 219 52 [v0, v1, some (zi x), v3] (zi x :: st) M := eb_E_s hk219 rfl
theorem e219_52 {x : Int32} : eb_E L d 219 52 [v0, v1, v2, some (zi x)] (st) M = eb_E L d 219 53 [v0, v1, v2, some (zi x)] (zi x :: st) M := eb_E_s hk219 rfl
theorem e219_53 {x : Int32} {y : Int32} : eb_E L d 219 53 ls (zi y :: zi x :: st) M = eb_E L d 219 54 ls (zi (x * y) :: st) M := eb_E_s hk219 rfl
theorem e219_54 {x : Int32} {y : Int32} : eb_E L d 219 54 ls (zi y :: zi x :: st) M = eb_E L d 219 55 ls (zi (x + y) :: st) M := eb_E_s hk219 rfl
theorem e219_55 {x : Option eb_A} : eb_E L d 219 55 [some (Sum.inr x), v1, v2, v3] (st) M = eb_E L d 219 56 [some (Sum.inr x), v1, v2, v3] (Sum.inr x :: st) M := eb_E_s hk219 rfl
theorem e219_56  : eb_E L d 219 56 ls (Sum.inr (some a) :: st) (nc, ns, I, J, R) = if (eb_ty L a.1).1 = 6 then eb_E L d 219 59 ls (Sum.inr (R a 10) :: st) (nc, ns, I, J, R) else none := eb_E_iy hk219 rfl
theorem e219_59 {x : Int32} : eb_E L d 219 59 [v0, some (zi x), v2, v3] (st) M = eb_E L d 219 60 [v0, some (zi x), v2, v3] (zi x :: st) M := eb_E_s hk219 rfl
theorem e219_60 {x : Int32} : eb_E L d 219 60 ls (zi x :: Sum.inr (some a) :: st) (nc, ns, I, J, R) = if (12 ≤ (eb_ty L a.1).1 ∧ (eb_ty L a.1).1 ≤ 16) ∧ eb_in x (eb_ty L a.1).2 = true then eb_E L d 219 61 ls (Sum.inr (R a x.toNatClampNeg) :: st) (nc, ns, I, J, R) else none := eb_E_iy hk219 rfl
theorem e219_61  : eb_E L d 219 61 ls (st) M = eb_E L d 219 62 ls (zi 5 :: st) M := eb_E_s hk219 rfl
theorem e219_62 {x : Int32} : eb_E L d 219 62 ls (zi x :: Sum.inr (some a) :: st) (nc, ns, I, J, R) = if (eb_ty L a.1).1 = 10 ∧ eb_in x (eb_ty L a.1).2 = true then eb_E L d 219 63 ls (zi (I a x.toNatClampNeg) :: st) (nc, ns, I, J, R) else none := eb_E_iy hk219 rfl
theorem e219_63 {x : Int32} : eb_E L d 219 63 [v0, v1, some (zi x), v3] (st) M = eb_E L d 219 64 [v0, v1, some (zi x), v3] (zi x :: st) M := eb_E_s hk219 rfl
theorem e219_64 {x : Int32} {y : Int32} : eb_E L d 219 64 ls (zi y :: zi x :: st) M = eb_E L d 219 65 ls (zi (x + y) :: st) M := eb_E_s hk219 rfl
theorem e219_65 {x : Int32} {y : Int32} : eb_E L d 219 65 ls (zi y :: zi x :: st) M = if y = 0 then none else eb_E L d 219 66 ls (zi (x / y) :: st) M := eb_E_in hk219 rfl
theorem e219_66 {x : Option eb_A} : eb_E L d 219 66 [some (Sum.inr x), v1, v2, v3] (st) M = eb_E L d 219 67 [some (Sum.inr x), v1, v2, v3] (Sum.inr x :: st) M := eb_E_s hk219 rfl
theorem e219_67  : eb_E L d 219 67 ls (Sum.inr (some a) :: st) (nc, ns, I, J, R) = if (eb_ty L a.1).1 = 6 then eb_E L d 219 70 ls (Sum.inr (R a 10) :: st) (nc, ns, I, J, R) else none := eb_E_iy hk219 rfl
theorem e219_70 {x : Int32} : eb_E L d 219 70 [v0, some (zi x), v2, v3] (st) M = eb_E L d 219 71 [v0, some (zi x), v2, v3] (zi x :: st) M := eb_E_s hk219 rfl
theorem e219_71 {x : Int32} : eb_E L d 219 71 ls (zi x :: Sum.inr (some a) :: st) (nc, ns, I, J, R) = if (12 ≤ (eb_ty L a.1).1 ∧ (eb_ty L a.1).1 ≤ 16) ∧ eb_in x (eb_ty L a.1).2 = true then eb_E L d 219 72 ls (Sum.inr (R a x.toNatClampNeg) :: st) (nc, ns, I, J, R) else none := eb_E_iy hk219 rfl
theorem e219_72  : eb_E L d 219 72 ls (st) M = eb_E L d 219 73 ls (zi 0 :: st) M := eb_E_s hk219 rfl
theorem e219_73 {x : Int32} : eb_E L d 219 73 ls (zi x :: Sum.inr (some a) :: st) (nc, ns, I, J, R) = if (eb_ty L a.1).1 = 10 ∧ eb_in x (eb_ty L a.1).2 = true then eb_E L d 219 74 ls (zi (I a x.toNatClampNeg) :: st) (nc, ns, I, J, R) else none := eb_E_iy hk219 rfl
theorem e219_74 {x : Int32} {y : Int32} : eb_E L d 219 74 ls (zi y :: zi x :: st) M = eb_E L d 219 75 ls (zi (x - y) :: st) M := eb_E_s hk219 rfl
theorem e219_75 {x : Int32} : eb_E L d 219 75 ls ([zi x]) M = some (zi x, M) := eb_E_r hk219 rfl
/-! X6_two -/
theorem hk220 : eb_cd L 220 = eb_look (kt220 L) := rfl
theorem h220 (ha : (eb_ty L a.1).1 = 6) {x1 : Int32} {x2 : Int32} : eb_ev L (d + 1) 220 [zr a, zi x1, zi x2] M = eb_E L d 220 0 [some (zr a), some (zi x1), some (zi x2), none, none, none, none] [] M := eb_ev_s rfl (eb_chk_i ha rfl)
theorem e220_0 {x : Option eb_A} : eb_E L d 220 0 [some (Sum.inr x), v1, v2, v3, v4, v5, v6] (st) M = eb_E L d 220 1 [some (Sum.inr x), v1, v2, v3, v4, v5, v6] (Sum.inr x :: st) M := eb_E_s hk220 rfl
theorem e220_1 {x : Int32} : eb_E L d 220 1 [v0, some (zi x), v2, v3, v4, v5, v6] (st) M = eb_E L d 220 2 [v0, some (zi x), v2, v3, v4, v5, v6] (zi x :: st) M := eb_E_s hk220 rfl
theorem e220_2  : eb_E L d 220 2 ls ([a1, a0]) M = (eb_ev L d 167 [a0, a1] M).bind (fun q => eb_E L d 220 5 ls [q.1] q.2) := eb_E_c hk220 rfl
theorem e220_5 {x : Int32} : eb_E L d 220 5 ls (zi x :: st) M = if x = 0 then eb_E L d 220 16 ls st M else eb_E L d 220 8 ls st M := eb_E_b hk220 rfl
theorem e220_8 {x : Option eb_A} : eb_E L d 220 8 [some (Sum.inr x), v1, v2, v3, v4, v5, v6] (st) M = eb_E L d 220 9 [some (Sum.inr x), v1, v2, v3, v4, v5, v6] (Sum.inr x :: st) M := eb_E_s hk220 rfl
theorem e220_9 {x : Int32} : eb_E L d 220 9 [v0, v1, some (zi x), v3, v4, v5, v6] (st) M = eb_E L d 220 10 [v0, v1, some (zi x), v3, v4, v5, v6] (zi x :: st) M := eb_E_s hk220 rfl
theorem e220_10  : eb_E L d 220 10 ls ([a1, a0]) M = (eb_ev L d 167 [a0, a1] M).bind (fun q => eb_E L d 220 13 ls [q.1] q.2) := eb_E_c hk220 rfl
theorem e220_13 {x : Int32} : eb_E L d 220 13 ls (zi x :: st) M = if x = 0 then eb_E L d 220 16 ls st M else eb_E L d 220 26 ls st M := eb_E_b hk220 rfl
theorem e220_16  : eb_E L d 220 16 ls (st) M = eb_E L d 220 18 ls (zi (-1000000) :: st) M := eb_E_s hk220 rfl
theorem e220_18 {x : Option eb_A} : eb_E L d 220 18 [some (Sum.inr x), v1, v2, v3, v4, v5, v6] (st) M = eb_E L d 220 19 [some (Sum.inr x), v1, v2, v3, v4, v5, v6] (Sum.inr x :: st) M := eb_E_s hk220 rfl
theorem e220_19  : eb_E L d 220 19 ls (st) M = eb_E L d 220 21 ls (zi (-2) :: st) M := eb_E_s hk220 rfl
theorem e220_21 {s0 : Int32} : eb_E L d 220 21 ls ([a1, a0, zi s0]) M = (eb_ev L d 145 [a0, a1] M).bind (fun q => eb_E L d 220 24 ls [q.1, zi s0] q.2) := eb_E_c hk220 rfl
theorem e220_24 {x : Int32} {y : Int32} : eb_E L d 220 24 ls (zi y :: zi x :: st) M = eb_E L d 220 25 ls (zi (x + y) :: st) M := eb_E_s hk220 rfl
theorem e220_25 {x : Int32} : eb_E L d 220 25 ls ([zi x]) M = some (zi x, M) := eb_E_r hk220 rfl
theorem e220_26 {x : Option eb_A} : eb_E L d 220 26 [some (Sum.inr x), v1, v2, v3, v4, v5, v6] (st) M = eb_E L d 220 27 [some (Sum.inr x), v1, v2, v3, v4, v5, v6] (Sum.inr x :: st) M := eb_E_s hk220 rfl
theorem e220_27  : eb_E L d 220 27 ls ([a0]) M = (eb_ev L d 246 [a0] M).bind (fun q => eb_E L d 220 30 ls [q.1] q.2) := eb_E_c hk220 rfl
theorem e220_30 {x : Option eb_A} : eb_E L d 220 30 [v0, v1, v2, v3, v4, v5, v6] (Sum.inr x :: st) M = eb_E L d 220 31 [v0, v1, v2, some (Sum.inr x), v4, v5, v6] (st) M := eb_E_s hk220 rfl
theorem e220_31 {x : Option eb_A} : eb_E L d 220 31 [v0, v1, v2, some (Sum.inr x), v4, v5, v6] (st) M = eb_E L d 220 32 [v0, v1, v2, some (Sum.inr x), v4, v5, v6] (Sum.inr x :: st) M := eb_E_s hk220 rfl
theorem e220_32  : eb_E L d 220 32 ls (st) M = eb_E L d 220 33 ls (zi 0 :: st) M := eb_E_s hk220 rfl
theorem e220_33 {x : Int32} : eb_E L d 220 33 ls (zi x :: Sum.inr (some a) :: st) (nc, ns, I, J, R) = if (eb_ty L a.1).1 = 6 then eb_E L d 220 36 ls (st) (nc, ns, eb_u I a 13 x, J, R) else none := eb_E_iy hk220 rfl
theorem e220_36 {x : Option eb_A} : eb_E L d 220 36 [v0, v1, v2, some (Sum.inr x), v4, v5, v6] (st) M = eb_E L d 220 37 [v0, v1, v2, some (Sum.inr x), v4, v5, v6] (Sum.inr x :: st) M := eb_E_s hk220 rfl
theorem e220_37  : eb_E L d 220 37 ls ([a0]) M = (eb_ev L d 195 [a0] M).bind (fun q => eb_E L d 220 40 ls [] q.2) := eb_E_c hk220 rfl
theorem e220_40  : eb_E L d 220 40 ls (st) M = eb_E L d 220 41 ls (zi 0 :: st) M := eb_E_s hk220 rfl
theorem e220_41 {x : Int32} : eb_E L d 220 41 [v0, v1, v2, v3, v4, v5, v6] (zi x :: st) M = eb_E L d 220 43 [v0, v1, v2, v3, some (zi x), v5, v6] (st) M := eb_E_s hk220 rfl
theorem e220_43 {x : Int32} : eb_E L d 220 43 [v0, v1, v2, v3, some (zi x), v5, v6] (st) M = eb_E L d 220 45 [v0, v1, v2, v3, some (zi x), v5, v6] (zi x :: st) M := eb_E_s hk220 rfl
theorem e220_45  : eb_E L d 220 45 ls (st) M = eb_E L d 220 46 ls (zi 2 :: st) M := eb_E_s hk220 rfl
theorem e220_46 {x : Int32} {y : Int32} : eb_E L d 220 46 ls (zi y :: zi x :: st) M = if x < y then eb_E L d 220 49 ls st M else eb_E L d 220 167 ls st M := eb_E_b hk220 rfl
theorem e220_49  : eb_E L d 220 49 ls (st) M = eb_E L d 220 50 ls (zi 0 :: st) M := eb_E_s hk220 rfl
theorem e220_50 {x : Int32} : eb_E L d 220 50 [v0, v1, v2, v3, v4, v5, v6] (zi x :: st) M = eb_E L d 220 52 [v0, v1, v2, v3, v4, some (zi x), v6] (st) M := eb_E_s hk220 rfl
theorem e220_52 {x : Int32} : eb_E L d 220 52 [v0, v1, v2, v3, v4, some (zi x), v6] (st) M = eb_E L d 220 54 [v0, v1, v2, v3, v4, some (zi x), v6] (zi x :: st) M := eb_E_s hk220 rfl
theorem e220_54 {x : Option eb_A} : eb_E L d 220 54 [some (Sum.inr x), v1, v2, v3, v4, v5, v6] (st) M = eb_E L d 220 55 [some (Sum.inr x), v1, v2, v3, v4, v5, v6] (Sum.inr x :: st) M := eb_E_s hk220 rfl
theorem e220_55  : eb_E L d 220 55 ls (Sum.inr (some a) :: st) (nc, ns, I, J, R) = if (eb_ty L a.1).1 = 6 then eb_E L d 220 58 ls (zi (I a 11) :: st) (nc, ns, I, J, R) else none := eb_E_iy hk220 rfl
theorem e220_58 {x : Int32} {y : Int32} : eb_E L d 220 58 ls (zi y :: zi x :: st) M = if x < y then eb_E L d 220 61 ls st M else eb_E L d 220 161 ls st M := eb_E_b hk220 rfl
theorem e220_61 {x : Option eb_A} : eb_E L d 220 61 [some (Sum.inr x), v1, v2, v3, v4, v5, v6] (st) M = eb_E L d 220 62 [some (Sum.inr x), v1, v2, v3, v4, v5, v6] (Sum.inr x :: st) M := eb_E_s hk220 rfl
theorem e220_62  : eb_E L d 220 62 ls (Sum.inr (some a) :: st) (nc, ns, I, J, R) = if (eb_ty L a.1).1 = 6 then eb_E L d 220 65 ls (Sum.inr (R a 12) :: st) (nc, ns, I, J, R) else none := eb_E_iy hk220 rfl
theorem e220_65 {x : Int32} : eb_E L d 220 65 [v0, v1, v2, v3, v4, some (zi x), v6] (st) M = eb_E L d 220 67 [v0, v1, v2, v3, v4, some (zi x), v6] (zi x :: st) M := eb_E_s hk220 rfl
theorem e220_67 {x : Int32} : eb_E L d 220 67 ls (zi x :: Sum.inr (some a) :: st) (nc, ns, I, J, R) = if (12 ≤ (eb_ty L a.1).1 ∧ (eb_ty L a.1).1 ≤ 16) ∧ eb_in x (eb_ty L a.1).2 = true then eb_E L d 220 68 ls (Sum.inr (R a x.toNatClampNeg) :: st) (nc, ns, I, J, R) else none := eb_E_iy hk220 rfl
theorem e220_68  : eb_E L d 220 68 ls (st) M = eb_E L d 220 69 ls (zi 0 :: st) M := eb_E_s hk220 rfl
theorem e220_69 {x : Int32} : eb_E L d 220 69 ls (zi x :: Sum.inr (some a) :: st) (nc, ns, I, J, R) = if (eb_ty L a.1).1 = 10 ∧ eb_in x (eb_ty L a.1).2 = true then eb_E L d 220 70 ls (zi (I a x.toNatClampNeg) :: st) (nc, ns, I, J, R) else none := eb_E_iy hk220 rfl
theorem e220_70  : eb_E L d 220 70 ls (st) M = eb_E L d 220 71 ls (zi 5 :: st) M := eb_E_s hk220 rfl
theorem e220_71 {x : Int32} {y : Int32} : eb_E L d 220 71 ls (zi y :: zi x :: st) M = if x = y then eb_E L d 220 74 ls st M else eb_E L d 220 78 ls st M := eb_E_b hk220 rfl
theorem e220_74  : eb_E L d 220 74 ls (st) M = eb_E L d 220 75 ls (zi 1 :: st) M := eb_E_s hk220 rfl
theorem e220_75  : eb_E L d 220 75 ls (st) M = eb_E L d 220 79 ls (st) M := eb_E_s hk220 rfl
theorem e220_78  : eb_E L d 220 78 ls (st) M = eb_E L d 220 79 ls (zi 0 :: st) M := eb_E_s hk220 rfl
theorem e220_79 {x : Int32} : eb_E L d 220 79 [v0, v1, v2, v3, some (zi x), v5, v6] (st) M = eb_E L d 220 81 [v0, v1, v2, v3, some (zi x), v5, v6] (zi x :: st) M := eb_E_s hk220 rfl
theorem e220_81  : eb_E L d 220 81 ls (st) M = eb_E L d 220 82 ls (zi 1 :: st) M := eb_E_s hk220 rfl
theorem e220_82 {x : Int32} {y : Int32} : eb_E L d 220 82 ls (zi y :: zi x :: st) M = if x = y then eb_E L d 220 85 ls st M else eb_E L d 220 89 ls st M := eb_E_b hk220 rfl
theorem e220_85  : eb_E L d 220 85 ls (st) M = eb_E L d 220 86 ls (zi 1 :: st) M := eb_E_s hk220 rfl
theorem e220_86  : eb_E L d 220 86 ls (st) M = eb_E L d 220 90 ls (st) M := eb_E_s hk220 rfl
theorem e220_89  : eb_E L d 220 89 ls (st) M = eb_E L d 220 90 ls (zi 0 :: st) M := eb_E_s hk220 rfl
theorem e220_90 {x : Int32} {y : Int32} : eb_E L d 220 90 ls (zi y :: zi x :: st) M = if x = y then eb_E L d 220 93 ls st M else eb_E L d 220 155 ls st M := eb_E_b hk220 rfl
theorem e220_93 {x : Option eb_A} : eb_E L d 220 93 [some (Sum.inr x), v1, v2, v3, v4, v5, v6] (st) M = eb_E L d 220 94 [some (Sum.inr x), v1, v2, v3, v4, v5, v6] (Sum.inr x :: st) M := eb_E_s hk220 rfl
theorem e220_94 {x : Int32} : eb_E L d 220 94 [v0, v1, v2, v3, v4, some (zi x), v6] (st) M = eb_E L d 220 96 [v0, v1, v2, v3, v4, some (zi x), v6] (zi x :: st) M := eb_E_s hk220 rfl
theorem e220_96  : eb_E L d 220 96 ls ([a1, a0]) M = (eb_ev L d 207 [a0, a1] M).bind (fun q => eb_E L d 220 99 ls [q.1] q.2) := eb_E_c hk220 rfl
theorem e220_99 {x : Int32} : eb_E L d 220 99 ls (zi x :: st) M = if x = 0 then eb_E L d 220 116 ls st M else eb_E L d 220 102 ls st M := eb_E_b hk220 rfl
theorem e220_102 {x : Option eb_A} : eb_E L d 220 102 [some (Sum.inr x), v1, v2, v3, v4, v5, v6] (st) M = eb_E L d 220 103 [some (Sum.inr x), v1, v2, v3, v4, v5, v6] (Sum.inr x :: st) M := eb_E_s hk220 rfl
theorem e220_103  : eb_E L d 220 103 ls (Sum.inr (some a) :: st) (nc, ns, I, J, R) = if (eb_ty L a.1).1 = 6 then eb_E L d 220 106 ls (Sum.inr (R a 12) :: st) (nc, ns, I, J, R) else none := eb_E_iy hk220 rfl
theorem e220_106 {x : Int32} : eb_E L d 220 106 [v0, v1, v2, v3, v4, some (zi x), v6] (st) M = eb_E L d 220 108 [v0, v1, v2, v3, v4, some (zi x), v6] (zi x :: st) M := eb_E_s hk220 rfl
theorem e220_108 {x : Int32} : eb_E L d 220 108 ls (zi x :: Sum.inr (some a) :: st) (nc, ns, I, J, R) = if (12 ≤ (eb_ty L a.1).1 ∧ (eb_ty L a.1).1 ≤ 16) ∧ eb_in x (eb_ty L a.1).2 = true then eb_E L d 220 109 ls (Sum.inr (R a x.toNatClampNeg) :: st) (nc, ns, I, J, R) else none := eb_E_iy hk220 rfl
theorem e220_109  : eb_E L d 220 109 ls (st) M = eb_E L d 220 110 ls (zi 1 :: st) M := eb_E_s hk220 rfl
theorem e220_110 {x : Int32} : eb_E L d 220 110 ls (zi x :: Sum.inr (some a) :: st) (nc, ns, I, J, R) = if (eb_ty L a.1).1 = 10 ∧ eb_in x (eb_ty L a.1).2 = true then eb_E L d 220 111 ls (zi (I a x.toNatClampNeg) :: st) (nc, ns, I, J, R) else none := eb_E_iy hk220 rfl
theorem e220_111  : eb_E L d 220 111 ls (st) M = eb_E L d 220 112 ls (zi 2 :: st) M := eb_E_s hk220 rfl
theorem e220_112 {x : Int32} {y : Int32} : eb_E L d 220 112 ls (zi y :: zi x :: st) M = if y = 0 then none else eb_E L d 220 113 ls (zi (x / y) :: st) M := eb_E_in hk220 rfl
theorem e220_113  : eb_E L d 220 113 ls (st) M = eb_E L d 220 117 ls (st) M := eb_E_s hk220 rfl
theorem e220_116  : eb_E L d 220 116 ls (st) M = eb_E L d 220 117 ls (zi 0 :: st) M := eb_E_s hk220 rfl
theorem e220_117 {x : Int32} : eb_E L d 220 117 [v0, v1, v2, v3, v4, v5, v6] (zi x :: st) M = eb_E L d 220 119 [v0, v1, v2, v3, v4, v5, some (zi x)] (st) M := eb_E_s hk220 rfl
theorem e220_119 {x : Option eb_A} : eb_E L d 220 119 [v0, v1, v2, some (Sum.inr x), v4, v5, v6] (st) M = eb_E L d 220 120 [v0, v1, v2, some (Sum.inr x), v4, v5, v6] (Sum.inr x :: st) M := eb_E_s hk220 rfl
theorem e220_120 {x : Int32} : eb_E L d 220 120 [v0, some (zi x), v2, v3, v4, v5, v6] (st) M = eb_E L d 220 121 [v0, some (zi x), v2, v3, v4, v5, v6] (zi x :: st) M := eb_E_s hk220 rfl
theorem e220_121  : eb_E L d 220 121 ls ([a1, a0]) M = (eb_ev L d 221 [a0, a1] M).bind (fun q => eb_E L d 220 124 ls [] q.2) := eb_E_c hk220 rfl
theorem e220_124 {x : Option eb_A} : eb_E L d 220 124 [v0, v1, v2, some (Sum.inr x), v4, v5, v6] (st) M = eb_E L d 220 125 [v0, v1, v2, some (Sum.inr x), v4, v5, v6] (Sum.inr x :: st) M := eb_E_s hk220 rfl
theorem e220_125 {x : Int32} : eb_E L d 220 125 [v0, v1, v2, v3, v4, some (zi x), v6] (st) M = eb_E L d 220 127 [v0, v1, v2, v3, v4, some (zi x), v6] (zi x :: st) M := eb_E_s hk220 rfl
theorem e220_127 {x : Option eb_A} : eb_E L d 220 127 [some (Sum.inr x), v1, v2, v3, v4, v5, v6] (st) M = eb_E L d 220 128 [some (Sum.inr x), v1, v2, v3, v4, v5, v6] (Sum.inr x :: st) M := eb_E_s hk220 rfl
theorem e220_128  : eb_E L d 220 128 ls (Sum.inr (some a) :: st) (nc, ns, I, J, R) = if (eb_ty L a.1).1 = 6 then eb_E L d 220 131 ls (Sum.inr (R a 12) :: st) (nc, ns, I, J, R) else none := eb_E_iy hk220 rfl
theorem e220_131 {x : Int32} : eb_E L d 220 131 [v0, v1, v2, v3, v4, some (zi x), v6] (st) M = eb_E L d 220 133 [v0, v1, v2, v3, v4, some (zi x), v6] (zi x :: st) M := eb_E_s hk220 rfl
theorem e220_133 {x : Int32} : eb_E L d 220 133 ls (zi x :: Sum.inr (some a) :: st) (nc, ns, I, J, R) = if (12 ≤ (eb_ty L a.1).1 ∧ (eb_ty L a.1).1 ≤ 16) ∧ eb_in x (eb_ty L a.1).2 = true then eb_E L d 220 134 ls (Sum.inr (R a x.toNatClampNeg) :: st) (nc, ns, I, J, R) else none := eb_E_iy hk220 rfl
theorem e220_134  : eb_E L d 220 134 ls (st) M = eb_E L d 220 135 ls (zi 1 :: st) M := eb_E_s hk220 rfl
theorem e220_135 {x : Int32} : eb_E L d 220 135 ls (zi x :: Sum.inr (some a) :: st) (nc, ns, I, J, R) = if (eb_ty L a.1).1 = 10 ∧ eb_in x (eb_ty L a.1).2 = true then eb_E L d 220 136 ls (zi (I a x.toNatClampNeg) :: st) (nc, ns, I, J, R) else none := eb_E_iy hk220 rfl
theorem e220_136 {x : Int32} : eb_E L d 220 136 [v0, v1, v2, v3, v4, v5, some (zi x)] (st) M = eb_E L d 220 138 [v0, v1, v2, v3, v4, v5, some (zi x)] (zi x :: st) M := eb_E_s hk220 rfl
theorem e220_138 {x : Int32} {y : Int32} : eb_E L d 220 138 ls (zi y :: zi x :: st) M = eb_E L d 220 139 ls (zi (x - y) :: st) M := eb_E_s hk220 rfl
theorem e220_139  : eb_E L d 220 139 ls ([a2, a1, a0]) M = (eb_ev L d 196 [a0, a1, a2] M).bind (fun q => eb_E L d 220 142 ls [] q.2) := eb_E_c hk220 rfl
theorem e220_142 {x : Option eb_A} : eb_E L d 220 142 [v0, v1, v2, some (Sum.inr x), v4, v5, v6] (st) M = eb_E L d 220 143 [v0, v1, v2, some (Sum.inr x), v4, v5, v6] (Sum.inr x :: st) M := eb_E_s hk220 rfl
theorem e220_143 {x : Int32} : eb_E L d 220 143 [v0, v1, some (zi x), v3, v4, v5, v6] (st) M = eb_E L d 220 144 [v0, v1, some (zi x), v3, v4, v5, v6] (zi x :: st) M := eb_E_s hk220 rfl
theorem e220_144  : eb_E L d 220 144 ls ([a1, a0]) M = (eb_ev L d 221 [a0, a1] M).bind (fun q => eb_E L d 220 147 ls [] q.2) := eb_E_c hk220 rfl
theorem e220_147 {x : Option eb_A} : eb_E L d 220 147 [v0, v1, v2, some (Sum.inr x), v4, v5, v6] (st) M = eb_E L d 220 148 [v0, v1, v2, some (Sum.inr x), v4, v5, v6] (Sum.inr x :: st) M := eb_E_s hk220 rfl
theorem e220_148 {x : Int32} : eb_E L d 220 148 [v0, v1, v2, v3, v4, some (zi x), v6] (st) M = eb_E L d 220 150 [v0, v1, v2, v3, v4, some (zi x), v6] (zi x :: st) M := eb_E_s hk220 rfl
theorem e220_150 {x : Int32} : eb_E L d 220 150 [v0, v1, v2, v3, v4, v5, some (zi x)] (st) M = eb_E L d 220 152 [v0, v1, v2, v3, v4, v5, some (zi x)] (zi x :: st) M := eb_E_s hk220 rfl
theorem e220_152  : eb_E L d 220 152 ls ([a2, a1, a0]) M = (eb_ev L d 196 [a0, a1, a2] M).bind (fun q => eb_E L d 220 155 ls [] q.2) := eb_E_c hk220 rfl
theorem e220_155 {x : Int32} : eb_E L d 220 155 [v0, v1, v2, v3, v4, some (zi x), v6] (st) M = eb_E L d 220 158 [v0, v1, v2, v3, v4, some (zi (x + 1)), v6] (st) M := eb_E_s hk220 rfl
theorem e220_158  : eb_E L d 220 158 ls (st) M = eb_E L d 220 52 ls (st) M := eb_E_s hk220 rfl
theorem e220_161 {x : Int32} : eb_E L d 220 161 [v0, v1, v2, v3, some (zi x), v5, v6] (st) M = eb_E L d 220 164 [v0, v1, v2, v3, some (zi (x + 1)), v5, v6] (st) M := eb_E_s hk220 rfl
theorem e220_164  : eb_E L d 220 164 ls (st) M = eb_E L d 220 43 ls (st) M := eb_E_s hk220 rfl
theorem e220_167 {x : Option eb_A} : eb_E L d 220 167 [v0, v1, v2, some (Sum.inr x), v4, v5, v6] (st) M = eb_E L d 220 168 [v0, v1, v2, some (Sum.inr x), v4, v5, v6] (Sum.inr x :: st) M := eb_E_s hk220 rfl
theorem e220_168  : eb_E L d 220 168 ls (st) M = eb_E L d 220 169 ls (zi (-1) :: st) M := eb_E_s hk220 rfl
theorem e220_169  : eb_E L d 220 169 ls ([a1, a0]) M = (eb_ev L d 204 [a0, a1] M).bind (fun q => eb_E L d 220 172 ls [q.1] q.2) := eb_E_c hk220 rfl
theorem e220_172 {x : Int32} : eb_E L d 220 172 ls ([zi x]) M = some (zi x, M) := eb_E_r hk220 rfl
/-! X6_readBook -/
theorem hk221 : eb_cd L 221 = eb_look (kt221 L) := rfl
theorem h221 (ha : (eb_ty L a.1).1 = 6) {x1 : Int32} : eb_ev L (d + 1) 221 [zr a, zi x1] M = eb_E L d 221 0 [some (zr a), some (zi x1), none] [] M := eb_ev_s rfl (eb_chk_i ha rfl)
theorem e221_0  : eb_E L d 221 0 ls (st) M = eb_E L d 221 1 ls (zi 0 :: st) M := eb_E_s hk221 rfl
theorem e221_1 {x : Int32} : eb_E L d 221 1 [v0, v1, v2] (zi x :: st) M = eb_E L d 221 2 [v0, v1, some (zi x)] (st) M := eb_E_s hk221 rfl
theorem e221_2 {x : Int32} : eb_E L d 221 2 [v0, v1, some (zi x)] (st) M = eb_E L d 221 3 [v0, v1, some (zi x)] (zi x :: st) M := eb_E_s hk221 rfl
theorem e221_3 {x : Option eb_A} : eb_E L d 221 3 [some (Sum.inr x), v1, v2] (st) M = eb_E L d 221 4 [some (Sum.inr x), v1, v2] (Sum.inr x :: st) M := eb_E_s hk221 rfl
theorem e221_4  : eb_E L d 221 4 ls (Sum.inr (some a) :: st) (nc, ns, I, J, R) = if (eb_ty L a.1).1 = 6 then eb_E L d 221 7 ls (zi (I a 9) :: st) (nc, ns, I, J, R) else none := eb_E_iy hk221 rfl
theorem e221_7 {x : Int32} {y : Int32} : eb_E L d 221 7 ls (zi y :: zi x :: st) M = if x < y then eb_E L d 221 10 ls st M else eb_E L d 221 42 ls st M := eb_E_b hk221 rfl
theorem e221_10 {x : Option eb_A} : eb_E L d 221 10 [some (Sum.inr x), v1, v2] (st) M = eb_E L d 221 11 [some (Sum.inr x), v1, v2] (Sum.inr x :: st) M := eb_E_s hk221 rfl
theorem e221_11  : eb_E L d 221 11 ls (Sum.inr (some a) :: st) (nc, ns, I, J, R) = if (eb_ty L a.1).1 = 6 then eb_E L d 221 14 ls (Sum.inr (R a 28) :: st) (nc, ns, I, J, R) else none := eb_E_iy hk221 rfl
theorem e221_14 {x : Int32} : eb_E L d 221 14 [v0, v1, some (zi x)] (st) M = eb_E L d 221 15 [v0, v1, some (zi x)] (zi x :: st) M := eb_E_s hk221 rfl
theorem e221_15 {x : Int32} : eb_E L d 221 15 [v0, some (zi x), v2] (st) M = eb_E L d 221 16 [v0, some (zi x), v2] (zi x :: st) M := eb_E_s hk221 rfl
theorem e221_16 {x : Int32} : eb_E L d 221 16 [v0, v1, some (zi x)] (st) M = eb_E L d 221 17 [v0, v1, some (zi x)] (zi x :: st) M := eb_E_s hk221 rfl
theorem e221_17 {x : Int32} {y : Int32} : eb_E L d 221 17 ls (zi y :: zi x :: st) M = eb_E L d 221 18 ls (zi (x >>> (y &&& 31)) :: st) M := eb_E_s hk221 rfl
theorem e221_18  : eb_E L d 221 18 ls (st) M = eb_E L d 221 19 ls (zi 1 :: st) M := eb_E_s hk221 rfl
theorem e221_19 {x : Int32} {y : Int32} : eb_E L d 221 19 ls (zi y :: zi x :: st) M = eb_E L d 221 20 ls (zi (x &&& y) :: st) M := eb_E_s hk221 rfl
theorem e221_20 {x : Int32} : eb_E L d 221 20 ls (zi x :: st) M = if x = 0 then eb_E L d 221 34 ls st M else eb_E L d 221 23 ls st M := eb_E_b hk221 rfl
theorem e221_23 {x : Option eb_A} : eb_E L d 221 23 [some (Sum.inr x), v1, v2] (st) M = eb_E L d 221 24 [some (Sum.inr x), v1, v2] (Sum.inr x :: st) M := eb_E_s hk221 rfl
theorem e221_24  : eb_E L d 221 24 ls (Sum.inr (some a) :: st) (nc, ns, I, J, R) = if (eb_ty L a.1).1 = 6 then eb_E L d 221 27 ls (Sum.inr (R a 10) :: st) (nc, ns, I, J, R) else none := eb_E_iy hk221 rfl
theorem e221_27 {x : Int32} : eb_E L d 221 27 [v0, v1, some (zi x)] (st) M = eb_E L d 221 28 [v0, v1, some (zi x)] (zi x :: st) M := eb_E_s hk221 rfl
theorem e221_28 {x : Int32} : eb_E L d 221 28 ls (zi x :: Sum.inr (some a) :: st) (nc, ns, I, J, R) = if (12 ≤ (eb_ty L a.1).1 ∧ (eb_ty L a.1).1 ≤ 16) ∧ eb_in x (eb_ty L a.1).2 = true then eb_E L d 221 29 ls (Sum.inr (R a x.toNatClampNeg) :: st) (nc, ns, I, J, R) else none := eb_E_iy hk221 rfl
theorem e221_29  : eb_E L d 221 29 ls (st) M = eb_E L d 221 30 ls (zi 0 :: st) M := eb_E_s hk221 rfl
theorem e221_30 {x : Int32} : eb_E L d 221 30 ls (zi x :: Sum.inr (some a) :: st) (nc, ns, I, J, R) = if (eb_ty L a.1).1 = 10 ∧ eb_in x (eb_ty L a.1).2 = true then eb_E L d 221 31 ls (zi (I a x.toNatClampNeg) :: st) (nc, ns, I, J, R) else none := eb_E_iy hk221 rfl
theorem e221_31  : eb_E L d 221 31 ls (st) M = eb_E L d 221 35 ls (st) M := eb_E_s hk221 rfl
theorem e221_34  : eb_E L d 221 34 ls (st) M = eb_E L d 221 35 ls (zi (-1) :: st) M := eb_E_s hk221 rfl
theorem e221_35 {x : Int32} {v : Int32} : eb_E L d 221 35 ls (zi v :: zi x :: Sum.inr (some a) :: st) (nc, ns, I, J, R) = if (eb_ty L a.1).1 = 10 ∧ eb_in x (eb_ty L a.1).2 = true then eb_E L d 221 36 ls (st) (nc, ns, eb_u I a x.toNatClampNeg v, J, R) else none := eb_E_iy hk221 rfl
theorem e221_36 {x : Int32} : eb_E L d 221 36 [v0, v1, some (zi x)] (st) M = eb_E L d 221 39 [v0, v1, some (zi (x + 1))] (st) M := eb_E_s hk221 rfl
theorem e221_39  : eb_E L d 221 39 ls (st) M = eb_E L d 221 2 ls (st) M := eb_E_s hk221 rfl
theorem e221_42  : eb_E L d 221 42 ls ([]) M = some (zn, M) := eb_E_r hk221 rfl
/-! X6_judge -/
theorem hk222 : eb_cd L 222 = eb_look (kt222 L) := rfl
theorem h222 (ha : (eb_ty L a.1).1 = 6) {x1 : Int32} : eb_ev L (d + 1) 222 [zr a, zi x1] M = eb_E L d 222 0 [some (zr a), some (zi x1), none, none] [] M := eb_ev_s rfl (eb_chk_i ha rfl)
theorem e222_0 {x : Option eb_A} : eb_E L d 222 0 [some (Sum.inr x), v1, v2, v3] (st) M = eb_E L d 222 1 [some (Sum.inr x), v1, v2, v3] (Sum.inr x :: st) M := eb_E_s hk222 rfl
theorem e222_1 {x : Int32} : eb_E L d 222 1 [v0, some (zi x), v2, v3] (st) M = eb_E L d 222 2 [v0, some (zi x), v2, v3] (zi x :: st) M := eb_E_s hk222 rfl
theorem e222_2  : eb_E L d 222 2 ls ([a1, a0]) M = (eb_ev L d 153 [a0, a1] M).bind (fun q => eb_E L d 222 5 ls [q.1] q.2) := eb_E_c hk222 rfl
theorem e222_5 {x : Int32} : eb_E L d 222 5 [v0, v1, v2, v3] (zi x :: st) M = eb_E L d 222 6 [v0, v1, some (zi x), v3] (st) M := eb_E_s hk222 rfl
theorem e222_6 {x : Int32} : eb_E L d 222 6 [v0, v1, some (zi x), v3] (st) M = eb_E L d 222 7 [v0, v1, some (zi x), v3] (zi x :: st) M := eb_E_s hk222 rfl
theorem e222_7 {x : Int32} : eb_E L d 222 7 ls (zi x :: st) M = if x = 0 then eb_E L d 222 12 ls st M else eb_E L d 222 10 ls st M := eb_E_b hk222 rfl
theorem e222_10 {x : Int32} : eb_E L d 222 10 [v0, v1, some (zi x), v3] (st) M = eb_E L d 222 11 [v0, v1, some (zi x), v3] (zi x :: st) M := eb_E_s hk222 rfl
theorem e222_11 {x : Int32} : eb_E L d 222 11 ls ([zi x]) M = some (zi x, M) := eb_E_r hk222 rfl
theorem e222_12 {x : Option eb_A} : eb_E L d 222 12 [some (Sum.inr x), v1, v2, v3] (st) M = eb_E L d 222 13 [some (Sum.inr x), v1, v2, v3] (Sum.inr x :: st) M := eb_E_s hk222 rfl
theorem e222_13  : eb_E L d 222 13 ls (Sum.inr (some a) :: st) (nc, ns, I, J, R) = if (eb_ty L a.1).1 = 6 then eb_E L d 222 16 ls (Sum.inr (R a 2) :: st) (nc, ns, I, J, R) else none := eb_E_iy hk222 rfl
theorem e222_16 {x : Int32} : eb_E L d 222 16 [v0, some (zi x), v2, v3] (st) M = eb_E L d 222 17 [v0, some (zi x), v2, v3] (zi x :: st) M := eb_E_s hk222 rfl
theorem e222_17 {x : Int32} : eb_E L d 222 17 ls (zi x :: Sum.inr (some a) :: st) (nc, ns, I, J, R) = if (eb_ty L a.1).1 = 10 ∧ eb_in x (eb_ty L a.1).2 = true then eb_E L d 222 18 ls (zi (I a x.toNatClampNeg) :: st) (nc, ns, I, J, R) else none := eb_E_iy hk222 rfl
theorem e222_18 {x : Option eb_A} : eb_E L d 222 18 [some (Sum.inr x), v1, v2, v3] (st) M = eb_E L d 222 19 [some (Sum.inr x), v1, v2, v3] (Sum.inr x :: st) M := eb_E_s hk222 rfl
theorem e222_19  : eb_E L d 222 19 ls (Sum.inr (some a) :: st) (nc, ns, I, J, R) = if (eb_ty L a.1).1 = 6 then eb_E L d 222 22 ls (zi (I a 11) :: st) (nc, ns, I, J, R) else none := eb_E_iy hk222 rfl
theorem e222_22 {x : Option eb_A} : eb_E L d 222 22 [some (Sum.inr x), v1, v2, v3] (st) M = eb_E L d 222 23 [some (Sum.inr x), v1, v2, v3] (Sum.inr x :: st) M := eb_E_s hk222 rfl
theorem e222_23  : eb_E L d 222 23 ls (Sum.inr (some a) :: st) (nc, ns, I, J, R) = if (eb_ty L a.1).1 = 6 then eb_E L d 222 26 ls (zi (I a 9) :: st) (nc, ns, I, J, R) else none := eb_E_iy hk222 rfl
theorem e222_26 {x : Int32} {y : Int32} : eb_E L d 222 26 ls (zi y :: zi x :: st) M = eb_E L d 222 27 ls (zi (x * y) :: st) M := eb_E_s hk222 rfl
theorem e222_27 {x : Int32} {y : Int32} : eb_E L d 222 27 ls (zi y :: zi x :: st) M = if x < y then eb_E L d 222 30 ls st M else eb_E L d 222 37 ls st M := eb_E_b hk222 rfl
theorem e222_30 {x : Option eb_A} : eb_E L d 222 30 [some (Sum.inr x), v1, v2, v3] (st) M = eb_E L d 222 31 [some (Sum.inr x), v1, v2, v3] (Sum.inr x :: st) M := eb_E_s hk222 rfl
theorem e222_31  : eb_E L d 222 31 ls (st) M = eb_E L d 222 33 ls (zi (-2) :: st) M := eb_E_s hk222 rfl
theorem e222_33  : eb_E L d 222 33 ls ([a1, a0]) M = (eb_ev L d 145 [a0, a1] M).bind (fun q => eb_E L d 222 36 ls [q.1] q.2) := eb_E_c hk222 rfl
theorem e222_36 {x : Int32} : eb_E L d 222 36 ls ([zi x]) M = some (zi x, M) := eb_E_r hk222 rfl
theorem e222_37 {x : Option eb_A} : eb_E L d 222 37 [some (Sum.inr x), v1, v2, v3] (st) M = eb_E L d 222 38 [some (Sum.inr x), v1, v2, v3] (Sum.inr x :: st) M := eb_E_s hk222 rfl
theorem e222_38  : eb_E L d 222 38 ls ([a0]) M = (eb_ev L d 197 [a0] M).bind (fun q => eb_E L d 222 41 ls [] q.2) := eb_E_c hk222 rfl
theorem e222_41  : eb_E L d 222 41 ls (st) M = eb_E L d 222 42 ls (zi 0 :: st) M := eb_E_s hk222 rfl
theorem e222_42 {x : Int32} : eb_E L d 222 42 [v0, v1, v2, v3] (zi x :: st) M = eb_E L d 222 43 [v0, v1, v2, some (zi x)] (st) M := eb_E_s hk222 rfl
theorem e222_43 {x : Int32} : eb_E L d 222 43 [v0, v1, v2, some (zi x)] (st) M = eb_E L d 222 44 [v0, v1, v2, some (zi x)] (zi x :: st) M := eb_E_s hk222 rfl
theorem e222_44 {x : Option eb_A} : eb_E L d 222 44 [some (Sum.inr x), v1, v2, v3] (st) M = eb_E L d 222 45 [some (Sum.inr x), v1, v2, v3] (Sum.inr x :: st) M := eb_E_s hk222 rfl
theorem e222_45  : eb_E L d 222 45 ls (Sum.inr (some a) :: st) (nc, ns, I, J, R) = if (eb_ty L a.1).1 = 6 then eb_E L d 222 48 ls (zi (I a 11) :: st) (nc, ns, I, J, R) else none := eb_E_iy hk222 rfl
theorem e222_48 {x : Option eb_A} : eb_E L d 222 48 [some (Sum.inr x), v1, v2, v3] (st) M = eb_E L d 222 49 [some (Sum.inr x), v1, v2, v3] (Sum.inr x :: st) M := eb_E_s hk222 rfl
theorem e222_49  : eb_E L d 222 49 ls (Sum.inr (some a) :: st) (nc, ns, I, J, R) = if (eb_ty L a.1).1 = 6 then eb_E L d 222 52 ls (zi (I a 9) :: st) (nc, ns, I, J, R) else none := eb_E_iy hk222 rfl
theorem e222_52 {x : Int32} {y : Int32} : eb_E L d 222 52 ls (zi y :: zi x :: st) M = eb_E L d 222 53 ls (zi (x * y) :: st) M := eb_E_s hk222 rfl
theorem e222_53 {x : Int32} {y : Int32} : eb_E L d 222 53 ls (zi y :: zi x :: st) M = if x < y then eb_E L d 222 56 ls st M else eb_E L d 222 95 ls st M := eb_E_b hk222 rfl
theorem e222_56 {x : Option eb_A} : eb_E L d 222 56 [some (Sum.inr x), v1, v2, v3] (st) M = eb_E L d 222 57 [some (Sum.inr x), v1, v2, v3] (Sum.inr x :: st) M := eb_E_s hk222 rfl
theorem e222_57  : eb_E L d 222 57 ls (Sum.inr (some a) :: st) (nc, ns, I, J, R) = if (eb_ty L a.1).1 = 6 then eb_E L d 222 60 ls (Sum.inr (R a 3) :: st) (nc, ns, I, J, R) else none := eb_E_iy hk222 rfl
theorem e222_60 {x : Int32} : eb_E L d 222 60 [v0, some (zi x), v2, v3] (st) M = eb_E L d 222 61 [v0, some (zi x), v2, v3] (zi x :: st) M := eb_E_s hk222 rfl
theorem e222_61 {x : Int32} : eb_E L d 222 61 ls (zi x :: Sum.inr (some a) :: st) (nc, ns, I, J, R) = if (12 ≤ (eb_ty L a.1).1 ∧ (eb_ty L a.1).1 ≤ 16) ∧ eb_in x (eb_ty L a.1).2 = true then eb_E L d 222 62 ls (Sum.inr (R a x.toNatClampNeg) :: st) (nc, ns, I, J, R) else none := eb_E_iy hk222 rfl
theorem e222_62 {x : Int32} : eb_E L d 222 62 [v0, v1, v2, some (zi x)] (st) M = eb_E L d 222 63 [v0, v1, v2, some (zi x)] (zi x :: st) M := eb_E_s hk222 rfl
theorem e222_63 {x : Int32} : eb_E L d 222 63 ls (zi x :: Sum.inr (some a) :: st) (nc, ns, I, J, R) = if (eb_ty L a.1).1 = 11 ∧ eb_in x (eb_ty L a.1).2 = true then eb_E L d 222 64 ls (zl (J a x.toNatClampNeg) :: st) (nc, ns, I, J, R) else none := eb_E_iy hk222 rfl
theorem e222_64 {x : Option eb_A} : eb_E L d 222 64 [some (Sum.inr x), v1, v2, v3] (st) M = eb_E L d 222 65 [some (Sum.inr x), v1, v2, v3] (Sum.inr x :: st) M := eb_E_s hk222 rfl
theorem e222_65  : eb_E L d 222 65 ls (Sum.inr (some a) :: st) (nc, ns, I, J, R) = if (eb_ty L a.1).1 = 6 then eb_E L d 222 68 ls (Sum.inr (R a 25) :: st) (nc, ns, I, J, R) else none := eb_E_iy hk222 rfl
theorem e222_68 {x : Int32} : eb_E L d 222 68 [v0, v1, v2, some (zi x)] (st) M = eb_E L d 222 69 [v0, v1, v2, some (zi x)] (zi x :: st) M := eb_E_s hk222 rfl
theorem e222_69 {x : Option eb_A} : eb_E L d 222 69 [some (Sum.inr x), v1, v2, v3] (st) M = eb_E L d 222 70 [some (Sum.inr x), v1, v2, v3] (Sum.inr x :: st) M := eb_E_s hk222 rfl
theorem e222_70  : eb_E L d 222 70 ls (Sum.inr (some a) :: st) (nc, ns, I, J, R) = if (eb_ty L a.1).1 = 6 then eb_E L d 222 73 ls (zi (I a 9) :: st) (nc, ns, I, J, R) else none := eb_E_iy hk222 rfl
theorem e222_73 {x : Int32} {y : Int32} : eb_E L d 222 73 ls (zi y :: zi x :: st) M = if y = 0 then none else eb_E L d 222 74 ls (zi (x / y) :: st) M := eb_E_in hk222 rfl
theorem e222_74 {x : Int32} : eb_E L d 222 74 ls (zi x :: Sum.inr (some a) :: st) (nc, ns, I, J, R) = if (12 ≤ (eb_ty L a.1).1 ∧ (eb_ty L a.1).1 ≤ 16) ∧ eb_in x (eb_ty L a.1).2 = true then eb_E L d 222 75 ls (Sum.inr (R a x.toNatClampNeg) :: st) (nc, ns, I, J, R) else none := eb_E_iy hk222 rfl
theorem e222_75 {x : Int32} : eb_E L d 222 75 [v0, v1, v2, some (zi x)] (st) M = eb_E L d 222 76 [v0, v1, v2, some (zi x)] (zi x :: st) M := eb_E_s hk222 rfl
theorem e222_76 {x : Option eb_A} : eb_E L d 222 76 [some (Sum.inr x), v1, v2, v3] (st) M = eb_E L d 222 77 [some (Sum.inr x), v1, v2, v3] (Sum.inr x :: st) M := eb_E_s hk222 rfl
theorem e222_77  : eb_E L d 222 77 ls (Sum.inr (some a) :: st) (nc, ns, I, J, R) = if (eb_ty L a.1).1 = 6 then eb_E L d 222 80 ls (zi (I a 9) :: st) (nc, ns, I, J, R) else none := eb_E_iy hk222 rfl
theorem e222_80 {x : Int32} {y : Int32} : eb_E L d 222 80 ls (zi y :: zi x :: st) M = if y = 0 then none else eb_E L d 222 81 ls (zi (x - x / y * y) :: st) M := eb_E_in hk222 rfl
theorem e222_81 {x : Int32} : eb_E L d 222 81 ls (zi x :: Sum.inr (some a) :: st) (nc, ns, I, J, R) = if (eb_ty L a.1).1 = 10 ∧ eb_in x (eb_ty L a.1).2 = true then eb_E L d 222 82 ls (zi (I a x.toNatClampNeg) :: st) (nc, ns, I, J, R) else none := eb_E_iy hk222 rfl
theorem e222_82 {x : Int32} : eb_E L d 222 82 ls (zi x :: st) M = eb_E L d 222 83 ls (zl x.toInt64 :: st) M := eb_E_s hk222 rfl
theorem e222_83 {x : Int64} {y : Int64} : eb_E L d 222 83 ls (zl y :: zl x :: st) M = eb_E L d 222 84 ls (zi (if x < y then -1 else if x = y then 0 else 1) :: st) M := eb_E_s hk222 rfl
theorem e222_84 {x : Int32} : eb_E L d 222 84 ls (zi x :: st) M = if x = 0 then eb_E L d 222 89 ls st M else eb_E L d 222 87 ls st M := eb_E_b hk222 rfl
theorem e222_87 {x : Int32} : eb_E L d 222 87 [v0, v1, v2, some (zi x)] (st) M = eb_E L d 222 88 [v0, v1, v2, some (zi x)] (zi x :: st) M := eb_E_s hk222 rfl
theorem e222_88 {x : Int32} : eb_E L d 222 88 ls ([zi x]) M = some (zi x, M) := eb_E_r hk222 rfl
theorem e222_89 {x : Int32} : eb_E L d 222 89 [v0, v1, v2, some (zi x)] (st) M = eb_E L d 222 92 [v0, v1, v2, some (zi (x + 1))] (st) M := eb_E_s hk222 rfl
theorem e222_92  : eb_E L d 222 92 ls (st) M = eb_E L d 222 43 ls (st) M := eb_E_s hk222 rfl
theorem e222_95  : eb_E L d 222 95 ls (st) M = eb_E L d 222 96 ls (zi (-1) :: st) M := eb_E_s hk222 rfl
theorem e222_96 {x : Int32} : eb_E L d 222 96 ls ([zi x]) M = some (zi x, M) := eb_E_r hk222 rfl
/-! X6_yearGoesBy -/
theorem hk223 : eb_cd L 223 = eb_look (kt223 L) := rfl
theorem h223 (ha : (eb_ty L a.1).1 = 6) : eb_ev L (d + 1) 223 [zr a] M = eb_E L d 223 0 [some (zr a), none, none, none, none] [] M := eb_ev_s rfl (eb_chk_i ha rfl)
theorem e223_0 {x : Option eb_A} : eb_E L d 223 0 [some (Sum.inr x), v1, v2, v3, v4] (st) M = eb_E L d 223 1 [some (Sum.inr x), v1, v2, v3, v4] (Sum.inr x :: st) M := eb_E_s hk223 rfl
theorem e223_1  : eb_E L d 223 1 ls ([a0]) M = (eb_ev L d 197 [a0] M).bind (fun q => eb_E L d 223 4 ls [] q.2) := eb_E_c hk223 rfl
theorem e223_4  : eb_E L d 223 4 ls (st) M = eb_E L d 223 5 ls (zi 0 :: st) M := eb_E_s hk223 rfl
theorem e223_5 {x : Int32} : eb_E L d 223 5 [v0, v1, v2, v3, v4] (zi x :: st) M = eb_E L d 223 6 [v0, some (zi x), v2, v3, v4] (st) M := eb_E_s hk223 rfl
theorem e223_6 {x : Int32} : eb_E L d 223 6 [v0, some (zi x), v2, v3, v4] (st) M = eb_E L d 223 7 [v0, some (zi x), v2, v3, v4] (zi x :: st) M := eb_E_s hk223 rfl
theorem e223_7 {x : Option eb_A} : eb_E L d 223 7 [some (Sum.inr x), v1, v2, v3, v4] (st) M = eb_E L d 223 8 [some (Sum.inr x), v1, v2, v3, v4] (Sum.inr x :: st) M := eb_E_s hk223 rfl
theorem e223_8  : eb_E L d 223 8 ls (Sum.inr (some a) :: st) (nc, ns, I, J, R) = if (eb_ty L a.1).1 = 6 then eb_E L d 223 11 ls (zi (I a 9) :: st) (nc, ns, I, J, R) else none := eb_E_iy hk223 rfl
theorem e223_11 {x : Int32} {y : Int32} : eb_E L d 223 11 ls (zi y :: zi x :: st) M = if x < y then eb_E L d 223 14 ls st M else eb_E L d 223 94 ls st M := eb_E_b hk223 rfl
theorem e223_14 {x : Option eb_A} : eb_E L d 223 14 [some (Sum.inr x), v1, v2, v3, v4] (st) M = eb_E L d 223 15 [some (Sum.inr x), v1, v2, v3, v4] (Sum.inr x :: st) M := eb_E_s hk223 rfl
theorem e223_15  : eb_E L d 223 15 ls (Sum.inr (some a) :: st) (nc, ns, I, J, R) = if (eb_ty L a.1).1 = 6 then eb_E L d 223 18 ls (Sum.inr (R a 10) :: st) (nc, ns, I, J, R) else none := eb_E_iy hk223 rfl
theorem e223_18 {x : Int32} : eb_E L d 223 18 [v0, some (zi x), v2, v3, v4] (st) M = eb_E L d 223 19 [v0, some (zi x), v2, v3, v4] (zi x :: st) M := eb_E_s hk223 rfl
theorem e223_19 {x : Int32} : eb_E L d 223 19 ls (zi x :: Sum.inr (some a) :: st) (nc, ns, I, J, R) = if (12 ≤ (eb_ty L a.1).1 ∧ (eb_ty L a.1).1 ≤ 16) ∧ eb_in x (eb_ty L a.1).2 = true then eb_E L d 223 20 ls (Sum.inr (R a x.toNatClampNeg) :: st) (nc, ns, I, J, R) else none := eb_E_iy hk223 rfl
theorem e223_20 {x : Option eb_A} : eb_E L d 223 20 [v0, v1, v2, v3, v4] (Sum.inr x :: st) M = eb_E L d 223 21 [v0, v1, some (Sum.inr x), v3, v4] (st) M := eb_E_s hk223 rfl
theorem e223_21 {x : Option eb_A} : eb_E L d 223 21 [some (Sum.inr x), v1, v2, v3, v4] (st) M = eb_E L d 223 22 [some (Sum.inr x), v1, v2, v3, v4] (Sum.inr x :: st) M := eb_E_s hk223 rfl
theorem e223_22 {x : Int32} : eb_E L d 223 22 [v0, some (zi x), v2, v3, v4] (st) M = eb_E L d 223 23 [v0, some (zi x), v2, v3, v4] (zi x :: st) M := eb_E_s hk223 rfl
theorem e223_23  : eb_E L d 223 23 ls ([a1, a0]) M = (eb_ev L d 198 [a0, a1] M).bind (fun q => eb_E L d 223 26 ls [q.1] q.2) := eb_E_c hk223 rfl
theorem e223_26 {x : Int32} : eb_E L d 223 26 [v0, v1, v2, v3, v4] (zi x :: st) M = eb_E L d 223 27 [v0, v1, v2, some (zi x), v4] (st) M := eb_E_s hk223 rfl
theorem e223_27 {x : Int32} : eb_E L d 223 27 [v0, v1, v2, some (zi x), v4] (st) M = eb_E L d 223 28 [v0, v1, v2, some (zi x), v4] (zi x :: st) M := eb_E_s hk223 rfl
theorem e223_28 {x : Int32} : eb_E L d 223 28 ls (zi x :: st) M = if 0 < x then eb_E L d 223 31 ls st M else eb_E L d 223 77 ls st M := eb_E_b hk223 rfl
theorem e223_31 {x : Option eb_A} : eb_E L d 223 31 [v0, v1, some (Sum.inr x), v3, v4] (st) M = eb_E L d 223 32 [v0, v1, some (Sum.inr x), v3, v4] (Sum.inr x :: st) M := eb_E_s hk223 rfl
theorem e223_32  : eb_E L d 223 32 ls (st) M = eb_E L d 223 33 ls (zi 4 :: st) M := eb_E_s hk223 rfl
theorem e223_33 {x : Int32} : eb_E L d 223 33 ls (zi x :: Sum.inr (some a) :: st) (nc, ns, I, J, R) = if (eb_ty L a.1).1 = 10 ∧ eb_in x (eb_ty L a.1).2 = true then eb_E L d 223 34 ls (zi (I a x.toNatClampNeg) :: st) (nc, ns, I, J, R) else none := eb_E_iy hk223 rfl
theorem e223_34  : eb_E L d 223 34 ls (st) M = eb_E L d 223 35 ls (zi (-1) :: st) M := eb_E_s hk223 rfl
theorem e223_35 {x : Int32} {y : Int32} : eb_E L d 223 35 ls (zi y :: zi x :: st) M = if x = y then eb_E L d 223 56 ls st M else eb_E L d 223 38 ls st M := eb_E_b hk223 rfl
theorem e223_38 {x : Option eb_A} : eb_E L d 223 38 [v0, v1, some (Sum.inr x), v3, v4] (st) M = eb_E L d 223 39 [v0, v1, some (Sum.inr x), v3, v4] (Sum.inr x :: st) M := eb_E_s hk223 rfl
theorem e223_39  : eb_E L d 223 39 ls (st) M = eb_E L d 223 40 ls (zi 0 :: st) M := eb_E_s hk223 rfl
theorem e223_40 {x : Int32} : eb_E L d 223 40 ls (zi x :: Sum.inr (some a) :: st) (nc, ns, I, J, R) = if (eb_ty L a.1).1 = 10 ∧ eb_in x (eb_ty L a.1).2 = true then eb_E L d 223 41 ls (zi (I a x.toNatClampNeg) :: st) (nc, ns, I, J, R) else none := eb_E_iy hk223 rfl
theorem e223_41 {x : Option eb_A} : eb_E L d 223 41 [v0, v1, some (Sum.inr x), v3, v4] (st) M = eb_E L d 223 42 [v0, v1, some (Sum.inr x), v3, v4] (Sum.inr x :: st) M := eb_E_s hk223 rfl
theorem e223_42  : eb_E L d 223 42 ls (st) M = eb_E L d 223 43 ls (zi 4 :: st) M := eb_E_s hk223 rfl
theorem e223_43 {x : Int32} : eb_E L d 223 43 ls (zi x :: Sum.inr (some a) :: st) (nc, ns, I, J, R) = if (eb_ty L a.1).1 = 10 ∧ eb_in x (eb_ty L a.1).2 = true then eb_E L d 223 44 ls (zi (I a x.toNatClampNeg) :: st) (nc, ns, I, J, R) else none := eb_E_iy hk223 rfl
theorem e223_44 {x : Int32} {y : Int32} : eb_E L d 223 44 ls (zi y :: zi x :: st) M = if x < y then eb_E L d 223 47 ls st M else eb_E L d 223 56 ls st M := eb_E_b hk223 rfl
theorem e223_47 {x : Option eb_A} : eb_E L d 223 47 [v0, v1, some (Sum.inr x), v3, v4] (st) M = eb_E L d 223 48 [v0, v1, some (Sum.inr x), v3, v4] (Sum.inr x :: st) M := eb_E_s hk223 rfl
theorem e223_48  : eb_E L d 223 48 ls (st) M = eb_E L d 223 49 ls (zi 0 :: st) M := eb_E_s hk223 rfl
theorem e223_49 {x : Int32} : eb_E L d 223 49 ls (zi x :: Sum.inr (some a) :: st) (nc, ns, I, J, R) = if (eb_ty L a.1).1 = 10 ∧ eb_in x (eb_ty L a.1).2 = true then eb_E L d 223 50 ls (zi (I a x.toNatClampNeg) :: st) (nc, ns, I, J, R) else none := eb_E_iy hk223 rfl
theorem e223_50  : eb_E L d 223 50 ls (st) M = eb_E L d 223 52 ls (zi 10 :: st) M := eb_E_s hk223 rfl
theorem e223_52 {x : Int32} {y : Int32} : eb_E L d 223 52 ls (zi y :: zi x :: st) M = eb_E L d 223 53 ls (zi (x - y) :: st) M := eb_E_s hk223 rfl
theorem e223_53  : eb_E L d 223 53 ls (st) M = eb_E L d 223 59 ls (st) M := eb_E_s hk223 rfl
theorem e223_56 {x : Option eb_A} : eb_E L d 223 56 [v0, v1, some (Sum.inr x), v3, v4] (st) M = eb_E L d 223 57 [v0, v1, some (Sum.inr x), v3, v4] (Sum.inr x :: st) M := eb_E_s hk223 rfl
theorem e223_57  : eb_E L d 223 57 ls (st) M = eb_E L d 223 58 ls (zi 0 :: st) M := eb_E_s hk223 rfl
theorem e223_58 {x : Int32} : eb_E L d 223 58 ls (zi x :: Sum.inr (some a) :: st) (nc, ns, I, J, R) = if (eb_ty L a.1).1 = 10 ∧ eb_in x (eb_ty L a.1).2 = true then eb_E L d 223 59 ls (zi (I a x.toNatClampNeg) :: st) (nc, ns, I, J, R) else none := eb_E_iy hk223 rfl
theorem e223_59 {x : Int32} : eb_E L d 223 59 [v0, v1, v2, v3, v4] (zi x :: st) M = eb_E L d 223 61 [v0, v1, v2, v3, some (zi x)] (st) M := eb_E_s hk223 rfl
theorem e223_61 {x : Option eb_A} : eb_E L d 223 61 [some (Sum.inr x), v1, v2, v3, v4] (st) M = eb_E L d 223 62 [some (Sum.inr x), v1, v2, v3, v4] (Sum.inr x :: st) M := eb_E_s hk223 rfl
theorem e223_62 {x : Int32} : eb_E L d 223 62 [v0, some (zi x), v2, v3, v4] (st) M = eb_E L d 223 63 [v0, some (zi x), v2, v3, v4] (zi x :: st) M := eb_E_s hk223 rfl
theorem e223_63 {x : Int32} : eb_E L d 223 63 [v0, v1, v2, v3, some (zi x)] (st) M = eb_E L d 223 65 [v0, v1, v2, v3, some (zi x)] (zi x :: st) M := eb_E_s hk223 rfl
theorem e223_65 {x : Int32} : eb_E L d 223 65 ls (zi x :: st) M = if x < 0 then eb_E L d 223 68 ls st M else eb_E L d 223 72 ls st M := eb_E_b hk223 rfl
theorem e223_68  : eb_E L d 223 68 ls (st) M = eb_E L d 223 69 ls (zi 0 :: st) M := eb_E_s hk223 rfl
theorem e223_69  : eb_E L d 223 69 ls (st) M = eb_E L d 223 74 ls (st) M := eb_E_s hk223 rfl
theorem e223_72 {x : Int32} : eb_E L d 223 72 [v0, v1, v2, v3, some (zi x)] (st) M = eb_E L d 223 74 [v0, v1, v2, v3, some (zi x)] (zi x :: st) M := eb_E_s hk223 rfl
theorem e223_74  : eb_E L d 223 74 ls ([a2, a1, a0]) M = (eb_ev L d 169 [a0, a1, a2] M).bind (fun q => eb_E L d 223 77 ls [] q.2) := eb_E_c hk223 rfl
theorem e223_77 {x : Option eb_A} : eb_E L d 223 77 [some (Sum.inr x), v1, v2, v3, v4] (st) M = eb_E L d 223 78 [some (Sum.inr x), v1, v2, v3, v4] (Sum.inr x :: st) M := eb_E_s hk223 rfl
theorem e223_78  : eb_E L d 223 78 ls (Sum.inr (some a) :: st) (nc, ns, I, J, R) = if (eb_ty L a.1).1 = 6 then eb_E L d 223 81 ls (Sum.inr (R a 31) :: st) (nc, ns, I, J, R) else none := eb_E_iy hk223 rfl
theorem e223_81 {x : Int32} : eb_E L d 223 81 [v0, some (zi x), v2, v3, v4] (st) M = eb_E L d 223 82 [v0, some (zi x), v2, v3, v4] (zi x :: st) M := eb_E_s hk223 rfl
theorem e223_82 {x : Int32} : eb_E L d 223 82 [v0, v1, v2, some (zi x), v4] (st) M = eb_E L d 223 83 [v0, v1, v2, some (zi x), v4] (zi x :: st) M := eb_E_s hk223 rfl
theorem e223_83 {x : Option eb_A} : eb_E L d 223 83 [v0, v1, some (Sum.inr x), v3, v4] (st) M = eb_E L d 223 84 [v0, v1, some (Sum.inr x), v3, v4] (Sum.inr x :: st) M := eb_E_s hk223 rfl
theorem e223_84  : eb_E L d 223 84 ls (st) M = eb_E L d 223 85 ls (zi 3 :: st) M := eb_E_s hk223 rfl
theorem e223_85 {x : Int32} : eb_E L d 223 85 ls (zi x :: Sum.inr (some a) :: st) (nc, ns, I, J, R) = if (eb_ty L a.1).1 = 10 ∧ eb_in x (eb_ty L a.1).2 = true then eb_E L d 223 86 ls (zi (I a x.toNatClampNeg) :: st) (nc, ns, I, J, R) else none := eb_E_iy hk223 rfl
theorem e223_86 {x : Int32} {y : Int32} : eb_E L d 223 86 ls (zi y :: zi x :: st) M = eb_E L d 223 87 ls (zi (x * y) :: st) M := eb_E_s hk223 rfl
theorem e223_87 {x : Int32} {v : Int32} : eb_E L d 223 87 ls (zi v :: zi x :: Sum.inr (some a) :: st) (nc, ns, I, J, R) = if (eb_ty L a.1).1 = 10 ∧ eb_in x (eb_ty L a.1).2 = true then eb_E L d 223 88 ls (st) (nc, ns, eb_u I a x.toNatClampNeg v, J, R) else none := eb_E_iy hk223 rfl
theorem e223_88 {x : Int32} : eb_E L d 223 88 [v0, some (zi x), v2, v3, v4] (st) M = eb_E L d 223 91 [v0, some (zi (x + 1)), v2, v3, v4] (st) M := eb_E_s hk223 rfl
theorem e223_91  : eb_E L d 223 91 ls (st) M = eb_E L d 223 6 ls (st) M := eb_E_s hk223 rfl
theorem e223_94 {x : Option eb_A} : eb_E L d 223 94 [some (Sum.inr x), v1, v2, v3, v4] (st) M = eb_E L d 223 95 [some (Sum.inr x), v1, v2, v3, v4] (Sum.inr x :: st) M := eb_E_s hk223 rfl
theorem e223_95 {x : Option eb_A} : eb_E L d 223 95 [some (Sum.inr x), v1, v2, v3, v4] (st) M = eb_E L d 223 96 [some (Sum.inr x), v1, v2, v3, v4] (Sum.inr x :: st) M := eb_E_s hk223 rfl
theorem e223_96  : eb_E L d 223 96 ls (st) M = eb_E L d 223 97 ls (zi (-1) :: st) M := eb_E_s hk223 rfl
theorem e223_97 {s0 : Option eb_A} : eb_E L d 223 97 ls ([a1, a0, Sum.inr s0]) M = (eb_ev L d 204 [a0, a1] M).bind (fun q => eb_E L d 223 100 ls [q.1, Sum.inr s0] q.2) := eb_E_c hk223 rfl
theorem e223_100 {x : Int32} : eb_E L d 223 100 ls (zi x :: Sum.inr (some a) :: st) (nc, ns, I, J, R) = if (eb_ty L a.1).1 = 6 then eb_E L d 223 103 ls (st) (nc, ns, eb_u I a 29 x, J, R) else none := eb_E_iy hk223 rfl
theorem e223_103  : eb_E L d 223 103 ls (st) M = eb_E L d 223 104 ls (zi 0 :: st) M := eb_E_s hk223 rfl
theorem e223_104 {x : Int32} : eb_E L d 223 104 [v0, v1, v2, v3, v4] (zi x :: st) M = eb_E L d 223 105 [v0, some (zi x), v2, v3, v4] (st) M := eb_E_s hk223 rfl
theorem e223_105 {x : Int32} : eb_E L d 223 105 [v0, some (zi x), v2, v3, v4] (st) M = eb_E L d 223 106 [v0, some (zi x), v2, v3, v4] (zi x :: st) M := eb_E_s hk223 rfl
theorem e223_106 {x : Option eb_A} : eb_E L d 223 106 [some (Sum.inr x), v1, v2, v3, v4] (st) M = eb_E L d 223 107 [some (Sum.inr x), v1, v2, v3, v4] (Sum.inr x :: st) M := eb_E_s hk223 rfl
theorem e223_107  : eb_E L d 223 107 ls (Sum.inr (some a) :: st) (nc, ns, I, J, R) = if (eb_ty L a.1).1 = 6 then eb_E L d 223 110 ls (zi (I a 11) :: st) (nc, ns, I, J, R) else none := eb_E_iy hk223 rfl
theorem e223_110 {x : Int32} {y : Int32} : eb_E L d 223 110 ls (zi y :: zi x :: st) M = if x < y then eb_E L d 223 113 ls st M else eb_E L d 223 130 ls st M := eb_E_b hk223 rfl
theorem e223_113 {x : Option eb_A} : eb_E L d 223 113 [some (Sum.inr x), v1, v2, v3, v4] (st) M = eb_E L d 223 114 [some (Sum.inr x), v1, v2, v3, v4] (Sum.inr x :: st) M := eb_E_s hk223 rfl
theorem e223_114  : eb_E L d 223 114 ls (Sum.inr (some a) :: st) (nc, ns, I, J, R) = if (eb_ty L a.1).1 = 6 then eb_E L d 223 117 ls (Sum.inr (R a 30) :: st) (nc, ns, I, J, R) else none := eb_E_iy hk223 rfl
theorem e223_117 {x : Int32} : eb_E L d 223 117 [v0, some (zi x), v2, v3, v4] (st) M = eb_E L d 223 118 [v0, some (zi x), v2, v3, v4] (zi x :: st) M := eb_E_s hk223 rfl
theorem e223_118 {x : Option eb_A} : eb_E L d 223 118 [some (Sum.inr x), v1, v2, v3, v4] (st) M = eb_E L d 223 119 [some (Sum.inr x), v1, v2, v3, v4] (Sum.inr x :: st) M := eb_E_s hk223 rfl
theorem e223_119 {x : Int32} : eb_E L d 223 119 [v0, some (zi x), v2, v3, v4] (st) M = eb_E L d 223 120 [v0, some (zi x), v2, v3, v4] (zi x :: st) M := eb_E_s hk223 rfl
theorem e223_120 {s0 : Int32} {s1 : Option eb_A} : eb_E L d 223 120 ls ([a1, a0, zi s0, Sum.inr s1]) M = (eb_ev L d 203 [a0, a1] M).bind (fun q => eb_E L d 223 123 ls [q.1, zi s0, Sum.inr s1] q.2) := eb_E_c hk223 rfl
theorem e223_123 {x : Int32} {v : Int32} : eb_E L d 223 123 ls (zi v :: zi x :: Sum.inr (some a) :: st) (nc, ns, I, J, R) = if (eb_ty L a.1).1 = 10 ∧ eb_in x (eb_ty L a.1).2 = true then eb_E L d 223 124 ls (st) (nc, ns, eb_u I a x.toNatClampNeg v, J, R) else none := eb_E_iy hk223 rfl
theorem e223_124 {x : Int32} : eb_E L d 223 124 [v0, some (zi x), v2, v3, v4] (st) M = eb_E L d 223 127 [v0, some (zi (x + 1)), v2, v3, v4] (st) M := eb_E_s hk223 rfl
theorem e223_127  : eb_E L d 223 127 ls (st) M = eb_E L d 223 105 ls (st) M := eb_E_s hk223 rfl
theorem e223_130  : eb_E L d 223 130 ls (st) M = eb_E L d 223 131 ls (zi 0 :: st) M := eb_E_s hk223 rfl
theorem e223_131 {x : Int32} : eb_E L d 223 131 [v0, v1, v2, v3, v4] (zi x :: st) M = eb_E L d 223 132 [v0, some (zi x), v2, v3, v4] (st) M := eb_E_s hk223 rfl
theorem e223_132 {x : Int32} : eb_E L d 223 132 [v0, some (zi x), v2, v3, v4] (st) M = eb_E L d 223 133 [v0, some (zi x), v2, v3, v4] (zi x :: st) M := eb_E_s hk223 rfl
theorem e223_133 {x : Option eb_A} : eb_E L d 223 133 [some (Sum.inr x), v1, v2, v3, v4] (st) M = eb_E L d 223 134 [some (Sum.inr x), v1, v2, v3, v4] (Sum.inr x :: st) M := eb_E_s hk223 rfl
theorem e223_134  : eb_E L d 223 134 ls (Sum.inr (some a) :: st) (nc, ns, I, J, R) = if (eb_ty L a.1).1 = 6 then eb_E L d 223 137 ls (zi (I a 9) :: st) (nc, ns, I, J, R) else none := eb_E_iy hk223 rfl
theorem e223_137 {x : Int32} {y : Int32} : eb_E L d 223 137 ls (zi y :: zi x :: st) M = if x < y then eb_E L d 223 140 ls st M else eb_E L d 223 266 ls st M := eb_E_b hk223 rfl
theorem e223_140 {x : Option eb_A} : eb_E L d 223 140 [some (Sum.inr x), v1, v2, v3, v4] (st) M = eb_E L d 223 141 [some (Sum.inr x), v1, v2, v3, v4] (Sum.inr x :: st) M := eb_E_s hk223 rfl
theorem e223_141  : eb_E L d 223 141 ls (Sum.inr (some a) :: st) (nc, ns, I, J, R) = if (eb_ty L a.1).1 = 6 then eb_E L d 223 144 ls (Sum.inr (R a 10) :: st) (nc, ns, I, J, R) else none := eb_E_iy hk223 rfl
theorem e223_144 {x : Int32} : eb_E L d 223 144 [v0, some (zi x), v2, v3, v4] (st) M = eb_E L d 223 145 [v0, some (zi x), v2, v3, v4] (zi x :: st) M := eb_E_s hk223 rfl
theorem e223_145 {x : Int32} : eb_E L d 223 145 ls (zi x :: Sum.inr (some a) :: st) (nc, ns, I, J, R) = if (12 ≤ (eb_ty L a.1).1 ∧ (eb_ty L a.1).1 ≤ 16) ∧ eb_in x (eb_ty L a.1).2 = true then eb_E L d 223 146 ls (Sum.inr (R a x.toNatClampNeg) :: st) (nc, ns, I, J, R) else none := eb_E_iy hk223 rfl
theorem e223_146 {x : Option eb_A} : eb_E L d 223 146 [v0, v1, v2, v3, v4] (Sum.inr x :: st) M = eb_E L d 223 147 [v0, v1, some (Sum.inr x), v3, v4] (st) M := eb_E_s hk223 rfl
theorem e223_147 {x : Option eb_A} : eb_E L d 223 147 [some (Sum.inr x), v1, v2, v3, v4] (st) M = eb_E L d 223 148 [some (Sum.inr x), v1, v2, v3, v4] (Sum.inr x :: st) M := eb_E_s hk223 rfl
theorem e223_148  : eb_E L d 223 148 ls (Sum.inr (some a) :: st) (nc, ns, I, J, R) = if (eb_ty L a.1).1 = 6 then eb_E L d 223 151 ls (Sum.inr (R a 27) :: st) (nc, ns, I, J, R) else none := eb_E_iy hk223 rfl
theorem e223_151 {x : Int32} : eb_E L d 223 151 [v0, some (zi x), v2, v3, v4] (st) M = eb_E L d 223 152 [v0, some (zi x), v2, v3, v4] (zi x :: st) M := eb_E_s hk223 rfl
theorem e223_152 {x : Int32} : eb_E L d 223 152 ls (zi x :: Sum.inr (some a) :: st) (nc, ns, I, J, R) = if (eb_ty L a.1).1 = 10 ∧ eb_in x (eb_ty L a.1).2 = true then eb_E L d 223 153 ls (zi (I a x.toNatClampNeg) :: st) (nc, ns, I, J, R) else none := eb_E_iy hk223 rfl
theorem e223_153 {x : Int32} : eb_E L d 223 153 ls (zi x :: st) M = if x = 0 then eb_E L d 223 156 ls st M else eb_E L d 223 192 ls st M := eb_E_b hk223 rfl
theorem e223_156 {x : Option eb_A} : eb_E L d 223 156 [v0, v1, some (Sum.inr x), v3, v4] (st) M = eb_E L d 223 157 [v0, v1, some (Sum.inr x), v3, v4] (Sum.inr x :: st) M := eb_E_s hk223 rfl
theorem e223_157  : eb_E L d 223 157 ls (st) M = eb_E L d 223 158 ls (zi 0 :: st) M := eb_E_s hk223 rfl
theorem e223_158 {x : Option eb_A} : eb_E L d 223 158 [v0, v1, some (Sum.inr x), v3, v4] (st) M = eb_E L d 223 159 [v0, v1, some (Sum.inr x), v3, v4] (Sum.inr x :: st) M := eb_E_s hk223 rfl
theorem e223_159  : eb_E L d 223 159 ls (st) M = eb_E L d 223 160 ls (zi 0 :: st) M := eb_E_s hk223 rfl
theorem e223_160 {x : Int32} : eb_E L d 223 160 ls (zi x :: Sum.inr (some a) :: st) (nc, ns, I, J, R) = if (eb_ty L a.1).1 = 10 ∧ eb_in x (eb_ty L a.1).2 = true then eb_E L d 223 161 ls (zi (I a x.toNatClampNeg) :: st) (nc, ns, I, J, R) else none := eb_E_iy hk223 rfl
theorem e223_161  : eb_E L d 223 161 ls (st) M = eb_E L d 223 163 ls (zi 6 :: st) M := eb_E_s hk223 rfl
theorem e223_163 {x : Int32} {y : Int32} : eb_E L d 223 163 ls (zi y :: zi x :: st) M = eb_E L d 223 164 ls (zi (x - y) :: st) M := eb_E_s hk223 rfl
theorem e223_164  : eb_E L d 223 164 ls (st) M = eb_E L d 223 166 ls (zi 100 :: st) M := eb_E_s hk223 rfl
theorem e223_166 {s0 : Int32} {s1 : Option eb_A} : eb_E L d 223 166 ls ([a1, a0, zi s0, Sum.inr s1]) M = (eb_ev L d 147 [a0, a1] M).bind (fun q => eb_E L d 223 169 ls [q.1, zi s0, Sum.inr s1] q.2) := eb_E_c hk223 rfl
theorem e223_169 {x : Int32} {v : Int32} : eb_E L d 223 169 ls (zi v :: zi x :: Sum.inr (some a) :: st) (nc, ns, I, J, R) = if (eb_ty L a.1).1 = 10 ∧ eb_in x (eb_ty L a.1).2 = true then eb_E L d 223 170 ls (st) (nc, ns, eb_u I a x.toNatClampNeg v, J, R) else none := eb_E_iy hk223 rfl
theorem e223_170 {x : Option eb_A} : eb_E L d 223 170 [v0, v1, some (Sum.inr x), v3, v4] (st) M = eb_E L d 223 171 [v0, v1, some (Sum.inr x), v3, v4] (Sum.inr x :: st) M := eb_E_s hk223 rfl
theorem e223_171  : eb_E L d 223 171 ls (st) M = eb_E L d 223 172 ls (zi 3 :: st) M := eb_E_s hk223 rfl
theorem e223_172 {x : Option eb_A} : eb_E L d 223 172 [v0, v1, some (Sum.inr x), v3, v4] (st) M = eb_E L d 223 173 [v0, v1, some (Sum.inr x), v3, v4] (Sum.inr x :: st) M := eb_E_s hk223 rfl
theorem e223_173  : eb_E L d 223 173 ls (st) M = eb_E L d 223 174 ls (zi 3 :: st) M := eb_E_s hk223 rfl
theorem e223_174 {x : Int32} : eb_E L d 223 174 ls (zi x :: Sum.inr (some a) :: st) (nc, ns, I, J, R) = if (eb_ty L a.1).1 = 10 ∧ eb_in x (eb_ty L a.1).2 = true then eb_E L d 223 175 ls (zi (I a x.toNatClampNeg) :: st) (nc, ns, I, J, R) else none := eb_E_iy hk223 rfl
theorem e223_175 {x : Option eb_A} : eb_E L d 223 175 [v0, v1, some (Sum.inr x), v3, v4] (st) M = eb_E L d 223 176 [v0, v1, some (Sum.inr x), v3, v4] (Sum.inr x :: st) M := eb_E_s hk223 rfl
theorem e223_176  : eb_E L d 223 176 ls (st) M = eb_E L d 223 177 ls (zi 3 :: st) M := eb_E_s hk223 rfl
theorem e223_177 {x : Int32} : eb_E L d 223 177 ls (zi x :: Sum.inr (some a) :: st) (nc, ns, I, J, R) = if (eb_ty L a.1).1 = 10 ∧ eb_in x (eb_ty L a.1).2 = true then eb_E L d 223 178 ls (zi (I a x.toNatClampNeg) :: st) (nc, ns, I, J, R) else none := eb_E_iy hk223 rfl
theorem e223_178  : eb_E L d 223 178 ls (st) M = eb_E L d 223 179 ls (zi 4 :: st) M := eb_E_s hk223 rfl
theorem e223_179 {x : Int32} {y : Int32} : eb_E L d 223 179 ls (zi y :: zi x :: st) M = if y = 0 then none else eb_E L d 223 180 ls (zi (x / y) :: st) M := eb_E_in hk223 rfl
theorem e223_180 {x : Int32} {y : Int32} : eb_E L d 223 180 ls (zi y :: zi x :: st) M = eb_E L d 223 181 ls (zi (x + y) :: st) M := eb_E_s hk223 rfl
theorem e223_181  : eb_E L d 223 181 ls (st) M = eb_E L d 223 182 ls (zi 1 :: st) M := eb_E_s hk223 rfl
theorem e223_182 {x : Int32} {y : Int32} : eb_E L d 223 182 ls (zi y :: zi x :: st) M = eb_E L d 223 183 ls (zi (x + y) :: st) M := eb_E_s hk223 rfl
theorem e223_183  : eb_E L d 223 183 ls (st) M = eb_E L d 223 185 ls (zi 99 :: st) M := eb_E_s hk223 rfl
theorem e223_185 {s0 : Int32} {s1 : Option eb_A} : eb_E L d 223 185 ls ([a1, a0, zi s0, Sum.inr s1]) M = (eb_ev L d 147 [a0, a1] M).bind (fun q => eb_E L d 223 188 ls [q.1, zi s0, Sum.inr s1] q.2) := eb_E_c hk223 rfl
theorem e223_188 {x : Int32} {v : Int32} : eb_E L d 223 188 ls (zi v :: zi x :: Sum.inr (some a) :: st) (nc, ns, I, J, R) = if (eb_ty L a.1).1 = 10 ∧ eb_in x (eb_ty L a.1).2 = true then eb_E L d 223 189 ls (st) (nc, ns, eb_u I a x.toNatClampNeg v, J, R) else none := eb_E_iy hk223 rfl
theorem e223_189  : eb_E L d 223 189 ls (st) M = eb_E L d 223 260 ls (st) M := eb_E_s hk223 rfl
theorem e223_192  : eb_E L d 223 192 ls (st) M = eb_E L d 223 193 ls (zi 2 :: st) M := eb_E_s hk223 rfl
theorem e223_193 {x : Option eb_A} : eb_E L d 223 193 [some (Sum.inr x), v1, v2, v3, v4] (st) M = eb_E L d 223 194 [some (Sum.inr x), v1, v2, v3, v4] (Sum.inr x :: st) M := eb_E_s hk223 rfl
theorem e223_194 {x : Int32} : eb_E L d 223 194 [v0, some (zi x), v2, v3, v4] (st) M = eb_E L d 223 195 [v0, some (zi x), v2, v3, v4] (zi x :: st) M := eb_E_s hk223 rfl
theorem e223_195 {s0 : Int32} : eb_E L d 223 195 ls ([a1, a0, zi s0]) M = (eb_ev L d 198 [a0, a1] M).bind (fun q => eb_E L d 223 198 ls [q.1, zi s0] q.2) := eb_E_c hk223 rfl
theorem e223_198 {x : Int32} {y : Int32} : eb_E L d 223 198 ls (zi y :: zi x :: st) M = eb_E L d 223 199 ls (zi (x * y) :: st) M := eb_E_s hk223 rfl
theorem e223_199 {x : Option eb_A} : eb_E L d 223 199 [v0, v1, some (Sum.inr x), v3, v4] (st) M = eb_E L d 223 200 [v0, v1, some (Sum.inr x), v3, v4] (Sum.inr x :: st) M := eb_E_s hk223 rfl
theorem e223_200  : eb_E L d 223 200 ls (st) M = eb_E L d 223 201 ls (zi 2 :: st) M := eb_E_s hk223 rfl
theorem e223_201 {x : Int32} : eb_E L d 223 201 ls (zi x :: Sum.inr (some a) :: st) (nc, ns, I, J, R) = if (eb_ty L a.1).1 = 10 ∧ eb_in x (eb_ty L a.1).2 = true then eb_E L d 223 202 ls (zi (I a x.toNatClampNeg) :: st) (nc, ns, I, J, R) else none := eb_E_iy hk223 rfl
theorem e223_202 {x : Int32} {y : Int32} : eb_E L d 223 202 ls (zi y :: zi x :: st) M = if x < y then eb_E L d 223 205 ls st M else eb_E L d 223 260 ls st M := eb_E_b hk223 rfl
theorem e223_205 {x : Option eb_A} : eb_E L d 223 205 [v0, v1, some (Sum.inr x), v3, v4] (st) M = eb_E L d 223 206 [v0, v1, some (Sum.inr x), v3, v4] (Sum.inr x :: st) M := eb_E_s hk223 rfl
theorem e223_206  : eb_E L d 223 206 ls (st) M = eb_E L d 223 207 ls (zi 0 :: st) M := eb_E_s hk223 rfl
theorem e223_207 {x : Int32} : eb_E L d 223 207 ls (zi x :: Sum.inr (some a) :: st) (nc, ns, I, J, R) = if (eb_ty L a.1).1 = 10 ∧ eb_in x (eb_ty L a.1).2 = true then eb_E L d 223 208 ls (zi (I a x.toNatClampNeg) :: st) (nc, ns, I, J, R) else none := eb_E_iy hk223 rfl
theorem e223_208  : eb_E L d 223 208 ls (st) M = eb_E L d 223 209 ls (zi 3 :: st) M := eb_E_s hk223 rfl
theorem e223_209 {x : Int32} {y : Int32} : eb_E L d 223 209 ls (zi y :: zi x :: st) M = eb_E L d 223 210 ls (zi (x + y) :: st) M := eb_E_s hk223 rfl
theorem e223_210 {x : Option eb_A} : eb_E L d 223 210 [v0, v1, some (Sum.inr x), v3, v4] (st) M = eb_E L d 223 211 [v0, v1, some (Sum.inr x), v3, v4] (Sum.inr x :: st) M := eb_E_s hk223 rfl
theorem e223_211  : eb_E L d 223 211 ls (st) M = eb_E L d 223 212 ls (zi 1 :: st) M := eb_E_s hk223 rfl
theorem e223_212 {x : Int32} : eb_E L d 223 212 ls (zi x :: Sum.inr (some a) :: st) (nc, ns, I, J, R) = if (eb_ty L a.1).1 = 10 ∧ eb_in x (eb_ty L a.1).2 = true then eb_E L d 223 213 ls (zi (I a x.toNatClampNeg) :: st) (nc, ns, I, J, R) else none := eb_E_iy hk223 rfl
theorem e223_213 {x : Int32} {y : Int32} : eb_E L d 223 213 ls (zi y :: zi x :: st) M = if y < x then eb_E L d 223 216 ls st M else eb_E L d 223 222 ls st M := eb_E_b hk223 rfl
theorem e223_216 {x : Option eb_A} : eb_E L d 223 216 [v0, v1, some (Sum.inr x), v3, v4] (st) M = eb_E L d 223 217 [v0, v1, some (Sum.inr x), v3, v4] (Sum.inr x :: st) M := eb_E_s hk223 rfl
theorem e223_217  : eb_E L d 223 217 ls (st) M = eb_E L d 223 218 ls (zi 1 :: st) M := eb_E_s hk223 rfl
theorem e223_218 {x : Int32} : eb_E L d 223 218 ls (zi x :: Sum.inr (some a) :: st) (nc, ns, I, J, R) = if (eb_ty L a.1).1 = 10 ∧ eb_in x (eb_ty L a.1).2 = true then eb_E L d 223 219 ls (zi (I a x.toNatClampNeg) :: st) (nc, ns, I, J, R) else none := eb_E_iy hk223 rfl
theorem e223_219  : eb_E L d 223 219 ls (st) M = eb_E L d 223 227 ls (st) M := eb_E_s hk223 rfl
theorem e223_222 {x : Option eb_A} : eb_E L d 223 222 [v0, v1, some (Sum.inr x), v3, v4] (st) M = eb_E L d 223 223 [v0, v1, some (Sum.inr x), v3, v4] (Sum.inr x :: st) M := eb_E_s hk223 rfl
theorem e223_223  : eb_E L d 223 223 ls (st) M = eb_E L d 223 224 ls (zi 0 :: st) M := eb_E_s hk223 rfl
theorem e223_224 {x : Int32} : eb_E L d 223 224 ls (zi x :: Sum.inr (some a) :: st) (nc, ns, I, J, R) = if (eb_ty L a.1).1 = 10 ∧ eb_in x (eb_ty L a.1).2 = true then eb_E L d 223 225 ls (zi (I a x.toNatClampNeg) :: st) (nc, ns, I, J, R) else none := eb_E_iy hk223 rfl
theorem e223_225  : eb_E L d 223 225 ls (st) M = eb_E L d 223 226 ls (zi 3 :: st) M := eb_E_s hk223 rfl
theorem e223_226 {x : Int32} {y : Int32} : eb_E L d 223 226 ls (zi y :: zi x :: st) M = eb_E L d 223 227 ls (zi (x + y) :: st) M := eb_E_s hk223 rfl
theorem e223_227 {x : Int32} : eb_E L d 223 227 [v0, v1, v2, v3, v4] (zi x :: st) M = eb_E L d 223 228 [v0, v1, v2, some (zi x), v4] (st) M := eb_E_s hk223 rfl
theorem e223_228 {x : Option eb_A} : eb_E L d 223 228 [v0, v1, some (Sum.inr x), v3, v4] (st) M = eb_E L d 223 229 [v0, v1, some (Sum.inr x), v3, v4] (Sum.inr x :: st) M := eb_E_s hk223 rfl
theorem e223_229  : eb_E L d 223 229 ls (st) M = eb_E L d 223 230 ls (zi 0 :: st) M := eb_E_s hk223 rfl
theorem e223_230 {x : Option eb_A} : eb_E L d 223 230 [v0, v1, some (Sum.inr x), v3, v4] (st) M = eb_E L d 223 231 [v0, v1, some (Sum.inr x), v3, v4] (Sum.inr x :: st) M := eb_E_s hk223 rfl
theorem e223_231  : eb_E L d 223 231 ls (st) M = eb_E L d 223 232 ls (zi 0 :: st) M := eb_E_s hk223 rfl
theorem e223_232 {x : Int32} : eb_E L d 223 232 ls (zi x :: Sum.inr (some a) :: st) (nc, ns, I, J, R) = if (eb_ty L a.1).1 = 10 ∧ eb_in x (eb_ty L a.1).2 = true then eb_E L d 223 233 ls (zi (I a x.toNatClampNeg) :: st) (nc, ns, I, J, R) else none := eb_E_iy hk223 rfl
theorem e223_233 {x : Option eb_A} : eb_E L d 223 233 [v0, v1, some (Sum.inr x), v3, v4] (st) M = eb_E L d 223 234 [v0, v1, some (Sum.inr x), v3, v4] (Sum.inr x :: st) M := eb_E_s hk223 rfl
theorem e223_234  : eb_E L d 223 234 ls (st) M = eb_E L d 223 235 ls (zi 1 :: st) M := eb_E_s hk223 rfl
theorem e223_235 {x : Int32} : eb_E L d 223 235 ls (zi x :: Sum.inr (some a) :: st) (nc, ns, I, J, R) = if (eb_ty L a.1).1 = 10 ∧ eb_in x (eb_ty L a.1).2 = true then eb_E L d 223 236 ls (zi (I a x.toNatClampNeg) :: st) (nc, ns, I, J, R) else none := eb_E_iy hk223 rfl
theorem e223_236 {x : Int32} {y : Int32} : eb_E L d 223 236 ls (zi y :: zi x :: st) M = if y < x then eb_E L d 223 239 ls st M else eb_E L d 223 245 ls st M := eb_E_b hk223 rfl
theorem e223_239 {x : Option eb_A} : eb_E L d 223 239 [v0, v1, some (Sum.inr x), v3, v4] (st) M = eb_E L d 223 240 [v0, v1, some (Sum.inr x), v3, v4] (Sum.inr x :: st) M := eb_E_s hk223 rfl
theorem e223_240  : eb_E L d 223 240 ls (st) M = eb_E L d 223 241 ls (zi 0 :: st) M := eb_E_s hk223 rfl
theorem e223_241 {x : Int32} : eb_E L d 223 241 ls (zi x :: Sum.inr (some a) :: st) (nc, ns, I, J, R) = if (eb_ty L a.1).1 = 10 ∧ eb_in x (eb_ty L a.1).2 = true then eb_E L d 223 242 ls (zi (I a x.toNatClampNeg) :: st) (nc, ns, I, J, R) else none := eb_E_iy hk223 rfl
theorem e223_242  : eb_E L d 223 242 ls (st) M = eb_E L d 223 246 ls (st) M := eb_E_s hk223 rfl
theorem e223_245 {x : Int32} : eb_E L d 223 245 [v0, v1, v2, some (zi x), v4] (st) M = eb_E L d 223 246 [v0, v1, v2, some (zi x), v4] (zi x :: st) M := eb_E_s hk223 rfl
theorem e223_246 {x : Int32} {v : Int32} : eb_E L d 223 246 ls (zi v :: zi x :: Sum.inr (some a) :: st) (nc, ns, I, J, R) = if (eb_ty L a.1).1 = 10 ∧ eb_in x (eb_ty L a.1).2 = true then eb_E L d 223 247 ls (st) (nc, ns, eb_u I a x.toNatClampNeg v, J, R) else none := eb_E_iy hk223 rfl
theorem e223_247 {x : Option eb_A} : eb_E L d 223 247 [v0, v1, some (Sum.inr x), v3, v4] (st) M = eb_E L d 223 248 [v0, v1, some (Sum.inr x), v3, v4] (Sum.inr x :: st) M := eb_E_s hk223 rfl
theorem e223_248  : eb_E L d 223 248 ls (st) M = eb_E L d 223 249 ls (zi 3 :: st) M := eb_E_s hk223 rfl
theorem e223_249 {x : Option eb_A} : eb_E L d 223 249 [v0, v1, some (Sum.inr x), v3, v4] (st) M = eb_E L d 223 250 [v0, v1, some (Sum.inr x), v3, v4] (Sum.inr x :: st) M := eb_E_s hk223 rfl
theorem e223_250  : eb_E L d 223 250 ls (st) M = eb_E L d 223 251 ls (zi 3 :: st) M := eb_E_s hk223 rfl
theorem e223_251 {x : Int32} : eb_E L d 223 251 ls (zi x :: Sum.inr (some a) :: st) (nc, ns, I, J, R) = if (eb_ty L a.1).1 = 10 ∧ eb_in x (eb_ty L a.1).2 = true then eb_E L d 223 252 ls (zi (I a x.toNatClampNeg) :: st) (nc, ns, I, J, R) else none := eb_E_iy hk223 rfl
theorem e223_252  : eb_E L d 223 252 ls (st) M = eb_E L d 223 253 ls (zi 1 :: st) M := eb_E_s hk223 rfl
theorem e223_253 {x : Int32} {y : Int32} : eb_E L d 223 253 ls (zi y :: zi x :: st) M = eb_E L d 223 254 ls (zi (x - y) :: st) M := eb_E_s hk223 rfl
theorem e223_254  : eb_E L d 223 254 ls (st) M = eb_E L d 223 256 ls (zi 99 :: st) M := eb_E_s hk223 rfl
theorem e223_256 {s0 : Int32} {s1 : Option eb_A} : eb_E L d 223 256 ls ([a1, a0, zi s0, Sum.inr s1]) M = (eb_ev L d 147 [a0, a1] M).bind (fun q => eb_E L d 223 259 ls [q.1, zi s0, Sum.inr s1] q.2) := eb_E_c hk223 rfl
theorem e223_259 {x : Int32} {v : Int32} : eb_E L d 223 259 ls (zi v :: zi x :: Sum.inr (some a) :: st) (nc, ns, I, J, R) = if (eb_ty L a.1).1 = 10 ∧ eb_in x (eb_ty L a.1).2 = true then eb_E L d 223 260 ls (st) (nc, ns, eb_u I a x.toNatClampNeg v, J, R) else none := eb_E_iy hk223 rfl
theorem e223_260 {x : Int32} : eb_E L d 223 260 [v0, some (zi x), v2, v3, v4] (st) M = eb_E L d 223 263 [v0, some (zi (x + 1)), v2, v3, v4] (st) M := eb_E_s hk223 rfl
theorem e223_263  : eb_E L d 223 263 ls (st) M = eb_E L d 223 132 ls (st) M := eb_E_s hk223 rfl
theorem e223_266 {x : Option eb_A} : eb_E L d 223 266 [some (Sum.inr x), v1, v2, v3, v4] (st) M = eb_E L d 223 267 [some (Sum.inr x), v1, v2, v3, v4] (Sum.inr x :: st) M := eb_E_s hk223 rfl
theorem e223_267 {x : Option eb_A} : eb_E L d 223 267 [some (Sum.inr x), v1, v2, v3, v4] (st) M = eb_E L d 223 268 [some (Sum.inr x), v1, v2, v3, v4] (Sum.inr x :: st) M := eb_E_s hk223 rfl
theorem e223_268  : eb_E L d 223 268 ls (Sum.inr (some a) :: st) (nc, ns, I, J, R) = if (eb_ty L a.1).1 = 6 then eb_E L d 223 271 ls (zi (I a 13) :: st) (nc, ns, I, J, R) else none := eb_E_iy hk223 rfl
theorem e223_271  : eb_E L d 223 271 ls (st) M = eb_E L d 223 272 ls (zi 1 :: st) M := eb_E_s hk223 rfl
theorem e223_272 {x : Int32} {y : Int32} : eb_E L d 223 272 ls (zi y :: zi x :: st) M = eb_E L d 223 273 ls (zi (x + y) :: st) M := eb_E_s hk223 rfl
theorem e223_273  : eb_E L d 223 273 ls (st) M = eb_E L d 223 275 ls (zi 99 :: st) M := eb_E_s hk223 rfl
theorem e223_275 {s0 : Option eb_A} : eb_E L d 223 275 ls ([a1, a0, Sum.inr s0]) M = (eb_ev L d 147 [a0, a1] M).bind (fun q => eb_E L d 223 278 ls [q.1, Sum.inr s0] q.2) := eb_E_c hk223 rfl
theorem e223_278 {x : Int32} : eb_E L d 223 278 ls (zi x :: Sum.inr (some a) :: st) (nc, ns, I, J, R) = if (eb_ty L a.1).1 = 6 then eb_E L d 223 281 ls (st) (nc, ns, eb_u I a 13 x, J, R) else none := eb_E_iy hk223 rfl
theorem e223_281 {x : Option eb_A} : eb_E L d 223 281 [some (Sum.inr x), v1, v2, v3, v4] (st) M = eb_E L d 223 282 [some (Sum.inr x), v1, v2, v3, v4] (Sum.inr x :: st) M := eb_E_s hk223 rfl
theorem e223_282a {x : Int32} : eb_E L d 223 282 ls (zi x :: st) M = eb_E L d 223 283 ls (zi x :: zi x :: st) M := eb_E_s hk223 rfl
theorem e223_282b {x : Option eb_A} : eb_E L d 223 282 ls (Sum.inr x :: st) M = eb_E L d 223 283 ls (Sum.inr x :: Sum.inr x :: st) M := eb_E_s hk223 rfl
theorem e223_283  : eb_E L d 223 283 ls (Sum.inr (some a) :: st) (nc, ns, I, J, R) = if (eb_ty L a.1).1 = 6 then eb_E L d 223 286 ls (zi (I a 14) :: st) (nc, ns, I, J, R) else none := eb_E_iy hk223 rfl
theorem e223_286  : eb_E L d 223 286 ls (st) M = eb_E L d 223 287 ls (zi 1 :: st) M := eb_E_s hk223 rfl
theorem e223_287 {x : Int32} {y : Int32} : eb_E L d 223 287 ls (zi y :: zi x :: st) M = eb_E L d 223 288 ls (zi (x + y) :: st) M := eb_E_s hk223 rfl
theorem e223_288 {x : Int32} : eb_E L d 223 288 ls (zi x :: Sum.inr (some a) :: st) (nc, ns, I, J, R) = if (eb_ty L a.1).1 = 6 then eb_E L d 223 291 ls (st) (nc, ns, eb_u I a 14 x, J, R) else none := eb_E_iy hk223 rfl
theorem e223_291  : eb_E L d 223 291 ls ([]) M = some (zn, M) := eb_E_r hk223 rfl
/-! X6_joyIn -/
theorem hk224 : eb_cd L 224 = eb_look (kt224 L) := rfl
theorem h224 (ha : (eb_ty L a.1).1 = 6) {x1 : Int32} {x2 : Int32} : eb_ev L (d + 1) 224 [zr a, zi x1, zi x2] M = eb_E L d 224 0 [some (zr a), some (zi x1), some (zi x2), none, none] [] M := eb_ev_s rfl (eb_chk_i ha rfl)
theorem e224_0  : eb_E L d 224 0 ls (st) M = eb_E L d 224 1 ls (zi 0 :: st) M := eb_E_s hk224 rfl
theorem e224_1 {x : Int32} : eb_E L d 224 1 [v0, v1, v2, v3, v4] (zi x :: st) M = eb_E L d 224 2 [v0, v1, v2, some (zi x), v4] (st) M := eb_E_s hk224 rfl
theorem e224_2  : eb_E L d 224 2 ls (st) M = eb_E L d 224 3 ls (zi 0 :: st) M := eb_E_s hk224 rfl
theorem e224_3 {x : Int32} : eb_E L d 224 3 [v0, v1, v2, v3, v4] (zi x :: st) M = eb_E L d 224 5 [v0, v1, v2, v3, some (zi x)] (st) M := eb_E_s hk224 rfl
theorem e224_5 {x : Int32} : eb_E L d 224 5 [v0, v1, v2, v3, some (zi x)] (st) M = eb_E L d 224 7 [v0, v1, v2, v3, some (zi x)] (zi x :: st) M := eb_E_s hk224 rfl
theorem e224_7 {x : Int32} : eb_E L d 224 7 [v0, some (zi x), v2, v3, v4] (st) M = eb_E L d 224 8 [v0, some (zi x), v2, v3, v4] (zi x :: st) M := eb_E_s hk224 rfl
theorem e224_8 {x : Int32} {y : Int32} : eb_E L d 224 8 ls (zi y :: zi x :: st) M = if x < y then eb_E L d 224 11 ls st M else eb_E L d 224 42 ls st M := eb_E_b hk224 rfl
theorem e224_11 {x : Option eb_A} : eb_E L d 224 11 [some (Sum.inr x), v1, v2, v3, v4] (st) M = eb_E L d 224 12 [some (Sum.inr x), v1, v2, v3, v4] (Sum.inr x :: st) M := eb_E_s hk224 rfl
theorem e224_12  : eb_E L d 224 12 ls ([a0]) M = (eb_ev L d 223 [a0] M).bind (fun q => eb_E L d 224 15 ls [] q.2) := eb_E_c hk224 rfl
theorem e224_15 {x : Int32} : eb_E L d 224 15 [v0, v1, v2, some (zi x), v4] (st) M = eb_E L d 224 16 [v0, v1, v2, some (zi x), v4] (zi x :: st) M := eb_E_s hk224 rfl
theorem e224_16 {x : Int32} : eb_E L d 224 16 [v0, v1, some (zi x), v3, v4] (st) M = eb_E L d 224 17 [v0, v1, some (zi x), v3, v4] (zi x :: st) M := eb_E_s hk224 rfl
theorem e224_17  : eb_E L d 224 17 ls (st) M = eb_E L d 224 18 ls (zi (-1) :: st) M := eb_E_s hk224 rfl
theorem e224_18 {x : Int32} {y : Int32} : eb_E L d 224 18 ls (zi y :: zi x :: st) M = if x = y then eb_E L d 224 21 ls st M else eb_E L d 224 28 ls st M := eb_E_b hk224 rfl
theorem e224_21 {x : Option eb_A} : eb_E L d 224 21 [some (Sum.inr x), v1, v2, v3, v4] (st) M = eb_E L d 224 22 [some (Sum.inr x), v1, v2, v3, v4] (Sum.inr x :: st) M := eb_E_s hk224 rfl
theorem e224_22  : eb_E L d 224 22 ls (Sum.inr (some a) :: st) (nc, ns, I, J, R) = if (eb_ty L a.1).1 = 6 then eb_E L d 224 25 ls (zi (I a 29) :: st) (nc, ns, I, J, R) else none := eb_E_iy hk224 rfl
theorem e224_25  : eb_E L d 224 25 ls (st) M = eb_E L d 224 34 ls (st) M := eb_E_s hk224 rfl
theorem e224_28 {x : Option eb_A} : eb_E L d 224 28 [some (Sum.inr x), v1, v2, v3, v4] (st) M = eb_E L d 224 29 [some (Sum.inr x), v1, v2, v3, v4] (Sum.inr x :: st) M := eb_E_s hk224 rfl
theorem e224_29  : eb_E L d 224 29 ls (Sum.inr (some a) :: st) (nc, ns, I, J, R) = if (eb_ty L a.1).1 = 6 then eb_E L d 224 32 ls (Sum.inr (R a 30) :: st) (nc, ns, I, J, R) else none := eb_E_iy hk224 rfl
theorem e224_32 {x : Int32} : eb_E L d 224 32 [v0, v1, some (zi x), v3, v4] (st) M = eb_E L d 224 33 [v0, v1, some (zi x), v3, v4] (zi x :: st) M := eb_E_s hk224 rfl
theorem e224_33 {x : Int32} : eb_E L d 224 33 ls (zi x :: Sum.inr (some a) :: st) (nc, ns, I, J, R) = if (eb_ty L a.1).1 = 10 ∧ eb_in x (eb_ty L a.1).2 = true then eb_E L d 224 34 ls (zi (I a x.toNatClampNeg) :: st) (nc, ns, I, J, R) else none := eb_E_iy hk224 rfl
theorem e224_34 {x : Int32} {y : Int32} : eb_E L d 224 34 ls (zi y :: zi x :: st) M = eb_E L d 224 35 ls (zi (x + y) :: st) M := eb_E_s hk224 rfl
theorem e224_35 {x : Int32} : eb_E L d 224 35 [v0, v1, v2, v3, v4] (zi x :: st) M = eb_E L d 224 36 [v0, v1, v2, some (zi x), v4] (st) M := eb_E_s hk224 rfl
theorem e224_36 {x : Int32} : eb_E L d 224 36 [v0, v1, v2, v3, some (zi x)] (st) M = eb_E L d 224 39 [v0, v1, v2, v3, some (zi (x + 1))] (st) M := eb_E_s hk224 rfl
theorem e224_39  : eb_E L d 224 39 ls (st) M = eb_E L d 224 5 ls (st) M := eb_E_s hk224 rfl
theorem e224_42 {x : Int32} : eb_E L d 224 42 [v0, v1, v2, some (zi x), v4] (st) M = eb_E L d 224 43 [v0, v1, v2, some (zi x), v4] (zi x :: st) M := eb_E_s hk224 rfl
theorem e224_43 {x : Int32} : eb_E L d 224 43 ls ([zi x]) M = some (zi x, M) := eb_E_r hk224 rfl
/-! X6_years -/
theorem hk225 : eb_cd L 225 = eb_look (kt225 L) := rfl
theorem h225 (ha : (eb_ty L a.1).1 = 6) {x1 : Int32} {x2 : Int32} : eb_ev L (d + 1) 225 [zr a, zi x1, zi x2] M = eb_E L d 225 0 [some (zr a), some (zi x1), some (zi x2)] [] M := eb_ev_s rfl (eb_chk_i ha rfl)
theorem e225_0 {x : Int32} : eb_E L d 225 0 [v0, some (zi x), v2] (st) M = eb_E L d 225 1 [v0, some (zi x), v2] (zi x :: st) M := eb_E_s hk225 rfl
theorem e225_1  : eb_E L d 225 1 ls ([a0]) M = (eb_ev L d 150 [a0] M).bind (fun q => eb_E L d 225 4 ls [q.1] q.2) := eb_E_c hk225 rfl
theorem e225_4 {x : Int32} : eb_E L d 225 4 ls (zi x :: st) M = if x = 0 then eb_E L d 225 20 ls st M else eb_E L d 225 7 ls st M := eb_E_b hk225 rfl
theorem e225_7 {x : Int32} : eb_E L d 225 7 [v0, v1, some (zi x)] (st) M = eb_E L d 225 8 [v0, v1, some (zi x)] (zi x :: st) M := eb_E_s hk225 rfl
theorem e225_8  : eb_E L d 225 8 ls (st) M = eb_E L d 225 9 ls (zi (-1) :: st) M := eb_E_s hk225 rfl
theorem e225_9 {x : Int32} {y : Int32} : eb_E L d 225 9 ls (zi y :: zi x :: st) M = if x = y then eb_E L d 225 30 ls st M else eb_E L d 225 12 ls st M := eb_E_b hk225 rfl
theorem e225_12 {x : Option eb_A} : eb_E L d 225 12 [some (Sum.inr x), v1, v2] (st) M = eb_E L d 225 13 [some (Sum.inr x), v1, v2] (Sum.inr x :: st) M := eb_E_s hk225 rfl
theorem e225_13 {x : Int32} : eb_E L d 225 13 [v0, v1, some (zi x)] (st) M = eb_E L d 225 14 [v0, v1, some (zi x)] (zi x :: st) M := eb_E_s hk225 rfl
theorem e225_14  : eb_E L d 225 14 ls ([a1, a0]) M = (eb_ev L d 149 [a0, a1] M).bind (fun q => eb_E L d 225 17 ls [q.1] q.2) := eb_E_c hk225 rfl
theorem e225_17 {x : Int32} : eb_E L d 225 17 ls (zi x :: st) M = if x = 0 then eb_E L d 225 20 ls st M else eb_E L d 225 30 ls st M := eb_E_b hk225 rfl
theorem e225_20  : eb_E L d 225 20 ls (st) M = eb_E L d 225 22 ls (zi (-1000000) :: st) M := eb_E_s hk225 rfl
theorem e225_22 {x : Option eb_A} : eb_E L d 225 22 [some (Sum.inr x), v1, v2] (st) M = eb_E L d 225 23 [some (Sum.inr x), v1, v2] (Sum.inr x :: st) M := eb_E_s hk225 rfl
theorem e225_23  : eb_E L d 225 23 ls (st) M = eb_E L d 225 25 ls (zi (-2) :: st) M := eb_E_s hk225 rfl
theorem e225_25 {s0 : Int32} : eb_E L d 225 25 ls ([a1, a0, zi s0]) M = (eb_ev L d 145 [a0, a1] M).bind (fun q => eb_E L d 225 28 ls [q.1, zi s0] q.2) := eb_E_c hk225 rfl
theorem e225_28 {x : Int32} {y : Int32} : eb_E L d 225 28 ls (zi y :: zi x :: st) M = eb_E L d 225 29 ls (zi (x + y) :: st) M := eb_E_s hk225 rfl
theorem e225_29 {x : Int32} : eb_E L d 225 29 ls ([zi x]) M = some (zi x, M) := eb_E_r hk225 rfl
theorem e225_30 {x : Option eb_A} : eb_E L d 225 30 [some (Sum.inr x), v1, v2] (st) M = eb_E L d 225 31 [some (Sum.inr x), v1, v2] (Sum.inr x :: st) M := eb_E_s hk225 rfl
theorem e225_31  : eb_E L d 225 31 ls ([a0]) M = (eb_ev L d 246 [a0] M).bind (fun q => eb_E L d 225 34 ls [q.1] q.2) := eb_E_c hk225 rfl
theorem e225_34 {x : Int32} : eb_E L d 225 34 [v0, some (zi x), v2] (st) M = eb_E L d 225 35 [v0, some (zi x), v2] (zi x :: st) M := eb_E_s hk225 rfl
theorem e225_35 {x : Int32} : eb_E L d 225 35 [v0, v1, some (zi x)] (st) M = eb_E L d 225 36 [v0, v1, some (zi x)] (zi x :: st) M := eb_E_s hk225 rfl
theorem e225_36  : eb_E L d 225 36 ls ([a2, a1, a0]) M = (eb_ev L d 224 [a0, a1, a2] M).bind (fun q => eb_E L d 225 39 ls [q.1] q.2) := eb_E_c hk225 rfl
theorem e225_39 {x : Int32} : eb_E L d 225 39 ls ([zi x]) M = some (zi x, M) := eb_E_r hk225 rfl
/-! X6_then -/
theorem hk226 : eb_cd L 226 = eb_look (kt226 L) := rfl
theorem h226 (ha : (eb_ty L a.1).1 = 6) {x1 : Int32} {x2 : Int32} {x3 : Int32} : eb_ev L (d + 1) 226 [zr a, zi x1, zi x2, zi x3] M = eb_E L d 226 0 [some (zr a), some (zi x1), some (zi x2), some (zi x3), none, none, none] [] M := eb_ev_s rfl (eb_chk_i ha rfl)
theorem e226_0 {x : Int32} : eb_E L d 226 0 [v0, some (zi x), v2, v3, v4, v5, v6] (st) M = eb_E L d 226 1 [v0, some (zi x), v2, v3, v4, v5, v6] (zi x :: st) M := eb_E_s hk226 rfl
theorem e226_1  : eb_E L d 226 1 ls ([a0]) M = (eb_ev L d 150 [a0] M).bind (fun q => eb_E L d 226 4 ls [q.1] q.2) := eb_E_c hk226 rfl
theorem e226_4 {x : Int32} : eb_E L d 226 4 ls (zi x :: st) M = if x = 0 then eb_E L d 226 27 ls st M else eb_E L d 226 7 ls st M := eb_E_b hk226 rfl
theorem e226_7 {x : Option eb_A} : eb_E L d 226 7 [some (Sum.inr x), v1, v2, v3, v4, v5, v6] (st) M = eb_E L d 226 8 [some (Sum.inr x), v1, v2, v3, v4, v5, v6] (Sum.inr x :: st) M := eb_E_s hk226 rfl
theorem e226_8 {x : Int32} : eb_E L d 226 8 [v0, v1, some (zi x), v3, v4, v5, v6] (st) M = eb_E L d 226 9 [v0, v1, some (zi x), v3, v4, v5, v6] (zi x :: st) M := eb_E_s hk226 rfl
theorem e226_9  : eb_E L d 226 9 ls ([a1, a0]) M = (eb_ev L d 148 [a0, a1] M).bind (fun q => eb_E L d 226 12 ls [q.1] q.2) := eb_E_c hk226 rfl
theorem e226_12 {x : Int32} : eb_E L d 226 12 ls (zi x :: st) M = if x = 0 then eb_E L d 226 27 ls st M else eb_E L d 226 15 ls st M := eb_E_b hk226 rfl
theorem e226_15 {x : Int32} : eb_E L d 226 15 [v0, v1, v2, some (zi x), v4, v5, v6] (st) M = eb_E L d 226 16 [v0, v1, v2, some (zi x), v4, v5, v6] (zi x :: st) M := eb_E_s hk226 rfl
theorem e226_16 {x : Int32} : eb_E L d 226 16 ls (zi x :: st) M = eb_E L d 226 17 ls (zl x.toInt64 :: st) M := eb_E_s hk226 rfl
theorem e226_17  : eb_E L d 226 17 ls (st) M = eb_E L d 226 18 ls (zl 0 :: st) M := eb_E_s hk226 rfl
theorem e226_18  : eb_E L d 226 18 ls (st) M = eb_E L d 226 21 ls (zl 2 :: st) M := eb_E_s hk226 rfl
theorem e226_21  : eb_E L d 226 21 ls ([a2, a1, a0]) M = (eb_ev L d 146 [a0, a1, a2] M).bind (fun q => eb_E L d 226 24 ls [q.1] q.2) := eb_E_c hk226 rfl
theorem e226_24 {x : Int32} : eb_E L d 226 24 ls (zi x :: st) M = if x = 0 then eb_E L d 226 27 ls st M else eb_E L d 226 34 ls st M := eb_E_b hk226 rfl
theorem e226_27 {x : Option eb_A} : eb_E L d 226 27 [some (Sum.inr x), v1, v2, v3, v4, v5, v6] (st) M = eb_E L d 226 28 [some (Sum.inr x), v1, v2, v3, v4, v5, v6] (Sum.inr x :: st) M := eb_E_s hk226 rfl
theorem e226_28  : eb_E L d 226 28 ls (st) M = eb_E L d 226 30 ls (zi (-2) :: st) M := eb_E_s hk226 rfl
theorem e226_30  : eb_E L d 226 30 ls ([a1, a0]) M = (eb_ev L d 145 [a0, a1] M).bind (fun q => eb_E L d 226 33 ls [q.1] q.2) := eb_E_c hk226 rfl
theorem e226_33 {x : Int32} : eb_E L d 226 33 ls ([zi x]) M = some (zi x, M) := eb_E_r hk226 rfl
theorem e226_34 {x : Option eb_A} : eb_E L d 226 34 [some (Sum.inr x), v1, v2, v3, v4, v5, v6] (st) M = eb_E L d 226 35 [some (Sum.inr x), v1, v2, v3, v4, v5, v6] (Sum.inr x :: st) M := eb_E_s hk226 rfl
theorem e226_35  : eb_E L d 226 35 ls ([a0]) M = (eb_ev L d 246 [a0] M).bind (fun q => eb_E L d 226 38 ls [q.1] q.2) := eb_E_c hk226 rfl
theorem e226_38 {x : Option eb_A} : eb_E L d 226 38 [v0, v1, v2, v3, v4, v5, v6] (Sum.inr x :: st) M = eb_E L d 226 40 [v0, v1, v2, v3, some (Sum.inr x), v5, v6] (st) M := eb_E_s hk226 rfl
theorem e226_40  : eb_E L d 226 40 ls (st) M = eb_E L d 226 41 ls (zi 0 :: st) M := eb_E_s hk226 rfl
theorem e226_41 {x : Int32} : eb_E L d 226 41 [v0, v1, v2, v3, v4, v5, v6] (zi x :: st) M = eb_E L d 226 43 [v0, v1, v2, v3, v4, some (zi x), v6] (st) M := eb_E_s hk226 rfl
theorem e226_43  : eb_E L d 226 43 ls (st) M = eb_E L d 226 44 ls (zi 0 :: st) M := eb_E_s hk226 rfl
theorem e226_44 {x : Int32} : eb_E L d 226 44 [v0, v1, v2, v3, v4, v5, v6] (zi x :: st) M = eb_E L d 226 46 [v0, v1, v2, v3, v4, v5, some (zi x)] (st) M := eb_E_s hk226 rfl
theorem e226_46 {x : Int32} : eb_E L d 226 46 [v0, v1, v2, v3, v4, v5, some (zi x)] (st) M = eb_E L d 226 48 [v0, v1, v2, v3, v4, v5, some (zi x)] (zi x :: st) M := eb_E_s hk226 rfl
theorem e226_48 {x : Int32} : eb_E L d 226 48 [v0, some (zi x), v2, v3, v4, v5, v6] (st) M = eb_E L d 226 49 [v0, some (zi x), v2, v3, v4, v5, v6] (zi x :: st) M := eb_E_s hk226 rfl
theorem e226_49 {x : Int32} {y : Int32} : eb_E L d 226 49 ls (zi y :: zi x :: st) M = if x < y then eb_E L d 226 52 ls st M else eb_E L d 226 75 ls st M := eb_E_b hk226 rfl
theorem e226_52 {x : Option eb_A} : eb_E L d 226 52 [v0, v1, v2, v3, some (Sum.inr x), v5, v6] (st) M = eb_E L d 226 54 [v0, v1, v2, v3, some (Sum.inr x), v5, v6] (Sum.inr x :: st) M := eb_E_s hk226 rfl
theorem e226_54  : eb_E L d 226 54 ls ([a0]) M = (eb_ev L d 223 [a0] M).bind (fun q => eb_E L d 226 57 ls [] q.2) := eb_E_c hk226 rfl
theorem e226_57 {x : Int32} : eb_E L d 226 57 [v0, v1, v2, v3, v4, some (zi x), v6] (st) M = eb_E L d 226 59 [v0, v1, v2, v3, v4, some (zi x), v6] (zi x :: st) M := eb_E_s hk226 rfl
theorem e226_59 {x : Option eb_A} : eb_E L d 226 59 [v0, v1, v2, v3, some (Sum.inr x), v5, v6] (st) M = eb_E L d 226 61 [v0, v1, v2, v3, some (Sum.inr x), v5, v6] (Sum.inr x :: st) M := eb_E_s hk226 rfl
theorem e226_61  : eb_E L d 226 61 ls (Sum.inr (some a) :: st) (nc, ns, I, J, R) = if (eb_ty L a.1).1 = 6 then eb_E L d 226 64 ls (Sum.inr (R a 31) :: st) (nc, ns, I, J, R) else none := eb_E_iy hk226 rfl
theorem e226_64 {x : Int32} : eb_E L d 226 64 [v0, v1, some (zi x), v3, v4, v5, v6] (st) M = eb_E L d 226 65 [v0, v1, some (zi x), v3, v4, v5, v6] (zi x :: st) M := eb_E_s hk226 rfl
theorem e226_65 {x : Int32} : eb_E L d 226 65 ls (zi x :: Sum.inr (some a) :: st) (nc, ns, I, J, R) = if (eb_ty L a.1).1 = 10 ∧ eb_in x (eb_ty L a.1).2 = true then eb_E L d 226 66 ls (zi (I a x.toNatClampNeg) :: st) (nc, ns, I, J, R) else none := eb_E_iy hk226 rfl
theorem e226_66 {x : Int32} {y : Int32} : eb_E L d 226 66 ls (zi y :: zi x :: st) M = eb_E L d 226 67 ls (zi (x + y) :: st) M := eb_E_s hk226 rfl
theorem e226_67 {x : Int32} : eb_E L d 226 67 [v0, v1, v2, v3, v4, v5, v6] (zi x :: st) M = eb_E L d 226 69 [v0, v1, v2, v3, v4, some (zi x), v6] (st) M := eb_E_s hk226 rfl
theorem e226_69 {x : Int32} : eb_E L d 226 69 [v0, v1, v2, v3, v4, v5, some (zi x)] (st) M = eb_E L d 226 72 [v0, v1, v2, v3, v4, v5, some (zi (x + 1))] (st) M := eb_E_s hk226 rfl
theorem e226_72  : eb_E L d 226 72 ls (st) M = eb_E L d 226 46 ls (st) M := eb_E_s hk226 rfl
theorem e226_75 {x : Int32} : eb_E L d 226 75 [v0, v1, v2, some (zi x), v4, v5, v6] (st) M = eb_E L d 226 76 [v0, v1, v2, some (zi x), v4, v5, v6] (zi x :: st) M := eb_E_s hk226 rfl
theorem e226_76 {x : Int32} : eb_E L d 226 76 ls (zi x :: st) M = if x = 0 then eb_E L d 226 79 ls st M else eb_E L d 226 91 ls st M := eb_E_b hk226 rfl
theorem e226_79 {x : Option eb_A} : eb_E L d 226 79 [v0, v1, v2, v3, some (Sum.inr x), v5, v6] (st) M = eb_E L d 226 81 [v0, v1, v2, v3, some (Sum.inr x), v5, v6] (Sum.inr x :: st) M := eb_E_s hk226 rfl
theorem e226_81  : eb_E L d 226 81 ls (Sum.inr (some a) :: st) (nc, ns, I, J, R) = if (eb_ty L a.1).1 = 6 then eb_E L d 226 84 ls (Sum.inr (R a 10) :: st) (nc, ns, I, J, R) else none := eb_E_iy hk226 rfl
theorem e226_84 {x : Int32} : eb_E L d 226 84 [v0, v1, some (zi x), v3, v4, v5, v6] (st) M = eb_E L d 226 85 [v0, v1, some (zi x), v3, v4, v5, v6] (zi x :: st) M := eb_E_s hk226 rfl
theorem e226_85 {x : Int32} : eb_E L d 226 85 ls (zi x :: Sum.inr (some a) :: st) (nc, ns, I, J, R) = if (12 ≤ (eb_ty L a.1).1 ∧ (eb_ty L a.1).1 ≤ 16) ∧ eb_in x (eb_ty L a.1).2 = true then eb_E L d 226 86 ls (Sum.inr (R a x.toNatClampNeg) :: st) (nc, ns, I, J, R) else none := eb_E_iy hk226 rfl
theorem e226_86  : eb_E L d 226 86 ls (st) M = eb_E L d 226 87 ls (zi 0 :: st) M := eb_E_s hk226 rfl
theorem e226_87 {x : Int32} : eb_E L d 226 87 ls (zi x :: Sum.inr (some a) :: st) (nc, ns, I, J, R) = if (eb_ty L a.1).1 = 10 ∧ eb_in x (eb_ty L a.1).2 = true then eb_E L d 226 88 ls (zi (I a x.toNatClampNeg) :: st) (nc, ns, I, J, R) else none := eb_E_iy hk226 rfl
theorem e226_88  : eb_E L d 226 88 ls (st) M = eb_E L d 226 110 ls (st) M := eb_E_s hk226 rfl
theorem e226_91 {x : Int32} : eb_E L d 226 91 [v0, v1, v2, some (zi x), v4, v5, v6] (st) M = eb_E L d 226 92 [v0, v1, v2, some (zi x), v4, v5, v6] (zi x :: st) M := eb_E_s hk226 rfl
theorem e226_92  : eb_E L d 226 92 ls (st) M = eb_E L d 226 93 ls (zi 1 :: st) M := eb_E_s hk226 rfl
theorem e226_93 {x : Int32} {y : Int32} : eb_E L d 226 93 ls (zi y :: zi x :: st) M = if x = y then eb_E L d 226 96 ls st M else eb_E L d 226 108 ls st M := eb_E_b hk226 rfl
theorem e226_96 {x : Option eb_A} : eb_E L d 226 96 [v0, v1, v2, v3, some (Sum.inr x), v5, v6] (st) M = eb_E L d 226 98 [v0, v1, v2, v3, some (Sum.inr x), v5, v6] (Sum.inr x :: st) M := eb_E_s hk226 rfl
theorem e226_98  : eb_E L d 226 98 ls (Sum.inr (some a) :: st) (nc, ns, I, J, R) = if (eb_ty L a.1).1 = 6 then eb_E L d 226 101 ls (Sum.inr (R a 10) :: st) (nc, ns, I, J, R) else none := eb_E_iy hk226 rfl
theorem e226_101 {x : Int32} : eb_E L d 226 101 [v0, v1, some (zi x), v3, v4, v5, v6] (st) M = eb_E L d 226 102 [v0, v1, some (zi x), v3, v4, v5, v6] (zi x :: st) M := eb_E_s hk226 rfl
theorem e226_102 {x : Int32} : eb_E L d 226 102 ls (zi x :: Sum.inr (some a) :: st) (nc, ns, I, J, R) = if (12 ≤ (eb_ty L a.1).1 ∧ (eb_ty L a.1).1 ≤ 16) ∧ eb_in x (eb_ty L a.1).2 = true then eb_E L d 226 103 ls (Sum.inr (R a x.toNatClampNeg) :: st) (nc, ns, I, J, R) else none := eb_E_iy hk226 rfl
theorem e226_103  : eb_E L d 226 103 ls (st) M = eb_E L d 226 104 ls (zi 3 :: st) M := eb_E_s hk226 rfl
theorem e226_104 {x : Int32} : eb_E L d 226 104 ls (zi x :: Sum.inr (some a) :: st) (nc, ns, I, J, R) = if (eb_ty L a.1).1 = 10 ∧ eb_in x (eb_ty L a.1).2 = true then eb_E L d 226 105 ls (zi (I a x.toNatClampNeg) :: st) (nc, ns, I, J, R) else none := eb_E_iy hk226 rfl
theorem e226_105  : eb_E L d 226 105 ls (st) M = eb_E L d 226 110 ls (st) M := eb_E_s hk226 rfl
theorem e226_108 {x : Int32} : eb_E L d 226 108 [v0, v1, v2, v3, v4, some (zi x), v6] (st) M = eb_E L d 226 110 [v0, v1, v2, v3, v4, some (zi x), v6] (zi x :: st) M := eb_E_s hk226 rfl
theorem e226_110 {x : Int32} : eb_E L d 226 110 ls ([zi x]) M = some (zi x, M) := eb_E_r hk226 rfl
/-! X6_writtenBy -/
theorem hk227 : eb_cd L 227 = eb_look (kt227 L) := rfl
theorem h227 (ha : (eb_ty L a.1).1 = 6) {x1 : Int32} {x2 : Int32} : eb_ev L (d + 1) 227 [zr a, zi x1, zi x2] M = eb_E L d 227 0 [some (zr a), some (zi x1), some (zi x2), none] [] M := eb_ev_s rfl (eb_chk_i ha rfl)
theorem e227_0 {x : Option eb_A} : eb_E L d 227 0 [some (Sum.inr x), v1, v2, v3] (st) M = eb_E L d 227 1 [some (Sum.inr x), v1, v2, v3] (Sum.inr x :: st) M := eb_E_s hk227 rfl
theorem e227_1  : eb_E L d 227 1 ls ([a0]) M = (eb_ev L d 246 [a0] M).bind (fun q => eb_E L d 227 4 ls [q.1] q.2) := eb_E_c hk227 rfl
theorem e227_4 {x : Option eb_A} : eb_E L d 227 4 [v0, v1, v2, v3] (Sum.inr x :: st) M = eb_E L d 227 5 [v0, v1, v2, some (Sum.inr x)] (st) M := eb_E_s hk227 rfl
theorem e227_5 {x : Option eb_A} : eb_E L d 227 5 [v0, v1, v2, some (Sum.inr x)] (st) M = eb_E L d 227 6 [v0, v1, v2, some (Sum.inr x)] (Sum.inr x :: st) M := eb_E_s hk227 rfl
theorem e227_6 {x : Int32} : eb_E L d 227 6 [v0, v1, some (zi x), v3] (st) M = eb_E L d 227 7 [v0, v1, some (zi x), v3] (zi x :: st) M := eb_E_s hk227 rfl
theorem e227_7  : eb_E L d 227 7 ls ([a1, a0]) M = (eb_ev L d 166 [a0, a1] M).bind (fun q => eb_E L d 227 10 ls [q.1] q.2) := eb_E_c hk227 rfl
theorem e227_10a {x : Int32} : eb_E L d 227 10 ls (zi x :: st) M = eb_E L d 227 11 ls (st) M := eb_E_s hk227 rfl
theorem e227_10b {x : Option eb_A} : eb_E L d 227 10 ls (Sum.inr x :: st) M = eb_E L d 227 11 ls (st) M := eb_E_s hk227 rfl
theorem e227_11 {x : Option eb_A} : eb_E L d 227 11 [v0, v1, v2, some (Sum.inr x)] (st) M = eb_E L d 227 12 [v0, v1, v2, some (Sum.inr x)] (Sum.inr x :: st) M := eb_E_s hk227 rfl
theorem e227_12 {x : Int32} : eb_E L d 227 12 [v0, some (zi x), v2, v3] (st) M = eb_E L d 227 13 [v0, some (zi x), v2, v3] (zi x :: st) M := eb_E_s hk227 rfl
theorem e227_13  : eb_E L d 227 13 ls (st) M = eb_E L d 227 14 ls (zi (-1) :: st) M := eb_E_s hk227 rfl
theorem e227_14  : eb_E L d 227 14 ls ([a2, a1, a0]) M = (eb_ev L d 224 [a0, a1, a2] M).bind (fun q => eb_E L d 227 17 ls [q.1] q.2) := eb_E_c hk227 rfl
theorem e227_17 {x : Int32} : eb_E L d 227 17 ls ([zi x]) M = some (zi x, M) := eb_E_r hk227 rfl
/-! X6_bestBook -/
theorem hk228 : eb_cd L 228 = eb_look (kt228 L) := rfl
theorem h228 (ha : (eb_ty L a.1).1 = 6) {x1 : Int32} {x2 : Int32} : eb_ev L (d + 1) 228 [zr a, zi x1, zi x2] M = eb_E L d 228 0 [some (zr a), some (zi x1), some (zi x2), none, none, none, none] [] M := eb_ev_s rfl (eb_chk_i ha rfl)
theorem e228_0  : eb_E L d 228 0 ls (st) M = eb_E L d 228 1 ls (zi (-1) :: st) M := eb_E_s hk228 rfl
theorem e228_1 {x : Int32} : eb_E L d 228 1 [v0, v1, v2, v3, v4, v5, v6] (zi x :: st) M = eb_E L d 228 2 [v0, v1, v2, some (zi x), v4, v5, v6] (st) M := eb_E_s hk228 rfl
theorem e228_2  : eb_E L d 228 2 ls (st) M = eb_E L d 228 3 ls (zi 0 :: st) M := eb_E_s hk228 rfl
theorem e228_3 {x : Int32} : eb_E L d 228 3 [v0, v1, v2, v3, v4, v5, v6] (zi x :: st) M = eb_E L d 228 5 [v0, v1, v2, v3, some (zi x), v5, v6] (st) M := eb_E_s hk228 rfl
theorem e228_5 {x : Int32} : eb_E L d 228 5 [v0, v1, v2, v3, some (zi x), v5, v6] (st) M = eb_E L d 228 7 [v0, v1, v2, v3, some (zi x), v5, v6] (zi x :: st) M := eb_E_s hk228 rfl
theorem e228_7  : eb_E L d 228 7 ls (st) M = eb_E L d 228 8 ls (zi 1 :: st) M := eb_E_s hk228 rfl
theorem e228_8 {x : Option eb_A} : eb_E L d 228 8 [some (Sum.inr x), v1, v2, v3, v4, v5, v6] (st) M = eb_E L d 228 9 [some (Sum.inr x), v1, v2, v3, v4, v5, v6] (Sum.inr x :: st) M := eb_E_s hk228 rfl
theorem e228_9  : eb_E L d 228 9 ls (Sum.inr (some a) :: st) (nc, ns, I, J, R) = if (eb_ty L a.1).1 = 6 then eb_E L d 228 12 ls (zi (I a 9) :: st) (nc, ns, I, J, R) else none := eb_E_iy hk228 rfl
theorem e228_12 {x : Int32} {y : Int32} : eb_E L d 228 12 ls (zi y :: zi x :: st) M = eb_E L d 228 13 ls (zi (x <<< (y &&& 31)) :: st) M := eb_E_s hk228 rfl
theorem e228_13 {x : Int32} {y : Int32} : eb_E L d 228 13 ls (zi y :: zi x :: st) M = if x < y then eb_E L d 228 16 ls st M else eb_E L d 228 93 ls st M := eb_E_b hk228 rfl
theorem e228_16  : eb_E L d 228 16 ls (st) M = eb_E L d 228 17 ls (zi 0 :: st) M := eb_E_s hk228 rfl
theorem e228_17 {x : Int32} : eb_E L d 228 17 [v0, v1, v2, v3, v4, v5, v6] (zi x :: st) M = eb_E L d 228 19 [v0, v1, v2, v3, v4, some (zi x), v6] (st) M := eb_E_s hk228 rfl
theorem e228_19  : eb_E L d 228 19 ls (st) M = eb_E L d 228 20 ls (zi 0 :: st) M := eb_E_s hk228 rfl
theorem e228_20 {x : Int32} : eb_E L d 228 20 [v0, v1, v2, v3, v4, v5, v6] (zi x :: st) M = eb_E L d 228 22 [v0, v1, v2, v3, v4, v5, some (zi x)] (st) M := eb_E_s hk228 rfl
theorem e228_22 {x : Int32} : eb_E L d 228 22 [v0, v1, v2, v3, v4, v5, some (zi x)] (st) M = eb_E L d 228 24 [v0, v1, v2, v3, v4, v5, some (zi x)] (zi x :: st) M := eb_E_s hk228 rfl
theorem e228_24 {x : Option eb_A} : eb_E L d 228 24 [some (Sum.inr x), v1, v2, v3, v4, v5, v6] (st) M = eb_E L d 228 25 [some (Sum.inr x), v1, v2, v3, v4, v5, v6] (Sum.inr x :: st) M := eb_E_s hk228 rfl
theorem e228_25  : eb_E L d 228 25 ls (Sum.inr (some a) :: st) (nc, ns, I, J, R) = if (eb_ty L a.1).1 = 6 then eb_E L d 228 28 ls (zi (I a 9) :: st) (nc, ns, I, J, R) else none := eb_E_iy hk228 rfl
theorem e228_28 {x : Int32} {y : Int32} : eb_E L d 228 28 ls (zi y :: zi x :: st) M = if x < y then eb_E L d 228 31 ls st M else eb_E L d 228 49 ls st M := eb_E_b hk228 rfl
theorem e228_31 {x : Int32} : eb_E L d 228 31 [v0, v1, v2, v3, v4, some (zi x), v6] (st) M = eb_E L d 228 33 [v0, v1, v2, v3, v4, some (zi x), v6] (zi x :: st) M := eb_E_s hk228 rfl
theorem e228_33 {x : Int32} : eb_E L d 228 33 [v0, v1, v2, v3, some (zi x), v5, v6] (st) M = eb_E L d 228 35 [v0, v1, v2, v3, some (zi x), v5, v6] (zi x :: st) M := eb_E_s hk228 rfl
theorem e228_35 {x : Int32} : eb_E L d 228 35 [v0, v1, v2, v3, v4, v5, some (zi x)] (st) M = eb_E L d 228 37 [v0, v1, v2, v3, v4, v5, some (zi x)] (zi x :: st) M := eb_E_s hk228 rfl
theorem e228_37 {x : Int32} {y : Int32} : eb_E L d 228 37 ls (zi y :: zi x :: st) M = eb_E L d 228 38 ls (zi (x >>> (y &&& 31)) :: st) M := eb_E_s hk228 rfl
theorem e228_38  : eb_E L d 228 38 ls (st) M = eb_E L d 228 39 ls (zi 1 :: st) M := eb_E_s hk228 rfl
theorem e228_39 {x : Int32} {y : Int32} : eb_E L d 228 39 ls (zi y :: zi x :: st) M = eb_E L d 228 40 ls (zi (x &&& y) :: st) M := eb_E_s hk228 rfl
theorem e228_40 {x : Int32} {y : Int32} : eb_E L d 228 40 ls (zi y :: zi x :: st) M = eb_E L d 228 41 ls (zi (x + y) :: st) M := eb_E_s hk228 rfl
theorem e228_41 {x : Int32} : eb_E L d 228 41 [v0, v1, v2, v3, v4, v5, v6] (zi x :: st) M = eb_E L d 228 43 [v0, v1, v2, v3, v4, some (zi x), v6] (st) M := eb_E_s hk228 rfl
theorem e228_43 {x : Int32} : eb_E L d 228 43 [v0, v1, v2, v3, v4, v5, some (zi x)] (st) M = eb_E L d 228 46 [v0, v1, v2, v3, v4, v5, some (zi (x + 1))] (st) M := eb_E_s hk228 rfl
theorem e228_46  : eb_E L d 228 46 ls (st) M = eb_E L d 228 22 ls (st) M := eb_E_s hk228 rfl
theorem e228_49 {x : Int32} : eb_E L d 228 49 [v0, v1, v2, v3, v4, some (zi x), v6] (st) M = eb_E L d 228 51 [v0, v1, v2, v3, v4, some (zi x), v6] (zi x :: st) M := eb_E_s hk228 rfl
theorem e228_51 {x : Int32} : eb_E L d 228 51 [v0, v1, some (zi x), v3, v4, v5, v6] (st) M = eb_E L d 228 52 [v0, v1, some (zi x), v3, v4, v5, v6] (zi x :: st) M := eb_E_s hk228 rfl
theorem e228_52 {x : Int32} {y : Int32} : eb_E L d 228 52 ls (zi y :: zi x :: st) M = if y < x then eb_E L d 228 87 ls st M else eb_E L d 228 55 ls st M := eb_E_b hk228 rfl
theorem e228_55 {x : Option eb_A} : eb_E L d 228 55 [some (Sum.inr x), v1, v2, v3, v4, v5, v6] (st) M = eb_E L d 228 56 [some (Sum.inr x), v1, v2, v3, v4, v5, v6] (Sum.inr x :: st) M := eb_E_s hk228 rfl
theorem e228_56 {x : Int32} : eb_E L d 228 56 [v0, some (zi x), v2, v3, v4, v5, v6] (st) M = eb_E L d 228 57 [v0, some (zi x), v2, v3, v4, v5, v6] (zi x :: st) M := eb_E_s hk228 rfl
theorem e228_57 {x : Int32} : eb_E L d 228 57 [v0, v1, v2, v3, some (zi x), v5, v6] (st) M = eb_E L d 228 59 [v0, v1, v2, v3, some (zi x), v5, v6] (zi x :: st) M := eb_E_s hk228 rfl
theorem e228_59  : eb_E L d 228 59 ls ([a2, a1, a0]) M = (eb_ev L d 227 [a0, a1, a2] M).bind (fun q => eb_E L d 228 62 ls [q.1] q.2) := eb_E_c hk228 rfl
theorem e228_62 {x : Int32} : eb_E L d 228 62 [v0, v1, v2, v3, v4, v5, v6] (zi x :: st) M = eb_E L d 228 64 [v0, v1, v2, v3, v4, v5, some (zi x)] (st) M := eb_E_s hk228 rfl
theorem e228_64 {x : Int32} : eb_E L d 228 64 [v0, v1, v2, some (zi x), v4, v5, v6] (st) M = eb_E L d 228 65 [v0, v1, v2, some (zi x), v4, v5, v6] (zi x :: st) M := eb_E_s hk228 rfl
theorem e228_65  : eb_E L d 228 65 ls (st) M = eb_E L d 228 66 ls (zi (-1) :: st) M := eb_E_s hk228 rfl
theorem e228_66 {x : Int32} {y : Int32} : eb_E L d 228 66 ls (zi y :: zi x :: st) M = if x = y then eb_E L d 228 78 ls st M else eb_E L d 228 69 ls st M := eb_E_b hk228 rfl
theorem e228_69 {x : Int32} : eb_E L d 228 69 [v0, v1, v2, v3, v4, v5, some (zi x)] (st) M = eb_E L d 228 71 [v0, v1, v2, v3, v4, v5, some (zi x)] (zi x :: st) M := eb_E_s hk228 rfl
theorem e228_71 {x : Option eb_A} : eb_E L d 228 71 [some (Sum.inr x), v1, v2, v3, v4, v5, v6] (st) M = eb_E L d 228 72 [some (Sum.inr x), v1, v2, v3, v4, v5, v6] (Sum.inr x :: st) M := eb_E_s hk228 rfl
theorem e228_72  : eb_E L d 228 72 ls (Sum.inr (some a) :: st) (nc, ns, I, J, R) = if (eb_ty L a.1).1 = 6 then eb_E L d 228 75 ls (zi (I a 32) :: st) (nc, ns, I, J, R) else none := eb_E_iy hk228 rfl
theorem e228_75 {x : Int32} {y : Int32} : eb_E L d 228 75 ls (zi y :: zi x :: st) M = if y < x then eb_E L d 228 78 ls st M else eb_E L d 228 87 ls st M := eb_E_b hk228 rfl
theorem e228_78 {x : Int32} : eb_E L d 228 78 [v0, v1, v2, v3, some (zi x), v5, v6] (st) M = eb_E L d 228 80 [v0, v1, v2, v3, some (zi x), v5, v6] (zi x :: st) M := eb_E_s hk228 rfl
theorem e228_80 {x : Int32} : eb_E L d 228 80 [v0, v1, v2, v3, v4, v5, v6] (zi x :: st) M = eb_E L d 228 81 [v0, v1, v2, some (zi x), v4, v5, v6] (st) M := eb_E_s hk228 rfl
theorem e228_81 {x : Option eb_A} : eb_E L d 228 81 [some (Sum.inr x), v1, v2, v3, v4, v5, v6] (st) M = eb_E L d 228 82 [some (Sum.inr x), v1, v2, v3, v4, v5, v6] (Sum.inr x :: st) M := eb_E_s hk228 rfl
theorem e228_82 {x : Int32} : eb_E L d 228 82 [v0, v1, v2, v3, v4, v5, some (zi x)] (st) M = eb_E L d 228 84 [v0, v1, v2, v3, v4, v5, some (zi x)] (zi x :: st) M := eb_E_s hk228 rfl
theorem e228_84 {x : Int32} : eb_E L d 228 84 ls (zi x :: Sum.inr (some a) :: st) (nc, ns, I, J, R) = if (eb_ty L a.1).1 = 6 then eb_E L d 228 87 ls (st) (nc, ns, eb_u I a 32 x, J, R) else none := eb_E_iy hk228 rfl
theorem e228_87 {x : Int32} : eb_E L d 228 87 [v0, v1, v2, v3, some (zi x), v5, v6] (st) M = eb_E L d 228 90 [v0, v1, v2, v3, some (zi (x + 1)), v5, v6] (st) M := eb_E_s hk228 rfl
theorem e228_90  : eb_E L d 228 90 ls (st) M = eb_E L d 228 5 ls (st) M := eb_E_s hk228 rfl
theorem e228_93 {x : Int32} : eb_E L d 228 93 [v0, v1, v2, some (zi x), v4, v5, v6] (st) M = eb_E L d 228 94 [v0, v1, v2, some (zi x), v4, v5, v6] (zi x :: st) M := eb_E_s hk228 rfl
theorem e228_94 {x : Int32} : eb_E L d 228 94 ls ([zi x]) M = some (zi x, M) := eb_E_r hk228 rfl
/-! X6_book -/
theorem hk229 : eb_cd L 229 = eb_look (kt229 L) := rfl
theorem h229 (ha : (eb_ty L a.1).1 = 6) {x1 : Int32} {x2 : Int32} : eb_ev L (d + 1) 229 [zr a, zi x1, zi x2] M = eb_E L d 229 0 [some (zr a), some (zi x1), some (zi x2)] [] M := eb_ev_s rfl (eb_chk_i ha rfl)
theorem e229_0 {x : Int32} : eb_E L d 229 0 [v0, some (zi x), v2] (st) M = eb_E L d 229 1 [v0, some (zi x), v2] (zi x :: st) M := eb_E_s hk229 rfl
theorem e229_1  : eb_E L d 229 1 ls ([a0]) M = (eb_ev L d 150 [a0] M).bind (fun q => eb_E L d 229 4 ls [q.1] q.2) := eb_E_c hk229 rfl
theorem e229_4 {x : Int32} : eb_E L d 229 4 ls (zi x :: st) M = if x = 0 then eb_E L d 229 28 ls st M else eb_E L d 229 7 ls st M := eb_E_b hk229 rfl
theorem e229_7 {x : Int32} : eb_E L d 229 7 [v0, v1, some (zi x)] (st) M = eb_E L d 229 8 [v0, v1, some (zi x)] (zi x :: st) M := eb_E_s hk229 rfl
theorem e229_8 {x : Int32} : eb_E L d 229 8 ls (zi x :: st) M = eb_E L d 229 9 ls (zl x.toInt64 :: st) M := eb_E_s hk229 rfl
theorem e229_9  : eb_E L d 229 9 ls (st) M = eb_E L d 229 10 ls (zl 0 :: st) M := eb_E_s hk229 rfl
theorem e229_10  : eb_E L d 229 10 ls (st) M = eb_E L d 229 13 ls (zl 6 :: st) M := eb_E_s hk229 rfl
theorem e229_13  : eb_E L d 229 13 ls ([a2, a1, a0]) M = (eb_ev L d 146 [a0, a1, a2] M).bind (fun q => eb_E L d 229 16 ls [q.1] q.2) := eb_E_c hk229 rfl
theorem e229_16 {x : Int32} : eb_E L d 229 16 ls (zi x :: st) M = if x = 0 then eb_E L d 229 28 ls st M else eb_E L d 229 19 ls st M := eb_E_b hk229 rfl
theorem e229_19 {x : Option eb_A} : eb_E L d 229 19 [some (Sum.inr x), v1, v2] (st) M = eb_E L d 229 20 [some (Sum.inr x), v1, v2] (Sum.inr x :: st) M := eb_E_s hk229 rfl
theorem e229_20 {x : Int32} : eb_E L d 229 20 [v0, some (zi x), v2] (st) M = eb_E L d 229 21 [v0, some (zi x), v2] (zi x :: st) M := eb_E_s hk229 rfl
theorem e229_21 {x : Int32} : eb_E L d 229 21 [v0, v1, some (zi x)] (st) M = eb_E L d 229 22 [v0, v1, some (zi x)] (zi x :: st) M := eb_E_s hk229 rfl
theorem e229_22  : eb_E L d 229 22 ls ([a2, a1, a0]) M = (eb_ev L d 228 [a0, a1, a2] M).bind (fun q => eb_E L d 229 25 ls [q.1] q.2) := eb_E_c hk229 rfl
theorem e229_25  : eb_E L d 229 25 ls (st) M = eb_E L d 229 34 ls (st) M := eb_E_s hk229 rfl
theorem e229_28 {x : Option eb_A} : eb_E L d 229 28 [some (Sum.inr x), v1, v2] (st) M = eb_E L d 229 29 [some (Sum.inr x), v1, v2] (Sum.inr x :: st) M := eb_E_s hk229 rfl
theorem e229_29  : eb_E L d 229 29 ls (st) M = eb_E L d 229 31 ls (zi (-2) :: st) M := eb_E_s hk229 rfl
theorem e229_31  : eb_E L d 229 31 ls ([a1, a0]) M = (eb_ev L d 145 [a0, a1] M).bind (fun q => eb_E L d 229 34 ls [q.1] q.2) := eb_E_c hk229 rfl
theorem e229_34 {x : Int32} : eb_E L d 229 34 ls ([zi x]) M = some (zi x, M) := eb_E_r hk229 rfl
/-! X6_written -/
theorem hk230 : eb_cd L 230 = eb_look (kt230 L) := rfl
theorem h230 (ha : (eb_ty L a.1).1 = 6) {x1 : Int32} {x2 : Int32} : eb_ev L (d + 1) 230 [zr a, zi x1, zi x2] M = eb_E L d 230 0 [some (zr a), some (zi x1), some (zi x2)] [] M := eb_ev_s rfl (eb_chk_i ha rfl)
theorem e230_0 {x : Int32} : eb_E L d 230 0 [v0, some (zi x), v2] (st) M = eb_E L d 230 1 [v0, some (zi x), v2] (zi x :: st) M := eb_E_s hk230 rfl
theorem e230_1  : eb_E L d 230 1 ls ([a0]) M = (eb_ev L d 150 [a0] M).bind (fun q => eb_E L d 230 4 ls [q.1] q.2) := eb_E_c hk230 rfl
theorem e230_4 {x : Int32} : eb_E L d 230 4 ls (zi x :: st) M = if x = 0 then eb_E L d 230 24 ls st M else eb_E L d 230 7 ls st M := eb_E_b hk230 rfl
theorem e230_7 {x : Option eb_A} : eb_E L d 230 7 [some (Sum.inr x), v1, v2] (st) M = eb_E L d 230 8 [some (Sum.inr x), v1, v2] (Sum.inr x :: st) M := eb_E_s hk230 rfl
theorem e230_8 {x : Int32} : eb_E L d 230 8 [v0, v1, some (zi x)] (st) M = eb_E L d 230 9 [v0, v1, some (zi x)] (zi x :: st) M := eb_E_s hk230 rfl
theorem e230_9  : eb_E L d 230 9 ls ([a1, a0]) M = (eb_ev L d 167 [a0, a1] M).bind (fun q => eb_E L d 230 12 ls [q.1] q.2) := eb_E_c hk230 rfl
theorem e230_12 {x : Int32} : eb_E L d 230 12 ls (zi x :: st) M = if x = 0 then eb_E L d 230 24 ls st M else eb_E L d 230 15 ls st M := eb_E_b hk230 rfl
theorem e230_15 {x : Option eb_A} : eb_E L d 230 15 [some (Sum.inr x), v1, v2] (st) M = eb_E L d 230 16 [some (Sum.inr x), v1, v2] (Sum.inr x :: st) M := eb_E_s hk230 rfl
theorem e230_16 {x : Int32} : eb_E L d 230 16 [v0, some (zi x), v2] (st) M = eb_E L d 230 17 [v0, some (zi x), v2] (zi x :: st) M := eb_E_s hk230 rfl
theorem e230_17 {x : Int32} : eb_E L d 230 17 [v0, v1, some (zi x)] (st) M = eb_E L d 230 18 [v0, v1, some (zi x)] (zi x :: st) M := eb_E_s hk230 rfl
theorem e230_18  : eb_E L d 230 18 ls ([a2, a1, a0]) M = (eb_ev L d 227 [a0, a1, a2] M).bind (fun q => eb_E L d 230 21 ls [q.1] q.2) := eb_E_c hk230 rfl
theorem e230_21  : eb_E L d 230 21 ls (st) M = eb_E L d 230 33 ls (st) M := eb_E_s hk230 rfl
theorem e230_24  : eb_E L d 230 24 ls (st) M = eb_E L d 230 26 ls (zi (-1000000) :: st) M := eb_E_s hk230 rfl
theorem e230_26 {x : Option eb_A} : eb_E L d 230 26 [some (Sum.inr x), v1, v2] (st) M = eb_E L d 230 27 [some (Sum.inr x), v1, v2] (Sum.inr x :: st) M := eb_E_s hk230 rfl
theorem e230_27  : eb_E L d 230 27 ls (st) M = eb_E L d 230 29 ls (zi (-2) :: st) M := eb_E_s hk230 rfl
theorem e230_29 {s0 : Int32} : eb_E L d 230 29 ls ([a1, a0, zi s0]) M = (eb_ev L d 145 [a0, a1] M).bind (fun q => eb_E L d 230 32 ls [q.1, zi s0] q.2) := eb_E_c hk230 rfl
theorem e230_32 {x : Int32} {y : Int32} : eb_E L d 230 32 ls (zi y :: zi x :: st) M = eb_E L d 230 33 ls (zi (x + y) :: st) M := eb_E_s hk230 rfl
theorem e230_33 {x : Int32} : eb_E L d 230 33 ls ([zi x]) M = some (zi x, M) := eb_E_r hk230 rfl
/-! X6_many -/
theorem hk231 : eb_cd L 231 = eb_look (kt231 L) := rfl
theorem h231 (ha : (eb_ty L a.1).1 = 6) {x1 : Int32} : eb_ev L (d + 1) 231 [zr a, zi x1] M = eb_E L d 231 0 [some (zr a), some (zi x1), none, none] [] M := eb_ev_s rfl (eb_chk_i ha rfl)
theorem e231_0 {x : Int32} : eb_E L d 231 0 [v0, some (zi x), v2, v3] (st) M = eb_E L d 231 1 [v0, some (zi x), v2, v3] (zi x :: st) M := eb_E_s hk231 rfl
theorem e231_1  : eb_E L d 231 1 ls ([a0]) M = (eb_ev L d 150 [a0] M).bind (fun q => eb_E L d 231 4 ls [q.1] q.2) := eb_E_c hk231 rfl
theorem e231_4 {x : Int32} : eb_E L d 231 4 ls (zi x :: st) M = if x = 0 then eb_E L d 231 7 ls st M else eb_E L d 231 14 ls st M := eb_E_b hk231 rfl
theorem e231_7 {x : Option eb_A} : eb_E L d 231 7 [some (Sum.inr x), v1, v2, v3] (st) M = eb_E L d 231 8 [some (Sum.inr x), v1, v2, v3] (Sum.inr x :: st) M := eb_E_s hk231 rfl
theorem e231_8  : eb_E L d 231 8 ls (st) M = eb_E L d 231 10 ls (zi (-2) :: st) M := eb_E_s hk231 rfl
theorem e231_10  : eb_E L d 231 10 ls ([a1, a0]) M = (eb_ev L d 145 [a0, a1] M).bind (fun q => eb_E L d 231 13 ls [q.1] q.2) := eb_E_c hk231 rfl
theorem e231_13 {x : Int32} : eb_E L d 231 13 ls ([zi x]) M = some (zi x, M) := eb_E_r hk231 rfl
theorem e231_14 {x : Option eb_A} : eb_E L d 231 14 [some (Sum.inr x), v1, v2, v3] (st) M = eb_E L d 231 15 [some (Sum.inr x), v1, v2, v3] (Sum.inr x :: st) M := eb_E_s hk231 rfl
theorem e231_15 {x : Int32} : eb_E L d 231 15 [v0, some (zi x), v2, v3] (st) M = eb_E L d 231 16 [v0, some (zi x), v2, v3] (zi x :: st) M := eb_E_s hk231 rfl
theorem e231_16  : eb_E L d 231 16 ls (st) M = eb_E L d 231 18 ls (zi 6 :: st) M := eb_E_s hk231 rfl
theorem e231_18  : eb_E L d 231 18 ls ([a2, a1, a0]) M = (eb_ev L d 228 [a0, a1, a2] M).bind (fun q => eb_E L d 231 21 ls [q.1] q.2) := eb_E_c hk231 rfl
theorem e231_21a {x : Int32} : eb_E L d 231 21 ls (zi x :: st) M = eb_E L d 231 22 ls (st) M := eb_E_s hk231 rfl
theorem e231_21b {x : Option eb_A} : eb_E L d 231 21 ls (Sum.inr x :: st) M = eb_E L d 231 22 ls (st) M := eb_E_s hk231 rfl
theorem e231_22 {x : Option eb_A} : eb_E L d 231 22 [some (Sum.inr x), v1, v2, v3] (st) M = eb_E L d 231 23 [some (Sum.inr x), v1, v2, v3] (Sum.inr x :: st) M := eb_E_s hk231 rfl
theorem e231_23  : eb_E L d 231 23 ls (Sum.inr (some a) :: st) (nc, ns, I, J, R) = if (eb_ty L a.1).1 = 6 then eb_E L d 231 26 ls (zi (I a 32) :: st) (nc, ns, I, J, R) else none := eb_E_iy hk231 rfl
theorem e231_26 {x : Int32} : eb_E L d 231 26 [v0, v1, v2, v3] (zi x :: st) M = eb_E L d 231 27 [v0, v1, some (zi x), v3] (st) M := eb_E_s hk231 rfl
theorem e231_27  : eb_E L d 231 27 ls (st) M = eb_E L d 231 28 ls (zi 0 :: st) M := eb_E_s hk231 rfl
theorem e231_28 {x : Int32} : eb_E L d 231 28 [v0, v1, v2, v3] (zi x :: st) M = eb_E L d 231 29 [v0, v1, v2, some (zi x)] (st) M := eb_E_s hk231 rfl
theorem e231_29 {x : Option eb_A} : eb_E L d 231 29 [some (Sum.inr x), v1, v2, v3] (st) M = eb_E L d 231 30 [some (Sum.inr x), v1, v2, v3] (Sum.inr x :: st) M := eb_E_s hk231 rfl
theorem e231_30 {x : Int32} : eb_E L d 231 30 [v0, some (zi x), v2, v3] (st) M = eb_E L d 231 31 [v0, some (zi x), v2, v3] (zi x :: st) M := eb_E_s hk231 rfl
theorem e231_31  : eb_E L d 231 31 ls (st) M = eb_E L d 231 32 ls (zi 0 :: st) M := eb_E_s hk231 rfl
theorem e231_32  : eb_E L d 231 32 ls ([a2, a1, a0]) M = (eb_ev L d 228 [a0, a1, a2] M).bind (fun q => eb_E L d 231 35 ls [q.1] q.2) := eb_E_c hk231 rfl
theorem e231_35a {x : Int32} : eb_E L d 231 35 ls (zi x :: st) M = eb_E L d 231 36 ls (st) M := eb_E_s hk231 rfl
theorem e231_35b {x : Option eb_A} : eb_E L d 231 35 ls (Sum.inr x :: st) M = eb_E L d 231 36 ls (st) M := eb_E_s hk231 rfl
theorem e231_36 {x : Option eb_A} : eb_E L d 231 36 [some (Sum.inr x), v1, v2, v3] (st) M = eb_E L d 231 37 [some (Sum.inr x), v1, v2, v3] (Sum.inr x :: st) M := eb_E_s hk231 rfl
theorem e231_37  : eb_E L d 231 37 ls (Sum.inr (some a) :: st) (nc, ns, I, J, R) = if (eb_ty L a.1).1 = 6 then eb_E L d 231 40 ls (zi (I a 32) :: st) (nc, ns, I, J, R) else none := eb_E_iy hk231 rfl
theorem e231_40 {x : Int32} : eb_E L d 231 40 [v0, v1, some (zi x), v3] (st) M = eb_E L d 231 41 [v0, v1, some (zi x), v3] (zi x :: st) M := eb_E_s hk231 rfl
theorem e231_41 {x : Int32} {y : Int32} : eb_E L d 231 41 ls (zi y :: zi x :: st) M = if x = y then eb_E L d 231 57 ls st M else eb_E L d 231 44 ls st M := eb_E_b hk231 rfl
theorem e231_44 {x : Int32} : eb_E L d 231 44 [v0, v1, v2, some (zi x)] (st) M = eb_E L d 231 47 [v0, v1, v2, some (zi (x + 1))] (st) M := eb_E_s hk231 rfl
theorem e231_47 {x : Option eb_A} : eb_E L d 231 47 [some (Sum.inr x), v1, v2, v3] (st) M = eb_E L d 231 48 [some (Sum.inr x), v1, v2, v3] (Sum.inr x :: st) M := eb_E_s hk231 rfl
theorem e231_48 {x : Int32} : eb_E L d 231 48 [v0, some (zi x), v2, v3] (st) M = eb_E L d 231 49 [v0, some (zi x), v2, v3] (zi x :: st) M := eb_E_s hk231 rfl
theorem e231_49 {x : Int32} : eb_E L d 231 49 [v0, v1, v2, some (zi x)] (st) M = eb_E L d 231 50 [v0, v1, v2, some (zi x)] (zi x :: st) M := eb_E_s hk231 rfl
theorem e231_50  : eb_E L d 231 50 ls ([a2, a1, a0]) M = (eb_ev L d 228 [a0, a1, a2] M).bind (fun q => eb_E L d 231 53 ls [q.1] q.2) := eb_E_c hk231 rfl
theorem e231_53a {x : Int32} : eb_E L d 231 53 ls (zi x :: st) M = eb_E L d 231 54 ls (st) M := eb_E_s hk231 rfl
theorem e231_53b {x : Option eb_A} : eb_E L d 231 53 ls (Sum.inr x :: st) M = eb_E L d 231 54 ls (st) M := eb_E_s hk231 rfl
theorem e231_54  : eb_E L d 231 54 ls (st) M = eb_E L d 231 36 ls (st) M := eb_E_s hk231 rfl
theorem e231_57 {x : Int32} : eb_E L d 231 57 [v0, v1, v2, some (zi x)] (st) M = eb_E L d 231 58 [v0, v1, v2, some (zi x)] (zi x :: st) M := eb_E_s hk231 rfl
theorem e231_58 {x : Int32} : eb_E L d 231 58 ls ([zi x]) M = some (zi x, M) := eb_E_r hk231 rfl
/-! X6_findRound -/
theorem hk232 : eb_cd L 232 = eb_look (kt232 L) := rfl
theorem h232 (ha : (eb_ty L a.1).1 = 6) {x1 : Int32} : eb_ev L (d + 1) 232 [zr a, zi x1] M = eb_E L d 232 0 [some (zr a), some (zi x1), none, none, none, none, none, none, none] [] M := eb_ev_s rfl (eb_chk_i ha rfl)
theorem e232_0  : eb_E L d 232 0 ls (st) M = eb_E L d 232 1 ls (zi 1 :: st) M := eb_E_s hk232 rfl
theorem e232_1 {x : Int32} : eb_E L d 232 1 [v0, v1, v2, v3, v4, v5, v6, v7, v8] (zi x :: st) M = eb_E L d 232 2 [v0, v1, some (zi x), v3, v4, v5, v6, v7, v8] (st) M := eb_E_s hk232 rfl
theorem e232_2  : eb_E L d 232 2 ls (st) M = eb_E L d 232 3 ls (zi 0 :: st) M := eb_E_s hk232 rfl
theorem e232_3 {x : Int32} : eb_E L d 232 3 [v0, v1, v2, v3, v4, v5, v6, v7, v8] (zi x :: st) M = eb_E L d 232 4 [v0, v1, v2, some (zi x), v4, v5, v6, v7, v8] (st) M := eb_E_s hk232 rfl
theorem e232_4 {x : Int32} : eb_E L d 232 4 [v0, v1, v2, some (zi x), v4, v5, v6, v7, v8] (st) M = eb_E L d 232 5 [v0, v1, v2, some (zi x), v4, v5, v6, v7, v8] (zi x :: st) M := eb_E_s hk232 rfl
theorem e232_5 {x : Int32} : eb_E L d 232 5 [v0, some (zi x), v2, v3, v4, v5, v6, v7, v8] (st) M = eb_E L d 232 6 [v0, some (zi x), v2, v3, v4, v5, v6, v7, v8] (zi x :: st) M := eb_E_s hk232 rfl
theorem e232_6 {x : Int32} {y : Int32} : eb_E L d 232 6 ls (zi y :: zi x :: st) M = if x < y then eb_E L d 232 9 ls st M else eb_E L d 232 24 ls st M := eb_E_b hk232 rfl
theorem e232_9 {x : Int32} : eb_E L d 232 9 [v0, v1, some (zi x), v3, v4, v5, v6, v7, v8] (st) M = eb_E L d 232 10 [v0, v1, some (zi x), v3, v4, v5, v6, v7, v8] (zi x :: st) M := eb_E_s hk232 rfl
theorem e232_10 {x : Option eb_A} : eb_E L d 232 10 [some (Sum.inr x), v1, v2, v3, v4, v5, v6, v7, v8] (st) M = eb_E L d 232 11 [some (Sum.inr x), v1, v2, v3, v4, v5, v6, v7, v8] (Sum.inr x :: st) M := eb_E_s hk232 rfl
theorem e232_11  : eb_E L d 232 11 ls (Sum.inr (some a) :: st) (nc, ns, I, J, R) = if (eb_ty L a.1).1 = 6 then eb_E L d 232 14 ls (zi (I a 9) :: st) (nc, ns, I, J, R) else none := eb_E_iy hk232 rfl
theorem e232_14  : eb_E L d 232 14 ls (st) M = eb_E L d 232 15 ls (zi 1 :: st) M := eb_E_s hk232 rfl
theorem e232_15 {x : Int32} {y : Int32} : eb_E L d 232 15 ls (zi y :: zi x :: st) M = eb_E L d 232 16 ls (zi (x + y) :: st) M := eb_E_s hk232 rfl
theorem e232_16 {x : Int32} {y : Int32} : eb_E L d 232 16 ls (zi y :: zi x :: st) M = eb_E L d 232 17 ls (zi (x * y) :: st) M := eb_E_s hk232 rfl
theorem e232_17 {x : Int32} : eb_E L d 232 17 [v0, v1, v2, v3, v4, v5, v6, v7, v8] (zi x :: st) M = eb_E L d 232 18 [v0, v1, some (zi x), v3, v4, v5, v6, v7, v8] (st) M := eb_E_s hk232 rfl
theorem e232_18 {x : Int32} : eb_E L d 232 18 [v0, v1, v2, some (zi x), v4, v5, v6, v7, v8] (st) M = eb_E L d 232 21 [v0, v1, v2, some (zi (x + 1)), v4, v5, v6, v7, v8] (st) M := eb_E_s hk232 rfl
theorem e232_21  : eb_E L d 232 21 ls (st) M = eb_E L d 232 4 ls (st) M := eb_E_s hk232 rfl
theorem e232_24  : eb_E L d 232 24 ls (st) M = eb_E L d 232 25 ls (zi 0 :: st) M := eb_E_s hk232 rfl
theorem e232_25 {x : Int32} : eb_E L d 232 25 [v0, v1, v2, v3, v4, v5, v6, v7, v8] (zi x :: st) M = eb_E L d 232 26 [v0, v1, v2, some (zi x), v4, v5, v6, v7, v8] (st) M := eb_E_s hk232 rfl
theorem e232_26 {x : Int32} : eb_E L d 232 26 [v0, v1, v2, some (zi x), v4, v5, v6, v7, v8] (st) M = eb_E L d 232 27 [v0, v1, v2, some (zi x), v4, v5, v6, v7, v8] (zi x :: st) M := eb_E_s hk232 rfl
theorem e232_27 {x : Int32} : eb_E L d 232 27 [v0, v1, some (zi x), v3, v4, v5, v6, v7, v8] (st) M = eb_E L d 232 28 [v0, v1, some (zi x), v3, v4, v5, v6, v7, v8] (zi x :: st) M := eb_E_s hk232 rfl
theorem e232_28 {x : Int32} {y : Int32} : eb_E L d 232 28 ls (zi y :: zi x :: st) M = if x < y then eb_E L d 232 31 ls st M else eb_E L d 232 196 ls st M := eb_E_b hk232 rfl
theorem e232_31 {x : Option eb_A} : eb_E L d 232 31 [some (Sum.inr x), v1, v2, v3, v4, v5, v6, v7, v8] (st) M = eb_E L d 232 32 [some (Sum.inr x), v1, v2, v3, v4, v5, v6, v7, v8] (Sum.inr x :: st) M := eb_E_s hk232 rfl
theorem e232_32  : eb_E L d 232 32 ls ([a0]) M = (eb_ev L d 246 [a0] M).bind (fun q => eb_E L d 232 35 ls [q.1] q.2) := eb_E_c hk232 rfl
theorem e232_35 {x : Option eb_A} : eb_E L d 232 35 [v0, v1, v2, v3, v4, v5, v6, v7, v8] (Sum.inr x :: st) M = eb_E L d 232 37 [v0, v1, v2, v3, some (Sum.inr x), v5, v6, v7, v8] (st) M := eb_E_s hk232 rfl
theorem e232_37 {x : Int32} : eb_E L d 232 37 [v0, v1, some (zi x), v3, v4, v5, v6, v7, v8] (st) M = eb_E L d 232 38 [v0, v1, some (zi x), v3, v4, v5, v6, v7, v8] (zi x :: st) M := eb_E_s hk232 rfl
theorem e232_38 {x : Int32} : eb_E L d 232 38 [v0, v1, v2, v3, v4, v5, v6, v7, v8] (zi x :: st) M = eb_E L d 232 40 [v0, v1, v2, v3, v4, some (zi x), v6, v7, v8] (st) M := eb_E_s hk232 rfl
theorem e232_40  : eb_E L d 232 40 ls (st) M = eb_E L d 232 41 ls (zi 0 :: st) M := eb_E_s hk232 rfl
theorem e232_41 {x : Int32} : eb_E L d 232 41 [v0, v1, v2, v3, v4, v5, v6, v7, v8] (zi x :: st) M = eb_E L d 232 43 [v0, v1, v2, v3, v4, v5, some (zi x), v7, v8] (st) M := eb_E_s hk232 rfl
theorem e232_43  : eb_E L d 232 43 ls (st) M = eb_E L d 232 44 ls (zi 0 :: st) M := eb_E_s hk232 rfl
theorem e232_44 {x : Int32} : eb_E L d 232 44 [v0, v1, v2, v3, v4, v5, v6, v7, v8] (zi x :: st) M = eb_E L d 232 46 [v0, v1, v2, v3, v4, v5, v6, some (zi x), v8] (st) M := eb_E_s hk232 rfl
theorem e232_46 {x : Int32} : eb_E L d 232 46 [v0, v1, v2, v3, v4, v5, v6, some (zi x), v8] (st) M = eb_E L d 232 48 [v0, v1, v2, v3, v4, v5, v6, some (zi x), v8] (zi x :: st) M := eb_E_s hk232 rfl
theorem e232_48 {x : Int32} : eb_E L d 232 48 [v0, some (zi x), v2, v3, v4, v5, v6, v7, v8] (st) M = eb_E L d 232 49 [v0, some (zi x), v2, v3, v4, v5, v6, v7, v8] (zi x :: st) M := eb_E_s hk232 rfl
theorem e232_49 {x : Int32} {y : Int32} : eb_E L d 232 49 ls (zi y :: zi x :: st) M = if x < y then eb_E L d 232 52 ls st M else eb_E L d 232 122 ls st M := eb_E_b hk232 rfl
theorem e232_52 {x : Int32} : eb_E L d 232 52 [v0, v1, v2, v3, v4, some (zi x), v6, v7, v8] (st) M = eb_E L d 232 54 [v0, v1, v2, v3, v4, some (zi x), v6, v7, v8] (zi x :: st) M := eb_E_s hk232 rfl
theorem e232_54 {x : Option eb_A} : eb_E L d 232 54 [some (Sum.inr x), v1, v2, v3, v4, v5, v6, v7, v8] (st) M = eb_E L d 232 55 [some (Sum.inr x), v1, v2, v3, v4, v5, v6, v7, v8] (Sum.inr x :: st) M := eb_E_s hk232 rfl
theorem e232_55  : eb_E L d 232 55 ls (Sum.inr (some a) :: st) (nc, ns, I, J, R) = if (eb_ty L a.1).1 = 6 then eb_E L d 232 58 ls (zi (I a 9) :: st) (nc, ns, I, J, R) else none := eb_E_iy hk232 rfl
theorem e232_58  : eb_E L d 232 58 ls (st) M = eb_E L d 232 59 ls (zi 1 :: st) M := eb_E_s hk232 rfl
theorem e232_59 {x : Int32} {y : Int32} : eb_E L d 232 59 ls (zi y :: zi x :: st) M = eb_E L d 232 60 ls (zi (x + y) :: st) M := eb_E_s hk232 rfl
theorem e232_60 {x : Int32} {y : Int32} : eb_E L d 232 60 ls (zi y :: zi x :: st) M = if y = 0 then none else eb_E L d 232 61 ls (zi (x / y) :: st) M := eb_E_in hk232 rfl
theorem e232_61 {x : Int32} : eb_E L d 232 61 [v0, v1, v2, v3, v4, v5, v6, v7, v8] (zi x :: st) M = eb_E L d 232 63 [v0, v1, v2, v3, v4, some (zi x), v6, v7, v8] (st) M := eb_E_s hk232 rfl
theorem e232_63 {x : Int32} : eb_E L d 232 63 [v0, v1, v2, some (zi x), v4, v5, v6, v7, v8] (st) M = eb_E L d 232 64 [v0, v1, v2, some (zi x), v4, v5, v6, v7, v8] (zi x :: st) M := eb_E_s hk232 rfl
theorem e232_64 {x : Int32} : eb_E L d 232 64 [v0, v1, v2, v3, v4, some (zi x), v6, v7, v8] (st) M = eb_E L d 232 66 [v0, v1, v2, v3, v4, some (zi x), v6, v7, v8] (zi x :: st) M := eb_E_s hk232 rfl
theorem e232_66 {x : Int32} {y : Int32} : eb_E L d 232 66 ls (zi y :: zi x :: st) M = if y = 0 then none else eb_E L d 232 67 ls (zi (x / y) :: st) M := eb_E_in hk232 rfl
theorem e232_67 {x : Option eb_A} : eb_E L d 232 67 [some (Sum.inr x), v1, v2, v3, v4, v5, v6, v7, v8] (st) M = eb_E L d 232 68 [some (Sum.inr x), v1, v2, v3, v4, v5, v6, v7, v8] (Sum.inr x :: st) M := eb_E_s hk232 rfl
theorem e232_68  : eb_E L d 232 68 ls (Sum.inr (some a) :: st) (nc, ns, I, J, R) = if (eb_ty L a.1).1 = 6 then eb_E L d 232 71 ls (zi (I a 9) :: st) (nc, ns, I, J, R) else none := eb_E_iy hk232 rfl
theorem e232_71  : eb_E L d 232 71 ls (st) M = eb_E L d 232 72 ls (zi 1 :: st) M := eb_E_s hk232 rfl
theorem e232_72 {x : Int32} {y : Int32} : eb_E L d 232 72 ls (zi y :: zi x :: st) M = eb_E L d 232 73 ls (zi (x + y) :: st) M := eb_E_s hk232 rfl
theorem e232_73 {x : Int32} {y : Int32} : eb_E L d 232 73 ls (zi y :: zi x :: st) M = if y = 0 then none else eb_E L d 232 74 ls (zi (x - x / y * y) :: st) M := eb_E_in hk232 rfl
theorem e232_74  : eb_E L d 232 74 ls (st) M = eb_E L d 232 75 ls (zi 1 :: st) M := eb_E_s hk232 rfl
theorem e232_75 {x : Int32} {y : Int32} : eb_E L d 232 75 ls (zi y :: zi x :: st) M = eb_E L d 232 76 ls (zi (x - y) :: st) M := eb_E_s hk232 rfl
theorem e232_76 {x : Int32} : eb_E L d 232 76 [v0, v1, v2, v3, v4, v5, v6, v7, v8] (zi x :: st) M = eb_E L d 232 78 [v0, v1, v2, v3, v4, v5, v6, v7, some (zi x)] (st) M := eb_E_s hk232 rfl
theorem e232_78 {x : Int32} : eb_E L d 232 78 [v0, v1, v2, v3, v4, v5, v6, v7, some (zi x)] (st) M = eb_E L d 232 80 [v0, v1, v2, v3, v4, v5, v6, v7, some (zi x)] (zi x :: st) M := eb_E_s hk232 rfl
theorem e232_80  : eb_E L d 232 80 ls (st) M = eb_E L d 232 81 ls (zi (-1) :: st) M := eb_E_s hk232 rfl
theorem e232_81 {x : Int32} {y : Int32} : eb_E L d 232 81 ls (zi y :: zi x :: st) M = if x = y then eb_E L d 232 104 ls st M else eb_E L d 232 84 ls st M := eb_E_b hk232 rfl
theorem e232_84 {x : Option eb_A} : eb_E L d 232 84 [v0, v1, v2, v3, some (Sum.inr x), v5, v6, v7, v8] (st) M = eb_E L d 232 86 [v0, v1, v2, v3, some (Sum.inr x), v5, v6, v7, v8] (Sum.inr x :: st) M := eb_E_s hk232 rfl
theorem e232_86  : eb_E L d 232 86 ls (Sum.inr (some a) :: st) (nc, ns, I, J, R) = if (eb_ty L a.1).1 = 6 then eb_E L d 232 89 ls (Sum.inr (R a 10) :: st) (nc, ns, I, J, R) else none := eb_E_iy hk232 rfl
theorem e232_89 {x : Int32} : eb_E L d 232 89 [v0, v1, v2, v3, v4, v5, v6, v7, some (zi x)] (st) M = eb_E L d 232 91 [v0, v1, v2, v3, v4, v5, v6, v7, some (zi x)] (zi x :: st) M := eb_E_s hk232 rfl
theorem e232_91 {x : Int32} : eb_E L d 232 91 ls (zi x :: Sum.inr (some a) :: st) (nc, ns, I, J, R) = if (12 ≤ (eb_ty L a.1).1 ∧ (eb_ty L a.1).1 ≤ 16) ∧ eb_in x (eb_ty L a.1).2 = true then eb_E L d 232 92 ls (Sum.inr (R a x.toNatClampNeg) :: st) (nc, ns, I, J, R) else none := eb_E_iy hk232 rfl
theorem e232_92  : eb_E L d 232 92 ls (st) M = eb_E L d 232 93 ls (zi 4 :: st) M := eb_E_s hk232 rfl
theorem e232_93 {x : Option eb_A} : eb_E L d 232 93 [v0, v1, v2, v3, some (Sum.inr x), v5, v6, v7, v8] (st) M = eb_E L d 232 95 [v0, v1, v2, v3, some (Sum.inr x), v5, v6, v7, v8] (Sum.inr x :: st) M := eb_E_s hk232 rfl
theorem e232_95  : eb_E L d 232 95 ls (Sum.inr (some a) :: st) (nc, ns, I, J, R) = if (eb_ty L a.1).1 = 6 then eb_E L d 232 98 ls (Sum.inr (R a 10) :: st) (nc, ns, I, J, R) else none := eb_E_iy hk232 rfl
theorem e232_98 {x : Int32} : eb_E L d 232 98 [v0, v1, v2, v3, v4, v5, v6, v7, some (zi x)] (st) M = eb_E L d 232 100 [v0, v1, v2, v3, v4, v5, v6, v7, some (zi x)] (zi x :: st) M := eb_E_s hk232 rfl
theorem e232_100 {x : Int32} : eb_E L d 232 100 ls (zi x :: Sum.inr (some a) :: st) (nc, ns, I, J, R) = if (12 ≤ (eb_ty L a.1).1 ∧ (eb_ty L a.1).1 ≤ 16) ∧ eb_in x (eb_ty L a.1).2 = true then eb_E L d 232 101 ls (Sum.inr (R a x.toNatClampNeg) :: st) (nc, ns, I, J, R) else none := eb_E_iy hk232 rfl
theorem e232_101  : eb_E L d 232 101 ls (st) M = eb_E L d 232 102 ls (zi 0 :: st) M := eb_E_s hk232 rfl
theorem e232_102 {x : Int32} : eb_E L d 232 102 ls (zi x :: Sum.inr (some a) :: st) (nc, ns, I, J, R) = if (eb_ty L a.1).1 = 10 ∧ eb_in x (eb_ty L a.1).2 = true then eb_E L d 232 103 ls (zi (I a x.toNatClampNeg) :: st) (nc, ns, I, J, R) else none := eb_E_iy hk232 rfl
theorem e232_103 {x : Int32} {v : Int32} : eb_E L d 232 103 ls (zi v :: zi x :: Sum.inr (some a) :: st) (nc, ns, I, J, R) = if (eb_ty L a.1).1 = 10 ∧ eb_in x (eb_ty L a.1).2 = true then eb_E L d 232 104 ls (st) (nc, ns, eb_u I a x.toNatClampNeg v, J, R) else none := eb_E_iy hk232 rfl
theorem e232_104 {x : Int32} : eb_E L d 232 104 [v0, v1, v2, v3, v4, v5, some (zi x), v7, v8] (st) M = eb_E L d 232 106 [v0, v1, v2, v3, v4, v5, some (zi x), v7, v8] (zi x :: st) M := eb_E_s hk232 rfl
theorem e232_106 {x : Option eb_A} : eb_E L d 232 106 [v0, v1, v2, v3, some (Sum.inr x), v5, v6, v7, v8] (st) M = eb_E L d 232 108 [v0, v1, v2, v3, some (Sum.inr x), v5, v6, v7, v8] (Sum.inr x :: st) M := eb_E_s hk232 rfl
theorem e232_108  : eb_E L d 232 108 ls (st) M = eb_E L d 232 109 ls (zi 1 :: st) M := eb_E_s hk232 rfl
theorem e232_109  : eb_E L d 232 109 ls (st) M = eb_E L d 232 110 ls (zi (-1) :: st) M := eb_E_s hk232 rfl
theorem e232_110 {s0 : Int32} : eb_E L d 232 110 ls ([a2, a1, a0, zi s0]) M = (eb_ev L d 224 [a0, a1, a2] M).bind (fun q => eb_E L d 232 113 ls [q.1, zi s0] q.2) := eb_E_c hk232 rfl
theorem e232_113 {x : Int32} {y : Int32} : eb_E L d 232 113 ls (zi y :: zi x :: st) M = eb_E L d 232 114 ls (zi (x + y) :: st) M := eb_E_s hk232 rfl
theorem e232_114 {x : Int32} : eb_E L d 232 114 [v0, v1, v2, v3, v4, v5, v6, v7, v8] (zi x :: st) M = eb_E L d 232 116 [v0, v1, v2, v3, v4, v5, some (zi x), v7, v8] (st) M := eb_E_s hk232 rfl
theorem e232_116 {x : Int32} : eb_E L d 232 116 [v0, v1, v2, v3, v4, v5, v6, some (zi x), v8] (st) M = eb_E L d 232 119 [v0, v1, v2, v3, v4, v5, v6, some (zi (x + 1)), v8] (st) M := eb_E_s hk232 rfl
theorem e232_119  : eb_E L d 232 119 ls (st) M = eb_E L d 232 46 ls (st) M := eb_E_s hk232 rfl
theorem e232_122 {x : Int32} : eb_E L d 232 122 [v0, v1, v2, some (zi x), v4, v5, v6, v7, v8] (st) M = eb_E L d 232 123 [v0, v1, v2, some (zi x), v4, v5, v6, v7, v8] (zi x :: st) M := eb_E_s hk232 rfl
theorem e232_123 {x : Int32} : eb_E L d 232 123 ls (zi x :: st) M = if x = 0 then eb_E L d 232 135 ls st M else eb_E L d 232 126 ls st M := eb_E_b hk232 rfl
theorem e232_126 {x : Int32} : eb_E L d 232 126 [v0, v1, v2, v3, v4, v5, some (zi x), v7, v8] (st) M = eb_E L d 232 128 [v0, v1, v2, v3, v4, v5, some (zi x), v7, v8] (zi x :: st) M := eb_E_s hk232 rfl
theorem e232_128 {x : Option eb_A} : eb_E L d 232 128 [some (Sum.inr x), v1, v2, v3, v4, v5, v6, v7, v8] (st) M = eb_E L d 232 129 [some (Sum.inr x), v1, v2, v3, v4, v5, v6, v7, v8] (Sum.inr x :: st) M := eb_E_s hk232 rfl
theorem e232_129  : eb_E L d 232 129 ls (Sum.inr (some a) :: st) (nc, ns, I, J, R) = if (eb_ty L a.1).1 = 6 then eb_E L d 232 132 ls (zi (I a 32) :: st) (nc, ns, I, J, R) else none := eb_E_iy hk232 rfl
theorem e232_132 {x : Int32} {y : Int32} : eb_E L d 232 132 ls (zi y :: zi x :: st) M = if y < x then eb_E L d 232 135 ls st M else eb_E L d 232 190 ls st M := eb_E_b hk232 rfl
theorem e232_135 {x : Option eb_A} : eb_E L d 232 135 [some (Sum.inr x), v1, v2, v3, v4, v5, v6, v7, v8] (st) M = eb_E L d 232 136 [some (Sum.inr x), v1, v2, v3, v4, v5, v6, v7, v8] (Sum.inr x :: st) M := eb_E_s hk232 rfl
theorem e232_136 {x : Int32} : eb_E L d 232 136 [v0, v1, v2, v3, v4, v5, some (zi x), v7, v8] (st) M = eb_E L d 232 138 [v0, v1, v2, v3, v4, v5, some (zi x), v7, v8] (zi x :: st) M := eb_E_s hk232 rfl
theorem e232_138 {x : Int32} : eb_E L d 232 138 ls (zi x :: Sum.inr (some a) :: st) (nc, ns, I, J, R) = if (eb_ty L a.1).1 = 6 then eb_E L d 232 141 ls (st) (nc, ns, eb_u I a 32 x, J, R) else none := eb_E_iy hk232 rfl
theorem e232_141 {x : Int32} : eb_E L d 232 141 [v0, v1, some (zi x), v3, v4, v5, v6, v7, v8] (st) M = eb_E L d 232 142 [v0, v1, some (zi x), v3, v4, v5, v6, v7, v8] (zi x :: st) M := eb_E_s hk232 rfl
theorem e232_142 {x : Int32} : eb_E L d 232 142 [v0, v1, v2, v3, v4, v5, v6, v7, v8] (zi x :: st) M = eb_E L d 232 144 [v0, v1, v2, v3, v4, some (zi x), v6, v7, v8] (st) M := eb_E_s hk232 rfl
theorem e232_144  : eb_E L d 232 144 ls (st) M = eb_E L d 232 145 ls (zi 0 :: st) M := eb_E_s hk232 rfl
theorem e232_145 {x : Int32} : eb_E L d 232 145 [v0, v1, v2, v3, v4, v5, v6, v7, v8] (zi x :: st) M = eb_E L d 232 147 [v0, v1, v2, v3, v4, v5, v6, some (zi x), v8] (st) M := eb_E_s hk232 rfl
theorem e232_147 {x : Int32} : eb_E L d 232 147 [v0, v1, v2, v3, v4, v5, v6, some (zi x), v8] (st) M = eb_E L d 232 149 [v0, v1, v2, v3, v4, v5, v6, some (zi x), v8] (zi x :: st) M := eb_E_s hk232 rfl
theorem e232_149 {x : Int32} : eb_E L d 232 149 [v0, some (zi x), v2, v3, v4, v5, v6, v7, v8] (st) M = eb_E L d 232 150 [v0, some (zi x), v2, v3, v4, v5, v6, v7, v8] (zi x :: st) M := eb_E_s hk232 rfl
theorem e232_150 {x : Int32} {y : Int32} : eb_E L d 232 150 ls (zi y :: zi x :: st) M = if x < y then eb_E L d 232 153 ls st M else eb_E L d 232 190 ls st M := eb_E_b hk232 rfl
theorem e232_153 {x : Int32} : eb_E L d 232 153 [v0, v1, v2, v3, v4, some (zi x), v6, v7, v8] (st) M = eb_E L d 232 155 [v0, v1, v2, v3, v4, some (zi x), v6, v7, v8] (zi x :: st) M := eb_E_s hk232 rfl
theorem e232_155 {x : Option eb_A} : eb_E L d 232 155 [some (Sum.inr x), v1, v2, v3, v4, v5, v6, v7, v8] (st) M = eb_E L d 232 156 [some (Sum.inr x), v1, v2, v3, v4, v5, v6, v7, v8] (Sum.inr x :: st) M := eb_E_s hk232 rfl
theorem e232_156  : eb_E L d 232 156 ls (Sum.inr (some a) :: st) (nc, ns, I, J, R) = if (eb_ty L a.1).1 = 6 then eb_E L d 232 159 ls (zi (I a 9) :: st) (nc, ns, I, J, R) else none := eb_E_iy hk232 rfl
theorem e232_159  : eb_E L d 232 159 ls (st) M = eb_E L d 232 160 ls (zi 1 :: st) M := eb_E_s hk232 rfl
theorem e232_160 {x : Int32} {y : Int32} : eb_E L d 232 160 ls (zi y :: zi x :: st) M = eb_E L d 232 161 ls (zi (x + y) :: st) M := eb_E_s hk232 rfl
theorem e232_161 {x : Int32} {y : Int32} : eb_E L d 232 161 ls (zi y :: zi x :: st) M = if y = 0 then none else eb_E L d 232 162 ls (zi (x / y) :: st) M := eb_E_in hk232 rfl
theorem e232_162 {x : Int32} : eb_E L d 232 162 [v0, v1, v2, v3, v4, v5, v6, v7, v8] (zi x :: st) M = eb_E L d 232 164 [v0, v1, v2, v3, v4, some (zi x), v6, v7, v8] (st) M := eb_E_s hk232 rfl
theorem e232_164 {x : Option eb_A} : eb_E L d 232 164 [some (Sum.inr x), v1, v2, v3, v4, v5, v6, v7, v8] (st) M = eb_E L d 232 165 [some (Sum.inr x), v1, v2, v3, v4, v5, v6, v7, v8] (Sum.inr x :: st) M := eb_E_s hk232 rfl
theorem e232_165  : eb_E L d 232 165 ls (Sum.inr (some a) :: st) (nc, ns, I, J, R) = if (eb_ty L a.1).1 = 6 then eb_E L d 232 168 ls (Sum.inr (R a 33) :: st) (nc, ns, I, J, R) else none := eb_E_iy hk232 rfl
theorem e232_168 {x : Int32} : eb_E L d 232 168 [v0, v1, v2, v3, v4, v5, v6, some (zi x), v8] (st) M = eb_E L d 232 170 [v0, v1, v2, v3, v4, v5, v6, some (zi x), v8] (zi x :: st) M := eb_E_s hk232 rfl
theorem e232_170 {x : Int32} : eb_E L d 232 170 [v0, v1, v2, some (zi x), v4, v5, v6, v7, v8] (st) M = eb_E L d 232 171 [v0, v1, v2, some (zi x), v4, v5, v6, v7, v8] (zi x :: st) M := eb_E_s hk232 rfl
theorem e232_171 {x : Int32} : eb_E L d 232 171 [v0, v1, v2, v3, v4, some (zi x), v6, v7, v8] (st) M = eb_E L d 232 173 [v0, v1, v2, v3, v4, some (zi x), v6, v7, v8] (zi x :: st) M := eb_E_s hk232 rfl
theorem e232_173 {x : Int32} {y : Int32} : eb_E L d 232 173 ls (zi y :: zi x :: st) M = if y = 0 then none else eb_E L d 232 174 ls (zi (x / y) :: st) M := eb_E_in hk232 rfl
theorem e232_174 {x : Option eb_A} : eb_E L d 232 174 [some (Sum.inr x), v1, v2, v3, v4, v5, v6, v7, v8] (st) M = eb_E L d 232 175 [some (Sum.inr x), v1, v2, v3, v4, v5, v6, v7, v8] (Sum.inr x :: st) M := eb_E_s hk232 rfl
theorem e232_175  : eb_E L d 232 175 ls (Sum.inr (some a) :: st) (nc, ns, I, J, R) = if (eb_ty L a.1).1 = 6 then eb_E L d 232 178 ls (zi (I a 9) :: st) (nc, ns, I, J, R) else none := eb_E_iy hk232 rfl
theorem e232_178  : eb_E L d 232 178 ls (st) M = eb_E L d 232 179 ls (zi 1 :: st) M := eb_E_s hk232 rfl
theorem e232_179 {x : Int32} {y : Int32} : eb_E L d 232 179 ls (zi y :: zi x :: st) M = eb_E L d 232 180 ls (zi (x + y) :: st) M := eb_E_s hk232 rfl
theorem e232_180 {x : Int32} {y : Int32} : eb_E L d 232 180 ls (zi y :: zi x :: st) M = if y = 0 then none else eb_E L d 232 181 ls (zi (x - x / y * y) :: st) M := eb_E_in hk232 rfl
theorem e232_181  : eb_E L d 232 181 ls (st) M = eb_E L d 232 182 ls (zi 1 :: st) M := eb_E_s hk232 rfl
theorem e232_182 {x : Int32} {y : Int32} : eb_E L d 232 182 ls (zi y :: zi x :: st) M = eb_E L d 232 183 ls (zi (x - y) :: st) M := eb_E_s hk232 rfl
theorem e232_183 {x : Int32} {v : Int32} : eb_E L d 232 183 ls (zi v :: zi x :: Sum.inr (some a) :: st) (nc, ns, I, J, R) = if (eb_ty L a.1).1 = 10 ∧ eb_in x (eb_ty L a.1).2 = true then eb_E L d 232 184 ls (st) (nc, ns, eb_u I a x.toNatClampNeg v, J, R) else none := eb_E_iy hk232 rfl
theorem e232_184 {x : Int32} : eb_E L d 232 184 [v0, v1, v2, v3, v4, v5, v6, some (zi x), v8] (st) M = eb_E L d 232 187 [v0, v1, v2, v3, v4, v5, v6, some (zi (x + 1)), v8] (st) M := eb_E_s hk232 rfl
theorem e232_187  : eb_E L d 232 187 ls (st) M = eb_E L d 232 147 ls (st) M := eb_E_s hk232 rfl
theorem e232_190 {x : Int32} : eb_E L d 232 190 [v0, v1, v2, some (zi x), v4, v5, v6, v7, v8] (st) M = eb_E L d 232 193 [v0, v1, v2, some (zi (x + 1)), v4, v5, v6, v7, v8] (st) M := eb_E_s hk232 rfl
theorem e232_193  : eb_E L d 232 193 ls (st) M = eb_E L d 232 26 ls (st) M := eb_E_s hk232 rfl
theorem e232_196  : eb_E L d 232 196 ls ([]) M = some (zn, M) := eb_E_r hk232 rfl
/-! X6_round -/
theorem hk233 : eb_cd L 233 = eb_look (kt233 L) := rfl
theorem h233 (ha : (eb_ty L a.1).1 = 6) {x1 : Int32} {x2 : Int32} : eb_ev L (d + 1) 233 [zr a, zi x1, zi x2] M = eb_E L d 233 0 [some (zr a), some (zi x1), some (zi x2)] [] M := eb_ev_s rfl (eb_chk_i ha rfl)
theorem e233_0 {x : Int32} : eb_E L d 233 0 [v0, some (zi x), v2] (st) M = eb_E L d 233 1 [v0, some (zi x), v2] (zi x :: st) M := eb_E_s hk233 rfl
theorem e233_1 {x : Int32} : eb_E L d 233 1 ls (zi x :: st) M = eb_E L d 233 2 ls (zl x.toInt64 :: st) M := eb_E_s hk233 rfl
theorem e233_2  : eb_E L d 233 2 ls (st) M = eb_E L d 233 3 ls (zl 1 :: st) M := eb_E_s hk233 rfl
theorem e233_3  : eb_E L d 233 3 ls (st) M = eb_E L d 233 6 ls (zl 3 :: st) M := eb_E_s hk233 rfl
theorem e233_6  : eb_E L d 233 6 ls ([a2, a1, a0]) M = (eb_ev L d 146 [a0, a1, a2] M).bind (fun q => eb_E L d 233 9 ls [q.1] q.2) := eb_E_c hk233 rfl
theorem e233_9 {x : Int32} : eb_E L d 233 9 ls (zi x :: st) M = if x = 0 then eb_E L d 233 27 ls st M else eb_E L d 233 12 ls st M := eb_E_b hk233 rfl
theorem e233_12 {x : Int32} : eb_E L d 233 12 [v0, v1, some (zi x)] (st) M = eb_E L d 233 13 [v0, v1, some (zi x)] (zi x :: st) M := eb_E_s hk233 rfl
theorem e233_13 {x : Int32} : eb_E L d 233 13 ls (zi x :: st) M = eb_E L d 233 14 ls (zl x.toInt64 :: st) M := eb_E_s hk233 rfl
theorem e233_14  : eb_E L d 233 14 ls (st) M = eb_E L d 233 17 ls (zl (-1) :: st) M := eb_E_s hk233 rfl
theorem e233_17 {x : Int32} : eb_E L d 233 17 [v0, some (zi x), v2] (st) M = eb_E L d 233 18 [v0, some (zi x), v2] (zi x :: st) M := eb_E_s hk233 rfl
theorem e233_18  : eb_E L d 233 18 ls (st) M = eb_E L d 233 19 ls (zi 1 :: st) M := eb_E_s hk233 rfl
theorem e233_19 {x : Int32} {y : Int32} : eb_E L d 233 19 ls (zi y :: zi x :: st) M = eb_E L d 233 20 ls (zi (x - y) :: st) M := eb_E_s hk233 rfl
theorem e233_20 {x : Int32} : eb_E L d 233 20 ls (zi x :: st) M = eb_E L d 233 21 ls (zl x.toInt64 :: st) M := eb_E_s hk233 rfl
theorem e233_21  : eb_E L d 233 21 ls ([a2, a1, a0]) M = (eb_ev L d 146 [a0, a1, a2] M).bind (fun q => eb_E L d 233 24 ls [q.1] q.2) := eb_E_c hk233 rfl
theorem e233_24 {x : Int32} : eb_E L d 233 24 ls (zi x :: st) M = if x = 0 then eb_E L d 233 27 ls st M else eb_E L d 233 37 ls st M := eb_E_b hk233 rfl
theorem e233_27  : eb_E L d 233 27 ls (st) M = eb_E L d 233 29 ls (zi (-1000000) :: st) M := eb_E_s hk233 rfl
theorem e233_29 {x : Option eb_A} : eb_E L d 233 29 [some (Sum.inr x), v1, v2] (st) M = eb_E L d 233 30 [some (Sum.inr x), v1, v2] (Sum.inr x :: st) M := eb_E_s hk233 rfl
theorem e233_30  : eb_E L d 233 30 ls (st) M = eb_E L d 233 32 ls (zi (-2) :: st) M := eb_E_s hk233 rfl
theorem e233_32 {s0 : Int32} : eb_E L d 233 32 ls ([a1, a0, zi s0]) M = (eb_ev L d 145 [a0, a1] M).bind (fun q => eb_E L d 233 35 ls [q.1, zi s0] q.2) := eb_E_c hk233 rfl
theorem e233_35 {x : Int32} {y : Int32} : eb_E L d 233 35 ls (zi y :: zi x :: st) M = eb_E L d 233 36 ls (zi (x + y) :: st) M := eb_E_s hk233 rfl
theorem e233_36 {x : Int32} : eb_E L d 233 36 ls ([zi x]) M = some (zi x, M) := eb_E_r hk233 rfl
theorem e233_37 {x : Option eb_A} : eb_E L d 233 37 [some (Sum.inr x), v1, v2] (st) M = eb_E L d 233 38 [some (Sum.inr x), v1, v2] (Sum.inr x :: st) M := eb_E_s hk233 rfl
theorem e233_38 {x : Int32} : eb_E L d 233 38 [v0, some (zi x), v2] (st) M = eb_E L d 233 39 [v0, some (zi x), v2] (zi x :: st) M := eb_E_s hk233 rfl
theorem e233_39  : eb_E L d 233 39 ls ([a1, a0]) M = (eb_ev L d 232 [a0, a1] M).bind (fun q => eb_E L d 233 42 ls [] q.2) := eb_E_c hk233 rfl
theorem e233_42 {x : Int32} : eb_E L d 233 42 [v0, v1, some (zi x)] (st) M = eb_E L d 233 43 [v0, v1, some (zi x)] (zi x :: st) M := eb_E_s hk233 rfl
theorem e233_43  : eb_E L d 233 43 ls (st) M = eb_E L d 233 44 ls (zi (-1) :: st) M := eb_E_s hk233 rfl
theorem e233_44 {x : Int32} {y : Int32} : eb_E L d 233 44 ls (zi y :: zi x :: st) M = if x = y then eb_E L d 233 47 ls st M else eb_E L d 233 54 ls st M := eb_E_b hk233 rfl
theorem e233_47 {x : Option eb_A} : eb_E L d 233 47 [some (Sum.inr x), v1, v2] (st) M = eb_E L d 233 48 [some (Sum.inr x), v1, v2] (Sum.inr x :: st) M := eb_E_s hk233 rfl
theorem e233_48  : eb_E L d 233 48 ls (Sum.inr (some a) :: st) (nc, ns, I, J, R) = if (eb_ty L a.1).1 = 6 then eb_E L d 233 51 ls (zi (I a 32) :: st) (nc, ns, I, J, R) else none := eb_E_iy hk233 rfl
theorem e233_51  : eb_E L d 233 51 ls (st) M = eb_E L d 233 60 ls (st) M := eb_E_s hk233 rfl
theorem e233_54 {x : Option eb_A} : eb_E L d 233 54 [some (Sum.inr x), v1, v2] (st) M = eb_E L d 233 55 [some (Sum.inr x), v1, v2] (Sum.inr x :: st) M := eb_E_s hk233 rfl
theorem e233_55  : eb_E L d 233 55 ls (Sum.inr (some a) :: st) (nc, ns, I, J, R) = if (eb_ty L a.1).1 = 6 then eb_E L d 233 58 ls (Sum.inr (R a 33) :: st) (nc, ns, I, J, R) else none := eb_E_iy hk233 rfl
theorem e233_58 {x : Int32} : eb_E L d 233 58 [v0, v1, some (zi x)] (st) M = eb_E L d 233 59 [v0, v1, some (zi x)] (zi x :: st) M := eb_E_s hk233 rfl
theorem e233_59 {x : Int32} : eb_E L d 233 59 ls (zi x :: Sum.inr (some a) :: st) (nc, ns, I, J, R) = if (eb_ty L a.1).1 = 10 ∧ eb_in x (eb_ty L a.1).2 = true then eb_E L d 233 60 ls (zi (I a x.toNatClampNeg) :: st) (nc, ns, I, J, R) else none := eb_E_iy hk233 rfl
theorem e233_60 {x : Int32} : eb_E L d 233 60 ls ([zi x]) M = some (zi x, M) := eb_E_r hk233 rfl
/-! X6_ownJoy -/
theorem hk234 : eb_cd L 234 = eb_look (kt234 L) := rfl
theorem h234 (ha : (eb_ty L a.1).1 = 6) {x1 : Int32} : eb_ev L (d + 1) 234 [zr a, zi x1] M = eb_E L d 234 0 [some (zr a), some (zi x1), none, none, none] [] M := eb_ev_s rfl (eb_chk_i ha rfl)
theorem e234_0  : eb_E L d 234 0 ls (st) M = eb_E L d 234 1 ls (zi 0 :: st) M := eb_E_s hk234 rfl
theorem e234_1 {x : Int32} : eb_E L d 234 1 [v0, v1, v2, v3, v4] (zi x :: st) M = eb_E L d 234 2 [v0, v1, some (zi x), v3, v4] (st) M := eb_E_s hk234 rfl
theorem e234_2  : eb_E L d 234 2 ls (st) M = eb_E L d 234 3 ls (zi 0 :: st) M := eb_E_s hk234 rfl
theorem e234_3 {x : Int32} : eb_E L d 234 3 [v0, v1, v2, v3, v4] (zi x :: st) M = eb_E L d 234 4 [v0, v1, v2, some (zi x), v4] (st) M := eb_E_s hk234 rfl
theorem e234_4 {x : Int32} : eb_E L d 234 4 [v0, v1, v2, some (zi x), v4] (st) M = eb_E L d 234 5 [v0, v1, v2, some (zi x), v4] (zi x :: st) M := eb_E_s hk234 rfl
theorem e234_5 {x : Int32} : eb_E L d 234 5 [v0, some (zi x), v2, v3, v4] (st) M = eb_E L d 234 6 [v0, some (zi x), v2, v3, v4] (zi x :: st) M := eb_E_s hk234 rfl
theorem e234_6 {x : Int32} {y : Int32} : eb_E L d 234 6 ls (zi y :: zi x :: st) M = if x < y then eb_E L d 234 9 ls st M else eb_E L d 234 64 ls st M := eb_E_b hk234 rfl
theorem e234_9 {x : Option eb_A} : eb_E L d 234 9 [some (Sum.inr x), v1, v2, v3, v4] (st) M = eb_E L d 234 10 [some (Sum.inr x), v1, v2, v3, v4] (Sum.inr x :: st) M := eb_E_s hk234 rfl
theorem e234_10  : eb_E L d 234 10 ls ([a0]) M = (eb_ev L d 223 [a0] M).bind (fun q => eb_E L d 234 13 ls [] q.2) := eb_E_c hk234 rfl
theorem e234_13  : eb_E L d 234 13 ls (st) M = eb_E L d 234 14 ls (zi 0 :: st) M := eb_E_s hk234 rfl
theorem e234_14 {x : Int32} : eb_E L d 234 14 [v0, v1, v2, v3, v4] (zi x :: st) M = eb_E L d 234 16 [v0, v1, v2, v3, some (zi x)] (st) M := eb_E_s hk234 rfl
theorem e234_16 {x : Int32} : eb_E L d 234 16 [v0, v1, v2, v3, some (zi x)] (st) M = eb_E L d 234 18 [v0, v1, v2, v3, some (zi x)] (zi x :: st) M := eb_E_s hk234 rfl
theorem e234_18 {x : Option eb_A} : eb_E L d 234 18 [some (Sum.inr x), v1, v2, v3, v4] (st) M = eb_E L d 234 19 [some (Sum.inr x), v1, v2, v3, v4] (Sum.inr x :: st) M := eb_E_s hk234 rfl
theorem e234_19  : eb_E L d 234 19 ls (Sum.inr (some a) :: st) (nc, ns, I, J, R) = if (eb_ty L a.1).1 = 6 then eb_E L d 234 22 ls (zi (I a 11) :: st) (nc, ns, I, J, R) else none := eb_E_iy hk234 rfl
theorem e234_22 {x : Int32} {y : Int32} : eb_E L d 234 22 ls (zi y :: zi x :: st) M = if x < y then eb_E L d 234 25 ls st M else eb_E L d 234 58 ls st M := eb_E_b hk234 rfl
theorem e234_25 {x : Int32} : eb_E L d 234 25 [v0, v1, some (zi x), v3, v4] (st) M = eb_E L d 234 26 [v0, v1, some (zi x), v3, v4] (zi x :: st) M := eb_E_s hk234 rfl
theorem e234_26 {x : Option eb_A} : eb_E L d 234 26 [some (Sum.inr x), v1, v2, v3, v4] (st) M = eb_E L d 234 27 [some (Sum.inr x), v1, v2, v3, v4] (Sum.inr x :: st) M := eb_E_s hk234 rfl
theorem e234_27  : eb_E L d 234 27 ls (Sum.inr (some a) :: st) (nc, ns, I, J, R) = if (eb_ty L a.1).1 = 6 then eb_E L d 234 30 ls (Sum.inr (R a 12) :: st) (nc, ns, I, J, R) else none := eb_E_iy hk234 rfl
theorem e234_30 {x : Int32} : eb_E L d 234 30 [v0, v1, v2, v3, some (zi x)] (st) M = eb_E L d 234 32 [v0, v1, v2, v3, some (zi x)] (zi x :: st) M := eb_E_s hk234 rfl
theorem e234_32 {x : Int32} : eb_E L d 234 32 ls (zi x :: Sum.inr (some a) :: st) (nc, ns, I, J, R) = if (12 ≤ (eb_ty L a.1).1 ∧ (eb_ty L a.1).1 ≤ 16) ∧ eb_in x (eb_ty L a.1).2 = true then eb_E L d 234 33 ls (Sum.inr (R a x.toNatClampNeg) :: st) (nc, ns, I, J, R) else none := eb_E_iy hk234 rfl
theorem e234_33  : eb_E L d 234 33 ls (st) M = eb_E L d 234 34 ls (zi 0 :: st) M := eb_E_s hk234 rfl
theorem e234_34 {x : Int32} : eb_E L d 234 34 ls (zi x :: Sum.inr (some a) :: st) (nc, ns, I, J, R) = if (eb_ty L a.1).1 = 10 ∧ eb_in x (eb_ty L a.1).2 = true then eb_E L d 234 35 ls (zi (I a x.toNatClampNeg) :: st) (nc, ns, I, J, R) else none := eb_E_iy hk234 rfl
theorem e234_35  : eb_E L d 234 35 ls (st) M = eb_E L d 234 36 ls (zi 3 :: st) M := eb_E_s hk234 rfl
theorem e234_36 {x : Int32} {y : Int32} : eb_E L d 234 36 ls (zi y :: zi x :: st) M = if x = y then eb_E L d 234 39 ls st M else eb_E L d 234 49 ls st M := eb_E_b hk234 rfl
theorem e234_39 {x : Option eb_A} : eb_E L d 234 39 [some (Sum.inr x), v1, v2, v3, v4] (st) M = eb_E L d 234 40 [some (Sum.inr x), v1, v2, v3, v4] (Sum.inr x :: st) M := eb_E_s hk234 rfl
theorem e234_40  : eb_E L d 234 40 ls (Sum.inr (some a) :: st) (nc, ns, I, J, R) = if (eb_ty L a.1).1 = 6 then eb_E L d 234 43 ls (Sum.inr (R a 30) :: st) (nc, ns, I, J, R) else none := eb_E_iy hk234 rfl
theorem e234_43 {x : Int32} : eb_E L d 234 43 [v0, v1, v2, v3, some (zi x)] (st) M = eb_E L d 234 45 [v0, v1, v2, v3, some (zi x)] (zi x :: st) M := eb_E_s hk234 rfl
theorem e234_45 {x : Int32} : eb_E L d 234 45 ls (zi x :: Sum.inr (some a) :: st) (nc, ns, I, J, R) = if (eb_ty L a.1).1 = 10 ∧ eb_in x (eb_ty L a.1).2 = true then eb_E L d 234 46 ls (zi (I a x.toNatClampNeg) :: st) (nc, ns, I, J, R) else none := eb_E_iy hk234 rfl
theorem e234_46  : eb_E L d 234 46 ls (st) M = eb_E L d 234 50 ls (st) M := eb_E_s hk234 rfl
theorem e234_49  : eb_E L d 234 49 ls (st) M = eb_E L d 234 50 ls (zi 0 :: st) M := eb_E_s hk234 rfl
theorem e234_50 {x : Int32} {y : Int32} : eb_E L d 234 50 ls (zi y :: zi x :: st) M = eb_E L d 234 51 ls (zi (x + y) :: st) M := eb_E_s hk234 rfl
theorem e234_51 {x : Int32} : eb_E L d 234 51 [v0, v1, v2, v3, v4] (zi x :: st) M = eb_E L d 234 52 [v0, v1, some (zi x), v3, v4] (st) M := eb_E_s hk234 rfl
theorem e234_52 {x : Int32} : eb_E L d 234 52 [v0, v1, v2, v3, some (zi x)] (st) M = eb_E L d 234 55 [v0, v1, v2, v3, some (zi (x + 1))] (st) M := eb_E_s hk234 rfl
theorem e234_55  : eb_E L d 234 55 ls (st) M = eb_E L d 234 16 ls (st) M := eb_E_s hk234 rfl
theorem e234_58 {x : Int32} : eb_E L d 234 58 [v0, v1, v2, some (zi x), v4] (st) M = eb_E L d 234 61 [v0, v1, v2, some (zi (x + 1)), v4] (st) M := eb_E_s hk234 rfl
theorem e234_61  : eb_E L d 234 61 ls (st) M = eb_E L d 234 4 ls (st) M := eb_E_s hk234 rfl
theorem e234_64 {x : Int32} : eb_E L d 234 64 [v0, v1, some (zi x), v3, v4] (st) M = eb_E L d 234 65 [v0, v1, some (zi x), v3, v4] (zi x :: st) M := eb_E_s hk234 rfl
theorem e234_65 {x : Int32} : eb_E L d 234 65 ls ([zi x]) M = some (zi x, M) := eb_E_r hk234 rfl
/-! X6_kept -/
theorem hk235 : eb_cd L 235 = eb_look (kt235 L) := rfl
theorem h235 (ha : (eb_ty L a.1).1 = 6) {x1 : Int32} {x2 : Int32} : eb_ev L (d + 1) 235 [zr a, zi x1, zi x2] M = eb_E L d 235 0 [some (zr a), some (zi x1), some (zi x2), none, none] [] M := eb_ev_s rfl (eb_chk_i ha rfl)
theorem e235_0 {x : Int32} : eb_E L d 235 0 [v0, some (zi x), v2, v3, v4] (st) M = eb_E L d 235 1 [v0, some (zi x), v2, v3, v4] (zi x :: st) M := eb_E_s hk235 rfl
theorem e235_1  : eb_E L d 235 1 ls ([a0]) M = (eb_ev L d 150 [a0] M).bind (fun q => eb_E L d 235 4 ls [q.1] q.2) := eb_E_c hk235 rfl
theorem e235_4 {x : Int32} : eb_E L d 235 4 ls (zi x :: st) M = if x = 0 then eb_E L d 235 15 ls st M else eb_E L d 235 7 ls st M := eb_E_b hk235 rfl
theorem e235_7 {x : Option eb_A} : eb_E L d 235 7 [some (Sum.inr x), v1, v2, v3, v4] (st) M = eb_E L d 235 8 [some (Sum.inr x), v1, v2, v3, v4] (Sum.inr x :: st) M := eb_E_s hk235 rfl
theorem e235_8 {x : Int32} : eb_E L d 235 8 [v0, v1, some (zi x), v3, v4] (st) M = eb_E L d 235 9 [v0, v1, some (zi x), v3, v4] (zi x :: st) M := eb_E_s hk235 rfl
theorem e235_9  : eb_E L d 235 9 ls ([a1, a0]) M = (eb_ev L d 148 [a0, a1] M).bind (fun q => eb_E L d 235 12 ls [q.1] q.2) := eb_E_c hk235 rfl
theorem e235_12 {x : Int32} : eb_E L d 235 12 ls (zi x :: st) M = if x = 0 then eb_E L d 235 15 ls st M else eb_E L d 235 25 ls st M := eb_E_b hk235 rfl
theorem e235_15  : eb_E L d 235 15 ls (st) M = eb_E L d 235 17 ls (zi (-1000000) :: st) M := eb_E_s hk235 rfl
theorem e235_17 {x : Option eb_A} : eb_E L d 235 17 [some (Sum.inr x), v1, v2, v3, v4] (st) M = eb_E L d 235 18 [some (Sum.inr x), v1, v2, v3, v4] (Sum.inr x :: st) M := eb_E_s hk235 rfl
theorem e235_18  : eb_E L d 235 18 ls (st) M = eb_E L d 235 20 ls (zi (-2) :: st) M := eb_E_s hk235 rfl
theorem e235_20 {s0 : Int32} : eb_E L d 235 20 ls ([a1, a0, zi s0]) M = (eb_ev L d 145 [a0, a1] M).bind (fun q => eb_E L d 235 23 ls [q.1, zi s0] q.2) := eb_E_c hk235 rfl
theorem e235_23 {x : Int32} {y : Int32} : eb_E L d 235 23 ls (zi y :: zi x :: st) M = eb_E L d 235 24 ls (zi (x + y) :: st) M := eb_E_s hk235 rfl
theorem e235_24 {x : Int32} : eb_E L d 235 24 ls ([zi x]) M = some (zi x, M) := eb_E_r hk235 rfl
theorem e235_25 {x : Option eb_A} : eb_E L d 235 25 [some (Sum.inr x), v1, v2, v3, v4] (st) M = eb_E L d 235 26 [some (Sum.inr x), v1, v2, v3, v4] (Sum.inr x :: st) M := eb_E_s hk235 rfl
theorem e235_26  : eb_E L d 235 26 ls (Sum.inr (some a) :: st) (nc, ns, I, J, R) = if (eb_ty L a.1).1 = 6 then eb_E L d 235 29 ls (Sum.inr (R a 10) :: st) (nc, ns, I, J, R) else none := eb_E_iy hk235 rfl
theorem e235_29 {x : Int32} : eb_E L d 235 29 [v0, v1, some (zi x), v3, v4] (st) M = eb_E L d 235 30 [v0, v1, some (zi x), v3, v4] (zi x :: st) M := eb_E_s hk235 rfl
theorem e235_30 {x : Int32} : eb_E L d 235 30 ls (zi x :: Sum.inr (some a) :: st) (nc, ns, I, J, R) = if (12 ≤ (eb_ty L a.1).1 ∧ (eb_ty L a.1).1 ≤ 16) ∧ eb_in x (eb_ty L a.1).2 = true then eb_E L d 235 31 ls (Sum.inr (R a x.toNatClampNeg) :: st) (nc, ns, I, J, R) else none := eb_E_iy hk235 rfl
theorem e235_31  : eb_E L d 235 31 ls (st) M = eb_E L d 235 32 ls (zi 4 :: st) M := eb_E_s hk235 rfl
theorem e235_32 {x : Int32} : eb_E L d 235 32 ls (zi x :: Sum.inr (some a) :: st) (nc, ns, I, J, R) = if (eb_ty L a.1).1 = 10 ∧ eb_in x (eb_ty L a.1).2 = true then eb_E L d 235 33 ls (zi (I a x.toNatClampNeg) :: st) (nc, ns, I, J, R) else none := eb_E_iy hk235 rfl
theorem e235_33  : eb_E L d 235 33 ls (st) M = eb_E L d 235 34 ls (zi (-1) :: st) M := eb_E_s hk235 rfl
theorem e235_34 {x : Int32} {y : Int32} : eb_E L d 235 34 ls (zi y :: zi x :: st) M = if x = y then eb_E L d 235 37 ls st M else eb_E L d 235 47 ls st M := eb_E_b hk235 rfl
theorem e235_37  : eb_E L d 235 37 ls (st) M = eb_E L d 235 39 ls (zi (-1000000) :: st) M := eb_E_s hk235 rfl
theorem e235_39 {x : Option eb_A} : eb_E L d 235 39 [some (Sum.inr x), v1, v2, v3, v4] (st) M = eb_E L d 235 40 [some (Sum.inr x), v1, v2, v3, v4] (Sum.inr x :: st) M := eb_E_s hk235 rfl
theorem e235_40  : eb_E L d 235 40 ls (st) M = eb_E L d 235 42 ls (zi (-5) :: st) M := eb_E_s hk235 rfl
theorem e235_42 {s0 : Int32} : eb_E L d 235 42 ls ([a1, a0, zi s0]) M = (eb_ev L d 145 [a0, a1] M).bind (fun q => eb_E L d 235 45 ls [q.1, zi s0] q.2) := eb_E_c hk235 rfl
theorem e235_45 {x : Int32} {y : Int32} : eb_E L d 235 45 ls (zi y :: zi x :: st) M = eb_E L d 235 46 ls (zi (x + y) :: st) M := eb_E_s hk235 rfl
theorem e235_46 {x : Int32} : eb_E L d 235 46 ls ([zi x]) M = some (zi x, M) := eb_E_r hk235 rfl
theorem e235_47 {x : Option eb_A} : eb_E L d 235 47 [some (Sum.inr x), v1, v2, v3, v4] (st) M = eb_E L d 235 48 [some (Sum.inr x), v1, v2, v3, v4] (Sum.inr x :: st) M := eb_E_s hk235 rfl
theorem e235_48  : eb_E L d 235 48 ls ([a0]) M = (eb_ev L d 246 [a0] M).bind (fun q => eb_E L d 235 51 ls [q.1] q.2) := eb_E_c hk235 rfl
theorem e235_51 {x : Int32} : eb_E L d 235 51 [v0, some (zi x), v2, v3, v4] (st) M = eb_E L d 235 52 [v0, some (zi x), v2, v3, v4] (zi x :: st) M := eb_E_s hk235 rfl
theorem e235_52  : eb_E L d 235 52 ls ([a1, a0]) M = (eb_ev L d 234 [a0, a1] M).bind (fun q => eb_E L d 235 55 ls [q.1] q.2) := eb_E_c hk235 rfl
theorem e235_55 {x : Int32} : eb_E L d 235 55 [v0, v1, v2, v3, v4] (zi x :: st) M = eb_E L d 235 56 [v0, v1, v2, some (zi x), v4] (st) M := eb_E_s hk235 rfl
theorem e235_56 {x : Option eb_A} : eb_E L d 235 56 [some (Sum.inr x), v1, v2, v3, v4] (st) M = eb_E L d 235 57 [some (Sum.inr x), v1, v2, v3, v4] (Sum.inr x :: st) M := eb_E_s hk235 rfl
theorem e235_57  : eb_E L d 235 57 ls ([a0]) M = (eb_ev L d 246 [a0] M).bind (fun q => eb_E L d 235 60 ls [q.1] q.2) := eb_E_c hk235 rfl
theorem e235_60 {x : Option eb_A} : eb_E L d 235 60 [v0, v1, v2, v3, v4] (Sum.inr x :: st) M = eb_E L d 235 62 [v0, v1, v2, v3, some (Sum.inr x)] (st) M := eb_E_s hk235 rfl
theorem e235_62 {x : Option eb_A} : eb_E L d 235 62 [v0, v1, v2, v3, some (Sum.inr x)] (st) M = eb_E L d 235 64 [v0, v1, v2, v3, some (Sum.inr x)] (Sum.inr x :: st) M := eb_E_s hk235 rfl
theorem e235_64  : eb_E L d 235 64 ls (Sum.inr (some a) :: st) (nc, ns, I, J, R) = if (eb_ty L a.1).1 = 6 then eb_E L d 235 67 ls (Sum.inr (R a 10) :: st) (nc, ns, I, J, R) else none := eb_E_iy hk235 rfl
theorem e235_67 {x : Int32} : eb_E L d 235 67 [v0, v1, some (zi x), v3, v4] (st) M = eb_E L d 235 68 [v0, v1, some (zi x), v3, v4] (zi x :: st) M := eb_E_s hk235 rfl
theorem e235_68 {x : Int32} : eb_E L d 235 68 ls (zi x :: Sum.inr (some a) :: st) (nc, ns, I, J, R) = if (12 ≤ (eb_ty L a.1).1 ∧ (eb_ty L a.1).1 ≤ 16) ∧ eb_in x (eb_ty L a.1).2 = true then eb_E L d 235 69 ls (Sum.inr (R a x.toNatClampNeg) :: st) (nc, ns, I, J, R) else none := eb_E_iy hk235 rfl
theorem e235_69  : eb_E L d 235 69 ls (st) M = eb_E L d 235 70 ls (zi 4 :: st) M := eb_E_s hk235 rfl
theorem e235_70  : eb_E L d 235 70 ls (st) M = eb_E L d 235 71 ls (zi (-1) :: st) M := eb_E_s hk235 rfl
theorem e235_71 {x : Int32} {v : Int32} : eb_E L d 235 71 ls (zi v :: zi x :: Sum.inr (some a) :: st) (nc, ns, I, J, R) = if (eb_ty L a.1).1 = 10 ∧ eb_in x (eb_ty L a.1).2 = true then eb_E L d 235 72 ls (st) (nc, ns, eb_u I a x.toNatClampNeg v, J, R) else none := eb_E_iy hk235 rfl
theorem e235_72 {x : Option eb_A} : eb_E L d 235 72 [v0, v1, v2, v3, some (Sum.inr x)] (st) M = eb_E L d 235 74 [v0, v1, v2, v3, some (Sum.inr x)] (Sum.inr x :: st) M := eb_E_s hk235 rfl
theorem e235_74 {x : Int32} : eb_E L d 235 74 [v0, some (zi x), v2, v3, v4] (st) M = eb_E L d 235 75 [v0, some (zi x), v2, v3, v4] (zi x :: st) M := eb_E_s hk235 rfl
theorem e235_75  : eb_E L d 235 75 ls ([a1, a0]) M = (eb_ev L d 234 [a0, a1] M).bind (fun q => eb_E L d 235 78 ls [q.1] q.2) := eb_E_c hk235 rfl
theorem e235_78 {x : Int32} : eb_E L d 235 78 [v0, v1, v2, some (zi x), v4] (st) M = eb_E L d 235 79 [v0, v1, v2, some (zi x), v4] (zi x :: st) M := eb_E_s hk235 rfl
theorem e235_79 {x : Int32} {y : Int32} : eb_E L d 235 79 ls (zi y :: zi x :: st) M = eb_E L d 235 80 ls (zi (x - y) :: st) M := eb_E_s hk235 rfl
theorem e235_80 {x : Int32} : eb_E L d 235 80 ls ([zi x]) M = some (zi x, M) := eb_E_r hk235 rfl
/-! X6_called -/
theorem hk236 : eb_cd L 236 = eb_look (kt236 L) := rfl
theorem h236 (ha : (eb_ty L a.1).1 = 6) {x1 : Int32} {x2 : Int32} {x3 : Int32} : eb_ev L (d + 1) 236 [zr a, zi x1, zi x2, zi x3] M = eb_E L d 236 0 [some (zr a), some (zi x1), some (zi x2), some (zi x3), none, none] [] M := eb_ev_s rfl (eb_chk_i ha rfl)
theorem e236_0 {x : Int32} : eb_E L d 236 0 [v0, some (zi x), v2, v3, v4, v5] (st) M = eb_E L d 236 1 [v0, some (zi x), v2, v3, v4, v5] (zi x :: st) M := eb_E_s hk236 rfl
theorem e236_1  : eb_E L d 236 1 ls ([a0]) M = (eb_ev L d 150 [a0] M).bind (fun q => eb_E L d 236 4 ls [q.1] q.2) := eb_E_c hk236 rfl
theorem e236_4 {x : Int32} : eb_E L d 236 4 ls (zi x :: st) M = if x = 0 then eb_E L d 236 27 ls st M else eb_E L d 236 7 ls st M := eb_E_b hk236 rfl
theorem e236_7 {x : Option eb_A} : eb_E L d 236 7 [some (Sum.inr x), v1, v2, v3, v4, v5] (st) M = eb_E L d 236 8 [some (Sum.inr x), v1, v2, v3, v4, v5] (Sum.inr x :: st) M := eb_E_s hk236 rfl
theorem e236_8 {x : Int32} : eb_E L d 236 8 [v0, v1, some (zi x), v3, v4, v5] (st) M = eb_E L d 236 9 [v0, v1, some (zi x), v3, v4, v5] (zi x :: st) M := eb_E_s hk236 rfl
theorem e236_9  : eb_E L d 236 9 ls ([a1, a0]) M = (eb_ev L d 148 [a0, a1] M).bind (fun q => eb_E L d 236 12 ls [q.1] q.2) := eb_E_c hk236 rfl
theorem e236_12 {x : Int32} : eb_E L d 236 12 ls (zi x :: st) M = if x = 0 then eb_E L d 236 27 ls st M else eb_E L d 236 15 ls st M := eb_E_b hk236 rfl
theorem e236_15 {x : Int32} : eb_E L d 236 15 [v0, v1, v2, some (zi x), v4, v5] (st) M = eb_E L d 236 16 [v0, v1, v2, some (zi x), v4, v5] (zi x :: st) M := eb_E_s hk236 rfl
theorem e236_16 {x : Int32} : eb_E L d 236 16 ls (zi x :: st) M = eb_E L d 236 17 ls (zl x.toInt64 :: st) M := eb_E_s hk236 rfl
theorem e236_17  : eb_E L d 236 17 ls (st) M = eb_E L d 236 18 ls (zl 0 :: st) M := eb_E_s hk236 rfl
theorem e236_18  : eb_E L d 236 18 ls (st) M = eb_E L d 236 21 ls (zl 100 :: st) M := eb_E_s hk236 rfl
theorem e236_21  : eb_E L d 236 21 ls ([a2, a1, a0]) M = (eb_ev L d 146 [a0, a1, a2] M).bind (fun q => eb_E L d 236 24 ls [q.1] q.2) := eb_E_c hk236 rfl
theorem e236_24 {x : Int32} : eb_E L d 236 24 ls (zi x :: st) M = if x = 0 then eb_E L d 236 27 ls st M else eb_E L d 236 37 ls st M := eb_E_b hk236 rfl
theorem e236_27  : eb_E L d 236 27 ls (st) M = eb_E L d 236 29 ls (zi (-1000000) :: st) M := eb_E_s hk236 rfl
theorem e236_29 {x : Option eb_A} : eb_E L d 236 29 [some (Sum.inr x), v1, v2, v3, v4, v5] (st) M = eb_E L d 236 30 [some (Sum.inr x), v1, v2, v3, v4, v5] (Sum.inr x :: st) M := eb_E_s hk236 rfl
theorem e236_30  : eb_E L d 236 30 ls (st) M = eb_E L d 236 32 ls (zi (-2) :: st) M := eb_E_s hk236 rfl
theorem e236_32 {s0 : Int32} : eb_E L d 236 32 ls ([a1, a0, zi s0]) M = (eb_ev L d 145 [a0, a1] M).bind (fun q => eb_E L d 236 35 ls [q.1, zi s0] q.2) := eb_E_c hk236 rfl
theorem e236_35 {x : Int32} {y : Int32} : eb_E L d 236 35 ls (zi y :: zi x :: st) M = eb_E L d 236 36 ls (zi (x + y) :: st) M := eb_E_s hk236 rfl
theorem e236_36 {x : Int32} : eb_E L d 236 36 ls ([zi x]) M = some (zi x, M) := eb_E_r hk236 rfl
theorem e236_37 {x : Option eb_A} : eb_E L d 236 37 [some (Sum.inr x), v1, v2, v3, v4, v5] (st) M = eb_E L d 236 38 [some (Sum.inr x), v1, v2, v3, v4, v5] (Sum.inr x :: st) M := eb_E_s hk236 rfl
theorem e236_38  : eb_E L d 236 38 ls ([a0]) M = (eb_ev L d 246 [a0] M).bind (fun q => eb_E L d 236 41 ls [q.1] q.2) := eb_E_c hk236 rfl
theorem e236_41 {x : Int32} : eb_E L d 236 41 [v0, some (zi x), v2, v3, v4, v5] (st) M = eb_E L d 236 42 [v0, some (zi x), v2, v3, v4, v5] (zi x :: st) M := eb_E_s hk236 rfl
theorem e236_42  : eb_E L d 236 42 ls (st) M = eb_E L d 236 43 ls (zi (-1) :: st) M := eb_E_s hk236 rfl
theorem e236_43  : eb_E L d 236 43 ls ([a2, a1, a0]) M = (eb_ev L d 224 [a0, a1, a2] M).bind (fun q => eb_E L d 236 46 ls [q.1] q.2) := eb_E_c hk236 rfl
theorem e236_46 {x : Int32} : eb_E L d 236 46 [v0, v1, v2, v3, v4, v5] (zi x :: st) M = eb_E L d 236 48 [v0, v1, v2, v3, some (zi x), v5] (st) M := eb_E_s hk236 rfl
theorem e236_48 {x : Option eb_A} : eb_E L d 236 48 [some (Sum.inr x), v1, v2, v3, v4, v5] (st) M = eb_E L d 236 49 [some (Sum.inr x), v1, v2, v3, v4, v5] (Sum.inr x :: st) M := eb_E_s hk236 rfl
theorem e236_49  : eb_E L d 236 49 ls ([a0]) M = (eb_ev L d 246 [a0] M).bind (fun q => eb_E L d 236 52 ls [q.1] q.2) := eb_E_c hk236 rfl
theorem e236_52 {x : Option eb_A} : eb_E L d 236 52 [v0, v1, v2, v3, v4, v5] (Sum.inr x :: st) M = eb_E L d 236 54 [v0, v1, v2, v3, v4, some (Sum.inr x)] (st) M := eb_E_s hk236 rfl
theorem e236_54 {x : Option eb_A} : eb_E L d 236 54 [v0, v1, v2, v3, v4, some (Sum.inr x)] (st) M = eb_E L d 236 56 [v0, v1, v2, v3, v4, some (Sum.inr x)] (Sum.inr x :: st) M := eb_E_s hk236 rfl
theorem e236_56  : eb_E L d 236 56 ls (Sum.inr (some a) :: st) (nc, ns, I, J, R) = if (eb_ty L a.1).1 = 6 then eb_E L d 236 59 ls (Sum.inr (R a 10) :: st) (nc, ns, I, J, R) else none := eb_E_iy hk236 rfl
theorem e236_59 {x : Int32} : eb_E L d 236 59 [v0, v1, some (zi x), v3, v4, v5] (st) M = eb_E L d 236 60 [v0, v1, some (zi x), v3, v4, v5] (zi x :: st) M := eb_E_s hk236 rfl
theorem e236_60 {x : Int32} : eb_E L d 236 60 ls (zi x :: Sum.inr (some a) :: st) (nc, ns, I, J, R) = if (12 ≤ (eb_ty L a.1).1 ∧ (eb_ty L a.1).1 ≤ 16) ∧ eb_in x (eb_ty L a.1).2 = true then eb_E L d 236 61 ls (Sum.inr (R a x.toNatClampNeg) :: st) (nc, ns, I, J, R) else none := eb_E_iy hk236 rfl
theorem e236_61  : eb_E L d 236 61 ls (st) M = eb_E L d 236 62 ls (zi 4 :: st) M := eb_E_s hk236 rfl
theorem e236_62 {x : Int32} : eb_E L d 236 62 [v0, v1, v2, some (zi x), v4, v5] (st) M = eb_E L d 236 63 [v0, v1, v2, some (zi x), v4, v5] (zi x :: st) M := eb_E_s hk236 rfl
theorem e236_63 {x : Int32} {v : Int32} : eb_E L d 236 63 ls (zi v :: zi x :: Sum.inr (some a) :: st) (nc, ns, I, J, R) = if (eb_ty L a.1).1 = 10 ∧ eb_in x (eb_ty L a.1).2 = true then eb_E L d 236 64 ls (st) (nc, ns, eb_u I a x.toNatClampNeg v, J, R) else none := eb_E_iy hk236 rfl
theorem e236_64 {x : Option eb_A} : eb_E L d 236 64 [v0, v1, v2, v3, v4, some (Sum.inr x)] (st) M = eb_E L d 236 66 [v0, v1, v2, v3, v4, some (Sum.inr x)] (Sum.inr x :: st) M := eb_E_s hk236 rfl
theorem e236_66 {x : Int32} : eb_E L d 236 66 [v0, some (zi x), v2, v3, v4, v5] (st) M = eb_E L d 236 67 [v0, some (zi x), v2, v3, v4, v5] (zi x :: st) M := eb_E_s hk236 rfl
theorem e236_67  : eb_E L d 236 67 ls (st) M = eb_E L d 236 68 ls (zi (-1) :: st) M := eb_E_s hk236 rfl
theorem e236_68  : eb_E L d 236 68 ls ([a2, a1, a0]) M = (eb_ev L d 224 [a0, a1, a2] M).bind (fun q => eb_E L d 236 71 ls [q.1] q.2) := eb_E_c hk236 rfl
theorem e236_71 {x : Int32} : eb_E L d 236 71 [v0, v1, v2, v3, some (zi x), v5] (st) M = eb_E L d 236 73 [v0, v1, v2, v3, some (zi x), v5] (zi x :: st) M := eb_E_s hk236 rfl
theorem e236_73 {x : Int32} {y : Int32} : eb_E L d 236 73 ls (zi y :: zi x :: st) M = eb_E L d 236 74 ls (zi (x - y) :: st) M := eb_E_s hk236 rfl
theorem e236_74 {x : Int32} : eb_E L d 236 74 ls ([zi x]) M = some (zi x, M) := eb_E_r hk236 rfl
/-! X6_spoilt -/
theorem hk237 : eb_cd L 237 = eb_look (kt237 L) := rfl
theorem h237 (ha : (eb_ty L a.1).1 = 6) {x1 : Int32} {x2 : Int32} : eb_ev L (d + 1) 237 [zr a, zi x1, zi x2] M = eb_E L d 237 0 [some (zr a), some (zi x1), some (zi x2), none, none] [] M := eb_ev_s rfl (eb_chk_i ha rfl)
theorem e237_0 {x : Option eb_A} : eb_E L d 237 0 [some (Sum.inr x), v1, v2, v3, v4] (st) M = eb_E L d 237 1 [some (Sum.inr x), v1, v2, v3, v4] (Sum.inr x :: st) M := eb_E_s hk237 rfl
theorem e237_1 {x : Int32} : eb_E L d 237 1 [v0, some (zi x), v2, v3, v4] (st) M = eb_E L d 237 2 [v0, some (zi x), v2, v3, v4] (zi x :: st) M := eb_E_s hk237 rfl
theorem e237_2  : eb_E L d 237 2 ls ([a1, a0]) M = (eb_ev L d 148 [a0, a1] M).bind (fun q => eb_E L d 237 5 ls [q.1] q.2) := eb_E_c hk237 rfl
theorem e237_5 {x : Int32} : eb_E L d 237 5 ls (zi x :: st) M = if x = 0 then eb_E L d 237 20 ls st M else eb_E L d 237 8 ls st M := eb_E_b hk237 rfl
theorem e237_8 {x : Int32} : eb_E L d 237 8 [v0, v1, some (zi x), v3, v4] (st) M = eb_E L d 237 9 [v0, v1, some (zi x), v3, v4] (zi x :: st) M := eb_E_s hk237 rfl
theorem e237_9 {x : Int32} : eb_E L d 237 9 ls (zi x :: st) M = eb_E L d 237 10 ls (zl x.toInt64 :: st) M := eb_E_s hk237 rfl
theorem e237_10  : eb_E L d 237 10 ls (st) M = eb_E L d 237 11 ls (zl 0 :: st) M := eb_E_s hk237 rfl
theorem e237_11  : eb_E L d 237 11 ls (st) M = eb_E L d 237 14 ls (zl 100 :: st) M := eb_E_s hk237 rfl
theorem e237_14  : eb_E L d 237 14 ls ([a2, a1, a0]) M = (eb_ev L d 146 [a0, a1, a2] M).bind (fun q => eb_E L d 237 17 ls [q.1] q.2) := eb_E_c hk237 rfl
theorem e237_17 {x : Int32} : eb_E L d 237 17 ls (zi x :: st) M = if x = 0 then eb_E L d 237 20 ls st M else eb_E L d 237 27 ls st M := eb_E_b hk237 rfl
theorem e237_20 {x : Option eb_A} : eb_E L d 237 20 [some (Sum.inr x), v1, v2, v3, v4] (st) M = eb_E L d 237 21 [some (Sum.inr x), v1, v2, v3, v4] (Sum.inr x :: st) M := eb_E_s hk237 rfl
theorem e237_21  : eb_E L d 237 21 ls (st) M = eb_E L d 237 23 ls (zi (-2) :: st) M := eb_E_s hk237 rfl
theorem e237_23  : eb_E L d 237 23 ls ([a1, a0]) M = (eb_ev L d 145 [a0, a1] M).bind (fun q => eb_E L d 237 26 ls [q.1] q.2) := eb_E_c hk237 rfl
theorem e237_26 {x : Int32} : eb_E L d 237 26 ls ([zi x]) M = some (zi x, M) := eb_E_r hk237 rfl
theorem e237_27 {x : Option eb_A} : eb_E L d 237 27 [some (Sum.inr x), v1, v2, v3, v4] (st) M = eb_E L d 237 28 [some (Sum.inr x), v1, v2, v3, v4] (Sum.inr x :: st) M := eb_E_s hk237 rfl
theorem e237_28  : eb_E L d 237 28 ls ([a0]) M = (eb_ev L d 246 [a0] M).bind (fun q => eb_E L d 237 31 ls [q.1] q.2) := eb_E_c hk237 rfl
theorem e237_31 {x : Option eb_A} : eb_E L d 237 31 [v0, v1, v2, v3, v4] (Sum.inr x :: st) M = eb_E L d 237 32 [v0, v1, v2, some (Sum.inr x), v4] (st) M := eb_E_s hk237 rfl
theorem e237_32  : eb_E L d 237 32 ls (st) M = eb_E L d 237 33 ls (zi 1 :: st) M := eb_E_s hk237 rfl
theorem e237_33 {x : Int32} : eb_E L d 237 33 [v0, v1, v2, v3, v4] (zi x :: st) M = eb_E L d 237 35 [v0, v1, v2, v3, some (zi x)] (st) M := eb_E_s hk237 rfl
theorem e237_35 {x : Int32} : eb_E L d 237 35 [v0, v1, v2, v3, some (zi x)] (st) M = eb_E L d 237 37 [v0, v1, v2, v3, some (zi x)] (zi x :: st) M := eb_E_s hk237 rfl
theorem e237_37  : eb_E L d 237 37 ls (st) M = eb_E L d 237 39 ls (zi 30 :: st) M := eb_E_s hk237 rfl
theorem e237_39 {x : Int32} {y : Int32} : eb_E L d 237 39 ls (zi y :: zi x :: st) M = if y < x then eb_E L d 237 67 ls st M else eb_E L d 237 42 ls st M := eb_E_b hk237 rfl
theorem e237_42 {x : Option eb_A} : eb_E L d 237 42 [v0, v1, v2, some (Sum.inr x), v4] (st) M = eb_E L d 237 43 [v0, v1, v2, some (Sum.inr x), v4] (Sum.inr x :: st) M := eb_E_s hk237 rfl
theorem e237_43  : eb_E L d 237 43 ls ([a0]) M = (eb_ev L d 223 [a0] M).bind (fun q => eb_E L d 237 46 ls [] q.2) := eb_E_c hk237 rfl
theorem e237_46 {x : Option eb_A} : eb_E L d 237 46 [v0, v1, v2, some (Sum.inr x), v4] (st) M = eb_E L d 237 47 [v0, v1, v2, some (Sum.inr x), v4] (Sum.inr x :: st) M := eb_E_s hk237 rfl
theorem e237_47  : eb_E L d 237 47 ls (Sum.inr (some a) :: st) (nc, ns, I, J, R) = if (eb_ty L a.1).1 = 6 then eb_E L d 237 50 ls (Sum.inr (R a 10) :: st) (nc, ns, I, J, R) else none := eb_E_iy hk237 rfl
theorem e237_50 {x : Int32} : eb_E L d 237 50 [v0, some (zi x), v2, v3, v4] (st) M = eb_E L d 237 51 [v0, some (zi x), v2, v3, v4] (zi x :: st) M := eb_E_s hk237 rfl
theorem e237_51 {x : Int32} : eb_E L d 237 51 ls (zi x :: Sum.inr (some a) :: st) (nc, ns, I, J, R) = if (12 ≤ (eb_ty L a.1).1 ∧ (eb_ty L a.1).1 ≤ 16) ∧ eb_in x (eb_ty L a.1).2 = true then eb_E L d 237 52 ls (Sum.inr (R a x.toNatClampNeg) :: st) (nc, ns, I, J, R) else none := eb_E_iy hk237 rfl
theorem e237_52  : eb_E L d 237 52 ls (st) M = eb_E L d 237 53 ls (zi 0 :: st) M := eb_E_s hk237 rfl
theorem e237_53 {x : Int32} : eb_E L d 237 53 ls (zi x :: Sum.inr (some a) :: st) (nc, ns, I, J, R) = if (eb_ty L a.1).1 = 10 ∧ eb_in x (eb_ty L a.1).2 = true then eb_E L d 237 54 ls (zi (I a x.toNatClampNeg) :: st) (nc, ns, I, J, R) else none := eb_E_iy hk237 rfl
theorem e237_54 {x : Int32} : eb_E L d 237 54 [v0, v1, some (zi x), v3, v4] (st) M = eb_E L d 237 55 [v0, v1, some (zi x), v3, v4] (zi x :: st) M := eb_E_s hk237 rfl
theorem e237_55 {x : Int32} {y : Int32} : eb_E L d 237 55 ls (zi y :: zi x :: st) M = if x < y then eb_E L d 237 58 ls st M else eb_E L d 237 61 ls st M := eb_E_b hk237 rfl
theorem e237_58 {x : Int32} : eb_E L d 237 58 [v0, v1, v2, v3, some (zi x)] (st) M = eb_E L d 237 60 [v0, v1, v2, v3, some (zi x)] (zi x :: st) M := eb_E_s hk237 rfl
theorem e237_60 {x : Int32} : eb_E L d 237 60 ls ([zi x]) M = some (zi x, M) := eb_E_r hk237 rfl
theorem e237_61 {x : Int32} : eb_E L d 237 61 [v0, v1, v2, v3, some (zi x)] (st) M = eb_E L d 237 64 [v0, v1, v2, v3, some (zi (x + 1))] (st) M := eb_E_s hk237 rfl
theorem e237_64  : eb_E L d 237 64 ls (st) M = eb_E L d 237 35 ls (st) M := eb_E_s hk237 rfl
theorem e237_67  : eb_E L d 237 67 ls (st) M = eb_E L d 237 68 ls (zi (-1) :: st) M := eb_E_s hk237 rfl
theorem e237_68 {x : Int32} : eb_E L d 237 68 ls ([zi x]) M = some (zi x, M) := eb_E_r hk237 rfl
/-! X6_bears -/
theorem hk238 : eb_cd L 238 = eb_look (kt238 L) := rfl
theorem h238 (ha : (eb_ty L a.1).1 = 6) {x1 : Int32} {x2 : Int32} {x3 : Int32} {x4 : Int32} : eb_ev L (d + 1) 238 [zr a, zi x1, zi x2, zi x3, zi x4] M = eb_E L d 238 0 [some (zr a), some (zi x1), some (zi x2), some (zi x3), some (zi x4), none, none, none, none] [] M := eb_ev_s rfl (eb_chk_i ha rfl)
theorem e238_0 {x : Option eb_A} : eb_E L d 238 0 [some (Sum.inr x), v1, v2, v3, v4, v5, v6, v7, v8] (st) M = eb_E L d 238 1 [some (Sum.inr x), v1, v2, v3, v4, v5, v6, v7, v8] (Sum.inr x :: st) M := eb_E_s hk238 rfl
theorem e238_1 {x : Int32} : eb_E L d 238 1 [v0, some (zi x), v2, v3, v4, v5, v6, v7, v8] (st) M = eb_E L d 238 2 [v0, some (zi x), v2, v3, v4, v5, v6, v7, v8] (zi x :: st) M := eb_E_s hk238 rfl
theorem e238_2  : eb_E L d 238 2 ls ([a1, a0]) M = (eb_ev L d 149 [a0, a1] M).bind (fun q => eb_E L d 238 5 ls [q.1] q.2) := eb_E_c hk238 rfl
theorem e238_5 {x : Int32} : eb_E L d 238 5 ls (zi x :: st) M = if x = 0 then eb_E L d 238 36 ls st M else eb_E L d 238 8 ls st M := eb_E_b hk238 rfl
theorem e238_8 {x : Option eb_A} : eb_E L d 238 8 [some (Sum.inr x), v1, v2, v3, v4, v5, v6, v7, v8] (st) M = eb_E L d 238 9 [some (Sum.inr x), v1, v2, v3, v4, v5, v6, v7, v8] (Sum.inr x :: st) M := eb_E_s hk238 rfl
theorem e238_9 {x : Int32} : eb_E L d 238 9 [v0, v1, some (zi x), v3, v4, v5, v6, v7, v8] (st) M = eb_E L d 238 10 [v0, v1, some (zi x), v3, v4, v5, v6, v7, v8] (zi x :: st) M := eb_E_s hk238 rfl
theorem e238_10  : eb_E L d 238 10 ls ([a1, a0]) M = (eb_ev L d 148 [a0, a1] M).bind (fun q => eb_E L d 238 13 ls [q.1] q.2) := eb_E_c hk238 rfl
theorem e238_13 {x : Int32} : eb_E L d 238 13 ls (zi x :: st) M = if x = 0 then eb_E L d 238 36 ls st M else eb_E L d 238 16 ls st M := eb_E_b hk238 rfl
theorem e238_16 {x : Int32} : eb_E L d 238 16 [v0, v1, v2, some (zi x), v4, v5, v6, v7, v8] (st) M = eb_E L d 238 17 [v0, v1, v2, some (zi x), v4, v5, v6, v7, v8] (zi x :: st) M := eb_E_s hk238 rfl
theorem e238_17  : eb_E L d 238 17 ls ([a0]) M = (eb_ev L d 150 [a0] M).bind (fun q => eb_E L d 238 20 ls [q.1] q.2) := eb_E_c hk238 rfl
theorem e238_20 {x : Int32} : eb_E L d 238 20 ls (zi x :: st) M = if x = 0 then eb_E L d 238 36 ls st M else eb_E L d 238 23 ls st M := eb_E_b hk238 rfl
theorem e238_23 {x : Int32} : eb_E L d 238 23 [v0, v1, v2, v3, some (zi x), v5, v6, v7, v8] (st) M = eb_E L d 238 25 [v0, v1, v2, v3, some (zi x), v5, v6, v7, v8] (zi x :: st) M := eb_E_s hk238 rfl
theorem e238_25 {x : Int32} : eb_E L d 238 25 ls (zi x :: st) M = eb_E L d 238 26 ls (zl x.toInt64 :: st) M := eb_E_s hk238 rfl
theorem e238_26  : eb_E L d 238 26 ls (st) M = eb_E L d 238 27 ls (zl 0 :: st) M := eb_E_s hk238 rfl
theorem e238_27  : eb_E L d 238 27 ls (st) M = eb_E L d 238 30 ls (zl 100 :: st) M := eb_E_s hk238 rfl
theorem e238_30  : eb_E L d 238 30 ls ([a2, a1, a0]) M = (eb_ev L d 146 [a0, a1, a2] M).bind (fun q => eb_E L d 238 33 ls [q.1] q.2) := eb_E_c hk238 rfl
theorem e238_33 {x : Int32} : eb_E L d 238 33 ls (zi x :: st) M = if x = 0 then eb_E L d 238 36 ls st M else eb_E L d 238 43 ls st M := eb_E_b hk238 rfl
theorem e238_36 {x : Option eb_A} : eb_E L d 238 36 [some (Sum.inr x), v1, v2, v3, v4, v5, v6, v7, v8] (st) M = eb_E L d 238 37 [some (Sum.inr x), v1, v2, v3, v4, v5, v6, v7, v8] (Sum.inr x :: st) M := eb_E_s hk238 rfl
theorem e238_37  : eb_E L d 238 37 ls (st) M = eb_E L d 238 39 ls (zi (-2) :: st) M := eb_E_s hk238 rfl
theorem e238_39  : eb_E L d 238 39 ls ([a1, a0]) M = (eb_ev L d 145 [a0, a1] M).bind (fun q => eb_E L d 238 42 ls [q.1] q.2) := eb_E_c hk238 rfl
theorem e238_42 {x : Int32} : eb_E L d 238 42 ls ([zi x]) M = some (zi x, M) := eb_E_r hk238 rfl
theorem e238_43  : eb_E L d 238 43 ls (st) M = eb_E L d 238 45 ls (zi 30 :: st) M := eb_E_s hk238 rfl
theorem e238_45 {x : Int32} : eb_E L d 238 45 [v0, v1, v2, v3, v4, v5, v6, v7, v8] (zi x :: st) M = eb_E L d 238 47 [v0, v1, v2, v3, v4, some (zi x), v6, v7, v8] (st) M := eb_E_s hk238 rfl
theorem e238_47 {x : Int32} : eb_E L d 238 47 [v0, v1, v2, v3, v4, some (zi x), v6, v7, v8] (st) M = eb_E L d 238 49 [v0, v1, v2, v3, v4, some (zi x), v6, v7, v8] (zi x :: st) M := eb_E_s hk238 rfl
theorem e238_49  : eb_E L d 238 49 ls (st) M = eb_E L d 238 50 ls (zi 1 :: st) M := eb_E_s hk238 rfl
theorem e238_50 {x : Int32} {y : Int32} : eb_E L d 238 50 ls (zi y :: zi x :: st) M = if x < y then eb_E L d 238 131 ls st M else eb_E L d 238 53 ls st M := eb_E_b hk238 rfl
theorem e238_53 {x : Option eb_A} : eb_E L d 238 53 [some (Sum.inr x), v1, v2, v3, v4, v5, v6, v7, v8] (st) M = eb_E L d 238 54 [some (Sum.inr x), v1, v2, v3, v4, v5, v6, v7, v8] (Sum.inr x :: st) M := eb_E_s hk238 rfl
theorem e238_54  : eb_E L d 238 54 ls ([a0]) M = (eb_ev L d 246 [a0] M).bind (fun q => eb_E L d 238 57 ls [q.1] q.2) := eb_E_c hk238 rfl
theorem e238_57 {x : Option eb_A} : eb_E L d 238 57 [v0, v1, v2, v3, v4, v5, v6, v7, v8] (Sum.inr x :: st) M = eb_E L d 238 59 [v0, v1, v2, v3, v4, v5, some (Sum.inr x), v7, v8] (st) M := eb_E_s hk238 rfl
theorem e238_59 {x : Option eb_A} : eb_E L d 238 59 [v0, v1, v2, v3, v4, v5, some (Sum.inr x), v7, v8] (st) M = eb_E L d 238 61 [v0, v1, v2, v3, v4, v5, some (Sum.inr x), v7, v8] (Sum.inr x :: st) M := eb_E_s hk238 rfl
theorem e238_61  : eb_E L d 238 61 ls (Sum.inr (some a) :: st) (nc, ns, I, J, R) = if (eb_ty L a.1).1 = 6 then eb_E L d 238 64 ls (Sum.inr (R a 12) :: st) (nc, ns, I, J, R) else none := eb_E_iy hk238 rfl
theorem e238_64 {x : Int32} : eb_E L d 238 64 [v0, some (zi x), v2, v3, v4, v5, v6, v7, v8] (st) M = eb_E L d 238 65 [v0, some (zi x), v2, v3, v4, v5, v6, v7, v8] (zi x :: st) M := eb_E_s hk238 rfl
theorem e238_65 {x : Int32} : eb_E L d 238 65 ls (zi x :: Sum.inr (some a) :: st) (nc, ns, I, J, R) = if (12 ≤ (eb_ty L a.1).1 ∧ (eb_ty L a.1).1 ≤ 16) ∧ eb_in x (eb_ty L a.1).2 = true then eb_E L d 238 66 ls (Sum.inr (R a x.toNatClampNeg) :: st) (nc, ns, I, J, R) else none := eb_E_iy hk238 rfl
theorem e238_66  : eb_E L d 238 66 ls (st) M = eb_E L d 238 67 ls (zi 1 :: st) M := eb_E_s hk238 rfl
theorem e238_67 {x : Int32} : eb_E L d 238 67 [v0, v1, v2, v3, v4, some (zi x), v6, v7, v8] (st) M = eb_E L d 238 69 [v0, v1, v2, v3, v4, some (zi x), v6, v7, v8] (zi x :: st) M := eb_E_s hk238 rfl
theorem e238_69 {x : Int32} {v : Int32} : eb_E L d 238 69 ls (zi v :: zi x :: Sum.inr (some a) :: st) (nc, ns, I, J, R) = if (eb_ty L a.1).1 = 10 ∧ eb_in x (eb_ty L a.1).2 = true then eb_E L d 238 70 ls (st) (nc, ns, eb_u I a x.toNatClampNeg v, J, R) else none := eb_E_iy hk238 rfl
theorem e238_70  : eb_E L d 238 70 ls (st) M = eb_E L d 238 71 ls (zi 1 :: st) M := eb_E_s hk238 rfl
theorem e238_71 {x : Int32} : eb_E L d 238 71 [v0, v1, v2, v3, v4, v5, v6, v7, v8] (zi x :: st) M = eb_E L d 238 73 [v0, v1, v2, v3, v4, v5, v6, some (zi x), v8] (st) M := eb_E_s hk238 rfl
theorem e238_73  : eb_E L d 238 73 ls (st) M = eb_E L d 238 74 ls (zi 0 :: st) M := eb_E_s hk238 rfl
theorem e238_74 {x : Int32} : eb_E L d 238 74 [v0, v1, v2, v3, v4, v5, v6, v7, v8] (zi x :: st) M = eb_E L d 238 76 [v0, v1, v2, v3, v4, v5, v6, v7, some (zi x)] (st) M := eb_E_s hk238 rfl
theorem e238_76 {x : Int32} : eb_E L d 238 76 [v0, v1, v2, v3, v4, v5, v6, v7, some (zi x)] (st) M = eb_E L d 238 78 [v0, v1, v2, v3, v4, v5, v6, v7, some (zi x)] (zi x :: st) M := eb_E_s hk238 rfl
theorem e238_78 {x : Int32} : eb_E L d 238 78 [v0, v1, v2, some (zi x), v4, v5, v6, v7, v8] (st) M = eb_E L d 238 79 [v0, v1, v2, some (zi x), v4, v5, v6, v7, v8] (zi x :: st) M := eb_E_s hk238 rfl
theorem e238_79 {x : Int32} {y : Int32} : eb_E L d 238 79 ls (zi y :: zi x :: st) M = if x < y then eb_E L d 238 82 ls st M else eb_E L d 238 117 ls st M := eb_E_b hk238 rfl
theorem e238_82 {x : Option eb_A} : eb_E L d 238 82 [v0, v1, v2, v3, v4, v5, some (Sum.inr x), v7, v8] (st) M = eb_E L d 238 84 [v0, v1, v2, v3, v4, v5, some (Sum.inr x), v7, v8] (Sum.inr x :: st) M := eb_E_s hk238 rfl
theorem e238_84  : eb_E L d 238 84 ls ([a0]) M = (eb_ev L d 223 [a0] M).bind (fun q => eb_E L d 238 87 ls [] q.2) := eb_E_c hk238 rfl
theorem e238_87 {x : Int32} : eb_E L d 238 87 [v0, v1, v2, v3, v4, v5, v6, some (zi x), v8] (st) M = eb_E L d 238 89 [v0, v1, v2, v3, v4, v5, v6, some (zi x), v8] (zi x :: st) M := eb_E_s hk238 rfl
theorem e238_89 {x : Option eb_A} : eb_E L d 238 89 [v0, v1, v2, v3, v4, v5, some (Sum.inr x), v7, v8] (st) M = eb_E L d 238 91 [v0, v1, v2, v3, v4, v5, some (Sum.inr x), v7, v8] (Sum.inr x :: st) M := eb_E_s hk238 rfl
theorem e238_91  : eb_E L d 238 91 ls (Sum.inr (some a) :: st) (nc, ns, I, J, R) = if (eb_ty L a.1).1 = 6 then eb_E L d 238 94 ls (Sum.inr (R a 10) :: st) (nc, ns, I, J, R) else none := eb_E_iy hk238 rfl
theorem e238_94 {x : Int32} : eb_E L d 238 94 [v0, v1, some (zi x), v3, v4, v5, v6, v7, v8] (st) M = eb_E L d 238 95 [v0, v1, some (zi x), v3, v4, v5, v6, v7, v8] (zi x :: st) M := eb_E_s hk238 rfl
theorem e238_95 {x : Int32} : eb_E L d 238 95 ls (zi x :: Sum.inr (some a) :: st) (nc, ns, I, J, R) = if (12 ≤ (eb_ty L a.1).1 ∧ (eb_ty L a.1).1 ≤ 16) ∧ eb_in x (eb_ty L a.1).2 = true then eb_E L d 238 96 ls (Sum.inr (R a x.toNatClampNeg) :: st) (nc, ns, I, J, R) else none := eb_E_iy hk238 rfl
theorem e238_96  : eb_E L d 238 96 ls (st) M = eb_E L d 238 97 ls (zi 0 :: st) M := eb_E_s hk238 rfl
theorem e238_97 {x : Int32} : eb_E L d 238 97 ls (zi x :: Sum.inr (some a) :: st) (nc, ns, I, J, R) = if (eb_ty L a.1).1 = 10 ∧ eb_in x (eb_ty L a.1).2 = true then eb_E L d 238 98 ls (zi (I a x.toNatClampNeg) :: st) (nc, ns, I, J, R) else none := eb_E_iy hk238 rfl
theorem e238_98 {x : Int32} : eb_E L d 238 98 [v0, v1, v2, v3, some (zi x), v5, v6, v7, v8] (st) M = eb_E L d 238 100 [v0, v1, v2, v3, some (zi x), v5, v6, v7, v8] (zi x :: st) M := eb_E_s hk238 rfl
theorem e238_100 {x : Int32} {y : Int32} : eb_E L d 238 100 ls (zi y :: zi x :: st) M = if x < y then eb_E L d 238 107 ls st M else eb_E L d 238 103 ls st M := eb_E_b hk238 rfl
theorem e238_103  : eb_E L d 238 103 ls (st) M = eb_E L d 238 104 ls (zi 1 :: st) M := eb_E_s hk238 rfl
theorem e238_104  : eb_E L d 238 104 ls (st) M = eb_E L d 238 108 ls (st) M := eb_E_s hk238 rfl
theorem e238_107  : eb_E L d 238 107 ls (st) M = eb_E L d 238 108 ls (zi 0 :: st) M := eb_E_s hk238 rfl
theorem e238_108 {x : Int32} {y : Int32} : eb_E L d 238 108 ls (zi y :: zi x :: st) M = eb_E L d 238 109 ls (zi (x &&& y) :: st) M := eb_E_s hk238 rfl
theorem e238_109 {x : Int32} : eb_E L d 238 109 [v0, v1, v2, v3, v4, v5, v6, v7, v8] (zi x :: st) M = eb_E L d 238 111 [v0, v1, v2, v3, v4, v5, v6, some (zi x), v8] (st) M := eb_E_s hk238 rfl
theorem e238_111 {x : Int32} : eb_E L d 238 111 [v0, v1, v2, v3, v4, v5, v6, v7, some (zi x)] (st) M = eb_E L d 238 114 [v0, v1, v2, v3, v4, v5, v6, v7, some (zi (x + 1))] (st) M := eb_E_s hk238 rfl
theorem e238_114  : eb_E L d 238 114 ls (st) M = eb_E L d 238 76 ls (st) M := eb_E_s hk238 rfl
theorem e238_117 {x : Int32} : eb_E L d 238 117 [v0, v1, v2, v3, v4, v5, v6, some (zi x), v8] (st) M = eb_E L d 238 119 [v0, v1, v2, v3, v4, v5, v6, some (zi x), v8] (zi x :: st) M := eb_E_s hk238 rfl
theorem e238_119 {x : Int32} : eb_E L d 238 119 ls (zi x :: st) M = if x = 0 then eb_E L d 238 125 ls st M else eb_E L d 238 122 ls st M := eb_E_b hk238 rfl
theorem e238_122 {x : Int32} : eb_E L d 238 122 [v0, v1, v2, v3, v4, some (zi x), v6, v7, v8] (st) M = eb_E L d 238 124 [v0, v1, v2, v3, v4, some (zi x), v6, v7, v8] (zi x :: st) M := eb_E_s hk238 rfl
theorem e238_124 {x : Int32} : eb_E L d 238 124 ls ([zi x]) M = some (zi x, M) := eb_E_r hk238 rfl
theorem e238_125 {x : Int32} : eb_E L d 238 125 [v0, v1, v2, v3, v4, some (zi x), v6, v7, v8] (st) M = eb_E L d 238 128 [v0, v1, v2, v3, v4, some (zi (x + (-1))), v6, v7, v8] (st) M := eb_E_s hk238 rfl
theorem e238_128  : eb_E L d 238 128 ls (st) M = eb_E L d 238 47 ls (st) M := eb_E_s hk238 rfl
theorem e238_131  : eb_E L d 238 131 ls (st) M = eb_E L d 238 132 ls (zi (-1) :: st) M := eb_E_s hk238 rfl
theorem e238_132 {x : Int32} : eb_E L d 238 132 ls ([zi x]) M = some (zi x, M) := eb_E_r hk238 rfl
/-! X6_recovers -/
theorem hk239 : eb_cd L 239 = eb_look (kt239 L) := rfl
theorem h239 (ha : (eb_ty L a.1).1 = 6) {x1 : Int32} : eb_ev L (d + 1) 239 [zr a, zi x1] M = eb_E L d 239 0 [some (zr a), some (zi x1), none, none] [] M := eb_ev_s rfl (eb_chk_i ha rfl)
theorem e239_0 {x : Option eb_A} : eb_E L d 239 0 [some (Sum.inr x), v1, v2, v3] (st) M = eb_E L d 239 1 [some (Sum.inr x), v1, v2, v3] (Sum.inr x :: st) M := eb_E_s hk239 rfl
theorem e239_1 {x : Int32} : eb_E L d 239 1 [v0, some (zi x), v2, v3] (st) M = eb_E L d 239 2 [v0, some (zi x), v2, v3] (zi x :: st) M := eb_E_s hk239 rfl
theorem e239_2  : eb_E L d 239 2 ls ([a1, a0]) M = (eb_ev L d 148 [a0, a1] M).bind (fun q => eb_E L d 239 5 ls [q.1] q.2) := eb_E_c hk239 rfl
theorem e239_5 {x : Int32} : eb_E L d 239 5 ls (zi x :: st) M = if x = 0 then eb_E L d 239 8 ls st M else eb_E L d 239 15 ls st M := eb_E_b hk239 rfl
theorem e239_8 {x : Option eb_A} : eb_E L d 239 8 [some (Sum.inr x), v1, v2, v3] (st) M = eb_E L d 239 9 [some (Sum.inr x), v1, v2, v3] (Sum.inr x :: st) M := eb_E_s hk239 rfl
theorem e239_9  : eb_E L d 239 9 ls (st) M = eb_E L d 239 11 ls (zi (-2) :: st) M := eb_E_s hk239 rfl
theorem e239_11  : eb_E L d 239 11 ls ([a1, a0]) M = (eb_ev L d 145 [a0, a1] M).bind (fun q => eb_E L d 239 14 ls [q.1] q.2) := eb_E_c hk239 rfl
theorem e239_14 {x : Int32} : eb_E L d 239 14 ls ([zi x]) M = some (zi x, M) := eb_E_r hk239 rfl
theorem e239_15 {x : Option eb_A} : eb_E L d 239 15 [some (Sum.inr x), v1, v2, v3] (st) M = eb_E L d 239 16 [some (Sum.inr x), v1, v2, v3] (Sum.inr x :: st) M := eb_E_s hk239 rfl
theorem e239_16  : eb_E L d 239 16 ls ([a0]) M = (eb_ev L d 246 [a0] M).bind (fun q => eb_E L d 239 19 ls [q.1] q.2) := eb_E_c hk239 rfl
theorem e239_19 {x : Option eb_A} : eb_E L d 239 19 [v0, v1, v2, v3] (Sum.inr x :: st) M = eb_E L d 239 20 [v0, v1, some (Sum.inr x), v3] (st) M := eb_E_s hk239 rfl
theorem e239_20  : eb_E L d 239 20 ls (st) M = eb_E L d 239 21 ls (zi 0 :: st) M := eb_E_s hk239 rfl
theorem e239_21 {x : Int32} : eb_E L d 239 21 [v0, v1, v2, v3] (zi x :: st) M = eb_E L d 239 22 [v0, v1, v2, some (zi x)] (st) M := eb_E_s hk239 rfl
theorem e239_22 {x : Int32} : eb_E L d 239 22 [v0, v1, v2, some (zi x)] (st) M = eb_E L d 239 23 [v0, v1, v2, some (zi x)] (zi x :: st) M := eb_E_s hk239 rfl
theorem e239_23 {x : Option eb_A} : eb_E L d 239 23 [some (Sum.inr x), v1, v2, v3] (st) M = eb_E L d 239 24 [some (Sum.inr x), v1, v2, v3] (Sum.inr x :: st) M := eb_E_s hk239 rfl
theorem e239_24  : eb_E L d 239 24 ls (Sum.inr (some a) :: st) (nc, ns, I, J, R) = if (eb_ty L a.1).1 = 6 then eb_E L d 239 27 ls (zi (I a 9) :: st) (nc, ns, I, J, R) else none := eb_E_iy hk239 rfl
theorem e239_27 {x : Int32} {y : Int32} : eb_E L d 239 27 ls (zi y :: zi x :: st) M = if x < y then eb_E L d 239 30 ls st M else eb_E L d 239 45 ls st M := eb_E_b hk239 rfl
theorem e239_30 {x : Option eb_A} : eb_E L d 239 30 [v0, v1, some (Sum.inr x), v3] (st) M = eb_E L d 239 31 [v0, v1, some (Sum.inr x), v3] (Sum.inr x :: st) M := eb_E_s hk239 rfl
theorem e239_31  : eb_E L d 239 31 ls (Sum.inr (some a) :: st) (nc, ns, I, J, R) = if (eb_ty L a.1).1 = 6 then eb_E L d 239 34 ls (Sum.inr (R a 10) :: st) (nc, ns, I, J, R) else none := eb_E_iy hk239 rfl
theorem e239_34 {x : Int32} : eb_E L d 239 34 [v0, v1, v2, some (zi x)] (st) M = eb_E L d 239 35 [v0, v1, v2, some (zi x)] (zi x :: st) M := eb_E_s hk239 rfl
theorem e239_35 {x : Int32} : eb_E L d 239 35 ls (zi x :: Sum.inr (some a) :: st) (nc, ns, I, J, R) = if (12 ≤ (eb_ty L a.1).1 ∧ (eb_ty L a.1).1 ≤ 16) ∧ eb_in x (eb_ty L a.1).2 = true then eb_E L d 239 36 ls (Sum.inr (R a x.toNatClampNeg) :: st) (nc, ns, I, J, R) else none := eb_E_iy hk239 rfl
theorem e239_36  : eb_E L d 239 36 ls (st) M = eb_E L d 239 37 ls (zi 4 :: st) M := eb_E_s hk239 rfl
theorem e239_37  : eb_E L d 239 37 ls (st) M = eb_E L d 239 38 ls (zi (-1) :: st) M := eb_E_s hk239 rfl
theorem e239_38 {x : Int32} {v : Int32} : eb_E L d 239 38 ls (zi v :: zi x :: Sum.inr (some a) :: st) (nc, ns, I, J, R) = if (eb_ty L a.1).1 = 10 ∧ eb_in x (eb_ty L a.1).2 = true then eb_E L d 239 39 ls (st) (nc, ns, eb_u I a x.toNatClampNeg v, J, R) else none := eb_E_iy hk239 rfl
theorem e239_39 {x : Int32} : eb_E L d 239 39 [v0, v1, v2, some (zi x)] (st) M = eb_E L d 239 42 [v0, v1, v2, some (zi (x + 1))] (st) M := eb_E_s hk239 rfl
theorem e239_42  : eb_E L d 239 42 ls (st) M = eb_E L d 239 22 ls (st) M := eb_E_s hk239 rfl
theorem e239_45  : eb_E L d 239 45 ls (st) M = eb_E L d 239 46 ls (zi 1 :: st) M := eb_E_s hk239 rfl
theorem e239_46 {x : Int32} : eb_E L d 239 46 [v0, v1, v2, v3] (zi x :: st) M = eb_E L d 239 47 [v0, v1, v2, some (zi x)] (st) M := eb_E_s hk239 rfl
theorem e239_47 {x : Int32} : eb_E L d 239 47 [v0, v1, v2, some (zi x)] (st) M = eb_E L d 239 48 [v0, v1, v2, some (zi x)] (zi x :: st) M := eb_E_s hk239 rfl
theorem e239_48  : eb_E L d 239 48 ls (st) M = eb_E L d 239 50 ls (zi 30 :: st) M := eb_E_s hk239 rfl
theorem e239_50 {x : Int32} {y : Int32} : eb_E L d 239 50 ls (zi y :: zi x :: st) M = if y < x then eb_E L d 239 84 ls st M else eb_E L d 239 53 ls st M := eb_E_b hk239 rfl
theorem e239_53 {x : Option eb_A} : eb_E L d 239 53 [v0, v1, some (Sum.inr x), v3] (st) M = eb_E L d 239 54 [v0, v1, some (Sum.inr x), v3] (Sum.inr x :: st) M := eb_E_s hk239 rfl
theorem e239_54  : eb_E L d 239 54 ls ([a0]) M = (eb_ev L d 223 [a0] M).bind (fun q => eb_E L d 239 57 ls [] q.2) := eb_E_c hk239 rfl
theorem e239_57 {x : Option eb_A} : eb_E L d 239 57 [v0, v1, some (Sum.inr x), v3] (st) M = eb_E L d 239 58 [v0, v1, some (Sum.inr x), v3] (Sum.inr x :: st) M := eb_E_s hk239 rfl
theorem e239_58  : eb_E L d 239 58 ls (Sum.inr (some a) :: st) (nc, ns, I, J, R) = if (eb_ty L a.1).1 = 6 then eb_E L d 239 61 ls (Sum.inr (R a 10) :: st) (nc, ns, I, J, R) else none := eb_E_iy hk239 rfl
theorem e239_61 {x : Int32} : eb_E L d 239 61 [v0, some (zi x), v2, v3] (st) M = eb_E L d 239 62 [v0, some (zi x), v2, v3] (zi x :: st) M := eb_E_s hk239 rfl
theorem e239_62 {x : Int32} : eb_E L d 239 62 ls (zi x :: Sum.inr (some a) :: st) (nc, ns, I, J, R) = if (12 ≤ (eb_ty L a.1).1 ∧ (eb_ty L a.1).1 ≤ 16) ∧ eb_in x (eb_ty L a.1).2 = true then eb_E L d 239 63 ls (Sum.inr (R a x.toNatClampNeg) :: st) (nc, ns, I, J, R) else none := eb_E_iy hk239 rfl
theorem e239_63  : eb_E L d 239 63 ls (st) M = eb_E L d 239 64 ls (zi 0 :: st) M := eb_E_s hk239 rfl
theorem e239_64 {x : Int32} : eb_E L d 239 64 ls (zi x :: Sum.inr (some a) :: st) (nc, ns, I, J, R) = if (eb_ty L a.1).1 = 10 ∧ eb_in x (eb_ty L a.1).2 = true then eb_E L d 239 65 ls (zi (I a x.toNatClampNeg) :: st) (nc, ns, I, J, R) else none := eb_E_iy hk239 rfl
theorem e239_65 {x : Option eb_A} : eb_E L d 239 65 [v0, v1, some (Sum.inr x), v3] (st) M = eb_E L d 239 66 [v0, v1, some (Sum.inr x), v3] (Sum.inr x :: st) M := eb_E_s hk239 rfl
theorem e239_66  : eb_E L d 239 66 ls (Sum.inr (some a) :: st) (nc, ns, I, J, R) = if (eb_ty L a.1).1 = 6 then eb_E L d 239 69 ls (Sum.inr (R a 10) :: st) (nc, ns, I, J, R) else none := eb_E_iy hk239 rfl
theorem e239_69 {x : Int32} : eb_E L d 239 69 [v0, some (zi x), v2, v3] (st) M = eb_E L d 239 70 [v0, some (zi x), v2, v3] (zi x :: st) M := eb_E_s hk239 rfl
theorem e239_70 {x : Int32} : eb_E L d 239 70 ls (zi x :: Sum.inr (some a) :: st) (nc, ns, I, J, R) = if (12 ≤ (eb_ty L a.1).1 ∧ (eb_ty L a.1).1 ≤ 16) ∧ eb_in x (eb_ty L a.1).2 = true then eb_E L d 239 71 ls (Sum.inr (R a x.toNatClampNeg) :: st) (nc, ns, I, J, R) else none := eb_E_iy hk239 rfl
theorem e239_71  : eb_E L d 239 71 ls (st) M = eb_E L d 239 72 ls (zi 1 :: st) M := eb_E_s hk239 rfl
theorem e239_72 {x : Int32} : eb_E L d 239 72 ls (zi x :: Sum.inr (some a) :: st) (nc, ns, I, J, R) = if (eb_ty L a.1).1 = 10 ∧ eb_in x (eb_ty L a.1).2 = true then eb_E L d 239 73 ls (zi (I a x.toNatClampNeg) :: st) (nc, ns, I, J, R) else none := eb_E_iy hk239 rfl
theorem e239_73 {x : Int32} {y : Int32} : eb_E L d 239 73 ls (zi y :: zi x :: st) M = if x < y then eb_E L d 239 78 ls st M else eb_E L d 239 76 ls st M := eb_E_b hk239 rfl
theorem e239_76 {x : Int32} : eb_E L d 239 76 [v0, v1, v2, some (zi x)] (st) M = eb_E L d 239 77 [v0, v1, v2, some (zi x)] (zi x :: st) M := eb_E_s hk239 rfl
theorem e239_77 {x : Int32} : eb_E L d 239 77 ls ([zi x]) M = some (zi x, M) := eb_E_r hk239 rfl
theorem e239_78 {x : Int32} : eb_E L d 239 78 [v0, v1, v2, some (zi x)] (st) M = eb_E L d 239 81 [v0, v1, v2, some (zi (x + 1))] (st) M := eb_E_s hk239 rfl
theorem e239_81  : eb_E L d 239 81 ls (st) M = eb_E L d 239 47 ls (st) M := eb_E_s hk239 rfl
theorem e239_84  : eb_E L d 239 84 ls (st) M = eb_E L d 239 85 ls (zi (-1) :: st) M := eb_E_s hk239 rfl
theorem e239_85 {x : Int32} : eb_E L d 239 85 ls ([zi x]) M = some (zi x, M) := eb_E_r hk239 rfl
/-! X6_dearest -/
theorem hk240 : eb_cd L 240 = eb_look (kt240 L) := rfl
theorem h240 (ha : (eb_ty L a.1).1 = 6) {x1 : Int32} {x2 : Int32} : eb_ev L (d + 1) 240 [zr a, zi x1, zi x2] M = eb_E L d 240 0 [some (zr a), some (zi x1), some (zi x2), none, none, none, none, none, none] [] M := eb_ev_s rfl (eb_chk_i ha rfl)
theorem e240_0 {x : Int32} : eb_E L d 240 0 [v0, some (zi x), v2, v3, v4, v5, v6, v7, v8] (st) M = eb_E L d 240 1 [v0, some (zi x), v2, v3, v4, v5, v6, v7, v8] (zi x :: st) M := eb_E_s hk240 rfl
theorem e240_1  : eb_E L d 240 1 ls ([a0]) M = (eb_ev L d 150 [a0] M).bind (fun q => eb_E L d 240 4 ls [q.1] q.2) := eb_E_c hk240 rfl
theorem e240_4 {x : Int32} : eb_E L d 240 4 ls (zi x :: st) M = if x = 0 then eb_E L d 240 15 ls st M else eb_E L d 240 7 ls st M := eb_E_b hk240 rfl
theorem e240_7 {x : Option eb_A} : eb_E L d 240 7 [some (Sum.inr x), v1, v2, v3, v4, v5, v6, v7, v8] (st) M = eb_E L d 240 8 [some (Sum.inr x), v1, v2, v3, v4, v5, v6, v7, v8] (Sum.inr x :: st) M := eb_E_s hk240 rfl
theorem e240_8 {x : Int32} : eb_E L d 240 8 [v0, v1, some (zi x), v3, v4, v5, v6, v7, v8] (st) M = eb_E L d 240 9 [v0, v1, some (zi x), v3, v4, v5, v6, v7, v8] (zi x :: st) M := eb_E_s hk240 rfl
theorem e240_9  : eb_E L d 240 9 ls ([a1, a0]) M = (eb_ev L d 148 [a0, a1] M).bind (fun q => eb_E L d 240 12 ls [q.1] q.2) := eb_E_c hk240 rfl
theorem e240_12 {x : Int32} : eb_E L d 240 12 ls (zi x :: st) M = if x = 0 then eb_E L d 240 15 ls st M else eb_E L d 240 22 ls st M := eb_E_b hk240 rfl
theorem e240_15 {x : Option eb_A} : eb_E L d 240 15 [some (Sum.inr x), v1, v2, v3, v4, v5, v6, v7, v8] (st) M = eb_E L d 240 16 [some (Sum.inr x), v1, v2, v3, v4, v5, v6, v7, v8] (Sum.inr x :: st) M := eb_E_s hk240 rfl
theorem e240_16  : eb_E L d 240 16 ls (st) M = eb_E L d 240 18 ls (zi (-2) :: st) M := eb_E_s hk240 rfl
theorem e240_18  : eb_E L d 240 18 ls ([a1, a0]) M = (eb_ev L d 145 [a0, a1] M).bind (fun q => eb_E L d 240 21 ls [q.1] q.2) := eb_E_c hk240 rfl
theorem e240_21 {x : Int32} : eb_E L d 240 21 ls ([zi x]) M = some (zi x, M) := eb_E_r hk240 rfl
theorem e240_22  : eb_E L d 240 22 ls (st) M = eb_E L d 240 23 ls (zi 0 :: st) M := eb_E_s hk240 rfl
theorem e240_23 {x : Int32} : eb_E L d 240 23 [v0, v1, v2, v3, v4, v5, v6, v7, v8] (zi x :: st) M = eb_E L d 240 24 [v0, v1, v2, some (zi x), v4, v5, v6, v7, v8] (st) M := eb_E_s hk240 rfl
theorem e240_24  : eb_E L d 240 24 ls (st) M = eb_E L d 240 25 ls (zi (-1) :: st) M := eb_E_s hk240 rfl
theorem e240_25 {x : Int32} : eb_E L d 240 25 [v0, v1, v2, v3, v4, v5, v6, v7, v8] (zi x :: st) M = eb_E L d 240 27 [v0, v1, v2, v3, some (zi x), v5, v6, v7, v8] (st) M := eb_E_s hk240 rfl
theorem e240_27  : eb_E L d 240 27 ls (st) M = eb_E L d 240 28 ls (zi 0 :: st) M := eb_E_s hk240 rfl
theorem e240_28 {x : Int32} : eb_E L d 240 28 [v0, v1, v2, v3, v4, v5, v6, v7, v8] (zi x :: st) M = eb_E L d 240 30 [v0, v1, v2, v3, v4, some (zi x), v6, v7, v8] (st) M := eb_E_s hk240 rfl
theorem e240_30 {x : Int32} : eb_E L d 240 30 [v0, v1, v2, v3, v4, some (zi x), v6, v7, v8] (st) M = eb_E L d 240 32 [v0, v1, v2, v3, v4, some (zi x), v6, v7, v8] (zi x :: st) M := eb_E_s hk240 rfl
theorem e240_32  : eb_E L d 240 32 ls (st) M = eb_E L d 240 34 ls (zi 99 :: st) M := eb_E_s hk240 rfl
theorem e240_34 {x : Int32} {y : Int32} : eb_E L d 240 34 ls (zi y :: zi x :: st) M = if y < x then eb_E L d 240 109 ls st M else eb_E L d 240 37 ls st M := eb_E_b hk240 rfl
theorem e240_37 {x : Option eb_A} : eb_E L d 240 37 [some (Sum.inr x), v1, v2, v3, v4, v5, v6, v7, v8] (st) M = eb_E L d 240 38 [some (Sum.inr x), v1, v2, v3, v4, v5, v6, v7, v8] (Sum.inr x :: st) M := eb_E_s hk240 rfl
theorem e240_38  : eb_E L d 240 38 ls ([a0]) M = (eb_ev L d 246 [a0] M).bind (fun q => eb_E L d 240 41 ls [q.1] q.2) := eb_E_c hk240 rfl
theorem e240_41 {x : Option eb_A} : eb_E L d 240 41 [v0, v1, v2, v3, v4, v5, v6, v7, v8] (Sum.inr x :: st) M = eb_E L d 240 43 [v0, v1, v2, v3, v4, v5, some (Sum.inr x), v7, v8] (st) M := eb_E_s hk240 rfl
theorem e240_43 {x : Option eb_A} : eb_E L d 240 43 [v0, v1, v2, v3, v4, v5, some (Sum.inr x), v7, v8] (st) M = eb_E L d 240 45 [v0, v1, v2, v3, v4, v5, some (Sum.inr x), v7, v8] (Sum.inr x :: st) M := eb_E_s hk240 rfl
theorem e240_45  : eb_E L d 240 45 ls (Sum.inr (some a) :: st) (nc, ns, I, J, R) = if (eb_ty L a.1).1 = 6 then eb_E L d 240 48 ls (Sum.inr (R a 10) :: st) (nc, ns, I, J, R) else none := eb_E_iy hk240 rfl
theorem e240_48 {x : Int32} : eb_E L d 240 48 [v0, v1, some (zi x), v3, v4, v5, v6, v7, v8] (st) M = eb_E L d 240 49 [v0, v1, some (zi x), v3, v4, v5, v6, v7, v8] (zi x :: st) M := eb_E_s hk240 rfl
theorem e240_49 {x : Int32} : eb_E L d 240 49 ls (zi x :: Sum.inr (some a) :: st) (nc, ns, I, J, R) = if (12 ≤ (eb_ty L a.1).1 ∧ (eb_ty L a.1).1 ≤ 16) ∧ eb_in x (eb_ty L a.1).2 = true then eb_E L d 240 50 ls (Sum.inr (R a x.toNatClampNeg) :: st) (nc, ns, I, J, R) else none := eb_E_iy hk240 rfl
theorem e240_50  : eb_E L d 240 50 ls (st) M = eb_E L d 240 51 ls (zi 3 :: st) M := eb_E_s hk240 rfl
theorem e240_51 {x : Int32} : eb_E L d 240 51 [v0, v1, v2, v3, v4, some (zi x), v6, v7, v8] (st) M = eb_E L d 240 53 [v0, v1, v2, v3, v4, some (zi x), v6, v7, v8] (zi x :: st) M := eb_E_s hk240 rfl
theorem e240_53 {x : Int32} {v : Int32} : eb_E L d 240 53 ls (zi v :: zi x :: Sum.inr (some a) :: st) (nc, ns, I, J, R) = if (eb_ty L a.1).1 = 10 ∧ eb_in x (eb_ty L a.1).2 = true then eb_E L d 240 54 ls (st) (nc, ns, eb_u I a x.toNatClampNeg v, J, R) else none := eb_E_iy hk240 rfl
theorem e240_54  : eb_E L d 240 54 ls (st) M = eb_E L d 240 55 ls (zi 0 :: st) M := eb_E_s hk240 rfl
theorem e240_55 {x : Int32} : eb_E L d 240 55 [v0, v1, v2, v3, v4, v5, v6, v7, v8] (zi x :: st) M = eb_E L d 240 57 [v0, v1, v2, v3, v4, v5, v6, some (zi x), v8] (st) M := eb_E_s hk240 rfl
theorem e240_57  : eb_E L d 240 57 ls (st) M = eb_E L d 240 58 ls (zi 0 :: st) M := eb_E_s hk240 rfl
theorem e240_58 {x : Int32} : eb_E L d 240 58 [v0, v1, v2, v3, v4, v5, v6, v7, v8] (zi x :: st) M = eb_E L d 240 60 [v0, v1, v2, v3, v4, v5, v6, v7, some (zi x)] (st) M := eb_E_s hk240 rfl
theorem e240_60 {x : Int32} : eb_E L d 240 60 [v0, v1, v2, v3, v4, v5, v6, v7, some (zi x)] (st) M = eb_E L d 240 62 [v0, v1, v2, v3, v4, v5, v6, v7, some (zi x)] (zi x :: st) M := eb_E_s hk240 rfl
theorem e240_62 {x : Int32} : eb_E L d 240 62 [v0, some (zi x), v2, v3, v4, v5, v6, v7, v8] (st) M = eb_E L d 240 63 [v0, some (zi x), v2, v3, v4, v5, v6, v7, v8] (zi x :: st) M := eb_E_s hk240 rfl
theorem e240_63 {x : Int32} {y : Int32} : eb_E L d 240 63 ls (zi y :: zi x :: st) M = if x < y then eb_E L d 240 66 ls st M else eb_E L d 240 89 ls st M := eb_E_b hk240 rfl
theorem e240_66 {x : Option eb_A} : eb_E L d 240 66 [v0, v1, v2, v3, v4, v5, some (Sum.inr x), v7, v8] (st) M = eb_E L d 240 68 [v0, v1, v2, v3, v4, v5, some (Sum.inr x), v7, v8] (Sum.inr x :: st) M := eb_E_s hk240 rfl
theorem e240_68  : eb_E L d 240 68 ls ([a0]) M = (eb_ev L d 223 [a0] M).bind (fun q => eb_E L d 240 71 ls [] q.2) := eb_E_c hk240 rfl
theorem e240_71 {x : Int32} : eb_E L d 240 71 [v0, v1, v2, v3, v4, v5, v6, some (zi x), v8] (st) M = eb_E L d 240 73 [v0, v1, v2, v3, v4, v5, v6, some (zi x), v8] (zi x :: st) M := eb_E_s hk240 rfl
theorem e240_73 {x : Option eb_A} : eb_E L d 240 73 [v0, v1, v2, v3, v4, v5, some (Sum.inr x), v7, v8] (st) M = eb_E L d 240 75 [v0, v1, v2, v3, v4, v5, some (Sum.inr x), v7, v8] (Sum.inr x :: st) M := eb_E_s hk240 rfl
theorem e240_75  : eb_E L d 240 75 ls (Sum.inr (some a) :: st) (nc, ns, I, J, R) = if (eb_ty L a.1).1 = 6 then eb_E L d 240 78 ls (Sum.inr (R a 31) :: st) (nc, ns, I, J, R) else none := eb_E_iy hk240 rfl
theorem e240_78 {x : Int32} : eb_E L d 240 78 [v0, v1, some (zi x), v3, v4, v5, v6, v7, v8] (st) M = eb_E L d 240 79 [v0, v1, some (zi x), v3, v4, v5, v6, v7, v8] (zi x :: st) M := eb_E_s hk240 rfl
theorem e240_79 {x : Int32} : eb_E L d 240 79 ls (zi x :: Sum.inr (some a) :: st) (nc, ns, I, J, R) = if (eb_ty L a.1).1 = 10 ∧ eb_in x (eb_ty L a.1).2 = true then eb_E L d 240 80 ls (zi (I a x.toNatClampNeg) :: st) (nc, ns, I, J, R) else none := eb_E_iy hk240 rfl
theorem e240_80 {x : Int32} {y : Int32} : eb_E L d 240 80 ls (zi y :: zi x :: st) M = eb_E L d 240 81 ls (zi (x + y) :: st) M := eb_E_s hk240 rfl
theorem e240_81 {x : Int32} : eb_E L d 240 81 [v0, v1, v2, v3, v4, v5, v6, v7, v8] (zi x :: st) M = eb_E L d 240 83 [v0, v1, v2, v3, v4, v5, v6, some (zi x), v8] (st) M := eb_E_s hk240 rfl
theorem e240_83 {x : Int32} : eb_E L d 240 83 [v0, v1, v2, v3, v4, v5, v6, v7, some (zi x)] (st) M = eb_E L d 240 86 [v0, v1, v2, v3, v4, v5, v6, v7, some (zi (x + 1))] (st) M := eb_E_s hk240 rfl
theorem e240_86  : eb_E L d 240 86 ls (st) M = eb_E L d 240 60 ls (st) M := eb_E_s hk240 rfl
theorem e240_89 {x : Int32} : eb_E L d 240 89 [v0, v1, v2, v3, v4, v5, v6, some (zi x), v8] (st) M = eb_E L d 240 91 [v0, v1, v2, v3, v4, v5, v6, some (zi x), v8] (zi x :: st) M := eb_E_s hk240 rfl
theorem e240_91 {x : Int32} : eb_E L d 240 91 [v0, v1, v2, v3, some (zi x), v5, v6, v7, v8] (st) M = eb_E L d 240 93 [v0, v1, v2, v3, some (zi x), v5, v6, v7, v8] (zi x :: st) M := eb_E_s hk240 rfl
theorem e240_93 {x : Int32} {y : Int32} : eb_E L d 240 93 ls (zi y :: zi x :: st) M = if y < x then eb_E L d 240 96 ls st M else eb_E L d 240 103 ls st M := eb_E_b hk240 rfl
theorem e240_96 {x : Int32} : eb_E L d 240 96 [v0, v1, v2, v3, v4, some (zi x), v6, v7, v8] (st) M = eb_E L d 240 98 [v0, v1, v2, v3, v4, some (zi x), v6, v7, v8] (zi x :: st) M := eb_E_s hk240 rfl
theorem e240_98 {x : Int32} : eb_E L d 240 98 [v0, v1, v2, v3, v4, v5, v6, v7, v8] (zi x :: st) M = eb_E L d 240 99 [v0, v1, v2, some (zi x), v4, v5, v6, v7, v8] (st) M := eb_E_s hk240 rfl
theorem e240_99 {x : Int32} : eb_E L d 240 99 [v0, v1, v2, v3, v4, v5, v6, some (zi x), v8] (st) M = eb_E L d 240 101 [v0, v1, v2, v3, v4, v5, v6, some (zi x), v8] (zi x :: st) M := eb_E_s hk240 rfl
theorem e240_101 {x : Int32} : eb_E L d 240 101 [v0, v1, v2, v3, v4, v5, v6, v7, v8] (zi x :: st) M = eb_E L d 240 103 [v0, v1, v2, v3, some (zi x), v5, v6, v7, v8] (st) M := eb_E_s hk240 rfl
theorem e240_103 {x : Int32} : eb_E L d 240 103 [v0, v1, v2, v3, v4, some (zi x), v6, v7, v8] (st) M = eb_E L d 240 106 [v0, v1, v2, v3, v4, some (zi (x + 1)), v6, v7, v8] (st) M := eb_E_s hk240 rfl
theorem e240_106  : eb_E L d 240 106 ls (st) M = eb_E L d 240 30 ls (st) M := eb_E_s hk240 rfl
theorem e240_109 {x : Int32} : eb_E L d 240 109 [v0, v1, v2, some (zi x), v4, v5, v6, v7, v8] (st) M = eb_E L d 240 110 [v0, v1, v2, some (zi x), v4, v5, v6, v7, v8] (zi x :: st) M := eb_E_s hk240 rfl
theorem e240_110 {x : Int32} : eb_E L d 240 110 ls ([zi x]) M = some (zi x, M) := eb_E_r hk240 rfl
/-! X6_year -/
theorem hk241 : eb_cd L 241 = eb_look (kt241 L) := rfl
theorem h241 (ha : (eb_ty L a.1).1 = 6) : eb_ev L (d + 1) 241 [zr a] M = eb_E L d 241 0 [some (zr a)] [] M := eb_ev_s rfl (eb_chk_i ha rfl)
theorem e241_0 {x : Option eb_A} : eb_E L d 241 0 [some (Sum.inr x)] (st) M = eb_E L d 241 1 [some (Sum.inr x)] (Sum.inr x :: st) M := eb_E_s hk241 rfl
theorem e241_1  : eb_E L d 241 1 ls (st) M = eb_E L d 241 2 ls (zi 1 :: st) M := eb_E_s hk241 rfl
theorem e241_2  : eb_E L d 241 2 ls (st) M = eb_E L d 241 3 ls (zi (-1) :: st) M := eb_E_s hk241 rfl
theorem e241_3  : eb_E L d 241 3 ls ([a2, a1, a0]) M = (eb_ev L d 224 [a0, a1, a2] M).bind (fun q => eb_E L d 241 6 ls [q.1] q.2) := eb_E_c hk241 rfl
theorem e241_6 {x : Int32} : eb_E L d 241 6 ls ([zi x]) M = some (zi x, M) := eb_E_r hk241 rfl
/-! X6_goes -/
theorem hk242 : eb_cd L 242 = eb_look (kt242 L) := rfl
theorem h242 (ha : (eb_ty L a.1).1 = 6) {x1 : Int32} : eb_ev L (d + 1) 242 [zr a, zi x1] M = eb_E L d 242 0 [some (zr a), some (zi x1)] [] M := eb_ev_s rfl (eb_chk_i ha rfl)
theorem e242_0 {x : Int32} : eb_E L d 242 0 [v0, some (zi x)] (st) M = eb_E L d 242 1 [v0, some (zi x)] (zi x :: st) M := eb_E_s hk242 rfl
theorem e242_1  : eb_E L d 242 1 ls ([a0]) M = (eb_ev L d 150 [a0] M).bind (fun q => eb_E L d 242 4 ls [q.1] q.2) := eb_E_c hk242 rfl
theorem e242_4 {x : Int32} : eb_E L d 242 4 ls (zi x :: st) M = if x = 0 then eb_E L d 242 16 ls st M else eb_E L d 242 7 ls st M := eb_E_b hk242 rfl
theorem e242_7 {x : Option eb_A} : eb_E L d 242 7 [some (Sum.inr x), v1] (st) M = eb_E L d 242 8 [some (Sum.inr x), v1] (Sum.inr x :: st) M := eb_E_s hk242 rfl
theorem e242_8 {x : Int32} : eb_E L d 242 8 [v0, some (zi x)] (st) M = eb_E L d 242 9 [v0, some (zi x)] (zi x :: st) M := eb_E_s hk242 rfl
theorem e242_9  : eb_E L d 242 9 ls (st) M = eb_E L d 242 10 ls (zi (-1) :: st) M := eb_E_s hk242 rfl
theorem e242_10  : eb_E L d 242 10 ls ([a2, a1, a0]) M = (eb_ev L d 224 [a0, a1, a2] M).bind (fun q => eb_E L d 242 13 ls [q.1] q.2) := eb_E_c hk242 rfl
theorem e242_13  : eb_E L d 242 13 ls (st) M = eb_E L d 242 25 ls (st) M := eb_E_s hk242 rfl
theorem e242_16  : eb_E L d 242 16 ls (st) M = eb_E L d 242 18 ls (zi (-1000000) :: st) M := eb_E_s hk242 rfl
theorem e242_18 {x : Option eb_A} : eb_E L d 242 18 [some (Sum.inr x), v1] (st) M = eb_E L d 242 19 [some (Sum.inr x), v1] (Sum.inr x :: st) M := eb_E_s hk242 rfl
theorem e242_19  : eb_E L d 242 19 ls (st) M = eb_E L d 242 21 ls (zi (-2) :: st) M := eb_E_s hk242 rfl
theorem e242_21 {s0 : Int32} : eb_E L d 242 21 ls ([a1, a0, zi s0]) M = (eb_ev L d 145 [a0, a1] M).bind (fun q => eb_E L d 242 24 ls [q.1, zi s0] q.2) := eb_E_c hk242 rfl
theorem e242_24 {x : Int32} {y : Int32} : eb_E L d 242 24 ls (zi y :: zi x :: st) M = eb_E L d 242 25 ls (zi (x + y) :: st) M := eb_E_s hk242 rfl
theorem e242_25 {x : Int32} : eb_E L d 242 25 ls ([zi x]) M = some (zi x, M) := eb_E_r hk242 rfl
/-! X6_draw -/
theorem hk243 : eb_cd L 243 = eb_look (kt243 L) := rfl
theorem h243 (ha : (eb_ty L a.1).1 = 6) {x1 : Int32} : eb_ev L (d + 1) 243 [zr a, zi x1] M = eb_E L d 243 0 [some (zr a), some (zi x1)] [] M := eb_ev_s rfl (eb_chk_i ha rfl)
theorem e243_0 {x : Option eb_A} : eb_E L d 243 0 [some (Sum.inr x), v1] (st) M = eb_E L d 243 1 [some (Sum.inr x), v1] (Sum.inr x :: st) M := eb_E_s hk243 rfl
theorem e243_1 {x : Option eb_A} : eb_E L d 243 1 [some (Sum.inr x), v1] (st) M = eb_E L d 243 2 [some (Sum.inr x), v1] (Sum.inr x :: st) M := eb_E_s hk243 rfl
theorem e243_2  : eb_E L d 243 2 ls (Sum.inr (some a) :: st) (nc, ns, I, J, R) = if (eb_ty L a.1).1 = 6 then eb_E L d 243 5 ls (zi (I a 15) :: st) (nc, ns, I, J, R) else none := eb_E_iy hk243 rfl
theorem e243_5  : eb_E L d 243 5 ls (st) M = eb_E L d 243 8 ls (zi 1103515245 :: st) M := eb_E_s hk243 rfl
theorem e243_8 {x : Int32} {y : Int32} : eb_E L d 243 8 ls (zi y :: zi x :: st) M = eb_E L d 243 9 ls (zi (x * y) :: st) M := eb_E_s hk243 rfl
theorem e243_9  : eb_E L d 243 9 ls (st) M = eb_E L d 243 12 ls (zi 12345 :: st) M := eb_E_s hk243 rfl
theorem e243_12 {x : Int32} {y : Int32} : eb_E L d 243 12 ls (zi y :: zi x :: st) M = eb_E L d 243 13 ls (zi (x + y) :: st) M := eb_E_s hk243 rfl
theorem e243_13 {x : Int32} : eb_E L d 243 13 ls (zi x :: Sum.inr (some a) :: st) (nc, ns, I, J, R) = if (eb_ty L a.1).1 = 6 then eb_E L d 243 16 ls (st) (nc, ns, eb_u I a 15 x, J, R) else none := eb_E_iy hk243 rfl
theorem e243_16 {x : Option eb_A} : eb_E L d 243 16 [some (Sum.inr x), v1] (st) M = eb_E L d 243 17 [some (Sum.inr x), v1] (Sum.inr x :: st) M := eb_E_s hk243 rfl
theorem e243_17  : eb_E L d 243 17 ls (Sum.inr (some a) :: st) (nc, ns, I, J, R) = if (eb_ty L a.1).1 = 6 then eb_E L d 243 20 ls (zi (I a 15) :: st) (nc, ns, I, J, R) else none := eb_E_iy hk243 rfl
theorem e243_20  : eb_E L d 243 20 ls (st) M = eb_E L d 243 22 ls (zi 16 :: st) M := eb_E_s hk243 rfl
theorem e243_22 {x : Int32} {y : Int32} : eb_E L d 243 22 ls (zi y :: zi x :: st) M = eb_E L d 243 23 ls (zi ((x.toUInt32 >>> (y.toUInt32 &&& Int32.toUInt32 31)).toInt32) :: st) M := eb_E_s hk243 rfl
theorem e243_23 {x : Int32} : eb_E L d 243 23 [v0, some (zi x)] (st) M = eb_E L d 243 24 [v0, some (zi x)] (zi x :: st) M := eb_E_s hk243 rfl
theorem e243_24 {x : Int32} {y : Int32} : eb_E L d 243 24 ls (zi y :: zi x :: st) M = if y = 0 then none else eb_E L d 243 25 ls (zi (x - x / y * y) :: st) M := eb_E_in hk243 rfl
theorem e243_25 {x : Int32} : eb_E L d 243 25 ls ([zi x]) M = some (zi x, M) := eb_E_r hk243 rfl
/-! X6_post -/
theorem hk244 : eb_cd L 244 = eb_look (kt244 L) := rfl
theorem h244 (ha : (eb_ty L a.1).1 = 6) {x1 : Int32} : eb_ev L (d + 1) 244 [zr a, zi x1] M = eb_E L d 244 0 [some (zr a), some (zi x1), none, none, none, none] [] M := eb_ev_s rfl (eb_chk_i ha rfl)
theorem e244_0 {x : Int32} : eb_E L d 244 0 [v0, some (zi x), v2, v3, v4, v5] (st) M = eb_E L d 244 1 [v0, some (zi x), v2, v3, v4, v5] (zi x :: st) M := eb_E_s hk244 rfl
theorem e244_1 {x : Int32} : eb_E L d 244 1 ls (zi x :: st) M = eb_E L d 244 2 ls (zl x.toInt64 :: st) M := eb_E_s hk244 rfl
theorem e244_2  : eb_E L d 244 2 ls (st) M = eb_E L d 244 3 ls (zl 1 :: st) M := eb_E_s hk244 rfl
theorem e244_3  : eb_E L d 244 3 ls (st) M = eb_E L d 244 6 ls (zl 40 :: st) M := eb_E_s hk244 rfl
theorem e244_6  : eb_E L d 244 6 ls ([a2, a1, a0]) M = (eb_ev L d 146 [a0, a1, a2] M).bind (fun q => eb_E L d 244 9 ls [q.1] q.2) := eb_E_c hk244 rfl
theorem e244_9 {x : Int32} : eb_E L d 244 9 ls (zi x :: st) M = if x = 0 then eb_E L d 244 12 ls st M else eb_E L d 244 19 ls st M := eb_E_b hk244 rfl
theorem e244_12 {x : Option eb_A} : eb_E L d 244 12 [some (Sum.inr x), v1, v2, v3, v4, v5] (st) M = eb_E L d 244 13 [some (Sum.inr x), v1, v2, v3, v4, v5] (Sum.inr x :: st) M := eb_E_s hk244 rfl
theorem e244_13  : eb_E L d 244 13 ls (st) M = eb_E L d 244 15 ls (zi (-2) :: st) M := eb_E_s hk244 rfl
theorem e244_15  : eb_E L d 244 15 ls ([a1, a0]) M = (eb_ev L d 145 [a0, a1] M).bind (fun q => eb_E L d 244 18 ls [q.1] q.2) := eb_E_c hk244 rfl
theorem e244_18 {x : Int32} : eb_E L d 244 18 ls ([zi x]) M = some (zi x, M) := eb_E_r hk244 rfl
theorem e244_19 {x : Option eb_A} : eb_E L d 244 19 [some (Sum.inr x), v1, v2, v3, v4, v5] (st) M = eb_E L d 244 20 [some (Sum.inr x), v1, v2, v3, v4, v5] (Sum.inr x :: st) M := eb_E_s hk244 rfl
theorem e244_20  : eb_E L d 244 20 ls (Sum.inr (some a) :: st) (nc, ns, I, J, R) = if (eb_ty L a.1).1 = 6 then eb_E L d 244 23 ls (zi (I a 9) :: st) (nc, ns, I, J, R) else none := eb_E_iy hk244 rfl
theorem e244_23 {x : Int32} : eb_E L d 244 23 ls (zi x :: st) M = if x = 0 then eb_E L d 244 26 ls st M else eb_E L d 244 33 ls st M := eb_E_b hk244 rfl
theorem e244_26 {x : Option eb_A} : eb_E L d 244 26 [some (Sum.inr x), v1, v2, v3, v4, v5] (st) M = eb_E L d 244 27 [some (Sum.inr x), v1, v2, v3, v4, v5] (Sum.inr x :: st) M := eb_E_s hk244 rfl
theorem e244_27  : eb_E L d 244 27 ls (st) M = eb_E L d 244 29 ls (zi (-5) :: st) M := eb_E_s hk244 rfl
theorem e244_29  : eb_E L d 244 29 ls ([a1, a0]) M = (eb_ev L d 145 [a0, a1] M).bind (fun q => eb_E L d 244 32 ls [q.1] q.2) := eb_E_c hk244 rfl
theorem e244_32 {x : Int32} : eb_E L d 244 32 ls ([zi x]) M = some (zi x, M) := eb_E_r hk244 rfl
theorem e244_33  : eb_E L d 244 33 ls (st) M = eb_E L d 244 34 ls (zi 0 :: st) M := eb_E_s hk244 rfl
theorem e244_34 {x : Int32} : eb_E L d 244 34 [v0, v1, v2, v3, v4, v5] (zi x :: st) M = eb_E L d 244 35 [v0, v1, some (zi x), v3, v4, v5] (st) M := eb_E_s hk244 rfl
theorem e244_35  : eb_E L d 244 35 ls (st) M = eb_E L d 244 36 ls (zi 0 :: st) M := eb_E_s hk244 rfl
theorem e244_36 {x : Int32} : eb_E L d 244 36 [v0, v1, v2, v3, v4, v5] (zi x :: st) M = eb_E L d 244 37 [v0, v1, v2, some (zi x), v4, v5] (st) M := eb_E_s hk244 rfl
theorem e244_37 {x : Int32} : eb_E L d 244 37 [v0, v1, v2, some (zi x), v4, v5] (st) M = eb_E L d 244 38 [v0, v1, v2, some (zi x), v4, v5] (zi x :: st) M := eb_E_s hk244 rfl
theorem e244_38 {x : Int32} : eb_E L d 244 38 [v0, some (zi x), v2, v3, v4, v5] (st) M = eb_E L d 244 39 [v0, some (zi x), v2, v3, v4, v5] (zi x :: st) M := eb_E_s hk244 rfl
theorem e244_39 {x : Int32} {y : Int32} : eb_E L d 244 39 ls (zi y :: zi x :: st) M = if x < y then eb_E L d 244 42 ls st M else eb_E L d 244 114 ls st M := eb_E_b hk244 rfl
theorem e244_42 {x : Option eb_A} : eb_E L d 244 42 [some (Sum.inr x), v1, v2, v3, v4, v5] (st) M = eb_E L d 244 43 [some (Sum.inr x), v1, v2, v3, v4, v5] (Sum.inr x :: st) M := eb_E_s hk244 rfl
theorem e244_43 {x : Option eb_A} : eb_E L d 244 43 [some (Sum.inr x), v1, v2, v3, v4, v5] (st) M = eb_E L d 244 44 [some (Sum.inr x), v1, v2, v3, v4, v5] (Sum.inr x :: st) M := eb_E_s hk244 rfl
theorem e244_44  : eb_E L d 244 44 ls (Sum.inr (some a) :: st) (nc, ns, I, J, R) = if (eb_ty L a.1).1 = 6 then eb_E L d 244 47 ls (zi (I a 9) :: st) (nc, ns, I, J, R) else none := eb_E_iy hk244 rfl
theorem e244_47  : eb_E L d 244 47 ls ([a1, a0]) M = (eb_ev L d 243 [a0, a1] M).bind (fun q => eb_E L d 244 50 ls [q.1] q.2) := eb_E_c hk244 rfl
theorem e244_50 {x : Int32} : eb_E L d 244 50 [v0, v1, v2, v3, v4, v5] (zi x :: st) M = eb_E L d 244 52 [v0, v1, v2, v3, some (zi x), v5] (st) M := eb_E_s hk244 rfl
theorem e244_52 {x : Option eb_A} : eb_E L d 244 52 [some (Sum.inr x), v1, v2, v3, v4, v5] (st) M = eb_E L d 244 53 [some (Sum.inr x), v1, v2, v3, v4, v5] (Sum.inr x :: st) M := eb_E_s hk244 rfl
theorem e244_53  : eb_E L d 244 53 ls (Sum.inr (some a) :: st) (nc, ns, I, J, R) = if (eb_ty L a.1).1 = 6 then eb_E L d 244 56 ls (Sum.inr (R a 10) :: st) (nc, ns, I, J, R) else none := eb_E_iy hk244 rfl
theorem e244_56 {x : Int32} : eb_E L d 244 56 [v0, v1, v2, v3, some (zi x), v5] (st) M = eb_E L d 244 58 [v0, v1, v2, v3, some (zi x), v5] (zi x :: st) M := eb_E_s hk244 rfl
theorem e244_58 {x : Int32} : eb_E L d 244 58 ls (zi x :: Sum.inr (some a) :: st) (nc, ns, I, J, R) = if (12 ≤ (eb_ty L a.1).1 ∧ (eb_ty L a.1).1 ≤ 16) ∧ eb_in x (eb_ty L a.1).2 = true then eb_E L d 244 59 ls (Sum.inr (R a x.toNatClampNeg) :: st) (nc, ns, I, J, R) else none := eb_E_iy hk244 rfl
theorem e244_59  : eb_E L d 244 59 ls (st) M = eb_E L d 244 60 ls (zi 0 :: st) M := eb_E_s hk244 rfl
theorem e244_60 {x : Int32} : eb_E L d 244 60 ls (zi x :: Sum.inr (some a) :: st) (nc, ns, I, J, R) = if (eb_ty L a.1).1 = 10 ∧ eb_in x (eb_ty L a.1).2 = true then eb_E L d 244 61 ls (zi (I a x.toNatClampNeg) :: st) (nc, ns, I, J, R) else none := eb_E_iy hk244 rfl
theorem e244_61 {x : Option eb_A} : eb_E L d 244 61 [some (Sum.inr x), v1, v2, v3, v4, v5] (st) M = eb_E L d 244 62 [some (Sum.inr x), v1, v2, v3, v4, v5] (Sum.inr x :: st) M := eb_E_s hk244 rfl
theorem e244_62  : eb_E L d 244 62 ls (st) M = eb_E L d 244 64 ls (zi 21 :: st) M := eb_E_s hk244 rfl
theorem e244_64 {s0 : Int32} : eb_E L d 244 64 ls ([a1, a0, zi s0]) M = (eb_ev L d 243 [a0, a1] M).bind (fun q => eb_E L d 244 67 ls [q.1, zi s0] q.2) := eb_E_c hk244 rfl
theorem e244_67 {x : Int32} {y : Int32} : eb_E L d 244 67 ls (zi y :: zi x :: st) M = eb_E L d 244 68 ls (zi (x + y) :: st) M := eb_E_s hk244 rfl
theorem e244_68  : eb_E L d 244 68 ls (st) M = eb_E L d 244 70 ls (zi 10 :: st) M := eb_E_s hk244 rfl
theorem e244_70 {x : Int32} {y : Int32} : eb_E L d 244 70 ls (zi y :: zi x :: st) M = eb_E L d 244 71 ls (zi (x - y) :: st) M := eb_E_s hk244 rfl
theorem e244_71  : eb_E L d 244 71 ls (st) M = eb_E L d 244 73 ls (zi 100 :: st) M := eb_E_s hk244 rfl
theorem e244_73  : eb_E L d 244 73 ls ([a1, a0]) M = (eb_ev L d 147 [a0, a1] M).bind (fun q => eb_E L d 244 76 ls [q.1] q.2) := eb_E_c hk244 rfl
theorem e244_76 {x : Int32} : eb_E L d 244 76 [v0, v1, v2, v3, v4, v5] (zi x :: st) M = eb_E L d 244 78 [v0, v1, v2, v3, v4, some (zi x)] (st) M := eb_E_s hk244 rfl
theorem e244_78 {x : Int32} : eb_E L d 244 78 [v0, v1, some (zi x), v3, v4, v5] (st) M = eb_E L d 244 79 [v0, v1, some (zi x), v3, v4, v5] (zi x :: st) M := eb_E_s hk244 rfl
theorem e244_79 {x : Option eb_A} : eb_E L d 244 79 [some (Sum.inr x), v1, v2, v3, v4, v5] (st) M = eb_E L d 244 80 [some (Sum.inr x), v1, v2, v3, v4, v5] (Sum.inr x :: st) M := eb_E_s hk244 rfl
theorem e244_80  : eb_E L d 244 80 ls (Sum.inr (some a) :: st) (nc, ns, I, J, R) = if (eb_ty L a.1).1 = 6 then eb_E L d 244 83 ls (Sum.inr (R a 10) :: st) (nc, ns, I, J, R) else none := eb_E_iy hk244 rfl
theorem e244_83 {x : Int32} : eb_E L d 244 83 [v0, v1, v2, v3, some (zi x), v5] (st) M = eb_E L d 244 85 [v0, v1, v2, v3, some (zi x), v5] (zi x :: st) M := eb_E_s hk244 rfl
theorem e244_85 {x : Int32} : eb_E L d 244 85 ls (zi x :: Sum.inr (some a) :: st) (nc, ns, I, J, R) = if (12 ≤ (eb_ty L a.1).1 ∧ (eb_ty L a.1).1 ≤ 16) ∧ eb_in x (eb_ty L a.1).2 = true then eb_E L d 244 86 ls (Sum.inr (R a x.toNatClampNeg) :: st) (nc, ns, I, J, R) else none := eb_E_iy hk244 rfl
theorem e244_86  : eb_E L d 244 86 ls (st) M = eb_E L d 244 87 ls (zi 5 :: st) M := eb_E_s hk244 rfl
theorem e244_87 {x : Int32} : eb_E L d 244 87 ls (zi x :: Sum.inr (some a) :: st) (nc, ns, I, J, R) = if (eb_ty L a.1).1 = 10 ∧ eb_in x (eb_ty L a.1).2 = true then eb_E L d 244 88 ls (zi (I a x.toNatClampNeg) :: st) (nc, ns, I, J, R) else none := eb_E_iy hk244 rfl
theorem e244_88  : eb_E L d 244 88 ls (st) M = eb_E L d 244 90 ls (zi 99 :: st) M := eb_E_s hk244 rfl
theorem e244_90 {x : Int32} {y : Int32} : eb_E L d 244 90 ls (zi y :: zi x :: st) M = if x < y then eb_E L d 244 93 ls st M else eb_E L d 244 97 ls st M := eb_E_b hk244 rfl
theorem e244_93  : eb_E L d 244 93 ls (st) M = eb_E L d 244 94 ls (zi 1 :: st) M := eb_E_s hk244 rfl
theorem e244_94  : eb_E L d 244 94 ls (st) M = eb_E L d 244 98 ls (st) M := eb_E_s hk244 rfl
theorem e244_97  : eb_E L d 244 97 ls (st) M = eb_E L d 244 98 ls (zi 0 :: st) M := eb_E_s hk244 rfl
theorem e244_98 {x : Int32} {y : Int32} : eb_E L d 244 98 ls (zi y :: zi x :: st) M = eb_E L d 244 99 ls (zi (x + y) :: st) M := eb_E_s hk244 rfl
theorem e244_99 {x : Int32} : eb_E L d 244 99 [v0, v1, v2, v3, v4, v5] (zi x :: st) M = eb_E L d 244 100 [v0, v1, some (zi x), v3, v4, v5] (st) M := eb_E_s hk244 rfl
theorem e244_100 {x : Option eb_A} : eb_E L d 244 100 [some (Sum.inr x), v1, v2, v3, v4, v5] (st) M = eb_E L d 244 101 [some (Sum.inr x), v1, v2, v3, v4, v5] (Sum.inr x :: st) M := eb_E_s hk244 rfl
theorem e244_101 {x : Int32} : eb_E L d 244 101 [v0, v1, v2, v3, some (zi x), v5] (st) M = eb_E L d 244 103 [v0, v1, v2, v3, some (zi x), v5] (zi x :: st) M := eb_E_s hk244 rfl
theorem e244_103 {x : Int32} : eb_E L d 244 103 [v0, v1, v2, v3, v4, some (zi x)] (st) M = eb_E L d 244 105 [v0, v1, v2, v3, v4, some (zi x)] (zi x :: st) M := eb_E_s hk244 rfl
theorem e244_105  : eb_E L d 244 105 ls ([a2, a1, a0]) M = (eb_ev L d 169 [a0, a1, a2] M).bind (fun q => eb_E L d 244 108 ls [] q.2) := eb_E_c hk244 rfl
theorem e244_108 {x : Int32} : eb_E L d 244 108 [v0, v1, v2, some (zi x), v4, v5] (st) M = eb_E L d 244 111 [v0, v1, v2, some (zi (x + 1)), v4, v5] (st) M := eb_E_s hk244 rfl
theorem e244_111  : eb_E L d 244 111 ls (st) M = eb_E L d 244 37 ls (st) M := eb_E_s hk244 rfl
theorem e244_114 {x : Int32} : eb_E L d 244 114 [v0, v1, some (zi x), v3, v4, v5] (st) M = eb_E L d 244 115 [v0, v1, some (zi x), v3, v4, v5] (zi x :: st) M := eb_E_s hk244 rfl
theorem e244_115 {x : Int32} : eb_E L d 244 115 ls ([zi x]) M = some (zi x, M) := eb_E_r hk244 rfl
/-! X6_seed -/
theorem hk245 : eb_cd L 245 = eb_look (kt245 L) := rfl
theorem h245 (ha : (eb_ty L a.1).1 = 6) {x1 : Int32} : eb_ev L (d + 1) 245 [zr a, zi x1] M = eb_E L d 245 0 [some (zr a), some (zi x1), none] [] M := eb_ev_s rfl (eb_chk_i ha rfl)
theorem e245_0 {x : Option eb_A} : eb_E L d 245 0 [some (Sum.inr x), v1, v2] (st) M = eb_E L d 245 1 [some (Sum.inr x), v1, v2] (Sum.inr x :: st) M := eb_E_s hk245 rfl
theorem e245_1  : eb_E L d 245 1 ls (Sum.inr (some a) :: st) (nc, ns, I, J, R) = if (eb_ty L a.1).1 = 6 then eb_E L d 245 4 ls (zi (I a 15) :: st) (nc, ns, I, J, R) else none := eb_E_iy hk245 rfl
theorem e245_4 {x : Int32} : eb_E L d 245 4 [v0, v1, v2] (zi x :: st) M = eb_E L d 245 5 [v0, v1, some (zi x)] (st) M := eb_E_s hk245 rfl
theorem e245_5 {x : Option eb_A} : eb_E L d 245 5 [some (Sum.inr x), v1, v2] (st) M = eb_E L d 245 6 [some (Sum.inr x), v1, v2] (Sum.inr x :: st) M := eb_E_s hk245 rfl
theorem e245_6 {x : Int32} : eb_E L d 245 6 [v0, some (zi x), v2] (st) M = eb_E L d 245 7 [v0, some (zi x), v2] (zi x :: st) M := eb_E_s hk245 rfl
theorem e245_7 {x : Int32} : eb_E L d 245 7 ls (zi x :: Sum.inr (some a) :: st) (nc, ns, I, J, R) = if (eb_ty L a.1).1 = 6 then eb_E L d 245 10 ls (st) (nc, ns, eb_u I a 15 x, J, R) else none := eb_E_iy hk245 rfl
theorem e245_10 {x : Int32} : eb_E L d 245 10 [v0, v1, some (zi x)] (st) M = eb_E L d 245 11 [v0, v1, some (zi x)] (zi x :: st) M := eb_E_s hk245 rfl
theorem e245_11 {x : Int32} : eb_E L d 245 11 ls ([zi x]) M = some (zi x, M) := eb_E_r hk245 rfl
/-! X6_fresh -/
theorem hk246 : eb_cd L 246 = eb_look (kt246 L) := rfl
theorem h246 (ha : (eb_ty L a.1).1 = 6) : eb_ev L (d + 1) 246 [zr a] M = eb_E L d 246 0 [some (zr a)] [] M := eb_ev_s rfl (eb_chk_i ha rfl)
theorem e246_0 {x : Option eb_A} : eb_E L d 246 0 [some (Sum.inr x)] (st) M = eb_E L d 246 1 [some (Sum.inr x)] (Sum.inr x :: st) M := eb_E_s hk246 rfl
theorem e246_1  : eb_E L d 246 1 ls (Sum.inr (some a) :: st) (nc, ns, I, J, R) = if (eb_ty L a.1).1 = 6 then eb_E L d 246 4 ls (Sum.inr (R a 17) :: st) (nc, ns, I, J, R) else none := eb_E_iy hk246 rfl
theorem e246_4 {x : Option eb_A} : eb_E L d 246 4 ls (Sum.inr x :: st) M = if x = none then eb_E L d 246 7 ls st M else eb_E L d 246 18 ls st M := eb_E_b hk246 rfl
theorem e246_7 {x : Option eb_A} : eb_E L d 246 7 [some (Sum.inr x)] (st) M = eb_E L d 246 8 [some (Sum.inr x)] (Sum.inr x :: st) M := eb_E_s hk246 rfl
theorem e246_8  : eb_E L d 246 8 ls (st) (nc, ns, I, J, R) = if (eb_ty L (eb_nm nc).1).1 = 6 then eb_E L d 246 11 ls (zr (eb_nm nc) :: st) (nc + 1, ns + 34, eb_zI I (eb_nm nc), J, eb_zR R (eb_nm nc) 34) else none := eb_E_iy hk246 rfl
theorem e246_11a {x : Int32} : eb_E L d 246 11 ls (zi x :: st) M = eb_E L d 246 12 ls (zi x :: zi x :: st) M := eb_E_s hk246 rfl
theorem e246_11b {x : Option eb_A} : eb_E L d 246 11 ls (Sum.inr x :: st) M = eb_E L d 246 12 ls (Sum.inr x :: Sum.inr x :: st) M := eb_E_s hk246 rfl
theorem e246_12 {s0 : Option eb_A} {s1 : Option eb_A} : eb_E L d 246 12 ls ([a0, Sum.inr s0, Sum.inr s1]) M = (eb_ev L d 144 [a0] M).bind (fun q => eb_E L d 246 15 ls [Sum.inr s0, Sum.inr s1] q.2) := eb_E_c hk246 rfl
theorem e246_15 {x : Option eb_A} : eb_E L d 246 15 ls (Sum.inr x :: Sum.inr (some a) :: st) (nc, ns, I, J, R) = if (eb_ty L a.1).1 = 6 then eb_E L d 246 18 ls (st) (nc, ns, I, J, eb_u R a 17 x) else none := eb_E_iy hk246 rfl
theorem e246_18 {x : Option eb_A} : eb_E L d 246 18 [some (Sum.inr x)] (st) M = eb_E L d 246 19 [some (Sum.inr x)] (Sum.inr x :: st) M := eb_E_s hk246 rfl
theorem e246_19  : eb_E L d 246 19 ls (Sum.inr (some a) :: st) (nc, ns, I, J, R) = if (eb_ty L a.1).1 = 6 then eb_E L d 246 22 ls (Sum.inr (R a 17) :: st) (nc, ns, I, J, R) else none := eb_E_iy hk246 rfl
theorem e246_22 {x : Option eb_A} : eb_E L d 246 22 [some (Sum.inr x)] (st) M = eb_E L d 246 23 [some (Sum.inr x)] (Sum.inr x :: st) M := eb_E_s hk246 rfl
theorem e246_23  : eb_E L d 246 23 ls ([a1, a0]) M = (eb_ev L d 248 [a0, a1] M).bind (fun q => eb_E L d 246 26 ls [] q.2) := eb_E_c hk246 rfl
theorem e246_26 {x : Option eb_A} : eb_E L d 246 26 [some (Sum.inr x)] (st) M = eb_E L d 246 27 [some (Sum.inr x)] (Sum.inr x :: st) M := eb_E_s hk246 rfl
theorem e246_27  : eb_E L d 246 27 ls (Sum.inr (some a) :: st) (nc, ns, I, J, R) = if (eb_ty L a.1).1 = 6 then eb_E L d 246 30 ls (Sum.inr (R a 17) :: st) (nc, ns, I, J, R) else none := eb_E_iy hk246 rfl
theorem e246_30 {x : Option eb_A} : eb_E L d 246 30 ls ([Sum.inr x]) M = some (Sum.inr x, M) := eb_E_r hk246 rfl
/-! X6_over -/
theorem hk247 : eb_cd L 247 = eb_look (kt247 L) := rfl
theorem h247 {r0 : Option eb_A} {r1 : Option eb_A} : eb_ev L (d + 1) 247 [Sum.inr r0, Sum.inr r1] M = eb_E L d 247 0 [some (Sum.inr r0), some (Sum.inr r1), none] [] M := eb_ev_s rfl rfl
theorem e247_0  : eb_E L d 247 0 ls (st) M = eb_E L d 247 1 ls (zi 0 :: st) M := eb_E_s hk247 rfl
theorem e247_1 {x : Int32} : eb_E L d 247 1 [v0, v1, v2] (zi x :: st) M = eb_E L d 247 2 [v0, v1, some (zi x)] (st) M := eb_E_s hk247 rfl
theorem e247_2 {x : Int32} : eb_E L d 247 2 [v0, v1, some (zi x)] (st) M = eb_E L d 247 3 [v0, v1, some (zi x)] (zi x :: st) M := eb_E_s hk247 rfl
theorem e247_3 {x : Option eb_A} : eb_E L d 247 3 [some (Sum.inr x), v1, v2] (st) M = eb_E L d 247 4 [some (Sum.inr x), v1, v2] (Sum.inr x :: st) M := eb_E_s hk247 rfl
theorem e247_4  : eb_E L d 247 4 ls (Sum.inr (some a) :: st) (nc, ns, I, J, R) = if (eb_ty L a.1).1 = 10 then eb_E L d 247 5 ls (zi (nI (eb_ty L a.1).2) :: st) (nc, ns, I, J, R) else none := eb_E_iy hk247 rfl
theorem e247_5 {x : Int32} {y : Int32} : eb_E L d 247 5 ls (zi y :: zi x :: st) M = if x < y then eb_E L d 247 8 ls st M else eb_E L d 247 20 ls st M := eb_E_b hk247 rfl
theorem e247_8 {x : Option eb_A} : eb_E L d 247 8 [v0, some (Sum.inr x), v2] (st) M = eb_E L d 247 9 [v0, some (Sum.inr x), v2] (Sum.inr x :: st) M := eb_E_s hk247 rfl
theorem e247_9 {x : Int32} : eb_E L d 247 9 [v0, v1, some (zi x)] (st) M = eb_E L d 247 10 [v0, v1, some (zi x)] (zi x :: st) M := eb_E_s hk247 rfl
theorem e247_10 {x : Option eb_A} : eb_E L d 247 10 [some (Sum.inr x), v1, v2] (st) M = eb_E L d 247 11 [some (Sum.inr x), v1, v2] (Sum.inr x :: st) M := eb_E_s hk247 rfl
theorem e247_11 {x : Int32} : eb_E L d 247 11 [v0, v1, some (zi x)] (st) M = eb_E L d 247 12 [v0, v1, some (zi x)] (zi x :: st) M := eb_E_s hk247 rfl
theorem e247_12 {x : Int32} : eb_E L d 247 12 ls (zi x :: Sum.inr (some a) :: st) (nc, ns, I, J, R) = if (eb_ty L a.1).1 = 10 ∧ eb_in x (eb_ty L a.1).2 = true then eb_E L d 247 13 ls (zi (I a x.toNatClampNeg) :: st) (nc, ns, I, J, R) else none := eb_E_iy hk247 rfl
theorem e247_13 {x : Int32} {v : Int32} : eb_E L d 247 13 ls (zi v :: zi x :: Sum.inr (some a) :: st) (nc, ns, I, J, R) = if (eb_ty L a.1).1 = 10 ∧ eb_in x (eb_ty L a.1).2 = true then eb_E L d 247 14 ls (st) (nc, ns, eb_u I a x.toNatClampNeg v, J, R) else none := eb_E_iy hk247 rfl
theorem e247_14 {x : Int32} : eb_E L d 247 14 [v0, v1, some (zi x)] (st) M = eb_E L d 247 17 [v0, v1, some (zi (x + 1))] (st) M := eb_E_s hk247 rfl
theorem e247_17  : eb_E L d 247 17 ls (st) M = eb_E L d 247 2 ls (st) M := eb_E_s hk247 rfl
theorem e247_20  : eb_E L d 247 20 ls ([]) M = some (zn, M) := eb_E_r hk247 rfl
/-! X6_takeFrom -/
theorem hk248 : eb_cd L 248 = eb_look (kt248 L) := rfl
theorem h248 (ha : (eb_ty L a.1).1 = 6) {r1 : Option eb_A} : eb_ev L (d + 1) 248 [zr a, Sum.inr r1] M = eb_E L d 248 0 [some (zr a), some (Sum.inr r1), none] [] M := eb_ev_s rfl (eb_chk_i ha rfl)
theorem e248_0 {x : Option eb_A} : eb_E L d 248 0 [some (Sum.inr x), v1, v2] (st) M = eb_E L d 248 1 [some (Sum.inr x), v1, v2] (Sum.inr x :: st) M := eb_E_s hk248 rfl
theorem e248_1 {x : Option eb_A} : eb_E L d 248 1 [v0, some (Sum.inr x), v2] (st) M = eb_E L d 248 2 [v0, some (Sum.inr x), v2] (Sum.inr x :: st) M := eb_E_s hk248 rfl
theorem e248_2  : eb_E L d 248 2 ls (Sum.inr (some a) :: st) (nc, ns, I, J, R) = if (eb_ty L a.1).1 = 6 then eb_E L d 248 5 ls (zi (I a 9) :: st) (nc, ns, I, J, R) else none := eb_E_iy hk248 rfl
theorem e248_5 {x : Int32} : eb_E L d 248 5 ls (zi x :: Sum.inr (some a) :: st) (nc, ns, I, J, R) = if (eb_ty L a.1).1 = 6 then eb_E L d 248 8 ls (st) (nc, ns, eb_u I a 9 x, J, R) else none := eb_E_iy hk248 rfl
theorem e248_8 {x : Option eb_A} : eb_E L d 248 8 [some (Sum.inr x), v1, v2] (st) M = eb_E L d 248 9 [some (Sum.inr x), v1, v2] (Sum.inr x :: st) M := eb_E_s hk248 rfl
theorem e248_9 {x : Option eb_A} : eb_E L d 248 9 [v0, some (Sum.inr x), v2] (st) M = eb_E L d 248 10 [v0, some (Sum.inr x), v2] (Sum.inr x :: st) M := eb_E_s hk248 rfl
theorem e248_10  : eb_E L d 248 10 ls (Sum.inr (some a) :: st) (nc, ns, I, J, R) = if (eb_ty L a.1).1 = 6 then eb_E L d 248 13 ls (zi (I a 11) :: st) (nc, ns, I, J, R) else none := eb_E_iy hk248 rfl
theorem e248_13 {x : Int32} : eb_E L d 248 13 ls (zi x :: Sum.inr (some a) :: st) (nc, ns, I, J, R) = if (eb_ty L a.1).1 = 6 then eb_E L d 248 16 ls (st) (nc, ns, eb_u I a 11 x, J, R) else none := eb_E_iy hk248 rfl
theorem e248_16  : eb_E L d 248 16 ls (st) M = eb_E L d 248 17 ls (zi 0 :: st) M := eb_E_s hk248 rfl
theorem e248_17 {x : Int32} : eb_E L d 248 17 [v0, v1, v2] (zi x :: st) M = eb_E L d 248 18 [v0, v1, some (zi x)] (st) M := eb_E_s hk248 rfl
theorem e248_18 {x : Int32} : eb_E L d 248 18 [v0, v1, some (zi x)] (st) M = eb_E L d 248 19 [v0, v1, some (zi x)] (zi x :: st) M := eb_E_s hk248 rfl
theorem e248_19  : eb_E L d 248 19 ls (st) M = eb_E L d 248 21 ls (zi 6 :: st) M := eb_E_s hk248 rfl
theorem e248_21 {x : Int32} {y : Int32} : eb_E L d 248 21 ls (zi y :: zi x :: st) M = if x < y then eb_E L d 248 24 ls st M else eb_E L d 248 60 ls st M := eb_E_b hk248 rfl
theorem e248_24 {x : Option eb_A} : eb_E L d 248 24 [v0, some (Sum.inr x), v2] (st) M = eb_E L d 248 25 [v0, some (Sum.inr x), v2] (Sum.inr x :: st) M := eb_E_s hk248 rfl
theorem e248_25  : eb_E L d 248 25 ls (Sum.inr (some a) :: st) (nc, ns, I, J, R) = if (eb_ty L a.1).1 = 6 then eb_E L d 248 28 ls (Sum.inr (R a 10) :: st) (nc, ns, I, J, R) else none := eb_E_iy hk248 rfl
theorem e248_28 {x : Int32} : eb_E L d 248 28 [v0, v1, some (zi x)] (st) M = eb_E L d 248 29 [v0, v1, some (zi x)] (zi x :: st) M := eb_E_s hk248 rfl
theorem e248_29 {x : Int32} : eb_E L d 248 29 ls (zi x :: Sum.inr (some a) :: st) (nc, ns, I, J, R) = if (12 ≤ (eb_ty L a.1).1 ∧ (eb_ty L a.1).1 ≤ 16) ∧ eb_in x (eb_ty L a.1).2 = true then eb_E L d 248 30 ls (Sum.inr (R a x.toNatClampNeg) :: st) (nc, ns, I, J, R) else none := eb_E_iy hk248 rfl
theorem e248_30 {x : Option eb_A} : eb_E L d 248 30 [some (Sum.inr x), v1, v2] (st) M = eb_E L d 248 31 [some (Sum.inr x), v1, v2] (Sum.inr x :: st) M := eb_E_s hk248 rfl
theorem e248_31  : eb_E L d 248 31 ls (Sum.inr (some a) :: st) (nc, ns, I, J, R) = if (eb_ty L a.1).1 = 6 then eb_E L d 248 34 ls (Sum.inr (R a 10) :: st) (nc, ns, I, J, R) else none := eb_E_iy hk248 rfl
theorem e248_34 {x : Int32} : eb_E L d 248 34 [v0, v1, some (zi x)] (st) M = eb_E L d 248 35 [v0, v1, some (zi x)] (zi x :: st) M := eb_E_s hk248 rfl
theorem e248_35 {x : Int32} : eb_E L d 248 35 ls (zi x :: Sum.inr (some a) :: st) (nc, ns, I, J, R) = if (12 ≤ (eb_ty L a.1).1 ∧ (eb_ty L a.1).1 ≤ 16) ∧ eb_in x (eb_ty L a.1).2 = true then eb_E L d 248 36 ls (Sum.inr (R a x.toNatClampNeg) :: st) (nc, ns, I, J, R) else none := eb_E_iy hk248 rfl
theorem e248_36  : eb_E L d 248 36 ls ([a1, a0]) M = (eb_ev L d 247 [a0, a1] M).bind (fun q => eb_E L d 248 39 ls [] q.2) := eb_E_c hk248 rfl
theorem e248_39 {x : Option eb_A} : eb_E L d 248 39 [v0, some (Sum.inr x), v2] (st) M = eb_E L d 248 40 [v0, some (Sum.inr x), v2] (Sum.inr x :: st) M := eb_E_s hk248 rfl
theorem e248_40  : eb_E L d 248 40 ls (Sum.inr (some a) :: st) (nc, ns, I, J, R) = if (eb_ty L a.1).1 = 6 then eb_E L d 248 43 ls (Sum.inr (R a 12) :: st) (nc, ns, I, J, R) else none := eb_E_iy hk248 rfl
theorem e248_43 {x : Int32} : eb_E L d 248 43 [v0, v1, some (zi x)] (st) M = eb_E L d 248 44 [v0, v1, some (zi x)] (zi x :: st) M := eb_E_s hk248 rfl
theorem e248_44 {x : Int32} : eb_E L d 248 44 ls (zi x :: Sum.inr (some a) :: st) (nc, ns, I, J, R) = if (12 ≤ (eb_ty L a.1).1 ∧ (eb_ty L a.1).1 ≤ 16) ∧ eb_in x (eb_ty L a.1).2 = true then eb_E L d 248 45 ls (Sum.inr (R a x.toNatClampNeg) :: st) (nc, ns, I, J, R) else none := eb_E_iy hk248 rfl
theorem e248_45 {x : Option eb_A} : eb_E L d 248 45 [some (Sum.inr x), v1, v2] (st) M = eb_E L d 248 46 [some (Sum.inr x), v1, v2] (Sum.inr x :: st) M := eb_E_s hk248 rfl
theorem e248_46  : eb_E L d 248 46 ls (Sum.inr (some a) :: st) (nc, ns, I, J, R) = if (eb_ty L a.1).1 = 6 then eb_E L d 248 49 ls (Sum.inr (R a 12) :: st) (nc, ns, I, J, R) else none := eb_E_iy hk248 rfl
theorem e248_49 {x : Int32} : eb_E L d 248 49 [v0, v1, some (zi x)] (st) M = eb_E L d 248 50 [v0, v1, some (zi x)] (zi x :: st) M := eb_E_s hk248 rfl
theorem e248_50 {x : Int32} : eb_E L d 248 50 ls (zi x :: Sum.inr (some a) :: st) (nc, ns, I, J, R) = if (12 ≤ (eb_ty L a.1).1 ∧ (eb_ty L a.1).1 ≤ 16) ∧ eb_in x (eb_ty L a.1).2 = true then eb_E L d 248 51 ls (Sum.inr (R a x.toNatClampNeg) :: st) (nc, ns, I, J, R) else none := eb_E_iy hk248 rfl
theorem e248_51  : eb_E L d 248 51 ls ([a1, a0]) M = (eb_ev L d 247 [a0, a1] M).bind (fun q => eb_E L d 248 54 ls [] q.2) := eb_E_c hk248 rfl
theorem e248_54 {x : Int32} : eb_E L d 248 54 [v0, v1, some (zi x)] (st) M = eb_E L d 248 57 [v0, v1, some (zi (x + 1))] (st) M := eb_E_s hk248 rfl
theorem e248_57  : eb_E L d 248 57 ls (st) M = eb_E L d 248 18 ls (st) M := eb_E_s hk248 rfl
theorem e248_60 {x : Option eb_A} : eb_E L d 248 60 [some (Sum.inr x), v1, v2] (st) M = eb_E L d 248 61 [some (Sum.inr x), v1, v2] (Sum.inr x :: st) M := eb_E_s hk248 rfl
theorem e248_61 {x : Option eb_A} : eb_E L d 248 61 [v0, some (Sum.inr x), v2] (st) M = eb_E L d 248 62 [v0, some (Sum.inr x), v2] (Sum.inr x :: st) M := eb_E_s hk248 rfl
theorem e248_62  : eb_E L d 248 62 ls (Sum.inr (some a) :: st) (nc, ns, I, J, R) = if (eb_ty L a.1).1 = 6 then eb_E L d 248 65 ls (zi (I a 13) :: st) (nc, ns, I, J, R) else none := eb_E_iy hk248 rfl
theorem e248_65 {x : Int32} : eb_E L d 248 65 ls (zi x :: Sum.inr (some a) :: st) (nc, ns, I, J, R) = if (eb_ty L a.1).1 = 6 then eb_E L d 248 68 ls (st) (nc, ns, eb_u I a 13 x, J, R) else none := eb_E_iy hk248 rfl
theorem e248_68 {x : Option eb_A} : eb_E L d 248 68 [some (Sum.inr x), v1, v2] (st) M = eb_E L d 248 69 [some (Sum.inr x), v1, v2] (Sum.inr x :: st) M := eb_E_s hk248 rfl
theorem e248_69 {x : Option eb_A} : eb_E L d 248 69 [v0, some (Sum.inr x), v2] (st) M = eb_E L d 248 70 [v0, some (Sum.inr x), v2] (Sum.inr x :: st) M := eb_E_s hk248 rfl
theorem e248_70  : eb_E L d 248 70 ls (Sum.inr (some a) :: st) (nc, ns, I, J, R) = if (eb_ty L a.1).1 = 6 then eb_E L d 248 73 ls (zi (I a 14) :: st) (nc, ns, I, J, R) else none := eb_E_iy hk248 rfl
theorem e248_73 {x : Int32} : eb_E L d 248 73 ls (zi x :: Sum.inr (some a) :: st) (nc, ns, I, J, R) = if (eb_ty L a.1).1 = 6 then eb_E L d 248 76 ls (st) (nc, ns, eb_u I a 14 x, J, R) else none := eb_E_iy hk248 rfl
theorem e248_76 {x : Option eb_A} : eb_E L d 248 76 [some (Sum.inr x), v1, v2] (st) M = eb_E L d 248 77 [some (Sum.inr x), v1, v2] (Sum.inr x :: st) M := eb_E_s hk248 rfl
theorem e248_77 {x : Option eb_A} : eb_E L d 248 77 [v0, some (Sum.inr x), v2] (st) M = eb_E L d 248 78 [v0, some (Sum.inr x), v2] (Sum.inr x :: st) M := eb_E_s hk248 rfl
theorem e248_78  : eb_E L d 248 78 ls (Sum.inr (some a) :: st) (nc, ns, I, J, R) = if (eb_ty L a.1).1 = 6 then eb_E L d 248 81 ls (zi (I a 15) :: st) (nc, ns, I, J, R) else none := eb_E_iy hk248 rfl
theorem e248_81 {x : Int32} : eb_E L d 248 81 ls (zi x :: Sum.inr (some a) :: st) (nc, ns, I, J, R) = if (eb_ty L a.1).1 = 6 then eb_E L d 248 84 ls (st) (nc, ns, eb_u I a 15 x, J, R) else none := eb_E_iy hk248 rfl
theorem e248_84  : eb_E L d 248 84 ls ([]) M = some (zn, M) := eb_E_r hk248 rfl
/-! X6_image -/
theorem hk249 : eb_cd L 249 = eb_look (kt249 L) := rfl
theorem h249 (ha : (eb_ty L a.1).1 = 6) : eb_ev L (d + 1) 249 [zr a] M = eb_E L d 249 0 [some (zr a)] [] M := eb_ev_s rfl (eb_chk_i ha rfl)
theorem e249_0 {x : Option eb_A} : eb_E L d 249 0 [some (Sum.inr x)] (st) M = eb_E L d 249 1 [some (Sum.inr x)] (Sum.inr x :: st) M := eb_E_s hk249 rfl
theorem e249_1  : eb_E L d 249 1 ls (Sum.inr (some a) :: st) (nc, ns, I, J, R) = if (eb_ty L a.1).1 = 6 then eb_E L d 249 4 ls (Sum.inr (R a 16) :: st) (nc, ns, I, J, R) else none := eb_E_iy hk249 rfl
theorem e249_4 {x : Option eb_A} : eb_E L d 249 4 ls (Sum.inr x :: st) M = if x = none then eb_E L d 249 7 ls st M else eb_E L d 249 18 ls st M := eb_E_b hk249 rfl
theorem e249_7 {x : Option eb_A} : eb_E L d 249 7 [some (Sum.inr x)] (st) M = eb_E L d 249 8 [some (Sum.inr x)] (Sum.inr x :: st) M := eb_E_s hk249 rfl
theorem e249_8  : eb_E L d 249 8 ls (st) (nc, ns, I, J, R) = if (eb_ty L (eb_nm nc).1).1 = 6 then eb_E L d 249 11 ls (zr (eb_nm nc) :: st) (nc + 1, ns + 34, eb_zI I (eb_nm nc), J, eb_zR R (eb_nm nc) 34) else none := eb_E_iy hk249 rfl
theorem e249_11a {x : Int32} : eb_E L d 249 11 ls (zi x :: st) M = eb_E L d 249 12 ls (zi x :: zi x :: st) M := eb_E_s hk249 rfl
theorem e249_11b {x : Option eb_A} : eb_E L d 249 11 ls (Sum.inr x :: st) M = eb_E L d 249 12 ls (Sum.inr x :: Sum.inr x :: st) M := eb_E_s hk249 rfl
theorem e249_12 {s0 : Option eb_A} {s1 : Option eb_A} : eb_E L d 249 12 ls ([a0, Sum.inr s0, Sum.inr s1]) M = (eb_ev L d 144 [a0] M).bind (fun q => eb_E L d 249 15 ls [Sum.inr s0, Sum.inr s1] q.2) := eb_E_c hk249 rfl
theorem e249_15 {x : Option eb_A} : eb_E L d 249 15 ls (Sum.inr x :: Sum.inr (some a) :: st) (nc, ns, I, J, R) = if (eb_ty L a.1).1 = 6 then eb_E L d 249 18 ls (st) (nc, ns, I, J, eb_u R a 16 x) else none := eb_E_iy hk249 rfl
theorem e249_18 {x : Option eb_A} : eb_E L d 249 18 [some (Sum.inr x)] (st) M = eb_E L d 249 19 [some (Sum.inr x)] (Sum.inr x :: st) M := eb_E_s hk249 rfl
theorem e249_19  : eb_E L d 249 19 ls (Sum.inr (some a) :: st) (nc, ns, I, J, R) = if (eb_ty L a.1).1 = 6 then eb_E L d 249 22 ls (Sum.inr (R a 16) :: st) (nc, ns, I, J, R) else none := eb_E_iy hk249 rfl
theorem e249_22 {x : Option eb_A} : eb_E L d 249 22 [some (Sum.inr x)] (st) M = eb_E L d 249 23 [some (Sum.inr x)] (Sum.inr x :: st) M := eb_E_s hk249 rfl
theorem e249_23  : eb_E L d 249 23 ls ([a1, a0]) M = (eb_ev L d 248 [a0, a1] M).bind (fun q => eb_E L d 249 26 ls [] q.2) := eb_E_c hk249 rfl
theorem e249_26  : eb_E L d 249 26 ls (st) M = eb_E L d 249 27 ls (zi 1 :: st) M := eb_E_s hk249 rfl
theorem e249_27 {x : Int32} : eb_E L d 249 27 ls ([zi x]) M = some (zi x, M) := eb_E_r hk249 rfl
/-! X6_back -/
theorem hk250 : eb_cd L 250 = eb_look (kt250 L) := rfl
theorem h250 (ha : (eb_ty L a.1).1 = 6) : eb_ev L (d + 1) 250 [zr a] M = eb_E L d 250 0 [some (zr a), none] [] M := eb_ev_s rfl (eb_chk_i ha rfl)
theorem e250_0 {x : Option eb_A} : eb_E L d 250 0 [some (Sum.inr x), v1] (st) M = eb_E L d 250 1 [some (Sum.inr x), v1] (Sum.inr x :: st) M := eb_E_s hk250 rfl
theorem e250_1  : eb_E L d 250 1 ls (Sum.inr (some a) :: st) (nc, ns, I, J, R) = if (eb_ty L a.1).1 = 6 then eb_E L d 250 4 ls (Sum.inr (R a 16) :: st) (nc, ns, I, J, R) else none := eb_E_iy hk250 rfl
theorem e250_4 {x : Option eb_A} : eb_E L d 250 4 ls (Sum.inr x :: st) M = if x = none then eb_E L d 250 7 ls st M else eb_E L d 250 14 ls st M := eb_E_b hk250 rfl
theorem e250_7 {x : Option eb_A} : eb_E L d 250 7 [some (Sum.inr x), v1] (st) M = eb_E L d 250 8 [some (Sum.inr x), v1] (Sum.inr x :: st) M := eb_E_s hk250 rfl
theorem e250_8  : eb_E L d 250 8 ls (st) M = eb_E L d 250 10 ls (zi (-5) :: st) M := eb_E_s hk250 rfl
theorem e250_10  : eb_E L d 250 10 ls ([a1, a0]) M = (eb_ev L d 145 [a0, a1] M).bind (fun q => eb_E L d 250 13 ls [q.1] q.2) := eb_E_c hk250 rfl
theorem e250_13 {x : Int32} : eb_E L d 250 13 ls ([zi x]) M = some (zi x, M) := eb_E_r hk250 rfl
theorem e250_14 {x : Option eb_A} : eb_E L d 250 14 [some (Sum.inr x), v1] (st) M = eb_E L d 250 15 [some (Sum.inr x), v1] (Sum.inr x :: st) M := eb_E_s hk250 rfl
theorem e250_15 {x : Option eb_A} : eb_E L d 250 15 [some (Sum.inr x), v1] (st) M = eb_E L d 250 16 [some (Sum.inr x), v1] (Sum.inr x :: st) M := eb_E_s hk250 rfl
theorem e250_16  : eb_E L d 250 16 ls (Sum.inr (some a) :: st) (nc, ns, I, J, R) = if (eb_ty L a.1).1 = 6 then eb_E L d 250 19 ls (Sum.inr (R a 16) :: st) (nc, ns, I, J, R) else none := eb_E_iy hk250 rfl
theorem e250_19  : eb_E L d 250 19 ls ([a1, a0]) M = (eb_ev L d 248 [a0, a1] M).bind (fun q => eb_E L d 250 22 ls [] q.2) := eb_E_c hk250 rfl
theorem e250_22  : eb_E L d 250 22 ls (st) M = eb_E L d 250 23 ls (zi 0 :: st) M := eb_E_s hk250 rfl
theorem e250_23 {x : Int32} : eb_E L d 250 23 [v0, v1] (zi x :: st) M = eb_E L d 250 24 [v0, some (zi x)] (st) M := eb_E_s hk250 rfl
theorem e250_24 {x : Int32} : eb_E L d 250 24 [v0, some (zi x)] (st) M = eb_E L d 250 25 [v0, some (zi x)] (zi x :: st) M := eb_E_s hk250 rfl
theorem e250_25  : eb_E L d 250 25 ls (st) M = eb_E L d 250 27 ls (zi 8 :: st) M := eb_E_s hk250 rfl
theorem e250_27 {x : Int32} {y : Int32} : eb_E L d 250 27 ls (zi y :: zi x :: st) M = if x < y then eb_E L d 250 30 ls st M else eb_E L d 250 66 ls st M := eb_E_b hk250 rfl
theorem e250_30 {x : Option eb_A} : eb_E L d 250 30 [some (Sum.inr x), v1] (st) M = eb_E L d 250 31 [some (Sum.inr x), v1] (Sum.inr x :: st) M := eb_E_s hk250 rfl
theorem e250_31  : eb_E L d 250 31 ls (Sum.inr (some a) :: st) (nc, ns, I, J, R) = if (eb_ty L a.1).1 = 6 then eb_E L d 250 34 ls (Sum.inr (R a 0) :: st) (nc, ns, I, J, R) else none := eb_E_iy hk250 rfl
theorem e250_34 {x : Int32} : eb_E L d 250 34 [v0, some (zi x)] (st) M = eb_E L d 250 35 [v0, some (zi x)] (zi x :: st) M := eb_E_s hk250 rfl
theorem e250_35 {x : Int32} : eb_E L d 250 35 ls (zi x :: Sum.inr (some a) :: st) (nc, ns, I, J, R) = if (eb_ty L a.1).1 = 10 ∧ eb_in x (eb_ty L a.1).2 = true then eb_E L d 250 36 ls (zi (I a x.toNatClampNeg) :: st) (nc, ns, I, J, R) else none := eb_E_iy hk250 rfl
theorem e250_36  : eb_E L d 250 36 ls (st) M = eb_E L d 250 37 ls (zi 2 :: st) M := eb_E_s hk250 rfl
theorem e250_37 {x : Int32} {y : Int32} : eb_E L d 250 37 ls (zi y :: zi x :: st) M = if x = y then eb_E L d 250 40 ls st M else eb_E L d 250 60 ls st M := eb_E_b hk250 rfl
theorem e250_40 {x : Option eb_A} : eb_E L d 250 40 [some (Sum.inr x), v1] (st) M = eb_E L d 250 41 [some (Sum.inr x), v1] (Sum.inr x :: st) M := eb_E_s hk250 rfl
theorem e250_41  : eb_E L d 250 41 ls (Sum.inr (some a) :: st) (nc, ns, I, J, R) = if (eb_ty L a.1).1 = 6 then eb_E L d 250 44 ls (Sum.inr (R a 5) :: st) (nc, ns, I, J, R) else none := eb_E_iy hk250 rfl
theorem e250_44 {x : Int32} : eb_E L d 250 44 [v0, some (zi x)] (st) M = eb_E L d 250 45 [v0, some (zi x)] (zi x :: st) M := eb_E_s hk250 rfl
theorem e250_45 {x : Int32} : eb_E L d 250 45 ls (zi x :: Sum.inr (some a) :: st) (nc, ns, I, J, R) = if (eb_ty L a.1).1 = 10 ∧ eb_in x (eb_ty L a.1).2 = true then eb_E L d 250 46 ls (zi (I a x.toNatClampNeg) :: st) (nc, ns, I, J, R) else none := eb_E_iy hk250 rfl
theorem e250_46 {x : Option eb_A} : eb_E L d 250 46 [some (Sum.inr x), v1] (st) M = eb_E L d 250 47 [some (Sum.inr x), v1] (Sum.inr x :: st) M := eb_E_s hk250 rfl
theorem e250_47  : eb_E L d 250 47 ls (Sum.inr (some a) :: st) (nc, ns, I, J, R) = if (eb_ty L a.1).1 = 6 then eb_E L d 250 50 ls (zi (I a 11) :: st) (nc, ns, I, J, R) else none := eb_E_iy hk250 rfl
theorem e250_50 {x : Int32} {y : Int32} : eb_E L d 250 50 ls (zi y :: zi x :: st) M = if x < y then eb_E L d 250 60 ls st M else eb_E L d 250 53 ls st M := eb_E_b hk250 rfl
theorem e250_53 {x : Option eb_A} : eb_E L d 250 53 [some (Sum.inr x), v1] (st) M = eb_E L d 250 54 [some (Sum.inr x), v1] (Sum.inr x :: st) M := eb_E_s hk250 rfl
theorem e250_54  : eb_E L d 250 54 ls (Sum.inr (some a) :: st) (nc, ns, I, J, R) = if (eb_ty L a.1).1 = 6 then eb_E L d 250 57 ls (Sum.inr (R a 0) :: st) (nc, ns, I, J, R) else none := eb_E_iy hk250 rfl
theorem e250_57 {x : Int32} : eb_E L d 250 57 [v0, some (zi x)] (st) M = eb_E L d 250 58 [v0, some (zi x)] (zi x :: st) M := eb_E_s hk250 rfl
theorem e250_58  : eb_E L d 250 58 ls (st) M = eb_E L d 250 59 ls (zi 0 :: st) M := eb_E_s hk250 rfl
theorem e250_59 {x : Int32} {v : Int32} : eb_E L d 250 59 ls (zi v :: zi x :: Sum.inr (some a) :: st) (nc, ns, I, J, R) = if (eb_ty L a.1).1 = 10 ∧ eb_in x (eb_ty L a.1).2 = true then eb_E L d 250 60 ls (st) (nc, ns, eb_u I a x.toNatClampNeg v, J, R) else none := eb_E_iy hk250 rfl
theorem e250_60 {x : Int32} : eb_E L d 250 60 [v0, some (zi x)] (st) M = eb_E L d 250 63 [v0, some (zi (x + 1))] (st) M := eb_E_s hk250 rfl
theorem e250_63  : eb_E L d 250 63 ls (st) M = eb_E L d 250 24 ls (st) M := eb_E_s hk250 rfl
theorem e250_66  : eb_E L d 250 66 ls (st) M = eb_E L d 250 67 ls (zi 1 :: st) M := eb_E_s hk250 rfl
theorem e250_67 {x : Int32} : eb_E L d 250 67 ls ([zi x]) M = some (zi x, M) := eb_E_r hk250 rfl
/-! X6_status -/
theorem hk251 : eb_cd L 251 = eb_look (kt251 L) := rfl
theorem h251 (ha : (eb_ty L a.1).1 = 6) {x1 : Int32} : eb_ev L (d + 1) 251 [zr a, zi x1] M = eb_E L d 251 0 [some (zr a), some (zi x1), none, none] [] M := eb_ev_s rfl (eb_chk_i ha rfl)
theorem e251_0  : eb_E L d 251 0 ls (st) M = eb_E L d 251 1 ls (zi 0 :: st) M := eb_E_s hk251 rfl
theorem e251_1 {x : Int32} : eb_E L d 251 1 [v0, v1, v2, v3] (zi x :: st) M = eb_E L d 251 2 [v0, v1, some (zi x), v3] (st) M := eb_E_s hk251 rfl
theorem e251_2 {x : Int32} : eb_E L d 251 2 [v0, some (zi x), v2, v3] (st) M = eb_E L d 251 3 [v0, some (zi x), v2, v3] (zi x :: st) M := eb_E_s hk251 rfl
theorem e251_3 {x : Int32} : eb_E L d 251 3 ls (zi x :: st) M = eb_sw x (fun t => eb_E L d 251 t ls st M) 217 [(0, 56), (1, 61), (2, 66), (3, 71), (4, 111), (5, 140), (6, 169), (7, 174), (8, 179), (9, 184)] := eb_E_w hk251 rfl
theorem e251_56 {x : Option eb_A} : eb_E L d 251 56 [some (Sum.inr x), v1, v2, v3] (st) M = eb_E L d 251 57 [some (Sum.inr x), v1, v2, v3] (Sum.inr x :: st) M := eb_E_s hk251 rfl
theorem e251_57  : eb_E L d 251 57 ls (Sum.inr (some a) :: st) (nc, ns, I, J, R) = if (eb_ty L a.1).1 = 6 then eb_E L d 251 60 ls (zi (I a 9) :: st) (nc, ns, I, J, R) else none := eb_E_iy hk251 rfl
theorem e251_60 {x : Int32} : eb_E L d 251 60 ls ([zi x]) M = some (zi x, M) := eb_E_r hk251 rfl
theorem e251_61 {x : Option eb_A} : eb_E L d 251 61 [some (Sum.inr x), v1, v2, v3] (st) M = eb_E L d 251 62 [some (Sum.inr x), v1, v2, v3] (Sum.inr x :: st) M := eb_E_s hk251 rfl
theorem e251_62  : eb_E L d 251 62 ls (Sum.inr (some a) :: st) (nc, ns, I, J, R) = if (eb_ty L a.1).1 = 6 then eb_E L d 251 65 ls (zi (I a 11) :: st) (nc, ns, I, J, R) else none := eb_E_iy hk251 rfl
theorem e251_65 {x : Int32} : eb_E L d 251 65 ls ([zi x]) M = some (zi x, M) := eb_E_r hk251 rfl
theorem e251_66 {x : Option eb_A} : eb_E L d 251 66 [some (Sum.inr x), v1, v2, v3] (st) M = eb_E L d 251 67 [some (Sum.inr x), v1, v2, v3] (Sum.inr x :: st) M := eb_E_s hk251 rfl
theorem e251_67  : eb_E L d 251 67 ls (Sum.inr (some a) :: st) (nc, ns, I, J, R) = if (eb_ty L a.1).1 = 6 then eb_E L d 251 70 ls (zi (I a 13) :: st) (nc, ns, I, J, R) else none := eb_E_iy hk251 rfl
theorem e251_70 {x : Int32} : eb_E L d 251 70 ls ([zi x]) M = some (zi x, M) := eb_E_r hk251 rfl
theorem e251_71  : eb_E L d 251 71 ls (st) M = eb_E L d 251 72 ls (zi 0 :: st) M := eb_E_s hk251 rfl
theorem e251_72 {x : Int32} : eb_E L d 251 72 [v0, v1, v2, v3] (zi x :: st) M = eb_E L d 251 73 [v0, v1, v2, some (zi x)] (st) M := eb_E_s hk251 rfl
theorem e251_73 {x : Int32} : eb_E L d 251 73 [v0, v1, v2, some (zi x)] (st) M = eb_E L d 251 74 [v0, v1, v2, some (zi x)] (zi x :: st) M := eb_E_s hk251 rfl
theorem e251_74 {x : Option eb_A} : eb_E L d 251 74 [some (Sum.inr x), v1, v2, v3] (st) M = eb_E L d 251 75 [some (Sum.inr x), v1, v2, v3] (Sum.inr x :: st) M := eb_E_s hk251 rfl
theorem e251_75  : eb_E L d 251 75 ls (Sum.inr (some a) :: st) (nc, ns, I, J, R) = if (eb_ty L a.1).1 = 6 then eb_E L d 251 78 ls (zi (I a 9) :: st) (nc, ns, I, J, R) else none := eb_E_iy hk251 rfl
theorem e251_78 {x : Int32} {y : Int32} : eb_E L d 251 78 ls (zi y :: zi x :: st) M = if x < y then eb_E L d 251 81 ls st M else eb_E L d 251 109 ls st M := eb_E_b hk251 rfl
theorem e251_81 {x : Int32} : eb_E L d 251 81 [v0, v1, some (zi x), v3] (st) M = eb_E L d 251 82 [v0, v1, some (zi x), v3] (zi x :: st) M := eb_E_s hk251 rfl
theorem e251_82 {x : Option eb_A} : eb_E L d 251 82 [some (Sum.inr x), v1, v2, v3] (st) M = eb_E L d 251 83 [some (Sum.inr x), v1, v2, v3] (Sum.inr x :: st) M := eb_E_s hk251 rfl
theorem e251_83  : eb_E L d 251 83 ls (Sum.inr (some a) :: st) (nc, ns, I, J, R) = if (eb_ty L a.1).1 = 6 then eb_E L d 251 86 ls (Sum.inr (R a 10) :: st) (nc, ns, I, J, R) else none := eb_E_iy hk251 rfl
theorem e251_86 {x : Int32} : eb_E L d 251 86 [v0, v1, v2, some (zi x)] (st) M = eb_E L d 251 87 [v0, v1, v2, some (zi x)] (zi x :: st) M := eb_E_s hk251 rfl
theorem e251_87 {x : Int32} : eb_E L d 251 87 ls (zi x :: Sum.inr (some a) :: st) (nc, ns, I, J, R) = if (12 ≤ (eb_ty L a.1).1 ∧ (eb_ty L a.1).1 ≤ 16) ∧ eb_in x (eb_ty L a.1).2 = true then eb_E L d 251 88 ls (Sum.inr (R a x.toNatClampNeg) :: st) (nc, ns, I, J, R) else none := eb_E_iy hk251 rfl
theorem e251_88  : eb_E L d 251 88 ls (st) M = eb_E L d 251 89 ls (zi 4 :: st) M := eb_E_s hk251 rfl
theorem e251_89 {x : Int32} : eb_E L d 251 89 ls (zi x :: Sum.inr (some a) :: st) (nc, ns, I, J, R) = if (eb_ty L a.1).1 = 10 ∧ eb_in x (eb_ty L a.1).2 = true then eb_E L d 251 90 ls (zi (I a x.toNatClampNeg) :: st) (nc, ns, I, J, R) else none := eb_E_iy hk251 rfl
theorem e251_90  : eb_E L d 251 90 ls (st) M = eb_E L d 251 91 ls (zi (-1) :: st) M := eb_E_s hk251 rfl
theorem e251_91 {x : Int32} {y : Int32} : eb_E L d 251 91 ls (zi y :: zi x :: st) M = if x = y then eb_E L d 251 100 ls st M else eb_E L d 251 94 ls st M := eb_E_b hk251 rfl
theorem e251_94  : eb_E L d 251 94 ls (st) M = eb_E L d 251 95 ls (zi 1 :: st) M := eb_E_s hk251 rfl
theorem e251_95 {x : Int32} : eb_E L d 251 95 [v0, v1, v2, some (zi x)] (st) M = eb_E L d 251 96 [v0, v1, v2, some (zi x)] (zi x :: st) M := eb_E_s hk251 rfl
theorem e251_96 {x : Int32} {y : Int32} : eb_E L d 251 96 ls (zi y :: zi x :: st) M = eb_E L d 251 97 ls (zi (x <<< (y &&& 31)) :: st) M := eb_E_s hk251 rfl
theorem e251_97  : eb_E L d 251 97 ls (st) M = eb_E L d 251 101 ls (st) M := eb_E_s hk251 rfl
theorem e251_100  : eb_E L d 251 100 ls (st) M = eb_E L d 251 101 ls (zi 0 :: st) M := eb_E_s hk251 rfl
theorem e251_101 {x : Int32} {y : Int32} : eb_E L d 251 101 ls (zi y :: zi x :: st) M = eb_E L d 251 102 ls (zi (x ||| y) :: st) M := eb_E_s hk251 rfl
theorem e251_102 {x : Int32} : eb_E L d 251 102 [v0, v1, v2, v3] (zi x :: st) M = eb_E L d 251 103 [v0, v1, some (zi x), v3] (st) M := eb_E_s hk251 rfl
theorem e251_103 {x : Int32} : eb_E L d 251 103 [v0, v1, v2, some (zi x)] (st) M = eb_E L d 251 106 [v0, v1, v2, some (zi (x + 1))] (st) M := eb_E_s hk251 rfl
theorem e251_106  : eb_E L d 251 106 ls (st) M = eb_E L d 251 73 ls (st) M := eb_E_s hk251 rfl
theorem e251_109 {x : Int32} : eb_E L d 251 109 [v0, v1, some (zi x), v3] (st) M = eb_E L d 251 110 [v0, v1, some (zi x), v3] (zi x :: st) M := eb_E_s hk251 rfl
theorem e251_110 {x : Int32} : eb_E L d 251 110 ls ([zi x]) M = some (zi x, M) := eb_E_r hk251 rfl
theorem e251_111  : eb_E L d 251 111 ls (st) M = eb_E L d 251 112 ls (zi 0 :: st) M := eb_E_s hk251 rfl
theorem e251_112 {x : Int32} : eb_E L d 251 112 [v0, v1, v2, v3] (zi x :: st) M = eb_E L d 251 113 [v0, v1, v2, some (zi x)] (st) M := eb_E_s hk251 rfl
theorem e251_113 {x : Int32} : eb_E L d 251 113 [v0, v1, v2, some (zi x)] (st) M = eb_E L d 251 114 [v0, v1, v2, some (zi x)] (zi x :: st) M := eb_E_s hk251 rfl
theorem e251_114 {x : Option eb_A} : eb_E L d 251 114 [some (Sum.inr x), v1, v2, v3] (st) M = eb_E L d 251 115 [some (Sum.inr x), v1, v2, v3] (Sum.inr x :: st) M := eb_E_s hk251 rfl
theorem e251_115  : eb_E L d 251 115 ls (Sum.inr (some a) :: st) (nc, ns, I, J, R) = if (eb_ty L a.1).1 = 6 then eb_E L d 251 118 ls (zi (I a 9) :: st) (nc, ns, I, J, R) else none := eb_E_iy hk251 rfl
theorem e251_118 {x : Int32} {y : Int32} : eb_E L d 251 118 ls (zi y :: zi x :: st) M = if x < y then eb_E L d 251 121 ls st M else eb_E L d 251 138 ls st M := eb_E_b hk251 rfl
theorem e251_121 {x : Int32} : eb_E L d 251 121 [v0, v1, some (zi x), v3] (st) M = eb_E L d 251 122 [v0, v1, some (zi x), v3] (zi x :: st) M := eb_E_s hk251 rfl
theorem e251_122 {x : Option eb_A} : eb_E L d 251 122 [some (Sum.inr x), v1, v2, v3] (st) M = eb_E L d 251 123 [some (Sum.inr x), v1, v2, v3] (Sum.inr x :: st) M := eb_E_s hk251 rfl
theorem e251_123  : eb_E L d 251 123 ls (Sum.inr (some a) :: st) (nc, ns, I, J, R) = if (eb_ty L a.1).1 = 6 then eb_E L d 251 126 ls (Sum.inr (R a 10) :: st) (nc, ns, I, J, R) else none := eb_E_iy hk251 rfl
theorem e251_126 {x : Int32} : eb_E L d 251 126 [v0, v1, v2, some (zi x)] (st) M = eb_E L d 251 127 [v0, v1, v2, some (zi x)] (zi x :: st) M := eb_E_s hk251 rfl
theorem e251_127 {x : Int32} : eb_E L d 251 127 ls (zi x :: Sum.inr (some a) :: st) (nc, ns, I, J, R) = if (12 ≤ (eb_ty L a.1).1 ∧ (eb_ty L a.1).1 ≤ 16) ∧ eb_in x (eb_ty L a.1).2 = true then eb_E L d 251 128 ls (Sum.inr (R a x.toNatClampNeg) :: st) (nc, ns, I, J, R) else none := eb_E_iy hk251 rfl
theorem e251_128  : eb_E L d 251 128 ls (st) M = eb_E L d 251 129 ls (zi 2 :: st) M := eb_E_s hk251 rfl
theorem e251_129 {x : Int32} : eb_E L d 251 129 ls (zi x :: Sum.inr (some a) :: st) (nc, ns, I, J, R) = if (eb_ty L a.1).1 = 10 ∧ eb_in x (eb_ty L a.1).2 = true then eb_E L d 251 130 ls (zi (I a x.toNatClampNeg) :: st) (nc, ns, I, J, R) else none := eb_E_iy hk251 rfl
theorem e251_130 {x : Int32} {y : Int32} : eb_E L d 251 130 ls (zi y :: zi x :: st) M = eb_E L d 251 131 ls (zi (x + y) :: st) M := eb_E_s hk251 rfl
theorem e251_131 {x : Int32} : eb_E L d 251 131 [v0, v1, v2, v3] (zi x :: st) M = eb_E L d 251 132 [v0, v1, some (zi x), v3] (st) M := eb_E_s hk251 rfl
theorem e251_132 {x : Int32} : eb_E L d 251 132 [v0, v1, v2, some (zi x)] (st) M = eb_E L d 251 135 [v0, v1, v2, some (zi (x + 1))] (st) M := eb_E_s hk251 rfl
theorem e251_135  : eb_E L d 251 135 ls (st) M = eb_E L d 251 113 ls (st) M := eb_E_s hk251 rfl
theorem e251_138 {x : Int32} : eb_E L d 251 138 [v0, v1, some (zi x), v3] (st) M = eb_E L d 251 139 [v0, v1, some (zi x), v3] (zi x :: st) M := eb_E_s hk251 rfl
theorem e251_139 {x : Int32} : eb_E L d 251 139 ls ([zi x]) M = some (zi x, M) := eb_E_r hk251 rfl
theorem e251_140  : eb_E L d 251 140 ls (st) M = eb_E L d 251 141 ls (zi 0 :: st) M := eb_E_s hk251 rfl
theorem e251_141 {x : Int32} : eb_E L d 251 141 [v0, v1, v2, v3] (zi x :: st) M = eb_E L d 251 142 [v0, v1, v2, some (zi x)] (st) M := eb_E_s hk251 rfl
theorem e251_142 {x : Int32} : eb_E L d 251 142 [v0, v1, v2, some (zi x)] (st) M = eb_E L d 251 143 [v0, v1, v2, some (zi x)] (zi x :: st) M := eb_E_s hk251 rfl
theorem e251_143 {x : Option eb_A} : eb_E L d 251 143 [some (Sum.inr x), v1, v2, v3] (st) M = eb_E L d 251 144 [some (Sum.inr x), v1, v2, v3] (Sum.inr x :: st) M := eb_E_s hk251 rfl
theorem e251_144  : eb_E L d 251 144 ls (Sum.inr (some a) :: st) (nc, ns, I, J, R) = if (eb_ty L a.1).1 = 6 then eb_E L d 251 147 ls (zi (I a 11) :: st) (nc, ns, I, J, R) else none := eb_E_iy hk251 rfl
theorem e251_147 {x : Int32} {y : Int32} : eb_E L d 251 147 ls (zi y :: zi x :: st) M = if x < y then eb_E L d 251 150 ls st M else eb_E L d 251 167 ls st M := eb_E_b hk251 rfl
theorem e251_150 {x : Int32} : eb_E L d 251 150 [v0, v1, some (zi x), v3] (st) M = eb_E L d 251 151 [v0, v1, some (zi x), v3] (zi x :: st) M := eb_E_s hk251 rfl
theorem e251_151 {x : Option eb_A} : eb_E L d 251 151 [some (Sum.inr x), v1, v2, v3] (st) M = eb_E L d 251 152 [some (Sum.inr x), v1, v2, v3] (Sum.inr x :: st) M := eb_E_s hk251 rfl
theorem e251_152  : eb_E L d 251 152 ls (Sum.inr (some a) :: st) (nc, ns, I, J, R) = if (eb_ty L a.1).1 = 6 then eb_E L d 251 155 ls (Sum.inr (R a 12) :: st) (nc, ns, I, J, R) else none := eb_E_iy hk251 rfl
theorem e251_155 {x : Int32} : eb_E L d 251 155 [v0, v1, v2, some (zi x)] (st) M = eb_E L d 251 156 [v0, v1, v2, some (zi x)] (zi x :: st) M := eb_E_s hk251 rfl
theorem e251_156 {x : Int32} : eb_E L d 251 156 ls (zi x :: Sum.inr (some a) :: st) (nc, ns, I, J, R) = if (12 ≤ (eb_ty L a.1).1 ∧ (eb_ty L a.1).1 ≤ 16) ∧ eb_in x (eb_ty L a.1).2 = true then eb_E L d 251 157 ls (Sum.inr (R a x.toNatClampNeg) :: st) (nc, ns, I, J, R) else none := eb_E_iy hk251 rfl
theorem e251_157  : eb_E L d 251 157 ls (st) M = eb_E L d 251 158 ls (zi 1 :: st) M := eb_E_s hk251 rfl
theorem e251_158 {x : Int32} : eb_E L d 251 158 ls (zi x :: Sum.inr (some a) :: st) (nc, ns, I, J, R) = if (eb_ty L a.1).1 = 10 ∧ eb_in x (eb_ty L a.1).2 = true then eb_E L d 251 159 ls (zi (I a x.toNatClampNeg) :: st) (nc, ns, I, J, R) else none := eb_E_iy hk251 rfl
theorem e251_159 {x : Int32} {y : Int32} : eb_E L d 251 159 ls (zi y :: zi x :: st) M = eb_E L d 251 160 ls (zi (x + y) :: st) M := eb_E_s hk251 rfl
theorem e251_160 {x : Int32} : eb_E L d 251 160 [v0, v1, v2, v3] (zi x :: st) M = eb_E L d 251 161 [v0, v1, some (zi x), v3] (st) M := eb_E_s hk251 rfl
theorem e251_161 {x : Int32} : eb_E L d 251 161 [v0, v1, v2, some (zi x)] (st) M = eb_E L d 251 164 [v0, v1, v2, some (zi (x + 1))] (st) M := eb_E_s hk251 rfl
theorem e251_164  : eb_E L d 251 164 ls (st) M = eb_E L d 251 142 ls (st) M := eb_E_s hk251 rfl
theorem e251_167 {x : Int32} : eb_E L d 251 167 [v0, v1, some (zi x), v3] (st) M = eb_E L d 251 168 [v0, v1, some (zi x), v3] (zi x :: st) M := eb_E_s hk251 rfl
theorem e251_168 {x : Int32} : eb_E L d 251 168 ls ([zi x]) M = some (zi x, M) := eb_E_r hk251 rfl
theorem e251_169 {x : Option eb_A} : eb_E L d 251 169 [some (Sum.inr x), v1, v2, v3] (st) M = eb_E L d 251 170 [some (Sum.inr x), v1, v2, v3] (Sum.inr x :: st) M := eb_E_s hk251 rfl
theorem e251_170  : eb_E L d 251 170 ls (Sum.inr (some a) :: st) (nc, ns, I, J, R) = if (eb_ty L a.1).1 = 6 then eb_E L d 251 173 ls (zi (I a 14) :: st) (nc, ns, I, J, R) else none := eb_E_iy hk251 rfl
theorem e251_173 {x : Int32} : eb_E L d 251 173 ls ([zi x]) M = some (zi x, M) := eb_E_r hk251 rfl
theorem e251_174 {x : Option eb_A} : eb_E L d 251 174 [some (Sum.inr x), v1, v2, v3] (st) M = eb_E L d 251 175 [some (Sum.inr x), v1, v2, v3] (Sum.inr x :: st) M := eb_E_s hk251 rfl
theorem e251_175  : eb_E L d 251 175 ls (Sum.inr (some a) :: st) (nc, ns, I, J, R) = if (eb_ty L a.1).1 = 6 then eb_E L d 251 178 ls (zi (I a 7) :: st) (nc, ns, I, J, R) else none := eb_E_iy hk251 rfl
theorem e251_178 {x : Int32} : eb_E L d 251 178 ls ([zi x]) M = some (zi x, M) := eb_E_r hk251 rfl
theorem e251_179 {x : Option eb_A} : eb_E L d 251 179 [some (Sum.inr x), v1, v2, v3] (st) M = eb_E L d 251 180 [some (Sum.inr x), v1, v2, v3] (Sum.inr x :: st) M := eb_E_s hk251 rfl
theorem e251_180  : eb_E L d 251 180 ls (Sum.inr (some a) :: st) (nc, ns, I, J, R) = if (eb_ty L a.1).1 = 6 then eb_E L d 251 183 ls (zi (I a 15) :: st) (nc, ns, I, J, R) else none := eb_E_iy hk251 rfl
theorem e251_183 {x : Int32} : eb_E L d 251 183 ls ([zi x]) M = some (zi x, M) := eb_E_r hk251 rfl
theorem e251_184  : eb_E L d 251 184 ls (st) M = eb_E L d 251 185 ls (zi 0 :: st) M := eb_E_s hk251 rfl
theorem e251_185 {x : Int32} : eb_E L d 251 185 [v0, v1, v2, v3] (zi x :: st) M = eb_E L d 251 186 [v0, v1, v2, some (zi x)] (st) M := eb_E_s hk251 rfl
theorem e251_186 {x : Int32} : eb_E L d 251 186 [v0, v1, v2, some (zi x)] (st) M = eb_E L d 251 187 [v0, v1, v2, some (zi x)] (zi x :: st) M := eb_E_s hk251 rfl
theorem e251_187  : eb_E L d 251 187 ls (st) M = eb_E L d 251 189 ls (zi 8 :: st) M := eb_E_s hk251 rfl
theorem e251_189 {x : Int32} {y : Int32} : eb_E L d 251 189 ls (zi y :: zi x :: st) M = if x < y then eb_E L d 251 192 ls st M else eb_E L d 251 215 ls st M := eb_E_b hk251 rfl
theorem e251_192 {x : Int32} : eb_E L d 251 192 [v0, v1, some (zi x), v3] (st) M = eb_E L d 251 193 [v0, v1, some (zi x), v3] (zi x :: st) M := eb_E_s hk251 rfl
theorem e251_193 {x : Option eb_A} : eb_E L d 251 193 [some (Sum.inr x), v1, v2, v3] (st) M = eb_E L d 251 194 [some (Sum.inr x), v1, v2, v3] (Sum.inr x :: st) M := eb_E_s hk251 rfl
theorem e251_194  : eb_E L d 251 194 ls (Sum.inr (some a) :: st) (nc, ns, I, J, R) = if (eb_ty L a.1).1 = 6 then eb_E L d 251 197 ls (Sum.inr (R a 0) :: st) (nc, ns, I, J, R) else none := eb_E_iy hk251 rfl
theorem e251_197 {x : Int32} : eb_E L d 251 197 [v0, v1, v2, some (zi x)] (st) M = eb_E L d 251 198 [v0, v1, v2, some (zi x)] (zi x :: st) M := eb_E_s hk251 rfl
theorem e251_198 {x : Int32} : eb_E L d 251 198 ls (zi x :: Sum.inr (some a) :: st) (nc, ns, I, J, R) = if (eb_ty L a.1).1 = 10 ∧ eb_in x (eb_ty L a.1).2 = true then eb_E L d 251 199 ls (zi (I a x.toNatClampNeg) :: st) (nc, ns, I, J, R) else none := eb_E_iy hk251 rfl
theorem e251_199 {x : Int32} : eb_E L d 251 199 ls (zi x :: st) M = if x = 0 then eb_E L d 251 206 ls st M else eb_E L d 251 202 ls st M := eb_E_b hk251 rfl
theorem e251_202  : eb_E L d 251 202 ls (st) M = eb_E L d 251 203 ls (zi 1 :: st) M := eb_E_s hk251 rfl
theorem e251_203  : eb_E L d 251 203 ls (st) M = eb_E L d 251 207 ls (st) M := eb_E_s hk251 rfl
theorem e251_206  : eb_E L d 251 206 ls (st) M = eb_E L d 251 207 ls (zi 0 :: st) M := eb_E_s hk251 rfl
theorem e251_207 {x : Int32} {y : Int32} : eb_E L d 251 207 ls (zi y :: zi x :: st) M = eb_E L d 251 208 ls (zi (x + y) :: st) M := eb_E_s hk251 rfl
theorem e251_208 {x : Int32} : eb_E L d 251 208 [v0, v1, v2, v3] (zi x :: st) M = eb_E L d 251 209 [v0, v1, some (zi x), v3] (st) M := eb_E_s hk251 rfl
theorem e251_209 {x : Int32} : eb_E L d 251 209 [v0, v1, v2, some (zi x)] (st) M = eb_E L d 251 212 [v0, v1, v2, some (zi (x + 1))] (st) M := eb_E_s hk251 rfl
theorem e251_212  : eb_E L d 251 212 ls (st) M = eb_E L d 251 186 ls (st) M := eb_E_s hk251 rfl
theorem e251_215 {x : Int32} : eb_E L d 251 215 [v0, v1, some (zi x), v3] (st) M = eb_E L d 251 216 [v0, v1, some (zi x), v3] (zi x :: st) M := eb_E_s hk251 rfl
theorem e251_216 {x : Int32} : eb_E L d 251 216 ls ([zi x]) M = some (zi x, M) := eb_E_r hk251 rfl
theorem e251_217 {x : Int32} : eb_E L d 251 217 [v0, some (zi x), v2, v3] (st) M = eb_E L d 251 218 [v0, some (zi x), v2, v3] (zi x :: st) M := eb_E_s hk251 rfl
theorem e251_218 {x : Int32} : eb_E L d 251 218 ls (zi x :: st) M = eb_E L d 251 219 ls (zl x.toInt64 :: st) M := eb_E_s hk251 rfl
theorem e251_219  : eb_E L d 251 219 ls (st) M = eb_E L d 251 222 ls (zl 12 :: st) M := eb_E_s hk251 rfl
theorem e251_222  : eb_E L d 251 222 ls (st) M = eb_E L d 251 225 ls (zl 16 :: st) M := eb_E_s hk251 rfl
theorem e251_225  : eb_E L d 251 225 ls ([a2, a1, a0]) M = (eb_ev L d 146 [a0, a1, a2] M).bind (fun q => eb_E L d 251 228 ls [q.1] q.2) := eb_E_c hk251 rfl
theorem e251_228 {x : Int32} : eb_E L d 251 228 ls (zi x :: st) M = if x = 0 then eb_E L d 251 243 ls st M else eb_E L d 251 231 ls st M := eb_E_b hk251 rfl
theorem e251_231 {x : Option eb_A} : eb_E L d 251 231 [some (Sum.inr x), v1, v2, v3] (st) M = eb_E L d 251 232 [some (Sum.inr x), v1, v2, v3] (Sum.inr x :: st) M := eb_E_s hk251 rfl
theorem e251_232  : eb_E L d 251 232 ls (Sum.inr (some a) :: st) (nc, ns, I, J, R) = if (eb_ty L a.1).1 = 6 then eb_E L d 251 235 ls (Sum.inr (R a 8) :: st) (nc, ns, I, J, R) else none := eb_E_iy hk251 rfl
theorem e251_235 {x : Int32} : eb_E L d 251 235 [v0, some (zi x), v2, v3] (st) M = eb_E L d 251 236 [v0, some (zi x), v2, v3] (zi x :: st) M := eb_E_s hk251 rfl
theorem e251_236  : eb_E L d 251 236 ls (st) M = eb_E L d 251 238 ls (zi 10 :: st) M := eb_E_s hk251 rfl
theorem e251_238 {x : Int32} {y : Int32} : eb_E L d 251 238 ls (zi y :: zi x :: st) M = eb_E L d 251 239 ls (zi (x - y) :: st) M := eb_E_s hk251 rfl
theorem e251_239 {x : Int32} : eb_E L d 251 239 ls (zi x :: Sum.inr (some a) :: st) (nc, ns, I, J, R) = if (eb_ty L a.1).1 = 10 ∧ eb_in x (eb_ty L a.1).2 = true then eb_E L d 251 240 ls (zi (I a x.toNatClampNeg) :: st) (nc, ns, I, J, R) else none := eb_E_iy hk251 rfl
theorem e251_240  : eb_E L d 251 240 ls (st) M = eb_E L d 251 244 ls (st) M := eb_E_s hk251 rfl
theorem e251_243  : eb_E L d 251 243 ls (st) M = eb_E L d 251 244 ls (zi (-1) :: st) M := eb_E_s hk251 rfl
theorem e251_244 {x : Int32} : eb_E L d 251 244 ls ([zi x]) M = some (zi x, M) := eb_E_r hk251 rfl
end

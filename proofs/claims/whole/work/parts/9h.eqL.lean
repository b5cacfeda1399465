/-! the law: its equations -/
set_option maxRecDepth 40000
section
variable {L d : Nat} {v0 v1 v2 v3 v4 v5 v6 v7 v8 v9 v10 : Option eb_V} {a0 a1 a2 a3 a4 a5 : eb_V} {ls : List (Option eb_V)} {st : List eb_V} {M : eb_M} {nc ns : Nat} {I : eb_A → Nat → Int32} {J : eb_A → Nat → Int64} {R : eb_A → Nat → Option eb_A} {a b : eb_A}

/-! L_law -/
theorem hk253 : eb_cd L 253 = eb_look (kt253 L) := rfl
theorem h253 {r0 : Option eb_A} : eb_ev L (d + 1) 253 [Sum.inr r0] M = eb_E L d 253 0 [some (Sum.inr r0), none, none, none] [] M := eb_ev_s rfl rfl
theorem e253_0  : eb_E L d 253 0 ls (st) (nc, ns, I, J, R) = if (eb_ty L (eb_nm nc).1).1 = 5 then eb_E L d 253 3 ls (zr (eb_nm nc) :: st) (nc + 1, ns + 7, eb_zI I (eb_nm nc), J, eb_zR R (eb_nm nc) 7) else none := eb_E_iy hk253 rfl
theorem e253_3a {x : Int32} : eb_E L d 253 3 ls (zi x :: st) M = eb_E L d 253 4 ls (zi x :: zi x :: st) M := eb_E_s hk253 rfl
theorem e253_3b {x : Option eb_A} : eb_E L d 253 3 ls (Sum.inr x :: st) M = eb_E L d 253 4 ls (Sum.inr x :: Sum.inr x :: st) M := eb_E_s hk253 rfl
theorem e253_4 {s0 : Option eb_A} : eb_E L d 253 4 ls ([a0, Sum.inr s0]) M = (eb_ev L d 67 [a0] M).bind (fun q => eb_E L d 253 7 ls [Sum.inr s0] q.2) := eb_E_c hk253 rfl
theorem e253_7 {x : Option eb_A} : eb_E L d 253 7 [v0, v1, v2, v3] (Sum.inr x :: st) M = eb_E L d 253 8 [v0, some (Sum.inr x), v2, v3] (st) M := eb_E_s hk253 rfl
theorem e253_8  : eb_E L d 253 8 ls (st) (nc, ns, I, J, R) = if (eb_ty L (eb_nm nc).1).1 = 6 then eb_E L d 253 11 ls (zr (eb_nm nc) :: st) (nc + 1, ns + 34, eb_zI I (eb_nm nc), J, eb_zR R (eb_nm nc) 34) else none := eb_E_iy hk253 rfl
theorem e253_11a {x : Int32} : eb_E L d 253 11 ls (zi x :: st) M = eb_E L d 253 12 ls (zi x :: zi x :: st) M := eb_E_s hk253 rfl
theorem e253_11b {x : Option eb_A} : eb_E L d 253 11 ls (Sum.inr x :: st) M = eb_E L d 253 12 ls (Sum.inr x :: Sum.inr x :: st) M := eb_E_s hk253 rfl
theorem e253_12 {s0 : Option eb_A} : eb_E L d 253 12 ls ([a0, Sum.inr s0]) M = (eb_ev L d 144 [a0] M).bind (fun q => eb_E L d 253 15 ls [Sum.inr s0] q.2) := eb_E_c hk253 rfl
theorem e253_15 {x : Option eb_A} : eb_E L d 253 15 [v0, v1, v2, v3] (Sum.inr x :: st) M = eb_E L d 253 16 [v0, v1, some (Sum.inr x), v3] (st) M := eb_E_s hk253 rfl
theorem e253_16  : eb_E L d 253 16 ls (st) M = eb_E L d 253 17 ls (zi 0 :: st) M := eb_E_s hk253 rfl
theorem e253_17 {x : Int32} : eb_E L d 253 17 [v0, v1, v2, v3] (zi x :: st) M = eb_E L d 253 18 [v0, v1, v2, some (zi x)] (st) M := eb_E_s hk253 rfl
theorem e253_18 {x : Int32} : eb_E L d 253 18 [v0, v1, v2, some (zi x)] (st) M = eb_E L d 253 19 [v0, v1, v2, some (zi x)] (zi x :: st) M := eb_E_s hk253 rfl
theorem e253_19 {x : Option eb_A} : eb_E L d 253 19 [some (Sum.inr x), v1, v2, v3] (st) M = eb_E L d 253 20 [some (Sum.inr x), v1, v2, v3] (Sum.inr x :: st) M := eb_E_s hk253 rfl
theorem e253_20  : eb_E L d 253 20 ls (Sum.inr (some a) :: st) (nc, ns, I, J, R) = if (eb_ty L a.1).1 = 17 then eb_E L d 253 21 ls (zi (nI (eb_ty L a.1).2) :: st) (nc, ns, I, J, R) else none := eb_E_iy hk253 rfl
theorem e253_21  : eb_E L d 253 21 ls (st) M = eb_E L d 253 23 ls (zi 6 :: st) M := eb_E_s hk253 rfl
theorem e253_23 {x : Int32} {y : Int32} : eb_E L d 253 23 ls (zi y :: zi x :: st) M = eb_E L d 253 24 ls (zi (x - y) :: st) M := eb_E_s hk253 rfl
theorem e253_24 {x : Int32} {y : Int32} : eb_E L d 253 24 ls (zi y :: zi x :: st) M = if y < x then eb_E L d 253 1954 ls st M else eb_E L d 253 27 ls st M := eb_E_b hk253 rfl
theorem e253_27 {x : Option eb_A} : eb_E L d 253 27 [some (Sum.inr x), v1, v2, v3] (st) M = eb_E L d 253 28 [some (Sum.inr x), v1, v2, v3] (Sum.inr x :: st) M := eb_E_s hk253 rfl
theorem e253_28 {x : Int32} : eb_E L d 253 28 [v0, v1, v2, some (zi x)] (st) M = eb_E L d 253 29 [v0, v1, v2, some (zi x)] (zi x :: st) M := eb_E_s hk253 rfl
theorem e253_29 {x : Int32} : eb_E L d 253 29 ls (zi x :: Sum.inr (some a) :: st) (nc, ns, I, J, R) = if (eb_ty L a.1).1 = 17 ∧ eb_in x (eb_ty L a.1).2 = true then eb_E L d 253 30 ls (zi (I a x.toNatClampNeg) :: st) (nc, ns, I, J, R) else none := eb_E_iy hk253 rfl
theorem e253_30  : eb_E L d 253 30 ls (st) M = eb_E L d 253 32 ls (zi 63 :: st) M := eb_E_s hk253 rfl
theorem e253_32 {x : Int32} {y : Int32} : eb_E L d 253 32 ls (zi y :: zi x :: st) M = eb_E L d 253 33 ls (zi (x &&& y) :: st) M := eb_E_s hk253 rfl
theorem e253_33 {x : Int32} : eb_E L d 253 33 ls (zi x :: st) M = eb_sw x (fun t => eb_E L d 253 t ls st M) 1948 [(0, 276), (1, 319), (2, 392), (3, 455), (4, 489), (5, 512), (6, 545), (7, 578), (8, 621), (9, 664), (10, 707), (11, 740), (12, 763), (13, 796), (14, 819), (15, 852), (16, 875), (17, 888), (18, 901), (19, 934), (20, 967), (21, 1000), (22, 1033), (23, 1056), (24, 1079), (25, 1092), (26, 1115), (27, 1138), (28, 1161), (29, 1184), (30, 1197), (31, 1210), (32, 1233), (33, 1256), (34, 1279), (35, 1302), (36, 1345), (37, 1378), (38, 1401), (39, 1434), (40, 1477), (41, 1510), (42, 1543), (43, 1566), (44, 1599), (45, 1632), (46, 1675), (47, 1708), (48, 1761), (49, 1784), (50, 1817), (51, 1830), (52, 1853), (53, 1876), (54, 1899), (55, 1912), (56, 1925)] := eb_E_w hk253 rfl
theorem e253_276 {x : Option eb_A} : eb_E L d 253 276 [v0, some (Sum.inr x), v2, v3] (st) M = eb_E L d 253 277 [v0, some (Sum.inr x), v2, v3] (Sum.inr x :: st) M := eb_E_s hk253 rfl
theorem e253_277 {x : Option eb_A} : eb_E L d 253 277 [some (Sum.inr x), v1, v2, v3] (st) M = eb_E L d 253 278 [some (Sum.inr x), v1, v2, v3] (Sum.inr x :: st) M := eb_E_s hk253 rfl
theorem e253_278 {x : Int32} : eb_E L d 253 278 [v0, v1, v2, some (zi x)] (st) M = eb_E L d 253 279 [v0, v1, v2, some (zi x)] (zi x :: st) M := eb_E_s hk253 rfl
theorem e253_279  : eb_E L d 253 279 ls (st) M = eb_E L d 253 280 ls (zi 1 :: st) M := eb_E_s hk253 rfl
theorem e253_280 {x : Int32} {y : Int32} : eb_E L d 253 280 ls (zi y :: zi x :: st) M = eb_E L d 253 281 ls (zi (x + y) :: st) M := eb_E_s hk253 rfl
theorem e253_281 {x : Int32} : eb_E L d 253 281 ls (zi x :: Sum.inr (some a) :: st) (nc, ns, I, J, R) = if (eb_ty L a.1).1 = 17 ∧ eb_in x (eb_ty L a.1).2 = true then eb_E L d 253 282 ls (zi (I a x.toNatClampNeg) :: st) (nc, ns, I, J, R) else none := eb_E_iy hk253 rfl
theorem e253_282 {x : Option eb_A} : eb_E L d 253 282 [some (Sum.inr x), v1, v2, v3] (st) M = eb_E L d 253 283 [some (Sum.inr x), v1, v2, v3] (Sum.inr x :: st) M := eb_E_s hk253 rfl
theorem e253_283 {x : Int32} : eb_E L d 253 283 [v0, v1, v2, some (zi x)] (st) M = eb_E L d 253 284 [v0, v1, v2, some (zi x)] (zi x :: st) M := eb_E_s hk253 rfl
theorem e253_284  : eb_E L d 253 284 ls (st) M = eb_E L d 253 285 ls (zi 2 :: st) M := eb_E_s hk253 rfl
theorem e253_285 {x : Int32} {y : Int32} : eb_E L d 253 285 ls (zi y :: zi x :: st) M = eb_E L d 253 286 ls (zi (x + y) :: st) M := eb_E_s hk253 rfl
theorem e253_286 {x : Int32} : eb_E L d 253 286 ls (zi x :: Sum.inr (some a) :: st) (nc, ns, I, J, R) = if (eb_ty L a.1).1 = 17 ∧ eb_in x (eb_ty L a.1).2 = true then eb_E L d 253 287 ls (zi (I a x.toNatClampNeg) :: st) (nc, ns, I, J, R) else none := eb_E_iy hk253 rfl
theorem e253_287 {x : Option eb_A} : eb_E L d 253 287 [some (Sum.inr x), v1, v2, v3] (st) M = eb_E L d 253 288 [some (Sum.inr x), v1, v2, v3] (Sum.inr x :: st) M := eb_E_s hk253 rfl
theorem e253_288 {x : Int32} : eb_E L d 253 288 [v0, v1, v2, some (zi x)] (st) M = eb_E L d 253 289 [v0, v1, v2, some (zi x)] (zi x :: st) M := eb_E_s hk253 rfl
theorem e253_289  : eb_E L d 253 289 ls (st) M = eb_E L d 253 290 ls (zi 3 :: st) M := eb_E_s hk253 rfl
theorem e253_290 {x : Int32} {y : Int32} : eb_E L d 253 290 ls (zi y :: zi x :: st) M = eb_E L d 253 291 ls (zi (x + y) :: st) M := eb_E_s hk253 rfl
theorem e253_291 {x : Int32} : eb_E L d 253 291 ls (zi x :: Sum.inr (some a) :: st) (nc, ns, I, J, R) = if (eb_ty L a.1).1 = 17 ∧ eb_in x (eb_ty L a.1).2 = true then eb_E L d 253 292 ls (zi (I a x.toNatClampNeg) :: st) (nc, ns, I, J, R) else none := eb_E_iy hk253 rfl
theorem e253_292  : eb_E L d 253 292 ls ([a3, a2, a1, a0]) M = (eb_ev L d 68 [a0, a1, a2, a3] M).bind (fun q => eb_E L d 253 295 ls [q.1] q.2) := eb_E_c hk253 rfl
theorem e253_295 {x : Option eb_A} : eb_E L d 253 295 [v0, v1, some (Sum.inr x), v3] (st) M = eb_E L d 253 296 [v0, v1, some (Sum.inr x), v3] (Sum.inr x :: st) M := eb_E_s hk253 rfl
theorem e253_296 {x : Option eb_A} : eb_E L d 253 296 [some (Sum.inr x), v1, v2, v3] (st) M = eb_E L d 253 297 [some (Sum.inr x), v1, v2, v3] (Sum.inr x :: st) M := eb_E_s hk253 rfl
theorem e253_297 {x : Int32} : eb_E L d 253 297 [v0, v1, v2, some (zi x)] (st) M = eb_E L d 253 298 [v0, v1, v2, some (zi x)] (zi x :: st) M := eb_E_s hk253 rfl
theorem e253_298  : eb_E L d 253 298 ls (st) M = eb_E L d 253 299 ls (zi 1 :: st) M := eb_E_s hk253 rfl
theorem e253_299 {x : Int32} {y : Int32} : eb_E L d 253 299 ls (zi y :: zi x :: st) M = eb_E L d 253 300 ls (zi (x + y) :: st) M := eb_E_s hk253 rfl
theorem e253_300 {x : Int32} : eb_E L d 253 300 ls (zi x :: Sum.inr (some a) :: st) (nc, ns, I, J, R) = if (eb_ty L a.1).1 = 17 ∧ eb_in x (eb_ty L a.1).2 = true then eb_E L d 253 301 ls (zi (I a x.toNatClampNeg) :: st) (nc, ns, I, J, R) else none := eb_E_iy hk253 rfl
theorem e253_301 {x : Option eb_A} : eb_E L d 253 301 [some (Sum.inr x), v1, v2, v3] (st) M = eb_E L d 253 302 [some (Sum.inr x), v1, v2, v3] (Sum.inr x :: st) M := eb_E_s hk253 rfl
theorem e253_302 {x : Int32} : eb_E L d 253 302 [v0, v1, v2, some (zi x)] (st) M = eb_E L d 253 303 [v0, v1, v2, some (zi x)] (zi x :: st) M := eb_E_s hk253 rfl
theorem e253_303  : eb_E L d 253 303 ls (st) M = eb_E L d 253 304 ls (zi 2 :: st) M := eb_E_s hk253 rfl
theorem e253_304 {x : Int32} {y : Int32} : eb_E L d 253 304 ls (zi y :: zi x :: st) M = eb_E L d 253 305 ls (zi (x + y) :: st) M := eb_E_s hk253 rfl
theorem e253_305 {x : Int32} : eb_E L d 253 305 ls (zi x :: Sum.inr (some a) :: st) (nc, ns, I, J, R) = if (eb_ty L a.1).1 = 17 ∧ eb_in x (eb_ty L a.1).2 = true then eb_E L d 253 306 ls (zi (I a x.toNatClampNeg) :: st) (nc, ns, I, J, R) else none := eb_E_iy hk253 rfl
theorem e253_306 {x : Option eb_A} : eb_E L d 253 306 [some (Sum.inr x), v1, v2, v3] (st) M = eb_E L d 253 307 [some (Sum.inr x), v1, v2, v3] (Sum.inr x :: st) M := eb_E_s hk253 rfl
theorem e253_307 {x : Int32} : eb_E L d 253 307 [v0, v1, v2, some (zi x)] (st) M = eb_E L d 253 308 [v0, v1, v2, some (zi x)] (zi x :: st) M := eb_E_s hk253 rfl
theorem e253_308  : eb_E L d 253 308 ls (st) M = eb_E L d 253 309 ls (zi 3 :: st) M := eb_E_s hk253 rfl
theorem e253_309 {x : Int32} {y : Int32} : eb_E L d 253 309 ls (zi y :: zi x :: st) M = eb_E L d 253 310 ls (zi (x + y) :: st) M := eb_E_s hk253 rfl
theorem e253_310 {x : Int32} : eb_E L d 253 310 ls (zi x :: Sum.inr (some a) :: st) (nc, ns, I, J, R) = if (eb_ty L a.1).1 = 17 ∧ eb_in x (eb_ty L a.1).2 = true then eb_E L d 253 311 ls (zi (I a x.toNatClampNeg) :: st) (nc, ns, I, J, R) else none := eb_E_iy hk253 rfl
theorem e253_311 {s0 : Int32} : eb_E L d 253 311 ls ([a3, a2, a1, a0, zi s0]) M = (eb_ev L d 151 [a0, a1, a2, a3] M).bind (fun q => eb_E L d 253 314 ls [q.1, zi s0] q.2) := eb_E_c hk253 rfl
theorem e253_314 {x : Int32} {y : Int32} : eb_E L d 253 314 ls (zi y :: zi x :: st) M = if x = y then eb_E L d 253 1948 ls st M else eb_E L d 253 317 ls st M := eb_E_b hk253 rfl
theorem e253_317  : eb_E L d 253 317 ls (st) M = eb_E L d 253 318 ls (zi 0 :: st) M := eb_E_s hk253 rfl
theorem e253_318 {x : Int32} : eb_E L d 253 318 ls ([zi x]) M = if x = 0 ∨ x = 1 then some (zi x, M) else none := eb_E_ri hk253 rfl
theorem e253_319 {x : Option eb_A} : eb_E L d 253 319 [v0, some (Sum.inr x), v2, v3] (st) M = eb_E L d 253 320 [v0, some (Sum.inr x), v2, v3] (Sum.inr x :: st) M := eb_E_s hk253 rfl
theorem e253_320 {x : Option eb_A} : eb_E L d 253 320 [some (Sum.inr x), v1, v2, v3] (st) M = eb_E L d 253 321 [some (Sum.inr x), v1, v2, v3] (Sum.inr x :: st) M := eb_E_s hk253 rfl
theorem e253_321 {x : Int32} : eb_E L d 253 321 [v0, v1, v2, some (zi x)] (st) M = eb_E L d 253 322 [v0, v1, v2, some (zi x)] (zi x :: st) M := eb_E_s hk253 rfl
theorem e253_322  : eb_E L d 253 322 ls (st) M = eb_E L d 253 323 ls (zi 1 :: st) M := eb_E_s hk253 rfl
theorem e253_323 {x : Int32} {y : Int32} : eb_E L d 253 323 ls (zi y :: zi x :: st) M = eb_E L d 253 324 ls (zi (x + y) :: st) M := eb_E_s hk253 rfl
theorem e253_324 {x : Int32} : eb_E L d 253 324 ls (zi x :: Sum.inr (some a) :: st) (nc, ns, I, J, R) = if (eb_ty L a.1).1 = 17 ∧ eb_in x (eb_ty L a.1).2 = true then eb_E L d 253 325 ls (zi (I a x.toNatClampNeg) :: st) (nc, ns, I, J, R) else none := eb_E_iy hk253 rfl
theorem e253_325 {x : Option eb_A} : eb_E L d 253 325 [some (Sum.inr x), v1, v2, v3] (st) M = eb_E L d 253 326 [some (Sum.inr x), v1, v2, v3] (Sum.inr x :: st) M := eb_E_s hk253 rfl
theorem e253_326 {x : Int32} : eb_E L d 253 326 [v0, v1, v2, some (zi x)] (st) M = eb_E L d 253 327 [v0, v1, v2, some (zi x)] (zi x :: st) M := eb_E_s hk253 rfl
theorem e253_327  : eb_E L d 253 327 ls (st) M = eb_E L d 253 328 ls (zi 2 :: st) M := eb_E_s hk253 rfl
theorem e253_328 {x : Int32} {y : Int32} : eb_E L d 253 328 ls (zi y :: zi x :: st) M = eb_E L d 253 329 ls (zi (x + y) :: st) M := eb_E_s hk253 rfl
theorem e253_329 {x : Int32} : eb_E L d 253 329 ls (zi x :: Sum.inr (some a) :: st) (nc, ns, I, J, R) = if (eb_ty L a.1).1 = 17 ∧ eb_in x (eb_ty L a.1).2 = true then eb_E L d 253 330 ls (zi (I a x.toNatClampNeg) :: st) (nc, ns, I, J, R) else none := eb_E_iy hk253 rfl
theorem e253_330 {x : Option eb_A} : eb_E L d 253 330 [some (Sum.inr x), v1, v2, v3] (st) M = eb_E L d 253 331 [some (Sum.inr x), v1, v2, v3] (Sum.inr x :: st) M := eb_E_s hk253 rfl
theorem e253_331 {x : Int32} : eb_E L d 253 331 [v0, v1, v2, some (zi x)] (st) M = eb_E L d 253 332 [v0, v1, v2, some (zi x)] (zi x :: st) M := eb_E_s hk253 rfl
theorem e253_332  : eb_E L d 253 332 ls (st) M = eb_E L d 253 333 ls (zi 3 :: st) M := eb_E_s hk253 rfl
theorem e253_333 {x : Int32} {y : Int32} : eb_E L d 253 333 ls (zi y :: zi x :: st) M = eb_E L d 253 334 ls (zi (x + y) :: st) M := eb_E_s hk253 rfl
theorem e253_334 {x : Int32} : eb_E L d 253 334 ls (zi x :: Sum.inr (some a) :: st) (nc, ns, I, J, R) = if (eb_ty L a.1).1 = 17 ∧ eb_in x (eb_ty L a.1).2 = true then eb_E L d 253 335 ls (zi (I a x.toNatClampNeg) :: st) (nc, ns, I, J, R) else none := eb_E_iy hk253 rfl
theorem e253_335 {x : Int32} : eb_E L d 253 335 ls (zi x :: st) M = eb_E L d 253 336 ls (zl x.toInt64 :: st) M := eb_E_s hk253 rfl
theorem e253_336  : eb_E L d 253 336 ls (st) M = eb_E L d 253 338 ls (zi 32 :: st) M := eb_E_s hk253 rfl
theorem e253_338 {x : Int64} {y : Int32} : eb_E L d 253 338 ls (zi y :: zl x :: st) M = eb_E L d 253 339 ls (zl (x <<< (y.toInt64 &&& 63)) :: st) M := eb_E_s hk253 rfl
theorem e253_339 {x : Option eb_A} : eb_E L d 253 339 [some (Sum.inr x), v1, v2, v3] (st) M = eb_E L d 253 340 [some (Sum.inr x), v1, v2, v3] (Sum.inr x :: st) M := eb_E_s hk253 rfl
theorem e253_340 {x : Int32} : eb_E L d 253 340 [v0, v1, v2, some (zi x)] (st) M = eb_E L d 253 341 [v0, v1, v2, some (zi x)] (zi x :: st) M := eb_E_s hk253 rfl
theorem e253_341  : eb_E L d 253 341 ls (st) M = eb_E L d 253 342 ls (zi 4 :: st) M := eb_E_s hk253 rfl
theorem e253_342 {x : Int32} {y : Int32} : eb_E L d 253 342 ls (zi y :: zi x :: st) M = eb_E L d 253 343 ls (zi (x + y) :: st) M := eb_E_s hk253 rfl
theorem e253_343 {x : Int32} : eb_E L d 253 343 ls (zi x :: Sum.inr (some a) :: st) (nc, ns, I, J, R) = if (eb_ty L a.1).1 = 17 ∧ eb_in x (eb_ty L a.1).2 = true then eb_E L d 253 344 ls (zi (I a x.toNatClampNeg) :: st) (nc, ns, I, J, R) else none := eb_E_iy hk253 rfl
theorem e253_344 {x : Int32} : eb_E L d 253 344 ls (zi x :: st) M = eb_E L d 253 345 ls (zl x.toInt64 :: st) M := eb_E_s hk253 rfl
theorem e253_345  : eb_E L d 253 345 ls (st) M = eb_E L d 253 348 ls (zl 4294967295 :: st) M := eb_E_s hk253 rfl
theorem e253_348 {x : Int64} {y : Int64} : eb_E L d 253 348 ls (zl y :: zl x :: st) M = eb_E L d 253 349 ls (zl (x &&& y) :: st) M := eb_E_s hk253 rfl
theorem e253_349 {x : Int64} {y : Int64} : eb_E L d 253 349 ls (zl y :: zl x :: st) M = eb_E L d 253 350 ls (zl (x ||| y) :: st) M := eb_E_s hk253 rfl
theorem e253_350  : eb_E L d 253 350 ls ([a3, a2, a1, a0]) M = (eb_ev L d 69 [a0, a1, a2, a3] M).bind (fun q => eb_E L d 253 353 ls [q.1] q.2) := eb_E_c hk253 rfl
theorem e253_353 {x : Option eb_A} : eb_E L d 253 353 [v0, v1, some (Sum.inr x), v3] (st) M = eb_E L d 253 354 [v0, v1, some (Sum.inr x), v3] (Sum.inr x :: st) M := eb_E_s hk253 rfl
theorem e253_354 {x : Option eb_A} : eb_E L d 253 354 [some (Sum.inr x), v1, v2, v3] (st) M = eb_E L d 253 355 [some (Sum.inr x), v1, v2, v3] (Sum.inr x :: st) M := eb_E_s hk253 rfl
theorem e253_355 {x : Int32} : eb_E L d 253 355 [v0, v1, v2, some (zi x)] (st) M = eb_E L d 253 356 [v0, v1, v2, some (zi x)] (zi x :: st) M := eb_E_s hk253 rfl
theorem e253_356  : eb_E L d 253 356 ls (st) M = eb_E L d 253 357 ls (zi 1 :: st) M := eb_E_s hk253 rfl
theorem e253_357 {x : Int32} {y : Int32} : eb_E L d 253 357 ls (zi y :: zi x :: st) M = eb_E L d 253 358 ls (zi (x + y) :: st) M := eb_E_s hk253 rfl
theorem e253_358 {x : Int32} : eb_E L d 253 358 ls (zi x :: Sum.inr (some a) :: st) (nc, ns, I, J, R) = if (eb_ty L a.1).1 = 17 ∧ eb_in x (eb_ty L a.1).2 = true then eb_E L d 253 359 ls (zi (I a x.toNatClampNeg) :: st) (nc, ns, I, J, R) else none := eb_E_iy hk253 rfl
theorem e253_359 {x : Option eb_A} : eb_E L d 253 359 [some (Sum.inr x), v1, v2, v3] (st) M = eb_E L d 253 360 [some (Sum.inr x), v1, v2, v3] (Sum.inr x :: st) M := eb_E_s hk253 rfl
theorem e253_360 {x : Int32} : eb_E L d 253 360 [v0, v1, v2, some (zi x)] (st) M = eb_E L d 253 361 [v0, v1, v2, some (zi x)] (zi x :: st) M := eb_E_s hk253 rfl
theorem e253_361  : eb_E L d 253 361 ls (st) M = eb_E L d 253 362 ls (zi 2 :: st) M := eb_E_s hk253 rfl
theorem e253_362 {x : Int32} {y : Int32} : eb_E L d 253 362 ls (zi y :: zi x :: st) M = eb_E L d 253 363 ls (zi (x + y) :: st) M := eb_E_s hk253 rfl
theorem e253_363 {x : Int32} : eb_E L d 253 363 ls (zi x :: Sum.inr (some a) :: st) (nc, ns, I, J, R) = if (eb_ty L a.1).1 = 17 ∧ eb_in x (eb_ty L a.1).2 = true then eb_E L d 253 364 ls (zi (I a x.toNatClampNeg) :: st) (nc, ns, I, J, R) else none := eb_E_iy hk253 rfl
theorem e253_364 {x : Option eb_A} : eb_E L d 253 364 [some (Sum.inr x), v1, v2, v3] (st) M = eb_E L d 253 365 [some (Sum.inr x), v1, v2, v3] (Sum.inr x :: st) M := eb_E_s hk253 rfl
theorem e253_365 {x : Int32} : eb_E L d 253 365 [v0, v1, v2, some (zi x)] (st) M = eb_E L d 253 366 [v0, v1, v2, some (zi x)] (zi x :: st) M := eb_E_s hk253 rfl
theorem e253_366  : eb_E L d 253 366 ls (st) M = eb_E L d 253 367 ls (zi 3 :: st) M := eb_E_s hk253 rfl
theorem e253_367 {x : Int32} {y : Int32} : eb_E L d 253 367 ls (zi y :: zi x :: st) M = eb_E L d 253 368 ls (zi (x + y) :: st) M := eb_E_s hk253 rfl
theorem e253_368 {x : Int32} : eb_E L d 253 368 ls (zi x :: Sum.inr (some a) :: st) (nc, ns, I, J, R) = if (eb_ty L a.1).1 = 17 ∧ eb_in x (eb_ty L a.1).2 = true then eb_E L d 253 369 ls (zi (I a x.toNatClampNeg) :: st) (nc, ns, I, J, R) else none := eb_E_iy hk253 rfl
theorem e253_369 {x : Int32} : eb_E L d 253 369 ls (zi x :: st) M = eb_E L d 253 370 ls (zl x.toInt64 :: st) M := eb_E_s hk253 rfl
theorem e253_370  : eb_E L d 253 370 ls (st) M = eb_E L d 253 372 ls (zi 32 :: st) M := eb_E_s hk253 rfl
theorem e253_372 {x : Int64} {y : Int32} : eb_E L d 253 372 ls (zi y :: zl x :: st) M = eb_E L d 253 373 ls (zl (x <<< (y.toInt64 &&& 63)) :: st) M := eb_E_s hk253 rfl
theorem e253_373 {x : Option eb_A} : eb_E L d 253 373 [some (Sum.inr x), v1, v2, v3] (st) M = eb_E L d 253 374 [some (Sum.inr x), v1, v2, v3] (Sum.inr x :: st) M := eb_E_s hk253 rfl
theorem e253_374 {x : Int32} : eb_E L d 253 374 [v0, v1, v2, some (zi x)] (st) M = eb_E L d 253 375 [v0, v1, v2, some (zi x)] (zi x :: st) M := eb_E_s hk253 rfl
theorem e253_375  : eb_E L d 253 375 ls (st) M = eb_E L d 253 376 ls (zi 4 :: st) M := eb_E_s hk253 rfl
theorem e253_376 {x : Int32} {y : Int32} : eb_E L d 253 376 ls (zi y :: zi x :: st) M = eb_E L d 253 377 ls (zi (x + y) :: st) M := eb_E_s hk253 rfl
theorem e253_377 {x : Int32} : eb_E L d 253 377 ls (zi x :: Sum.inr (some a) :: st) (nc, ns, I, J, R) = if (eb_ty L a.1).1 = 17 ∧ eb_in x (eb_ty L a.1).2 = true then eb_E L d 253 378 ls (zi (I a x.toNatClampNeg) :: st) (nc, ns, I, J, R) else none := eb_E_iy hk253 rfl
theorem e253_378 {x : Int32} : eb_E L d 253 378 ls (zi x :: st) M = eb_E L d 253 379 ls (zl x.toInt64 :: st) M := eb_E_s hk253 rfl
theorem e253_379  : eb_E L d 253 379 ls (st) M = eb_E L d 253 382 ls (zl 4294967295 :: st) M := eb_E_s hk253 rfl
theorem e253_382 {x : Int64} {y : Int64} : eb_E L d 253 382 ls (zl y :: zl x :: st) M = eb_E L d 253 383 ls (zl (x &&& y) :: st) M := eb_E_s hk253 rfl
theorem e253_383 {x : Int64} {y : Int64} : eb_E L d 253 383 ls (zl y :: zl x :: st) M = eb_E L d 253 384 ls (zl (x ||| y) :: st) M := eb_E_s hk253 rfl
theorem e253_384 {s0 : Int32} : eb_E L d 253 384 ls ([a3, a2, a1, a0, zi s0]) M = (eb_ev L d 154 [a0, a1, a2, a3] M).bind (fun q => eb_E L d 253 387 ls [q.1, zi s0] q.2) := eb_E_c hk253 rfl
theorem e253_387 {x : Int32} {y : Int32} : eb_E L d 253 387 ls (zi y :: zi x :: st) M = if x = y then eb_E L d 253 1948 ls st M else eb_E L d 253 390 ls st M := eb_E_b hk253 rfl
theorem e253_390  : eb_E L d 253 390 ls (st) M = eb_E L d 253 391 ls (zi 0 :: st) M := eb_E_s hk253 rfl
theorem e253_391 {x : Int32} : eb_E L d 253 391 ls ([zi x]) M = if x = 0 ∨ x = 1 then some (zi x, M) else none := eb_E_ri hk253 rfl
theorem e253_392 {x : Option eb_A} : eb_E L d 253 392 [v0, some (Sum.inr x), v2, v3] (st) M = eb_E L d 253 393 [v0, some (Sum.inr x), v2, v3] (Sum.inr x :: st) M := eb_E_s hk253 rfl
theorem e253_393 {x : Option eb_A} : eb_E L d 253 393 [some (Sum.inr x), v1, v2, v3] (st) M = eb_E L d 253 394 [some (Sum.inr x), v1, v2, v3] (Sum.inr x :: st) M := eb_E_s hk253 rfl
theorem e253_394 {x : Int32} : eb_E L d 253 394 [v0, v1, v2, some (zi x)] (st) M = eb_E L d 253 395 [v0, v1, v2, some (zi x)] (zi x :: st) M := eb_E_s hk253 rfl
theorem e253_395  : eb_E L d 253 395 ls (st) M = eb_E L d 253 396 ls (zi 1 :: st) M := eb_E_s hk253 rfl
theorem e253_396 {x : Int32} {y : Int32} : eb_E L d 253 396 ls (zi y :: zi x :: st) M = eb_E L d 253 397 ls (zi (x + y) :: st) M := eb_E_s hk253 rfl
theorem e253_397 {x : Int32} : eb_E L d 253 397 ls (zi x :: Sum.inr (some a) :: st) (nc, ns, I, J, R) = if (eb_ty L a.1).1 = 17 ∧ eb_in x (eb_ty L a.1).2 = true then eb_E L d 253 398 ls (zi (I a x.toNatClampNeg) :: st) (nc, ns, I, J, R) else none := eb_E_iy hk253 rfl
theorem e253_398 {x : Option eb_A} : eb_E L d 253 398 [some (Sum.inr x), v1, v2, v3] (st) M = eb_E L d 253 399 [some (Sum.inr x), v1, v2, v3] (Sum.inr x :: st) M := eb_E_s hk253 rfl
theorem e253_399 {x : Int32} : eb_E L d 253 399 [v0, v1, v2, some (zi x)] (st) M = eb_E L d 253 400 [v0, v1, v2, some (zi x)] (zi x :: st) M := eb_E_s hk253 rfl
theorem e253_400  : eb_E L d 253 400 ls (st) M = eb_E L d 253 401 ls (zi 2 :: st) M := eb_E_s hk253 rfl
theorem e253_401 {x : Int32} {y : Int32} : eb_E L d 253 401 ls (zi y :: zi x :: st) M = eb_E L d 253 402 ls (zi (x + y) :: st) M := eb_E_s hk253 rfl
theorem e253_402 {x : Int32} : eb_E L d 253 402 ls (zi x :: Sum.inr (some a) :: st) (nc, ns, I, J, R) = if (eb_ty L a.1).1 = 17 ∧ eb_in x (eb_ty L a.1).2 = true then eb_E L d 253 403 ls (zi (I a x.toNatClampNeg) :: st) (nc, ns, I, J, R) else none := eb_E_iy hk253 rfl
theorem e253_403 {x : Option eb_A} : eb_E L d 253 403 [some (Sum.inr x), v1, v2, v3] (st) M = eb_E L d 253 404 [some (Sum.inr x), v1, v2, v3] (Sum.inr x :: st) M := eb_E_s hk253 rfl
theorem e253_404 {x : Int32} : eb_E L d 253 404 [v0, v1, v2, some (zi x)] (st) M = eb_E L d 253 405 [v0, v1, v2, some (zi x)] (zi x :: st) M := eb_E_s hk253 rfl
theorem e253_405  : eb_E L d 253 405 ls (st) M = eb_E L d 253 406 ls (zi 3 :: st) M := eb_E_s hk253 rfl
theorem e253_406 {x : Int32} {y : Int32} : eb_E L d 253 406 ls (zi y :: zi x :: st) M = eb_E L d 253 407 ls (zi (x + y) :: st) M := eb_E_s hk253 rfl
theorem e253_407 {x : Int32} : eb_E L d 253 407 ls (zi x :: Sum.inr (some a) :: st) (nc, ns, I, J, R) = if (eb_ty L a.1).1 = 17 ∧ eb_in x (eb_ty L a.1).2 = true then eb_E L d 253 408 ls (zi (I a x.toNatClampNeg) :: st) (nc, ns, I, J, R) else none := eb_E_iy hk253 rfl
theorem e253_408 {x : Option eb_A} : eb_E L d 253 408 [some (Sum.inr x), v1, v2, v3] (st) M = eb_E L d 253 409 [some (Sum.inr x), v1, v2, v3] (Sum.inr x :: st) M := eb_E_s hk253 rfl
theorem e253_409 {x : Int32} : eb_E L d 253 409 [v0, v1, v2, some (zi x)] (st) M = eb_E L d 253 410 [v0, v1, v2, some (zi x)] (zi x :: st) M := eb_E_s hk253 rfl
theorem e253_410  : eb_E L d 253 410 ls (st) M = eb_E L d 253 411 ls (zi 4 :: st) M := eb_E_s hk253 rfl
theorem e253_411 {x : Int32} {y : Int32} : eb_E L d 253 411 ls (zi y :: zi x :: st) M = eb_E L d 253 412 ls (zi (x + y) :: st) M := eb_E_s hk253 rfl
theorem e253_412 {x : Int32} : eb_E L d 253 412 ls (zi x :: Sum.inr (some a) :: st) (nc, ns, I, J, R) = if (eb_ty L a.1).1 = 17 ∧ eb_in x (eb_ty L a.1).2 = true then eb_E L d 253 413 ls (zi (I a x.toNatClampNeg) :: st) (nc, ns, I, J, R) else none := eb_E_iy hk253 rfl
theorem e253_413 {x : Option eb_A} : eb_E L d 253 413 [some (Sum.inr x), v1, v2, v3] (st) M = eb_E L d 253 414 [some (Sum.inr x), v1, v2, v3] (Sum.inr x :: st) M := eb_E_s hk253 rfl
theorem e253_414 {x : Int32} : eb_E L d 253 414 [v0, v1, v2, some (zi x)] (st) M = eb_E L d 253 415 [v0, v1, v2, some (zi x)] (zi x :: st) M := eb_E_s hk253 rfl
theorem e253_415  : eb_E L d 253 415 ls (st) M = eb_E L d 253 416 ls (zi 5 :: st) M := eb_E_s hk253 rfl
theorem e253_416 {x : Int32} {y : Int32} : eb_E L d 253 416 ls (zi y :: zi x :: st) M = eb_E L d 253 417 ls (zi (x + y) :: st) M := eb_E_s hk253 rfl
theorem e253_417 {x : Int32} : eb_E L d 253 417 ls (zi x :: Sum.inr (some a) :: st) (nc, ns, I, J, R) = if (eb_ty L a.1).1 = 17 ∧ eb_in x (eb_ty L a.1).2 = true then eb_E L d 253 418 ls (zi (I a x.toNatClampNeg) :: st) (nc, ns, I, J, R) else none := eb_E_iy hk253 rfl
theorem e253_418  : eb_E L d 253 418 ls ([a5, a4, a3, a2, a1, a0]) M = (eb_ev L d 70 [a0, a1, a2, a3, a4, a5] M).bind (fun q => eb_E L d 253 421 ls [q.1] q.2) := eb_E_c hk253 rfl
theorem e253_421 {x : Option eb_A} : eb_E L d 253 421 [v0, v1, some (Sum.inr x), v3] (st) M = eb_E L d 253 422 [v0, v1, some (Sum.inr x), v3] (Sum.inr x :: st) M := eb_E_s hk253 rfl
theorem e253_422 {x : Option eb_A} : eb_E L d 253 422 [some (Sum.inr x), v1, v2, v3] (st) M = eb_E L d 253 423 [some (Sum.inr x), v1, v2, v3] (Sum.inr x :: st) M := eb_E_s hk253 rfl
theorem e253_423 {x : Int32} : eb_E L d 253 423 [v0, v1, v2, some (zi x)] (st) M = eb_E L d 253 424 [v0, v1, v2, some (zi x)] (zi x :: st) M := eb_E_s hk253 rfl
theorem e253_424  : eb_E L d 253 424 ls (st) M = eb_E L d 253 425 ls (zi 1 :: st) M := eb_E_s hk253 rfl
theorem e253_425 {x : Int32} {y : Int32} : eb_E L d 253 425 ls (zi y :: zi x :: st) M = eb_E L d 253 426 ls (zi (x + y) :: st) M := eb_E_s hk253 rfl
theorem e253_426 {x : Int32} : eb_E L d 253 426 ls (zi x :: Sum.inr (some a) :: st) (nc, ns, I, J, R) = if (eb_ty L a.1).1 = 17 ∧ eb_in x (eb_ty L a.1).2 = true then eb_E L d 253 427 ls (zi (I a x.toNatClampNeg) :: st) (nc, ns, I, J, R) else none := eb_E_iy hk253 rfl
theorem e253_427 {x : Option eb_A} : eb_E L d 253 427 [some (Sum.inr x), v1, v2, v3] (st) M = eb_E L d 253 428 [some (Sum.inr x), v1, v2, v3] (Sum.inr x :: st) M := eb_E_s hk253 rfl
theorem e253_428 {x : Int32} : eb_E L d 253 428 [v0, v1, v2, some (zi x)] (st) M = eb_E L d 253 429 [v0, v1, v2, some (zi x)] (zi x :: st) M := eb_E_s hk253 rfl
theorem e253_429  : eb_E L d 253 429 ls (st) M = eb_E L d 253 430 ls (zi 2 :: st) M := eb_E_s hk253 rfl
theorem e253_430 {x : Int32} {y : Int32} : eb_E L d 253 430 ls (zi y :: zi x :: st) M = eb_E L d 253 431 ls (zi (x + y) :: st) M := eb_E_s hk253 rfl
theorem e253_431 {x : Int32} : eb_E L d 253 431 ls (zi x :: Sum.inr (some a) :: st) (nc, ns, I, J, R) = if (eb_ty L a.1).1 = 17 ∧ eb_in x (eb_ty L a.1).2 = true then eb_E L d 253 432 ls (zi (I a x.toNatClampNeg) :: st) (nc, ns, I, J, R) else none := eb_E_iy hk253 rfl
theorem e253_432 {x : Option eb_A} : eb_E L d 253 432 [some (Sum.inr x), v1, v2, v3] (st) M = eb_E L d 253 433 [some (Sum.inr x), v1, v2, v3] (Sum.inr x :: st) M := eb_E_s hk253 rfl
theorem e253_433 {x : Int32} : eb_E L d 253 433 [v0, v1, v2, some (zi x)] (st) M = eb_E L d 253 434 [v0, v1, v2, some (zi x)] (zi x :: st) M := eb_E_s hk253 rfl
theorem e253_434  : eb_E L d 253 434 ls (st) M = eb_E L d 253 435 ls (zi 3 :: st) M := eb_E_s hk253 rfl
theorem e253_435 {x : Int32} {y : Int32} : eb_E L d 253 435 ls (zi y :: zi x :: st) M = eb_E L d 253 436 ls (zi (x + y) :: st) M := eb_E_s hk253 rfl
theorem e253_436 {x : Int32} : eb_E L d 253 436 ls (zi x :: Sum.inr (some a) :: st) (nc, ns, I, J, R) = if (eb_ty L a.1).1 = 17 ∧ eb_in x (eb_ty L a.1).2 = true then eb_E L d 253 437 ls (zi (I a x.toNatClampNeg) :: st) (nc, ns, I, J, R) else none := eb_E_iy hk253 rfl
theorem e253_437 {x : Option eb_A} : eb_E L d 253 437 [some (Sum.inr x), v1, v2, v3] (st) M = eb_E L d 253 438 [some (Sum.inr x), v1, v2, v3] (Sum.inr x :: st) M := eb_E_s hk253 rfl
theorem e253_438 {x : Int32} : eb_E L d 253 438 [v0, v1, v2, some (zi x)] (st) M = eb_E L d 253 439 [v0, v1, v2, some (zi x)] (zi x :: st) M := eb_E_s hk253 rfl
theorem e253_439  : eb_E L d 253 439 ls (st) M = eb_E L d 253 440 ls (zi 4 :: st) M := eb_E_s hk253 rfl
theorem e253_440 {x : Int32} {y : Int32} : eb_E L d 253 440 ls (zi y :: zi x :: st) M = eb_E L d 253 441 ls (zi (x + y) :: st) M := eb_E_s hk253 rfl
theorem e253_441 {x : Int32} : eb_E L d 253 441 ls (zi x :: Sum.inr (some a) :: st) (nc, ns, I, J, R) = if (eb_ty L a.1).1 = 17 ∧ eb_in x (eb_ty L a.1).2 = true then eb_E L d 253 442 ls (zi (I a x.toNatClampNeg) :: st) (nc, ns, I, J, R) else none := eb_E_iy hk253 rfl
theorem e253_442 {x : Option eb_A} : eb_E L d 253 442 [some (Sum.inr x), v1, v2, v3] (st) M = eb_E L d 253 443 [some (Sum.inr x), v1, v2, v3] (Sum.inr x :: st) M := eb_E_s hk253 rfl
theorem e253_443 {x : Int32} : eb_E L d 253 443 [v0, v1, v2, some (zi x)] (st) M = eb_E L d 253 444 [v0, v1, v2, some (zi x)] (zi x :: st) M := eb_E_s hk253 rfl
theorem e253_444  : eb_E L d 253 444 ls (st) M = eb_E L d 253 445 ls (zi 5 :: st) M := eb_E_s hk253 rfl
theorem e253_445 {x : Int32} {y : Int32} : eb_E L d 253 445 ls (zi y :: zi x :: st) M = eb_E L d 253 446 ls (zi (x + y) :: st) M := eb_E_s hk253 rfl
theorem e253_446 {x : Int32} : eb_E L d 253 446 ls (zi x :: Sum.inr (some a) :: st) (nc, ns, I, J, R) = if (eb_ty L a.1).1 = 17 ∧ eb_in x (eb_ty L a.1).2 = true then eb_E L d 253 447 ls (zi (I a x.toNatClampNeg) :: st) (nc, ns, I, J, R) else none := eb_E_iy hk253 rfl
theorem e253_447 {s0 : Int32} : eb_E L d 253 447 ls ([a5, a4, a3, a2, a1, a0, zi s0]) M = (eb_ev L d 155 [a0, a1, a2, a3, a4, a5] M).bind (fun q => eb_E L d 253 450 ls [q.1, zi s0] q.2) := eb_E_c hk253 rfl
theorem e253_450 {x : Int32} {y : Int32} : eb_E L d 253 450 ls (zi y :: zi x :: st) M = if x = y then eb_E L d 253 1948 ls st M else eb_E L d 253 453 ls st M := eb_E_b hk253 rfl
theorem e253_453  : eb_E L d 253 453 ls (st) M = eb_E L d 253 454 ls (zi 0 :: st) M := eb_E_s hk253 rfl
theorem e253_454 {x : Int32} : eb_E L d 253 454 ls ([zi x]) M = if x = 0 ∨ x = 1 then some (zi x, M) else none := eb_E_ri hk253 rfl
theorem e253_455 {x : Option eb_A} : eb_E L d 253 455 [v0, some (Sum.inr x), v2, v3] (st) M = eb_E L d 253 456 [v0, some (Sum.inr x), v2, v3] (Sum.inr x :: st) M := eb_E_s hk253 rfl
theorem e253_456 {x : Option eb_A} : eb_E L d 253 456 [some (Sum.inr x), v1, v2, v3] (st) M = eb_E L d 253 457 [some (Sum.inr x), v1, v2, v3] (Sum.inr x :: st) M := eb_E_s hk253 rfl
theorem e253_457 {x : Int32} : eb_E L d 253 457 [v0, v1, v2, some (zi x)] (st) M = eb_E L d 253 458 [v0, v1, v2, some (zi x)] (zi x :: st) M := eb_E_s hk253 rfl
theorem e253_458  : eb_E L d 253 458 ls (st) M = eb_E L d 253 459 ls (zi 1 :: st) M := eb_E_s hk253 rfl
theorem e253_459 {x : Int32} {y : Int32} : eb_E L d 253 459 ls (zi y :: zi x :: st) M = eb_E L d 253 460 ls (zi (x + y) :: st) M := eb_E_s hk253 rfl
theorem e253_460 {x : Int32} : eb_E L d 253 460 ls (zi x :: Sum.inr (some a) :: st) (nc, ns, I, J, R) = if (eb_ty L a.1).1 = 17 ∧ eb_in x (eb_ty L a.1).2 = true then eb_E L d 253 461 ls (zi (I a x.toNatClampNeg) :: st) (nc, ns, I, J, R) else none := eb_E_iy hk253 rfl
theorem e253_461 {x : Option eb_A} : eb_E L d 253 461 [some (Sum.inr x), v1, v2, v3] (st) M = eb_E L d 253 462 [some (Sum.inr x), v1, v2, v3] (Sum.inr x :: st) M := eb_E_s hk253 rfl
theorem e253_462 {x : Int32} : eb_E L d 253 462 [v0, v1, v2, some (zi x)] (st) M = eb_E L d 253 463 [v0, v1, v2, some (zi x)] (zi x :: st) M := eb_E_s hk253 rfl
theorem e253_463  : eb_E L d 253 463 ls (st) M = eb_E L d 253 464 ls (zi 2 :: st) M := eb_E_s hk253 rfl
theorem e253_464 {x : Int32} {y : Int32} : eb_E L d 253 464 ls (zi y :: zi x :: st) M = eb_E L d 253 465 ls (zi (x + y) :: st) M := eb_E_s hk253 rfl
theorem e253_465 {x : Int32} : eb_E L d 253 465 ls (zi x :: Sum.inr (some a) :: st) (nc, ns, I, J, R) = if (eb_ty L a.1).1 = 17 ∧ eb_in x (eb_ty L a.1).2 = true then eb_E L d 253 466 ls (zi (I a x.toNatClampNeg) :: st) (nc, ns, I, J, R) else none := eb_E_iy hk253 rfl
theorem e253_466  : eb_E L d 253 466 ls ([a2, a1, a0]) M = (eb_ev L d 71 [a0, a1, a2] M).bind (fun q => eb_E L d 253 469 ls [q.1] q.2) := eb_E_c hk253 rfl
theorem e253_469 {x : Option eb_A} : eb_E L d 253 469 [v0, v1, some (Sum.inr x), v3] (st) M = eb_E L d 253 470 [v0, v1, some (Sum.inr x), v3] (Sum.inr x :: st) M := eb_E_s hk253 rfl
theorem e253_470 {x : Option eb_A} : eb_E L d 253 470 [some (Sum.inr x), v1, v2, v3] (st) M = eb_E L d 253 471 [some (Sum.inr x), v1, v2, v3] (Sum.inr x :: st) M := eb_E_s hk253 rfl
theorem e253_471 {x : Int32} : eb_E L d 253 471 [v0, v1, v2, some (zi x)] (st) M = eb_E L d 253 472 [v0, v1, v2, some (zi x)] (zi x :: st) M := eb_E_s hk253 rfl
theorem e253_472  : eb_E L d 253 472 ls (st) M = eb_E L d 253 473 ls (zi 1 :: st) M := eb_E_s hk253 rfl
theorem e253_473 {x : Int32} {y : Int32} : eb_E L d 253 473 ls (zi y :: zi x :: st) M = eb_E L d 253 474 ls (zi (x + y) :: st) M := eb_E_s hk253 rfl
theorem e253_474 {x : Int32} : eb_E L d 253 474 ls (zi x :: Sum.inr (some a) :: st) (nc, ns, I, J, R) = if (eb_ty L a.1).1 = 17 ∧ eb_in x (eb_ty L a.1).2 = true then eb_E L d 253 475 ls (zi (I a x.toNatClampNeg) :: st) (nc, ns, I, J, R) else none := eb_E_iy hk253 rfl
theorem e253_475 {x : Option eb_A} : eb_E L d 253 475 [some (Sum.inr x), v1, v2, v3] (st) M = eb_E L d 253 476 [some (Sum.inr x), v1, v2, v3] (Sum.inr x :: st) M := eb_E_s hk253 rfl
theorem e253_476 {x : Int32} : eb_E L d 253 476 [v0, v1, v2, some (zi x)] (st) M = eb_E L d 253 477 [v0, v1, v2, some (zi x)] (zi x :: st) M := eb_E_s hk253 rfl
theorem e253_477  : eb_E L d 253 477 ls (st) M = eb_E L d 253 478 ls (zi 2 :: st) M := eb_E_s hk253 rfl
theorem e253_478 {x : Int32} {y : Int32} : eb_E L d 253 478 ls (zi y :: zi x :: st) M = eb_E L d 253 479 ls (zi (x + y) :: st) M := eb_E_s hk253 rfl
theorem e253_479 {x : Int32} : eb_E L d 253 479 ls (zi x :: Sum.inr (some a) :: st) (nc, ns, I, J, R) = if (eb_ty L a.1).1 = 17 ∧ eb_in x (eb_ty L a.1).2 = true then eb_E L d 253 480 ls (zi (I a x.toNatClampNeg) :: st) (nc, ns, I, J, R) else none := eb_E_iy hk253 rfl
theorem e253_480 {s0 : Int64} : eb_E L d 253 480 ls ([a2, a1, a0, zl s0]) M = (eb_ev L d 156 [a0, a1, a2] M).bind (fun q => eb_E L d 253 483 ls [q.1, zl s0] q.2) := eb_E_c hk253 rfl
theorem e253_483 {x : Int64} {y : Int64} : eb_E L d 253 483 ls (zl y :: zl x :: st) M = eb_E L d 253 484 ls (zi (if x < y then -1 else if x = y then 0 else 1) :: st) M := eb_E_s hk253 rfl
theorem e253_484 {x : Int32} : eb_E L d 253 484 ls (zi x :: st) M = if x = 0 then eb_E L d 253 1948 ls st M else eb_E L d 253 487 ls st M := eb_E_b hk253 rfl
theorem e253_487  : eb_E L d 253 487 ls (st) M = eb_E L d 253 488 ls (zi 0 :: st) M := eb_E_s hk253 rfl
theorem e253_488 {x : Int32} : eb_E L d 253 488 ls ([zi x]) M = if x = 0 ∨ x = 1 then some (zi x, M) else none := eb_E_ri hk253 rfl
theorem e253_489 {x : Option eb_A} : eb_E L d 253 489 [v0, some (Sum.inr x), v2, v3] (st) M = eb_E L d 253 490 [v0, some (Sum.inr x), v2, v3] (Sum.inr x :: st) M := eb_E_s hk253 rfl
theorem e253_490 {x : Option eb_A} : eb_E L d 253 490 [some (Sum.inr x), v1, v2, v3] (st) M = eb_E L d 253 491 [some (Sum.inr x), v1, v2, v3] (Sum.inr x :: st) M := eb_E_s hk253 rfl
theorem e253_491 {x : Int32} : eb_E L d 253 491 [v0, v1, v2, some (zi x)] (st) M = eb_E L d 253 492 [v0, v1, v2, some (zi x)] (zi x :: st) M := eb_E_s hk253 rfl
theorem e253_492  : eb_E L d 253 492 ls (st) M = eb_E L d 253 493 ls (zi 1 :: st) M := eb_E_s hk253 rfl
theorem e253_493 {x : Int32} {y : Int32} : eb_E L d 253 493 ls (zi y :: zi x :: st) M = eb_E L d 253 494 ls (zi (x + y) :: st) M := eb_E_s hk253 rfl
theorem e253_494 {x : Int32} : eb_E L d 253 494 ls (zi x :: Sum.inr (some a) :: st) (nc, ns, I, J, R) = if (eb_ty L a.1).1 = 17 ∧ eb_in x (eb_ty L a.1).2 = true then eb_E L d 253 495 ls (zi (I a x.toNatClampNeg) :: st) (nc, ns, I, J, R) else none := eb_E_iy hk253 rfl
theorem e253_495  : eb_E L d 253 495 ls ([a1, a0]) M = (eb_ev L d 72 [a0, a1] M).bind (fun q => eb_E L d 253 498 ls [q.1] q.2) := eb_E_c hk253 rfl
theorem e253_498 {x : Option eb_A} : eb_E L d 253 498 [v0, v1, some (Sum.inr x), v3] (st) M = eb_E L d 253 499 [v0, v1, some (Sum.inr x), v3] (Sum.inr x :: st) M := eb_E_s hk253 rfl
theorem e253_499 {x : Option eb_A} : eb_E L d 253 499 [some (Sum.inr x), v1, v2, v3] (st) M = eb_E L d 253 500 [some (Sum.inr x), v1, v2, v3] (Sum.inr x :: st) M := eb_E_s hk253 rfl
theorem e253_500 {x : Int32} : eb_E L d 253 500 [v0, v1, v2, some (zi x)] (st) M = eb_E L d 253 501 [v0, v1, v2, some (zi x)] (zi x :: st) M := eb_E_s hk253 rfl
theorem e253_501  : eb_E L d 253 501 ls (st) M = eb_E L d 253 502 ls (zi 1 :: st) M := eb_E_s hk253 rfl
theorem e253_502 {x : Int32} {y : Int32} : eb_E L d 253 502 ls (zi y :: zi x :: st) M = eb_E L d 253 503 ls (zi (x + y) :: st) M := eb_E_s hk253 rfl
theorem e253_503 {x : Int32} : eb_E L d 253 503 ls (zi x :: Sum.inr (some a) :: st) (nc, ns, I, J, R) = if (eb_ty L a.1).1 = 17 ∧ eb_in x (eb_ty L a.1).2 = true then eb_E L d 253 504 ls (zi (I a x.toNatClampNeg) :: st) (nc, ns, I, J, R) else none := eb_E_iy hk253 rfl
theorem e253_504 {s0 : Int32} : eb_E L d 253 504 ls ([a1, a0, zi s0]) M = (eb_ev L d 157 [a0, a1] M).bind (fun q => eb_E L d 253 507 ls [q.1, zi s0] q.2) := eb_E_c hk253 rfl
theorem e253_507 {x : Int32} {y : Int32} : eb_E L d 253 507 ls (zi y :: zi x :: st) M = if x = y then eb_E L d 253 1948 ls st M else eb_E L d 253 510 ls st M := eb_E_b hk253 rfl
theorem e253_510  : eb_E L d 253 510 ls (st) M = eb_E L d 253 511 ls (zi 0 :: st) M := eb_E_s hk253 rfl
theorem e253_511 {x : Int32} : eb_E L d 253 511 ls ([zi x]) M = if x = 0 ∨ x = 1 then some (zi x, M) else none := eb_E_ri hk253 rfl
theorem e253_512 {x : Option eb_A} : eb_E L d 253 512 [v0, some (Sum.inr x), v2, v3] (st) M = eb_E L d 253 513 [v0, some (Sum.inr x), v2, v3] (Sum.inr x :: st) M := eb_E_s hk253 rfl
theorem e253_513 {x : Option eb_A} : eb_E L d 253 513 [some (Sum.inr x), v1, v2, v3] (st) M = eb_E L d 253 514 [some (Sum.inr x), v1, v2, v3] (Sum.inr x :: st) M := eb_E_s hk253 rfl
theorem e253_514 {x : Int32} : eb_E L d 253 514 [v0, v1, v2, some (zi x)] (st) M = eb_E L d 253 515 [v0, v1, v2, some (zi x)] (zi x :: st) M := eb_E_s hk253 rfl
theorem e253_515  : eb_E L d 253 515 ls (st) M = eb_E L d 253 516 ls (zi 1 :: st) M := eb_E_s hk253 rfl
theorem e253_516 {x : Int32} {y : Int32} : eb_E L d 253 516 ls (zi y :: zi x :: st) M = eb_E L d 253 517 ls (zi (x + y) :: st) M := eb_E_s hk253 rfl
theorem e253_517 {x : Int32} : eb_E L d 253 517 ls (zi x :: Sum.inr (some a) :: st) (nc, ns, I, J, R) = if (eb_ty L a.1).1 = 17 ∧ eb_in x (eb_ty L a.1).2 = true then eb_E L d 253 518 ls (zi (I a x.toNatClampNeg) :: st) (nc, ns, I, J, R) else none := eb_E_iy hk253 rfl
theorem e253_518 {x : Option eb_A} : eb_E L d 253 518 [some (Sum.inr x), v1, v2, v3] (st) M = eb_E L d 253 519 [some (Sum.inr x), v1, v2, v3] (Sum.inr x :: st) M := eb_E_s hk253 rfl
theorem e253_519 {x : Int32} : eb_E L d 253 519 [v0, v1, v2, some (zi x)] (st) M = eb_E L d 253 520 [v0, v1, v2, some (zi x)] (zi x :: st) M := eb_E_s hk253 rfl
theorem e253_520  : eb_E L d 253 520 ls (st) M = eb_E L d 253 521 ls (zi 2 :: st) M := eb_E_s hk253 rfl
theorem e253_521 {x : Int32} {y : Int32} : eb_E L d 253 521 ls (zi y :: zi x :: st) M = eb_E L d 253 522 ls (zi (x + y) :: st) M := eb_E_s hk253 rfl
theorem e253_522 {x : Int32} : eb_E L d 253 522 ls (zi x :: Sum.inr (some a) :: st) (nc, ns, I, J, R) = if (eb_ty L a.1).1 = 17 ∧ eb_in x (eb_ty L a.1).2 = true then eb_E L d 253 523 ls (zi (I a x.toNatClampNeg) :: st) (nc, ns, I, J, R) else none := eb_E_iy hk253 rfl
theorem e253_523  : eb_E L d 253 523 ls ([a2, a1, a0]) M = (eb_ev L d 73 [a0, a1, a2] M).bind (fun q => eb_E L d 253 526 ls [q.1] q.2) := eb_E_c hk253 rfl
theorem e253_526 {x : Option eb_A} : eb_E L d 253 526 [v0, v1, some (Sum.inr x), v3] (st) M = eb_E L d 253 527 [v0, v1, some (Sum.inr x), v3] (Sum.inr x :: st) M := eb_E_s hk253 rfl
theorem e253_527 {x : Option eb_A} : eb_E L d 253 527 [some (Sum.inr x), v1, v2, v3] (st) M = eb_E L d 253 528 [some (Sum.inr x), v1, v2, v3] (Sum.inr x :: st) M := eb_E_s hk253 rfl
theorem e253_528 {x : Int32} : eb_E L d 253 528 [v0, v1, v2, some (zi x)] (st) M = eb_E L d 253 529 [v0, v1, v2, some (zi x)] (zi x :: st) M := eb_E_s hk253 rfl
theorem e253_529  : eb_E L d 253 529 ls (st) M = eb_E L d 253 530 ls (zi 1 :: st) M := eb_E_s hk253 rfl
theorem e253_530 {x : Int32} {y : Int32} : eb_E L d 253 530 ls (zi y :: zi x :: st) M = eb_E L d 253 531 ls (zi (x + y) :: st) M := eb_E_s hk253 rfl
theorem e253_531 {x : Int32} : eb_E L d 253 531 ls (zi x :: Sum.inr (some a) :: st) (nc, ns, I, J, R) = if (eb_ty L a.1).1 = 17 ∧ eb_in x (eb_ty L a.1).2 = true then eb_E L d 253 532 ls (zi (I a x.toNatClampNeg) :: st) (nc, ns, I, J, R) else none := eb_E_iy hk253 rfl
theorem e253_532 {x : Option eb_A} : eb_E L d 253 532 [some (Sum.inr x), v1, v2, v3] (st) M = eb_E L d 253 533 [some (Sum.inr x), v1, v2, v3] (Sum.inr x :: st) M := eb_E_s hk253 rfl
theorem e253_533 {x : Int32} : eb_E L d 253 533 [v0, v1, v2, some (zi x)] (st) M = eb_E L d 253 534 [v0, v1, v2, some (zi x)] (zi x :: st) M := eb_E_s hk253 rfl
theorem e253_534  : eb_E L d 253 534 ls (st) M = eb_E L d 253 535 ls (zi 2 :: st) M := eb_E_s hk253 rfl
theorem e253_535 {x : Int32} {y : Int32} : eb_E L d 253 535 ls (zi y :: zi x :: st) M = eb_E L d 253 536 ls (zi (x + y) :: st) M := eb_E_s hk253 rfl
theorem e253_536 {x : Int32} : eb_E L d 253 536 ls (zi x :: Sum.inr (some a) :: st) (nc, ns, I, J, R) = if (eb_ty L a.1).1 = 17 ∧ eb_in x (eb_ty L a.1).2 = true then eb_E L d 253 537 ls (zi (I a x.toNatClampNeg) :: st) (nc, ns, I, J, R) else none := eb_E_iy hk253 rfl
theorem e253_537 {s0 : Int32} : eb_E L d 253 537 ls ([a2, a1, a0, zi s0]) M = (eb_ev L d 158 [a0, a1, a2] M).bind (fun q => eb_E L d 253 540 ls [q.1, zi s0] q.2) := eb_E_c hk253 rfl
theorem e253_540 {x : Int32} {y : Int32} : eb_E L d 253 540 ls (zi y :: zi x :: st) M = if x = y then eb_E L d 253 1948 ls st M else eb_E L d 253 543 ls st M := eb_E_b hk253 rfl
theorem e253_543  : eb_E L d 253 543 ls (st) M = eb_E L d 253 544 ls (zi 0 :: st) M := eb_E_s hk253 rfl
theorem e253_544 {x : Int32} : eb_E L d 253 544 ls ([zi x]) M = if x = 0 ∨ x = 1 then some (zi x, M) else none := eb_E_ri hk253 rfl
theorem e253_545 {x : Option eb_A} : eb_E L d 253 545 [v0, some (Sum.inr x), v2, v3] (st) M = eb_E L d 253 546 [v0, some (Sum.inr x), v2, v3] (Sum.inr x :: st) M := eb_E_s hk253 rfl
theorem e253_546 {x : Option eb_A} : eb_E L d 253 546 [some (Sum.inr x), v1, v2, v3] (st) M = eb_E L d 253 547 [some (Sum.inr x), v1, v2, v3] (Sum.inr x :: st) M := eb_E_s hk253 rfl
theorem e253_547 {x : Int32} : eb_E L d 253 547 [v0, v1, v2, some (zi x)] (st) M = eb_E L d 253 548 [v0, v1, v2, some (zi x)] (zi x :: st) M := eb_E_s hk253 rfl
theorem e253_548  : eb_E L d 253 548 ls (st) M = eb_E L d 253 549 ls (zi 1 :: st) M := eb_E_s hk253 rfl
theorem e253_549 {x : Int32} {y : Int32} : eb_E L d 253 549 ls (zi y :: zi x :: st) M = eb_E L d 253 550 ls (zi (x + y) :: st) M := eb_E_s hk253 rfl
theorem e253_550 {x : Int32} : eb_E L d 253 550 ls (zi x :: Sum.inr (some a) :: st) (nc, ns, I, J, R) = if (eb_ty L a.1).1 = 17 ∧ eb_in x (eb_ty L a.1).2 = true then eb_E L d 253 551 ls (zi (I a x.toNatClampNeg) :: st) (nc, ns, I, J, R) else none := eb_E_iy hk253 rfl
theorem e253_551 {x : Option eb_A} : eb_E L d 253 551 [some (Sum.inr x), v1, v2, v3] (st) M = eb_E L d 253 552 [some (Sum.inr x), v1, v2, v3] (Sum.inr x :: st) M := eb_E_s hk253 rfl
theorem e253_552 {x : Int32} : eb_E L d 253 552 [v0, v1, v2, some (zi x)] (st) M = eb_E L d 253 553 [v0, v1, v2, some (zi x)] (zi x :: st) M := eb_E_s hk253 rfl
theorem e253_553  : eb_E L d 253 553 ls (st) M = eb_E L d 253 554 ls (zi 2 :: st) M := eb_E_s hk253 rfl
theorem e253_554 {x : Int32} {y : Int32} : eb_E L d 253 554 ls (zi y :: zi x :: st) M = eb_E L d 253 555 ls (zi (x + y) :: st) M := eb_E_s hk253 rfl
theorem e253_555 {x : Int32} : eb_E L d 253 555 ls (zi x :: Sum.inr (some a) :: st) (nc, ns, I, J, R) = if (eb_ty L a.1).1 = 17 ∧ eb_in x (eb_ty L a.1).2 = true then eb_E L d 253 556 ls (zi (I a x.toNatClampNeg) :: st) (nc, ns, I, J, R) else none := eb_E_iy hk253 rfl
theorem e253_556  : eb_E L d 253 556 ls ([a2, a1, a0]) M = (eb_ev L d 74 [a0, a1, a2] M).bind (fun q => eb_E L d 253 559 ls [q.1] q.2) := eb_E_c hk253 rfl
theorem e253_559 {x : Option eb_A} : eb_E L d 253 559 [v0, v1, some (Sum.inr x), v3] (st) M = eb_E L d 253 560 [v0, v1, some (Sum.inr x), v3] (Sum.inr x :: st) M := eb_E_s hk253 rfl
theorem e253_560 {x : Option eb_A} : eb_E L d 253 560 [some (Sum.inr x), v1, v2, v3] (st) M = eb_E L d 253 561 [some (Sum.inr x), v1, v2, v3] (Sum.inr x :: st) M := eb_E_s hk253 rfl
theorem e253_561 {x : Int32} : eb_E L d 253 561 [v0, v1, v2, some (zi x)] (st) M = eb_E L d 253 562 [v0, v1, v2, some (zi x)] (zi x :: st) M := eb_E_s hk253 rfl
theorem e253_562  : eb_E L d 253 562 ls (st) M = eb_E L d 253 563 ls (zi 1 :: st) M := eb_E_s hk253 rfl
theorem e253_563 {x : Int32} {y : Int32} : eb_E L d 253 563 ls (zi y :: zi x :: st) M = eb_E L d 253 564 ls (zi (x + y) :: st) M := eb_E_s hk253 rfl
theorem e253_564 {x : Int32} : eb_E L d 253 564 ls (zi x :: Sum.inr (some a) :: st) (nc, ns, I, J, R) = if (eb_ty L a.1).1 = 17 ∧ eb_in x (eb_ty L a.1).2 = true then eb_E L d 253 565 ls (zi (I a x.toNatClampNeg) :: st) (nc, ns, I, J, R) else none := eb_E_iy hk253 rfl
theorem e253_565 {x : Option eb_A} : eb_E L d 253 565 [some (Sum.inr x), v1, v2, v3] (st) M = eb_E L d 253 566 [some (Sum.inr x), v1, v2, v3] (Sum.inr x :: st) M := eb_E_s hk253 rfl
theorem e253_566 {x : Int32} : eb_E L d 253 566 [v0, v1, v2, some (zi x)] (st) M = eb_E L d 253 567 [v0, v1, v2, some (zi x)] (zi x :: st) M := eb_E_s hk253 rfl
theorem e253_567  : eb_E L d 253 567 ls (st) M = eb_E L d 253 568 ls (zi 2 :: st) M := eb_E_s hk253 rfl
theorem e253_568 {x : Int32} {y : Int32} : eb_E L d 253 568 ls (zi y :: zi x :: st) M = eb_E L d 253 569 ls (zi (x + y) :: st) M := eb_E_s hk253 rfl
theorem e253_569 {x : Int32} : eb_E L d 253 569 ls (zi x :: Sum.inr (some a) :: st) (nc, ns, I, J, R) = if (eb_ty L a.1).1 = 17 ∧ eb_in x (eb_ty L a.1).2 = true then eb_E L d 253 570 ls (zi (I a x.toNatClampNeg) :: st) (nc, ns, I, J, R) else none := eb_E_iy hk253 rfl
theorem e253_570 {s0 : Int32} : eb_E L d 253 570 ls ([a2, a1, a0, zi s0]) M = (eb_ev L d 160 [a0, a1, a2] M).bind (fun q => eb_E L d 253 573 ls [q.1, zi s0] q.2) := eb_E_c hk253 rfl
theorem e253_573 {x : Int32} {y : Int32} : eb_E L d 253 573 ls (zi y :: zi x :: st) M = if x = y then eb_E L d 253 1948 ls st M else eb_E L d 253 576 ls st M := eb_E_b hk253 rfl
theorem e253_576  : eb_E L d 253 576 ls (st) M = eb_E L d 253 577 ls (zi 0 :: st) M := eb_E_s hk253 rfl
theorem e253_577 {x : Int32} : eb_E L d 253 577 ls ([zi x]) M = if x = 0 ∨ x = 1 then some (zi x, M) else none := eb_E_ri hk253 rfl
theorem e253_578 {x : Option eb_A} : eb_E L d 253 578 [v0, some (Sum.inr x), v2, v3] (st) M = eb_E L d 253 579 [v0, some (Sum.inr x), v2, v3] (Sum.inr x :: st) M := eb_E_s hk253 rfl
theorem e253_579 {x : Option eb_A} : eb_E L d 253 579 [some (Sum.inr x), v1, v2, v3] (st) M = eb_E L d 253 580 [some (Sum.inr x), v1, v2, v3] (Sum.inr x :: st) M := eb_E_s hk253 rfl
theorem e253_580 {x : Int32} : eb_E L d 253 580 [v0, v1, v2, some (zi x)] (st) M = eb_E L d 253 581 [v0, v1, v2, some (zi x)] (zi x :: st) M := eb_E_s hk253 rfl
theorem e253_581  : eb_E L d 253 581 ls (st) M = eb_E L d 253 582 ls (zi 1 :: st) M := eb_E_s hk253 rfl
theorem e253_582 {x : Int32} {y : Int32} : eb_E L d 253 582 ls (zi y :: zi x :: st) M = eb_E L d 253 583 ls (zi (x + y) :: st) M := eb_E_s hk253 rfl
theorem e253_583 {x : Int32} : eb_E L d 253 583 ls (zi x :: Sum.inr (some a) :: st) (nc, ns, I, J, R) = if (eb_ty L a.1).1 = 17 ∧ eb_in x (eb_ty L a.1).2 = true then eb_E L d 253 584 ls (zi (I a x.toNatClampNeg) :: st) (nc, ns, I, J, R) else none := eb_E_iy hk253 rfl
theorem e253_584 {x : Option eb_A} : eb_E L d 253 584 [some (Sum.inr x), v1, v2, v3] (st) M = eb_E L d 253 585 [some (Sum.inr x), v1, v2, v3] (Sum.inr x :: st) M := eb_E_s hk253 rfl
theorem e253_585 {x : Int32} : eb_E L d 253 585 [v0, v1, v2, some (zi x)] (st) M = eb_E L d 253 586 [v0, v1, v2, some (zi x)] (zi x :: st) M := eb_E_s hk253 rfl
theorem e253_586  : eb_E L d 253 586 ls (st) M = eb_E L d 253 587 ls (zi 2 :: st) M := eb_E_s hk253 rfl
theorem e253_587 {x : Int32} {y : Int32} : eb_E L d 253 587 ls (zi y :: zi x :: st) M = eb_E L d 253 588 ls (zi (x + y) :: st) M := eb_E_s hk253 rfl
theorem e253_588 {x : Int32} : eb_E L d 253 588 ls (zi x :: Sum.inr (some a) :: st) (nc, ns, I, J, R) = if (eb_ty L a.1).1 = 17 ∧ eb_in x (eb_ty L a.1).2 = true then eb_E L d 253 589 ls (zi (I a x.toNatClampNeg) :: st) (nc, ns, I, J, R) else none := eb_E_iy hk253 rfl
theorem e253_589 {x : Option eb_A} : eb_E L d 253 589 [some (Sum.inr x), v1, v2, v3] (st) M = eb_E L d 253 590 [some (Sum.inr x), v1, v2, v3] (Sum.inr x :: st) M := eb_E_s hk253 rfl
theorem e253_590 {x : Int32} : eb_E L d 253 590 [v0, v1, v2, some (zi x)] (st) M = eb_E L d 253 591 [v0, v1, v2, some (zi x)] (zi x :: st) M := eb_E_s hk253 rfl
theorem e253_591  : eb_E L d 253 591 ls (st) M = eb_E L d 253 592 ls (zi 3 :: st) M := eb_E_s hk253 rfl
theorem e253_592 {x : Int32} {y : Int32} : eb_E L d 253 592 ls (zi y :: zi x :: st) M = eb_E L d 253 593 ls (zi (x + y) :: st) M := eb_E_s hk253 rfl
theorem e253_593 {x : Int32} : eb_E L d 253 593 ls (zi x :: Sum.inr (some a) :: st) (nc, ns, I, J, R) = if (eb_ty L a.1).1 = 17 ∧ eb_in x (eb_ty L a.1).2 = true then eb_E L d 253 594 ls (zi (I a x.toNatClampNeg) :: st) (nc, ns, I, J, R) else none := eb_E_iy hk253 rfl
theorem e253_594  : eb_E L d 253 594 ls ([a3, a2, a1, a0]) M = (eb_ev L d 75 [a0, a1, a2, a3] M).bind (fun q => eb_E L d 253 597 ls [q.1] q.2) := eb_E_c hk253 rfl
theorem e253_597 {x : Option eb_A} : eb_E L d 253 597 [v0, v1, some (Sum.inr x), v3] (st) M = eb_E L d 253 598 [v0, v1, some (Sum.inr x), v3] (Sum.inr x :: st) M := eb_E_s hk253 rfl
theorem e253_598 {x : Option eb_A} : eb_E L d 253 598 [some (Sum.inr x), v1, v2, v3] (st) M = eb_E L d 253 599 [some (Sum.inr x), v1, v2, v3] (Sum.inr x :: st) M := eb_E_s hk253 rfl
theorem e253_599 {x : Int32} : eb_E L d 253 599 [v0, v1, v2, some (zi x)] (st) M = eb_E L d 253 600 [v0, v1, v2, some (zi x)] (zi x :: st) M := eb_E_s hk253 rfl
theorem e253_600  : eb_E L d 253 600 ls (st) M = eb_E L d 253 601 ls (zi 1 :: st) M := eb_E_s hk253 rfl
theorem e253_601 {x : Int32} {y : Int32} : eb_E L d 253 601 ls (zi y :: zi x :: st) M = eb_E L d 253 602 ls (zi (x + y) :: st) M := eb_E_s hk253 rfl
theorem e253_602 {x : Int32} : eb_E L d 253 602 ls (zi x :: Sum.inr (some a) :: st) (nc, ns, I, J, R) = if (eb_ty L a.1).1 = 17 ∧ eb_in x (eb_ty L a.1).2 = true then eb_E L d 253 603 ls (zi (I a x.toNatClampNeg) :: st) (nc, ns, I, J, R) else none := eb_E_iy hk253 rfl
theorem e253_603 {x : Option eb_A} : eb_E L d 253 603 [some (Sum.inr x), v1, v2, v3] (st) M = eb_E L d 253 604 [some (Sum.inr x), v1, v2, v3] (Sum.inr x :: st) M := eb_E_s hk253 rfl
theorem e253_604 {x : Int32} : eb_E L d 253 604 [v0, v1, v2, some (zi x)] (st) M = eb_E L d 253 605 [v0, v1, v2, some (zi x)] (zi x :: st) M := eb_E_s hk253 rfl
theorem e253_605  : eb_E L d 253 605 ls (st) M = eb_E L d 253 606 ls (zi 2 :: st) M := eb_E_s hk253 rfl
theorem e253_606 {x : Int32} {y : Int32} : eb_E L d 253 606 ls (zi y :: zi x :: st) M = eb_E L d 253 607 ls (zi (x + y) :: st) M := eb_E_s hk253 rfl
theorem e253_607 {x : Int32} : eb_E L d 253 607 ls (zi x :: Sum.inr (some a) :: st) (nc, ns, I, J, R) = if (eb_ty L a.1).1 = 17 ∧ eb_in x (eb_ty L a.1).2 = true then eb_E L d 253 608 ls (zi (I a x.toNatClampNeg) :: st) (nc, ns, I, J, R) else none := eb_E_iy hk253 rfl
theorem e253_608 {x : Option eb_A} : eb_E L d 253 608 [some (Sum.inr x), v1, v2, v3] (st) M = eb_E L d 253 609 [some (Sum.inr x), v1, v2, v3] (Sum.inr x :: st) M := eb_E_s hk253 rfl
theorem e253_609 {x : Int32} : eb_E L d 253 609 [v0, v1, v2, some (zi x)] (st) M = eb_E L d 253 610 [v0, v1, v2, some (zi x)] (zi x :: st) M := eb_E_s hk253 rfl
theorem e253_610  : eb_E L d 253 610 ls (st) M = eb_E L d 253 611 ls (zi 3 :: st) M := eb_E_s hk253 rfl
theorem e253_611 {x : Int32} {y : Int32} : eb_E L d 253 611 ls (zi y :: zi x :: st) M = eb_E L d 253 612 ls (zi (x + y) :: st) M := eb_E_s hk253 rfl
theorem e253_612 {x : Int32} : eb_E L d 253 612 ls (zi x :: Sum.inr (some a) :: st) (nc, ns, I, J, R) = if (eb_ty L a.1).1 = 17 ∧ eb_in x (eb_ty L a.1).2 = true then eb_E L d 253 613 ls (zi (I a x.toNatClampNeg) :: st) (nc, ns, I, J, R) else none := eb_E_iy hk253 rfl
theorem e253_613 {s0 : Int32} : eb_E L d 253 613 ls ([a3, a2, a1, a0, zi s0]) M = (eb_ev L d 162 [a0, a1, a2, a3] M).bind (fun q => eb_E L d 253 616 ls [q.1, zi s0] q.2) := eb_E_c hk253 rfl
theorem e253_616 {x : Int32} {y : Int32} : eb_E L d 253 616 ls (zi y :: zi x :: st) M = if x = y then eb_E L d 253 1948 ls st M else eb_E L d 253 619 ls st M := eb_E_b hk253 rfl
theorem e253_619  : eb_E L d 253 619 ls (st) M = eb_E L d 253 620 ls (zi 0 :: st) M := eb_E_s hk253 rfl
theorem e253_620 {x : Int32} : eb_E L d 253 620 ls ([zi x]) M = if x = 0 ∨ x = 1 then some (zi x, M) else none := eb_E_ri hk253 rfl
theorem e253_621 {x : Option eb_A} : eb_E L d 253 621 [v0, some (Sum.inr x), v2, v3] (st) M = eb_E L d 253 622 [v0, some (Sum.inr x), v2, v3] (Sum.inr x :: st) M := eb_E_s hk253 rfl
theorem e253_622 {x : Option eb_A} : eb_E L d 253 622 [some (Sum.inr x), v1, v2, v3] (st) M = eb_E L d 253 623 [some (Sum.inr x), v1, v2, v3] (Sum.inr x :: st) M := eb_E_s hk253 rfl
theorem e253_623 {x : Int32} : eb_E L d 253 623 [v0, v1, v2, some (zi x)] (st) M = eb_E L d 253 624 [v0, v1, v2, some (zi x)] (zi x :: st) M := eb_E_s hk253 rfl
theorem e253_624  : eb_E L d 253 624 ls (st) M = eb_E L d 253 625 ls (zi 1 :: st) M := eb_E_s hk253 rfl
theorem e253_625 {x : Int32} {y : Int32} : eb_E L d 253 625 ls (zi y :: zi x :: st) M = eb_E L d 253 626 ls (zi (x + y) :: st) M := eb_E_s hk253 rfl
theorem e253_626 {x : Int32} : eb_E L d 253 626 ls (zi x :: Sum.inr (some a) :: st) (nc, ns, I, J, R) = if (eb_ty L a.1).1 = 17 ∧ eb_in x (eb_ty L a.1).2 = true then eb_E L d 253 627 ls (zi (I a x.toNatClampNeg) :: st) (nc, ns, I, J, R) else none := eb_E_iy hk253 rfl
theorem e253_627 {x : Option eb_A} : eb_E L d 253 627 [some (Sum.inr x), v1, v2, v3] (st) M = eb_E L d 253 628 [some (Sum.inr x), v1, v2, v3] (Sum.inr x :: st) M := eb_E_s hk253 rfl
theorem e253_628 {x : Int32} : eb_E L d 253 628 [v0, v1, v2, some (zi x)] (st) M = eb_E L d 253 629 [v0, v1, v2, some (zi x)] (zi x :: st) M := eb_E_s hk253 rfl
theorem e253_629  : eb_E L d 253 629 ls (st) M = eb_E L d 253 630 ls (zi 2 :: st) M := eb_E_s hk253 rfl
theorem e253_630 {x : Int32} {y : Int32} : eb_E L d 253 630 ls (zi y :: zi x :: st) M = eb_E L d 253 631 ls (zi (x + y) :: st) M := eb_E_s hk253 rfl
theorem e253_631 {x : Int32} : eb_E L d 253 631 ls (zi x :: Sum.inr (some a) :: st) (nc, ns, I, J, R) = if (eb_ty L a.1).1 = 17 ∧ eb_in x (eb_ty L a.1).2 = true then eb_E L d 253 632 ls (zi (I a x.toNatClampNeg) :: st) (nc, ns, I, J, R) else none := eb_E_iy hk253 rfl
theorem e253_632 {x : Option eb_A} : eb_E L d 253 632 [some (Sum.inr x), v1, v2, v3] (st) M = eb_E L d 253 633 [some (Sum.inr x), v1, v2, v3] (Sum.inr x :: st) M := eb_E_s hk253 rfl
theorem e253_633 {x : Int32} : eb_E L d 253 633 [v0, v1, v2, some (zi x)] (st) M = eb_E L d 253 634 [v0, v1, v2, some (zi x)] (zi x :: st) M := eb_E_s hk253 rfl
theorem e253_634  : eb_E L d 253 634 ls (st) M = eb_E L d 253 635 ls (zi 3 :: st) M := eb_E_s hk253 rfl
theorem e253_635 {x : Int32} {y : Int32} : eb_E L d 253 635 ls (zi y :: zi x :: st) M = eb_E L d 253 636 ls (zi (x + y) :: st) M := eb_E_s hk253 rfl
theorem e253_636 {x : Int32} : eb_E L d 253 636 ls (zi x :: Sum.inr (some a) :: st) (nc, ns, I, J, R) = if (eb_ty L a.1).1 = 17 ∧ eb_in x (eb_ty L a.1).2 = true then eb_E L d 253 637 ls (zi (I a x.toNatClampNeg) :: st) (nc, ns, I, J, R) else none := eb_E_iy hk253 rfl
theorem e253_637  : eb_E L d 253 637 ls ([a3, a2, a1, a0]) M = (eb_ev L d 76 [a0, a1, a2, a3] M).bind (fun q => eb_E L d 253 640 ls [q.1] q.2) := eb_E_c hk253 rfl
theorem e253_640 {x : Option eb_A} : eb_E L d 253 640 [v0, v1, some (Sum.inr x), v3] (st) M = eb_E L d 253 641 [v0, v1, some (Sum.inr x), v3] (Sum.inr x :: st) M := eb_E_s hk253 rfl
theorem e253_641 {x : Option eb_A} : eb_E L d 253 641 [some (Sum.inr x), v1, v2, v3] (st) M = eb_E L d 253 642 [some (Sum.inr x), v1, v2, v3] (Sum.inr x :: st) M := eb_E_s hk253 rfl
theorem e253_642 {x : Int32} : eb_E L d 253 642 [v0, v1, v2, some (zi x)] (st) M = eb_E L d 253 643 [v0, v1, v2, some (zi x)] (zi x :: st) M := eb_E_s hk253 rfl
theorem e253_643  : eb_E L d 253 643 ls (st) M = eb_E L d 253 644 ls (zi 1 :: st) M := eb_E_s hk253 rfl
theorem e253_644 {x : Int32} {y : Int32} : eb_E L d 253 644 ls (zi y :: zi x :: st) M = eb_E L d 253 645 ls (zi (x + y) :: st) M := eb_E_s hk253 rfl
theorem e253_645 {x : Int32} : eb_E L d 253 645 ls (zi x :: Sum.inr (some a) :: st) (nc, ns, I, J, R) = if (eb_ty L a.1).1 = 17 ∧ eb_in x (eb_ty L a.1).2 = true then eb_E L d 253 646 ls (zi (I a x.toNatClampNeg) :: st) (nc, ns, I, J, R) else none := eb_E_iy hk253 rfl
theorem e253_646 {x : Option eb_A} : eb_E L d 253 646 [some (Sum.inr x), v1, v2, v3] (st) M = eb_E L d 253 647 [some (Sum.inr x), v1, v2, v3] (Sum.inr x :: st) M := eb_E_s hk253 rfl
theorem e253_647 {x : Int32} : eb_E L d 253 647 [v0, v1, v2, some (zi x)] (st) M = eb_E L d 253 648 [v0, v1, v2, some (zi x)] (zi x :: st) M := eb_E_s hk253 rfl
theorem e253_648  : eb_E L d 253 648 ls (st) M = eb_E L d 253 649 ls (zi 2 :: st) M := eb_E_s hk253 rfl
theorem e253_649 {x : Int32} {y : Int32} : eb_E L d 253 649 ls (zi y :: zi x :: st) M = eb_E L d 253 650 ls (zi (x + y) :: st) M := eb_E_s hk253 rfl
theorem e253_650 {x : Int32} : eb_E L d 253 650 ls (zi x :: Sum.inr (some a) :: st) (nc, ns, I, J, R) = if (eb_ty L a.1).1 = 17 ∧ eb_in x (eb_ty L a.1).2 = true then eb_E L d 253 651 ls (zi (I a x.toNatClampNeg) :: st) (nc, ns, I, J, R) else none := eb_E_iy hk253 rfl
theorem e253_651 {x : Option eb_A} : eb_E L d 253 651 [some (Sum.inr x), v1, v2, v3] (st) M = eb_E L d 253 652 [some (Sum.inr x), v1, v2, v3] (Sum.inr x :: st) M := eb_E_s hk253 rfl
theorem e253_652 {x : Int32} : eb_E L d 253 652 [v0, v1, v2, some (zi x)] (st) M = eb_E L d 253 653 [v0, v1, v2, some (zi x)] (zi x :: st) M := eb_E_s hk253 rfl
theorem e253_653  : eb_E L d 253 653 ls (st) M = eb_E L d 253 654 ls (zi 3 :: st) M := eb_E_s hk253 rfl
theorem e253_654 {x : Int32} {y : Int32} : eb_E L d 253 654 ls (zi y :: zi x :: st) M = eb_E L d 253 655 ls (zi (x + y) :: st) M := eb_E_s hk253 rfl
theorem e253_655 {x : Int32} : eb_E L d 253 655 ls (zi x :: Sum.inr (some a) :: st) (nc, ns, I, J, R) = if (eb_ty L a.1).1 = 17 ∧ eb_in x (eb_ty L a.1).2 = true then eb_E L d 253 656 ls (zi (I a x.toNatClampNeg) :: st) (nc, ns, I, J, R) else none := eb_E_iy hk253 rfl
theorem e253_656 {s0 : Int32} : eb_E L d 253 656 ls ([a3, a2, a1, a0, zi s0]) M = (eb_ev L d 163 [a0, a1, a2, a3] M).bind (fun q => eb_E L d 253 659 ls [q.1, zi s0] q.2) := eb_E_c hk253 rfl
theorem e253_659 {x : Int32} {y : Int32} : eb_E L d 253 659 ls (zi y :: zi x :: st) M = if x = y then eb_E L d 253 1948 ls st M else eb_E L d 253 662 ls st M := eb_E_b hk253 rfl
theorem e253_662  : eb_E L d 253 662 ls (st) M = eb_E L d 253 663 ls (zi 0 :: st) M := eb_E_s hk253 rfl
theorem e253_663 {x : Int32} : eb_E L d 253 663 ls ([zi x]) M = if x = 0 ∨ x = 1 then some (zi x, M) else none := eb_E_ri hk253 rfl
theorem e253_664 {x : Option eb_A} : eb_E L d 253 664 [v0, some (Sum.inr x), v2, v3] (st) M = eb_E L d 253 665 [v0, some (Sum.inr x), v2, v3] (Sum.inr x :: st) M := eb_E_s hk253 rfl
theorem e253_665 {x : Option eb_A} : eb_E L d 253 665 [some (Sum.inr x), v1, v2, v3] (st) M = eb_E L d 253 666 [some (Sum.inr x), v1, v2, v3] (Sum.inr x :: st) M := eb_E_s hk253 rfl
theorem e253_666 {x : Int32} : eb_E L d 253 666 [v0, v1, v2, some (zi x)] (st) M = eb_E L d 253 667 [v0, v1, v2, some (zi x)] (zi x :: st) M := eb_E_s hk253 rfl
theorem e253_667  : eb_E L d 253 667 ls (st) M = eb_E L d 253 668 ls (zi 1 :: st) M := eb_E_s hk253 rfl
theorem e253_668 {x : Int32} {y : Int32} : eb_E L d 253 668 ls (zi y :: zi x :: st) M = eb_E L d 253 669 ls (zi (x + y) :: st) M := eb_E_s hk253 rfl
theorem e253_669 {x : Int32} : eb_E L d 253 669 ls (zi x :: Sum.inr (some a) :: st) (nc, ns, I, J, R) = if (eb_ty L a.1).1 = 17 ∧ eb_in x (eb_ty L a.1).2 = true then eb_E L d 253 670 ls (zi (I a x.toNatClampNeg) :: st) (nc, ns, I, J, R) else none := eb_E_iy hk253 rfl
theorem e253_670 {x : Option eb_A} : eb_E L d 253 670 [some (Sum.inr x), v1, v2, v3] (st) M = eb_E L d 253 671 [some (Sum.inr x), v1, v2, v3] (Sum.inr x :: st) M := eb_E_s hk253 rfl
theorem e253_671 {x : Int32} : eb_E L d 253 671 [v0, v1, v2, some (zi x)] (st) M = eb_E L d 253 672 [v0, v1, v2, some (zi x)] (zi x :: st) M := eb_E_s hk253 rfl
theorem e253_672  : eb_E L d 253 672 ls (st) M = eb_E L d 253 673 ls (zi 2 :: st) M := eb_E_s hk253 rfl
theorem e253_673 {x : Int32} {y : Int32} : eb_E L d 253 673 ls (zi y :: zi x :: st) M = eb_E L d 253 674 ls (zi (x + y) :: st) M := eb_E_s hk253 rfl
theorem e253_674 {x : Int32} : eb_E L d 253 674 ls (zi x :: Sum.inr (some a) :: st) (nc, ns, I, J, R) = if (eb_ty L a.1).1 = 17 ∧ eb_in x (eb_ty L a.1).2 = true then eb_E L d 253 675 ls (zi (I a x.toNatClampNeg) :: st) (nc, ns, I, J, R) else none := eb_E_iy hk253 rfl
theorem e253_675 {x : Option eb_A} : eb_E L d 253 675 [some (Sum.inr x), v1, v2, v3] (st) M = eb_E L d 253 676 [some (Sum.inr x), v1, v2, v3] (Sum.inr x :: st) M := eb_E_s hk253 rfl
theorem e253_676 {x : Int32} : eb_E L d 253 676 [v0, v1, v2, some (zi x)] (st) M = eb_E L d 253 677 [v0, v1, v2, some (zi x)] (zi x :: st) M := eb_E_s hk253 rfl
theorem e253_677  : eb_E L d 253 677 ls (st) M = eb_E L d 253 678 ls (zi 3 :: st) M := eb_E_s hk253 rfl
theorem e253_678 {x : Int32} {y : Int32} : eb_E L d 253 678 ls (zi y :: zi x :: st) M = eb_E L d 253 679 ls (zi (x + y) :: st) M := eb_E_s hk253 rfl
theorem e253_679 {x : Int32} : eb_E L d 253 679 ls (zi x :: Sum.inr (some a) :: st) (nc, ns, I, J, R) = if (eb_ty L a.1).1 = 17 ∧ eb_in x (eb_ty L a.1).2 = true then eb_E L d 253 680 ls (zi (I a x.toNatClampNeg) :: st) (nc, ns, I, J, R) else none := eb_E_iy hk253 rfl
theorem e253_680  : eb_E L d 253 680 ls ([a3, a2, a1, a0]) M = (eb_ev L d 77 [a0, a1, a2, a3] M).bind (fun q => eb_E L d 253 683 ls [q.1] q.2) := eb_E_c hk253 rfl
theorem e253_683 {x : Option eb_A} : eb_E L d 253 683 [v0, v1, some (Sum.inr x), v3] (st) M = eb_E L d 253 684 [v0, v1, some (Sum.inr x), v3] (Sum.inr x :: st) M := eb_E_s hk253 rfl
theorem e253_684 {x : Option eb_A} : eb_E L d 253 684 [some (Sum.inr x), v1, v2, v3] (st) M = eb_E L d 253 685 [some (Sum.inr x), v1, v2, v3] (Sum.inr x :: st) M := eb_E_s hk253 rfl
theorem e253_685 {x : Int32} : eb_E L d 253 685 [v0, v1, v2, some (zi x)] (st) M = eb_E L d 253 686 [v0, v1, v2, some (zi x)] (zi x :: st) M := eb_E_s hk253 rfl
theorem e253_686  : eb_E L d 253 686 ls (st) M = eb_E L d 253 687 ls (zi 1 :: st) M := eb_E_s hk253 rfl
theorem e253_687 {x : Int32} {y : Int32} : eb_E L d 253 687 ls (zi y :: zi x :: st) M = eb_E L d 253 688 ls (zi (x + y) :: st) M := eb_E_s hk253 rfl
theorem e253_688 {x : Int32} : eb_E L d 253 688 ls (zi x :: Sum.inr (some a) :: st) (nc, ns, I, J, R) = if (eb_ty L a.1).1 = 17 ∧ eb_in x (eb_ty L a.1).2 = true then eb_E L d 253 689 ls (zi (I a x.toNatClampNeg) :: st) (nc, ns, I, J, R) else none := eb_E_iy hk253 rfl
theorem e253_689 {x : Option eb_A} : eb_E L d 253 689 [some (Sum.inr x), v1, v2, v3] (st) M = eb_E L d 253 690 [some (Sum.inr x), v1, v2, v3] (Sum.inr x :: st) M := eb_E_s hk253 rfl
theorem e253_690 {x : Int32} : eb_E L d 253 690 [v0, v1, v2, some (zi x)] (st) M = eb_E L d 253 691 [v0, v1, v2, some (zi x)] (zi x :: st) M := eb_E_s hk253 rfl
theorem e253_691  : eb_E L d 253 691 ls (st) M = eb_E L d 253 692 ls (zi 2 :: st) M := eb_E_s hk253 rfl
theorem e253_692 {x : Int32} {y : Int32} : eb_E L d 253 692 ls (zi y :: zi x :: st) M = eb_E L d 253 693 ls (zi (x + y) :: st) M := eb_E_s hk253 rfl
theorem e253_693 {x : Int32} : eb_E L d 253 693 ls (zi x :: Sum.inr (some a) :: st) (nc, ns, I, J, R) = if (eb_ty L a.1).1 = 17 ∧ eb_in x (eb_ty L a.1).2 = true then eb_E L d 253 694 ls (zi (I a x.toNatClampNeg) :: st) (nc, ns, I, J, R) else none := eb_E_iy hk253 rfl
theorem e253_694 {x : Option eb_A} : eb_E L d 253 694 [some (Sum.inr x), v1, v2, v3] (st) M = eb_E L d 253 695 [some (Sum.inr x), v1, v2, v3] (Sum.inr x :: st) M := eb_E_s hk253 rfl
theorem e253_695 {x : Int32} : eb_E L d 253 695 [v0, v1, v2, some (zi x)] (st) M = eb_E L d 253 696 [v0, v1, v2, some (zi x)] (zi x :: st) M := eb_E_s hk253 rfl
theorem e253_696  : eb_E L d 253 696 ls (st) M = eb_E L d 253 697 ls (zi 3 :: st) M := eb_E_s hk253 rfl
theorem e253_697 {x : Int32} {y : Int32} : eb_E L d 253 697 ls (zi y :: zi x :: st) M = eb_E L d 253 698 ls (zi (x + y) :: st) M := eb_E_s hk253 rfl
theorem e253_698 {x : Int32} : eb_E L d 253 698 ls (zi x :: Sum.inr (some a) :: st) (nc, ns, I, J, R) = if (eb_ty L a.1).1 = 17 ∧ eb_in x (eb_ty L a.1).2 = true then eb_E L d 253 699 ls (zi (I a x.toNatClampNeg) :: st) (nc, ns, I, J, R) else none := eb_E_iy hk253 rfl
theorem e253_699 {s0 : Int32} : eb_E L d 253 699 ls ([a3, a2, a1, a0, zi s0]) M = (eb_ev L d 164 [a0, a1, a2, a3] M).bind (fun q => eb_E L d 253 702 ls [q.1, zi s0] q.2) := eb_E_c hk253 rfl
theorem e253_702 {x : Int32} {y : Int32} : eb_E L d 253 702 ls (zi y :: zi x :: st) M = if x = y then eb_E L d 253 1948 ls st M else eb_E L d 253 705 ls st M := eb_E_b hk253 rfl
theorem e253_705  : eb_E L d 253 705 ls (st) M = eb_E L d 253 706 ls (zi 0 :: st) M := eb_E_s hk253 rfl
theorem e253_706 {x : Int32} : eb_E L d 253 706 ls ([zi x]) M = if x = 0 ∨ x = 1 then some (zi x, M) else none := eb_E_ri hk253 rfl
theorem e253_707 {x : Option eb_A} : eb_E L d 253 707 [v0, some (Sum.inr x), v2, v3] (st) M = eb_E L d 253 708 [v0, some (Sum.inr x), v2, v3] (Sum.inr x :: st) M := eb_E_s hk253 rfl
theorem e253_708 {x : Option eb_A} : eb_E L d 253 708 [some (Sum.inr x), v1, v2, v3] (st) M = eb_E L d 253 709 [some (Sum.inr x), v1, v2, v3] (Sum.inr x :: st) M := eb_E_s hk253 rfl
theorem e253_709 {x : Int32} : eb_E L d 253 709 [v0, v1, v2, some (zi x)] (st) M = eb_E L d 253 710 [v0, v1, v2, some (zi x)] (zi x :: st) M := eb_E_s hk253 rfl
theorem e253_710  : eb_E L d 253 710 ls (st) M = eb_E L d 253 711 ls (zi 1 :: st) M := eb_E_s hk253 rfl
theorem e253_711 {x : Int32} {y : Int32} : eb_E L d 253 711 ls (zi y :: zi x :: st) M = eb_E L d 253 712 ls (zi (x + y) :: st) M := eb_E_s hk253 rfl
theorem e253_712 {x : Int32} : eb_E L d 253 712 ls (zi x :: Sum.inr (some a) :: st) (nc, ns, I, J, R) = if (eb_ty L a.1).1 = 17 ∧ eb_in x (eb_ty L a.1).2 = true then eb_E L d 253 713 ls (zi (I a x.toNatClampNeg) :: st) (nc, ns, I, J, R) else none := eb_E_iy hk253 rfl
theorem e253_713 {x : Option eb_A} : eb_E L d 253 713 [some (Sum.inr x), v1, v2, v3] (st) M = eb_E L d 253 714 [some (Sum.inr x), v1, v2, v3] (Sum.inr x :: st) M := eb_E_s hk253 rfl
theorem e253_714 {x : Int32} : eb_E L d 253 714 [v0, v1, v2, some (zi x)] (st) M = eb_E L d 253 715 [v0, v1, v2, some (zi x)] (zi x :: st) M := eb_E_s hk253 rfl
theorem e253_715  : eb_E L d 253 715 ls (st) M = eb_E L d 253 716 ls (zi 2 :: st) M := eb_E_s hk253 rfl
theorem e253_716 {x : Int32} {y : Int32} : eb_E L d 253 716 ls (zi y :: zi x :: st) M = eb_E L d 253 717 ls (zi (x + y) :: st) M := eb_E_s hk253 rfl
theorem e253_717 {x : Int32} : eb_E L d 253 717 ls (zi x :: Sum.inr (some a) :: st) (nc, ns, I, J, R) = if (eb_ty L a.1).1 = 17 ∧ eb_in x (eb_ty L a.1).2 = true then eb_E L d 253 718 ls (zi (I a x.toNatClampNeg) :: st) (nc, ns, I, J, R) else none := eb_E_iy hk253 rfl
theorem e253_718  : eb_E L d 253 718 ls ([a2, a1, a0]) M = (eb_ev L d 78 [a0, a1, a2] M).bind (fun q => eb_E L d 253 721 ls [q.1] q.2) := eb_E_c hk253 rfl
theorem e253_721 {x : Option eb_A} : eb_E L d 253 721 [v0, v1, some (Sum.inr x), v3] (st) M = eb_E L d 253 722 [v0, v1, some (Sum.inr x), v3] (Sum.inr x :: st) M := eb_E_s hk253 rfl
theorem e253_722 {x : Option eb_A} : eb_E L d 253 722 [some (Sum.inr x), v1, v2, v3] (st) M = eb_E L d 253 723 [some (Sum.inr x), v1, v2, v3] (Sum.inr x :: st) M := eb_E_s hk253 rfl
theorem e253_723 {x : Int32} : eb_E L d 253 723 [v0, v1, v2, some (zi x)] (st) M = eb_E L d 253 724 [v0, v1, v2, some (zi x)] (zi x :: st) M := eb_E_s hk253 rfl
theorem e253_724  : eb_E L d 253 724 ls (st) M = eb_E L d 253 725 ls (zi 1 :: st) M := eb_E_s hk253 rfl
theorem e253_725 {x : Int32} {y : Int32} : eb_E L d 253 725 ls (zi y :: zi x :: st) M = eb_E L d 253 726 ls (zi (x + y) :: st) M := eb_E_s hk253 rfl
theorem e253_726 {x : Int32} : eb_E L d 253 726 ls (zi x :: Sum.inr (some a) :: st) (nc, ns, I, J, R) = if (eb_ty L a.1).1 = 17 ∧ eb_in x (eb_ty L a.1).2 = true then eb_E L d 253 727 ls (zi (I a x.toNatClampNeg) :: st) (nc, ns, I, J, R) else none := eb_E_iy hk253 rfl
theorem e253_727 {x : Option eb_A} : eb_E L d 253 727 [some (Sum.inr x), v1, v2, v3] (st) M = eb_E L d 253 728 [some (Sum.inr x), v1, v2, v3] (Sum.inr x :: st) M := eb_E_s hk253 rfl
theorem e253_728 {x : Int32} : eb_E L d 253 728 [v0, v1, v2, some (zi x)] (st) M = eb_E L d 253 729 [v0, v1, v2, some (zi x)] (zi x :: st) M := eb_E_s hk253 rfl
theorem e253_729  : eb_E L d 253 729 ls (st) M = eb_E L d 253 730 ls (zi 2 :: st) M := eb_E_s hk253 rfl
theorem e253_730 {x : Int32} {y : Int32} : eb_E L d 253 730 ls (zi y :: zi x :: st) M = eb_E L d 253 731 ls (zi (x + y) :: st) M := eb_E_s hk253 rfl
theorem e253_731 {x : Int32} : eb_E L d 253 731 ls (zi x :: Sum.inr (some a) :: st) (nc, ns, I, J, R) = if (eb_ty L a.1).1 = 17 ∧ eb_in x (eb_ty L a.1).2 = true then eb_E L d 253 732 ls (zi (I a x.toNatClampNeg) :: st) (nc, ns, I, J, R) else none := eb_E_iy hk253 rfl
theorem e253_732 {s0 : Int32} : eb_E L d 253 732 ls ([a2, a1, a0, zi s0]) M = (eb_ev L d 165 [a0, a1, a2] M).bind (fun q => eb_E L d 253 735 ls [q.1, zi s0] q.2) := eb_E_c hk253 rfl
theorem e253_735 {x : Int32} {y : Int32} : eb_E L d 253 735 ls (zi y :: zi x :: st) M = if x = y then eb_E L d 253 1948 ls st M else eb_E L d 253 738 ls st M := eb_E_b hk253 rfl
theorem e253_738  : eb_E L d 253 738 ls (st) M = eb_E L d 253 739 ls (zi 0 :: st) M := eb_E_s hk253 rfl
theorem e253_739 {x : Int32} : eb_E L d 253 739 ls ([zi x]) M = if x = 0 ∨ x = 1 then some (zi x, M) else none := eb_E_ri hk253 rfl
theorem e253_740 {x : Option eb_A} : eb_E L d 253 740 [v0, some (Sum.inr x), v2, v3] (st) M = eb_E L d 253 741 [v0, some (Sum.inr x), v2, v3] (Sum.inr x :: st) M := eb_E_s hk253 rfl
theorem e253_741 {x : Option eb_A} : eb_E L d 253 741 [some (Sum.inr x), v1, v2, v3] (st) M = eb_E L d 253 742 [some (Sum.inr x), v1, v2, v3] (Sum.inr x :: st) M := eb_E_s hk253 rfl
theorem e253_742 {x : Int32} : eb_E L d 253 742 [v0, v1, v2, some (zi x)] (st) M = eb_E L d 253 743 [v0, v1, v2, some (zi x)] (zi x :: st) M := eb_E_s hk253 rfl
theorem e253_743  : eb_E L d 253 743 ls (st) M = eb_E L d 253 744 ls (zi 1 :: st) M := eb_E_s hk253 rfl
theorem e253_744 {x : Int32} {y : Int32} : eb_E L d 253 744 ls (zi y :: zi x :: st) M = eb_E L d 253 745 ls (zi (x + y) :: st) M := eb_E_s hk253 rfl
theorem e253_745 {x : Int32} : eb_E L d 253 745 ls (zi x :: Sum.inr (some a) :: st) (nc, ns, I, J, R) = if (eb_ty L a.1).1 = 17 ∧ eb_in x (eb_ty L a.1).2 = true then eb_E L d 253 746 ls (zi (I a x.toNatClampNeg) :: st) (nc, ns, I, J, R) else none := eb_E_iy hk253 rfl
theorem e253_746  : eb_E L d 253 746 ls ([a1, a0]) M = (eb_ev L d 79 [a0, a1] M).bind (fun q => eb_E L d 253 749 ls [q.1] q.2) := eb_E_c hk253 rfl
theorem e253_749 {x : Option eb_A} : eb_E L d 253 749 [v0, v1, some (Sum.inr x), v3] (st) M = eb_E L d 253 750 [v0, v1, some (Sum.inr x), v3] (Sum.inr x :: st) M := eb_E_s hk253 rfl
theorem e253_750 {x : Option eb_A} : eb_E L d 253 750 [some (Sum.inr x), v1, v2, v3] (st) M = eb_E L d 253 751 [some (Sum.inr x), v1, v2, v3] (Sum.inr x :: st) M := eb_E_s hk253 rfl
theorem e253_751 {x : Int32} : eb_E L d 253 751 [v0, v1, v2, some (zi x)] (st) M = eb_E L d 253 752 [v0, v1, v2, some (zi x)] (zi x :: st) M := eb_E_s hk253 rfl
theorem e253_752  : eb_E L d 253 752 ls (st) M = eb_E L d 253 753 ls (zi 1 :: st) M := eb_E_s hk253 rfl
theorem e253_753 {x : Int32} {y : Int32} : eb_E L d 253 753 ls (zi y :: zi x :: st) M = eb_E L d 253 754 ls (zi (x + y) :: st) M := eb_E_s hk253 rfl
theorem e253_754 {x : Int32} : eb_E L d 253 754 ls (zi x :: Sum.inr (some a) :: st) (nc, ns, I, J, R) = if (eb_ty L a.1).1 = 17 ∧ eb_in x (eb_ty L a.1).2 = true then eb_E L d 253 755 ls (zi (I a x.toNatClampNeg) :: st) (nc, ns, I, J, R) else none := eb_E_iy hk253 rfl
theorem e253_755 {s0 : Int32} : eb_E L d 253 755 ls ([a1, a0, zi s0]) M = (eb_ev L d 168 [a0, a1] M).bind (fun q => eb_E L d 253 758 ls [q.1, zi s0] q.2) := eb_E_c hk253 rfl
theorem e253_758 {x : Int32} {y : Int32} : eb_E L d 253 758 ls (zi y :: zi x :: st) M = if x = y then eb_E L d 253 1948 ls st M else eb_E L d 253 761 ls st M := eb_E_b hk253 rfl
theorem e253_761  : eb_E L d 253 761 ls (st) M = eb_E L d 253 762 ls (zi 0 :: st) M := eb_E_s hk253 rfl
theorem e253_762 {x : Int32} : eb_E L d 253 762 ls ([zi x]) M = if x = 0 ∨ x = 1 then some (zi x, M) else none := eb_E_ri hk253 rfl
theorem e253_763 {x : Option eb_A} : eb_E L d 253 763 [v0, some (Sum.inr x), v2, v3] (st) M = eb_E L d 253 764 [v0, some (Sum.inr x), v2, v3] (Sum.inr x :: st) M := eb_E_s hk253 rfl
theorem e253_764 {x : Option eb_A} : eb_E L d 253 764 [some (Sum.inr x), v1, v2, v3] (st) M = eb_E L d 253 765 [some (Sum.inr x), v1, v2, v3] (Sum.inr x :: st) M := eb_E_s hk253 rfl
theorem e253_765 {x : Int32} : eb_E L d 253 765 [v0, v1, v2, some (zi x)] (st) M = eb_E L d 253 766 [v0, v1, v2, some (zi x)] (zi x :: st) M := eb_E_s hk253 rfl
theorem e253_766  : eb_E L d 253 766 ls (st) M = eb_E L d 253 767 ls (zi 1 :: st) M := eb_E_s hk253 rfl
theorem e253_767 {x : Int32} {y : Int32} : eb_E L d 253 767 ls (zi y :: zi x :: st) M = eb_E L d 253 768 ls (zi (x + y) :: st) M := eb_E_s hk253 rfl
theorem e253_768 {x : Int32} : eb_E L d 253 768 ls (zi x :: Sum.inr (some a) :: st) (nc, ns, I, J, R) = if (eb_ty L a.1).1 = 17 ∧ eb_in x (eb_ty L a.1).2 = true then eb_E L d 253 769 ls (zi (I a x.toNatClampNeg) :: st) (nc, ns, I, J, R) else none := eb_E_iy hk253 rfl
theorem e253_769 {x : Option eb_A} : eb_E L d 253 769 [some (Sum.inr x), v1, v2, v3] (st) M = eb_E L d 253 770 [some (Sum.inr x), v1, v2, v3] (Sum.inr x :: st) M := eb_E_s hk253 rfl
theorem e253_770 {x : Int32} : eb_E L d 253 770 [v0, v1, v2, some (zi x)] (st) M = eb_E L d 253 771 [v0, v1, v2, some (zi x)] (zi x :: st) M := eb_E_s hk253 rfl
theorem e253_771  : eb_E L d 253 771 ls (st) M = eb_E L d 253 772 ls (zi 2 :: st) M := eb_E_s hk253 rfl
theorem e253_772 {x : Int32} {y : Int32} : eb_E L d 253 772 ls (zi y :: zi x :: st) M = eb_E L d 253 773 ls (zi (x + y) :: st) M := eb_E_s hk253 rfl
theorem e253_773 {x : Int32} : eb_E L d 253 773 ls (zi x :: Sum.inr (some a) :: st) (nc, ns, I, J, R) = if (eb_ty L a.1).1 = 17 ∧ eb_in x (eb_ty L a.1).2 = true then eb_E L d 253 774 ls (zi (I a x.toNatClampNeg) :: st) (nc, ns, I, J, R) else none := eb_E_iy hk253 rfl
theorem e253_774  : eb_E L d 253 774 ls ([a2, a1, a0]) M = (eb_ev L d 80 [a0, a1, a2] M).bind (fun q => eb_E L d 253 777 ls [q.1] q.2) := eb_E_c hk253 rfl
theorem e253_777 {x : Option eb_A} : eb_E L d 253 777 [v0, v1, some (Sum.inr x), v3] (st) M = eb_E L d 253 778 [v0, v1, some (Sum.inr x), v3] (Sum.inr x :: st) M := eb_E_s hk253 rfl
theorem e253_778 {x : Option eb_A} : eb_E L d 253 778 [some (Sum.inr x), v1, v2, v3] (st) M = eb_E L d 253 779 [some (Sum.inr x), v1, v2, v3] (Sum.inr x :: st) M := eb_E_s hk253 rfl
theorem e253_779 {x : Int32} : eb_E L d 253 779 [v0, v1, v2, some (zi x)] (st) M = eb_E L d 253 780 [v0, v1, v2, some (zi x)] (zi x :: st) M := eb_E_s hk253 rfl
theorem e253_780  : eb_E L d 253 780 ls (st) M = eb_E L d 253 781 ls (zi 1 :: st) M := eb_E_s hk253 rfl
theorem e253_781 {x : Int32} {y : Int32} : eb_E L d 253 781 ls (zi y :: zi x :: st) M = eb_E L d 253 782 ls (zi (x + y) :: st) M := eb_E_s hk253 rfl
theorem e253_782 {x : Int32} : eb_E L d 253 782 ls (zi x :: Sum.inr (some a) :: st) (nc, ns, I, J, R) = if (eb_ty L a.1).1 = 17 ∧ eb_in x (eb_ty L a.1).2 = true then eb_E L d 253 783 ls (zi (I a x.toNatClampNeg) :: st) (nc, ns, I, J, R) else none := eb_E_iy hk253 rfl
theorem e253_783 {x : Option eb_A} : eb_E L d 253 783 [some (Sum.inr x), v1, v2, v3] (st) M = eb_E L d 253 784 [some (Sum.inr x), v1, v2, v3] (Sum.inr x :: st) M := eb_E_s hk253 rfl
theorem e253_784 {x : Int32} : eb_E L d 253 784 [v0, v1, v2, some (zi x)] (st) M = eb_E L d 253 785 [v0, v1, v2, some (zi x)] (zi x :: st) M := eb_E_s hk253 rfl
theorem e253_785  : eb_E L d 253 785 ls (st) M = eb_E L d 253 786 ls (zi 2 :: st) M := eb_E_s hk253 rfl
theorem e253_786 {x : Int32} {y : Int32} : eb_E L d 253 786 ls (zi y :: zi x :: st) M = eb_E L d 253 787 ls (zi (x + y) :: st) M := eb_E_s hk253 rfl
theorem e253_787 {x : Int32} : eb_E L d 253 787 ls (zi x :: Sum.inr (some a) :: st) (nc, ns, I, J, R) = if (eb_ty L a.1).1 = 17 ∧ eb_in x (eb_ty L a.1).2 = true then eb_E L d 253 788 ls (zi (I a x.toNatClampNeg) :: st) (nc, ns, I, J, R) else none := eb_E_iy hk253 rfl
theorem e253_788 {s0 : Int32} : eb_E L d 253 788 ls ([a2, a1, a0, zi s0]) M = (eb_ev L d 170 [a0, a1, a2] M).bind (fun q => eb_E L d 253 791 ls [q.1, zi s0] q.2) := eb_E_c hk253 rfl
theorem e253_791 {x : Int32} {y : Int32} : eb_E L d 253 791 ls (zi y :: zi x :: st) M = if x = y then eb_E L d 253 1948 ls st M else eb_E L d 253 794 ls st M := eb_E_b hk253 rfl
theorem e253_794  : eb_E L d 253 794 ls (st) M = eb_E L d 253 795 ls (zi 0 :: st) M := eb_E_s hk253 rfl
theorem e253_795 {x : Int32} : eb_E L d 253 795 ls ([zi x]) M = if x = 0 ∨ x = 1 then some (zi x, M) else none := eb_E_ri hk253 rfl
theorem e253_796 {x : Option eb_A} : eb_E L d 253 796 [v0, some (Sum.inr x), v2, v3] (st) M = eb_E L d 253 797 [v0, some (Sum.inr x), v2, v3] (Sum.inr x :: st) M := eb_E_s hk253 rfl
theorem e253_797 {x : Option eb_A} : eb_E L d 253 797 [some (Sum.inr x), v1, v2, v3] (st) M = eb_E L d 253 798 [some (Sum.inr x), v1, v2, v3] (Sum.inr x :: st) M := eb_E_s hk253 rfl
theorem e253_798 {x : Int32} : eb_E L d 253 798 [v0, v1, v2, some (zi x)] (st) M = eb_E L d 253 799 [v0, v1, v2, some (zi x)] (zi x :: st) M := eb_E_s hk253 rfl
theorem e253_799  : eb_E L d 253 799 ls (st) M = eb_E L d 253 800 ls (zi 1 :: st) M := eb_E_s hk253 rfl
theorem e253_800 {x : Int32} {y : Int32} : eb_E L d 253 800 ls (zi y :: zi x :: st) M = eb_E L d 253 801 ls (zi (x + y) :: st) M := eb_E_s hk253 rfl
theorem e253_801 {x : Int32} : eb_E L d 253 801 ls (zi x :: Sum.inr (some a) :: st) (nc, ns, I, J, R) = if (eb_ty L a.1).1 = 17 ∧ eb_in x (eb_ty L a.1).2 = true then eb_E L d 253 802 ls (zi (I a x.toNatClampNeg) :: st) (nc, ns, I, J, R) else none := eb_E_iy hk253 rfl
theorem e253_802  : eb_E L d 253 802 ls ([a1, a0]) M = (eb_ev L d 81 [a0, a1] M).bind (fun q => eb_E L d 253 805 ls [q.1] q.2) := eb_E_c hk253 rfl
theorem e253_805 {x : Option eb_A} : eb_E L d 253 805 [v0, v1, some (Sum.inr x), v3] (st) M = eb_E L d 253 806 [v0, v1, some (Sum.inr x), v3] (Sum.inr x :: st) M := eb_E_s hk253 rfl
theorem e253_806 {x : Option eb_A} : eb_E L d 253 806 [some (Sum.inr x), v1, v2, v3] (st) M = eb_E L d 253 807 [some (Sum.inr x), v1, v2, v3] (Sum.inr x :: st) M := eb_E_s hk253 rfl
theorem e253_807 {x : Int32} : eb_E L d 253 807 [v0, v1, v2, some (zi x)] (st) M = eb_E L d 253 808 [v0, v1, v2, some (zi x)] (zi x :: st) M := eb_E_s hk253 rfl
theorem e253_808  : eb_E L d 253 808 ls (st) M = eb_E L d 253 809 ls (zi 1 :: st) M := eb_E_s hk253 rfl
theorem e253_809 {x : Int32} {y : Int32} : eb_E L d 253 809 ls (zi y :: zi x :: st) M = eb_E L d 253 810 ls (zi (x + y) :: st) M := eb_E_s hk253 rfl
theorem e253_810 {x : Int32} : eb_E L d 253 810 ls (zi x :: Sum.inr (some a) :: st) (nc, ns, I, J, R) = if (eb_ty L a.1).1 = 17 ∧ eb_in x (eb_ty L a.1).2 = true then eb_E L d 253 811 ls (zi (I a x.toNatClampNeg) :: st) (nc, ns, I, J, R) else none := eb_E_iy hk253 rfl
theorem e253_811 {s0 : Int32} : eb_E L d 253 811 ls ([a1, a0, zi s0]) M = (eb_ev L d 171 [a0, a1] M).bind (fun q => eb_E L d 253 814 ls [q.1, zi s0] q.2) := eb_E_c hk253 rfl
theorem e253_814 {x : Int32} {y : Int32} : eb_E L d 253 814 ls (zi y :: zi x :: st) M = if x = y then eb_E L d 253 1948 ls st M else eb_E L d 253 817 ls st M := eb_E_b hk253 rfl
theorem e253_817  : eb_E L d 253 817 ls (st) M = eb_E L d 253 818 ls (zi 0 :: st) M := eb_E_s hk253 rfl
theorem e253_818 {x : Int32} : eb_E L d 253 818 ls ([zi x]) M = if x = 0 ∨ x = 1 then some (zi x, M) else none := eb_E_ri hk253 rfl
theorem e253_819 {x : Option eb_A} : eb_E L d 253 819 [v0, some (Sum.inr x), v2, v3] (st) M = eb_E L d 253 820 [v0, some (Sum.inr x), v2, v3] (Sum.inr x :: st) M := eb_E_s hk253 rfl
theorem e253_820 {x : Option eb_A} : eb_E L d 253 820 [some (Sum.inr x), v1, v2, v3] (st) M = eb_E L d 253 821 [some (Sum.inr x), v1, v2, v3] (Sum.inr x :: st) M := eb_E_s hk253 rfl
theorem e253_821 {x : Int32} : eb_E L d 253 821 [v0, v1, v2, some (zi x)] (st) M = eb_E L d 253 822 [v0, v1, v2, some (zi x)] (zi x :: st) M := eb_E_s hk253 rfl
theorem e253_822  : eb_E L d 253 822 ls (st) M = eb_E L d 253 823 ls (zi 1 :: st) M := eb_E_s hk253 rfl
theorem e253_823 {x : Int32} {y : Int32} : eb_E L d 253 823 ls (zi y :: zi x :: st) M = eb_E L d 253 824 ls (zi (x + y) :: st) M := eb_E_s hk253 rfl
theorem e253_824 {x : Int32} : eb_E L d 253 824 ls (zi x :: Sum.inr (some a) :: st) (nc, ns, I, J, R) = if (eb_ty L a.1).1 = 17 ∧ eb_in x (eb_ty L a.1).2 = true then eb_E L d 253 825 ls (zi (I a x.toNatClampNeg) :: st) (nc, ns, I, J, R) else none := eb_E_iy hk253 rfl
theorem e253_825 {x : Option eb_A} : eb_E L d 253 825 [some (Sum.inr x), v1, v2, v3] (st) M = eb_E L d 253 826 [some (Sum.inr x), v1, v2, v3] (Sum.inr x :: st) M := eb_E_s hk253 rfl
theorem e253_826 {x : Int32} : eb_E L d 253 826 [v0, v1, v2, some (zi x)] (st) M = eb_E L d 253 827 [v0, v1, v2, some (zi x)] (zi x :: st) M := eb_E_s hk253 rfl
theorem e253_827  : eb_E L d 253 827 ls (st) M = eb_E L d 253 828 ls (zi 2 :: st) M := eb_E_s hk253 rfl
theorem e253_828 {x : Int32} {y : Int32} : eb_E L d 253 828 ls (zi y :: zi x :: st) M = eb_E L d 253 829 ls (zi (x + y) :: st) M := eb_E_s hk253 rfl
theorem e253_829 {x : Int32} : eb_E L d 253 829 ls (zi x :: Sum.inr (some a) :: st) (nc, ns, I, J, R) = if (eb_ty L a.1).1 = 17 ∧ eb_in x (eb_ty L a.1).2 = true then eb_E L d 253 830 ls (zi (I a x.toNatClampNeg) :: st) (nc, ns, I, J, R) else none := eb_E_iy hk253 rfl
theorem e253_830  : eb_E L d 253 830 ls ([a2, a1, a0]) M = (eb_ev L d 82 [a0, a1, a2] M).bind (fun q => eb_E L d 253 833 ls [q.1] q.2) := eb_E_c hk253 rfl
theorem e253_833 {x : Option eb_A} : eb_E L d 253 833 [v0, v1, some (Sum.inr x), v3] (st) M = eb_E L d 253 834 [v0, v1, some (Sum.inr x), v3] (Sum.inr x :: st) M := eb_E_s hk253 rfl
theorem e253_834 {x : Option eb_A} : eb_E L d 253 834 [some (Sum.inr x), v1, v2, v3] (st) M = eb_E L d 253 835 [some (Sum.inr x), v1, v2, v3] (Sum.inr x :: st) M := eb_E_s hk253 rfl
theorem e253_835 {x : Int32} : eb_E L d 253 835 [v0, v1, v2, some (zi x)] (st) M = eb_E L d 253 836 [v0, v1, v2, some (zi x)] (zi x :: st) M := eb_E_s hk253 rfl
theorem e253_836  : eb_E L d 253 836 ls (st) M = eb_E L d 253 837 ls (zi 1 :: st) M := eb_E_s hk253 rfl
theorem e253_837 {x : Int32} {y : Int32} : eb_E L d 253 837 ls (zi y :: zi x :: st) M = eb_E L d 253 838 ls (zi (x + y) :: st) M := eb_E_s hk253 rfl
theorem e253_838 {x : Int32} : eb_E L d 253 838 ls (zi x :: Sum.inr (some a) :: st) (nc, ns, I, J, R) = if (eb_ty L a.1).1 = 17 ∧ eb_in x (eb_ty L a.1).2 = true then eb_E L d 253 839 ls (zi (I a x.toNatClampNeg) :: st) (nc, ns, I, J, R) else none := eb_E_iy hk253 rfl
theorem e253_839 {x : Option eb_A} : eb_E L d 253 839 [some (Sum.inr x), v1, v2, v3] (st) M = eb_E L d 253 840 [some (Sum.inr x), v1, v2, v3] (Sum.inr x :: st) M := eb_E_s hk253 rfl
theorem e253_840 {x : Int32} : eb_E L d 253 840 [v0, v1, v2, some (zi x)] (st) M = eb_E L d 253 841 [v0, v1, v2, some (zi x)] (zi x :: st) M := eb_E_s hk253 rfl
theorem e253_841  : eb_E L d 253 841 ls (st) M = eb_E L d 253 842 ls (zi 2 :: st) M := eb_E_s hk253 rfl
theorem e253_842 {x : Int32} {y : Int32} : eb_E L d 253 842 ls (zi y :: zi x :: st) M = eb_E L d 253 843 ls (zi (x + y) :: st) M := eb_E_s hk253 rfl
theorem e253_843 {x : Int32} : eb_E L d 253 843 ls (zi x :: Sum.inr (some a) :: st) (nc, ns, I, J, R) = if (eb_ty L a.1).1 = 17 ∧ eb_in x (eb_ty L a.1).2 = true then eb_E L d 253 844 ls (zi (I a x.toNatClampNeg) :: st) (nc, ns, I, J, R) else none := eb_E_iy hk253 rfl
theorem e253_844 {s0 : Int32} : eb_E L d 253 844 ls ([a2, a1, a0, zi s0]) M = (eb_ev L d 172 [a0, a1, a2] M).bind (fun q => eb_E L d 253 847 ls [q.1, zi s0] q.2) := eb_E_c hk253 rfl
theorem e253_847 {x : Int32} {y : Int32} : eb_E L d 253 847 ls (zi y :: zi x :: st) M = if x = y then eb_E L d 253 1948 ls st M else eb_E L d 253 850 ls st M := eb_E_b hk253 rfl
theorem e253_850  : eb_E L d 253 850 ls (st) M = eb_E L d 253 851 ls (zi 0 :: st) M := eb_E_s hk253 rfl
theorem e253_851 {x : Int32} : eb_E L d 253 851 ls ([zi x]) M = if x = 0 ∨ x = 1 then some (zi x, M) else none := eb_E_ri hk253 rfl
theorem e253_852 {x : Option eb_A} : eb_E L d 253 852 [v0, some (Sum.inr x), v2, v3] (st) M = eb_E L d 253 853 [v0, some (Sum.inr x), v2, v3] (Sum.inr x :: st) M := eb_E_s hk253 rfl
theorem e253_853 {x : Option eb_A} : eb_E L d 253 853 [some (Sum.inr x), v1, v2, v3] (st) M = eb_E L d 253 854 [some (Sum.inr x), v1, v2, v3] (Sum.inr x :: st) M := eb_E_s hk253 rfl
theorem e253_854 {x : Int32} : eb_E L d 253 854 [v0, v1, v2, some (zi x)] (st) M = eb_E L d 253 855 [v0, v1, v2, some (zi x)] (zi x :: st) M := eb_E_s hk253 rfl
theorem e253_855  : eb_E L d 253 855 ls (st) M = eb_E L d 253 856 ls (zi 1 :: st) M := eb_E_s hk253 rfl
theorem e253_856 {x : Int32} {y : Int32} : eb_E L d 253 856 ls (zi y :: zi x :: st) M = eb_E L d 253 857 ls (zi (x + y) :: st) M := eb_E_s hk253 rfl
theorem e253_857 {x : Int32} : eb_E L d 253 857 ls (zi x :: Sum.inr (some a) :: st) (nc, ns, I, J, R) = if (eb_ty L a.1).1 = 17 ∧ eb_in x (eb_ty L a.1).2 = true then eb_E L d 253 858 ls (zi (I a x.toNatClampNeg) :: st) (nc, ns, I, J, R) else none := eb_E_iy hk253 rfl
theorem e253_858  : eb_E L d 253 858 ls ([a1, a0]) M = (eb_ev L d 83 [a0, a1] M).bind (fun q => eb_E L d 253 861 ls [q.1] q.2) := eb_E_c hk253 rfl
theorem e253_861 {x : Option eb_A} : eb_E L d 253 861 [v0, v1, some (Sum.inr x), v3] (st) M = eb_E L d 253 862 [v0, v1, some (Sum.inr x), v3] (Sum.inr x :: st) M := eb_E_s hk253 rfl
theorem e253_862 {x : Option eb_A} : eb_E L d 253 862 [some (Sum.inr x), v1, v2, v3] (st) M = eb_E L d 253 863 [some (Sum.inr x), v1, v2, v3] (Sum.inr x :: st) M := eb_E_s hk253 rfl
theorem e253_863 {x : Int32} : eb_E L d 253 863 [v0, v1, v2, some (zi x)] (st) M = eb_E L d 253 864 [v0, v1, v2, some (zi x)] (zi x :: st) M := eb_E_s hk253 rfl
theorem e253_864  : eb_E L d 253 864 ls (st) M = eb_E L d 253 865 ls (zi 1 :: st) M := eb_E_s hk253 rfl
theorem e253_865 {x : Int32} {y : Int32} : eb_E L d 253 865 ls (zi y :: zi x :: st) M = eb_E L d 253 866 ls (zi (x + y) :: st) M := eb_E_s hk253 rfl
theorem e253_866 {x : Int32} : eb_E L d 253 866 ls (zi x :: Sum.inr (some a) :: st) (nc, ns, I, J, R) = if (eb_ty L a.1).1 = 17 ∧ eb_in x (eb_ty L a.1).2 = true then eb_E L d 253 867 ls (zi (I a x.toNatClampNeg) :: st) (nc, ns, I, J, R) else none := eb_E_iy hk253 rfl
theorem e253_867 {s0 : Int32} : eb_E L d 253 867 ls ([a1, a0, zi s0]) M = (eb_ev L d 173 [a0, a1] M).bind (fun q => eb_E L d 253 870 ls [q.1, zi s0] q.2) := eb_E_c hk253 rfl
theorem e253_870 {x : Int32} {y : Int32} : eb_E L d 253 870 ls (zi y :: zi x :: st) M = if x = y then eb_E L d 253 1948 ls st M else eb_E L d 253 873 ls st M := eb_E_b hk253 rfl
theorem e253_873  : eb_E L d 253 873 ls (st) M = eb_E L d 253 874 ls (zi 0 :: st) M := eb_E_s hk253 rfl
theorem e253_874 {x : Int32} : eb_E L d 253 874 ls ([zi x]) M = if x = 0 ∨ x = 1 then some (zi x, M) else none := eb_E_ri hk253 rfl
theorem e253_875 {x : Option eb_A} : eb_E L d 253 875 [v0, some (Sum.inr x), v2, v3] (st) M = eb_E L d 253 876 [v0, some (Sum.inr x), v2, v3] (Sum.inr x :: st) M := eb_E_s hk253 rfl
theorem e253_876  : eb_E L d 253 876 ls ([a0]) M = (eb_ev L d 84 [a0] M).bind (fun q => eb_E L d 253 879 ls [q.1] q.2) := eb_E_c hk253 rfl
theorem e253_879 {x : Option eb_A} : eb_E L d 253 879 [v0, v1, some (Sum.inr x), v3] (st) M = eb_E L d 253 880 [v0, v1, some (Sum.inr x), v3] (Sum.inr x :: st) M := eb_E_s hk253 rfl
theorem e253_880 {s0 : Int32} : eb_E L d 253 880 ls ([a0, zi s0]) M = (eb_ev L d 174 [a0] M).bind (fun q => eb_E L d 253 883 ls [q.1, zi s0] q.2) := eb_E_c hk253 rfl
theorem e253_883 {x : Int32} {y : Int32} : eb_E L d 253 883 ls (zi y :: zi x :: st) M = if x = y then eb_E L d 253 1948 ls st M else eb_E L d 253 886 ls st M := eb_E_b hk253 rfl
theorem e253_886  : eb_E L d 253 886 ls (st) M = eb_E L d 253 887 ls (zi 0 :: st) M := eb_E_s hk253 rfl
theorem e253_887 {x : Int32} : eb_E L d 253 887 ls ([zi x]) M = if x = 0 ∨ x = 1 then some (zi x, M) else none := eb_E_ri hk253 rfl
theorem e253_888 {x : Option eb_A} : eb_E L d 253 888 [v0, some (Sum.inr x), v2, v3] (st) M = eb_E L d 253 889 [v0, some (Sum.inr x), v2, v3] (Sum.inr x :: st) M := eb_E_s hk253 rfl
theorem e253_889  : eb_E L d 253 889 ls ([a0]) M = (eb_ev L d 85 [a0] M).bind (fun q => eb_E L d 253 892 ls [q.1] q.2) := eb_E_c hk253 rfl
theorem e253_892 {x : Option eb_A} : eb_E L d 253 892 [v0, v1, some (Sum.inr x), v3] (st) M = eb_E L d 253 893 [v0, v1, some (Sum.inr x), v3] (Sum.inr x :: st) M := eb_E_s hk253 rfl
theorem e253_893 {s0 : Int32} : eb_E L d 253 893 ls ([a0, zi s0]) M = (eb_ev L d 187 [a0] M).bind (fun q => eb_E L d 253 896 ls [q.1, zi s0] q.2) := eb_E_c hk253 rfl
theorem e253_896 {x : Int32} {y : Int32} : eb_E L d 253 896 ls (zi y :: zi x :: st) M = if x = y then eb_E L d 253 1948 ls st M else eb_E L d 253 899 ls st M := eb_E_b hk253 rfl
theorem e253_899  : eb_E L d 253 899 ls (st) M = eb_E L d 253 900 ls (zi 0 :: st) M := eb_E_s hk253 rfl
theorem e253_900 {x : Int32} : eb_E L d 253 900 ls ([zi x]) M = if x = 0 ∨ x = 1 then some (zi x, M) else none := eb_E_ri hk253 rfl
theorem e253_901 {x : Option eb_A} : eb_E L d 253 901 [v0, some (Sum.inr x), v2, v3] (st) M = eb_E L d 253 902 [v0, some (Sum.inr x), v2, v3] (Sum.inr x :: st) M := eb_E_s hk253 rfl
theorem e253_902 {x : Option eb_A} : eb_E L d 253 902 [some (Sum.inr x), v1, v2, v3] (st) M = eb_E L d 253 903 [some (Sum.inr x), v1, v2, v3] (Sum.inr x :: st) M := eb_E_s hk253 rfl
theorem e253_903 {x : Int32} : eb_E L d 253 903 [v0, v1, v2, some (zi x)] (st) M = eb_E L d 253 904 [v0, v1, v2, some (zi x)] (zi x :: st) M := eb_E_s hk253 rfl
theorem e253_904  : eb_E L d 253 904 ls (st) M = eb_E L d 253 905 ls (zi 1 :: st) M := eb_E_s hk253 rfl
theorem e253_905 {x : Int32} {y : Int32} : eb_E L d 253 905 ls (zi y :: zi x :: st) M = eb_E L d 253 906 ls (zi (x + y) :: st) M := eb_E_s hk253 rfl
theorem e253_906 {x : Int32} : eb_E L d 253 906 ls (zi x :: Sum.inr (some a) :: st) (nc, ns, I, J, R) = if (eb_ty L a.1).1 = 17 ∧ eb_in x (eb_ty L a.1).2 = true then eb_E L d 253 907 ls (zi (I a x.toNatClampNeg) :: st) (nc, ns, I, J, R) else none := eb_E_iy hk253 rfl
theorem e253_907 {x : Option eb_A} : eb_E L d 253 907 [some (Sum.inr x), v1, v2, v3] (st) M = eb_E L d 253 908 [some (Sum.inr x), v1, v2, v3] (Sum.inr x :: st) M := eb_E_s hk253 rfl
theorem e253_908 {x : Int32} : eb_E L d 253 908 [v0, v1, v2, some (zi x)] (st) M = eb_E L d 253 909 [v0, v1, v2, some (zi x)] (zi x :: st) M := eb_E_s hk253 rfl
theorem e253_909  : eb_E L d 253 909 ls (st) M = eb_E L d 253 910 ls (zi 2 :: st) M := eb_E_s hk253 rfl
theorem e253_910 {x : Int32} {y : Int32} : eb_E L d 253 910 ls (zi y :: zi x :: st) M = eb_E L d 253 911 ls (zi (x + y) :: st) M := eb_E_s hk253 rfl
theorem e253_911 {x : Int32} : eb_E L d 253 911 ls (zi x :: Sum.inr (some a) :: st) (nc, ns, I, J, R) = if (eb_ty L a.1).1 = 17 ∧ eb_in x (eb_ty L a.1).2 = true then eb_E L d 253 912 ls (zi (I a x.toNatClampNeg) :: st) (nc, ns, I, J, R) else none := eb_E_iy hk253 rfl
theorem e253_912  : eb_E L d 253 912 ls ([a2, a1, a0]) M = (eb_ev L d 86 [a0, a1, a2] M).bind (fun q => eb_E L d 253 915 ls [q.1] q.2) := eb_E_c hk253 rfl
theorem e253_915 {x : Option eb_A} : eb_E L d 253 915 [v0, v1, some (Sum.inr x), v3] (st) M = eb_E L d 253 916 [v0, v1, some (Sum.inr x), v3] (Sum.inr x :: st) M := eb_E_s hk253 rfl
theorem e253_916 {x : Option eb_A} : eb_E L d 253 916 [some (Sum.inr x), v1, v2, v3] (st) M = eb_E L d 253 917 [some (Sum.inr x), v1, v2, v3] (Sum.inr x :: st) M := eb_E_s hk253 rfl
theorem e253_917 {x : Int32} : eb_E L d 253 917 [v0, v1, v2, some (zi x)] (st) M = eb_E L d 253 918 [v0, v1, v2, some (zi x)] (zi x :: st) M := eb_E_s hk253 rfl
theorem e253_918  : eb_E L d 253 918 ls (st) M = eb_E L d 253 919 ls (zi 1 :: st) M := eb_E_s hk253 rfl
theorem e253_919 {x : Int32} {y : Int32} : eb_E L d 253 919 ls (zi y :: zi x :: st) M = eb_E L d 253 920 ls (zi (x + y) :: st) M := eb_E_s hk253 rfl
theorem e253_920 {x : Int32} : eb_E L d 253 920 ls (zi x :: Sum.inr (some a) :: st) (nc, ns, I, J, R) = if (eb_ty L a.1).1 = 17 ∧ eb_in x (eb_ty L a.1).2 = true then eb_E L d 253 921 ls (zi (I a x.toNatClampNeg) :: st) (nc, ns, I, J, R) else none := eb_E_iy hk253 rfl
theorem e253_921 {x : Option eb_A} : eb_E L d 253 921 [some (Sum.inr x), v1, v2, v3] (st) M = eb_E L d 253 922 [some (Sum.inr x), v1, v2, v3] (Sum.inr x :: st) M := eb_E_s hk253 rfl
theorem e253_922 {x : Int32} : eb_E L d 253 922 [v0, v1, v2, some (zi x)] (st) M = eb_E L d 253 923 [v0, v1, v2, some (zi x)] (zi x :: st) M := eb_E_s hk253 rfl
theorem e253_923  : eb_E L d 253 923 ls (st) M = eb_E L d 253 924 ls (zi 2 :: st) M := eb_E_s hk253 rfl
theorem e253_924 {x : Int32} {y : Int32} : eb_E L d 253 924 ls (zi y :: zi x :: st) M = eb_E L d 253 925 ls (zi (x + y) :: st) M := eb_E_s hk253 rfl
theorem e253_925 {x : Int32} : eb_E L d 253 925 ls (zi x :: Sum.inr (some a) :: st) (nc, ns, I, J, R) = if (eb_ty L a.1).1 = 17 ∧ eb_in x (eb_ty L a.1).2 = true then eb_E L d 253 926 ls (zi (I a x.toNatClampNeg) :: st) (nc, ns, I, J, R) else none := eb_E_iy hk253 rfl
theorem e253_926 {s0 : Int32} : eb_E L d 253 926 ls ([a2, a1, a0, zi s0]) M = (eb_ev L d 188 [a0, a1, a2] M).bind (fun q => eb_E L d 253 929 ls [q.1, zi s0] q.2) := eb_E_c hk253 rfl
theorem e253_929 {x : Int32} {y : Int32} : eb_E L d 253 929 ls (zi y :: zi x :: st) M = if x = y then eb_E L d 253 1948 ls st M else eb_E L d 253 932 ls st M := eb_E_b hk253 rfl
theorem e253_932  : eb_E L d 253 932 ls (st) M = eb_E L d 253 933 ls (zi 0 :: st) M := eb_E_s hk253 rfl
theorem e253_933 {x : Int32} : eb_E L d 253 933 ls ([zi x]) M = if x = 0 ∨ x = 1 then some (zi x, M) else none := eb_E_ri hk253 rfl
theorem e253_934 {x : Option eb_A} : eb_E L d 253 934 [v0, some (Sum.inr x), v2, v3] (st) M = eb_E L d 253 935 [v0, some (Sum.inr x), v2, v3] (Sum.inr x :: st) M := eb_E_s hk253 rfl
theorem e253_935 {x : Option eb_A} : eb_E L d 253 935 [some (Sum.inr x), v1, v2, v3] (st) M = eb_E L d 253 936 [some (Sum.inr x), v1, v2, v3] (Sum.inr x :: st) M := eb_E_s hk253 rfl
theorem e253_936 {x : Int32} : eb_E L d 253 936 [v0, v1, v2, some (zi x)] (st) M = eb_E L d 253 937 [v0, v1, v2, some (zi x)] (zi x :: st) M := eb_E_s hk253 rfl
theorem e253_937  : eb_E L d 253 937 ls (st) M = eb_E L d 253 938 ls (zi 1 :: st) M := eb_E_s hk253 rfl
theorem e253_938 {x : Int32} {y : Int32} : eb_E L d 253 938 ls (zi y :: zi x :: st) M = eb_E L d 253 939 ls (zi (x + y) :: st) M := eb_E_s hk253 rfl
theorem e253_939 {x : Int32} : eb_E L d 253 939 ls (zi x :: Sum.inr (some a) :: st) (nc, ns, I, J, R) = if (eb_ty L a.1).1 = 17 ∧ eb_in x (eb_ty L a.1).2 = true then eb_E L d 253 940 ls (zi (I a x.toNatClampNeg) :: st) (nc, ns, I, J, R) else none := eb_E_iy hk253 rfl
theorem e253_940 {x : Option eb_A} : eb_E L d 253 940 [some (Sum.inr x), v1, v2, v3] (st) M = eb_E L d 253 941 [some (Sum.inr x), v1, v2, v3] (Sum.inr x :: st) M := eb_E_s hk253 rfl
theorem e253_941 {x : Int32} : eb_E L d 253 941 [v0, v1, v2, some (zi x)] (st) M = eb_E L d 253 942 [v0, v1, v2, some (zi x)] (zi x :: st) M := eb_E_s hk253 rfl
theorem e253_942  : eb_E L d 253 942 ls (st) M = eb_E L d 253 943 ls (zi 2 :: st) M := eb_E_s hk253 rfl
theorem e253_943 {x : Int32} {y : Int32} : eb_E L d 253 943 ls (zi y :: zi x :: st) M = eb_E L d 253 944 ls (zi (x + y) :: st) M := eb_E_s hk253 rfl
theorem e253_944 {x : Int32} : eb_E L d 253 944 ls (zi x :: Sum.inr (some a) :: st) (nc, ns, I, J, R) = if (eb_ty L a.1).1 = 17 ∧ eb_in x (eb_ty L a.1).2 = true then eb_E L d 253 945 ls (zi (I a x.toNatClampNeg) :: st) (nc, ns, I, J, R) else none := eb_E_iy hk253 rfl
theorem e253_945  : eb_E L d 253 945 ls ([a2, a1, a0]) M = (eb_ev L d 87 [a0, a1, a2] M).bind (fun q => eb_E L d 253 948 ls [q.1] q.2) := eb_E_c hk253 rfl
theorem e253_948 {x : Option eb_A} : eb_E L d 253 948 [v0, v1, some (Sum.inr x), v3] (st) M = eb_E L d 253 949 [v0, v1, some (Sum.inr x), v3] (Sum.inr x :: st) M := eb_E_s hk253 rfl
theorem e253_949 {x : Option eb_A} : eb_E L d 253 949 [some (Sum.inr x), v1, v2, v3] (st) M = eb_E L d 253 950 [some (Sum.inr x), v1, v2, v3] (Sum.inr x :: st) M := eb_E_s hk253 rfl
theorem e253_950 {x : Int32} : eb_E L d 253 950 [v0, v1, v2, some (zi x)] (st) M = eb_E L d 253 951 [v0, v1, v2, some (zi x)] (zi x :: st) M := eb_E_s hk253 rfl
theorem e253_951  : eb_E L d 253 951 ls (st) M = eb_E L d 253 952 ls (zi 1 :: st) M := eb_E_s hk253 rfl
theorem e253_952 {x : Int32} {y : Int32} : eb_E L d 253 952 ls (zi y :: zi x :: st) M = eb_E L d 253 953 ls (zi (x + y) :: st) M := eb_E_s hk253 rfl
theorem e253_953 {x : Int32} : eb_E L d 253 953 ls (zi x :: Sum.inr (some a) :: st) (nc, ns, I, J, R) = if (eb_ty L a.1).1 = 17 ∧ eb_in x (eb_ty L a.1).2 = true then eb_E L d 253 954 ls (zi (I a x.toNatClampNeg) :: st) (nc, ns, I, J, R) else none := eb_E_iy hk253 rfl
theorem e253_954 {x : Option eb_A} : eb_E L d 253 954 [some (Sum.inr x), v1, v2, v3] (st) M = eb_E L d 253 955 [some (Sum.inr x), v1, v2, v3] (Sum.inr x :: st) M := eb_E_s hk253 rfl
theorem e253_955 {x : Int32} : eb_E L d 253 955 [v0, v1, v2, some (zi x)] (st) M = eb_E L d 253 956 [v0, v1, v2, some (zi x)] (zi x :: st) M := eb_E_s hk253 rfl
theorem e253_956  : eb_E L d 253 956 ls (st) M = eb_E L d 253 957 ls (zi 2 :: st) M := eb_E_s hk253 rfl
theorem e253_957 {x : Int32} {y : Int32} : eb_E L d 253 957 ls (zi y :: zi x :: st) M = eb_E L d 253 958 ls (zi (x + y) :: st) M := eb_E_s hk253 rfl
theorem e253_958 {x : Int32} : eb_E L d 253 958 ls (zi x :: Sum.inr (some a) :: st) (nc, ns, I, J, R) = if (eb_ty L a.1).1 = 17 ∧ eb_in x (eb_ty L a.1).2 = true then eb_E L d 253 959 ls (zi (I a x.toNatClampNeg) :: st) (nc, ns, I, J, R) else none := eb_E_iy hk253 rfl
theorem e253_959 {s0 : Int32} : eb_E L d 253 959 ls ([a2, a1, a0, zi s0]) M = (eb_ev L d 189 [a0, a1, a2] M).bind (fun q => eb_E L d 253 962 ls [q.1, zi s0] q.2) := eb_E_c hk253 rfl
theorem e253_962 {x : Int32} {y : Int32} : eb_E L d 253 962 ls (zi y :: zi x :: st) M = if x = y then eb_E L d 253 1948 ls st M else eb_E L d 253 965 ls st M := eb_E_b hk253 rfl
theorem e253_965  : eb_E L d 253 965 ls (st) M = eb_E L d 253 966 ls (zi 0 :: st) M := eb_E_s hk253 rfl
theorem e253_966 {x : Int32} : eb_E L d 253 966 ls ([zi x]) M = if x = 0 ∨ x = 1 then some (zi x, M) else none := eb_E_ri hk253 rfl
theorem e253_967 {x : Option eb_A} : eb_E L d 253 967 [v0, some (Sum.inr x), v2, v3] (st) M = eb_E L d 253 968 [v0, some (Sum.inr x), v2, v3] (Sum.inr x :: st) M := eb_E_s hk253 rfl
theorem e253_968 {x : Option eb_A} : eb_E L d 253 968 [some (Sum.inr x), v1, v2, v3] (st) M = eb_E L d 253 969 [some (Sum.inr x), v1, v2, v3] (Sum.inr x :: st) M := eb_E_s hk253 rfl
theorem e253_969 {x : Int32} : eb_E L d 253 969 [v0, v1, v2, some (zi x)] (st) M = eb_E L d 253 970 [v0, v1, v2, some (zi x)] (zi x :: st) M := eb_E_s hk253 rfl
theorem e253_970  : eb_E L d 253 970 ls (st) M = eb_E L d 253 971 ls (zi 1 :: st) M := eb_E_s hk253 rfl
theorem e253_971 {x : Int32} {y : Int32} : eb_E L d 253 971 ls (zi y :: zi x :: st) M = eb_E L d 253 972 ls (zi (x + y) :: st) M := eb_E_s hk253 rfl
theorem e253_972 {x : Int32} : eb_E L d 253 972 ls (zi x :: Sum.inr (some a) :: st) (nc, ns, I, J, R) = if (eb_ty L a.1).1 = 17 ∧ eb_in x (eb_ty L a.1).2 = true then eb_E L d 253 973 ls (zi (I a x.toNatClampNeg) :: st) (nc, ns, I, J, R) else none := eb_E_iy hk253 rfl
theorem e253_973 {x : Option eb_A} : eb_E L d 253 973 [some (Sum.inr x), v1, v2, v3] (st) M = eb_E L d 253 974 [some (Sum.inr x), v1, v2, v3] (Sum.inr x :: st) M := eb_E_s hk253 rfl
theorem e253_974 {x : Int32} : eb_E L d 253 974 [v0, v1, v2, some (zi x)] (st) M = eb_E L d 253 975 [v0, v1, v2, some (zi x)] (zi x :: st) M := eb_E_s hk253 rfl
theorem e253_975  : eb_E L d 253 975 ls (st) M = eb_E L d 253 976 ls (zi 2 :: st) M := eb_E_s hk253 rfl
theorem e253_976 {x : Int32} {y : Int32} : eb_E L d 253 976 ls (zi y :: zi x :: st) M = eb_E L d 253 977 ls (zi (x + y) :: st) M := eb_E_s hk253 rfl
theorem e253_977 {x : Int32} : eb_E L d 253 977 ls (zi x :: Sum.inr (some a) :: st) (nc, ns, I, J, R) = if (eb_ty L a.1).1 = 17 ∧ eb_in x (eb_ty L a.1).2 = true then eb_E L d 253 978 ls (zi (I a x.toNatClampNeg) :: st) (nc, ns, I, J, R) else none := eb_E_iy hk253 rfl
theorem e253_978  : eb_E L d 253 978 ls ([a2, a1, a0]) M = (eb_ev L d 88 [a0, a1, a2] M).bind (fun q => eb_E L d 253 981 ls [q.1] q.2) := eb_E_c hk253 rfl
theorem e253_981 {x : Option eb_A} : eb_E L d 253 981 [v0, v1, some (Sum.inr x), v3] (st) M = eb_E L d 253 982 [v0, v1, some (Sum.inr x), v3] (Sum.inr x :: st) M := eb_E_s hk253 rfl
theorem e253_982 {x : Option eb_A} : eb_E L d 253 982 [some (Sum.inr x), v1, v2, v3] (st) M = eb_E L d 253 983 [some (Sum.inr x), v1, v2, v3] (Sum.inr x :: st) M := eb_E_s hk253 rfl
theorem e253_983 {x : Int32} : eb_E L d 253 983 [v0, v1, v2, some (zi x)] (st) M = eb_E L d 253 984 [v0, v1, v2, some (zi x)] (zi x :: st) M := eb_E_s hk253 rfl
theorem e253_984  : eb_E L d 253 984 ls (st) M = eb_E L d 253 985 ls (zi 1 :: st) M := eb_E_s hk253 rfl
theorem e253_985 {x : Int32} {y : Int32} : eb_E L d 253 985 ls (zi y :: zi x :: st) M = eb_E L d 253 986 ls (zi (x + y) :: st) M := eb_E_s hk253 rfl
theorem e253_986 {x : Int32} : eb_E L d 253 986 ls (zi x :: Sum.inr (some a) :: st) (nc, ns, I, J, R) = if (eb_ty L a.1).1 = 17 ∧ eb_in x (eb_ty L a.1).2 = true then eb_E L d 253 987 ls (zi (I a x.toNatClampNeg) :: st) (nc, ns, I, J, R) else none := eb_E_iy hk253 rfl
theorem e253_987 {x : Option eb_A} : eb_E L d 253 987 [some (Sum.inr x), v1, v2, v3] (st) M = eb_E L d 253 988 [some (Sum.inr x), v1, v2, v3] (Sum.inr x :: st) M := eb_E_s hk253 rfl
theorem e253_988 {x : Int32} : eb_E L d 253 988 [v0, v1, v2, some (zi x)] (st) M = eb_E L d 253 989 [v0, v1, v2, some (zi x)] (zi x :: st) M := eb_E_s hk253 rfl
theorem e253_989  : eb_E L d 253 989 ls (st) M = eb_E L d 253 990 ls (zi 2 :: st) M := eb_E_s hk253 rfl
theorem e253_990 {x : Int32} {y : Int32} : eb_E L d 253 990 ls (zi y :: zi x :: st) M = eb_E L d 253 991 ls (zi (x + y) :: st) M := eb_E_s hk253 rfl
theorem e253_991 {x : Int32} : eb_E L d 253 991 ls (zi x :: Sum.inr (some a) :: st) (nc, ns, I, J, R) = if (eb_ty L a.1).1 = 17 ∧ eb_in x (eb_ty L a.1).2 = true then eb_E L d 253 992 ls (zi (I a x.toNatClampNeg) :: st) (nc, ns, I, J, R) else none := eb_E_iy hk253 rfl
theorem e253_992 {s0 : Int32} : eb_E L d 253 992 ls ([a2, a1, a0, zi s0]) M = (eb_ev L d 193 [a0, a1, a2] M).bind (fun q => eb_E L d 253 995 ls [q.1, zi s0] q.2) := eb_E_c hk253 rfl
theorem e253_995 {x : Int32} {y : Int32} : eb_E L d 253 995 ls (zi y :: zi x :: st) M = if x = y then eb_E L d 253 1948 ls st M else eb_E L d 253 998 ls st M := eb_E_b hk253 rfl
theorem e253_998  : eb_E L d 253 998 ls (st) M = eb_E L d 253 999 ls (zi 0 :: st) M := eb_E_s hk253 rfl
theorem e253_999 {x : Int32} : eb_E L d 253 999 ls ([zi x]) M = if x = 0 ∨ x = 1 then some (zi x, M) else none := eb_E_ri hk253 rfl
theorem e253_1000 {x : Option eb_A} : eb_E L d 253 1000 [v0, some (Sum.inr x), v2, v3] (st) M = eb_E L d 253 1001 [v0, some (Sum.inr x), v2, v3] (Sum.inr x :: st) M := eb_E_s hk253 rfl
theorem e253_1001 {x : Option eb_A} : eb_E L d 253 1001 [some (Sum.inr x), v1, v2, v3] (st) M = eb_E L d 253 1002 [some (Sum.inr x), v1, v2, v3] (Sum.inr x :: st) M := eb_E_s hk253 rfl
theorem e253_1002 {x : Int32} : eb_E L d 253 1002 [v0, v1, v2, some (zi x)] (st) M = eb_E L d 253 1003 [v0, v1, v2, some (zi x)] (zi x :: st) M := eb_E_s hk253 rfl
theorem e253_1003  : eb_E L d 253 1003 ls (st) M = eb_E L d 253 1004 ls (zi 1 :: st) M := eb_E_s hk253 rfl
theorem e253_1004 {x : Int32} {y : Int32} : eb_E L d 253 1004 ls (zi y :: zi x :: st) M = eb_E L d 253 1005 ls (zi (x + y) :: st) M := eb_E_s hk253 rfl
theorem e253_1005 {x : Int32} : eb_E L d 253 1005 ls (zi x :: Sum.inr (some a) :: st) (nc, ns, I, J, R) = if (eb_ty L a.1).1 = 17 ∧ eb_in x (eb_ty L a.1).2 = true then eb_E L d 253 1006 ls (zi (I a x.toNatClampNeg) :: st) (nc, ns, I, J, R) else none := eb_E_iy hk253 rfl
theorem e253_1006 {x : Option eb_A} : eb_E L d 253 1006 [some (Sum.inr x), v1, v2, v3] (st) M = eb_E L d 253 1007 [some (Sum.inr x), v1, v2, v3] (Sum.inr x :: st) M := eb_E_s hk253 rfl
theorem e253_1007 {x : Int32} : eb_E L d 253 1007 [v0, v1, v2, some (zi x)] (st) M = eb_E L d 253 1008 [v0, v1, v2, some (zi x)] (zi x :: st) M := eb_E_s hk253 rfl
theorem e253_1008  : eb_E L d 253 1008 ls (st) M = eb_E L d 253 1009 ls (zi 2 :: st) M := eb_E_s hk253 rfl
theorem e253_1009 {x : Int32} {y : Int32} : eb_E L d 253 1009 ls (zi y :: zi x :: st) M = eb_E L d 253 1010 ls (zi (x + y) :: st) M := eb_E_s hk253 rfl
theorem e253_1010 {x : Int32} : eb_E L d 253 1010 ls (zi x :: Sum.inr (some a) :: st) (nc, ns, I, J, R) = if (eb_ty L a.1).1 = 17 ∧ eb_in x (eb_ty L a.1).2 = true then eb_E L d 253 1011 ls (zi (I a x.toNatClampNeg) :: st) (nc, ns, I, J, R) else none := eb_E_iy hk253 rfl
theorem e253_1011  : eb_E L d 253 1011 ls ([a2, a1, a0]) M = (eb_ev L d 89 [a0, a1, a2] M).bind (fun q => eb_E L d 253 1014 ls [q.1] q.2) := eb_E_c hk253 rfl
theorem e253_1014 {x : Option eb_A} : eb_E L d 253 1014 [v0, v1, some (Sum.inr x), v3] (st) M = eb_E L d 253 1015 [v0, v1, some (Sum.inr x), v3] (Sum.inr x :: st) M := eb_E_s hk253 rfl
theorem e253_1015 {x : Option eb_A} : eb_E L d 253 1015 [some (Sum.inr x), v1, v2, v3] (st) M = eb_E L d 253 1016 [some (Sum.inr x), v1, v2, v3] (Sum.inr x :: st) M := eb_E_s hk253 rfl
theorem e253_1016 {x : Int32} : eb_E L d 253 1016 [v0, v1, v2, some (zi x)] (st) M = eb_E L d 253 1017 [v0, v1, v2, some (zi x)] (zi x :: st) M := eb_E_s hk253 rfl
theorem e253_1017  : eb_E L d 253 1017 ls (st) M = eb_E L d 253 1018 ls (zi 1 :: st) M := eb_E_s hk253 rfl
theorem e253_1018 {x : Int32} {y : Int32} : eb_E L d 253 1018 ls (zi y :: zi x :: st) M = eb_E L d 253 1019 ls (zi (x + y) :: st) M := eb_E_s hk253 rfl
theorem e253_1019 {x : Int32} : eb_E L d 253 1019 ls (zi x :: Sum.inr (some a) :: st) (nc, ns, I, J, R) = if (eb_ty L a.1).1 = 17 ∧ eb_in x (eb_ty L a.1).2 = true then eb_E L d 253 1020 ls (zi (I a x.toNatClampNeg) :: st) (nc, ns, I, J, R) else none := eb_E_iy hk253 rfl
theorem e253_1020 {x : Option eb_A} : eb_E L d 253 1020 [some (Sum.inr x), v1, v2, v3] (st) M = eb_E L d 253 1021 [some (Sum.inr x), v1, v2, v3] (Sum.inr x :: st) M := eb_E_s hk253 rfl
theorem e253_1021 {x : Int32} : eb_E L d 253 1021 [v0, v1, v2, some (zi x)] (st) M = eb_E L d 253 1022 [v0, v1, v2, some (zi x)] (zi x :: st) M := eb_E_s hk253 rfl
theorem e253_1022  : eb_E L d 253 1022 ls (st) M = eb_E L d 253 1023 ls (zi 2 :: st) M := eb_E_s hk253 rfl
theorem e253_1023 {x : Int32} {y : Int32} : eb_E L d 253 1023 ls (zi y :: zi x :: st) M = eb_E L d 253 1024 ls (zi (x + y) :: st) M := eb_E_s hk253 rfl
theorem e253_1024 {x : Int32} : eb_E L d 253 1024 ls (zi x :: Sum.inr (some a) :: st) (nc, ns, I, J, R) = if (eb_ty L a.1).1 = 17 ∧ eb_in x (eb_ty L a.1).2 = true then eb_E L d 253 1025 ls (zi (I a x.toNatClampNeg) :: st) (nc, ns, I, J, R) else none := eb_E_iy hk253 rfl
theorem e253_1025 {s0 : Int32} : eb_E L d 253 1025 ls ([a2, a1, a0, zi s0]) M = (eb_ev L d 199 [a0, a1, a2] M).bind (fun q => eb_E L d 253 1028 ls [q.1, zi s0] q.2) := eb_E_c hk253 rfl
theorem e253_1028 {x : Int32} {y : Int32} : eb_E L d 253 1028 ls (zi y :: zi x :: st) M = if x = y then eb_E L d 253 1948 ls st M else eb_E L d 253 1031 ls st M := eb_E_b hk253 rfl
theorem e253_1031  : eb_E L d 253 1031 ls (st) M = eb_E L d 253 1032 ls (zi 0 :: st) M := eb_E_s hk253 rfl
theorem e253_1032 {x : Int32} : eb_E L d 253 1032 ls ([zi x]) M = if x = 0 ∨ x = 1 then some (zi x, M) else none := eb_E_ri hk253 rfl
theorem e253_1033 {x : Option eb_A} : eb_E L d 253 1033 [v0, some (Sum.inr x), v2, v3] (st) M = eb_E L d 253 1034 [v0, some (Sum.inr x), v2, v3] (Sum.inr x :: st) M := eb_E_s hk253 rfl
theorem e253_1034 {x : Option eb_A} : eb_E L d 253 1034 [some (Sum.inr x), v1, v2, v3] (st) M = eb_E L d 253 1035 [some (Sum.inr x), v1, v2, v3] (Sum.inr x :: st) M := eb_E_s hk253 rfl
theorem e253_1035 {x : Int32} : eb_E L d 253 1035 [v0, v1, v2, some (zi x)] (st) M = eb_E L d 253 1036 [v0, v1, v2, some (zi x)] (zi x :: st) M := eb_E_s hk253 rfl
theorem e253_1036  : eb_E L d 253 1036 ls (st) M = eb_E L d 253 1037 ls (zi 1 :: st) M := eb_E_s hk253 rfl
theorem e253_1037 {x : Int32} {y : Int32} : eb_E L d 253 1037 ls (zi y :: zi x :: st) M = eb_E L d 253 1038 ls (zi (x + y) :: st) M := eb_E_s hk253 rfl
theorem e253_1038 {x : Int32} : eb_E L d 253 1038 ls (zi x :: Sum.inr (some a) :: st) (nc, ns, I, J, R) = if (eb_ty L a.1).1 = 17 ∧ eb_in x (eb_ty L a.1).2 = true then eb_E L d 253 1039 ls (zi (I a x.toNatClampNeg) :: st) (nc, ns, I, J, R) else none := eb_E_iy hk253 rfl
theorem e253_1039  : eb_E L d 253 1039 ls ([a1, a0]) M = (eb_ev L d 90 [a0, a1] M).bind (fun q => eb_E L d 253 1042 ls [q.1] q.2) := eb_E_c hk253 rfl
theorem e253_1042 {x : Option eb_A} : eb_E L d 253 1042 [v0, v1, some (Sum.inr x), v3] (st) M = eb_E L d 253 1043 [v0, v1, some (Sum.inr x), v3] (Sum.inr x :: st) M := eb_E_s hk253 rfl
theorem e253_1043 {x : Option eb_A} : eb_E L d 253 1043 [some (Sum.inr x), v1, v2, v3] (st) M = eb_E L d 253 1044 [some (Sum.inr x), v1, v2, v3] (Sum.inr x :: st) M := eb_E_s hk253 rfl
theorem e253_1044 {x : Int32} : eb_E L d 253 1044 [v0, v1, v2, some (zi x)] (st) M = eb_E L d 253 1045 [v0, v1, v2, some (zi x)] (zi x :: st) M := eb_E_s hk253 rfl
theorem e253_1045  : eb_E L d 253 1045 ls (st) M = eb_E L d 253 1046 ls (zi 1 :: st) M := eb_E_s hk253 rfl
theorem e253_1046 {x : Int32} {y : Int32} : eb_E L d 253 1046 ls (zi y :: zi x :: st) M = eb_E L d 253 1047 ls (zi (x + y) :: st) M := eb_E_s hk253 rfl
theorem e253_1047 {x : Int32} : eb_E L d 253 1047 ls (zi x :: Sum.inr (some a) :: st) (nc, ns, I, J, R) = if (eb_ty L a.1).1 = 17 ∧ eb_in x (eb_ty L a.1).2 = true then eb_E L d 253 1048 ls (zi (I a x.toNatClampNeg) :: st) (nc, ns, I, J, R) else none := eb_E_iy hk253 rfl
theorem e253_1048 {s0 : Int32} : eb_E L d 253 1048 ls ([a1, a0, zi s0]) M = (eb_ev L d 200 [a0, a1] M).bind (fun q => eb_E L d 253 1051 ls [q.1, zi s0] q.2) := eb_E_c hk253 rfl
theorem e253_1051 {x : Int32} {y : Int32} : eb_E L d 253 1051 ls (zi y :: zi x :: st) M = if x = y then eb_E L d 253 1948 ls st M else eb_E L d 253 1054 ls st M := eb_E_b hk253 rfl
theorem e253_1054  : eb_E L d 253 1054 ls (st) M = eb_E L d 253 1055 ls (zi 0 :: st) M := eb_E_s hk253 rfl
theorem e253_1055 {x : Int32} : eb_E L d 253 1055 ls ([zi x]) M = if x = 0 ∨ x = 1 then some (zi x, M) else none := eb_E_ri hk253 rfl
theorem e253_1056 {x : Option eb_A} : eb_E L d 253 1056 [v0, some (Sum.inr x), v2, v3] (st) M = eb_E L d 253 1057 [v0, some (Sum.inr x), v2, v3] (Sum.inr x :: st) M := eb_E_s hk253 rfl
theorem e253_1057 {x : Option eb_A} : eb_E L d 253 1057 [some (Sum.inr x), v1, v2, v3] (st) M = eb_E L d 253 1058 [some (Sum.inr x), v1, v2, v3] (Sum.inr x :: st) M := eb_E_s hk253 rfl
theorem e253_1058 {x : Int32} : eb_E L d 253 1058 [v0, v1, v2, some (zi x)] (st) M = eb_E L d 253 1059 [v0, v1, v2, some (zi x)] (zi x :: st) M := eb_E_s hk253 rfl
theorem e253_1059  : eb_E L d 253 1059 ls (st) M = eb_E L d 253 1060 ls (zi 1 :: st) M := eb_E_s hk253 rfl
theorem e253_1060 {x : Int32} {y : Int32} : eb_E L d 253 1060 ls (zi y :: zi x :: st) M = eb_E L d 253 1061 ls (zi (x + y) :: st) M := eb_E_s hk253 rfl
theorem e253_1061 {x : Int32} : eb_E L d 253 1061 ls (zi x :: Sum.inr (some a) :: st) (nc, ns, I, J, R) = if (eb_ty L a.1).1 = 17 ∧ eb_in x (eb_ty L a.1).2 = true then eb_E L d 253 1062 ls (zi (I a x.toNatClampNeg) :: st) (nc, ns, I, J, R) else none := eb_E_iy hk253 rfl
theorem e253_1062  : eb_E L d 253 1062 ls ([a1, a0]) M = (eb_ev L d 91 [a0, a1] M).bind (fun q => eb_E L d 253 1065 ls [q.1] q.2) := eb_E_c hk253 rfl
theorem e253_1065 {x : Option eb_A} : eb_E L d 253 1065 [v0, v1, some (Sum.inr x), v3] (st) M = eb_E L d 253 1066 [v0, v1, some (Sum.inr x), v3] (Sum.inr x :: st) M := eb_E_s hk253 rfl
theorem e253_1066 {x : Option eb_A} : eb_E L d 253 1066 [some (Sum.inr x), v1, v2, v3] (st) M = eb_E L d 253 1067 [some (Sum.inr x), v1, v2, v3] (Sum.inr x :: st) M := eb_E_s hk253 rfl
theorem e253_1067 {x : Int32} : eb_E L d 253 1067 [v0, v1, v2, some (zi x)] (st) M = eb_E L d 253 1068 [v0, v1, v2, some (zi x)] (zi x :: st) M := eb_E_s hk253 rfl
theorem e253_1068  : eb_E L d 253 1068 ls (st) M = eb_E L d 253 1069 ls (zi 1 :: st) M := eb_E_s hk253 rfl
theorem e253_1069 {x : Int32} {y : Int32} : eb_E L d 253 1069 ls (zi y :: zi x :: st) M = eb_E L d 253 1070 ls (zi (x + y) :: st) M := eb_E_s hk253 rfl
theorem e253_1070 {x : Int32} : eb_E L d 253 1070 ls (zi x :: Sum.inr (some a) :: st) (nc, ns, I, J, R) = if (eb_ty L a.1).1 = 17 ∧ eb_in x (eb_ty L a.1).2 = true then eb_E L d 253 1071 ls (zi (I a x.toNatClampNeg) :: st) (nc, ns, I, J, R) else none := eb_E_iy hk253 rfl
theorem e253_1071 {s0 : Int32} : eb_E L d 253 1071 ls ([a1, a0, zi s0]) M = (eb_ev L d 201 [a0, a1] M).bind (fun q => eb_E L d 253 1074 ls [q.1, zi s0] q.2) := eb_E_c hk253 rfl
theorem e253_1074 {x : Int32} {y : Int32} : eb_E L d 253 1074 ls (zi y :: zi x :: st) M = if x = y then eb_E L d 253 1948 ls st M else eb_E L d 253 1077 ls st M := eb_E_b hk253 rfl
theorem e253_1077  : eb_E L d 253 1077 ls (st) M = eb_E L d 253 1078 ls (zi 0 :: st) M := eb_E_s hk253 rfl
theorem e253_1078 {x : Int32} : eb_E L d 253 1078 ls ([zi x]) M = if x = 0 ∨ x = 1 then some (zi x, M) else none := eb_E_ri hk253 rfl
theorem e253_1079 {x : Option eb_A} : eb_E L d 253 1079 [v0, some (Sum.inr x), v2, v3] (st) M = eb_E L d 253 1080 [v0, some (Sum.inr x), v2, v3] (Sum.inr x :: st) M := eb_E_s hk253 rfl
theorem e253_1080  : eb_E L d 253 1080 ls ([a0]) M = (eb_ev L d 92 [a0] M).bind (fun q => eb_E L d 253 1083 ls [q.1] q.2) := eb_E_c hk253 rfl
theorem e253_1083 {x : Option eb_A} : eb_E L d 253 1083 [v0, v1, some (Sum.inr x), v3] (st) M = eb_E L d 253 1084 [v0, v1, some (Sum.inr x), v3] (Sum.inr x :: st) M := eb_E_s hk253 rfl
theorem e253_1084 {s0 : Int32} : eb_E L d 253 1084 ls ([a0, zi s0]) M = (eb_ev L d 202 [a0] M).bind (fun q => eb_E L d 253 1087 ls [q.1, zi s0] q.2) := eb_E_c hk253 rfl
theorem e253_1087 {x : Int32} {y : Int32} : eb_E L d 253 1087 ls (zi y :: zi x :: st) M = if x = y then eb_E L d 253 1948 ls st M else eb_E L d 253 1090 ls st M := eb_E_b hk253 rfl
theorem e253_1090  : eb_E L d 253 1090 ls (st) M = eb_E L d 253 1091 ls (zi 0 :: st) M := eb_E_s hk253 rfl
theorem e253_1091 {x : Int32} : eb_E L d 253 1091 ls ([zi x]) M = if x = 0 ∨ x = 1 then some (zi x, M) else none := eb_E_ri hk253 rfl
theorem e253_1092 {x : Option eb_A} : eb_E L d 253 1092 [v0, some (Sum.inr x), v2, v3] (st) M = eb_E L d 253 1093 [v0, some (Sum.inr x), v2, v3] (Sum.inr x :: st) M := eb_E_s hk253 rfl
theorem e253_1093 {x : Option eb_A} : eb_E L d 253 1093 [some (Sum.inr x), v1, v2, v3] (st) M = eb_E L d 253 1094 [some (Sum.inr x), v1, v2, v3] (Sum.inr x :: st) M := eb_E_s hk253 rfl
theorem e253_1094 {x : Int32} : eb_E L d 253 1094 [v0, v1, v2, some (zi x)] (st) M = eb_E L d 253 1095 [v0, v1, v2, some (zi x)] (zi x :: st) M := eb_E_s hk253 rfl
theorem e253_1095  : eb_E L d 253 1095 ls (st) M = eb_E L d 253 1096 ls (zi 1 :: st) M := eb_E_s hk253 rfl
theorem e253_1096 {x : Int32} {y : Int32} : eb_E L d 253 1096 ls (zi y :: zi x :: st) M = eb_E L d 253 1097 ls (zi (x + y) :: st) M := eb_E_s hk253 rfl
theorem e253_1097 {x : Int32} : eb_E L d 253 1097 ls (zi x :: Sum.inr (some a) :: st) (nc, ns, I, J, R) = if (eb_ty L a.1).1 = 17 ∧ eb_in x (eb_ty L a.1).2 = true then eb_E L d 253 1098 ls (zi (I a x.toNatClampNeg) :: st) (nc, ns, I, J, R) else none := eb_E_iy hk253 rfl
theorem e253_1098  : eb_E L d 253 1098 ls ([a1, a0]) M = (eb_ev L d 93 [a0, a1] M).bind (fun q => eb_E L d 253 1101 ls [q.1] q.2) := eb_E_c hk253 rfl
theorem e253_1101 {x : Option eb_A} : eb_E L d 253 1101 [v0, v1, some (Sum.inr x), v3] (st) M = eb_E L d 253 1102 [v0, v1, some (Sum.inr x), v3] (Sum.inr x :: st) M := eb_E_s hk253 rfl
theorem e253_1102 {x : Option eb_A} : eb_E L d 253 1102 [some (Sum.inr x), v1, v2, v3] (st) M = eb_E L d 253 1103 [some (Sum.inr x), v1, v2, v3] (Sum.inr x :: st) M := eb_E_s hk253 rfl
theorem e253_1103 {x : Int32} : eb_E L d 253 1103 [v0, v1, v2, some (zi x)] (st) M = eb_E L d 253 1104 [v0, v1, v2, some (zi x)] (zi x :: st) M := eb_E_s hk253 rfl
theorem e253_1104  : eb_E L d 253 1104 ls (st) M = eb_E L d 253 1105 ls (zi 1 :: st) M := eb_E_s hk253 rfl
theorem e253_1105 {x : Int32} {y : Int32} : eb_E L d 253 1105 ls (zi y :: zi x :: st) M = eb_E L d 253 1106 ls (zi (x + y) :: st) M := eb_E_s hk253 rfl
theorem e253_1106 {x : Int32} : eb_E L d 253 1106 ls (zi x :: Sum.inr (some a) :: st) (nc, ns, I, J, R) = if (eb_ty L a.1).1 = 17 ∧ eb_in x (eb_ty L a.1).2 = true then eb_E L d 253 1107 ls (zi (I a x.toNatClampNeg) :: st) (nc, ns, I, J, R) else none := eb_E_iy hk253 rfl
theorem e253_1107 {s0 : Int32} : eb_E L d 253 1107 ls ([a1, a0, zi s0]) M = (eb_ev L d 205 [a0, a1] M).bind (fun q => eb_E L d 253 1110 ls [q.1, zi s0] q.2) := eb_E_c hk253 rfl
theorem e253_1110 {x : Int32} {y : Int32} : eb_E L d 253 1110 ls (zi y :: zi x :: st) M = if x = y then eb_E L d 253 1948 ls st M else eb_E L d 253 1113 ls st M := eb_E_b hk253 rfl
theorem e253_1113  : eb_E L d 253 1113 ls (st) M = eb_E L d 253 1114 ls (zi 0 :: st) M := eb_E_s hk253 rfl
theorem e253_1114 {x : Int32} : eb_E L d 253 1114 ls ([zi x]) M = if x = 0 ∨ x = 1 then some (zi x, M) else none := eb_E_ri hk253 rfl
theorem e253_1115 {x : Option eb_A} : eb_E L d 253 1115 [v0, some (Sum.inr x), v2, v3] (st) M = eb_E L d 253 1116 [v0, some (Sum.inr x), v2, v3] (Sum.inr x :: st) M := eb_E_s hk253 rfl
theorem e253_1116 {x : Option eb_A} : eb_E L d 253 1116 [some (Sum.inr x), v1, v2, v3] (st) M = eb_E L d 253 1117 [some (Sum.inr x), v1, v2, v3] (Sum.inr x :: st) M := eb_E_s hk253 rfl
theorem e253_1117 {x : Int32} : eb_E L d 253 1117 [v0, v1, v2, some (zi x)] (st) M = eb_E L d 253 1118 [v0, v1, v2, some (zi x)] (zi x :: st) M := eb_E_s hk253 rfl
theorem e253_1118  : eb_E L d 253 1118 ls (st) M = eb_E L d 253 1119 ls (zi 1 :: st) M := eb_E_s hk253 rfl
theorem e253_1119 {x : Int32} {y : Int32} : eb_E L d 253 1119 ls (zi y :: zi x :: st) M = eb_E L d 253 1120 ls (zi (x + y) :: st) M := eb_E_s hk253 rfl
theorem e253_1120 {x : Int32} : eb_E L d 253 1120 ls (zi x :: Sum.inr (some a) :: st) (nc, ns, I, J, R) = if (eb_ty L a.1).1 = 17 ∧ eb_in x (eb_ty L a.1).2 = true then eb_E L d 253 1121 ls (zi (I a x.toNatClampNeg) :: st) (nc, ns, I, J, R) else none := eb_E_iy hk253 rfl
theorem e253_1121  : eb_E L d 253 1121 ls ([a1, a0]) M = (eb_ev L d 94 [a0, a1] M).bind (fun q => eb_E L d 253 1124 ls [q.1] q.2) := eb_E_c hk253 rfl
theorem e253_1124 {x : Option eb_A} : eb_E L d 253 1124 [v0, v1, some (Sum.inr x), v3] (st) M = eb_E L d 253 1125 [v0, v1, some (Sum.inr x), v3] (Sum.inr x :: st) M := eb_E_s hk253 rfl
theorem e253_1125 {x : Option eb_A} : eb_E L d 253 1125 [some (Sum.inr x), v1, v2, v3] (st) M = eb_E L d 253 1126 [some (Sum.inr x), v1, v2, v3] (Sum.inr x :: st) M := eb_E_s hk253 rfl
theorem e253_1126 {x : Int32} : eb_E L d 253 1126 [v0, v1, v2, some (zi x)] (st) M = eb_E L d 253 1127 [v0, v1, v2, some (zi x)] (zi x :: st) M := eb_E_s hk253 rfl
theorem e253_1127  : eb_E L d 253 1127 ls (st) M = eb_E L d 253 1128 ls (zi 1 :: st) M := eb_E_s hk253 rfl
theorem e253_1128 {x : Int32} {y : Int32} : eb_E L d 253 1128 ls (zi y :: zi x :: st) M = eb_E L d 253 1129 ls (zi (x + y) :: st) M := eb_E_s hk253 rfl
theorem e253_1129 {x : Int32} : eb_E L d 253 1129 ls (zi x :: Sum.inr (some a) :: st) (nc, ns, I, J, R) = if (eb_ty L a.1).1 = 17 ∧ eb_in x (eb_ty L a.1).2 = true then eb_E L d 253 1130 ls (zi (I a x.toNatClampNeg) :: st) (nc, ns, I, J, R) else none := eb_E_iy hk253 rfl
theorem e253_1130 {s0 : Int32} : eb_E L d 253 1130 ls ([a1, a0, zi s0]) M = (eb_ev L d 206 [a0, a1] M).bind (fun q => eb_E L d 253 1133 ls [q.1, zi s0] q.2) := eb_E_c hk253 rfl
theorem e253_1133 {x : Int32} {y : Int32} : eb_E L d 253 1133 ls (zi y :: zi x :: st) M = if x = y then eb_E L d 253 1948 ls st M else eb_E L d 253 1136 ls st M := eb_E_b hk253 rfl
theorem e253_1136  : eb_E L d 253 1136 ls (st) M = eb_E L d 253 1137 ls (zi 0 :: st) M := eb_E_s hk253 rfl
theorem e253_1137 {x : Int32} : eb_E L d 253 1137 ls ([zi x]) M = if x = 0 ∨ x = 1 then some (zi x, M) else none := eb_E_ri hk253 rfl
theorem e253_1138 {x : Option eb_A} : eb_E L d 253 1138 [v0, some (Sum.inr x), v2, v3] (st) M = eb_E L d 253 1139 [v0, some (Sum.inr x), v2, v3] (Sum.inr x :: st) M := eb_E_s hk253 rfl
theorem e253_1139 {x : Option eb_A} : eb_E L d 253 1139 [some (Sum.inr x), v1, v2, v3] (st) M = eb_E L d 253 1140 [some (Sum.inr x), v1, v2, v3] (Sum.inr x :: st) M := eb_E_s hk253 rfl
theorem e253_1140 {x : Int32} : eb_E L d 253 1140 [v0, v1, v2, some (zi x)] (st) M = eb_E L d 253 1141 [v0, v1, v2, some (zi x)] (zi x :: st) M := eb_E_s hk253 rfl
theorem e253_1141  : eb_E L d 253 1141 ls (st) M = eb_E L d 253 1142 ls (zi 1 :: st) M := eb_E_s hk253 rfl
theorem e253_1142 {x : Int32} {y : Int32} : eb_E L d 253 1142 ls (zi y :: zi x :: st) M = eb_E L d 253 1143 ls (zi (x + y) :: st) M := eb_E_s hk253 rfl
theorem e253_1143 {x : Int32} : eb_E L d 253 1143 ls (zi x :: Sum.inr (some a) :: st) (nc, ns, I, J, R) = if (eb_ty L a.1).1 = 17 ∧ eb_in x (eb_ty L a.1).2 = true then eb_E L d 253 1144 ls (zi (I a x.toNatClampNeg) :: st) (nc, ns, I, J, R) else none := eb_E_iy hk253 rfl
theorem e253_1144  : eb_E L d 253 1144 ls ([a1, a0]) M = (eb_ev L d 95 [a0, a1] M).bind (fun q => eb_E L d 253 1147 ls [q.1] q.2) := eb_E_c hk253 rfl
theorem e253_1147 {x : Option eb_A} : eb_E L d 253 1147 [v0, v1, some (Sum.inr x), v3] (st) M = eb_E L d 253 1148 [v0, v1, some (Sum.inr x), v3] (Sum.inr x :: st) M := eb_E_s hk253 rfl
theorem e253_1148 {x : Option eb_A} : eb_E L d 253 1148 [some (Sum.inr x), v1, v2, v3] (st) M = eb_E L d 253 1149 [some (Sum.inr x), v1, v2, v3] (Sum.inr x :: st) M := eb_E_s hk253 rfl
theorem e253_1149 {x : Int32} : eb_E L d 253 1149 [v0, v1, v2, some (zi x)] (st) M = eb_E L d 253 1150 [v0, v1, v2, some (zi x)] (zi x :: st) M := eb_E_s hk253 rfl
theorem e253_1150  : eb_E L d 253 1150 ls (st) M = eb_E L d 253 1151 ls (zi 1 :: st) M := eb_E_s hk253 rfl
theorem e253_1151 {x : Int32} {y : Int32} : eb_E L d 253 1151 ls (zi y :: zi x :: st) M = eb_E L d 253 1152 ls (zi (x + y) :: st) M := eb_E_s hk253 rfl
theorem e253_1152 {x : Int32} : eb_E L d 253 1152 ls (zi x :: Sum.inr (some a) :: st) (nc, ns, I, J, R) = if (eb_ty L a.1).1 = 17 ∧ eb_in x (eb_ty L a.1).2 = true then eb_E L d 253 1153 ls (zi (I a x.toNatClampNeg) :: st) (nc, ns, I, J, R) else none := eb_E_iy hk253 rfl
theorem e253_1153 {s0 : Int32} : eb_E L d 253 1153 ls ([a1, a0, zi s0]) M = (eb_ev L d 208 [a0, a1] M).bind (fun q => eb_E L d 253 1156 ls [q.1, zi s0] q.2) := eb_E_c hk253 rfl
theorem e253_1156 {x : Int32} {y : Int32} : eb_E L d 253 1156 ls (zi y :: zi x :: st) M = if x = y then eb_E L d 253 1948 ls st M else eb_E L d 253 1159 ls st M := eb_E_b hk253 rfl
theorem e253_1159  : eb_E L d 253 1159 ls (st) M = eb_E L d 253 1160 ls (zi 0 :: st) M := eb_E_s hk253 rfl
theorem e253_1160 {x : Int32} : eb_E L d 253 1160 ls ([zi x]) M = if x = 0 ∨ x = 1 then some (zi x, M) else none := eb_E_ri hk253 rfl
theorem e253_1161 {x : Option eb_A} : eb_E L d 253 1161 [v0, some (Sum.inr x), v2, v3] (st) M = eb_E L d 253 1162 [v0, some (Sum.inr x), v2, v3] (Sum.inr x :: st) M := eb_E_s hk253 rfl
theorem e253_1162 {x : Option eb_A} : eb_E L d 253 1162 [some (Sum.inr x), v1, v2, v3] (st) M = eb_E L d 253 1163 [some (Sum.inr x), v1, v2, v3] (Sum.inr x :: st) M := eb_E_s hk253 rfl
theorem e253_1163 {x : Int32} : eb_E L d 253 1163 [v0, v1, v2, some (zi x)] (st) M = eb_E L d 253 1164 [v0, v1, v2, some (zi x)] (zi x :: st) M := eb_E_s hk253 rfl
theorem e253_1164  : eb_E L d 253 1164 ls (st) M = eb_E L d 253 1165 ls (zi 1 :: st) M := eb_E_s hk253 rfl
theorem e253_1165 {x : Int32} {y : Int32} : eb_E L d 253 1165 ls (zi y :: zi x :: st) M = eb_E L d 253 1166 ls (zi (x + y) :: st) M := eb_E_s hk253 rfl
theorem e253_1166 {x : Int32} : eb_E L d 253 1166 ls (zi x :: Sum.inr (some a) :: st) (nc, ns, I, J, R) = if (eb_ty L a.1).1 = 17 ∧ eb_in x (eb_ty L a.1).2 = true then eb_E L d 253 1167 ls (zi (I a x.toNatClampNeg) :: st) (nc, ns, I, J, R) else none := eb_E_iy hk253 rfl
theorem e253_1167  : eb_E L d 253 1167 ls ([a1, a0]) M = (eb_ev L d 96 [a0, a1] M).bind (fun q => eb_E L d 253 1170 ls [q.1] q.2) := eb_E_c hk253 rfl
theorem e253_1170 {x : Option eb_A} : eb_E L d 253 1170 [v0, v1, some (Sum.inr x), v3] (st) M = eb_E L d 253 1171 [v0, v1, some (Sum.inr x), v3] (Sum.inr x :: st) M := eb_E_s hk253 rfl
theorem e253_1171 {x : Option eb_A} : eb_E L d 253 1171 [some (Sum.inr x), v1, v2, v3] (st) M = eb_E L d 253 1172 [some (Sum.inr x), v1, v2, v3] (Sum.inr x :: st) M := eb_E_s hk253 rfl
theorem e253_1172 {x : Int32} : eb_E L d 253 1172 [v0, v1, v2, some (zi x)] (st) M = eb_E L d 253 1173 [v0, v1, v2, some (zi x)] (zi x :: st) M := eb_E_s hk253 rfl
theorem e253_1173  : eb_E L d 253 1173 ls (st) M = eb_E L d 253 1174 ls (zi 1 :: st) M := eb_E_s hk253 rfl
theorem e253_1174 {x : Int32} {y : Int32} : eb_E L d 253 1174 ls (zi y :: zi x :: st) M = eb_E L d 253 1175 ls (zi (x + y) :: st) M := eb_E_s hk253 rfl
theorem e253_1175 {x : Int32} : eb_E L d 253 1175 ls (zi x :: Sum.inr (some a) :: st) (nc, ns, I, J, R) = if (eb_ty L a.1).1 = 17 ∧ eb_in x (eb_ty L a.1).2 = true then eb_E L d 253 1176 ls (zi (I a x.toNatClampNeg) :: st) (nc, ns, I, J, R) else none := eb_E_iy hk253 rfl
theorem e253_1176 {s0 : Int32} : eb_E L d 253 1176 ls ([a1, a0, zi s0]) M = (eb_ev L d 209 [a0, a1] M).bind (fun q => eb_E L d 253 1179 ls [q.1, zi s0] q.2) := eb_E_c hk253 rfl
theorem e253_1179 {x : Int32} {y : Int32} : eb_E L d 253 1179 ls (zi y :: zi x :: st) M = if x = y then eb_E L d 253 1948 ls st M else eb_E L d 253 1182 ls st M := eb_E_b hk253 rfl
theorem e253_1182  : eb_E L d 253 1182 ls (st) M = eb_E L d 253 1183 ls (zi 0 :: st) M := eb_E_s hk253 rfl
theorem e253_1183 {x : Int32} : eb_E L d 253 1183 ls ([zi x]) M = if x = 0 ∨ x = 1 then some (zi x, M) else none := eb_E_ri hk253 rfl
theorem e253_1184 {x : Option eb_A} : eb_E L d 253 1184 [v0, some (Sum.inr x), v2, v3] (st) M = eb_E L d 253 1185 [v0, some (Sum.inr x), v2, v3] (Sum.inr x :: st) M := eb_E_s hk253 rfl
theorem e253_1185  : eb_E L d 253 1185 ls ([a0]) M = (eb_ev L d 97 [a0] M).bind (fun q => eb_E L d 253 1188 ls [q.1] q.2) := eb_E_c hk253 rfl
theorem e253_1188 {x : Option eb_A} : eb_E L d 253 1188 [v0, v1, some (Sum.inr x), v3] (st) M = eb_E L d 253 1189 [v0, v1, some (Sum.inr x), v3] (Sum.inr x :: st) M := eb_E_s hk253 rfl
theorem e253_1189 {s0 : Int32} : eb_E L d 253 1189 ls ([a0, zi s0]) M = (eb_ev L d 211 [a0] M).bind (fun q => eb_E L d 253 1192 ls [q.1, zi s0] q.2) := eb_E_c hk253 rfl
theorem e253_1192 {x : Int32} {y : Int32} : eb_E L d 253 1192 ls (zi y :: zi x :: st) M = if x = y then eb_E L d 253 1948 ls st M else eb_E L d 253 1195 ls st M := eb_E_b hk253 rfl
theorem e253_1195  : eb_E L d 253 1195 ls (st) M = eb_E L d 253 1196 ls (zi 0 :: st) M := eb_E_s hk253 rfl
theorem e253_1196 {x : Int32} : eb_E L d 253 1196 ls ([zi x]) M = if x = 0 ∨ x = 1 then some (zi x, M) else none := eb_E_ri hk253 rfl
theorem e253_1197 {x : Option eb_A} : eb_E L d 253 1197 [v0, some (Sum.inr x), v2, v3] (st) M = eb_E L d 253 1198 [v0, some (Sum.inr x), v2, v3] (Sum.inr x :: st) M := eb_E_s hk253 rfl
theorem e253_1198  : eb_E L d 253 1198 ls ([a0]) M = (eb_ev L d 98 [a0] M).bind (fun q => eb_E L d 253 1201 ls [q.1] q.2) := eb_E_c hk253 rfl
theorem e253_1201 {x : Option eb_A} : eb_E L d 253 1201 [v0, v1, some (Sum.inr x), v3] (st) M = eb_E L d 253 1202 [v0, v1, some (Sum.inr x), v3] (Sum.inr x :: st) M := eb_E_s hk253 rfl
theorem e253_1202 {s0 : Int32} : eb_E L d 253 1202 ls ([a0, zi s0]) M = (eb_ev L d 213 [a0] M).bind (fun q => eb_E L d 253 1205 ls [q.1, zi s0] q.2) := eb_E_c hk253 rfl
theorem e253_1205 {x : Int32} {y : Int32} : eb_E L d 253 1205 ls (zi y :: zi x :: st) M = if x = y then eb_E L d 253 1948 ls st M else eb_E L d 253 1208 ls st M := eb_E_b hk253 rfl
theorem e253_1208  : eb_E L d 253 1208 ls (st) M = eb_E L d 253 1209 ls (zi 0 :: st) M := eb_E_s hk253 rfl
theorem e253_1209 {x : Int32} : eb_E L d 253 1209 ls ([zi x]) M = if x = 0 ∨ x = 1 then some (zi x, M) else none := eb_E_ri hk253 rfl
theorem e253_1210 {x : Option eb_A} : eb_E L d 253 1210 [v0, some (Sum.inr x), v2, v3] (st) M = eb_E L d 253 1211 [v0, some (Sum.inr x), v2, v3] (Sum.inr x :: st) M := eb_E_s hk253 rfl
theorem e253_1211 {x : Option eb_A} : eb_E L d 253 1211 [some (Sum.inr x), v1, v2, v3] (st) M = eb_E L d 253 1212 [some (Sum.inr x), v1, v2, v3] (Sum.inr x :: st) M := eb_E_s hk253 rfl
theorem e253_1212 {x : Int32} : eb_E L d 253 1212 [v0, v1, v2, some (zi x)] (st) M = eb_E L d 253 1213 [v0, v1, v2, some (zi x)] (zi x :: st) M := eb_E_s hk253 rfl
theorem e253_1213  : eb_E L d 253 1213 ls (st) M = eb_E L d 253 1214 ls (zi 1 :: st) M := eb_E_s hk253 rfl
theorem e253_1214 {x : Int32} {y : Int32} : eb_E L d 253 1214 ls (zi y :: zi x :: st) M = eb_E L d 253 1215 ls (zi (x + y) :: st) M := eb_E_s hk253 rfl
theorem e253_1215 {x : Int32} : eb_E L d 253 1215 ls (zi x :: Sum.inr (some a) :: st) (nc, ns, I, J, R) = if (eb_ty L a.1).1 = 17 ∧ eb_in x (eb_ty L a.1).2 = true then eb_E L d 253 1216 ls (zi (I a x.toNatClampNeg) :: st) (nc, ns, I, J, R) else none := eb_E_iy hk253 rfl
theorem e253_1216  : eb_E L d 253 1216 ls ([a1, a0]) M = (eb_ev L d 99 [a0, a1] M).bind (fun q => eb_E L d 253 1219 ls [q.1] q.2) := eb_E_c hk253 rfl
theorem e253_1219 {x : Option eb_A} : eb_E L d 253 1219 [v0, v1, some (Sum.inr x), v3] (st) M = eb_E L d 253 1220 [v0, v1, some (Sum.inr x), v3] (Sum.inr x :: st) M := eb_E_s hk253 rfl
theorem e253_1220 {x : Option eb_A} : eb_E L d 253 1220 [some (Sum.inr x), v1, v2, v3] (st) M = eb_E L d 253 1221 [some (Sum.inr x), v1, v2, v3] (Sum.inr x :: st) M := eb_E_s hk253 rfl
theorem e253_1221 {x : Int32} : eb_E L d 253 1221 [v0, v1, v2, some (zi x)] (st) M = eb_E L d 253 1222 [v0, v1, v2, some (zi x)] (zi x :: st) M := eb_E_s hk253 rfl
theorem e253_1222  : eb_E L d 253 1222 ls (st) M = eb_E L d 253 1223 ls (zi 1 :: st) M := eb_E_s hk253 rfl
theorem e253_1223 {x : Int32} {y : Int32} : eb_E L d 253 1223 ls (zi y :: zi x :: st) M = eb_E L d 253 1224 ls (zi (x + y) :: st) M := eb_E_s hk253 rfl
theorem e253_1224 {x : Int32} : eb_E L d 253 1224 ls (zi x :: Sum.inr (some a) :: st) (nc, ns, I, J, R) = if (eb_ty L a.1).1 = 17 ∧ eb_in x (eb_ty L a.1).2 = true then eb_E L d 253 1225 ls (zi (I a x.toNatClampNeg) :: st) (nc, ns, I, J, R) else none := eb_E_iy hk253 rfl
theorem e253_1225 {s0 : Int32} : eb_E L d 253 1225 ls ([a1, a0, zi s0]) M = (eb_ev L d 214 [a0, a1] M).bind (fun q => eb_E L d 253 1228 ls [q.1, zi s0] q.2) := eb_E_c hk253 rfl
theorem e253_1228 {x : Int32} {y : Int32} : eb_E L d 253 1228 ls (zi y :: zi x :: st) M = if x = y then eb_E L d 253 1948 ls st M else eb_E L d 253 1231 ls st M := eb_E_b hk253 rfl
theorem e253_1231  : eb_E L d 253 1231 ls (st) M = eb_E L d 253 1232 ls (zi 0 :: st) M := eb_E_s hk253 rfl
theorem e253_1232 {x : Int32} : eb_E L d 253 1232 ls ([zi x]) M = if x = 0 ∨ x = 1 then some (zi x, M) else none := eb_E_ri hk253 rfl
theorem e253_1233 {x : Option eb_A} : eb_E L d 253 1233 [v0, some (Sum.inr x), v2, v3] (st) M = eb_E L d 253 1234 [v0, some (Sum.inr x), v2, v3] (Sum.inr x :: st) M := eb_E_s hk253 rfl
theorem e253_1234 {x : Option eb_A} : eb_E L d 253 1234 [some (Sum.inr x), v1, v2, v3] (st) M = eb_E L d 253 1235 [some (Sum.inr x), v1, v2, v3] (Sum.inr x :: st) M := eb_E_s hk253 rfl
theorem e253_1235 {x : Int32} : eb_E L d 253 1235 [v0, v1, v2, some (zi x)] (st) M = eb_E L d 253 1236 [v0, v1, v2, some (zi x)] (zi x :: st) M := eb_E_s hk253 rfl
theorem e253_1236  : eb_E L d 253 1236 ls (st) M = eb_E L d 253 1237 ls (zi 1 :: st) M := eb_E_s hk253 rfl
theorem e253_1237 {x : Int32} {y : Int32} : eb_E L d 253 1237 ls (zi y :: zi x :: st) M = eb_E L d 253 1238 ls (zi (x + y) :: st) M := eb_E_s hk253 rfl
theorem e253_1238 {x : Int32} : eb_E L d 253 1238 ls (zi x :: Sum.inr (some a) :: st) (nc, ns, I, J, R) = if (eb_ty L a.1).1 = 17 ∧ eb_in x (eb_ty L a.1).2 = true then eb_E L d 253 1239 ls (zi (I a x.toNatClampNeg) :: st) (nc, ns, I, J, R) else none := eb_E_iy hk253 rfl
theorem e253_1239  : eb_E L d 253 1239 ls ([a1, a0]) M = (eb_ev L d 100 [a0, a1] M).bind (fun q => eb_E L d 253 1242 ls [q.1] q.2) := eb_E_c hk253 rfl
theorem e253_1242 {x : Option eb_A} : eb_E L d 253 1242 [v0, v1, some (Sum.inr x), v3] (st) M = eb_E L d 253 1243 [v0, v1, some (Sum.inr x), v3] (Sum.inr x :: st) M := eb_E_s hk253 rfl
theorem e253_1243 {x : Option eb_A} : eb_E L d 253 1243 [some (Sum.inr x), v1, v2, v3] (st) M = eb_E L d 253 1244 [some (Sum.inr x), v1, v2, v3] (Sum.inr x :: st) M := eb_E_s hk253 rfl
theorem e253_1244 {x : Int32} : eb_E L d 253 1244 [v0, v1, v2, some (zi x)] (st) M = eb_E L d 253 1245 [v0, v1, v2, some (zi x)] (zi x :: st) M := eb_E_s hk253 rfl
theorem e253_1245  : eb_E L d 253 1245 ls (st) M = eb_E L d 253 1246 ls (zi 1 :: st) M := eb_E_s hk253 rfl
theorem e253_1246 {x : Int32} {y : Int32} : eb_E L d 253 1246 ls (zi y :: zi x :: st) M = eb_E L d 253 1247 ls (zi (x + y) :: st) M := eb_E_s hk253 rfl
theorem e253_1247 {x : Int32} : eb_E L d 253 1247 ls (zi x :: Sum.inr (some a) :: st) (nc, ns, I, J, R) = if (eb_ty L a.1).1 = 17 ∧ eb_in x (eb_ty L a.1).2 = true then eb_E L d 253 1248 ls (zi (I a x.toNatClampNeg) :: st) (nc, ns, I, J, R) else none := eb_E_iy hk253 rfl
theorem e253_1248 {s0 : Int32} : eb_E L d 253 1248 ls ([a1, a0, zi s0]) M = (eb_ev L d 215 [a0, a1] M).bind (fun q => eb_E L d 253 1251 ls [q.1, zi s0] q.2) := eb_E_c hk253 rfl
theorem e253_1251 {x : Int32} {y : Int32} : eb_E L d 253 1251 ls (zi y :: zi x :: st) M = if x = y then eb_E L d 253 1948 ls st M else eb_E L d 253 1254 ls st M := eb_E_b hk253 rfl
theorem e253_1254  : eb_E L d 253 1254 ls (st) M = eb_E L d 253 1255 ls (zi 0 :: st) M := eb_E_s hk253 rfl
theorem e253_1255 {x : Int32} : eb_E L d 253 1255 ls ([zi x]) M = if x = 0 ∨ x = 1 then some (zi x, M) else none := eb_E_ri hk253 rfl
theorem e253_1256 {x : Option eb_A} : eb_E L d 253 1256 [v0, some (Sum.inr x), v2, v3] (st) M = eb_E L d 253 1257 [v0, some (Sum.inr x), v2, v3] (Sum.inr x :: st) M := eb_E_s hk253 rfl
theorem e253_1257 {x : Option eb_A} : eb_E L d 253 1257 [some (Sum.inr x), v1, v2, v3] (st) M = eb_E L d 253 1258 [some (Sum.inr x), v1, v2, v3] (Sum.inr x :: st) M := eb_E_s hk253 rfl
theorem e253_1258 {x : Int32} : eb_E L d 253 1258 [v0, v1, v2, some (zi x)] (st) M = eb_E L d 253 1259 [v0, v1, v2, some (zi x)] (zi x :: st) M := eb_E_s hk253 rfl
theorem e253_1259  : eb_E L d 253 1259 ls (st) M = eb_E L d 253 1260 ls (zi 1 :: st) M := eb_E_s hk253 rfl
theorem e253_1260 {x : Int32} {y : Int32} : eb_E L d 253 1260 ls (zi y :: zi x :: st) M = eb_E L d 253 1261 ls (zi (x + y) :: st) M := eb_E_s hk253 rfl
theorem e253_1261 {x : Int32} : eb_E L d 253 1261 ls (zi x :: Sum.inr (some a) :: st) (nc, ns, I, J, R) = if (eb_ty L a.1).1 = 17 ∧ eb_in x (eb_ty L a.1).2 = true then eb_E L d 253 1262 ls (zi (I a x.toNatClampNeg) :: st) (nc, ns, I, J, R) else none := eb_E_iy hk253 rfl
theorem e253_1262  : eb_E L d 253 1262 ls ([a1, a0]) M = (eb_ev L d 101 [a0, a1] M).bind (fun q => eb_E L d 253 1265 ls [q.1] q.2) := eb_E_c hk253 rfl
theorem e253_1265 {x : Option eb_A} : eb_E L d 253 1265 [v0, v1, some (Sum.inr x), v3] (st) M = eb_E L d 253 1266 [v0, v1, some (Sum.inr x), v3] (Sum.inr x :: st) M := eb_E_s hk253 rfl
theorem e253_1266 {x : Option eb_A} : eb_E L d 253 1266 [some (Sum.inr x), v1, v2, v3] (st) M = eb_E L d 253 1267 [some (Sum.inr x), v1, v2, v3] (Sum.inr x :: st) M := eb_E_s hk253 rfl
theorem e253_1267 {x : Int32} : eb_E L d 253 1267 [v0, v1, v2, some (zi x)] (st) M = eb_E L d 253 1268 [v0, v1, v2, some (zi x)] (zi x :: st) M := eb_E_s hk253 rfl
theorem e253_1268  : eb_E L d 253 1268 ls (st) M = eb_E L d 253 1269 ls (zi 1 :: st) M := eb_E_s hk253 rfl
theorem e253_1269 {x : Int32} {y : Int32} : eb_E L d 253 1269 ls (zi y :: zi x :: st) M = eb_E L d 253 1270 ls (zi (x + y) :: st) M := eb_E_s hk253 rfl
theorem e253_1270 {x : Int32} : eb_E L d 253 1270 ls (zi x :: Sum.inr (some a) :: st) (nc, ns, I, J, R) = if (eb_ty L a.1).1 = 17 ∧ eb_in x (eb_ty L a.1).2 = true then eb_E L d 253 1271 ls (zi (I a x.toNatClampNeg) :: st) (nc, ns, I, J, R) else none := eb_E_iy hk253 rfl
theorem e253_1271 {s0 : Int32} : eb_E L d 253 1271 ls ([a1, a0, zi s0]) M = (eb_ev L d 217 [a0, a1] M).bind (fun q => eb_E L d 253 1274 ls [q.1, zi s0] q.2) := eb_E_c hk253 rfl
theorem e253_1274 {x : Int32} {y : Int32} : eb_E L d 253 1274 ls (zi y :: zi x :: st) M = if x = y then eb_E L d 253 1948 ls st M else eb_E L d 253 1277 ls st M := eb_E_b hk253 rfl
theorem e253_1277  : eb_E L d 253 1277 ls (st) M = eb_E L d 253 1278 ls (zi 0 :: st) M := eb_E_s hk253 rfl
theorem e253_1278 {x : Int32} : eb_E L d 253 1278 ls ([zi x]) M = if x = 0 ∨ x = 1 then some (zi x, M) else none := eb_E_ri hk253 rfl
theorem e253_1279 {x : Option eb_A} : eb_E L d 253 1279 [v0, some (Sum.inr x), v2, v3] (st) M = eb_E L d 253 1280 [v0, some (Sum.inr x), v2, v3] (Sum.inr x :: st) M := eb_E_s hk253 rfl
theorem e253_1280 {x : Option eb_A} : eb_E L d 253 1280 [some (Sum.inr x), v1, v2, v3] (st) M = eb_E L d 253 1281 [some (Sum.inr x), v1, v2, v3] (Sum.inr x :: st) M := eb_E_s hk253 rfl
theorem e253_1281 {x : Int32} : eb_E L d 253 1281 [v0, v1, v2, some (zi x)] (st) M = eb_E L d 253 1282 [v0, v1, v2, some (zi x)] (zi x :: st) M := eb_E_s hk253 rfl
theorem e253_1282  : eb_E L d 253 1282 ls (st) M = eb_E L d 253 1283 ls (zi 1 :: st) M := eb_E_s hk253 rfl
theorem e253_1283 {x : Int32} {y : Int32} : eb_E L d 253 1283 ls (zi y :: zi x :: st) M = eb_E L d 253 1284 ls (zi (x + y) :: st) M := eb_E_s hk253 rfl
theorem e253_1284 {x : Int32} : eb_E L d 253 1284 ls (zi x :: Sum.inr (some a) :: st) (nc, ns, I, J, R) = if (eb_ty L a.1).1 = 17 ∧ eb_in x (eb_ty L a.1).2 = true then eb_E L d 253 1285 ls (zi (I a x.toNatClampNeg) :: st) (nc, ns, I, J, R) else none := eb_E_iy hk253 rfl
theorem e253_1285  : eb_E L d 253 1285 ls ([a1, a0]) M = (eb_ev L d 102 [a0, a1] M).bind (fun q => eb_E L d 253 1288 ls [q.1] q.2) := eb_E_c hk253 rfl
theorem e253_1288 {x : Option eb_A} : eb_E L d 253 1288 [v0, v1, some (Sum.inr x), v3] (st) M = eb_E L d 253 1289 [v0, v1, some (Sum.inr x), v3] (Sum.inr x :: st) M := eb_E_s hk253 rfl
theorem e253_1289 {x : Option eb_A} : eb_E L d 253 1289 [some (Sum.inr x), v1, v2, v3] (st) M = eb_E L d 253 1290 [some (Sum.inr x), v1, v2, v3] (Sum.inr x :: st) M := eb_E_s hk253 rfl
theorem e253_1290 {x : Int32} : eb_E L d 253 1290 [v0, v1, v2, some (zi x)] (st) M = eb_E L d 253 1291 [v0, v1, v2, some (zi x)] (zi x :: st) M := eb_E_s hk253 rfl
theorem e253_1291  : eb_E L d 253 1291 ls (st) M = eb_E L d 253 1292 ls (zi 1 :: st) M := eb_E_s hk253 rfl
theorem e253_1292 {x : Int32} {y : Int32} : eb_E L d 253 1292 ls (zi y :: zi x :: st) M = eb_E L d 253 1293 ls (zi (x + y) :: st) M := eb_E_s hk253 rfl
theorem e253_1293 {x : Int32} : eb_E L d 253 1293 ls (zi x :: Sum.inr (some a) :: st) (nc, ns, I, J, R) = if (eb_ty L a.1).1 = 17 ∧ eb_in x (eb_ty L a.1).2 = true then eb_E L d 253 1294 ls (zi (I a x.toNatClampNeg) :: st) (nc, ns, I, J, R) else none := eb_E_iy hk253 rfl
theorem e253_1294 {s0 : Int32} : eb_E L d 253 1294 ls ([a1, a0, zi s0]) M = (eb_ev L d 218 [a0, a1] M).bind (fun q => eb_E L d 253 1297 ls [q.1, zi s0] q.2) := eb_E_c hk253 rfl
theorem e253_1297 {x : Int32} {y : Int32} : eb_E L d 253 1297 ls (zi y :: zi x :: st) M = if x = y then eb_E L d 253 1948 ls st M else eb_E L d 253 1300 ls st M := eb_E_b hk253 rfl
theorem e253_1300  : eb_E L d 253 1300 ls (st) M = eb_E L d 253 1301 ls (zi 0 :: st) M := eb_E_s hk253 rfl
theorem e253_1301 {x : Int32} : eb_E L d 253 1301 ls ([zi x]) M = if x = 0 ∨ x = 1 then some (zi x, M) else none := eb_E_ri hk253 rfl
theorem e253_1302 {x : Option eb_A} : eb_E L d 253 1302 [v0, some (Sum.inr x), v2, v3] (st) M = eb_E L d 253 1303 [v0, some (Sum.inr x), v2, v3] (Sum.inr x :: st) M := eb_E_s hk253 rfl
theorem e253_1303 {x : Option eb_A} : eb_E L d 253 1303 [some (Sum.inr x), v1, v2, v3] (st) M = eb_E L d 253 1304 [some (Sum.inr x), v1, v2, v3] (Sum.inr x :: st) M := eb_E_s hk253 rfl
theorem e253_1304 {x : Int32} : eb_E L d 253 1304 [v0, v1, v2, some (zi x)] (st) M = eb_E L d 253 1305 [v0, v1, v2, some (zi x)] (zi x :: st) M := eb_E_s hk253 rfl
theorem e253_1305  : eb_E L d 253 1305 ls (st) M = eb_E L d 253 1306 ls (zi 1 :: st) M := eb_E_s hk253 rfl
theorem e253_1306 {x : Int32} {y : Int32} : eb_E L d 253 1306 ls (zi y :: zi x :: st) M = eb_E L d 253 1307 ls (zi (x + y) :: st) M := eb_E_s hk253 rfl
theorem e253_1307 {x : Int32} : eb_E L d 253 1307 ls (zi x :: Sum.inr (some a) :: st) (nc, ns, I, J, R) = if (eb_ty L a.1).1 = 17 ∧ eb_in x (eb_ty L a.1).2 = true then eb_E L d 253 1308 ls (zi (I a x.toNatClampNeg) :: st) (nc, ns, I, J, R) else none := eb_E_iy hk253 rfl
theorem e253_1308 {x : Option eb_A} : eb_E L d 253 1308 [some (Sum.inr x), v1, v2, v3] (st) M = eb_E L d 253 1309 [some (Sum.inr x), v1, v2, v3] (Sum.inr x :: st) M := eb_E_s hk253 rfl
theorem e253_1309 {x : Int32} : eb_E L d 253 1309 [v0, v1, v2, some (zi x)] (st) M = eb_E L d 253 1310 [v0, v1, v2, some (zi x)] (zi x :: st) M := eb_E_s hk253 rfl
theorem e253_1310  : eb_E L d 253 1310 ls (st) M = eb_E L d 253 1311 ls (zi 2 :: st) M := eb_E_s hk253 rfl
theorem e253_1311 {x : Int32} {y : Int32} : eb_E L d 253 1311 ls (zi y :: zi x :: st) M = eb_E L d 253 1312 ls (zi (x + y) :: st) M := eb_E_s hk253 rfl
theorem e253_1312 {x : Int32} : eb_E L d 253 1312 ls (zi x :: Sum.inr (some a) :: st) (nc, ns, I, J, R) = if (eb_ty L a.1).1 = 17 ∧ eb_in x (eb_ty L a.1).2 = true then eb_E L d 253 1313 ls (zi (I a x.toNatClampNeg) :: st) (nc, ns, I, J, R) else none := eb_E_iy hk253 rfl
theorem e253_1313 {x : Option eb_A} : eb_E L d 253 1313 [some (Sum.inr x), v1, v2, v3] (st) M = eb_E L d 253 1314 [some (Sum.inr x), v1, v2, v3] (Sum.inr x :: st) M := eb_E_s hk253 rfl
theorem e253_1314 {x : Int32} : eb_E L d 253 1314 [v0, v1, v2, some (zi x)] (st) M = eb_E L d 253 1315 [v0, v1, v2, some (zi x)] (zi x :: st) M := eb_E_s hk253 rfl
theorem e253_1315  : eb_E L d 253 1315 ls (st) M = eb_E L d 253 1316 ls (zi 3 :: st) M := eb_E_s hk253 rfl
theorem e253_1316 {x : Int32} {y : Int32} : eb_E L d 253 1316 ls (zi y :: zi x :: st) M = eb_E L d 253 1317 ls (zi (x + y) :: st) M := eb_E_s hk253 rfl
theorem e253_1317 {x : Int32} : eb_E L d 253 1317 ls (zi x :: Sum.inr (some a) :: st) (nc, ns, I, J, R) = if (eb_ty L a.1).1 = 17 ∧ eb_in x (eb_ty L a.1).2 = true then eb_E L d 253 1318 ls (zi (I a x.toNatClampNeg) :: st) (nc, ns, I, J, R) else none := eb_E_iy hk253 rfl
theorem e253_1318  : eb_E L d 253 1318 ls ([a3, a2, a1, a0]) M = (eb_ev L d 103 [a0, a1, a2, a3] M).bind (fun q => eb_E L d 253 1321 ls [q.1] q.2) := eb_E_c hk253 rfl
theorem e253_1321 {x : Option eb_A} : eb_E L d 253 1321 [v0, v1, some (Sum.inr x), v3] (st) M = eb_E L d 253 1322 [v0, v1, some (Sum.inr x), v3] (Sum.inr x :: st) M := eb_E_s hk253 rfl
theorem e253_1322 {x : Option eb_A} : eb_E L d 253 1322 [some (Sum.inr x), v1, v2, v3] (st) M = eb_E L d 253 1323 [some (Sum.inr x), v1, v2, v3] (Sum.inr x :: st) M := eb_E_s hk253 rfl
theorem e253_1323 {x : Int32} : eb_E L d 253 1323 [v0, v1, v2, some (zi x)] (st) M = eb_E L d 253 1324 [v0, v1, v2, some (zi x)] (zi x :: st) M := eb_E_s hk253 rfl
theorem e253_1324  : eb_E L d 253 1324 ls (st) M = eb_E L d 253 1325 ls (zi 1 :: st) M := eb_E_s hk253 rfl
theorem e253_1325 {x : Int32} {y : Int32} : eb_E L d 253 1325 ls (zi y :: zi x :: st) M = eb_E L d 253 1326 ls (zi (x + y) :: st) M := eb_E_s hk253 rfl
theorem e253_1326 {x : Int32} : eb_E L d 253 1326 ls (zi x :: Sum.inr (some a) :: st) (nc, ns, I, J, R) = if (eb_ty L a.1).1 = 17 ∧ eb_in x (eb_ty L a.1).2 = true then eb_E L d 253 1327 ls (zi (I a x.toNatClampNeg) :: st) (nc, ns, I, J, R) else none := eb_E_iy hk253 rfl
theorem e253_1327 {x : Option eb_A} : eb_E L d 253 1327 [some (Sum.inr x), v1, v2, v3] (st) M = eb_E L d 253 1328 [some (Sum.inr x), v1, v2, v3] (Sum.inr x :: st) M := eb_E_s hk253 rfl
theorem e253_1328 {x : Int32} : eb_E L d 253 1328 [v0, v1, v2, some (zi x)] (st) M = eb_E L d 253 1329 [v0, v1, v2, some (zi x)] (zi x :: st) M := eb_E_s hk253 rfl
theorem e253_1329  : eb_E L d 253 1329 ls (st) M = eb_E L d 253 1330 ls (zi 2 :: st) M := eb_E_s hk253 rfl
theorem e253_1330 {x : Int32} {y : Int32} : eb_E L d 253 1330 ls (zi y :: zi x :: st) M = eb_E L d 253 1331 ls (zi (x + y) :: st) M := eb_E_s hk253 rfl
theorem e253_1331 {x : Int32} : eb_E L d 253 1331 ls (zi x :: Sum.inr (some a) :: st) (nc, ns, I, J, R) = if (eb_ty L a.1).1 = 17 ∧ eb_in x (eb_ty L a.1).2 = true then eb_E L d 253 1332 ls (zi (I a x.toNatClampNeg) :: st) (nc, ns, I, J, R) else none := eb_E_iy hk253 rfl
theorem e253_1332 {x : Option eb_A} : eb_E L d 253 1332 [some (Sum.inr x), v1, v2, v3] (st) M = eb_E L d 253 1333 [some (Sum.inr x), v1, v2, v3] (Sum.inr x :: st) M := eb_E_s hk253 rfl
theorem e253_1333 {x : Int32} : eb_E L d 253 1333 [v0, v1, v2, some (zi x)] (st) M = eb_E L d 253 1334 [v0, v1, v2, some (zi x)] (zi x :: st) M := eb_E_s hk253 rfl
theorem e253_1334  : eb_E L d 253 1334 ls (st) M = eb_E L d 253 1335 ls (zi 3 :: st) M := eb_E_s hk253 rfl
theorem e253_1335 {x : Int32} {y : Int32} : eb_E L d 253 1335 ls (zi y :: zi x :: st) M = eb_E L d 253 1336 ls (zi (x + y) :: st) M := eb_E_s hk253 rfl
theorem e253_1336 {x : Int32} : eb_E L d 253 1336 ls (zi x :: Sum.inr (some a) :: st) (nc, ns, I, J, R) = if (eb_ty L a.1).1 = 17 ∧ eb_in x (eb_ty L a.1).2 = true then eb_E L d 253 1337 ls (zi (I a x.toNatClampNeg) :: st) (nc, ns, I, J, R) else none := eb_E_iy hk253 rfl
theorem e253_1337 {s0 : Int32} : eb_E L d 253 1337 ls ([a3, a2, a1, a0, zi s0]) M = (eb_ev L d 219 [a0, a1, a2, a3] M).bind (fun q => eb_E L d 253 1340 ls [q.1, zi s0] q.2) := eb_E_c hk253 rfl
theorem e253_1340 {x : Int32} {y : Int32} : eb_E L d 253 1340 ls (zi y :: zi x :: st) M = if x = y then eb_E L d 253 1948 ls st M else eb_E L d 253 1343 ls st M := eb_E_b hk253 rfl
theorem e253_1343  : eb_E L d 253 1343 ls (st) M = eb_E L d 253 1344 ls (zi 0 :: st) M := eb_E_s hk253 rfl
theorem e253_1344 {x : Int32} : eb_E L d 253 1344 ls ([zi x]) M = if x = 0 ∨ x = 1 then some (zi x, M) else none := eb_E_ri hk253 rfl
theorem e253_1345 {x : Option eb_A} : eb_E L d 253 1345 [v0, some (Sum.inr x), v2, v3] (st) M = eb_E L d 253 1346 [v0, some (Sum.inr x), v2, v3] (Sum.inr x :: st) M := eb_E_s hk253 rfl
theorem e253_1346 {x : Option eb_A} : eb_E L d 253 1346 [some (Sum.inr x), v1, v2, v3] (st) M = eb_E L d 253 1347 [some (Sum.inr x), v1, v2, v3] (Sum.inr x :: st) M := eb_E_s hk253 rfl
theorem e253_1347 {x : Int32} : eb_E L d 253 1347 [v0, v1, v2, some (zi x)] (st) M = eb_E L d 253 1348 [v0, v1, v2, some (zi x)] (zi x :: st) M := eb_E_s hk253 rfl
theorem e253_1348  : eb_E L d 253 1348 ls (st) M = eb_E L d 253 1349 ls (zi 1 :: st) M := eb_E_s hk253 rfl
theorem e253_1349 {x : Int32} {y : Int32} : eb_E L d 253 1349 ls (zi y :: zi x :: st) M = eb_E L d 253 1350 ls (zi (x + y) :: st) M := eb_E_s hk253 rfl
theorem e253_1350 {x : Int32} : eb_E L d 253 1350 ls (zi x :: Sum.inr (some a) :: st) (nc, ns, I, J, R) = if (eb_ty L a.1).1 = 17 ∧ eb_in x (eb_ty L a.1).2 = true then eb_E L d 253 1351 ls (zi (I a x.toNatClampNeg) :: st) (nc, ns, I, J, R) else none := eb_E_iy hk253 rfl
theorem e253_1351 {x : Option eb_A} : eb_E L d 253 1351 [some (Sum.inr x), v1, v2, v3] (st) M = eb_E L d 253 1352 [some (Sum.inr x), v1, v2, v3] (Sum.inr x :: st) M := eb_E_s hk253 rfl
theorem e253_1352 {x : Int32} : eb_E L d 253 1352 [v0, v1, v2, some (zi x)] (st) M = eb_E L d 253 1353 [v0, v1, v2, some (zi x)] (zi x :: st) M := eb_E_s hk253 rfl
theorem e253_1353  : eb_E L d 253 1353 ls (st) M = eb_E L d 253 1354 ls (zi 2 :: st) M := eb_E_s hk253 rfl
theorem e253_1354 {x : Int32} {y : Int32} : eb_E L d 253 1354 ls (zi y :: zi x :: st) M = eb_E L d 253 1355 ls (zi (x + y) :: st) M := eb_E_s hk253 rfl
theorem e253_1355 {x : Int32} : eb_E L d 253 1355 ls (zi x :: Sum.inr (some a) :: st) (nc, ns, I, J, R) = if (eb_ty L a.1).1 = 17 ∧ eb_in x (eb_ty L a.1).2 = true then eb_E L d 253 1356 ls (zi (I a x.toNatClampNeg) :: st) (nc, ns, I, J, R) else none := eb_E_iy hk253 rfl
theorem e253_1356  : eb_E L d 253 1356 ls ([a2, a1, a0]) M = (eb_ev L d 104 [a0, a1, a2] M).bind (fun q => eb_E L d 253 1359 ls [q.1] q.2) := eb_E_c hk253 rfl
theorem e253_1359 {x : Option eb_A} : eb_E L d 253 1359 [v0, v1, some (Sum.inr x), v3] (st) M = eb_E L d 253 1360 [v0, v1, some (Sum.inr x), v3] (Sum.inr x :: st) M := eb_E_s hk253 rfl
theorem e253_1360 {x : Option eb_A} : eb_E L d 253 1360 [some (Sum.inr x), v1, v2, v3] (st) M = eb_E L d 253 1361 [some (Sum.inr x), v1, v2, v3] (Sum.inr x :: st) M := eb_E_s hk253 rfl
theorem e253_1361 {x : Int32} : eb_E L d 253 1361 [v0, v1, v2, some (zi x)] (st) M = eb_E L d 253 1362 [v0, v1, v2, some (zi x)] (zi x :: st) M := eb_E_s hk253 rfl
theorem e253_1362  : eb_E L d 253 1362 ls (st) M = eb_E L d 253 1363 ls (zi 1 :: st) M := eb_E_s hk253 rfl
theorem e253_1363 {x : Int32} {y : Int32} : eb_E L d 253 1363 ls (zi y :: zi x :: st) M = eb_E L d 253 1364 ls (zi (x + y) :: st) M := eb_E_s hk253 rfl
theorem e253_1364 {x : Int32} : eb_E L d 253 1364 ls (zi x :: Sum.inr (some a) :: st) (nc, ns, I, J, R) = if (eb_ty L a.1).1 = 17 ∧ eb_in x (eb_ty L a.1).2 = true then eb_E L d 253 1365 ls (zi (I a x.toNatClampNeg) :: st) (nc, ns, I, J, R) else none := eb_E_iy hk253 rfl
theorem e253_1365 {x : Option eb_A} : eb_E L d 253 1365 [some (Sum.inr x), v1, v2, v3] (st) M = eb_E L d 253 1366 [some (Sum.inr x), v1, v2, v3] (Sum.inr x :: st) M := eb_E_s hk253 rfl
theorem e253_1366 {x : Int32} : eb_E L d 253 1366 [v0, v1, v2, some (zi x)] (st) M = eb_E L d 253 1367 [v0, v1, v2, some (zi x)] (zi x :: st) M := eb_E_s hk253 rfl
theorem e253_1367  : eb_E L d 253 1367 ls (st) M = eb_E L d 253 1368 ls (zi 2 :: st) M := eb_E_s hk253 rfl
theorem e253_1368 {x : Int32} {y : Int32} : eb_E L d 253 1368 ls (zi y :: zi x :: st) M = eb_E L d 253 1369 ls (zi (x + y) :: st) M := eb_E_s hk253 rfl
theorem e253_1369 {x : Int32} : eb_E L d 253 1369 ls (zi x :: Sum.inr (some a) :: st) (nc, ns, I, J, R) = if (eb_ty L a.1).1 = 17 ∧ eb_in x (eb_ty L a.1).2 = true then eb_E L d 253 1370 ls (zi (I a x.toNatClampNeg) :: st) (nc, ns, I, J, R) else none := eb_E_iy hk253 rfl
theorem e253_1370 {s0 : Int32} : eb_E L d 253 1370 ls ([a2, a1, a0, zi s0]) M = (eb_ev L d 220 [a0, a1, a2] M).bind (fun q => eb_E L d 253 1373 ls [q.1, zi s0] q.2) := eb_E_c hk253 rfl
theorem e253_1373 {x : Int32} {y : Int32} : eb_E L d 253 1373 ls (zi y :: zi x :: st) M = if x = y then eb_E L d 253 1948 ls st M else eb_E L d 253 1376 ls st M := eb_E_b hk253 rfl
theorem e253_1376  : eb_E L d 253 1376 ls (st) M = eb_E L d 253 1377 ls (zi 0 :: st) M := eb_E_s hk253 rfl
theorem e253_1377 {x : Int32} : eb_E L d 253 1377 ls ([zi x]) M = if x = 0 ∨ x = 1 then some (zi x, M) else none := eb_E_ri hk253 rfl
theorem e253_1378 {x : Option eb_A} : eb_E L d 253 1378 [v0, some (Sum.inr x), v2, v3] (st) M = eb_E L d 253 1379 [v0, some (Sum.inr x), v2, v3] (Sum.inr x :: st) M := eb_E_s hk253 rfl
theorem e253_1379 {x : Option eb_A} : eb_E L d 253 1379 [some (Sum.inr x), v1, v2, v3] (st) M = eb_E L d 253 1380 [some (Sum.inr x), v1, v2, v3] (Sum.inr x :: st) M := eb_E_s hk253 rfl
theorem e253_1380 {x : Int32} : eb_E L d 253 1380 [v0, v1, v2, some (zi x)] (st) M = eb_E L d 253 1381 [v0, v1, v2, some (zi x)] (zi x :: st) M := eb_E_s hk253 rfl
theorem e253_1381  : eb_E L d 253 1381 ls (st) M = eb_E L d 253 1382 ls (zi 1 :: st) M := eb_E_s hk253 rfl
theorem e253_1382 {x : Int32} {y : Int32} : eb_E L d 253 1382 ls (zi y :: zi x :: st) M = eb_E L d 253 1383 ls (zi (x + y) :: st) M := eb_E_s hk253 rfl
theorem e253_1383 {x : Int32} : eb_E L d 253 1383 ls (zi x :: Sum.inr (some a) :: st) (nc, ns, I, J, R) = if (eb_ty L a.1).1 = 17 ∧ eb_in x (eb_ty L a.1).2 = true then eb_E L d 253 1384 ls (zi (I a x.toNatClampNeg) :: st) (nc, ns, I, J, R) else none := eb_E_iy hk253 rfl
theorem e253_1384  : eb_E L d 253 1384 ls ([a1, a0]) M = (eb_ev L d 105 [a0, a1] M).bind (fun q => eb_E L d 253 1387 ls [q.1] q.2) := eb_E_c hk253 rfl
theorem e253_1387 {x : Option eb_A} : eb_E L d 253 1387 [v0, v1, some (Sum.inr x), v3] (st) M = eb_E L d 253 1388 [v0, v1, some (Sum.inr x), v3] (Sum.inr x :: st) M := eb_E_s hk253 rfl
theorem e253_1388 {x : Option eb_A} : eb_E L d 253 1388 [some (Sum.inr x), v1, v2, v3] (st) M = eb_E L d 253 1389 [some (Sum.inr x), v1, v2, v3] (Sum.inr x :: st) M := eb_E_s hk253 rfl
theorem e253_1389 {x : Int32} : eb_E L d 253 1389 [v0, v1, v2, some (zi x)] (st) M = eb_E L d 253 1390 [v0, v1, v2, some (zi x)] (zi x :: st) M := eb_E_s hk253 rfl
theorem e253_1390  : eb_E L d 253 1390 ls (st) M = eb_E L d 253 1391 ls (zi 1 :: st) M := eb_E_s hk253 rfl
theorem e253_1391 {x : Int32} {y : Int32} : eb_E L d 253 1391 ls (zi y :: zi x :: st) M = eb_E L d 253 1392 ls (zi (x + y) :: st) M := eb_E_s hk253 rfl
theorem e253_1392 {x : Int32} : eb_E L d 253 1392 ls (zi x :: Sum.inr (some a) :: st) (nc, ns, I, J, R) = if (eb_ty L a.1).1 = 17 ∧ eb_in x (eb_ty L a.1).2 = true then eb_E L d 253 1393 ls (zi (I a x.toNatClampNeg) :: st) (nc, ns, I, J, R) else none := eb_E_iy hk253 rfl
theorem e253_1393 {s0 : Int32} : eb_E L d 253 1393 ls ([a1, a0, zi s0]) M = (eb_ev L d 222 [a0, a1] M).bind (fun q => eb_E L d 253 1396 ls [q.1, zi s0] q.2) := eb_E_c hk253 rfl
theorem e253_1396 {x : Int32} {y : Int32} : eb_E L d 253 1396 ls (zi y :: zi x :: st) M = if x = y then eb_E L d 253 1948 ls st M else eb_E L d 253 1399 ls st M := eb_E_b hk253 rfl
theorem e253_1399  : eb_E L d 253 1399 ls (st) M = eb_E L d 253 1400 ls (zi 0 :: st) M := eb_E_s hk253 rfl
theorem e253_1400 {x : Int32} : eb_E L d 253 1400 ls ([zi x]) M = if x = 0 ∨ x = 1 then some (zi x, M) else none := eb_E_ri hk253 rfl
theorem e253_1401 {x : Option eb_A} : eb_E L d 253 1401 [v0, some (Sum.inr x), v2, v3] (st) M = eb_E L d 253 1402 [v0, some (Sum.inr x), v2, v3] (Sum.inr x :: st) M := eb_E_s hk253 rfl
theorem e253_1402 {x : Option eb_A} : eb_E L d 253 1402 [some (Sum.inr x), v1, v2, v3] (st) M = eb_E L d 253 1403 [some (Sum.inr x), v1, v2, v3] (Sum.inr x :: st) M := eb_E_s hk253 rfl
theorem e253_1403 {x : Int32} : eb_E L d 253 1403 [v0, v1, v2, some (zi x)] (st) M = eb_E L d 253 1404 [v0, v1, v2, some (zi x)] (zi x :: st) M := eb_E_s hk253 rfl
theorem e253_1404  : eb_E L d 253 1404 ls (st) M = eb_E L d 253 1405 ls (zi 1 :: st) M := eb_E_s hk253 rfl
theorem e253_1405 {x : Int32} {y : Int32} : eb_E L d 253 1405 ls (zi y :: zi x :: st) M = eb_E L d 253 1406 ls (zi (x + y) :: st) M := eb_E_s hk253 rfl
theorem e253_1406 {x : Int32} : eb_E L d 253 1406 ls (zi x :: Sum.inr (some a) :: st) (nc, ns, I, J, R) = if (eb_ty L a.1).1 = 17 ∧ eb_in x (eb_ty L a.1).2 = true then eb_E L d 253 1407 ls (zi (I a x.toNatClampNeg) :: st) (nc, ns, I, J, R) else none := eb_E_iy hk253 rfl
theorem e253_1407 {x : Option eb_A} : eb_E L d 253 1407 [some (Sum.inr x), v1, v2, v3] (st) M = eb_E L d 253 1408 [some (Sum.inr x), v1, v2, v3] (Sum.inr x :: st) M := eb_E_s hk253 rfl
theorem e253_1408 {x : Int32} : eb_E L d 253 1408 [v0, v1, v2, some (zi x)] (st) M = eb_E L d 253 1409 [v0, v1, v2, some (zi x)] (zi x :: st) M := eb_E_s hk253 rfl
theorem e253_1409  : eb_E L d 253 1409 ls (st) M = eb_E L d 253 1410 ls (zi 2 :: st) M := eb_E_s hk253 rfl
theorem e253_1410 {x : Int32} {y : Int32} : eb_E L d 253 1410 ls (zi y :: zi x :: st) M = eb_E L d 253 1411 ls (zi (x + y) :: st) M := eb_E_s hk253 rfl
theorem e253_1411 {x : Int32} : eb_E L d 253 1411 ls (zi x :: Sum.inr (some a) :: st) (nc, ns, I, J, R) = if (eb_ty L a.1).1 = 17 ∧ eb_in x (eb_ty L a.1).2 = true then eb_E L d 253 1412 ls (zi (I a x.toNatClampNeg) :: st) (nc, ns, I, J, R) else none := eb_E_iy hk253 rfl
theorem e253_1412  : eb_E L d 253 1412 ls ([a2, a1, a0]) M = (eb_ev L d 106 [a0, a1, a2] M).bind (fun q => eb_E L d 253 1415 ls [q.1] q.2) := eb_E_c hk253 rfl
theorem e253_1415 {x : Option eb_A} : eb_E L d 253 1415 [v0, v1, some (Sum.inr x), v3] (st) M = eb_E L d 253 1416 [v0, v1, some (Sum.inr x), v3] (Sum.inr x :: st) M := eb_E_s hk253 rfl
theorem e253_1416 {x : Option eb_A} : eb_E L d 253 1416 [some (Sum.inr x), v1, v2, v3] (st) M = eb_E L d 253 1417 [some (Sum.inr x), v1, v2, v3] (Sum.inr x :: st) M := eb_E_s hk253 rfl
theorem e253_1417 {x : Int32} : eb_E L d 253 1417 [v0, v1, v2, some (zi x)] (st) M = eb_E L d 253 1418 [v0, v1, v2, some (zi x)] (zi x :: st) M := eb_E_s hk253 rfl
theorem e253_1418  : eb_E L d 253 1418 ls (st) M = eb_E L d 253 1419 ls (zi 1 :: st) M := eb_E_s hk253 rfl
theorem e253_1419 {x : Int32} {y : Int32} : eb_E L d 253 1419 ls (zi y :: zi x :: st) M = eb_E L d 253 1420 ls (zi (x + y) :: st) M := eb_E_s hk253 rfl
theorem e253_1420 {x : Int32} : eb_E L d 253 1420 ls (zi x :: Sum.inr (some a) :: st) (nc, ns, I, J, R) = if (eb_ty L a.1).1 = 17 ∧ eb_in x (eb_ty L a.1).2 = true then eb_E L d 253 1421 ls (zi (I a x.toNatClampNeg) :: st) (nc, ns, I, J, R) else none := eb_E_iy hk253 rfl
theorem e253_1421 {x : Option eb_A} : eb_E L d 253 1421 [some (Sum.inr x), v1, v2, v3] (st) M = eb_E L d 253 1422 [some (Sum.inr x), v1, v2, v3] (Sum.inr x :: st) M := eb_E_s hk253 rfl
theorem e253_1422 {x : Int32} : eb_E L d 253 1422 [v0, v1, v2, some (zi x)] (st) M = eb_E L d 253 1423 [v0, v1, v2, some (zi x)] (zi x :: st) M := eb_E_s hk253 rfl
theorem e253_1423  : eb_E L d 253 1423 ls (st) M = eb_E L d 253 1424 ls (zi 2 :: st) M := eb_E_s hk253 rfl
theorem e253_1424 {x : Int32} {y : Int32} : eb_E L d 253 1424 ls (zi y :: zi x :: st) M = eb_E L d 253 1425 ls (zi (x + y) :: st) M := eb_E_s hk253 rfl
theorem e253_1425 {x : Int32} : eb_E L d 253 1425 ls (zi x :: Sum.inr (some a) :: st) (nc, ns, I, J, R) = if (eb_ty L a.1).1 = 17 ∧ eb_in x (eb_ty L a.1).2 = true then eb_E L d 253 1426 ls (zi (I a x.toNatClampNeg) :: st) (nc, ns, I, J, R) else none := eb_E_iy hk253 rfl
theorem e253_1426 {s0 : Int32} : eb_E L d 253 1426 ls ([a2, a1, a0, zi s0]) M = (eb_ev L d 225 [a0, a1, a2] M).bind (fun q => eb_E L d 253 1429 ls [q.1, zi s0] q.2) := eb_E_c hk253 rfl
theorem e253_1429 {x : Int32} {y : Int32} : eb_E L d 253 1429 ls (zi y :: zi x :: st) M = if x = y then eb_E L d 253 1948 ls st M else eb_E L d 253 1432 ls st M := eb_E_b hk253 rfl
theorem e253_1432  : eb_E L d 253 1432 ls (st) M = eb_E L d 253 1433 ls (zi 0 :: st) M := eb_E_s hk253 rfl
theorem e253_1433 {x : Int32} : eb_E L d 253 1433 ls ([zi x]) M = if x = 0 ∨ x = 1 then some (zi x, M) else none := eb_E_ri hk253 rfl
theorem e253_1434 {x : Option eb_A} : eb_E L d 253 1434 [v0, some (Sum.inr x), v2, v3] (st) M = eb_E L d 253 1435 [v0, some (Sum.inr x), v2, v3] (Sum.inr x :: st) M := eb_E_s hk253 rfl
theorem e253_1435 {x : Option eb_A} : eb_E L d 253 1435 [some (Sum.inr x), v1, v2, v3] (st) M = eb_E L d 253 1436 [some (Sum.inr x), v1, v2, v3] (Sum.inr x :: st) M := eb_E_s hk253 rfl
theorem e253_1436 {x : Int32} : eb_E L d 253 1436 [v0, v1, v2, some (zi x)] (st) M = eb_E L d 253 1437 [v0, v1, v2, some (zi x)] (zi x :: st) M := eb_E_s hk253 rfl
theorem e253_1437  : eb_E L d 253 1437 ls (st) M = eb_E L d 253 1438 ls (zi 1 :: st) M := eb_E_s hk253 rfl
theorem e253_1438 {x : Int32} {y : Int32} : eb_E L d 253 1438 ls (zi y :: zi x :: st) M = eb_E L d 253 1439 ls (zi (x + y) :: st) M := eb_E_s hk253 rfl
theorem e253_1439 {x : Int32} : eb_E L d 253 1439 ls (zi x :: Sum.inr (some a) :: st) (nc, ns, I, J, R) = if (eb_ty L a.1).1 = 17 ∧ eb_in x (eb_ty L a.1).2 = true then eb_E L d 253 1440 ls (zi (I a x.toNatClampNeg) :: st) (nc, ns, I, J, R) else none := eb_E_iy hk253 rfl
theorem e253_1440 {x : Option eb_A} : eb_E L d 253 1440 [some (Sum.inr x), v1, v2, v3] (st) M = eb_E L d 253 1441 [some (Sum.inr x), v1, v2, v3] (Sum.inr x :: st) M := eb_E_s hk253 rfl
theorem e253_1441 {x : Int32} : eb_E L d 253 1441 [v0, v1, v2, some (zi x)] (st) M = eb_E L d 253 1442 [v0, v1, v2, some (zi x)] (zi x :: st) M := eb_E_s hk253 rfl
theorem e253_1442  : eb_E L d 253 1442 ls (st) M = eb_E L d 253 1443 ls (zi 2 :: st) M := eb_E_s hk253 rfl
theorem e253_1443 {x : Int32} {y : Int32} : eb_E L d 253 1443 ls (zi y :: zi x :: st) M = eb_E L d 253 1444 ls (zi (x + y) :: st) M := eb_E_s hk253 rfl
theorem e253_1444 {x : Int32} : eb_E L d 253 1444 ls (zi x :: Sum.inr (some a) :: st) (nc, ns, I, J, R) = if (eb_ty L a.1).1 = 17 ∧ eb_in x (eb_ty L a.1).2 = true then eb_E L d 253 1445 ls (zi (I a x.toNatClampNeg) :: st) (nc, ns, I, J, R) else none := eb_E_iy hk253 rfl
theorem e253_1445 {x : Option eb_A} : eb_E L d 253 1445 [some (Sum.inr x), v1, v2, v3] (st) M = eb_E L d 253 1446 [some (Sum.inr x), v1, v2, v3] (Sum.inr x :: st) M := eb_E_s hk253 rfl
theorem e253_1446 {x : Int32} : eb_E L d 253 1446 [v0, v1, v2, some (zi x)] (st) M = eb_E L d 253 1447 [v0, v1, v2, some (zi x)] (zi x :: st) M := eb_E_s hk253 rfl
theorem e253_1447  : eb_E L d 253 1447 ls (st) M = eb_E L d 253 1448 ls (zi 3 :: st) M := eb_E_s hk253 rfl
theorem e253_1448 {x : Int32} {y : Int32} : eb_E L d 253 1448 ls (zi y :: zi x :: st) M = eb_E L d 253 1449 ls (zi (x + y) :: st) M := eb_E_s hk253 rfl
theorem e253_1449 {x : Int32} : eb_E L d 253 1449 ls (zi x :: Sum.inr (some a) :: st) (nc, ns, I, J, R) = if (eb_ty L a.1).1 = 17 ∧ eb_in x (eb_ty L a.1).2 = true then eb_E L d 253 1450 ls (zi (I a x.toNatClampNeg) :: st) (nc, ns, I, J, R) else none := eb_E_iy hk253 rfl
theorem e253_1450  : eb_E L d 253 1450 ls ([a3, a2, a1, a0]) M = (eb_ev L d 107 [a0, a1, a2, a3] M).bind (fun q => eb_E L d 253 1453 ls [q.1] q.2) := eb_E_c hk253 rfl
theorem e253_1453 {x : Option eb_A} : eb_E L d 253 1453 [v0, v1, some (Sum.inr x), v3] (st) M = eb_E L d 253 1454 [v0, v1, some (Sum.inr x), v3] (Sum.inr x :: st) M := eb_E_s hk253 rfl
theorem e253_1454 {x : Option eb_A} : eb_E L d 253 1454 [some (Sum.inr x), v1, v2, v3] (st) M = eb_E L d 253 1455 [some (Sum.inr x), v1, v2, v3] (Sum.inr x :: st) M := eb_E_s hk253 rfl
theorem e253_1455 {x : Int32} : eb_E L d 253 1455 [v0, v1, v2, some (zi x)] (st) M = eb_E L d 253 1456 [v0, v1, v2, some (zi x)] (zi x :: st) M := eb_E_s hk253 rfl
theorem e253_1456  : eb_E L d 253 1456 ls (st) M = eb_E L d 253 1457 ls (zi 1 :: st) M := eb_E_s hk253 rfl
theorem e253_1457 {x : Int32} {y : Int32} : eb_E L d 253 1457 ls (zi y :: zi x :: st) M = eb_E L d 253 1458 ls (zi (x + y) :: st) M := eb_E_s hk253 rfl
theorem e253_1458 {x : Int32} : eb_E L d 253 1458 ls (zi x :: Sum.inr (some a) :: st) (nc, ns, I, J, R) = if (eb_ty L a.1).1 = 17 ∧ eb_in x (eb_ty L a.1).2 = true then eb_E L d 253 1459 ls (zi (I a x.toNatClampNeg) :: st) (nc, ns, I, J, R) else none := eb_E_iy hk253 rfl
theorem e253_1459 {x : Option eb_A} : eb_E L d 253 1459 [some (Sum.inr x), v1, v2, v3] (st) M = eb_E L d 253 1460 [some (Sum.inr x), v1, v2, v3] (Sum.inr x :: st) M := eb_E_s hk253 rfl
theorem e253_1460 {x : Int32} : eb_E L d 253 1460 [v0, v1, v2, some (zi x)] (st) M = eb_E L d 253 1461 [v0, v1, v2, some (zi x)] (zi x :: st) M := eb_E_s hk253 rfl
theorem e253_1461  : eb_E L d 253 1461 ls (st) M = eb_E L d 253 1462 ls (zi 2 :: st) M := eb_E_s hk253 rfl
theorem e253_1462 {x : Int32} {y : Int32} : eb_E L d 253 1462 ls (zi y :: zi x :: st) M = eb_E L d 253 1463 ls (zi (x + y) :: st) M := eb_E_s hk253 rfl
theorem e253_1463 {x : Int32} : eb_E L d 253 1463 ls (zi x :: Sum.inr (some a) :: st) (nc, ns, I, J, R) = if (eb_ty L a.1).1 = 17 ∧ eb_in x (eb_ty L a.1).2 = true then eb_E L d 253 1464 ls (zi (I a x.toNatClampNeg) :: st) (nc, ns, I, J, R) else none := eb_E_iy hk253 rfl
theorem e253_1464 {x : Option eb_A} : eb_E L d 253 1464 [some (Sum.inr x), v1, v2, v3] (st) M = eb_E L d 253 1465 [some (Sum.inr x), v1, v2, v3] (Sum.inr x :: st) M := eb_E_s hk253 rfl
theorem e253_1465 {x : Int32} : eb_E L d 253 1465 [v0, v1, v2, some (zi x)] (st) M = eb_E L d 253 1466 [v0, v1, v2, some (zi x)] (zi x :: st) M := eb_E_s hk253 rfl
theorem e253_1466  : eb_E L d 253 1466 ls (st) M = eb_E L d 253 1467 ls (zi 3 :: st) M := eb_E_s hk253 rfl
theorem e253_1467 {x : Int32} {y : Int32} : eb_E L d 253 1467 ls (zi y :: zi x :: st) M = eb_E L d 253 1468 ls (zi (x + y) :: st) M := eb_E_s hk253 rfl
theorem e253_1468 {x : Int32} : eb_E L d 253 1468 ls (zi x :: Sum.inr (some a) :: st) (nc, ns, I, J, R) = if (eb_ty L a.1).1 = 17 ∧ eb_in x (eb_ty L a.1).2 = true then eb_E L d 253 1469 ls (zi (I a x.toNatClampNeg) :: st) (nc, ns, I, J, R) else none := eb_E_iy hk253 rfl
theorem e253_1469 {s0 : Int32} : eb_E L d 253 1469 ls ([a3, a2, a1, a0, zi s0]) M = (eb_ev L d 226 [a0, a1, a2, a3] M).bind (fun q => eb_E L d 253 1472 ls [q.1, zi s0] q.2) := eb_E_c hk253 rfl
theorem e253_1472 {x : Int32} {y : Int32} : eb_E L d 253 1472 ls (zi y :: zi x :: st) M = if x = y then eb_E L d 253 1948 ls st M else eb_E L d 253 1475 ls st M := eb_E_b hk253 rfl
theorem e253_1475  : eb_E L d 253 1475 ls (st) M = eb_E L d 253 1476 ls (zi 0 :: st) M := eb_E_s hk253 rfl
theorem e253_1476 {x : Int32} : eb_E L d 253 1476 ls ([zi x]) M = if x = 0 ∨ x = 1 then some (zi x, M) else none := eb_E_ri hk253 rfl
theorem e253_1477 {x : Option eb_A} : eb_E L d 253 1477 [v0, some (Sum.inr x), v2, v3] (st) M = eb_E L d 253 1478 [v0, some (Sum.inr x), v2, v3] (Sum.inr x :: st) M := eb_E_s hk253 rfl
theorem e253_1478 {x : Option eb_A} : eb_E L d 253 1478 [some (Sum.inr x), v1, v2, v3] (st) M = eb_E L d 253 1479 [some (Sum.inr x), v1, v2, v3] (Sum.inr x :: st) M := eb_E_s hk253 rfl
theorem e253_1479 {x : Int32} : eb_E L d 253 1479 [v0, v1, v2, some (zi x)] (st) M = eb_E L d 253 1480 [v0, v1, v2, some (zi x)] (zi x :: st) M := eb_E_s hk253 rfl
theorem e253_1480  : eb_E L d 253 1480 ls (st) M = eb_E L d 253 1481 ls (zi 1 :: st) M := eb_E_s hk253 rfl
theorem e253_1481 {x : Int32} {y : Int32} : eb_E L d 253 1481 ls (zi y :: zi x :: st) M = eb_E L d 253 1482 ls (zi (x + y) :: st) M := eb_E_s hk253 rfl
theorem e253_1482 {x : Int32} : eb_E L d 253 1482 ls (zi x :: Sum.inr (some a) :: st) (nc, ns, I, J, R) = if (eb_ty L a.1).1 = 17 ∧ eb_in x (eb_ty L a.1).2 = true then eb_E L d 253 1483 ls (zi (I a x.toNatClampNeg) :: st) (nc, ns, I, J, R) else none := eb_E_iy hk253 rfl
theorem e253_1483 {x : Option eb_A} : eb_E L d 253 1483 [some (Sum.inr x), v1, v2, v3] (st) M = eb_E L d 253 1484 [some (Sum.inr x), v1, v2, v3] (Sum.inr x :: st) M := eb_E_s hk253 rfl
theorem e253_1484 {x : Int32} : eb_E L d 253 1484 [v0, v1, v2, some (zi x)] (st) M = eb_E L d 253 1485 [v0, v1, v2, some (zi x)] (zi x :: st) M := eb_E_s hk253 rfl
theorem e253_1485  : eb_E L d 253 1485 ls (st) M = eb_E L d 253 1486 ls (zi 2 :: st) M := eb_E_s hk253 rfl
theorem e253_1486 {x : Int32} {y : Int32} : eb_E L d 253 1486 ls (zi y :: zi x :: st) M = eb_E L d 253 1487 ls (zi (x + y) :: st) M := eb_E_s hk253 rfl
theorem e253_1487 {x : Int32} : eb_E L d 253 1487 ls (zi x :: Sum.inr (some a) :: st) (nc, ns, I, J, R) = if (eb_ty L a.1).1 = 17 ∧ eb_in x (eb_ty L a.1).2 = true then eb_E L d 253 1488 ls (zi (I a x.toNatClampNeg) :: st) (nc, ns, I, J, R) else none := eb_E_iy hk253 rfl
theorem e253_1488  : eb_E L d 253 1488 ls ([a2, a1, a0]) M = (eb_ev L d 108 [a0, a1, a2] M).bind (fun q => eb_E L d 253 1491 ls [q.1] q.2) := eb_E_c hk253 rfl
theorem e253_1491 {x : Option eb_A} : eb_E L d 253 1491 [v0, v1, some (Sum.inr x), v3] (st) M = eb_E L d 253 1492 [v0, v1, some (Sum.inr x), v3] (Sum.inr x :: st) M := eb_E_s hk253 rfl
theorem e253_1492 {x : Option eb_A} : eb_E L d 253 1492 [some (Sum.inr x), v1, v2, v3] (st) M = eb_E L d 253 1493 [some (Sum.inr x), v1, v2, v3] (Sum.inr x :: st) M := eb_E_s hk253 rfl
theorem e253_1493 {x : Int32} : eb_E L d 253 1493 [v0, v1, v2, some (zi x)] (st) M = eb_E L d 253 1494 [v0, v1, v2, some (zi x)] (zi x :: st) M := eb_E_s hk253 rfl
theorem e253_1494  : eb_E L d 253 1494 ls (st) M = eb_E L d 253 1495 ls (zi 1 :: st) M := eb_E_s hk253 rfl
theorem e253_1495 {x : Int32} {y : Int32} : eb_E L d 253 1495 ls (zi y :: zi x :: st) M = eb_E L d 253 1496 ls (zi (x + y) :: st) M := eb_E_s hk253 rfl
theorem e253_1496 {x : Int32} : eb_E L d 253 1496 ls (zi x :: Sum.inr (some a) :: st) (nc, ns, I, J, R) = if (eb_ty L a.1).1 = 17 ∧ eb_in x (eb_ty L a.1).2 = true then eb_E L d 253 1497 ls (zi (I a x.toNatClampNeg) :: st) (nc, ns, I, J, R) else none := eb_E_iy hk253 rfl
theorem e253_1497 {x : Option eb_A} : eb_E L d 253 1497 [some (Sum.inr x), v1, v2, v3] (st) M = eb_E L d 253 1498 [some (Sum.inr x), v1, v2, v3] (Sum.inr x :: st) M := eb_E_s hk253 rfl
theorem e253_1498 {x : Int32} : eb_E L d 253 1498 [v0, v1, v2, some (zi x)] (st) M = eb_E L d 253 1499 [v0, v1, v2, some (zi x)] (zi x :: st) M := eb_E_s hk253 rfl
theorem e253_1499  : eb_E L d 253 1499 ls (st) M = eb_E L d 253 1500 ls (zi 2 :: st) M := eb_E_s hk253 rfl
theorem e253_1500 {x : Int32} {y : Int32} : eb_E L d 253 1500 ls (zi y :: zi x :: st) M = eb_E L d 253 1501 ls (zi (x + y) :: st) M := eb_E_s hk253 rfl
theorem e253_1501 {x : Int32} : eb_E L d 253 1501 ls (zi x :: Sum.inr (some a) :: st) (nc, ns, I, J, R) = if (eb_ty L a.1).1 = 17 ∧ eb_in x (eb_ty L a.1).2 = true then eb_E L d 253 1502 ls (zi (I a x.toNatClampNeg) :: st) (nc, ns, I, J, R) else none := eb_E_iy hk253 rfl
theorem e253_1502 {s0 : Int32} : eb_E L d 253 1502 ls ([a2, a1, a0, zi s0]) M = (eb_ev L d 229 [a0, a1, a2] M).bind (fun q => eb_E L d 253 1505 ls [q.1, zi s0] q.2) := eb_E_c hk253 rfl
theorem e253_1505 {x : Int32} {y : Int32} : eb_E L d 253 1505 ls (zi y :: zi x :: st) M = if x = y then eb_E L d 253 1948 ls st M else eb_E L d 253 1508 ls st M := eb_E_b hk253 rfl
theorem e253_1508  : eb_E L d 253 1508 ls (st) M = eb_E L d 253 1509 ls (zi 0 :: st) M := eb_E_s hk253 rfl
theorem e253_1509 {x : Int32} : eb_E L d 253 1509 ls ([zi x]) M = if x = 0 ∨ x = 1 then some (zi x, M) else none := eb_E_ri hk253 rfl
theorem e253_1510 {x : Option eb_A} : eb_E L d 253 1510 [v0, some (Sum.inr x), v2, v3] (st) M = eb_E L d 253 1511 [v0, some (Sum.inr x), v2, v3] (Sum.inr x :: st) M := eb_E_s hk253 rfl
theorem e253_1511 {x : Option eb_A} : eb_E L d 253 1511 [some (Sum.inr x), v1, v2, v3] (st) M = eb_E L d 253 1512 [some (Sum.inr x), v1, v2, v3] (Sum.inr x :: st) M := eb_E_s hk253 rfl
theorem e253_1512 {x : Int32} : eb_E L d 253 1512 [v0, v1, v2, some (zi x)] (st) M = eb_E L d 253 1513 [v0, v1, v2, some (zi x)] (zi x :: st) M := eb_E_s hk253 rfl
theorem e253_1513  : eb_E L d 253 1513 ls (st) M = eb_E L d 253 1514 ls (zi 1 :: st) M := eb_E_s hk253 rfl
theorem e253_1514 {x : Int32} {y : Int32} : eb_E L d 253 1514 ls (zi y :: zi x :: st) M = eb_E L d 253 1515 ls (zi (x + y) :: st) M := eb_E_s hk253 rfl
theorem e253_1515 {x : Int32} : eb_E L d 253 1515 ls (zi x :: Sum.inr (some a) :: st) (nc, ns, I, J, R) = if (eb_ty L a.1).1 = 17 ∧ eb_in x (eb_ty L a.1).2 = true then eb_E L d 253 1516 ls (zi (I a x.toNatClampNeg) :: st) (nc, ns, I, J, R) else none := eb_E_iy hk253 rfl
theorem e253_1516 {x : Option eb_A} : eb_E L d 253 1516 [some (Sum.inr x), v1, v2, v3] (st) M = eb_E L d 253 1517 [some (Sum.inr x), v1, v2, v3] (Sum.inr x :: st) M := eb_E_s hk253 rfl
theorem e253_1517 {x : Int32} : eb_E L d 253 1517 [v0, v1, v2, some (zi x)] (st) M = eb_E L d 253 1518 [v0, v1, v2, some (zi x)] (zi x :: st) M := eb_E_s hk253 rfl
theorem e253_1518  : eb_E L d 253 1518 ls (st) M = eb_E L d 253 1519 ls (zi 2 :: st) M := eb_E_s hk253 rfl
theorem e253_1519 {x : Int32} {y : Int32} : eb_E L d 253 1519 ls (zi y :: zi x :: st) M = eb_E L d 253 1520 ls (zi (x + y) :: st) M := eb_E_s hk253 rfl
theorem e253_1520 {x : Int32} : eb_E L d 253 1520 ls (zi x :: Sum.inr (some a) :: st) (nc, ns, I, J, R) = if (eb_ty L a.1).1 = 17 ∧ eb_in x (eb_ty L a.1).2 = true then eb_E L d 253 1521 ls (zi (I a x.toNatClampNeg) :: st) (nc, ns, I, J, R) else none := eb_E_iy hk253 rfl
theorem e253_1521  : eb_E L d 253 1521 ls ([a2, a1, a0]) M = (eb_ev L d 109 [a0, a1, a2] M).bind (fun q => eb_E L d 253 1524 ls [q.1] q.2) := eb_E_c hk253 rfl
theorem e253_1524 {x : Option eb_A} : eb_E L d 253 1524 [v0, v1, some (Sum.inr x), v3] (st) M = eb_E L d 253 1525 [v0, v1, some (Sum.inr x), v3] (Sum.inr x :: st) M := eb_E_s hk253 rfl
theorem e253_1525 {x : Option eb_A} : eb_E L d 253 1525 [some (Sum.inr x), v1, v2, v3] (st) M = eb_E L d 253 1526 [some (Sum.inr x), v1, v2, v3] (Sum.inr x :: st) M := eb_E_s hk253 rfl
theorem e253_1526 {x : Int32} : eb_E L d 253 1526 [v0, v1, v2, some (zi x)] (st) M = eb_E L d 253 1527 [v0, v1, v2, some (zi x)] (zi x :: st) M := eb_E_s hk253 rfl
theorem e253_1527  : eb_E L d 253 1527 ls (st) M = eb_E L d 253 1528 ls (zi 1 :: st) M := eb_E_s hk253 rfl
theorem e253_1528 {x : Int32} {y : Int32} : eb_E L d 253 1528 ls (zi y :: zi x :: st) M = eb_E L d 253 1529 ls (zi (x + y) :: st) M := eb_E_s hk253 rfl
theorem e253_1529 {x : Int32} : eb_E L d 253 1529 ls (zi x :: Sum.inr (some a) :: st) (nc, ns, I, J, R) = if (eb_ty L a.1).1 = 17 ∧ eb_in x (eb_ty L a.1).2 = true then eb_E L d 253 1530 ls (zi (I a x.toNatClampNeg) :: st) (nc, ns, I, J, R) else none := eb_E_iy hk253 rfl
theorem e253_1530 {x : Option eb_A} : eb_E L d 253 1530 [some (Sum.inr x), v1, v2, v3] (st) M = eb_E L d 253 1531 [some (Sum.inr x), v1, v2, v3] (Sum.inr x :: st) M := eb_E_s hk253 rfl
theorem e253_1531 {x : Int32} : eb_E L d 253 1531 [v0, v1, v2, some (zi x)] (st) M = eb_E L d 253 1532 [v0, v1, v2, some (zi x)] (zi x :: st) M := eb_E_s hk253 rfl
theorem e253_1532  : eb_E L d 253 1532 ls (st) M = eb_E L d 253 1533 ls (zi 2 :: st) M := eb_E_s hk253 rfl
theorem e253_1533 {x : Int32} {y : Int32} : eb_E L d 253 1533 ls (zi y :: zi x :: st) M = eb_E L d 253 1534 ls (zi (x + y) :: st) M := eb_E_s hk253 rfl
theorem e253_1534 {x : Int32} : eb_E L d 253 1534 ls (zi x :: Sum.inr (some a) :: st) (nc, ns, I, J, R) = if (eb_ty L a.1).1 = 17 ∧ eb_in x (eb_ty L a.1).2 = true then eb_E L d 253 1535 ls (zi (I a x.toNatClampNeg) :: st) (nc, ns, I, J, R) else none := eb_E_iy hk253 rfl
theorem e253_1535 {s0 : Int32} : eb_E L d 253 1535 ls ([a2, a1, a0, zi s0]) M = (eb_ev L d 230 [a0, a1, a2] M).bind (fun q => eb_E L d 253 1538 ls [q.1, zi s0] q.2) := eb_E_c hk253 rfl
theorem e253_1538 {x : Int32} {y : Int32} : eb_E L d 253 1538 ls (zi y :: zi x :: st) M = if x = y then eb_E L d 253 1948 ls st M else eb_E L d 253 1541 ls st M := eb_E_b hk253 rfl
theorem e253_1541  : eb_E L d 253 1541 ls (st) M = eb_E L d 253 1542 ls (zi 0 :: st) M := eb_E_s hk253 rfl
theorem e253_1542 {x : Int32} : eb_E L d 253 1542 ls ([zi x]) M = if x = 0 ∨ x = 1 then some (zi x, M) else none := eb_E_ri hk253 rfl
theorem e253_1543 {x : Option eb_A} : eb_E L d 253 1543 [v0, some (Sum.inr x), v2, v3] (st) M = eb_E L d 253 1544 [v0, some (Sum.inr x), v2, v3] (Sum.inr x :: st) M := eb_E_s hk253 rfl
theorem e253_1544 {x : Option eb_A} : eb_E L d 253 1544 [some (Sum.inr x), v1, v2, v3] (st) M = eb_E L d 253 1545 [some (Sum.inr x), v1, v2, v3] (Sum.inr x :: st) M := eb_E_s hk253 rfl
theorem e253_1545 {x : Int32} : eb_E L d 253 1545 [v0, v1, v2, some (zi x)] (st) M = eb_E L d 253 1546 [v0, v1, v2, some (zi x)] (zi x :: st) M := eb_E_s hk253 rfl
theorem e253_1546  : eb_E L d 253 1546 ls (st) M = eb_E L d 253 1547 ls (zi 1 :: st) M := eb_E_s hk253 rfl
theorem e253_1547 {x : Int32} {y : Int32} : eb_E L d 253 1547 ls (zi y :: zi x :: st) M = eb_E L d 253 1548 ls (zi (x + y) :: st) M := eb_E_s hk253 rfl
theorem e253_1548 {x : Int32} : eb_E L d 253 1548 ls (zi x :: Sum.inr (some a) :: st) (nc, ns, I, J, R) = if (eb_ty L a.1).1 = 17 ∧ eb_in x (eb_ty L a.1).2 = true then eb_E L d 253 1549 ls (zi (I a x.toNatClampNeg) :: st) (nc, ns, I, J, R) else none := eb_E_iy hk253 rfl
theorem e253_1549  : eb_E L d 253 1549 ls ([a1, a0]) M = (eb_ev L d 110 [a0, a1] M).bind (fun q => eb_E L d 253 1552 ls [q.1] q.2) := eb_E_c hk253 rfl
theorem e253_1552 {x : Option eb_A} : eb_E L d 253 1552 [v0, v1, some (Sum.inr x), v3] (st) M = eb_E L d 253 1553 [v0, v1, some (Sum.inr x), v3] (Sum.inr x :: st) M := eb_E_s hk253 rfl
theorem e253_1553 {x : Option eb_A} : eb_E L d 253 1553 [some (Sum.inr x), v1, v2, v3] (st) M = eb_E L d 253 1554 [some (Sum.inr x), v1, v2, v3] (Sum.inr x :: st) M := eb_E_s hk253 rfl
theorem e253_1554 {x : Int32} : eb_E L d 253 1554 [v0, v1, v2, some (zi x)] (st) M = eb_E L d 253 1555 [v0, v1, v2, some (zi x)] (zi x :: st) M := eb_E_s hk253 rfl
theorem e253_1555  : eb_E L d 253 1555 ls (st) M = eb_E L d 253 1556 ls (zi 1 :: st) M := eb_E_s hk253 rfl
theorem e253_1556 {x : Int32} {y : Int32} : eb_E L d 253 1556 ls (zi y :: zi x :: st) M = eb_E L d 253 1557 ls (zi (x + y) :: st) M := eb_E_s hk253 rfl
theorem e253_1557 {x : Int32} : eb_E L d 253 1557 ls (zi x :: Sum.inr (some a) :: st) (nc, ns, I, J, R) = if (eb_ty L a.1).1 = 17 ∧ eb_in x (eb_ty L a.1).2 = true then eb_E L d 253 1558 ls (zi (I a x.toNatClampNeg) :: st) (nc, ns, I, J, R) else none := eb_E_iy hk253 rfl
theorem e253_1558 {s0 : Int32} : eb_E L d 253 1558 ls ([a1, a0, zi s0]) M = (eb_ev L d 231 [a0, a1] M).bind (fun q => eb_E L d 253 1561 ls [q.1, zi s0] q.2) := eb_E_c hk253 rfl
theorem e253_1561 {x : Int32} {y : Int32} : eb_E L d 253 1561 ls (zi y :: zi x :: st) M = if x = y then eb_E L d 253 1948 ls st M else eb_E L d 253 1564 ls st M := eb_E_b hk253 rfl
theorem e253_1564  : eb_E L d 253 1564 ls (st) M = eb_E L d 253 1565 ls (zi 0 :: st) M := eb_E_s hk253 rfl
theorem e253_1565 {x : Int32} : eb_E L d 253 1565 ls ([zi x]) M = if x = 0 ∨ x = 1 then some (zi x, M) else none := eb_E_ri hk253 rfl
theorem e253_1566 {x : Option eb_A} : eb_E L d 253 1566 [v0, some (Sum.inr x), v2, v3] (st) M = eb_E L d 253 1567 [v0, some (Sum.inr x), v2, v3] (Sum.inr x :: st) M := eb_E_s hk253 rfl
theorem e253_1567 {x : Option eb_A} : eb_E L d 253 1567 [some (Sum.inr x), v1, v2, v3] (st) M = eb_E L d 253 1568 [some (Sum.inr x), v1, v2, v3] (Sum.inr x :: st) M := eb_E_s hk253 rfl
theorem e253_1568 {x : Int32} : eb_E L d 253 1568 [v0, v1, v2, some (zi x)] (st) M = eb_E L d 253 1569 [v0, v1, v2, some (zi x)] (zi x :: st) M := eb_E_s hk253 rfl
theorem e253_1569  : eb_E L d 253 1569 ls (st) M = eb_E L d 253 1570 ls (zi 1 :: st) M := eb_E_s hk253 rfl
theorem e253_1570 {x : Int32} {y : Int32} : eb_E L d 253 1570 ls (zi y :: zi x :: st) M = eb_E L d 253 1571 ls (zi (x + y) :: st) M := eb_E_s hk253 rfl
theorem e253_1571 {x : Int32} : eb_E L d 253 1571 ls (zi x :: Sum.inr (some a) :: st) (nc, ns, I, J, R) = if (eb_ty L a.1).1 = 17 ∧ eb_in x (eb_ty L a.1).2 = true then eb_E L d 253 1572 ls (zi (I a x.toNatClampNeg) :: st) (nc, ns, I, J, R) else none := eb_E_iy hk253 rfl
theorem e253_1572 {x : Option eb_A} : eb_E L d 253 1572 [some (Sum.inr x), v1, v2, v3] (st) M = eb_E L d 253 1573 [some (Sum.inr x), v1, v2, v3] (Sum.inr x :: st) M := eb_E_s hk253 rfl
theorem e253_1573 {x : Int32} : eb_E L d 253 1573 [v0, v1, v2, some (zi x)] (st) M = eb_E L d 253 1574 [v0, v1, v2, some (zi x)] (zi x :: st) M := eb_E_s hk253 rfl
theorem e253_1574  : eb_E L d 253 1574 ls (st) M = eb_E L d 253 1575 ls (zi 2 :: st) M := eb_E_s hk253 rfl
theorem e253_1575 {x : Int32} {y : Int32} : eb_E L d 253 1575 ls (zi y :: zi x :: st) M = eb_E L d 253 1576 ls (zi (x + y) :: st) M := eb_E_s hk253 rfl
theorem e253_1576 {x : Int32} : eb_E L d 253 1576 ls (zi x :: Sum.inr (some a) :: st) (nc, ns, I, J, R) = if (eb_ty L a.1).1 = 17 ∧ eb_in x (eb_ty L a.1).2 = true then eb_E L d 253 1577 ls (zi (I a x.toNatClampNeg) :: st) (nc, ns, I, J, R) else none := eb_E_iy hk253 rfl
theorem e253_1577  : eb_E L d 253 1577 ls ([a2, a1, a0]) M = (eb_ev L d 111 [a0, a1, a2] M).bind (fun q => eb_E L d 253 1580 ls [q.1] q.2) := eb_E_c hk253 rfl
theorem e253_1580 {x : Option eb_A} : eb_E L d 253 1580 [v0, v1, some (Sum.inr x), v3] (st) M = eb_E L d 253 1581 [v0, v1, some (Sum.inr x), v3] (Sum.inr x :: st) M := eb_E_s hk253 rfl
theorem e253_1581 {x : Option eb_A} : eb_E L d 253 1581 [some (Sum.inr x), v1, v2, v3] (st) M = eb_E L d 253 1582 [some (Sum.inr x), v1, v2, v3] (Sum.inr x :: st) M := eb_E_s hk253 rfl
theorem e253_1582 {x : Int32} : eb_E L d 253 1582 [v0, v1, v2, some (zi x)] (st) M = eb_E L d 253 1583 [v0, v1, v2, some (zi x)] (zi x :: st) M := eb_E_s hk253 rfl
theorem e253_1583  : eb_E L d 253 1583 ls (st) M = eb_E L d 253 1584 ls (zi 1 :: st) M := eb_E_s hk253 rfl
theorem e253_1584 {x : Int32} {y : Int32} : eb_E L d 253 1584 ls (zi y :: zi x :: st) M = eb_E L d 253 1585 ls (zi (x + y) :: st) M := eb_E_s hk253 rfl
theorem e253_1585 {x : Int32} : eb_E L d 253 1585 ls (zi x :: Sum.inr (some a) :: st) (nc, ns, I, J, R) = if (eb_ty L a.1).1 = 17 ∧ eb_in x (eb_ty L a.1).2 = true then eb_E L d 253 1586 ls (zi (I a x.toNatClampNeg) :: st) (nc, ns, I, J, R) else none := eb_E_iy hk253 rfl
theorem e253_1586 {x : Option eb_A} : eb_E L d 253 1586 [some (Sum.inr x), v1, v2, v3] (st) M = eb_E L d 253 1587 [some (Sum.inr x), v1, v2, v3] (Sum.inr x :: st) M := eb_E_s hk253 rfl
theorem e253_1587 {x : Int32} : eb_E L d 253 1587 [v0, v1, v2, some (zi x)] (st) M = eb_E L d 253 1588 [v0, v1, v2, some (zi x)] (zi x :: st) M := eb_E_s hk253 rfl
theorem e253_1588  : eb_E L d 253 1588 ls (st) M = eb_E L d 253 1589 ls (zi 2 :: st) M := eb_E_s hk253 rfl
theorem e253_1589 {x : Int32} {y : Int32} : eb_E L d 253 1589 ls (zi y :: zi x :: st) M = eb_E L d 253 1590 ls (zi (x + y) :: st) M := eb_E_s hk253 rfl
theorem e253_1590 {x : Int32} : eb_E L d 253 1590 ls (zi x :: Sum.inr (some a) :: st) (nc, ns, I, J, R) = if (eb_ty L a.1).1 = 17 ∧ eb_in x (eb_ty L a.1).2 = true then eb_E L d 253 1591 ls (zi (I a x.toNatClampNeg) :: st) (nc, ns, I, J, R) else none := eb_E_iy hk253 rfl
theorem e253_1591 {s0 : Int32} : eb_E L d 253 1591 ls ([a2, a1, a0, zi s0]) M = (eb_ev L d 233 [a0, a1, a2] M).bind (fun q => eb_E L d 253 1594 ls [q.1, zi s0] q.2) := eb_E_c hk253 rfl
theorem e253_1594 {x : Int32} {y : Int32} : eb_E L d 253 1594 ls (zi y :: zi x :: st) M = if x = y then eb_E L d 253 1948 ls st M else eb_E L d 253 1597 ls st M := eb_E_b hk253 rfl
theorem e253_1597  : eb_E L d 253 1597 ls (st) M = eb_E L d 253 1598 ls (zi 0 :: st) M := eb_E_s hk253 rfl
theorem e253_1598 {x : Int32} : eb_E L d 253 1598 ls ([zi x]) M = if x = 0 ∨ x = 1 then some (zi x, M) else none := eb_E_ri hk253 rfl
theorem e253_1599 {x : Option eb_A} : eb_E L d 253 1599 [v0, some (Sum.inr x), v2, v3] (st) M = eb_E L d 253 1600 [v0, some (Sum.inr x), v2, v3] (Sum.inr x :: st) M := eb_E_s hk253 rfl
theorem e253_1600 {x : Option eb_A} : eb_E L d 253 1600 [some (Sum.inr x), v1, v2, v3] (st) M = eb_E L d 253 1601 [some (Sum.inr x), v1, v2, v3] (Sum.inr x :: st) M := eb_E_s hk253 rfl
theorem e253_1601 {x : Int32} : eb_E L d 253 1601 [v0, v1, v2, some (zi x)] (st) M = eb_E L d 253 1602 [v0, v1, v2, some (zi x)] (zi x :: st) M := eb_E_s hk253 rfl
theorem e253_1602  : eb_E L d 253 1602 ls (st) M = eb_E L d 253 1603 ls (zi 1 :: st) M := eb_E_s hk253 rfl
theorem e253_1603 {x : Int32} {y : Int32} : eb_E L d 253 1603 ls (zi y :: zi x :: st) M = eb_E L d 253 1604 ls (zi (x + y) :: st) M := eb_E_s hk253 rfl
theorem e253_1604 {x : Int32} : eb_E L d 253 1604 ls (zi x :: Sum.inr (some a) :: st) (nc, ns, I, J, R) = if (eb_ty L a.1).1 = 17 ∧ eb_in x (eb_ty L a.1).2 = true then eb_E L d 253 1605 ls (zi (I a x.toNatClampNeg) :: st) (nc, ns, I, J, R) else none := eb_E_iy hk253 rfl
theorem e253_1605 {x : Option eb_A} : eb_E L d 253 1605 [some (Sum.inr x), v1, v2, v3] (st) M = eb_E L d 253 1606 [some (Sum.inr x), v1, v2, v3] (Sum.inr x :: st) M := eb_E_s hk253 rfl
theorem e253_1606 {x : Int32} : eb_E L d 253 1606 [v0, v1, v2, some (zi x)] (st) M = eb_E L d 253 1607 [v0, v1, v2, some (zi x)] (zi x :: st) M := eb_E_s hk253 rfl
theorem e253_1607  : eb_E L d 253 1607 ls (st) M = eb_E L d 253 1608 ls (zi 2 :: st) M := eb_E_s hk253 rfl
theorem e253_1608 {x : Int32} {y : Int32} : eb_E L d 253 1608 ls (zi y :: zi x :: st) M = eb_E L d 253 1609 ls (zi (x + y) :: st) M := eb_E_s hk253 rfl
theorem e253_1609 {x : Int32} : eb_E L d 253 1609 ls (zi x :: Sum.inr (some a) :: st) (nc, ns, I, J, R) = if (eb_ty L a.1).1 = 17 ∧ eb_in x (eb_ty L a.1).2 = true then eb_E L d 253 1610 ls (zi (I a x.toNatClampNeg) :: st) (nc, ns, I, J, R) else none := eb_E_iy hk253 rfl
theorem e253_1610  : eb_E L d 253 1610 ls ([a2, a1, a0]) M = (eb_ev L d 112 [a0, a1, a2] M).bind (fun q => eb_E L d 253 1613 ls [q.1] q.2) := eb_E_c hk253 rfl
theorem e253_1613 {x : Option eb_A} : eb_E L d 253 1613 [v0, v1, some (Sum.inr x), v3] (st) M = eb_E L d 253 1614 [v0, v1, some (Sum.inr x), v3] (Sum.inr x :: st) M := eb_E_s hk253 rfl
theorem e253_1614 {x : Option eb_A} : eb_E L d 253 1614 [some (Sum.inr x), v1, v2, v3] (st) M = eb_E L d 253 1615 [some (Sum.inr x), v1, v2, v3] (Sum.inr x :: st) M := eb_E_s hk253 rfl
theorem e253_1615 {x : Int32} : eb_E L d 253 1615 [v0, v1, v2, some (zi x)] (st) M = eb_E L d 253 1616 [v0, v1, v2, some (zi x)] (zi x :: st) M := eb_E_s hk253 rfl
theorem e253_1616  : eb_E L d 253 1616 ls (st) M = eb_E L d 253 1617 ls (zi 1 :: st) M := eb_E_s hk253 rfl
theorem e253_1617 {x : Int32} {y : Int32} : eb_E L d 253 1617 ls (zi y :: zi x :: st) M = eb_E L d 253 1618 ls (zi (x + y) :: st) M := eb_E_s hk253 rfl
theorem e253_1618 {x : Int32} : eb_E L d 253 1618 ls (zi x :: Sum.inr (some a) :: st) (nc, ns, I, J, R) = if (eb_ty L a.1).1 = 17 ∧ eb_in x (eb_ty L a.1).2 = true then eb_E L d 253 1619 ls (zi (I a x.toNatClampNeg) :: st) (nc, ns, I, J, R) else none := eb_E_iy hk253 rfl
theorem e253_1619 {x : Option eb_A} : eb_E L d 253 1619 [some (Sum.inr x), v1, v2, v3] (st) M = eb_E L d 253 1620 [some (Sum.inr x), v1, v2, v3] (Sum.inr x :: st) M := eb_E_s hk253 rfl
theorem e253_1620 {x : Int32} : eb_E L d 253 1620 [v0, v1, v2, some (zi x)] (st) M = eb_E L d 253 1621 [v0, v1, v2, some (zi x)] (zi x :: st) M := eb_E_s hk253 rfl
theorem e253_1621  : eb_E L d 253 1621 ls (st) M = eb_E L d 253 1622 ls (zi 2 :: st) M := eb_E_s hk253 rfl
theorem e253_1622 {x : Int32} {y : Int32} : eb_E L d 253 1622 ls (zi y :: zi x :: st) M = eb_E L d 253 1623 ls (zi (x + y) :: st) M := eb_E_s hk253 rfl
theorem e253_1623 {x : Int32} : eb_E L d 253 1623 ls (zi x :: Sum.inr (some a) :: st) (nc, ns, I, J, R) = if (eb_ty L a.1).1 = 17 ∧ eb_in x (eb_ty L a.1).2 = true then eb_E L d 253 1624 ls (zi (I a x.toNatClampNeg) :: st) (nc, ns, I, J, R) else none := eb_E_iy hk253 rfl
theorem e253_1624 {s0 : Int32} : eb_E L d 253 1624 ls ([a2, a1, a0, zi s0]) M = (eb_ev L d 235 [a0, a1, a2] M).bind (fun q => eb_E L d 253 1627 ls [q.1, zi s0] q.2) := eb_E_c hk253 rfl
theorem e253_1627 {x : Int32} {y : Int32} : eb_E L d 253 1627 ls (zi y :: zi x :: st) M = if x = y then eb_E L d 253 1948 ls st M else eb_E L d 253 1630 ls st M := eb_E_b hk253 rfl
theorem e253_1630  : eb_E L d 253 1630 ls (st) M = eb_E L d 253 1631 ls (zi 0 :: st) M := eb_E_s hk253 rfl
theorem e253_1631 {x : Int32} : eb_E L d 253 1631 ls ([zi x]) M = if x = 0 ∨ x = 1 then some (zi x, M) else none := eb_E_ri hk253 rfl
theorem e253_1632 {x : Option eb_A} : eb_E L d 253 1632 [v0, some (Sum.inr x), v2, v3] (st) M = eb_E L d 253 1633 [v0, some (Sum.inr x), v2, v3] (Sum.inr x :: st) M := eb_E_s hk253 rfl
theorem e253_1633 {x : Option eb_A} : eb_E L d 253 1633 [some (Sum.inr x), v1, v2, v3] (st) M = eb_E L d 253 1634 [some (Sum.inr x), v1, v2, v3] (Sum.inr x :: st) M := eb_E_s hk253 rfl
theorem e253_1634 {x : Int32} : eb_E L d 253 1634 [v0, v1, v2, some (zi x)] (st) M = eb_E L d 253 1635 [v0, v1, v2, some (zi x)] (zi x :: st) M := eb_E_s hk253 rfl
theorem e253_1635  : eb_E L d 253 1635 ls (st) M = eb_E L d 253 1636 ls (zi 1 :: st) M := eb_E_s hk253 rfl
theorem e253_1636 {x : Int32} {y : Int32} : eb_E L d 253 1636 ls (zi y :: zi x :: st) M = eb_E L d 253 1637 ls (zi (x + y) :: st) M := eb_E_s hk253 rfl
theorem e253_1637 {x : Int32} : eb_E L d 253 1637 ls (zi x :: Sum.inr (some a) :: st) (nc, ns, I, J, R) = if (eb_ty L a.1).1 = 17 ∧ eb_in x (eb_ty L a.1).2 = true then eb_E L d 253 1638 ls (zi (I a x.toNatClampNeg) :: st) (nc, ns, I, J, R) else none := eb_E_iy hk253 rfl
theorem e253_1638 {x : Option eb_A} : eb_E L d 253 1638 [some (Sum.inr x), v1, v2, v3] (st) M = eb_E L d 253 1639 [some (Sum.inr x), v1, v2, v3] (Sum.inr x :: st) M := eb_E_s hk253 rfl
theorem e253_1639 {x : Int32} : eb_E L d 253 1639 [v0, v1, v2, some (zi x)] (st) M = eb_E L d 253 1640 [v0, v1, v2, some (zi x)] (zi x :: st) M := eb_E_s hk253 rfl
theorem e253_1640  : eb_E L d 253 1640 ls (st) M = eb_E L d 253 1641 ls (zi 2 :: st) M := eb_E_s hk253 rfl
theorem e253_1641 {x : Int32} {y : Int32} : eb_E L d 253 1641 ls (zi y :: zi x :: st) M = eb_E L d 253 1642 ls (zi (x + y) :: st) M := eb_E_s hk253 rfl
theorem e253_1642 {x : Int32} : eb_E L d 253 1642 ls (zi x :: Sum.inr (some a) :: st) (nc, ns, I, J, R) = if (eb_ty L a.1).1 = 17 ∧ eb_in x (eb_ty L a.1).2 = true then eb_E L d 253 1643 ls (zi (I a x.toNatClampNeg) :: st) (nc, ns, I, J, R) else none := eb_E_iy hk253 rfl
theorem e253_1643 {x : Option eb_A} : eb_E L d 253 1643 [some (Sum.inr x), v1, v2, v3] (st) M = eb_E L d 253 1644 [some (Sum.inr x), v1, v2, v3] (Sum.inr x :: st) M := eb_E_s hk253 rfl
theorem e253_1644 {x : Int32} : eb_E L d 253 1644 [v0, v1, v2, some (zi x)] (st) M = eb_E L d 253 1645 [v0, v1, v2, some (zi x)] (zi x :: st) M := eb_E_s hk253 rfl
theorem e253_1645  : eb_E L d 253 1645 ls (st) M = eb_E L d 253 1646 ls (zi 3 :: st) M := eb_E_s hk253 rfl
theorem e253_1646 {x : Int32} {y : Int32} : eb_E L d 253 1646 ls (zi y :: zi x :: st) M = eb_E L d 253 1647 ls (zi (x + y) :: st) M := eb_E_s hk253 rfl
theorem e253_1647 {x : Int32} : eb_E L d 253 1647 ls (zi x :: Sum.inr (some a) :: st) (nc, ns, I, J, R) = if (eb_ty L a.1).1 = 17 ∧ eb_in x (eb_ty L a.1).2 = true then eb_E L d 253 1648 ls (zi (I a x.toNatClampNeg) :: st) (nc, ns, I, J, R) else none := eb_E_iy hk253 rfl
theorem e253_1648  : eb_E L d 253 1648 ls ([a3, a2, a1, a0]) M = (eb_ev L d 113 [a0, a1, a2, a3] M).bind (fun q => eb_E L d 253 1651 ls [q.1] q.2) := eb_E_c hk253 rfl
theorem e253_1651 {x : Option eb_A} : eb_E L d 253 1651 [v0, v1, some (Sum.inr x), v3] (st) M = eb_E L d 253 1652 [v0, v1, some (Sum.inr x), v3] (Sum.inr x :: st) M := eb_E_s hk253 rfl
theorem e253_1652 {x : Option eb_A} : eb_E L d 253 1652 [some (Sum.inr x), v1, v2, v3] (st) M = eb_E L d 253 1653 [some (Sum.inr x), v1, v2, v3] (Sum.inr x :: st) M := eb_E_s hk253 rfl
theorem e253_1653 {x : Int32} : eb_E L d 253 1653 [v0, v1, v2, some (zi x)] (st) M = eb_E L d 253 1654 [v0, v1, v2, some (zi x)] (zi x :: st) M := eb_E_s hk253 rfl
theorem e253_1654  : eb_E L d 253 1654 ls (st) M = eb_E L d 253 1655 ls (zi 1 :: st) M := eb_E_s hk253 rfl
theorem e253_1655 {x : Int32} {y : Int32} : eb_E L d 253 1655 ls (zi y :: zi x :: st) M = eb_E L d 253 1656 ls (zi (x + y) :: st) M := eb_E_s hk253 rfl
theorem e253_1656 {x : Int32} : eb_E L d 253 1656 ls (zi x :: Sum.inr (some a) :: st) (nc, ns, I, J, R) = if (eb_ty L a.1).1 = 17 ∧ eb_in x (eb_ty L a.1).2 = true then eb_E L d 253 1657 ls (zi (I a x.toNatClampNeg) :: st) (nc, ns, I, J, R) else none := eb_E_iy hk253 rfl
theorem e253_1657 {x : Option eb_A} : eb_E L d 253 1657 [some (Sum.inr x), v1, v2, v3] (st) M = eb_E L d 253 1658 [some (Sum.inr x), v1, v2, v3] (Sum.inr x :: st) M := eb_E_s hk253 rfl
theorem e253_1658 {x : Int32} : eb_E L d 253 1658 [v0, v1, v2, some (zi x)] (st) M = eb_E L d 253 1659 [v0, v1, v2, some (zi x)] (zi x :: st) M := eb_E_s hk253 rfl
theorem e253_1659  : eb_E L d 253 1659 ls (st) M = eb_E L d 253 1660 ls (zi 2 :: st) M := eb_E_s hk253 rfl
theorem e253_1660 {x : Int32} {y : Int32} : eb_E L d 253 1660 ls (zi y :: zi x :: st) M = eb_E L d 253 1661 ls (zi (x + y) :: st) M := eb_E_s hk253 rfl
theorem e253_1661 {x : Int32} : eb_E L d 253 1661 ls (zi x :: Sum.inr (some a) :: st) (nc, ns, I, J, R) = if (eb_ty L a.1).1 = 17 ∧ eb_in x (eb_ty L a.1).2 = true then eb_E L d 253 1662 ls (zi (I a x.toNatClampNeg) :: st) (nc, ns, I, J, R) else none := eb_E_iy hk253 rfl
theorem e253_1662 {x : Option eb_A} : eb_E L d 253 1662 [some (Sum.inr x), v1, v2, v3] (st) M = eb_E L d 253 1663 [some (Sum.inr x), v1, v2, v3] (Sum.inr x :: st) M := eb_E_s hk253 rfl
theorem e253_1663 {x : Int32} : eb_E L d 253 1663 [v0, v1, v2, some (zi x)] (st) M = eb_E L d 253 1664 [v0, v1, v2, some (zi x)] (zi x :: st) M := eb_E_s hk253 rfl
theorem e253_1664  : eb_E L d 253 1664 ls (st) M = eb_E L d 253 1665 ls (zi 3 :: st) M := eb_E_s hk253 rfl
theorem e253_1665 {x : Int32} {y : Int32} : eb_E L d 253 1665 ls (zi y :: zi x :: st) M = eb_E L d 253 1666 ls (zi (x + y) :: st) M := eb_E_s hk253 rfl
theorem e253_1666 {x : Int32} : eb_E L d 253 1666 ls (zi x :: Sum.inr (some a) :: st) (nc, ns, I, J, R) = if (eb_ty L a.1).1 = 17 ∧ eb_in x (eb_ty L a.1).2 = true then eb_E L d 253 1667 ls (zi (I a x.toNatClampNeg) :: st) (nc, ns, I, J, R) else none := eb_E_iy hk253 rfl
theorem e253_1667 {s0 : Int32} : eb_E L d 253 1667 ls ([a3, a2, a1, a0, zi s0]) M = (eb_ev L d 236 [a0, a1, a2, a3] M).bind (fun q => eb_E L d 253 1670 ls [q.1, zi s0] q.2) := eb_E_c hk253 rfl
theorem e253_1670 {x : Int32} {y : Int32} : eb_E L d 253 1670 ls (zi y :: zi x :: st) M = if x = y then eb_E L d 253 1948 ls st M else eb_E L d 253 1673 ls st M := eb_E_b hk253 rfl
theorem e253_1673  : eb_E L d 253 1673 ls (st) M = eb_E L d 253 1674 ls (zi 0 :: st) M := eb_E_s hk253 rfl
theorem e253_1674 {x : Int32} : eb_E L d 253 1674 ls ([zi x]) M = if x = 0 ∨ x = 1 then some (zi x, M) else none := eb_E_ri hk253 rfl
theorem e253_1675 {x : Option eb_A} : eb_E L d 253 1675 [v0, some (Sum.inr x), v2, v3] (st) M = eb_E L d 253 1676 [v0, some (Sum.inr x), v2, v3] (Sum.inr x :: st) M := eb_E_s hk253 rfl
theorem e253_1676 {x : Option eb_A} : eb_E L d 253 1676 [some (Sum.inr x), v1, v2, v3] (st) M = eb_E L d 253 1677 [some (Sum.inr x), v1, v2, v3] (Sum.inr x :: st) M := eb_E_s hk253 rfl
theorem e253_1677 {x : Int32} : eb_E L d 253 1677 [v0, v1, v2, some (zi x)] (st) M = eb_E L d 253 1678 [v0, v1, v2, some (zi x)] (zi x :: st) M := eb_E_s hk253 rfl
theorem e253_1678  : eb_E L d 253 1678 ls (st) M = eb_E L d 253 1679 ls (zi 1 :: st) M := eb_E_s hk253 rfl
theorem e253_1679 {x : Int32} {y : Int32} : eb_E L d 253 1679 ls (zi y :: zi x :: st) M = eb_E L d 253 1680 ls (zi (x + y) :: st) M := eb_E_s hk253 rfl
theorem e253_1680 {x : Int32} : eb_E L d 253 1680 ls (zi x :: Sum.inr (some a) :: st) (nc, ns, I, J, R) = if (eb_ty L a.1).1 = 17 ∧ eb_in x (eb_ty L a.1).2 = true then eb_E L d 253 1681 ls (zi (I a x.toNatClampNeg) :: st) (nc, ns, I, J, R) else none := eb_E_iy hk253 rfl
theorem e253_1681 {x : Option eb_A} : eb_E L d 253 1681 [some (Sum.inr x), v1, v2, v3] (st) M = eb_E L d 253 1682 [some (Sum.inr x), v1, v2, v3] (Sum.inr x :: st) M := eb_E_s hk253 rfl
theorem e253_1682 {x : Int32} : eb_E L d 253 1682 [v0, v1, v2, some (zi x)] (st) M = eb_E L d 253 1683 [v0, v1, v2, some (zi x)] (zi x :: st) M := eb_E_s hk253 rfl
theorem e253_1683  : eb_E L d 253 1683 ls (st) M = eb_E L d 253 1684 ls (zi 2 :: st) M := eb_E_s hk253 rfl
theorem e253_1684 {x : Int32} {y : Int32} : eb_E L d 253 1684 ls (zi y :: zi x :: st) M = eb_E L d 253 1685 ls (zi (x + y) :: st) M := eb_E_s hk253 rfl
theorem e253_1685 {x : Int32} : eb_E L d 253 1685 ls (zi x :: Sum.inr (some a) :: st) (nc, ns, I, J, R) = if (eb_ty L a.1).1 = 17 ∧ eb_in x (eb_ty L a.1).2 = true then eb_E L d 253 1686 ls (zi (I a x.toNatClampNeg) :: st) (nc, ns, I, J, R) else none := eb_E_iy hk253 rfl
theorem e253_1686  : eb_E L d 253 1686 ls ([a2, a1, a0]) M = (eb_ev L d 114 [a0, a1, a2] M).bind (fun q => eb_E L d 253 1689 ls [q.1] q.2) := eb_E_c hk253 rfl
theorem e253_1689 {x : Option eb_A} : eb_E L d 253 1689 [v0, v1, some (Sum.inr x), v3] (st) M = eb_E L d 253 1690 [v0, v1, some (Sum.inr x), v3] (Sum.inr x :: st) M := eb_E_s hk253 rfl
theorem e253_1690 {x : Option eb_A} : eb_E L d 253 1690 [some (Sum.inr x), v1, v2, v3] (st) M = eb_E L d 253 1691 [some (Sum.inr x), v1, v2, v3] (Sum.inr x :: st) M := eb_E_s hk253 rfl
theorem e253_1691 {x : Int32} : eb_E L d 253 1691 [v0, v1, v2, some (zi x)] (st) M = eb_E L d 253 1692 [v0, v1, v2, some (zi x)] (zi x :: st) M := eb_E_s hk253 rfl
theorem e253_1692  : eb_E L d 253 1692 ls (st) M = eb_E L d 253 1693 ls (zi 1 :: st) M := eb_E_s hk253 rfl
theorem e253_1693 {x : Int32} {y : Int32} : eb_E L d 253 1693 ls (zi y :: zi x :: st) M = eb_E L d 253 1694 ls (zi (x + y) :: st) M := eb_E_s hk253 rfl
theorem e253_1694 {x : Int32} : eb_E L d 253 1694 ls (zi x :: Sum.inr (some a) :: st) (nc, ns, I, J, R) = if (eb_ty L a.1).1 = 17 ∧ eb_in x (eb_ty L a.1).2 = true then eb_E L d 253 1695 ls (zi (I a x.toNatClampNeg) :: st) (nc, ns, I, J, R) else none := eb_E_iy hk253 rfl
theorem e253_1695 {x : Option eb_A} : eb_E L d 253 1695 [some (Sum.inr x), v1, v2, v3] (st) M = eb_E L d 253 1696 [some (Sum.inr x), v1, v2, v3] (Sum.inr x :: st) M := eb_E_s hk253 rfl
theorem e253_1696 {x : Int32} : eb_E L d 253 1696 [v0, v1, v2, some (zi x)] (st) M = eb_E L d 253 1697 [v0, v1, v2, some (zi x)] (zi x :: st) M := eb_E_s hk253 rfl
theorem e253_1697  : eb_E L d 253 1697 ls (st) M = eb_E L d 253 1698 ls (zi 2 :: st) M := eb_E_s hk253 rfl
theorem e253_1698 {x : Int32} {y : Int32} : eb_E L d 253 1698 ls (zi y :: zi x :: st) M = eb_E L d 253 1699 ls (zi (x + y) :: st) M := eb_E_s hk253 rfl
theorem e253_1699 {x : Int32} : eb_E L d 253 1699 ls (zi x :: Sum.inr (some a) :: st) (nc, ns, I, J, R) = if (eb_ty L a.1).1 = 17 ∧ eb_in x (eb_ty L a.1).2 = true then eb_E L d 253 1700 ls (zi (I a x.toNatClampNeg) :: st) (nc, ns, I, J, R) else none := eb_E_iy hk253 rfl
theorem e253_1700 {s0 : Int32} : eb_E L d 253 1700 ls ([a2, a1, a0, zi s0]) M = (eb_ev L d 237 [a0, a1, a2] M).bind (fun q => eb_E L d 253 1703 ls [q.1, zi s0] q.2) := eb_E_c hk253 rfl
theorem e253_1703 {x : Int32} {y : Int32} : eb_E L d 253 1703 ls (zi y :: zi x :: st) M = if x = y then eb_E L d 253 1948 ls st M else eb_E L d 253 1706 ls st M := eb_E_b hk253 rfl
theorem e253_1706  : eb_E L d 253 1706 ls (st) M = eb_E L d 253 1707 ls (zi 0 :: st) M := eb_E_s hk253 rfl
theorem e253_1707 {x : Int32} : eb_E L d 253 1707 ls ([zi x]) M = if x = 0 ∨ x = 1 then some (zi x, M) else none := eb_E_ri hk253 rfl
theorem e253_1708 {x : Option eb_A} : eb_E L d 253 1708 [v0, some (Sum.inr x), v2, v3] (st) M = eb_E L d 253 1709 [v0, some (Sum.inr x), v2, v3] (Sum.inr x :: st) M := eb_E_s hk253 rfl
theorem e253_1709 {x : Option eb_A} : eb_E L d 253 1709 [some (Sum.inr x), v1, v2, v3] (st) M = eb_E L d 253 1710 [some (Sum.inr x), v1, v2, v3] (Sum.inr x :: st) M := eb_E_s hk253 rfl
theorem e253_1710 {x : Int32} : eb_E L d 253 1710 [v0, v1, v2, some (zi x)] (st) M = eb_E L d 253 1711 [v0, v1, v2, some (zi x)] (zi x :: st) M := eb_E_s hk253 rfl
theorem e253_1711  : eb_E L d 253 1711 ls (st) M = eb_E L d 253 1712 ls (zi 1 :: st) M := eb_E_s hk253 rfl
theorem e253_1712 {x : Int32} {y : Int32} : eb_E L d 253 1712 ls (zi y :: zi x :: st) M = eb_E L d 253 1713 ls (zi (x + y) :: st) M := eb_E_s hk253 rfl
theorem e253_1713 {x : Int32} : eb_E L d 253 1713 ls (zi x :: Sum.inr (some a) :: st) (nc, ns, I, J, R) = if (eb_ty L a.1).1 = 17 ∧ eb_in x (eb_ty L a.1).2 = true then eb_E L d 253 1714 ls (zi (I a x.toNatClampNeg) :: st) (nc, ns, I, J, R) else none := eb_E_iy hk253 rfl
theorem e253_1714 {x : Option eb_A} : eb_E L d 253 1714 [some (Sum.inr x), v1, v2, v3] (st) M = eb_E L d 253 1715 [some (Sum.inr x), v1, v2, v3] (Sum.inr x :: st) M := eb_E_s hk253 rfl
theorem e253_1715 {x : Int32} : eb_E L d 253 1715 [v0, v1, v2, some (zi x)] (st) M = eb_E L d 253 1716 [v0, v1, v2, some (zi x)] (zi x :: st) M := eb_E_s hk253 rfl
theorem e253_1716  : eb_E L d 253 1716 ls (st) M = eb_E L d 253 1717 ls (zi 2 :: st) M := eb_E_s hk253 rfl
theorem e253_1717 {x : Int32} {y : Int32} : eb_E L d 253 1717 ls (zi y :: zi x :: st) M = eb_E L d 253 1718 ls (zi (x + y) :: st) M := eb_E_s hk253 rfl
theorem e253_1718 {x : Int32} : eb_E L d 253 1718 ls (zi x :: Sum.inr (some a) :: st) (nc, ns, I, J, R) = if (eb_ty L a.1).1 = 17 ∧ eb_in x (eb_ty L a.1).2 = true then eb_E L d 253 1719 ls (zi (I a x.toNatClampNeg) :: st) (nc, ns, I, J, R) else none := eb_E_iy hk253 rfl
theorem e253_1719 {x : Option eb_A} : eb_E L d 253 1719 [some (Sum.inr x), v1, v2, v3] (st) M = eb_E L d 253 1720 [some (Sum.inr x), v1, v2, v3] (Sum.inr x :: st) M := eb_E_s hk253 rfl
theorem e253_1720 {x : Int32} : eb_E L d 253 1720 [v0, v1, v2, some (zi x)] (st) M = eb_E L d 253 1721 [v0, v1, v2, some (zi x)] (zi x :: st) M := eb_E_s hk253 rfl
theorem e253_1721  : eb_E L d 253 1721 ls (st) M = eb_E L d 253 1722 ls (zi 3 :: st) M := eb_E_s hk253 rfl
theorem e253_1722 {x : Int32} {y : Int32} : eb_E L d 253 1722 ls (zi y :: zi x :: st) M = eb_E L d 253 1723 ls (zi (x + y) :: st) M := eb_E_s hk253 rfl
theorem e253_1723 {x : Int32} : eb_E L d 253 1723 ls (zi x :: Sum.inr (some a) :: st) (nc, ns, I, J, R) = if (eb_ty L a.1).1 = 17 ∧ eb_in x (eb_ty L a.1).2 = true then eb_E L d 253 1724 ls (zi (I a x.toNatClampNeg) :: st) (nc, ns, I, J, R) else none := eb_E_iy hk253 rfl
theorem e253_1724 {x : Option eb_A} : eb_E L d 253 1724 [some (Sum.inr x), v1, v2, v3] (st) M = eb_E L d 253 1725 [some (Sum.inr x), v1, v2, v3] (Sum.inr x :: st) M := eb_E_s hk253 rfl
theorem e253_1725 {x : Int32} : eb_E L d 253 1725 [v0, v1, v2, some (zi x)] (st) M = eb_E L d 253 1726 [v0, v1, v2, some (zi x)] (zi x :: st) M := eb_E_s hk253 rfl
theorem e253_1726  : eb_E L d 253 1726 ls (st) M = eb_E L d 253 1727 ls (zi 4 :: st) M := eb_E_s hk253 rfl
theorem e253_1727 {x : Int32} {y : Int32} : eb_E L d 253 1727 ls (zi y :: zi x :: st) M = eb_E L d 253 1728 ls (zi (x + y) :: st) M := eb_E_s hk253 rfl
theorem e253_1728 {x : Int32} : eb_E L d 253 1728 ls (zi x :: Sum.inr (some a) :: st) (nc, ns, I, J, R) = if (eb_ty L a.1).1 = 17 ∧ eb_in x (eb_ty L a.1).2 = true then eb_E L d 253 1729 ls (zi (I a x.toNatClampNeg) :: st) (nc, ns, I, J, R) else none := eb_E_iy hk253 rfl
theorem e253_1729  : eb_E L d 253 1729 ls ([a4, a3, a2, a1, a0]) M = (eb_ev L d 115 [a0, a1, a2, a3, a4] M).bind (fun q => eb_E L d 253 1732 ls [q.1] q.2) := eb_E_c hk253 rfl
theorem e253_1732 {x : Option eb_A} : eb_E L d 253 1732 [v0, v1, some (Sum.inr x), v3] (st) M = eb_E L d 253 1733 [v0, v1, some (Sum.inr x), v3] (Sum.inr x :: st) M := eb_E_s hk253 rfl
theorem e253_1733 {x : Option eb_A} : eb_E L d 253 1733 [some (Sum.inr x), v1, v2, v3] (st) M = eb_E L d 253 1734 [some (Sum.inr x), v1, v2, v3] (Sum.inr x :: st) M := eb_E_s hk253 rfl
theorem e253_1734 {x : Int32} : eb_E L d 253 1734 [v0, v1, v2, some (zi x)] (st) M = eb_E L d 253 1735 [v0, v1, v2, some (zi x)] (zi x :: st) M := eb_E_s hk253 rfl
theorem e253_1735  : eb_E L d 253 1735 ls (st) M = eb_E L d 253 1736 ls (zi 1 :: st) M := eb_E_s hk253 rfl
theorem e253_1736 {x : Int32} {y : Int32} : eb_E L d 253 1736 ls (zi y :: zi x :: st) M = eb_E L d 253 1737 ls (zi (x + y) :: st) M := eb_E_s hk253 rfl
theorem e253_1737 {x : Int32} : eb_E L d 253 1737 ls (zi x :: Sum.inr (some a) :: st) (nc, ns, I, J, R) = if (eb_ty L a.1).1 = 17 ∧ eb_in x (eb_ty L a.1).2 = true then eb_E L d 253 1738 ls (zi (I a x.toNatClampNeg) :: st) (nc, ns, I, J, R) else none := eb_E_iy hk253 rfl
theorem e253_1738 {x : Option eb_A} : eb_E L d 253 1738 [some (Sum.inr x), v1, v2, v3] (st) M = eb_E L d 253 1739 [some (Sum.inr x), v1, v2, v3] (Sum.inr x :: st) M := eb_E_s hk253 rfl
theorem e253_1739 {x : Int32} : eb_E L d 253 1739 [v0, v1, v2, some (zi x)] (st) M = eb_E L d 253 1740 [v0, v1, v2, some (zi x)] (zi x :: st) M := eb_E_s hk253 rfl
theorem e253_1740  : eb_E L d 253 1740 ls (st) M = eb_E L d 253 1741 ls (zi 2 :: st) M := eb_E_s hk253 rfl
theorem e253_1741 {x : Int32} {y : Int32} : eb_E L d 253 1741 ls (zi y :: zi x :: st) M = eb_E L d 253 1742 ls (zi (x + y) :: st) M := eb_E_s hk253 rfl
theorem e253_1742 {x : Int32} : eb_E L d 253 1742 ls (zi x :: Sum.inr (some a) :: st) (nc, ns, I, J, R) = if (eb_ty L a.1).1 = 17 ∧ eb_in x (eb_ty L a.1).2 = true then eb_E L d 253 1743 ls (zi (I a x.toNatClampNeg) :: st) (nc, ns, I, J, R) else none := eb_E_iy hk253 rfl
theorem e253_1743 {x : Option eb_A} : eb_E L d 253 1743 [some (Sum.inr x), v1, v2, v3] (st) M = eb_E L d 253 1744 [some (Sum.inr x), v1, v2, v3] (Sum.inr x :: st) M := eb_E_s hk253 rfl
theorem e253_1744 {x : Int32} : eb_E L d 253 1744 [v0, v1, v2, some (zi x)] (st) M = eb_E L d 253 1745 [v0, v1, v2, some (zi x)] (zi x :: st) M := eb_E_s hk253 rfl
theorem e253_1745  : eb_E L d 253 1745 ls (st) M = eb_E L d 253 1746 ls (zi 3 :: st) M := eb_E_s hk253 rfl
theorem e253_1746 {x : Int32} {y : Int32} : eb_E L d 253 1746 ls (zi y :: zi x :: st) M = eb_E L d 253 1747 ls (zi (x + y) :: st) M := eb_E_s hk253 rfl
theorem e253_1747 {x : Int32} : eb_E L d 253 1747 ls (zi x :: Sum.inr (some a) :: st) (nc, ns, I, J, R) = if (eb_ty L a.1).1 = 17 ∧ eb_in x (eb_ty L a.1).2 = true then eb_E L d 253 1748 ls (zi (I a x.toNatClampNeg) :: st) (nc, ns, I, J, R) else none := eb_E_iy hk253 rfl
theorem e253_1748 {x : Option eb_A} : eb_E L d 253 1748 [some (Sum.inr x), v1, v2, v3] (st) M = eb_E L d 253 1749 [some (Sum.inr x), v1, v2, v3] (Sum.inr x :: st) M := eb_E_s hk253 rfl
theorem e253_1749 {x : Int32} : eb_E L d 253 1749 [v0, v1, v2, some (zi x)] (st) M = eb_E L d 253 1750 [v0, v1, v2, some (zi x)] (zi x :: st) M := eb_E_s hk253 rfl
theorem e253_1750  : eb_E L d 253 1750 ls (st) M = eb_E L d 253 1751 ls (zi 4 :: st) M := eb_E_s hk253 rfl
theorem e253_1751 {x : Int32} {y : Int32} : eb_E L d 253 1751 ls (zi y :: zi x :: st) M = eb_E L d 253 1752 ls (zi (x + y) :: st) M := eb_E_s hk253 rfl
theorem e253_1752 {x : Int32} : eb_E L d 253 1752 ls (zi x :: Sum.inr (some a) :: st) (nc, ns, I, J, R) = if (eb_ty L a.1).1 = 17 ∧ eb_in x (eb_ty L a.1).2 = true then eb_E L d 253 1753 ls (zi (I a x.toNatClampNeg) :: st) (nc, ns, I, J, R) else none := eb_E_iy hk253 rfl
theorem e253_1753 {s0 : Int32} : eb_E L d 253 1753 ls ([a4, a3, a2, a1, a0, zi s0]) M = (eb_ev L d 238 [a0, a1, a2, a3, a4] M).bind (fun q => eb_E L d 253 1756 ls [q.1, zi s0] q.2) := eb_E_c hk253 rfl
theorem e253_1756 {x : Int32} {y : Int32} : eb_E L d 253 1756 ls (zi y :: zi x :: st) M = if x = y then eb_E L d 253 1948 ls st M else eb_E L d 253 1759 ls st M := eb_E_b hk253 rfl
theorem e253_1759  : eb_E L d 253 1759 ls (st) M = eb_E L d 253 1760 ls (zi 0 :: st) M := eb_E_s hk253 rfl
theorem e253_1760 {x : Int32} : eb_E L d 253 1760 ls ([zi x]) M = if x = 0 ∨ x = 1 then some (zi x, M) else none := eb_E_ri hk253 rfl
theorem e253_1761 {x : Option eb_A} : eb_E L d 253 1761 [v0, some (Sum.inr x), v2, v3] (st) M = eb_E L d 253 1762 [v0, some (Sum.inr x), v2, v3] (Sum.inr x :: st) M := eb_E_s hk253 rfl
theorem e253_1762 {x : Option eb_A} : eb_E L d 253 1762 [some (Sum.inr x), v1, v2, v3] (st) M = eb_E L d 253 1763 [some (Sum.inr x), v1, v2, v3] (Sum.inr x :: st) M := eb_E_s hk253 rfl
theorem e253_1763 {x : Int32} : eb_E L d 253 1763 [v0, v1, v2, some (zi x)] (st) M = eb_E L d 253 1764 [v0, v1, v2, some (zi x)] (zi x :: st) M := eb_E_s hk253 rfl
theorem e253_1764  : eb_E L d 253 1764 ls (st) M = eb_E L d 253 1765 ls (zi 1 :: st) M := eb_E_s hk253 rfl
theorem e253_1765 {x : Int32} {y : Int32} : eb_E L d 253 1765 ls (zi y :: zi x :: st) M = eb_E L d 253 1766 ls (zi (x + y) :: st) M := eb_E_s hk253 rfl
theorem e253_1766 {x : Int32} : eb_E L d 253 1766 ls (zi x :: Sum.inr (some a) :: st) (nc, ns, I, J, R) = if (eb_ty L a.1).1 = 17 ∧ eb_in x (eb_ty L a.1).2 = true then eb_E L d 253 1767 ls (zi (I a x.toNatClampNeg) :: st) (nc, ns, I, J, R) else none := eb_E_iy hk253 rfl
theorem e253_1767  : eb_E L d 253 1767 ls ([a1, a0]) M = (eb_ev L d 116 [a0, a1] M).bind (fun q => eb_E L d 253 1770 ls [q.1] q.2) := eb_E_c hk253 rfl
theorem e253_1770 {x : Option eb_A} : eb_E L d 253 1770 [v0, v1, some (Sum.inr x), v3] (st) M = eb_E L d 253 1771 [v0, v1, some (Sum.inr x), v3] (Sum.inr x :: st) M := eb_E_s hk253 rfl
theorem e253_1771 {x : Option eb_A} : eb_E L d 253 1771 [some (Sum.inr x), v1, v2, v3] (st) M = eb_E L d 253 1772 [some (Sum.inr x), v1, v2, v3] (Sum.inr x :: st) M := eb_E_s hk253 rfl
theorem e253_1772 {x : Int32} : eb_E L d 253 1772 [v0, v1, v2, some (zi x)] (st) M = eb_E L d 253 1773 [v0, v1, v2, some (zi x)] (zi x :: st) M := eb_E_s hk253 rfl
theorem e253_1773  : eb_E L d 253 1773 ls (st) M = eb_E L d 253 1774 ls (zi 1 :: st) M := eb_E_s hk253 rfl
theorem e253_1774 {x : Int32} {y : Int32} : eb_E L d 253 1774 ls (zi y :: zi x :: st) M = eb_E L d 253 1775 ls (zi (x + y) :: st) M := eb_E_s hk253 rfl
theorem e253_1775 {x : Int32} : eb_E L d 253 1775 ls (zi x :: Sum.inr (some a) :: st) (nc, ns, I, J, R) = if (eb_ty L a.1).1 = 17 ∧ eb_in x (eb_ty L a.1).2 = true then eb_E L d 253 1776 ls (zi (I a x.toNatClampNeg) :: st) (nc, ns, I, J, R) else none := eb_E_iy hk253 rfl
theorem e253_1776 {s0 : Int32} : eb_E L d 253 1776 ls ([a1, a0, zi s0]) M = (eb_ev L d 239 [a0, a1] M).bind (fun q => eb_E L d 253 1779 ls [q.1, zi s0] q.2) := eb_E_c hk253 rfl
theorem e253_1779 {x : Int32} {y : Int32} : eb_E L d 253 1779 ls (zi y :: zi x :: st) M = if x = y then eb_E L d 253 1948 ls st M else eb_E L d 253 1782 ls st M := eb_E_b hk253 rfl
theorem e253_1782  : eb_E L d 253 1782 ls (st) M = eb_E L d 253 1783 ls (zi 0 :: st) M := eb_E_s hk253 rfl
theorem e253_1783 {x : Int32} : eb_E L d 253 1783 ls ([zi x]) M = if x = 0 ∨ x = 1 then some (zi x, M) else none := eb_E_ri hk253 rfl
theorem e253_1784 {x : Option eb_A} : eb_E L d 253 1784 [v0, some (Sum.inr x), v2, v3] (st) M = eb_E L d 253 1785 [v0, some (Sum.inr x), v2, v3] (Sum.inr x :: st) M := eb_E_s hk253 rfl
theorem e253_1785 {x : Option eb_A} : eb_E L d 253 1785 [some (Sum.inr x), v1, v2, v3] (st) M = eb_E L d 253 1786 [some (Sum.inr x), v1, v2, v3] (Sum.inr x :: st) M := eb_E_s hk253 rfl
theorem e253_1786 {x : Int32} : eb_E L d 253 1786 [v0, v1, v2, some (zi x)] (st) M = eb_E L d 253 1787 [v0, v1, v2, some (zi x)] (zi x :: st) M := eb_E_s hk253 rfl
theorem e253_1787  : eb_E L d 253 1787 ls (st) M = eb_E L d 253 1788 ls (zi 1 :: st) M := eb_E_s hk253 rfl
theorem e253_1788 {x : Int32} {y : Int32} : eb_E L d 253 1788 ls (zi y :: zi x :: st) M = eb_E L d 253 1789 ls (zi (x + y) :: st) M := eb_E_s hk253 rfl
theorem e253_1789 {x : Int32} : eb_E L d 253 1789 ls (zi x :: Sum.inr (some a) :: st) (nc, ns, I, J, R) = if (eb_ty L a.1).1 = 17 ∧ eb_in x (eb_ty L a.1).2 = true then eb_E L d 253 1790 ls (zi (I a x.toNatClampNeg) :: st) (nc, ns, I, J, R) else none := eb_E_iy hk253 rfl
theorem e253_1790 {x : Option eb_A} : eb_E L d 253 1790 [some (Sum.inr x), v1, v2, v3] (st) M = eb_E L d 253 1791 [some (Sum.inr x), v1, v2, v3] (Sum.inr x :: st) M := eb_E_s hk253 rfl
theorem e253_1791 {x : Int32} : eb_E L d 253 1791 [v0, v1, v2, some (zi x)] (st) M = eb_E L d 253 1792 [v0, v1, v2, some (zi x)] (zi x :: st) M := eb_E_s hk253 rfl
theorem e253_1792  : eb_E L d 253 1792 ls (st) M = eb_E L d 253 1793 ls (zi 2 :: st) M := eb_E_s hk253 rfl
theorem e253_1793 {x : Int32} {y : Int32} : eb_E L d 253 1793 ls (zi y :: zi x :: st) M = eb_E L d 253 1794 ls (zi (x + y) :: st) M := eb_E_s hk253 rfl
theorem e253_1794 {x : Int32} : eb_E L d 253 1794 ls (zi x :: Sum.inr (some a) :: st) (nc, ns, I, J, R) = if (eb_ty L a.1).1 = 17 ∧ eb_in x (eb_ty L a.1).2 = true then eb_E L d 253 1795 ls (zi (I a x.toNatClampNeg) :: st) (nc, ns, I, J, R) else none := eb_E_iy hk253 rfl
theorem e253_1795  : eb_E L d 253 1795 ls ([a2, a1, a0]) M = (eb_ev L d 117 [a0, a1, a2] M).bind (fun q => eb_E L d 253 1798 ls [q.1] q.2) := eb_E_c hk253 rfl
theorem e253_1798 {x : Option eb_A} : eb_E L d 253 1798 [v0, v1, some (Sum.inr x), v3] (st) M = eb_E L d 253 1799 [v0, v1, some (Sum.inr x), v3] (Sum.inr x :: st) M := eb_E_s hk253 rfl
theorem e253_1799 {x : Option eb_A} : eb_E L d 253 1799 [some (Sum.inr x), v1, v2, v3] (st) M = eb_E L d 253 1800 [some (Sum.inr x), v1, v2, v3] (Sum.inr x :: st) M := eb_E_s hk253 rfl
theorem e253_1800 {x : Int32} : eb_E L d 253 1800 [v0, v1, v2, some (zi x)] (st) M = eb_E L d 253 1801 [v0, v1, v2, some (zi x)] (zi x :: st) M := eb_E_s hk253 rfl
theorem e253_1801  : eb_E L d 253 1801 ls (st) M = eb_E L d 253 1802 ls (zi 1 :: st) M := eb_E_s hk253 rfl
theorem e253_1802 {x : Int32} {y : Int32} : eb_E L d 253 1802 ls (zi y :: zi x :: st) M = eb_E L d 253 1803 ls (zi (x + y) :: st) M := eb_E_s hk253 rfl
theorem e253_1803 {x : Int32} : eb_E L d 253 1803 ls (zi x :: Sum.inr (some a) :: st) (nc, ns, I, J, R) = if (eb_ty L a.1).1 = 17 ∧ eb_in x (eb_ty L a.1).2 = true then eb_E L d 253 1804 ls (zi (I a x.toNatClampNeg) :: st) (nc, ns, I, J, R) else none := eb_E_iy hk253 rfl
theorem e253_1804 {x : Option eb_A} : eb_E L d 253 1804 [some (Sum.inr x), v1, v2, v3] (st) M = eb_E L d 253 1805 [some (Sum.inr x), v1, v2, v3] (Sum.inr x :: st) M := eb_E_s hk253 rfl
theorem e253_1805 {x : Int32} : eb_E L d 253 1805 [v0, v1, v2, some (zi x)] (st) M = eb_E L d 253 1806 [v0, v1, v2, some (zi x)] (zi x :: st) M := eb_E_s hk253 rfl
theorem e253_1806  : eb_E L d 253 1806 ls (st) M = eb_E L d 253 1807 ls (zi 2 :: st) M := eb_E_s hk253 rfl
theorem e253_1807 {x : Int32} {y : Int32} : eb_E L d 253 1807 ls (zi y :: zi x :: st) M = eb_E L d 253 1808 ls (zi (x + y) :: st) M := eb_E_s hk253 rfl
theorem e253_1808 {x : Int32} : eb_E L d 253 1808 ls (zi x :: Sum.inr (some a) :: st) (nc, ns, I, J, R) = if (eb_ty L a.1).1 = 17 ∧ eb_in x (eb_ty L a.1).2 = true then eb_E L d 253 1809 ls (zi (I a x.toNatClampNeg) :: st) (nc, ns, I, J, R) else none := eb_E_iy hk253 rfl
theorem e253_1809 {s0 : Int32} : eb_E L d 253 1809 ls ([a2, a1, a0, zi s0]) M = (eb_ev L d 240 [a0, a1, a2] M).bind (fun q => eb_E L d 253 1812 ls [q.1, zi s0] q.2) := eb_E_c hk253 rfl
theorem e253_1812 {x : Int32} {y : Int32} : eb_E L d 253 1812 ls (zi y :: zi x :: st) M = if x = y then eb_E L d 253 1948 ls st M else eb_E L d 253 1815 ls st M := eb_E_b hk253 rfl
theorem e253_1815  : eb_E L d 253 1815 ls (st) M = eb_E L d 253 1816 ls (zi 0 :: st) M := eb_E_s hk253 rfl
theorem e253_1816 {x : Int32} : eb_E L d 253 1816 ls ([zi x]) M = if x = 0 ∨ x = 1 then some (zi x, M) else none := eb_E_ri hk253 rfl
theorem e253_1817 {x : Option eb_A} : eb_E L d 253 1817 [v0, some (Sum.inr x), v2, v3] (st) M = eb_E L d 253 1818 [v0, some (Sum.inr x), v2, v3] (Sum.inr x :: st) M := eb_E_s hk253 rfl
theorem e253_1818  : eb_E L d 253 1818 ls ([a0]) M = (eb_ev L d 118 [a0] M).bind (fun q => eb_E L d 253 1821 ls [q.1] q.2) := eb_E_c hk253 rfl
theorem e253_1821 {x : Option eb_A} : eb_E L d 253 1821 [v0, v1, some (Sum.inr x), v3] (st) M = eb_E L d 253 1822 [v0, v1, some (Sum.inr x), v3] (Sum.inr x :: st) M := eb_E_s hk253 rfl
theorem e253_1822 {s0 : Int32} : eb_E L d 253 1822 ls ([a0, zi s0]) M = (eb_ev L d 241 [a0] M).bind (fun q => eb_E L d 253 1825 ls [q.1, zi s0] q.2) := eb_E_c hk253 rfl
theorem e253_1825 {x : Int32} {y : Int32} : eb_E L d 253 1825 ls (zi y :: zi x :: st) M = if x = y then eb_E L d 253 1948 ls st M else eb_E L d 253 1828 ls st M := eb_E_b hk253 rfl
theorem e253_1828  : eb_E L d 253 1828 ls (st) M = eb_E L d 253 1829 ls (zi 0 :: st) M := eb_E_s hk253 rfl
theorem e253_1829 {x : Int32} : eb_E L d 253 1829 ls ([zi x]) M = if x = 0 ∨ x = 1 then some (zi x, M) else none := eb_E_ri hk253 rfl
theorem e253_1830 {x : Option eb_A} : eb_E L d 253 1830 [v0, some (Sum.inr x), v2, v3] (st) M = eb_E L d 253 1831 [v0, some (Sum.inr x), v2, v3] (Sum.inr x :: st) M := eb_E_s hk253 rfl
theorem e253_1831 {x : Option eb_A} : eb_E L d 253 1831 [some (Sum.inr x), v1, v2, v3] (st) M = eb_E L d 253 1832 [some (Sum.inr x), v1, v2, v3] (Sum.inr x :: st) M := eb_E_s hk253 rfl
theorem e253_1832 {x : Int32} : eb_E L d 253 1832 [v0, v1, v2, some (zi x)] (st) M = eb_E L d 253 1833 [v0, v1, v2, some (zi x)] (zi x :: st) M := eb_E_s hk253 rfl
theorem e253_1833  : eb_E L d 253 1833 ls (st) M = eb_E L d 253 1834 ls (zi 1 :: st) M := eb_E_s hk253 rfl
theorem e253_1834 {x : Int32} {y : Int32} : eb_E L d 253 1834 ls (zi y :: zi x :: st) M = eb_E L d 253 1835 ls (zi (x + y) :: st) M := eb_E_s hk253 rfl
theorem e253_1835 {x : Int32} : eb_E L d 253 1835 ls (zi x :: Sum.inr (some a) :: st) (nc, ns, I, J, R) = if (eb_ty L a.1).1 = 17 ∧ eb_in x (eb_ty L a.1).2 = true then eb_E L d 253 1836 ls (zi (I a x.toNatClampNeg) :: st) (nc, ns, I, J, R) else none := eb_E_iy hk253 rfl
theorem e253_1836  : eb_E L d 253 1836 ls ([a1, a0]) M = (eb_ev L d 119 [a0, a1] M).bind (fun q => eb_E L d 253 1839 ls [q.1] q.2) := eb_E_c hk253 rfl
theorem e253_1839 {x : Option eb_A} : eb_E L d 253 1839 [v0, v1, some (Sum.inr x), v3] (st) M = eb_E L d 253 1840 [v0, v1, some (Sum.inr x), v3] (Sum.inr x :: st) M := eb_E_s hk253 rfl
theorem e253_1840 {x : Option eb_A} : eb_E L d 253 1840 [some (Sum.inr x), v1, v2, v3] (st) M = eb_E L d 253 1841 [some (Sum.inr x), v1, v2, v3] (Sum.inr x :: st) M := eb_E_s hk253 rfl
theorem e253_1841 {x : Int32} : eb_E L d 253 1841 [v0, v1, v2, some (zi x)] (st) M = eb_E L d 253 1842 [v0, v1, v2, some (zi x)] (zi x :: st) M := eb_E_s hk253 rfl
theorem e253_1842  : eb_E L d 253 1842 ls (st) M = eb_E L d 253 1843 ls (zi 1 :: st) M := eb_E_s hk253 rfl
theorem e253_1843 {x : Int32} {y : Int32} : eb_E L d 253 1843 ls (zi y :: zi x :: st) M = eb_E L d 253 1844 ls (zi (x + y) :: st) M := eb_E_s hk253 rfl
theorem e253_1844 {x : Int32} : eb_E L d 253 1844 ls (zi x :: Sum.inr (some a) :: st) (nc, ns, I, J, R) = if (eb_ty L a.1).1 = 17 ∧ eb_in x (eb_ty L a.1).2 = true then eb_E L d 253 1845 ls (zi (I a x.toNatClampNeg) :: st) (nc, ns, I, J, R) else none := eb_E_iy hk253 rfl
theorem e253_1845 {s0 : Int32} : eb_E L d 253 1845 ls ([a1, a0, zi s0]) M = (eb_ev L d 242 [a0, a1] M).bind (fun q => eb_E L d 253 1848 ls [q.1, zi s0] q.2) := eb_E_c hk253 rfl
theorem e253_1848 {x : Int32} {y : Int32} : eb_E L d 253 1848 ls (zi y :: zi x :: st) M = if x = y then eb_E L d 253 1948 ls st M else eb_E L d 253 1851 ls st M := eb_E_b hk253 rfl
theorem e253_1851  : eb_E L d 253 1851 ls (st) M = eb_E L d 253 1852 ls (zi 0 :: st) M := eb_E_s hk253 rfl
theorem e253_1852 {x : Int32} : eb_E L d 253 1852 ls ([zi x]) M = if x = 0 ∨ x = 1 then some (zi x, M) else none := eb_E_ri hk253 rfl
theorem e253_1853 {x : Option eb_A} : eb_E L d 253 1853 [v0, some (Sum.inr x), v2, v3] (st) M = eb_E L d 253 1854 [v0, some (Sum.inr x), v2, v3] (Sum.inr x :: st) M := eb_E_s hk253 rfl
theorem e253_1854 {x : Option eb_A} : eb_E L d 253 1854 [some (Sum.inr x), v1, v2, v3] (st) M = eb_E L d 253 1855 [some (Sum.inr x), v1, v2, v3] (Sum.inr x :: st) M := eb_E_s hk253 rfl
theorem e253_1855 {x : Int32} : eb_E L d 253 1855 [v0, v1, v2, some (zi x)] (st) M = eb_E L d 253 1856 [v0, v1, v2, some (zi x)] (zi x :: st) M := eb_E_s hk253 rfl
theorem e253_1856  : eb_E L d 253 1856 ls (st) M = eb_E L d 253 1857 ls (zi 1 :: st) M := eb_E_s hk253 rfl
theorem e253_1857 {x : Int32} {y : Int32} : eb_E L d 253 1857 ls (zi y :: zi x :: st) M = eb_E L d 253 1858 ls (zi (x + y) :: st) M := eb_E_s hk253 rfl
theorem e253_1858 {x : Int32} : eb_E L d 253 1858 ls (zi x :: Sum.inr (some a) :: st) (nc, ns, I, J, R) = if (eb_ty L a.1).1 = 17 ∧ eb_in x (eb_ty L a.1).2 = true then eb_E L d 253 1859 ls (zi (I a x.toNatClampNeg) :: st) (nc, ns, I, J, R) else none := eb_E_iy hk253 rfl
theorem e253_1859  : eb_E L d 253 1859 ls ([a1, a0]) M = (eb_ev L d 120 [a0, a1] M).bind (fun q => eb_E L d 253 1862 ls [q.1] q.2) := eb_E_c hk253 rfl
theorem e253_1862 {x : Option eb_A} : eb_E L d 253 1862 [v0, v1, some (Sum.inr x), v3] (st) M = eb_E L d 253 1863 [v0, v1, some (Sum.inr x), v3] (Sum.inr x :: st) M := eb_E_s hk253 rfl
theorem e253_1863 {x : Option eb_A} : eb_E L d 253 1863 [some (Sum.inr x), v1, v2, v3] (st) M = eb_E L d 253 1864 [some (Sum.inr x), v1, v2, v3] (Sum.inr x :: st) M := eb_E_s hk253 rfl
theorem e253_1864 {x : Int32} : eb_E L d 253 1864 [v0, v1, v2, some (zi x)] (st) M = eb_E L d 253 1865 [v0, v1, v2, some (zi x)] (zi x :: st) M := eb_E_s hk253 rfl
theorem e253_1865  : eb_E L d 253 1865 ls (st) M = eb_E L d 253 1866 ls (zi 1 :: st) M := eb_E_s hk253 rfl
theorem e253_1866 {x : Int32} {y : Int32} : eb_E L d 253 1866 ls (zi y :: zi x :: st) M = eb_E L d 253 1867 ls (zi (x + y) :: st) M := eb_E_s hk253 rfl
theorem e253_1867 {x : Int32} : eb_E L d 253 1867 ls (zi x :: Sum.inr (some a) :: st) (nc, ns, I, J, R) = if (eb_ty L a.1).1 = 17 ∧ eb_in x (eb_ty L a.1).2 = true then eb_E L d 253 1868 ls (zi (I a x.toNatClampNeg) :: st) (nc, ns, I, J, R) else none := eb_E_iy hk253 rfl
theorem e253_1868 {s0 : Int32} : eb_E L d 253 1868 ls ([a1, a0, zi s0]) M = (eb_ev L d 244 [a0, a1] M).bind (fun q => eb_E L d 253 1871 ls [q.1, zi s0] q.2) := eb_E_c hk253 rfl
theorem e253_1871 {x : Int32} {y : Int32} : eb_E L d 253 1871 ls (zi y :: zi x :: st) M = if x = y then eb_E L d 253 1948 ls st M else eb_E L d 253 1874 ls st M := eb_E_b hk253 rfl
theorem e253_1874  : eb_E L d 253 1874 ls (st) M = eb_E L d 253 1875 ls (zi 0 :: st) M := eb_E_s hk253 rfl
theorem e253_1875 {x : Int32} : eb_E L d 253 1875 ls ([zi x]) M = if x = 0 ∨ x = 1 then some (zi x, M) else none := eb_E_ri hk253 rfl
theorem e253_1876 {x : Option eb_A} : eb_E L d 253 1876 [v0, some (Sum.inr x), v2, v3] (st) M = eb_E L d 253 1877 [v0, some (Sum.inr x), v2, v3] (Sum.inr x :: st) M := eb_E_s hk253 rfl
theorem e253_1877 {x : Option eb_A} : eb_E L d 253 1877 [some (Sum.inr x), v1, v2, v3] (st) M = eb_E L d 253 1878 [some (Sum.inr x), v1, v2, v3] (Sum.inr x :: st) M := eb_E_s hk253 rfl
theorem e253_1878 {x : Int32} : eb_E L d 253 1878 [v0, v1, v2, some (zi x)] (st) M = eb_E L d 253 1879 [v0, v1, v2, some (zi x)] (zi x :: st) M := eb_E_s hk253 rfl
theorem e253_1879  : eb_E L d 253 1879 ls (st) M = eb_E L d 253 1880 ls (zi 1 :: st) M := eb_E_s hk253 rfl
theorem e253_1880 {x : Int32} {y : Int32} : eb_E L d 253 1880 ls (zi y :: zi x :: st) M = eb_E L d 253 1881 ls (zi (x + y) :: st) M := eb_E_s hk253 rfl
theorem e253_1881 {x : Int32} : eb_E L d 253 1881 ls (zi x :: Sum.inr (some a) :: st) (nc, ns, I, J, R) = if (eb_ty L a.1).1 = 17 ∧ eb_in x (eb_ty L a.1).2 = true then eb_E L d 253 1882 ls (zi (I a x.toNatClampNeg) :: st) (nc, ns, I, J, R) else none := eb_E_iy hk253 rfl
theorem e253_1882  : eb_E L d 253 1882 ls ([a1, a0]) M = (eb_ev L d 121 [a0, a1] M).bind (fun q => eb_E L d 253 1885 ls [q.1] q.2) := eb_E_c hk253 rfl
theorem e253_1885 {x : Option eb_A} : eb_E L d 253 1885 [v0, v1, some (Sum.inr x), v3] (st) M = eb_E L d 253 1886 [v0, v1, some (Sum.inr x), v3] (Sum.inr x :: st) M := eb_E_s hk253 rfl
theorem e253_1886 {x : Option eb_A} : eb_E L d 253 1886 [some (Sum.inr x), v1, v2, v3] (st) M = eb_E L d 253 1887 [some (Sum.inr x), v1, v2, v3] (Sum.inr x :: st) M := eb_E_s hk253 rfl
theorem e253_1887 {x : Int32} : eb_E L d 253 1887 [v0, v1, v2, some (zi x)] (st) M = eb_E L d 253 1888 [v0, v1, v2, some (zi x)] (zi x :: st) M := eb_E_s hk253 rfl
theorem e253_1888  : eb_E L d 253 1888 ls (st) M = eb_E L d 253 1889 ls (zi 1 :: st) M := eb_E_s hk253 rfl
theorem e253_1889 {x : Int32} {y : Int32} : eb_E L d 253 1889 ls (zi y :: zi x :: st) M = eb_E L d 253 1890 ls (zi (x + y) :: st) M := eb_E_s hk253 rfl
theorem e253_1890 {x : Int32} : eb_E L d 253 1890 ls (zi x :: Sum.inr (some a) :: st) (nc, ns, I, J, R) = if (eb_ty L a.1).1 = 17 ∧ eb_in x (eb_ty L a.1).2 = true then eb_E L d 253 1891 ls (zi (I a x.toNatClampNeg) :: st) (nc, ns, I, J, R) else none := eb_E_iy hk253 rfl
theorem e253_1891 {s0 : Int32} : eb_E L d 253 1891 ls ([a1, a0, zi s0]) M = (eb_ev L d 245 [a0, a1] M).bind (fun q => eb_E L d 253 1894 ls [q.1, zi s0] q.2) := eb_E_c hk253 rfl
theorem e253_1894 {x : Int32} {y : Int32} : eb_E L d 253 1894 ls (zi y :: zi x :: st) M = if x = y then eb_E L d 253 1948 ls st M else eb_E L d 253 1897 ls st M := eb_E_b hk253 rfl
theorem e253_1897  : eb_E L d 253 1897 ls (st) M = eb_E L d 253 1898 ls (zi 0 :: st) M := eb_E_s hk253 rfl
theorem e253_1898 {x : Int32} : eb_E L d 253 1898 ls ([zi x]) M = if x = 0 ∨ x = 1 then some (zi x, M) else none := eb_E_ri hk253 rfl
theorem e253_1899 {x : Option eb_A} : eb_E L d 253 1899 [v0, some (Sum.inr x), v2, v3] (st) M = eb_E L d 253 1900 [v0, some (Sum.inr x), v2, v3] (Sum.inr x :: st) M := eb_E_s hk253 rfl
theorem e253_1900  : eb_E L d 253 1900 ls ([a0]) M = (eb_ev L d 122 [a0] M).bind (fun q => eb_E L d 253 1903 ls [q.1] q.2) := eb_E_c hk253 rfl
theorem e253_1903 {x : Option eb_A} : eb_E L d 253 1903 [v0, v1, some (Sum.inr x), v3] (st) M = eb_E L d 253 1904 [v0, v1, some (Sum.inr x), v3] (Sum.inr x :: st) M := eb_E_s hk253 rfl
theorem e253_1904 {s0 : Int32} : eb_E L d 253 1904 ls ([a0, zi s0]) M = (eb_ev L d 249 [a0] M).bind (fun q => eb_E L d 253 1907 ls [q.1, zi s0] q.2) := eb_E_c hk253 rfl
theorem e253_1907 {x : Int32} {y : Int32} : eb_E L d 253 1907 ls (zi y :: zi x :: st) M = if x = y then eb_E L d 253 1948 ls st M else eb_E L d 253 1910 ls st M := eb_E_b hk253 rfl
theorem e253_1910  : eb_E L d 253 1910 ls (st) M = eb_E L d 253 1911 ls (zi 0 :: st) M := eb_E_s hk253 rfl
theorem e253_1911 {x : Int32} : eb_E L d 253 1911 ls ([zi x]) M = if x = 0 ∨ x = 1 then some (zi x, M) else none := eb_E_ri hk253 rfl
theorem e253_1912 {x : Option eb_A} : eb_E L d 253 1912 [v0, some (Sum.inr x), v2, v3] (st) M = eb_E L d 253 1913 [v0, some (Sum.inr x), v2, v3] (Sum.inr x :: st) M := eb_E_s hk253 rfl
theorem e253_1913  : eb_E L d 253 1913 ls ([a0]) M = (eb_ev L d 123 [a0] M).bind (fun q => eb_E L d 253 1916 ls [q.1] q.2) := eb_E_c hk253 rfl
theorem e253_1916 {x : Option eb_A} : eb_E L d 253 1916 [v0, v1, some (Sum.inr x), v3] (st) M = eb_E L d 253 1917 [v0, v1, some (Sum.inr x), v3] (Sum.inr x :: st) M := eb_E_s hk253 rfl
theorem e253_1917 {s0 : Int32} : eb_E L d 253 1917 ls ([a0, zi s0]) M = (eb_ev L d 250 [a0] M).bind (fun q => eb_E L d 253 1920 ls [q.1, zi s0] q.2) := eb_E_c hk253 rfl
theorem e253_1920 {x : Int32} {y : Int32} : eb_E L d 253 1920 ls (zi y :: zi x :: st) M = if x = y then eb_E L d 253 1948 ls st M else eb_E L d 253 1923 ls st M := eb_E_b hk253 rfl
theorem e253_1923  : eb_E L d 253 1923 ls (st) M = eb_E L d 253 1924 ls (zi 0 :: st) M := eb_E_s hk253 rfl
theorem e253_1924 {x : Int32} : eb_E L d 253 1924 ls ([zi x]) M = if x = 0 ∨ x = 1 then some (zi x, M) else none := eb_E_ri hk253 rfl
theorem e253_1925 {x : Option eb_A} : eb_E L d 253 1925 [v0, some (Sum.inr x), v2, v3] (st) M = eb_E L d 253 1926 [v0, some (Sum.inr x), v2, v3] (Sum.inr x :: st) M := eb_E_s hk253 rfl
theorem e253_1926 {x : Option eb_A} : eb_E L d 253 1926 [some (Sum.inr x), v1, v2, v3] (st) M = eb_E L d 253 1927 [some (Sum.inr x), v1, v2, v3] (Sum.inr x :: st) M := eb_E_s hk253 rfl
theorem e253_1927 {x : Int32} : eb_E L d 253 1927 [v0, v1, v2, some (zi x)] (st) M = eb_E L d 253 1928 [v0, v1, v2, some (zi x)] (zi x :: st) M := eb_E_s hk253 rfl
theorem e253_1928  : eb_E L d 253 1928 ls (st) M = eb_E L d 253 1929 ls (zi 1 :: st) M := eb_E_s hk253 rfl
theorem e253_1929 {x : Int32} {y : Int32} : eb_E L d 253 1929 ls (zi y :: zi x :: st) M = eb_E L d 253 1930 ls (zi (x + y) :: st) M := eb_E_s hk253 rfl
theorem e253_1930 {x : Int32} : eb_E L d 253 1930 ls (zi x :: Sum.inr (some a) :: st) (nc, ns, I, J, R) = if (eb_ty L a.1).1 = 17 ∧ eb_in x (eb_ty L a.1).2 = true then eb_E L d 253 1931 ls (zi (I a x.toNatClampNeg) :: st) (nc, ns, I, J, R) else none := eb_E_iy hk253 rfl
theorem e253_1931  : eb_E L d 253 1931 ls ([a1, a0]) M = (eb_ev L d 124 [a0, a1] M).bind (fun q => eb_E L d 253 1934 ls [q.1] q.2) := eb_E_c hk253 rfl
theorem e253_1934 {x : Option eb_A} : eb_E L d 253 1934 [v0, v1, some (Sum.inr x), v3] (st) M = eb_E L d 253 1935 [v0, v1, some (Sum.inr x), v3] (Sum.inr x :: st) M := eb_E_s hk253 rfl
theorem e253_1935 {x : Option eb_A} : eb_E L d 253 1935 [some (Sum.inr x), v1, v2, v3] (st) M = eb_E L d 253 1936 [some (Sum.inr x), v1, v2, v3] (Sum.inr x :: st) M := eb_E_s hk253 rfl
theorem e253_1936 {x : Int32} : eb_E L d 253 1936 [v0, v1, v2, some (zi x)] (st) M = eb_E L d 253 1937 [v0, v1, v2, some (zi x)] (zi x :: st) M := eb_E_s hk253 rfl
theorem e253_1937  : eb_E L d 253 1937 ls (st) M = eb_E L d 253 1938 ls (zi 1 :: st) M := eb_E_s hk253 rfl
theorem e253_1938 {x : Int32} {y : Int32} : eb_E L d 253 1938 ls (zi y :: zi x :: st) M = eb_E L d 253 1939 ls (zi (x + y) :: st) M := eb_E_s hk253 rfl
theorem e253_1939 {x : Int32} : eb_E L d 253 1939 ls (zi x :: Sum.inr (some a) :: st) (nc, ns, I, J, R) = if (eb_ty L a.1).1 = 17 ∧ eb_in x (eb_ty L a.1).2 = true then eb_E L d 253 1940 ls (zi (I a x.toNatClampNeg) :: st) (nc, ns, I, J, R) else none := eb_E_iy hk253 rfl
theorem e253_1940 {s0 : Int32} : eb_E L d 253 1940 ls ([a1, a0, zi s0]) M = (eb_ev L d 251 [a0, a1] M).bind (fun q => eb_E L d 253 1943 ls [q.1, zi s0] q.2) := eb_E_c hk253 rfl
theorem e253_1943 {x : Int32} {y : Int32} : eb_E L d 253 1943 ls (zi y :: zi x :: st) M = if x = y then eb_E L d 253 1948 ls st M else eb_E L d 253 1946 ls st M := eb_E_b hk253 rfl
theorem e253_1946  : eb_E L d 253 1946 ls (st) M = eb_E L d 253 1947 ls (zi 0 :: st) M := eb_E_s hk253 rfl
theorem e253_1947 {x : Int32} : eb_E L d 253 1947 ls ([zi x]) M = if x = 0 ∨ x = 1 then some (zi x, M) else none := eb_E_ri hk253 rfl
theorem e253_1948 {x : Int32} : eb_E L d 253 1948 [v0, v1, v2, some (zi x)] (st) M = eb_E L d 253 1951 [v0, v1, v2, some (zi (x + 6))] (st) M := eb_E_s hk253 rfl
theorem e253_1951  : eb_E L d 253 1951 ls (st) M = eb_E L d 253 18 ls (st) M := eb_E_s hk253 rfl
theorem e253_1954  : eb_E L d 253 1954 ls (st) M = eb_E L d 253 1955 ls (zi 1 :: st) M := eb_E_s hk253 rfl
theorem e253_1955 {x : Int32} : eb_E L d 253 1955 ls ([zi x]) M = if x = 0 ∨ x = 1 then some (zi x, M) else none := eb_E_ri hk253 rfl
end

/-! the law: both sides of one call -/
section
variable {L D nc ns : Nat} {I I1 : eb_A → Nat → Int32} {J J1 : eb_A → Nat → Int64} {C : Nat → Nat → Nat} {mt mk : Option Nat} {S S' : eb_St} {as : List eb_V} {v : eb_V} {mX mM : Nat}
theorem MS_fX (h : eb_MS S I J nc ns mt mk) (e : eb_fX I I1) (eJ : eb_fJ J J1) : eb_MS S I1 J1 nc ns mt mk := by
  obtain ⟨h1, ⟨h2, h3⟩, h4, h5, ⟨h6, h7⟩, h8⟩ := h
  have hr : ∀ r w, eb_RM I r w → eb_RM I1 r w := fun r w q => eb_RM_of q (fun l _ _ => e _ _ (by simp)) (fun i l => e _ _ (by simp)) (fun j l => e _ _ (by simp))
  refine ⟨hr _ _ h1, ⟨h2, fun p q => ?_⟩, h4, fun s hs => ?_, ⟨(e _ _ (by simp)).trans h6, fun j hj => (e _ _ (by simp)).trans (h7 j hj)⟩, fun k hk => (e _ _ (by simp)).trans (h8 k hk)⟩
  · obtain ⟨k, q1, q2⟩ := h3 p q
    exact ⟨k, q1, hr _ _ q2⟩
  · obtain ⟨a1, a2, a3⟩ := h5 s hs
    refine ⟨fun q => (e _ _ (by simp)).trans (a1 q), fun q => ?_, fun q => ?_⟩
    · obtain ⟨b1, b2, b3, b4⟩ := a2 q
      exact ⟨(e _ _ (by simp)).trans b1, (e _ _ (by simp)).trans b2, (e _ _ (by simp)).trans b3, fun j hj => (eJ _ _ (by simp)).trans (b4 j hj)⟩
    · obtain ⟨b1, b2⟩ := a3 q
      exact ⟨(e _ _ (by simp)).trans b1, (e _ _ (by simp)).trans b2⟩
theorem XS_fM (h : eb_XS S I J) (e : eb_fM I I1) (eJ : eb_fN J J1) : eb_XS S I1 J1 := by
  obtain ⟨h1, ⟨h2, h3⟩, h4, ⟨h5, h6⟩, h7⟩ := h
  have hr : ∀ k w, eb_RX I k w → eb_RX I1 k w := fun k w q => eb_RX_of q (fun l => e _ _ (by simp)) (fun i l _ => e _ _ (by simp)) (fun i l _ => e _ _ (by simp))
  exact ⟨hr _ _ h1, ⟨(e _ _ (by simp)).trans h2, fun p hp => hr _ _ (h3 p hp)⟩, fun s hs => ⟨(e _ _ (by simp)).trans (h4 s hs).1, fun q => ⟨(e _ _ (by simp)).trans ((h4 s hs).2 q).1, fun j hj => (eJ _ _ (by simp)).trans (((h4 s hs).2 q).2 j hj)⟩⟩, ⟨(e _ _ (by simp)).trans h5, fun j hj => (e _ _ (by simp)).trans (h6 j hj)⟩, fun r hr => (e _ _ (by simp)).trans (h7 r hr)⟩
theorem lw_both (hX : eb_FX L D mX as S S' v) (hM : eb_FM L D mM as S S' v) (ok : sp_St S') (hx : eb_XS S I J) (hm : eb_MS S I J nc ns mt mk) : ∃ nc' ns' I1 J1 C1 I2 J2 mt' mk', eb_ev L D mX (zr (1, 0, 0) :: as) (nc, ns, I, J, eb_RL C mt mk) = some (v, (nc, ns, I1, J1, eb_RL C1 mt mk)) ∧ eb_ev L D mM (zr (21, 0, 0) :: as) (nc, ns, I1, J1, eb_RL C1 mt mk) = some (v, (nc', ns', I2, J2, eb_RL C1 mt' mk')) ∧ (∀ l, I1 (0, 0, 0) l = I (0, 0, 0) l) ∧ (sp_St S' ∧ eb_XS S' I2 J2 ∧ eb_MS S' I2 J2 nc' ns' mt' mk') := by
  obtain ⟨I1, J1, C1, a1, a2, a3, a4⟩ := hX nc ns I J C mt mk hx
  obtain ⟨nc', ns', I2, J2, mt', mk', b1, b2, b3, b4⟩ := hM nc ns I1 J1 C1 mt mk (MS_fX hm a3 a4)
  exact ⟨nc', ns', I1, J1, C1, I2, J2, mt', mk', a1, b1, fun l => a3 _ _ (by simp), ok, XS_fM a2 b3 b4, b2⟩
end
/-- what holds at a script's place i -/
def lw_I (L i : Nat) (S : eb_St) (nc ns : Nat) (I : eb_A → Nat → Int32) (J : eb_A → Nat → Int64) (mt mk : Option Nat) : Prop := i + 6 ≤ L ∧ L ≤ 384 ∧ sp_St S ∧ eb_XS S I J ∧ eb_MS S I J nc ns mt mk
/-- the call has been made, with the same answer -/
def lw_N (L i : Nat) (X : Option eb_R) : Prop := ∃ S' nc' ns' I' J' C' mt' mk', X = eb_E L 11 253 1948 [some (zr (0, 0, 0)), some (zr (1, 0, 0)), some (zr (21, 0, 0)), some (zi (nI i))] [] (nc', ns', I', J', eb_RL C' mt' mk') ∧ (sp_St S' ∧ eb_XS S' I' J' ∧ eb_MS S' I' J' nc' ns' mt' mk')
theorem ty0 {L : Nat} : eb_ty L 0 = (17, L) := rfl
theorem nI_c1 {i : Nat} : nI i + 1 = nI (i + 1) ∧ nI i + 2 = nI (i + 2) ∧ nI i + 3 = nI (i + 3) ∧ nI i + 4 = nI (i + 4) ∧ nI i + 5 = nI (i + 5) := ⟨nI_add i 1, nI_add i 2, nI_add i 3, nI_add i 4, nI_add i 5⟩
theorem lcmp_s {x : Int64} : (x < x) = False := eq_false Int64.lt_irrefl
section
variable {L i nc ns : Nat} {I : eb_A → Nat → Int32} {J : eb_A → Nat → Int64} {C : Nat → Nat → Nat} {mt mk : Option Nat} {S : eb_St}
theorem lw_c0 (h : lw_I L i S nc ns I J mt mk) : lw_N L i (eb_E L 11 253 276 [some (zr (0, 0, 0)), some (zr (1, 0, 0)), some (zr (21, 0, 0)), some (zi (nI i))] [] (nc, ns, I, J, eb_RL C mt mk)) := by
  obtain ⟨hi, hL, ok, hX, hM⟩ := h
  obtain ⟨nc', ns', I1, J1, C1, I2, J2, mt', mk', a1, a2, a3, a4⟩ := lw_both (L := L) (D := 11) (as := [zi (I (0, 0, 0) (i + 1)), zi (I (0, 0, 0) (i + 2)), zi (I (0, 0, 0) (i + 3))]) (C := C) (xf_row (d := 7) ok) (mf_row (d := 7) ok) (St_row ok) hX hM
  refine ⟨_, nc', ns', I2, J2, C1, mt', mk', ?_, a4⟩
  simp (decide := true) (disch := omega) only [e253_276, e253_277, e253_278, e253_279, e253_280, e253_281, e253_282, e253_283, e253_284, e253_285, e253_286, e253_287, e253_288, e253_289, e253_290, e253_291, e253_292, e253_295, e253_296, e253_297, e253_298, e253_299, e253_300, e253_301, e253_302, e253_303, e253_304, e253_305, e253_306, e253_307, e253_308, e253_309, e253_310, e253_311, e253_314, e253_317, e253_318, bi_s, ↓reduceIte, Option.bind_some, true_and, and_true, eq_self, ty0, lcmp_s, nI_c1, nI_cl_b, eb_in_b, a1, a2, a3]
theorem lw_c1 (h : lw_I L i S nc ns I J mt mk) : lw_N L i (eb_E L 11 253 319 [some (zr (0, 0, 0)), some (zr (1, 0, 0)), some (zr (21, 0, 0)), some (zi (nI i))] [] (nc, ns, I, J, eb_RL C mt mk)) := by
  obtain ⟨hi, hL, ok, hX, hM⟩ := h
  obtain ⟨nc', ns', I1, J1, C1, I2, J2, mt', mk', a1, a2, a3, a4⟩ := lw_both (L := L) (D := 11) (as := [zi (I (0, 0, 0) (i + 1)), zi (I (0, 0, 0) (i + 2)), zl (((I (0, 0, 0) (i + 3)).toInt64 <<< ((32 : Int32).toInt64 &&& 63)) ||| ((I (0, 0, 0) (i + 4)).toInt64 &&& 4294967295))]) (C := C) (xf_set (d := 6) ok) (mf_set (d := 6) ok) (St_set ok) hX hM
  refine ⟨_, nc', ns', I2, J2, C1, mt', mk', ?_, a4⟩
  simp (decide := true) (disch := omega) only [e253_319, e253_320, e253_321, e253_322, e253_323, e253_324, e253_325, e253_326, e253_327, e253_328, e253_329, e253_330, e253_331, e253_332, e253_333, e253_334, e253_335, e253_336, e253_338, e253_339, e253_340, e253_341, e253_342, e253_343, e253_344, e253_345, e253_348, e253_349, e253_350, e253_353, e253_354, e253_355, e253_356, e253_357, e253_358, e253_359, e253_360, e253_361, e253_362, e253_363, e253_364, e253_365, e253_366, e253_367, e253_368, e253_369, e253_370, e253_372, e253_373, e253_374, e253_375, e253_376, e253_377, e253_378, e253_379, e253_382, e253_383, e253_384, e253_387, e253_390, e253_391, bi_s, ↓reduceIte, Option.bind_some, true_and, and_true, eq_self, ty0, lcmp_s, nI_c1, nI_cl_b, eb_in_b, a1, a2, a3]
theorem lw_c2 (h : lw_I L i S nc ns I J mt mk) : lw_N L i (eb_E L 11 253 392 [some (zr (0, 0, 0)), some (zr (1, 0, 0)), some (zr (21, 0, 0)), some (zi (nI i))] [] (nc, ns, I, J, eb_RL C mt mk)) := by
  obtain ⟨hi, hL, ok, hX, hM⟩ := h
  obtain ⟨nc', ns', I1, J1, C1, I2, J2, mt', mk', a1, a2, a3, a4⟩ := lw_both (L := L) (D := 11) (as := [zi (I (0, 0, 0) (i + 1)), zi (I (0, 0, 0) (i + 2)), zi (I (0, 0, 0) (i + 3)), zi (I (0, 0, 0) (i + 4)), zi (I (0, 0, 0) (i + 5))]) (C := C) (xf_copy (d := 7) ok) (mf_copy (d := 7) ok) (St_copy ok) hX hM
  refine ⟨_, nc', ns', I2, J2, C1, mt', mk', ?_, a4⟩
  simp (decide := true) (disch := omega) only [e253_392, e253_393, e253_394, e253_395, e253_396, e253_397, e253_398, e253_399, e253_400, e253_401, e253_402, e253_403, e253_404, e253_405, e253_406, e253_407, e253_408, e253_409, e253_410, e253_411, e253_412, e253_413, e253_414, e253_415, e253_416, e253_417, e253_418, e253_421, e253_422, e253_423, e253_424, e253_425, e253_426, e253_427, e253_428, e253_429, e253_430, e253_431, e253_432, e253_433, e253_434, e253_435, e253_436, e253_437, e253_438, e253_439, e253_440, e253_441, e253_442, e253_443, e253_444, e253_445, e253_446, e253_447, e253_450, e253_453, e253_454, bi_s, ↓reduceIte, Option.bind_some, true_and, and_true, eq_self, ty0, lcmp_s, nI_c1, nI_cl_b, eb_in_b, a1, a2, a3]
theorem lw_c3 (h : lw_I L i S nc ns I J mt mk) : lw_N L i (eb_E L 11 253 455 [some (zr (0, 0, 0)), some (zr (1, 0, 0)), some (zr (21, 0, 0)), some (zi (nI i))] [] (nc, ns, I, J, eb_RL C mt mk)) := by
  obtain ⟨hi, hL, ok, hX, hM⟩ := h
  obtain ⟨nc', ns', I1, J1, C1, I2, J2, mt', mk', a1, a2, a3, a4⟩ := lw_both (L := L) (D := 11) (as := [zi (I (0, 0, 0) (i + 1)), zi (I (0, 0, 0) (i + 2))]) (C := C) (xf_element (d := 7) ok) (mf_element (d := 7) ok) ok hX hM
  refine ⟨_, nc', ns', I2, J2, C1, mt', mk', ?_, a4⟩
  simp (decide := true) (disch := omega) only [e253_455, e253_456, e253_457, e253_458, e253_459, e253_460, e253_461, e253_462, e253_463, e253_464, e253_465, e253_466, e253_469, e253_470, e253_471, e253_472, e253_473, e253_474, e253_475, e253_476, e253_477, e253_478, e253_479, e253_480, e253_483, e253_484, e253_487, e253_488, bi_s, ↓reduceIte, Option.bind_some, true_and, and_true, eq_self, ty0, lcmp_s, nI_c1, nI_cl_b, eb_in_b, a1, a2, a3]
theorem lw_c4 (h : lw_I L i S nc ns I J mt mk) : lw_N L i (eb_E L 11 253 489 [some (zr (0, 0, 0)), some (zr (1, 0, 0)), some (zr (21, 0, 0)), some (zi (nI i))] [] (nc, ns, I, J, eb_RL C mt mk)) := by
  obtain ⟨hi, hL, ok, hX, hM⟩ := h
  obtain ⟨nc', ns', I1, J1, C1, I2, J2, mt', mk', a1, a2, a3, a4⟩ := lw_both (L := L) (D := 11) (as := [zi (I (0, 0, 0) (i + 1))]) (C := C) (xf_holds (d := 7) ok) (mf_holds (d := 7) ok) (St_holds ok) hX hM
  refine ⟨_, nc', ns', I2, J2, C1, mt', mk', ?_, a4⟩
  simp (decide := true) (disch := omega) only [e253_489, e253_490, e253_491, e253_492, e253_493, e253_494, e253_495, e253_498, e253_499, e253_500, e253_501, e253_502, e253_503, e253_504, e253_507, e253_510, e253_511, bi_s, ↓reduceIte, Option.bind_some, true_and, and_true, eq_self, ty0, lcmp_s, nI_c1, nI_cl_b, eb_in_b, a1, a2, a3]
theorem lw_c5 (h : lw_I L i S nc ns I J mt mk) : lw_N L i (eb_E L 11 253 512 [some (zr (0, 0, 0)), some (zr (1, 0, 0)), some (zr (21, 0, 0)), some (zi (nI i))] [] (nc, ns, I, J, eb_RL C mt mk)) := by
  obtain ⟨hi, hL, ok, hX, hM⟩ := h
  obtain ⟨nc', ns', I1, J1, C1, I2, J2, mt', mk', a1, a2, a3, a4⟩ := lw_both (L := L) (D := 11) (as := [zi (I (0, 0, 0) (i + 1)), zi (I (0, 0, 0) (i + 2))]) (C := C) (xf_show (d := 6) ok) (mf_show (d := 6) ok) (St_show ok) hX hM
  refine ⟨_, nc', ns', I2, J2, C1, mt', mk', ?_, a4⟩
  simp (decide := true) (disch := omega) only [e253_512, e253_513, e253_514, e253_515, e253_516, e253_517, e253_518, e253_519, e253_520, e253_521, e253_522, e253_523, e253_526, e253_527, e253_528, e253_529, e253_530, e253_531, e253_532, e253_533, e253_534, e253_535, e253_536, e253_537, e253_540, e253_543, e253_544, bi_s, ↓reduceIte, Option.bind_some, true_and, and_true, eq_self, ty0, lcmp_s, nI_c1, nI_cl_b, eb_in_b, a1, a2, a3]
theorem lw_c6 (h : lw_I L i S nc ns I J mt mk) : lw_N L i (eb_E L 11 253 545 [some (zr (0, 0, 0)), some (zr (1, 0, 0)), some (zr (21, 0, 0)), some (zi (nI i))] [] (nc, ns, I, J, eb_RL C mt mk)) := by
  obtain ⟨hi, hL, ok, hX, hM⟩ := h
  obtain ⟨nc', ns', I1, J1, C1, I2, J2, mt', mk', a1, a2, a3, a4⟩ := lw_both (L := L) (D := 11) (as := [zi (I (0, 0, 0) (i + 1)), zi (I (0, 0, 0) (i + 2))]) (C := C) (xf_says (d := 6) ok) (mf_says (d := 6) ok) (St_says ok) hX hM
  refine ⟨_, nc', ns', I2, J2, C1, mt', mk', ?_, a4⟩
  simp (decide := true) (disch := omega) only [e253_545, e253_546, e253_547, e253_548, e253_549, e253_550, e253_551, e253_552, e253_553, e253_554, e253_555, e253_556, e253_559, e253_560, e253_561, e253_562, e253_563, e253_564, e253_565, e253_566, e253_567, e253_568, e253_569, e253_570, e253_573, e253_576, e253_577, bi_s, ↓reduceIte, Option.bind_some, true_and, and_true, eq_self, ty0, lcmp_s, nI_c1, nI_cl_b, eb_in_b, a1, a2, a3]
theorem lw_c7 (h : lw_I L i S nc ns I J mt mk) : lw_N L i (eb_E L 11 253 578 [some (zr (0, 0, 0)), some (zr (1, 0, 0)), some (zr (21, 0, 0)), some (zi (nI i))] [] (nc, ns, I, J, eb_RL C mt mk)) := by
  obtain ⟨hi, hL, ok, hX, hM⟩ := h
  obtain ⟨nc', ns', I1, J1, C1, I2, J2, mt', mk', a1, a2, a3, a4⟩ := lw_both (L := L) (D := 11) (as := [zi (I (0, 0, 0) (i + 1)), zi (I (0, 0, 0) (i + 2)), zi (I (0, 0, 0) (i + 3))]) (C := C) (xf_inn (d := 6) ok) (mf_inn (d := 6) ok) (St_inn ok) hX hM
  refine ⟨_, nc', ns', I2, J2, C1, mt', mk', ?_, a4⟩
  simp (decide := true) (disch := omega) only [e253_578, e253_579, e253_580, e253_581, e253_582, e253_583, e253_584, e253_585, e253_586, e253_587, e253_588, e253_589, e253_590, e253_591, e253_592, e253_593, e253_594, e253_597, e253_598, e253_599, e253_600, e253_601, e253_602, e253_603, e253_604, e253_605, e253_606, e253_607, e253_608, e253_609, e253_610, e253_611, e253_612, e253_613, e253_616, e253_619, e253_620, bi_s, ↓reduceIte, Option.bind_some, true_and, and_true, eq_self, ty0, lcmp_s, nI_c1, nI_cl_b, eb_in_b, a1, a2, a3]
theorem lw_c8 (h : lw_I L i S nc ns I J mt mk) : lw_N L i (eb_E L 11 253 621 [some (zr (0, 0, 0)), some (zr (1, 0, 0)), some (zr (21, 0, 0)), some (zi (nI i))] [] (nc, ns, I, J, eb_RL C mt mk)) := by
  obtain ⟨hi, hL, ok, hX, hM⟩ := h
  obtain ⟨nc', ns', I1, J1, C1, I2, J2, mt', mk', a1, a2, a3, a4⟩ := lw_both (L := L) (D := 11) (as := [zi (I (0, 0, 0) (i + 1)), zi (I (0, 0, 0) (i + 2)), zi (I (0, 0, 0) (i + 3))]) (C := C) (xf_goer (d := 6) ok) (mf_goer (d := 6) ok) (St_goer ok) hX hM
  refine ⟨_, nc', ns', I2, J2, C1, mt', mk', ?_, a4⟩
  simp (decide := true) (disch := omega) only [e253_621, e253_622, e253_623, e253_624, e253_625, e253_626, e253_627, e253_628, e253_629, e253_630, e253_631, e253_632, e253_633, e253_634, e253_635, e253_636, e253_637, e253_640, e253_641, e253_642, e253_643, e253_644, e253_645, e253_646, e253_647, e253_648, e253_649, e253_650, e253_651, e253_652, e253_653, e253_654, e253_655, e253_656, e253_659, e253_662, e253_663, bi_s, ↓reduceIte, Option.bind_some, true_and, and_true, eq_self, ty0, lcmp_s, nI_c1, nI_cl_b, eb_in_b, a1, a2, a3]
theorem lw_c9 (h : lw_I L i S nc ns I J mt mk) : lw_N L i (eb_E L 11 253 664 [some (zr (0, 0, 0)), some (zr (1, 0, 0)), some (zr (21, 0, 0)), some (zi (nI i))] [] (nc, ns, I, J, eb_RL C mt mk)) := by
  obtain ⟨hi, hL, ok, hX, hM⟩ := h
  obtain ⟨nc', ns', I1, J1, C1, I2, J2, mt', mk', a1, a2, a3, a4⟩ := lw_both (L := L) (D := 11) (as := [zi (I (0, 0, 0) (i + 1)), zi (I (0, 0, 0) (i + 2)), zi (I (0, 0, 0) (i + 3))]) (C := C) (xf_change (d := 6) ok) (mf_change (d := 6) ok) (St_change ok) hX hM
  refine ⟨_, nc', ns', I2, J2, C1, mt', mk', ?_, a4⟩
  simp (decide := true) (disch := omega) only [e253_664, e253_665, e253_666, e253_667, e253_668, e253_669, e253_670, e253_671, e253_672, e253_673, e253_674, e253_675, e253_676, e253_677, e253_678, e253_679, e253_680, e253_683, e253_684, e253_685, e253_686, e253_687, e253_688, e253_689, e253_690, e253_691, e253_692, e253_693, e253_694, e253_695, e253_696, e253_697, e253_698, e253_699, e253_702, e253_705, e253_706, bi_s, ↓reduceIte, Option.bind_some, true_and, and_true, eq_self, ty0, lcmp_s, nI_c1, nI_cl_b, eb_in_b, a1, a2, a3]
theorem lw_c10 (h : lw_I L i S nc ns I J mt mk) : lw_N L i (eb_E L 11 253 707 [some (zr (0, 0, 0)), some (zr (1, 0, 0)), some (zr (21, 0, 0)), some (zi (nI i))] [] (nc, ns, I, J, eb_RL C mt mk)) := by
  obtain ⟨hi, hL, ok, hX, hM⟩ := h
  obtain ⟨nc', ns', I1, J1, C1, I2, J2, mt', mk', a1, a2, a3, a4⟩ := lw_both (L := L) (D := 11) (as := [zi (I (0, 0, 0) (i + 1)), zi (I (0, 0, 0) (i + 2))]) (C := C) (xf_say (d := 6) ok) (mf_say (d := 6) ok) (St_say ok) hX hM
  refine ⟨_, nc', ns', I2, J2, C1, mt', mk', ?_, a4⟩
  simp (decide := true) (disch := omega) only [e253_707, e253_708, e253_709, e253_710, e253_711, e253_712, e253_713, e253_714, e253_715, e253_716, e253_717, e253_718, e253_721, e253_722, e253_723, e253_724, e253_725, e253_726, e253_727, e253_728, e253_729, e253_730, e253_731, e253_732, e253_735, e253_738, e253_739, bi_s, ↓reduceIte, Option.bind_some, true_and, and_true, eq_self, ty0, lcmp_s, nI_c1, nI_cl_b, eb_in_b, a1, a2, a3]
theorem lw_c11 (h : lw_I L i S nc ns I J mt mk) : lw_N L i (eb_E L 11 253 740 [some (zr (0, 0, 0)), some (zr (1, 0, 0)), some (zr (21, 0, 0)), some (zi (nI i))] [] (nc, ns, I, J, eb_RL C mt mk)) := by
  obtain ⟨hi, hL, ok, hX, hM⟩ := h
  obtain ⟨nc', ns', I1, J1, C1, I2, J2, mt', mk', a1, a2, a3, a4⟩ := lw_both (L := L) (D := 11) (as := [zi (I (0, 0, 0) (i + 1))]) (C := C) (xf_write (d := 6) ok) (mf_write (d := 6) ok) (St_write ok) hX hM
  refine ⟨_, nc', ns', I2, J2, C1, mt', mk', ?_, a4⟩
  simp (decide := true) (disch := omega) only [e253_740, e253_741, e253_742, e253_743, e253_744, e253_745, e253_746, e253_749, e253_750, e253_751, e253_752, e253_753, e253_754, e253_755, e253_758, e253_761, e253_762, bi_s, ↓reduceIte, Option.bind_some, true_and, and_true, eq_self, ty0, lcmp_s, nI_c1, nI_cl_b, eb_in_b, a1, a2, a3]
theorem lw_c12 (h : lw_I L i S nc ns I J mt mk) : lw_N L i (eb_E L 11 253 763 [some (zr (0, 0, 0)), some (zr (1, 0, 0)), some (zr (21, 0, 0)), some (zi (nI i))] [] (nc, ns, I, J, eb_RL C mt mk)) := by
  obtain ⟨hi, hL, ok, hX, hM⟩ := h
  obtain ⟨nc', ns', I1, J1, C1, I2, J2, mt', mk', a1, a2, a3, a4⟩ := lw_both (L := L) (D := 11) (as := [zi (I (0, 0, 0) (i + 1)), zi (I (0, 0, 0) (i + 2))]) (C := C) (xf_letter (d := 6) ok) (mf_letter (d := 6) ok) (St_letter ok) hX hM
  refine ⟨_, nc', ns', I2, J2, C1, mt', mk', ?_, a4⟩
  simp (decide := true) (disch := omega) only [e253_763, e253_764, e253_765, e253_766, e253_767, e253_768, e253_769, e253_770, e253_771, e253_772, e253_773, e253_774, e253_777, e253_778, e253_779, e253_780, e253_781, e253_782, e253_783, e253_784, e253_785, e253_786, e253_787, e253_788, e253_791, e253_794, e253_795, bi_s, ↓reduceIte, Option.bind_some, true_and, and_true, eq_self, ty0, lcmp_s, nI_c1, nI_cl_b, eb_in_b, a1, a2, a3]
theorem lw_c13 (h : lw_I L i S nc ns I J mt mk) : lw_N L i (eb_E L 11 253 796 [some (zr (0, 0, 0)), some (zr (1, 0, 0)), some (zr (21, 0, 0)), some (zi (nI i))] [] (nc, ns, I, J, eb_RL C mt mk)) := by
  obtain ⟨hi, hL, ok, hX, hM⟩ := h
  obtain ⟨nc', ns', I1, J1, C1, I2, J2, mt', mk', a1, a2, a3, a4⟩ := lw_both (L := L) (D := 11) (as := [zi (I (0, 0, 0) (i + 1))]) (C := C) (xf_age (d := 6) ok) (mf_age (d := 6) ok) (St_age ok) hX hM
  refine ⟨_, nc', ns', I2, J2, C1, mt', mk', ?_, a4⟩
  simp (decide := true) (disch := omega) only [e253_796, e253_797, e253_798, e253_799, e253_800, e253_801, e253_802, e253_805, e253_806, e253_807, e253_808, e253_809, e253_810, e253_811, e253_814, e253_817, e253_818, bi_s, ↓reduceIte, Option.bind_some, true_and, and_true, eq_self, ty0, lcmp_s, nI_c1, nI_cl_b, eb_in_b, a1, a2, a3]
theorem lw_c14 (h : lw_I L i S nc ns I J mt mk) : lw_N L i (eb_E L 11 253 819 [some (zr (0, 0, 0)), some (zr (1, 0, 0)), some (zr (21, 0, 0)), some (zi (nI i))] [] (nc, ns, I, J, eb_RL C mt mk)) := by
  obtain ⟨hi, hL, ok, hX, hM⟩ := h
  obtain ⟨nc', ns', I1, J1, C1, I2, J2, mt', mk', a1, a2, a3, a4⟩ := lw_both (L := L) (D := 11) (as := [zi (I (0, 0, 0) (i + 1)), zi (I (0, 0, 0) (i + 2))]) (C := C) (xf_heads (d := 6) ok) (mf_heads (d := 6) ok) (St_heads ok) hX hM
  refine ⟨_, nc', ns', I2, J2, C1, mt', mk', ?_, a4⟩
  simp (decide := true) (disch := omega) only [e253_819, e253_820, e253_821, e253_822, e253_823, e253_824, e253_825, e253_826, e253_827, e253_828, e253_829, e253_830, e253_833, e253_834, e253_835, e253_836, e253_837, e253_838, e253_839, e253_840, e253_841, e253_842, e253_843, e253_844, e253_847, e253_850, e253_851, bi_s, ↓reduceIte, Option.bind_some, true_and, and_true, eq_self, ty0, lcmp_s, nI_c1, nI_cl_b, eb_in_b, a1, a2, a3]
theorem lw_c15 (h : lw_I L i S nc ns I J mt mk) : lw_N L i (eb_E L 11 253 852 [some (zr (0, 0, 0)), some (zr (1, 0, 0)), some (zr (21, 0, 0)), some (zi (nI i))] [] (nc, ns, I, J, eb_RL C mt mk)) := by
  obtain ⟨hi, hL, ok, hX, hM⟩ := h
  obtain ⟨nc', ns', I1, J1, C1, I2, J2, mt', mk', a1, a2, a3, a4⟩ := lw_both (L := L) (D := 11) (as := [zi (I (0, 0, 0) (i + 1))]) (C := C) (xf_feed (d := 6) ok) (mf_feed (d := 6) ok) (St_feed ok) hX hM
  refine ⟨_, nc', ns', I2, J2, C1, mt', mk', ?_, a4⟩
  simp (decide := true) (disch := omega) only [e253_852, e253_853, e253_854, e253_855, e253_856, e253_857, e253_858, e253_861, e253_862, e253_863, e253_864, e253_865, e253_866, e253_867, e253_870, e253_873, e253_874, bi_s, ↓reduceIte, Option.bind_some, true_and, and_true, eq_self, ty0, lcmp_s, nI_c1, nI_cl_b, eb_in_b, a1, a2, a3]
theorem lw_c16 (h : lw_I L i S nc ns I J mt mk) : lw_N L i (eb_E L 11 253 875 [some (zr (0, 0, 0)), some (zr (1, 0, 0)), some (zr (21, 0, 0)), some (zi (nI i))] [] (nc, ns, I, J, eb_RL C mt mk)) := by
  obtain ⟨hi, hL, ok, hX, hM⟩ := h
  obtain ⟨nc', ns', I1, J1, C1, I2, J2, mt', mk', a1, a2, a3, a4⟩ := lw_both (L := L) (D := 11) (as := []) (C := C) (xf_wipe (d := 6) ok) (mf_wipe (d := 6) ok) (St_wipe ok) hX hM
  refine ⟨_, nc', ns', I2, J2, C1, mt', mk', ?_, a4⟩
  simp (decide := true) (disch := omega) only [e253_875, e253_876, e253_879, e253_880, e253_883, e253_886, e253_887, bi_s, ↓reduceIte, Option.bind_some, true_and, and_true, eq_self, ty0, lcmp_s, nI_c1, nI_cl_b, eb_in_b, a1, a2, a3]
theorem lw_c17 (h : lw_I L i S nc ns I J mt mk) : lw_N L i (eb_E L 11 253 888 [some (zr (0, 0, 0)), some (zr (1, 0, 0)), some (zr (21, 0, 0)), some (zi (nI i))] [] (nc, ns, I, J, eb_RL C mt mk)) := by
  obtain ⟨hi, hL, ok, hX, hM⟩ := h
  obtain ⟨nc', ns', I1, J1, C1, I2, J2, mt', mk', a1, a2, a3, a4⟩ := lw_both (L := L) (D := 11) (as := []) (C := C) (xf_valley (d := 1) ok) (mf_valley (d := 1) ok) (St_valley ok) hX hM
  refine ⟨_, nc', ns', I2, J2, C1, mt', mk', ?_, a4⟩
  simp (decide := true) (disch := omega) only [e253_888, e253_889, e253_892, e253_893, e253_896, e253_899, e253_900, bi_s, ↓reduceIte, Option.bind_some, true_and, and_true, eq_self, ty0, lcmp_s, nI_c1, nI_cl_b, eb_in_b, a1, a2, a3]
theorem lw_c18 (h : lw_I L i S nc ns I J mt mk) : lw_N L i (eb_E L 11 253 901 [some (zr (0, 0, 0)), some (zr (1, 0, 0)), some (zr (21, 0, 0)), some (zi (nI i))] [] (nc, ns, I, J, eb_RL C mt mk)) := by
  obtain ⟨hi, hL, ok, hX, hM⟩ := h
  obtain ⟨nc', ns', I1, J1, C1, I2, J2, mt', mk', a1, a2, a3, a4⟩ := lw_both (L := L) (D := 11) (as := [zi (I (0, 0, 0) (i + 1)), zi (I (0, 0, 0) (i + 2))]) (C := C) (xf_innOf (d := 6) ok) (mf_innOf (d := 6) ok) (St_innOf ok) hX hM
  refine ⟨_, nc', ns', I2, J2, C1, mt', mk', ?_, a4⟩
  simp (decide := true) (disch := omega) only [e253_901, e253_902, e253_903, e253_904, e253_905, e253_906, e253_907, e253_908, e253_909, e253_910, e253_911, e253_912, e253_915, e253_916, e253_917, e253_918, e253_919, e253_920, e253_921, e253_922, e253_923, e253_924, e253_925, e253_926, e253_929, e253_932, e253_933, bi_s, ↓reduceIte, Option.bind_some, true_and, and_true, eq_self, ty0, lcmp_s, nI_c1, nI_cl_b, eb_in_b, a1, a2, a3]
theorem lw_c19 (h : lw_I L i S nc ns I J mt mk) : lw_N L i (eb_E L 11 253 934 [some (zr (0, 0, 0)), some (zr (1, 0, 0)), some (zr (21, 0, 0)), some (zi (nI i))] [] (nc, ns, I, J, eb_RL C mt mk)) := by
  obtain ⟨hi, hL, ok, hX, hM⟩ := h
  obtain ⟨nc', ns', I1, J1, C1, I2, J2, mt', mk', a1, a2, a3, a4⟩ := lw_both (L := L) (D := 11) (as := [zi (I (0, 0, 0) (i + 1)), zi (I (0, 0, 0) (i + 2))]) (C := C) (xf_goerOf (d := 6) ok) (mf_goerOf (d := 6) ok) (St_goerOf ok) hX hM
  refine ⟨_, nc', ns', I2, J2, C1, mt', mk', ?_, a4⟩
  simp (decide := true) (disch := omega) only [e253_934, e253_935, e253_936, e253_937, e253_938, e253_939, e253_940, e253_941, e253_942, e253_943, e253_944, e253_945, e253_948, e253_949, e253_950, e253_951, e253_952, e253_953, e253_954, e253_955, e253_956, e253_957, e253_958, e253_959, e253_962, e253_965, e253_966, bi_s, ↓reduceIte, Option.bind_some, true_and, and_true, eq_self, ty0, lcmp_s, nI_c1, nI_cl_b, eb_in_b, a1, a2, a3]
theorem lw_c20 (h : lw_I L i S nc ns I J mt mk) : lw_N L i (eb_E L 11 253 967 [some (zr (0, 0, 0)), some (zr (1, 0, 0)), some (zr (21, 0, 0)), some (zi (nI i))] [] (nc, ns, I, J, eb_RL C mt mk)) := by
  obtain ⟨hi, hL, ok, hX, hM⟩ := h
  obtain ⟨nc', ns', I1, J1, C1, I2, J2, mt', mk', a1, a2, a3, a4⟩ := lw_both (L := L) (D := 11) (as := [zi (I (0, 0, 0) (i + 1)), zi (I (0, 0, 0) (i + 2))]) (C := C) (xf_score (d := 6) ok) (mf_score (d := 6) ok) (St_score ok) hX hM
  refine ⟨_, nc', ns', I2, J2, C1, mt', mk', ?_, a4⟩
  simp (decide := true) (disch := omega) only [e253_967, e253_968, e253_969, e253_970, e253_971, e253_972, e253_973, e253_974, e253_975, e253_976, e253_977, e253_978, e253_981, e253_982, e253_983, e253_984, e253_985, e253_986, e253_987, e253_988, e253_989, e253_990, e253_991, e253_992, e253_995, e253_998, e253_999, bi_s, ↓reduceIte, Option.bind_some, true_and, and_true, eq_self, ty0, lcmp_s, nI_c1, nI_cl_b, eb_in_b, a1, a2, a3]
theorem lw_c21 (h : lw_I L i S nc ns I J mt mk) : lw_N L i (eb_E L 11 253 1000 [some (zr (0, 0, 0)), some (zr (1, 0, 0)), some (zr (21, 0, 0)), some (zi (nI i))] [] (nc, ns, I, J, eb_RL C mt mk)) := by
  obtain ⟨hi, hL, ok, hX, hM⟩ := h
  obtain ⟨nc', ns', I1, J1, C1, I2, J2, mt', mk', a1, a2, a3, a4⟩ := lw_both (L := L) (D := 11) (as := [zi (I (0, 0, 0) (i + 1)), zi (I (0, 0, 0) (i + 2))]) (C := C) (xf_sleeps (d := 4) ok) (mf_sleeps (d := 4) ok) (St_sleeps ok) hX hM
  refine ⟨_, nc', ns', I2, J2, C1, mt', mk', ?_, a4⟩
  simp (decide := true) (disch := omega) only [e253_1000, e253_1001, e253_1002, e253_1003, e253_1004, e253_1005, e253_1006, e253_1007, e253_1008, e253_1009, e253_1010, e253_1011, e253_1014, e253_1015, e253_1016, e253_1017, e253_1018, e253_1019, e253_1020, e253_1021, e253_1022, e253_1023, e253_1024, e253_1025, e253_1028, e253_1031, e253_1032, bi_s, ↓reduceIte, Option.bind_some, true_and, and_true, eq_self, ty0, lcmp_s, nI_c1, nI_cl_b, eb_in_b, a1, a2, a3]
theorem lw_c22 (h : lw_I L i S nc ns I J mt mk) : lw_N L i (eb_E L 11 253 1033 [some (zr (0, 0, 0)), some (zr (1, 0, 0)), some (zr (21, 0, 0)), some (zi (nI i))] [] (nc, ns, I, J, eb_RL C mt mk)) := by
  obtain ⟨hi, hL, ok, hX, hM⟩ := h
  obtain ⟨nc', ns', I1, J1, C1, I2, J2, mt', mk', a1, a2, a3, a4⟩ := lw_both (L := L) (D := 11) (as := [zi (I (0, 0, 0) (i + 1))]) (C := C) (xf_guests (d := 4) ok) (mf_guests (d := 4) ok) (St_guests ok) hX hM
  refine ⟨_, nc', ns', I2, J2, C1, mt', mk', ?_, a4⟩
  simp (decide := true) (disch := omega) only [e253_1033, e253_1034, e253_1035, e253_1036, e253_1037, e253_1038, e253_1039, e253_1042, e253_1043, e253_1044, e253_1045, e253_1046, e253_1047, e253_1048, e253_1051, e253_1054, e253_1055, bi_s, ↓reduceIte, Option.bind_some, true_and, and_true, eq_self, ty0, lcmp_s, nI_c1, nI_cl_b, eb_in_b, a1, a2, a3]
theorem lw_c23 (h : lw_I L i S nc ns I J mt mk) : lw_N L i (eb_E L 11 253 1056 [some (zr (0, 0, 0)), some (zr (1, 0, 0)), some (zr (21, 0, 0)), some (zi (nI i))] [] (nc, ns, I, J, eb_RL C mt mk)) := by
  obtain ⟨hi, hL, ok, hX, hM⟩ := h
  obtain ⟨nc', ns', I1, J1, C1, I2, J2, mt', mk', a1, a2, a3, a4⟩ := lw_both (L := L) (D := 11) (as := [zi (I (0, 0, 0) (i + 1))]) (C := C) (xf_out (d := 4) ok) (mf_out (d := 4) ok) (St_out ok) hX hM
  refine ⟨_, nc', ns', I2, J2, C1, mt', mk', ?_, a4⟩
  simp (decide := true) (disch := omega) only [e253_1056, e253_1057, e253_1058, e253_1059, e253_1060, e253_1061, e253_1062, e253_1065, e253_1066, e253_1067, e253_1068, e253_1069, e253_1070, e253_1071, e253_1074, e253_1077, e253_1078, bi_s, ↓reduceIte, Option.bind_some, true_and, and_true, eq_self, ty0, lcmp_s, nI_c1, nI_cl_b, eb_in_b, a1, a2, a3]
theorem lw_c24 (h : lw_I L i S nc ns I J mt mk) : lw_N L i (eb_E L 11 253 1079 [some (zr (0, 0, 0)), some (zr (1, 0, 0)), some (zr (21, 0, 0)), some (zi (nI i))] [] (nc, ns, I, J, eb_RL C mt mk)) := by
  obtain ⟨hi, hL, ok, hX, hM⟩ := h
  obtain ⟨nc', ns', I1, J1, C1, I2, J2, mt', mk', a1, a2, a3, a4⟩ := lw_both (L := L) (D := 11) (as := []) (C := C) (xf_full (d := 4) ok) (mf_full (d := 4) ok) (St_full ok) hX hM
  refine ⟨_, nc', ns', I2, J2, C1, mt', mk', ?_, a4⟩
  simp (decide := true) (disch := omega) only [e253_1079, e253_1080, e253_1083, e253_1084, e253_1087, e253_1090, e253_1091, bi_s, ↓reduceIte, Option.bind_some, true_and, and_true, eq_self, ty0, lcmp_s, nI_c1, nI_cl_b, eb_in_b, a1, a2, a3]
theorem lw_c25 (h : lw_I L i S nc ns I J mt mk) : lw_N L i (eb_E L 11 253 1092 [some (zr (0, 0, 0)), some (zr (1, 0, 0)), some (zr (21, 0, 0)), some (zi (nI i))] [] (nc, ns, I, J, eb_RL C mt mk)) := by
  obtain ⟨hi, hL, ok, hX, hM⟩ := h
  obtain ⟨nc', ns', I1, J1, C1, I2, J2, mt', mk', a1, a2, a3, a4⟩ := lw_both (L := L) (D := 11) (as := [zi (I (0, 0, 0) (i + 1))]) (C := C) (xf_joy (d := 4) ok) (mf_joy (d := 4) ok) (St_joy ok) hX hM
  refine ⟨_, nc', ns', I2, J2, C1, mt', mk', ?_, a4⟩
  simp (decide := true) (disch := omega) only [e253_1092, e253_1093, e253_1094, e253_1095, e253_1096, e253_1097, e253_1098, e253_1101, e253_1102, e253_1103, e253_1104, e253_1105, e253_1106, e253_1107, e253_1110, e253_1113, e253_1114, bi_s, ↓reduceIte, Option.bind_some, true_and, and_true, eq_self, ty0, lcmp_s, nI_c1, nI_cl_b, eb_in_b, a1, a2, a3]
theorem lw_c26 (h : lw_I L i S nc ns I J mt mk) : lw_N L i (eb_E L 11 253 1115 [some (zr (0, 0, 0)), some (zr (1, 0, 0)), some (zr (21, 0, 0)), some (zi (nI i))] [] (nc, ns, I, J, eb_RL C mt mk)) := by
  obtain ⟨hi, hL, ok, hX, hM⟩ := h
  obtain ⟨nc', ns', I1, J1, C1, I2, J2, mt', mk', a1, a2, a3, a4⟩ := lw_both (L := L) (D := 11) (as := [zi (I (0, 0, 0) (i + 1))]) (C := C) (xf_taken (d := 4) ok) (mf_taken (d := 4) ok) (St_taken ok) hX hM
  refine ⟨_, nc', ns', I2, J2, C1, mt', mk', ?_, a4⟩
  simp (decide := true) (disch := omega) only [e253_1115, e253_1116, e253_1117, e253_1118, e253_1119, e253_1120, e253_1121, e253_1124, e253_1125, e253_1126, e253_1127, e253_1128, e253_1129, e253_1130, e253_1133, e253_1136, e253_1137, bi_s, ↓reduceIte, Option.bind_some, true_and, and_true, eq_self, ty0, lcmp_s, nI_c1, nI_cl_b, eb_in_b, a1, a2, a3]
theorem lw_c27 (h : lw_I L i S nc ns I J mt mk) : lw_N L i (eb_E L 11 253 1138 [some (zr (0, 0, 0)), some (zr (1, 0, 0)), some (zr (21, 0, 0)), some (zi (nI i))] [] (nc, ns, I, J, eb_RL C mt mk)) := by
  obtain ⟨hi, hL, ok, hX, hM⟩ := h
  obtain ⟨nc', ns', I1, J1, C1, I2, J2, mt', mk', a1, a2, a3, a4⟩ := lw_both (L := L) (D := 11) (as := [zi (I (0, 0, 0) (i + 1))]) (C := C) (xf_crowd (d := 4) ok) (mf_crowd (d := 4) ok) (St_crowd ok) hX hM
  refine ⟨_, nc', ns', I2, J2, C1, mt', mk', ?_, a4⟩
  simp (decide := true) (disch := omega) only [e253_1138, e253_1139, e253_1140, e253_1141, e253_1142, e253_1143, e253_1144, e253_1147, e253_1148, e253_1149, e253_1150, e253_1151, e253_1152, e253_1153, e253_1156, e253_1159, e253_1160, bi_s, ↓reduceIte, Option.bind_some, true_and, and_true, eq_self, ty0, lcmp_s, nI_c1, nI_cl_b, eb_in_b, a1, a2, a3]
theorem lw_c28 (h : lw_I L i S nc ns I J mt mk) : lw_N L i (eb_E L 11 253 1161 [some (zr (0, 0, 0)), some (zr (1, 0, 0)), some (zr (21, 0, 0)), some (zi (nI i))] [] (nc, ns, I, J, eb_RL C mt mk)) := by
  obtain ⟨hi, hL, ok, hX, hM⟩ := h
  obtain ⟨nc', ns', I1, J1, C1, I2, J2, mt', mk', a1, a2, a3, a4⟩ := lw_both (L := L) (D := 11) (as := [zi (I (0, 0, 0) (i + 1))]) (C := C) (xf_lean (d := 4) ok) (mf_lean (d := 4) ok) (St_lean ok) hX hM
  refine ⟨_, nc', ns', I2, J2, C1, mt', mk', ?_, a4⟩
  simp (decide := true) (disch := omega) only [e253_1161, e253_1162, e253_1163, e253_1164, e253_1165, e253_1166, e253_1167, e253_1170, e253_1171, e253_1172, e253_1173, e253_1174, e253_1175, e253_1176, e253_1179, e253_1182, e253_1183, bi_s, ↓reduceIte, Option.bind_some, true_and, and_true, eq_self, ty0, lcmp_s, nI_c1, nI_cl_b, eb_in_b, a1, a2, a3]
theorem lw_c29 (h : lw_I L i S nc ns I J mt mk) : lw_N L i (eb_E L 11 253 1184 [some (zr (0, 0, 0)), some (zr (1, 0, 0)), some (zr (21, 0, 0)), some (zi (nI i))] [] (nc, ns, I, J, eb_RL C mt mk)) := by
  obtain ⟨hi, hL, ok, hX, hM⟩ := h
  obtain ⟨nc', ns', I1, J1, C1, I2, J2, mt', mk', a1, a2, a3, a4⟩ := lw_both (L := L) (D := 11) (as := []) (C := C) (xf_truest (d := 4) ok) (mf_truest (d := 4) ok) (St_truest ok) hX hM
  refine ⟨_, nc', ns', I2, J2, C1, mt', mk', ?_, a4⟩
  simp (decide := true) (disch := omega) only [e253_1184, e253_1185, e253_1188, e253_1189, e253_1192, e253_1195, e253_1196, bi_s, ↓reduceIte, Option.bind_some, true_and, and_true, eq_self, ty0, lcmp_s, nI_c1, nI_cl_b, eb_in_b, a1, a2, a3]
theorem lw_c30 (h : lw_I L i S nc ns I J mt mk) : lw_N L i (eb_E L 11 253 1197 [some (zr (0, 0, 0)), some (zr (1, 0, 0)), some (zr (21, 0, 0)), some (zi (nI i))] [] (nc, ns, I, J, eb_RL C mt mk)) := by
  obtain ⟨hi, hL, ok, hX, hM⟩ := h
  obtain ⟨nc', ns', I1, J1, C1, I2, J2, mt', mk', a1, a2, a3, a4⟩ := lw_both (L := L) (D := 11) (as := []) (C := C) (xf_oldest (d := 4) ok) (mf_oldest (d := 4) ok) (St_oldest ok) hX hM
  refine ⟨_, nc', ns', I2, J2, C1, mt', mk', ?_, a4⟩
  simp (decide := true) (disch := omega) only [e253_1197, e253_1198, e253_1201, e253_1202, e253_1205, e253_1208, e253_1209, bi_s, ↓reduceIte, Option.bind_some, true_and, and_true, eq_self, ty0, lcmp_s, nI_c1, nI_cl_b, eb_in_b, a1, a2, a3]
theorem lw_c31 (h : lw_I L i S nc ns I J mt mk) : lw_N L i (eb_E L 11 253 1210 [some (zr (0, 0, 0)), some (zr (1, 0, 0)), some (zr (21, 0, 0)), some (zi (nI i))] [] (nc, ns, I, J, eb_RL C mt mk)) := by
  obtain ⟨hi, hL, ok, hX, hM⟩ := h
  obtain ⟨nc', ns', I1, J1, C1, I2, J2, mt', mk', a1, a2, a3, a4⟩ := lw_both (L := L) (D := 11) (as := [zi (I (0, 0, 0) (i + 1))]) (C := C) (xf_enough (d := 4) ok) (mf_enough (d := 4) ok) (St_enough ok) hX hM
  refine ⟨_, nc', ns', I2, J2, C1, mt', mk', ?_, a4⟩
  simp (decide := true) (disch := omega) only [e253_1210, e253_1211, e253_1212, e253_1213, e253_1214, e253_1215, e253_1216, e253_1219, e253_1220, e253_1221, e253_1222, e253_1223, e253_1224, e253_1225, e253_1228, e253_1231, e253_1232, bi_s, ↓reduceIte, Option.bind_some, true_and, and_true, eq_self, ty0, lcmp_s, nI_c1, nI_cl_b, eb_in_b, a1, a2, a3]
theorem lw_c32 (h : lw_I L i S nc ns I J mt mk) : lw_N L i (eb_E L 11 253 1233 [some (zr (0, 0, 0)), some (zr (1, 0, 0)), some (zr (21, 0, 0)), some (zi (nI i))] [] (nc, ns, I, J, eb_RL C mt mk)) := by
  obtain ⟨hi, hL, ok, hX, hM⟩ := h
  obtain ⟨nc', ns', I1, J1, C1, I2, J2, mt', mk', a1, a2, a3, a4⟩ := lw_both (L := L) (D := 11) (as := [zi (I (0, 0, 0) (i + 1))]) (C := C) (xf_better (d := 4) ok) (mf_better (d := 4) ok) (St_better ok) hX hM
  refine ⟨_, nc', ns', I2, J2, C1, mt', mk', ?_, a4⟩
  simp (decide := true) (disch := omega) only [e253_1233, e253_1234, e253_1235, e253_1236, e253_1237, e253_1238, e253_1239, e253_1242, e253_1243, e253_1244, e253_1245, e253_1246, e253_1247, e253_1248, e253_1251, e253_1254, e253_1255, bi_s, ↓reduceIte, Option.bind_some, true_and, and_true, eq_self, ty0, lcmp_s, nI_c1, nI_cl_b, eb_in_b, a1, a2, a3]
theorem lw_c33 (h : lw_I L i S nc ns I J mt mk) : lw_N L i (eb_E L 11 253 1256 [some (zr (0, 0, 0)), some (zr (1, 0, 0)), some (zr (21, 0, 0)), some (zi (nI i))] [] (nc, ns, I, J, eb_RL C mt mk)) := by
  obtain ⟨hi, hL, ok, hX, hM⟩ := h
  obtain ⟨nc', ns', I1, J1, C1, I2, J2, mt', mk', a1, a2, a3, a4⟩ := lw_both (L := L) (D := 11) (as := [zi (I (0, 0, 0) (i + 1))]) (C := C) (xf_trust (d := 4) ok) (mf_trust (d := 4) ok) (St_trust ok) hX hM
  refine ⟨_, nc', ns', I2, J2, C1, mt', mk', ?_, a4⟩
  simp (decide := true) (disch := omega) only [e253_1256, e253_1257, e253_1258, e253_1259, e253_1260, e253_1261, e253_1262, e253_1265, e253_1266, e253_1267, e253_1268, e253_1269, e253_1270, e253_1271, e253_1274, e253_1277, e253_1278, bi_s, ↓reduceIte, Option.bind_some, true_and, and_true, eq_self, ty0, lcmp_s, nI_c1, nI_cl_b, eb_in_b, a1, a2, a3]
theorem lw_c34 (h : lw_I L i S nc ns I J mt mk) : lw_N L i (eb_E L 11 253 1279 [some (zr (0, 0, 0)), some (zr (1, 0, 0)), some (zr (21, 0, 0)), some (zi (nI i))] [] (nc, ns, I, J, eb_RL C mt mk)) := by
  obtain ⟨hi, hL, ok, hX, hM⟩ := h
  obtain ⟨nc', ns', I1, J1, C1, I2, J2, mt', mk', a1, a2, a3, a4⟩ := lw_both (L := L) (D := 11) (as := [zi (I (0, 0, 0) (i + 1))]) (C := C) (xf_share (d := 4) ok) (mf_share (d := 4) ok) (St_share ok) hX hM
  refine ⟨_, nc', ns', I2, J2, C1, mt', mk', ?_, a4⟩
  simp (decide := true) (disch := omega) only [e253_1279, e253_1280, e253_1281, e253_1282, e253_1283, e253_1284, e253_1285, e253_1288, e253_1289, e253_1290, e253_1291, e253_1292, e253_1293, e253_1294, e253_1297, e253_1300, e253_1301, bi_s, ↓reduceIte, Option.bind_some, true_and, and_true, eq_self, ty0, lcmp_s, nI_c1, nI_cl_b, eb_in_b, a1, a2, a3]
theorem lw_c35 (h : lw_I L i S nc ns I J mt mk) : lw_N L i (eb_E L 11 253 1302 [some (zr (0, 0, 0)), some (zr (1, 0, 0)), some (zr (21, 0, 0)), some (zi (nI i))] [] (nc, ns, I, J, eb_RL C mt mk)) := by
  obtain ⟨hi, hL, ok, hX, hM⟩ := h
  obtain ⟨nc', ns', I1, J1, C1, I2, J2, mt', mk', a1, a2, a3, a4⟩ := lw_both (L := L) (D := 11) (as := [zi (I (0, 0, 0) (i + 1)), zi (I (0, 0, 0) (i + 2)), zi (I (0, 0, 0) (i + 3))]) (C := C) (xf_nine (d := 4) ok) (mf_nine (d := 4) ok) (St_nine ok) hX hM
  refine ⟨_, nc', ns', I2, J2, C1, mt', mk', ?_, a4⟩
  simp (decide := true) (disch := omega) only [e253_1302, e253_1303, e253_1304, e253_1305, e253_1306, e253_1307, e253_1308, e253_1309, e253_1310, e253_1311, e253_1312, e253_1313, e253_1314, e253_1315, e253_1316, e253_1317, e253_1318, e253_1321, e253_1322, e253_1323, e253_1324, e253_1325, e253_1326, e253_1327, e253_1328, e253_1329, e253_1330, e253_1331, e253_1332, e253_1333, e253_1334, e253_1335, e253_1336, e253_1337, e253_1340, e253_1343, e253_1344, bi_s, ↓reduceIte, Option.bind_some, true_and, and_true, eq_self, ty0, lcmp_s, nI_c1, nI_cl_b, eb_in_b, a1, a2, a3]
theorem lw_c36 (h : lw_I L i S nc ns I J mt mk) : lw_N L i (eb_E L 11 253 1345 [some (zr (0, 0, 0)), some (zr (1, 0, 0)), some (zr (21, 0, 0)), some (zi (nI i))] [] (nc, ns, I, J, eb_RL C mt mk)) := by
  obtain ⟨hi, hL, ok, hX, hM⟩ := h
  obtain ⟨nc', ns', I1, J1, C1, I2, J2, mt', mk', a1, a2, a3, a4⟩ := lw_both (L := L) (D := 11) (as := [zi (I (0, 0, 0) (i + 1)), zi (I (0, 0, 0) (i + 2))]) (C := C) (xf_two (d := 4) ok) (mf_two (d := 3) ok) (St_two ok) hX hM
  refine ⟨_, nc', ns', I2, J2, C1, mt', mk', ?_, a4⟩
  simp (decide := true) (disch := omega) only [e253_1345, e253_1346, e253_1347, e253_1348, e253_1349, e253_1350, e253_1351, e253_1352, e253_1353, e253_1354, e253_1355, e253_1356, e253_1359, e253_1360, e253_1361, e253_1362, e253_1363, e253_1364, e253_1365, e253_1366, e253_1367, e253_1368, e253_1369, e253_1370, e253_1373, e253_1376, e253_1377, bi_s, ↓reduceIte, Option.bind_some, true_and, and_true, eq_self, ty0, lcmp_s, nI_c1, nI_cl_b, eb_in_b, a1, a2, a3]
theorem lw_c37 (h : lw_I L i S nc ns I J mt mk) : lw_N L i (eb_E L 11 253 1378 [some (zr (0, 0, 0)), some (zr (1, 0, 0)), some (zr (21, 0, 0)), some (zi (nI i))] [] (nc, ns, I, J, eb_RL C mt mk)) := by
  obtain ⟨hi, hL, ok, hX, hM⟩ := h
  obtain ⟨nc', ns', I1, J1, C1, I2, J2, mt', mk', a1, a2, a3, a4⟩ := lw_both (L := L) (D := 11) (as := [zi (I (0, 0, 0) (i + 1))]) (C := C) (xf_judge (d := 4) ok) (mf_judge (d := 4) ok) (St_judge ok) hX hM
  refine ⟨_, nc', ns', I2, J2, C1, mt', mk', ?_, a4⟩
  simp (decide := true) (disch := omega) only [e253_1378, e253_1379, e253_1380, e253_1381, e253_1382, e253_1383, e253_1384, e253_1387, e253_1388, e253_1389, e253_1390, e253_1391, e253_1392, e253_1393, e253_1396, e253_1399, e253_1400, bi_s, ↓reduceIte, Option.bind_some, true_and, and_true, eq_self, ty0, lcmp_s, nI_c1, nI_cl_b, eb_in_b, a1, a2, a3]
theorem lw_c38 (h : lw_I L i S nc ns I J mt mk) : lw_N L i (eb_E L 11 253 1401 [some (zr (0, 0, 0)), some (zr (1, 0, 0)), some (zr (21, 0, 0)), some (zi (nI i))] [] (nc, ns, I, J, eb_RL C mt mk)) := by
  obtain ⟨hi, hL, ok, hX, hM⟩ := h
  obtain ⟨nc', ns', I1, J1, C1, I2, J2, mt', mk', a1, a2, a3, a4⟩ := lw_both (L := L) (D := 11) (as := [zi (I (0, 0, 0) (i + 1)), zi (I (0, 0, 0) (i + 2))]) (C := C) (xf_years (d := 3) ok) (mf_years (d := 3) ok) (St_years ok) hX hM
  refine ⟨_, nc', ns', I2, J2, C1, mt', mk', ?_, a4⟩
  simp (decide := true) (disch := omega) only [e253_1401, e253_1402, e253_1403, e253_1404, e253_1405, e253_1406, e253_1407, e253_1408, e253_1409, e253_1410, e253_1411, e253_1412, e253_1415, e253_1416, e253_1417, e253_1418, e253_1419, e253_1420, e253_1421, e253_1422, e253_1423, e253_1424, e253_1425, e253_1426, e253_1429, e253_1432, e253_1433, bi_s, ↓reduceIte, Option.bind_some, true_and, and_true, eq_self, ty0, lcmp_s, nI_c1, nI_cl_b, eb_in_b, a1, a2, a3]
theorem lw_c39 (h : lw_I L i S nc ns I J mt mk) : lw_N L i (eb_E L 11 253 1434 [some (zr (0, 0, 0)), some (zr (1, 0, 0)), some (zr (21, 0, 0)), some (zi (nI i))] [] (nc, ns, I, J, eb_RL C mt mk)) := by
  obtain ⟨hi, hL, ok, hX, hM⟩ := h
  obtain ⟨nc', ns', I1, J1, C1, I2, J2, mt', mk', a1, a2, a3, a4⟩ := lw_both (L := L) (D := 11) (as := [zi (I (0, 0, 0) (i + 1)), zi (I (0, 0, 0) (i + 2)), zi (I (0, 0, 0) (i + 3))]) (C := C) (xf_then (d := 3) ok) (mf_then (d := 3) ok) (St_then ok) hX hM
  refine ⟨_, nc', ns', I2, J2, C1, mt', mk', ?_, a4⟩
  simp (decide := true) (disch := omega) only [e253_1434, e253_1435, e253_1436, e253_1437, e253_1438, e253_1439, e253_1440, e253_1441, e253_1442, e253_1443, e253_1444, e253_1445, e253_1446, e253_1447, e253_1448, e253_1449, e253_1450, e253_1453, e253_1454, e253_1455, e253_1456, e253_1457, e253_1458, e253_1459, e253_1460, e253_1461, e253_1462, e253_1463, e253_1464, e253_1465, e253_1466, e253_1467, e253_1468, e253_1469, e253_1472, e253_1475, e253_1476, bi_s, ↓reduceIte, Option.bind_some, true_and, and_true, eq_self, ty0, lcmp_s, nI_c1, nI_cl_b, eb_in_b, a1, a2, a3]
theorem lw_c40 (h : lw_I L i S nc ns I J mt mk) : lw_N L i (eb_E L 11 253 1477 [some (zr (0, 0, 0)), some (zr (1, 0, 0)), some (zr (21, 0, 0)), some (zi (nI i))] [] (nc, ns, I, J, eb_RL C mt mk)) := by
  obtain ⟨hi, hL, ok, hX, hM⟩ := h
  obtain ⟨nc', ns', I1, J1, C1, I2, J2, mt', mk', a1, a2, a3, a4⟩ := lw_both (L := L) (D := 11) (as := [zi (I (0, 0, 0) (i + 1)), zi (I (0, 0, 0) (i + 2))]) (C := C) (xf_book (d := 2) ok) (mf_book (d := 1) ok) (St_book ok) hX hM
  refine ⟨_, nc', ns', I2, J2, C1, mt', mk', ?_, a4⟩
  simp (decide := true) (disch := omega) only [e253_1477, e253_1478, e253_1479, e253_1480, e253_1481, e253_1482, e253_1483, e253_1484, e253_1485, e253_1486, e253_1487, e253_1488, e253_1491, e253_1492, e253_1493, e253_1494, e253_1495, e253_1496, e253_1497, e253_1498, e253_1499, e253_1500, e253_1501, e253_1502, e253_1505, e253_1508, e253_1509, bi_s, ↓reduceIte, Option.bind_some, true_and, and_true, eq_self, ty0, lcmp_s, nI_c1, nI_cl_b, eb_in_b, a1, a2, a3]
theorem lw_c41 (h : lw_I L i S nc ns I J mt mk) : lw_N L i (eb_E L 11 253 1510 [some (zr (0, 0, 0)), some (zr (1, 0, 0)), some (zr (21, 0, 0)), some (zi (nI i))] [] (nc, ns, I, J, eb_RL C mt mk)) := by
  obtain ⟨hi, hL, ok, hX, hM⟩ := h
  obtain ⟨nc', ns', I1, J1, C1, I2, J2, mt', mk', a1, a2, a3, a4⟩ := lw_both (L := L) (D := 11) (as := [zi (I (0, 0, 0) (i + 1)), zi (I (0, 0, 0) (i + 2))]) (C := C) (xf_written (d := 2) ok) (mf_written (d := 2) ok) (St_written ok) hX hM
  refine ⟨_, nc', ns', I2, J2, C1, mt', mk', ?_, a4⟩
  simp (decide := true) (disch := omega) only [e253_1510, e253_1511, e253_1512, e253_1513, e253_1514, e253_1515, e253_1516, e253_1517, e253_1518, e253_1519, e253_1520, e253_1521, e253_1524, e253_1525, e253_1526, e253_1527, e253_1528, e253_1529, e253_1530, e253_1531, e253_1532, e253_1533, e253_1534, e253_1535, e253_1538, e253_1541, e253_1542, bi_s, ↓reduceIte, Option.bind_some, true_and, and_true, eq_self, ty0, lcmp_s, nI_c1, nI_cl_b, eb_in_b, a1, a2, a3]
theorem lw_c42 (h : lw_I L i S nc ns I J mt mk) : lw_N L i (eb_E L 11 253 1543 [some (zr (0, 0, 0)), some (zr (1, 0, 0)), some (zr (21, 0, 0)), some (zi (nI i))] [] (nc, ns, I, J, eb_RL C mt mk)) := by
  obtain ⟨hi, hL, ok, hX, hM⟩ := h
  obtain ⟨nc', ns', I1, J1, C1, I2, J2, mt', mk', a1, a2, a3, a4⟩ := lw_both (L := L) (D := 11) (as := [zi (I (0, 0, 0) (i + 1))]) (C := C) (xf_many (d := 2) ok) (mf_many (d := 1) ok) (St_many ok) hX hM
  refine ⟨_, nc', ns', I2, J2, C1, mt', mk', ?_, a4⟩
  simp (decide := true) (disch := omega) only [e253_1543, e253_1544, e253_1545, e253_1546, e253_1547, e253_1548, e253_1549, e253_1552, e253_1553, e253_1554, e253_1555, e253_1556, e253_1557, e253_1558, e253_1561, e253_1564, e253_1565, bi_s, ↓reduceIte, Option.bind_some, true_and, and_true, eq_self, ty0, lcmp_s, nI_c1, nI_cl_b, eb_in_b, a1, a2, a3]
theorem lw_c43 (h : lw_I L i S nc ns I J mt mk) : lw_N L i (eb_E L 11 253 1566 [some (zr (0, 0, 0)), some (zr (1, 0, 0)), some (zr (21, 0, 0)), some (zi (nI i))] [] (nc, ns, I, J, eb_RL C mt mk)) := by
  obtain ⟨hi, hL, ok, hX, hM⟩ := h
  obtain ⟨nc', ns', I1, J1, C1, I2, J2, mt', mk', a1, a2, a3, a4⟩ := lw_both (L := L) (D := 11) (as := [zi (I (0, 0, 0) (i + 1)), zi (I (0, 0, 0) (i + 2))]) (C := C) (xf_round (d := 2) ok) (mf_round (d := 1) ok) (St_round ok) hX hM
  refine ⟨_, nc', ns', I2, J2, C1, mt', mk', ?_, a4⟩
  simp (decide := true) (disch := omega) only [e253_1566, e253_1567, e253_1568, e253_1569, e253_1570, e253_1571, e253_1572, e253_1573, e253_1574, e253_1575, e253_1576, e253_1577, e253_1580, e253_1581, e253_1582, e253_1583, e253_1584, e253_1585, e253_1586, e253_1587, e253_1588, e253_1589, e253_1590, e253_1591, e253_1594, e253_1597, e253_1598, bi_s, ↓reduceIte, Option.bind_some, true_and, and_true, eq_self, ty0, lcmp_s, nI_c1, nI_cl_b, eb_in_b, a1, a2, a3]
theorem lw_c44 (h : lw_I L i S nc ns I J mt mk) : lw_N L i (eb_E L 11 253 1599 [some (zr (0, 0, 0)), some (zr (1, 0, 0)), some (zr (21, 0, 0)), some (zi (nI i))] [] (nc, ns, I, J, eb_RL C mt mk)) := by
  obtain ⟨hi, hL, ok, hX, hM⟩ := h
  obtain ⟨nc', ns', I1, J1, C1, I2, J2, mt', mk', a1, a2, a3, a4⟩ := lw_both (L := L) (D := 11) (as := [zi (I (0, 0, 0) (i + 1)), zi (I (0, 0, 0) (i + 2))]) (C := C) (xf_kept (d := 3) ok) (mf_kept (d := 3) ok) (St_kept ok) hX hM
  refine ⟨_, nc', ns', I2, J2, C1, mt', mk', ?_, a4⟩
  simp (decide := true) (disch := omega) only [e253_1599, e253_1600, e253_1601, e253_1602, e253_1603, e253_1604, e253_1605, e253_1606, e253_1607, e253_1608, e253_1609, e253_1610, e253_1613, e253_1614, e253_1615, e253_1616, e253_1617, e253_1618, e253_1619, e253_1620, e253_1621, e253_1622, e253_1623, e253_1624, e253_1627, e253_1630, e253_1631, bi_s, ↓reduceIte, Option.bind_some, true_and, and_true, eq_self, ty0, lcmp_s, nI_c1, nI_cl_b, eb_in_b, a1, a2, a3]
theorem lw_c45 (h : lw_I L i S nc ns I J mt mk) : lw_N L i (eb_E L 11 253 1632 [some (zr (0, 0, 0)), some (zr (1, 0, 0)), some (zr (21, 0, 0)), some (zi (nI i))] [] (nc, ns, I, J, eb_RL C mt mk)) := by
  obtain ⟨hi, hL, ok, hX, hM⟩ := h
  obtain ⟨nc', ns', I1, J1, C1, I2, J2, mt', mk', a1, a2, a3, a4⟩ := lw_both (L := L) (D := 11) (as := [zi (I (0, 0, 0) (i + 1)), zi (I (0, 0, 0) (i + 2)), zi (I (0, 0, 0) (i + 3))]) (C := C) (xf_called (d := 3) ok) (mf_called (d := 3) ok) (St_called ok) hX hM
  refine ⟨_, nc', ns', I2, J2, C1, mt', mk', ?_, a4⟩
  simp (decide := true) (disch := omega) only [e253_1632, e253_1633, e253_1634, e253_1635, e253_1636, e253_1637, e253_1638, e253_1639, e253_1640, e253_1641, e253_1642, e253_1643, e253_1644, e253_1645, e253_1646, e253_1647, e253_1648, e253_1651, e253_1652, e253_1653, e253_1654, e253_1655, e253_1656, e253_1657, e253_1658, e253_1659, e253_1660, e253_1661, e253_1662, e253_1663, e253_1664, e253_1665, e253_1666, e253_1667, e253_1670, e253_1673, e253_1674, bi_s, ↓reduceIte, Option.bind_some, true_and, and_true, eq_self, ty0, lcmp_s, nI_c1, nI_cl_b, eb_in_b, a1, a2, a3]
theorem lw_c46 (h : lw_I L i S nc ns I J mt mk) : lw_N L i (eb_E L 11 253 1675 [some (zr (0, 0, 0)), some (zr (1, 0, 0)), some (zr (21, 0, 0)), some (zi (nI i))] [] (nc, ns, I, J, eb_RL C mt mk)) := by
  obtain ⟨hi, hL, ok, hX, hM⟩ := h
  obtain ⟨nc', ns', I1, J1, C1, I2, J2, mt', mk', a1, a2, a3, a4⟩ := lw_both (L := L) (D := 11) (as := [zi (I (0, 0, 0) (i + 1)), zi (I (0, 0, 0) (i + 2))]) (C := C) (xf_spoilt (d := 3) ok) (mf_spoilt (d := 3) ok) (St_spoilt ok) hX hM
  refine ⟨_, nc', ns', I2, J2, C1, mt', mk', ?_, a4⟩
  simp (decide := true) (disch := omega) only [e253_1675, e253_1676, e253_1677, e253_1678, e253_1679, e253_1680, e253_1681, e253_1682, e253_1683, e253_1684, e253_1685, e253_1686, e253_1689, e253_1690, e253_1691, e253_1692, e253_1693, e253_1694, e253_1695, e253_1696, e253_1697, e253_1698, e253_1699, e253_1700, e253_1703, e253_1706, e253_1707, bi_s, ↓reduceIte, Option.bind_some, true_and, and_true, eq_self, ty0, lcmp_s, nI_c1, nI_cl_b, eb_in_b, a1, a2, a3]
theorem lw_c47 (h : lw_I L i S nc ns I J mt mk) : lw_N L i (eb_E L 11 253 1708 [some (zr (0, 0, 0)), some (zr (1, 0, 0)), some (zr (21, 0, 0)), some (zi (nI i))] [] (nc, ns, I, J, eb_RL C mt mk)) := by
  obtain ⟨hi, hL, ok, hX, hM⟩ := h
  obtain ⟨nc', ns', I1, J1, C1, I2, J2, mt', mk', a1, a2, a3, a4⟩ := lw_both (L := L) (D := 11) (as := [zi (I (0, 0, 0) (i + 1)), zi (I (0, 0, 0) (i + 2)), zi (I (0, 0, 0) (i + 3)), zi (I (0, 0, 0) (i + 4))]) (C := C) (xf_bears (d := 2) ok) (mf_bears (d := 2) ok) (St_bears ok) hX hM
  refine ⟨_, nc', ns', I2, J2, C1, mt', mk', ?_, a4⟩
  simp (decide := true) (disch := omega) only [e253_1708, e253_1709, e253_1710, e253_1711, e253_1712, e253_1713, e253_1714, e253_1715, e253_1716, e253_1717, e253_1718, e253_1719, e253_1720, e253_1721, e253_1722, e253_1723, e253_1724, e253_1725, e253_1726, e253_1727, e253_1728, e253_1729, e253_1732, e253_1733, e253_1734, e253_1735, e253_1736, e253_1737, e253_1738, e253_1739, e253_1740, e253_1741, e253_1742, e253_1743, e253_1744, e253_1745, e253_1746, e253_1747, e253_1748, e253_1749, e253_1750, e253_1751, e253_1752, e253_1753, e253_1756, e253_1759, e253_1760, bi_s, ↓reduceIte, Option.bind_some, true_and, and_true, eq_self, ty0, lcmp_s, nI_c1, nI_cl_b, eb_in_b, a1, a2, a3]
theorem lw_c48 (h : lw_I L i S nc ns I J mt mk) : lw_N L i (eb_E L 11 253 1761 [some (zr (0, 0, 0)), some (zr (1, 0, 0)), some (zr (21, 0, 0)), some (zi (nI i))] [] (nc, ns, I, J, eb_RL C mt mk)) := by
  obtain ⟨hi, hL, ok, hX, hM⟩ := h
  obtain ⟨nc', ns', I1, J1, C1, I2, J2, mt', mk', a1, a2, a3, a4⟩ := lw_both (L := L) (D := 11) (as := [zi (I (0, 0, 0) (i + 1))]) (C := C) (xf_recovers (d := 3) ok) (mf_recovers (d := 3) ok) (St_recovers ok) hX hM
  refine ⟨_, nc', ns', I2, J2, C1, mt', mk', ?_, a4⟩
  simp (decide := true) (disch := omega) only [e253_1761, e253_1762, e253_1763, e253_1764, e253_1765, e253_1766, e253_1767, e253_1770, e253_1771, e253_1772, e253_1773, e253_1774, e253_1775, e253_1776, e253_1779, e253_1782, e253_1783, bi_s, ↓reduceIte, Option.bind_some, true_and, and_true, eq_self, ty0, lcmp_s, nI_c1, nI_cl_b, eb_in_b, a1, a2, a3]
theorem lw_c49 (h : lw_I L i S nc ns I J mt mk) : lw_N L i (eb_E L 11 253 1784 [some (zr (0, 0, 0)), some (zr (1, 0, 0)), some (zr (21, 0, 0)), some (zi (nI i))] [] (nc, ns, I, J, eb_RL C mt mk)) := by
  obtain ⟨hi, hL, ok, hX, hM⟩ := h
  obtain ⟨nc', ns', I1, J1, C1, I2, J2, mt', mk', a1, a2, a3, a4⟩ := lw_both (L := L) (D := 11) (as := [zi (I (0, 0, 0) (i + 1)), zi (I (0, 0, 0) (i + 2))]) (C := C) (xf_dearest (d := 3) ok) (mf_dearest (d := 3) ok) (St_dearest ok) hX hM
  refine ⟨_, nc', ns', I2, J2, C1, mt', mk', ?_, a4⟩
  simp (decide := true) (disch := omega) only [e253_1784, e253_1785, e253_1786, e253_1787, e253_1788, e253_1789, e253_1790, e253_1791, e253_1792, e253_1793, e253_1794, e253_1795, e253_1798, e253_1799, e253_1800, e253_1801, e253_1802, e253_1803, e253_1804, e253_1805, e253_1806, e253_1807, e253_1808, e253_1809, e253_1812, e253_1815, e253_1816, bi_s, ↓reduceIte, Option.bind_some, true_and, and_true, eq_self, ty0, lcmp_s, nI_c1, nI_cl_b, eb_in_b, a1, a2, a3]
theorem lw_c50 (h : lw_I L i S nc ns I J mt mk) : lw_N L i (eb_E L 11 253 1817 [some (zr (0, 0, 0)), some (zr (1, 0, 0)), some (zr (21, 0, 0)), some (zi (nI i))] [] (nc, ns, I, J, eb_RL C mt mk)) := by
  obtain ⟨hi, hL, ok, hX, hM⟩ := h
  obtain ⟨nc', ns', I1, J1, C1, I2, J2, mt', mk', a1, a2, a3, a4⟩ := lw_both (L := L) (D := 11) (as := []) (C := C) (xf_year (d := 3) ok) (mf_year (d := 3) ok) (St_year ok) hX hM
  refine ⟨_, nc', ns', I2, J2, C1, mt', mk', ?_, a4⟩
  simp (decide := true) (disch := omega) only [e253_1817, e253_1818, e253_1821, e253_1822, e253_1825, e253_1828, e253_1829, bi_s, ↓reduceIte, Option.bind_some, true_and, and_true, eq_self, ty0, lcmp_s, nI_c1, nI_cl_b, eb_in_b, a1, a2, a3]
theorem lw_c51 (h : lw_I L i S nc ns I J mt mk) : lw_N L i (eb_E L 11 253 1830 [some (zr (0, 0, 0)), some (zr (1, 0, 0)), some (zr (21, 0, 0)), some (zi (nI i))] [] (nc, ns, I, J, eb_RL C mt mk)) := by
  obtain ⟨hi, hL, ok, hX, hM⟩ := h
  obtain ⟨nc', ns', I1, J1, C1, I2, J2, mt', mk', a1, a2, a3, a4⟩ := lw_both (L := L) (D := 11) (as := [zi (I (0, 0, 0) (i + 1))]) (C := C) (xf_goes (d := 3) ok) (mf_goes (d := 3) ok) (St_goes ok) hX hM
  refine ⟨_, nc', ns', I2, J2, C1, mt', mk', ?_, a4⟩
  simp (decide := true) (disch := omega) only [e253_1830, e253_1831, e253_1832, e253_1833, e253_1834, e253_1835, e253_1836, e253_1839, e253_1840, e253_1841, e253_1842, e253_1843, e253_1844, e253_1845, e253_1848, e253_1851, e253_1852, bi_s, ↓reduceIte, Option.bind_some, true_and, and_true, eq_self, ty0, lcmp_s, nI_c1, nI_cl_b, eb_in_b, a1, a2, a3]
theorem lw_c52 (h : lw_I L i S nc ns I J mt mk) : lw_N L i (eb_E L 11 253 1853 [some (zr (0, 0, 0)), some (zr (1, 0, 0)), some (zr (21, 0, 0)), some (zi (nI i))] [] (nc, ns, I, J, eb_RL C mt mk)) := by
  obtain ⟨hi, hL, ok, hX, hM⟩ := h
  obtain ⟨nc', ns', I1, J1, C1, I2, J2, mt', mk', a1, a2, a3, a4⟩ := lw_both (L := L) (D := 11) (as := [zi (I (0, 0, 0) (i + 1))]) (C := C) (xf_post (d := 3) ok) (mf_post (d := 3) ok) (St_post ok) hX hM
  refine ⟨_, nc', ns', I2, J2, C1, mt', mk', ?_, a4⟩
  simp (decide := true) (disch := omega) only [e253_1853, e253_1854, e253_1855, e253_1856, e253_1857, e253_1858, e253_1859, e253_1862, e253_1863, e253_1864, e253_1865, e253_1866, e253_1867, e253_1868, e253_1871, e253_1874, e253_1875, bi_s, ↓reduceIte, Option.bind_some, true_and, and_true, eq_self, ty0, lcmp_s, nI_c1, nI_cl_b, eb_in_b, a1, a2, a3]
theorem lw_c53 (h : lw_I L i S nc ns I J mt mk) : lw_N L i (eb_E L 11 253 1876 [some (zr (0, 0, 0)), some (zr (1, 0, 0)), some (zr (21, 0, 0)), some (zi (nI i))] [] (nc, ns, I, J, eb_RL C mt mk)) := by
  obtain ⟨hi, hL, ok, hX, hM⟩ := h
  obtain ⟨nc', ns', I1, J1, C1, I2, J2, mt', mk', a1, a2, a3, a4⟩ := lw_both (L := L) (D := 11) (as := [zi (I (0, 0, 0) (i + 1))]) (C := C) (xf_seed (d := 6) ok) (mf_seed (d := 6) ok) (St_seed ok) hX hM
  refine ⟨_, nc', ns', I2, J2, C1, mt', mk', ?_, a4⟩
  simp (decide := true) (disch := omega) only [e253_1876, e253_1877, e253_1878, e253_1879, e253_1880, e253_1881, e253_1882, e253_1885, e253_1886, e253_1887, e253_1888, e253_1889, e253_1890, e253_1891, e253_1894, e253_1897, e253_1898, bi_s, ↓reduceIte, Option.bind_some, true_and, and_true, eq_self, ty0, lcmp_s, nI_c1, nI_cl_b, eb_in_b, a1, a2, a3]
theorem lw_c54 (h : lw_I L i S nc ns I J mt mk) : lw_N L i (eb_E L 11 253 1899 [some (zr (0, 0, 0)), some (zr (1, 0, 0)), some (zr (21, 0, 0)), some (zi (nI i))] [] (nc, ns, I, J, eb_RL C mt mk)) := by
  obtain ⟨hi, hL, ok, hX, hM⟩ := h
  obtain ⟨nc', ns', I1, J1, C1, I2, J2, mt', mk', a1, a2, a3, a4⟩ := lw_both (L := L) (D := 11) (as := []) (C := C) (xf_image (d := 3) ok) (mf_image (d := 5) ok) (St_image ok) hX hM
  refine ⟨_, nc', ns', I2, J2, C1, mt', mk', ?_, a4⟩
  simp (decide := true) (disch := omega) only [e253_1899, e253_1900, e253_1903, e253_1904, e253_1907, e253_1910, e253_1911, bi_s, ↓reduceIte, Option.bind_some, true_and, and_true, eq_self, ty0, lcmp_s, nI_c1, nI_cl_b, eb_in_b, a1, a2, a3]
theorem lw_c55 (h : lw_I L i S nc ns I J mt mk) : lw_N L i (eb_E L 11 253 1912 [some (zr (0, 0, 0)), some (zr (1, 0, 0)), some (zr (21, 0, 0)), some (zi (nI i))] [] (nc, ns, I, J, eb_RL C mt mk)) := by
  obtain ⟨hi, hL, ok, hX, hM⟩ := h
  obtain ⟨nc', ns', I1, J1, C1, I2, J2, mt', mk', a1, a2, a3, a4⟩ := lw_both (L := L) (D := 11) (as := []) (C := C) (xf_back (d := 3) ok) (mf_back (d := 5) ok) (St_back ok) hX hM
  refine ⟨_, nc', ns', I2, J2, C1, mt', mk', ?_, a4⟩
  simp (decide := true) (disch := omega) only [e253_1912, e253_1913, e253_1916, e253_1917, e253_1920, e253_1923, e253_1924, bi_s, ↓reduceIte, Option.bind_some, true_and, and_true, eq_self, ty0, lcmp_s, nI_c1, nI_cl_b, eb_in_b, a1, a2, a3]
theorem lw_c56 (h : lw_I L i S nc ns I J mt mk) : lw_N L i (eb_E L 11 253 1925 [some (zr (0, 0, 0)), some (zr (1, 0, 0)), some (zr (21, 0, 0)), some (zi (nI i))] [] (nc, ns, I, J, eb_RL C mt mk)) := by
  obtain ⟨hi, hL, ok, hX, hM⟩ := h
  obtain ⟨nc', ns', I1, J1, C1, I2, J2, mt', mk', a1, a2, a3, a4⟩ := lw_both (L := L) (D := 11) (as := [zi (I (0, 0, 0) (i + 1))]) (C := C) (xf_status (d := 3) ok) (mf_status (d := 3) ok) (St_status ok) hX hM
  refine ⟨_, nc', ns', I2, J2, C1, mt', mk', ?_, a4⟩
  simp (decide := true) (disch := omega) only [e253_1925, e253_1926, e253_1927, e253_1928, e253_1929, e253_1930, e253_1931, e253_1934, e253_1935, e253_1936, e253_1937, e253_1938, e253_1939, e253_1940, e253_1943, e253_1946, e253_1947, bi_s, ↓reduceIte, Option.bind_some, true_and, and_true, eq_self, ty0, lcmp_s, nI_c1, nI_cl_b, eb_in_b, a1, a2, a3]
end
theorem sw_ind {α : Type} {P : α → Prop} {x : Int32} {f : Nat → α} {df : Nat} (hd : P (f df)) : ∀ {cs : List (Int32 × Nat)}, (∀ q ∈ cs, P (f q.2)) → P (eb_sw x f df cs)
  | [], _ => hd
  | q :: r, h => by
    unfold eb_sw
    split
    · exact h q List.mem_cons_self
    · exact sw_ind hd fun q hq => h q (List.mem_cons_of_mem _ hq)
section
variable {L i nc ns : Nat} {I : eb_A → Nat → Int32} {J : eb_A → Nat → Int64} {C : Nat → Nat → Nat} {mt mk : Option Nat} {S : eb_St}
theorem lw_call (h : lw_I L i S nc ns I J mt mk) (x : Int32) : lw_N L i (eb_sw x (fun t => eb_E L 11 253 t [some (zr (0, 0, 0)), some (zr (1, 0, 0)), some (zr (21, 0, 0)), some (zi (nI i))] [] (nc, ns, I, J, eb_RL C mt mk)) 1948 [(0, 276), (1, 319), (2, 392), (3, 455), (4, 489), (5, 512), (6, 545), (7, 578), (8, 621), (9, 664), (10, 707), (11, 740), (12, 763), (13, 796), (14, 819), (15, 852), (16, 875), (17, 888), (18, 901), (19, 934), (20, 967), (21, 1000), (22, 1033), (23, 1056), (24, 1079), (25, 1092), (26, 1115), (27, 1138), (28, 1161), (29, 1184), (30, 1197), (31, 1210), (32, 1233), (33, 1256), (34, 1279), (35, 1302), (36, 1345), (37, 1378), (38, 1401), (39, 1434), (40, 1477), (41, 1510), (42, 1543), (43, 1566), (44, 1599), (45, 1632), (46, 1675), (47, 1708), (48, 1761), (49, 1784), (50, 1817), (51, 1830), (52, 1853), (53, 1876), (54, 1899), (55, 1912), (56, 1925)]) := by
  refine sw_ind (P := lw_N L i) ⟨S, nc, ns, I, J, C, mt, mk, rfl, h.2.2⟩ ?_
  simp only [List.forall_mem_cons, List.not_mem_nil, false_implies, implies_true, and_true]
  exact ⟨lw_c0 h, lw_c1 h, lw_c2 h, lw_c3 h, lw_c4 h, lw_c5 h, lw_c6 h, lw_c7 h, lw_c8 h, lw_c9 h, lw_c10 h, lw_c11 h, lw_c12 h, lw_c13 h, lw_c14 h, lw_c15 h, lw_c16 h, lw_c17 h, lw_c18 h, lw_c19 h, lw_c20 h, lw_c21 h, lw_c22 h, lw_c23 h, lw_c24 h, lw_c25 h, lw_c26 h, lw_c27 h, lw_c28 h, lw_c29 h, lw_c30 h, lw_c31 h, lw_c32 h, lw_c33 h, lw_c34 h, lw_c35 h, lw_c36 h, lw_c37 h, lw_c38 h, lw_c39 h, lw_c40 h, lw_c41 h, lw_c42 h, lw_c43 h, lw_c44 h, lw_c45 h, lw_c46 h, lw_c47 h, lw_c48 h, lw_c49 h, lw_c50 h, lw_c51 h, lw_c52 h, lw_c53 h, lw_c54 h, lw_c55 h, lw_c56 h⟩
end
theorem lw_lt {L i : Nat} (hL : L ≤ 384) (hi : i ≤ 1000) : (nI L - 6 < nI i) = (L < i + 6) := by
  have h1 : (nI L - 6).toInt = (L : Int) - 6 := by
    have : nI L - 6 = Int32.ofInt ((L : Int) - 6) := by
      show Int32.ofNat L - Int32.ofNat 6 = _
      rw [← Int32.ofInt_eq_ofNat, ← Int32.ofInt_eq_ofNat, ← Int32.ofInt_sub]
      rfl
    rw [this, Int32.toInt_ofInt_of_le (by omega) (by omega)]
  have h2 := nI_toInt (n := i) (by omega)
  apply propext
  rw [Int32.lt_iff_toInt_lt, h1, h2]
  omega
theorem lw_loop {L : Nat} (hL : L ≤ 384) : ∀ (n i : Nat) (S : eb_St) (nc ns : Nat) (I : eb_A → Nat → Int32) (J : eb_A → Nat → Int64) (C : Nat → Nat → Nat) (mt mk : Option Nat), L ≤ i + n → i ≤ 390 → sp_St S → eb_XS S I J → eb_MS S I J nc ns mt mk →
    ∃ M', eb_E L 11 253 18 [some (zr (0, 0, 0)), some (zr (1, 0, 0)), some (zr (21, 0, 0)), some (zi (nI i))] [] (nc, ns, I, J, eb_RL C mt mk) = some (zi 1, M') ∧ nc ≤ 226 ∧ M'.1 ≤ 226 ∧ M'.2.1 ≤ 7000 := by
  have hcnt : ∀ {nc ns : Nat} {mt mk : Option Nat}, eb_cnt nc ns mt mk → nc ≤ 226 ∧ ns ≤ 7000 := by
    intro nc ns mt mk h
    rcases h with ⟨-, -, h1, h2⟩ | ⟨-, -, h1, h2⟩ | ⟨-, -, h1, h2⟩ | ⟨-, -, h1, h2⟩ | ⟨-, -, h1, h2⟩ <;> omega
  intro n
  induction n with
  | zero =>
    intro i S nc ns I J C mt mk h0 hi ok hX hM
    have hb : (nI L - 6 < nI i) = True := by rw [lw_lt hL (by omega)]; exact eq_true (by omega)
    have hc := hcnt hM.2.2.1
    simp (decide := true) only [e253_18, e253_19, e253_20, e253_21, e253_23, e253_24, e253_1954, e253_1955, ty0, hb, ↓reduceIte]
    exact ⟨_, rfl, hc.1, hc.1, hc.2⟩
  | succ n ih =>
    intro i S nc ns I J C mt mk h0 hi ok hX hM
    have hc := hcnt hM.2.2.1
    by_cases q : i + 6 ≤ L
    · have hb : (nI L - 6 < nI i) = False := by rw [lw_lt hL (by omega)]; exact eq_false (by omega)
      simp (decide := true) (disch := omega) only [e253_18, e253_19, e253_20, e253_21, e253_23, e253_24, e253_27, e253_28, e253_29, e253_30, e253_32, e253_33, ty0, hb, ↓reduceIte, nI_cl_b, eb_in_b, true_and, and_true]
      obtain ⟨S', nc', ns', I', J', C', mt', mk', e, ok', hX', hM'⟩ := lw_call (C := C) ⟨q, hL, ok, hX, hM⟩ (I (0, 0, 0) i &&& 63)
      rw [e]
      obtain ⟨M', g1, g2, g3⟩ := ih (i + 6) S' nc' ns' I' J' C' mt' mk' (by omega) (by omega) ok' hX' hM'
      have h6 : nI i + 6 = nI (i + 6) := nI_add i 6
      rw [e253_1948, e253_1951, h6, g1]
      exact ⟨M', rfl, hc.1, g3⟩
    · have hb : (nI L - 6 < nI i) = True := by rw [lw_lt hL (by omega)]; exact eq_true (by omega)
      simp (decide := true) only [e253_18, e253_19, e253_20, e253_21, e253_23, e253_24, e253_1954, e253_1955, ty0, hb, ↓reduceIte]
      exact ⟨_, rfl, hc.1, hc.1, hc.2⟩
/-- the memory at the law's entry -/
def lw_M (xs : Nat → Int32) : eb_M := (1, 0, fun a l => if a = (0, 0, 0) then xs l else 0, fun _ _ => 0, eb_RL (fun _ j => j) none none)
theorem lw_all {L : Nat} (hL : L ≤ 384) (xs : Nat → Int32) : ∃ M', eb_ev L 12 253 [zr (0, 0, 0)] (lw_M xs) = some (zi 1, M') ∧ M'.1 ≤ 226 ∧ M'.2.1 ≤ 7000 := by
  obtain ⟨I1, J1, b1, b2, b3⟩ := x_init5 (L := L) (d := 7) (ns := 7) (I := eb_zI (fun a l => if a = (0, 0, 0) then xs l else 0) (1, 0, 0)) (J := fun _ _ => 0) (C := fun _ j => j) (fun _ _ => rfl) rfl
  obtain ⟨I2, J2, c1, c2, c3, c4⟩ := m_init0 (L := L) (d := 9) (ns := 1130) (I := eb_zI I1 (21, 0, 0)) (J := J1) (C := fun _ j => j) (mt := none) (mk := none) rfl rfl
  have n1 : eb_nm 1 = (1, 0, 0) := rfl
  have n91 : eb_nm 91 = (21, 0, 0) := rfl
  have hX : eb_XS sp_S0 I2 J2 := XS_fM b2 (fun a l h => (c2 a l (fun z => by omega)).1.trans (if_neg (fun z => by rw [z] at h; exact absurd h (by decide)))) (fun a l h => (c2 a l (fun z => by omega)).2)
  have hM : eb_MS sp_S0 I2 J2 136 1938 none none := by
    have hz : ∀ l, ¬ l = 15 → I2 (21, 0, 0) l = 0 := fun l q => by rw [c3, if_neg q]; exact if_pos rfl
    refine ⟨⟨⟨hz 9 (by decide), hz 11 (by decide), hz 13 (by decide), hz 14 (by decide), by rw [c3]; rfl⟩, fun i hi => absurd hi (Nat.not_lt_zero _), fun i hi => absurd hi (Nat.not_lt_zero _)⟩, ⟨fun _ => rfl, fun p hp => by cases hp⟩, Or.inl ⟨rfl, rfl, rfl, by omega⟩, fun s hs => ⟨fun _ => (c4 s).1, fun z => absurd z.1 (by show ¬ (0 : Int32) ≤ -1; decide), fun z => absurd (by show (-1 : Int32) < 10; decide) z⟩, ⟨hz 7 (by decide), fun j hj => absurd hj (Nat.not_lt_zero _)⟩, fun k hk => (c4 (k + 2)).2⟩
  obtain ⟨M', g1, -, g2⟩ := lw_loop hL L 0 sp_S0 136 1938 I2 J2 (fun _ j => j) none none (by omega) (by omega) St_0 hX hM
  refine ⟨M', ?_, g2⟩
  unfold lw_M
  rw [h253]
  simp only [nI_0] at g1
  simp (decide := true) only [e253_0, e253_3a, e253_3b, e253_4, e253_7, e253_8, e253_11a, e253_11b, e253_12, e253_15, e253_16, e253_17, tyX, tyM, n1, n91, b1, c1, ↓reduceIte, Option.bind_some]
  exact g1


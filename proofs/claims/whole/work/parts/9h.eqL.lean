/-! the law: its equations; its table looked up in chunks -/
set_option maxRecDepth 40000
theorem look_skip {a b : List (Nat × eb_O)} {pc lo : Nat} (h : a.all (fun q => Nat.blt q.1 lo) = true) (hp : lo ≤ pc) : eb_look (a ++ b) pc = eb_look b pc := by
  induction a with
  | nil => rfl
  | cons q r ih =>
    rw [List.all_cons, Bool.and_eq_true] at h
    have hq : Nat.beq q.1 pc = false := by
      cases z : Nat.beq q.1 pc with
      | false => rfl
      | true =>
        have h1 := Nat.eq_of_beq_eq_true z
        have h2 : q.1 + 1 ≤ lo := Nat.le_of_ble_eq_true h.1
        omega
    show (match Nat.beq q.1 pc with | true => q.2 | false => eb_look (r ++ b) pc) = _
    rw [hq]
    exact ih h.2
noncomputable def kl253_0 (L : Nat) : List (Nat × eb_O) := [
  (0, op_new L 5 7 3),
  (3, op_dup 4),
  (4, op_callv 67 1 7),
  (7, op_astore 1 8),
  (8, op_new L 6 34 11),
  (11, op_dup 12),
  (12, op_callv 144 1 15),
  (15, op_astore 2 16),
  (16, op_push (zi 0) 17),
  (17, op_istore 3 18),
  (18, op_iload 3 19),
  (19, op_aload 0 20),
  (20, op_slen L 21),
  (21, op_push (zi 6) 23),
  (23, op_ii (· - ·) 24),
  (24, op_icgt 1954 27),
  (27, op_aload 0 28),
  (28, op_iload 3 29),
  (29, op_sald L 30),
  (30, op_push (zi 63) 32),
  (32, op_ii (· &&& ·) 33),
  (33, op_sw [(0, 276), (1, 319), (2, 392), (3, 455), (4, 489), (5, 512), (6, 545), (7, 578), (8, 621), (9, 664), (10, 707), (11, 740), (12, 763), (13, 796), (14, 819), (15, 852), (16, 875), (17, 888), (18, 901), (19, 934), (20, 967), (21, 1000), (22, 1033), (23, 1056), (24, 1079), (25, 1092), (26, 1115), (27, 1138), (28, 1161), (29, 1184), (30, 1197), (31, 1210), (32, 1233), (33, 1256), (34, 1279), (35, 1302), (36, 1345), (37, 1378), (38, 1401), (39, 1434), (40, 1477), (41, 1510), (42, 1543), (43, 1566), (44, 1599), (45, 1632), (46, 1675), (47, 1708), (48, 1761), (49, 1784), (50, 1817), (51, 1830), (52, 1853), (53, 1876), (54, 1899), (55, 1912), (56, 1925)] 1948),
  (276, op_aload 1 277),
  (277, op_aload 0 278),
  (278, op_iload 3 279),
  (279, op_push (zi 1) 280),
  (280, op_ii (· + ·) 281),
  (281, op_sald L 282),
  (282, op_aload 0 283),
  (283, op_iload 3 284),
  (284, op_push (zi 2) 285),
  (285, op_ii (· + ·) 286),
  (286, op_sald L 287),
  (287, op_aload 0 288),
  (288, op_iload 3 289),
  (289, op_push (zi 3) 290),
  (290, op_ii (· + ·) 291),
  (291, op_sald L 292),
  (292, op_call 68 4 295),
  (295, op_aload 2 296)]
noncomputable def kl253_1 (L : Nat) : List (Nat × eb_O) := [
  (296, op_aload 0 297),
  (297, op_iload 3 298),
  (298, op_push (zi 1) 299),
  (299, op_ii (· + ·) 300),
  (300, op_sald L 301),
  (301, op_aload 0 302),
  (302, op_iload 3 303),
  (303, op_push (zi 2) 304),
  (304, op_ii (· + ·) 305),
  (305, op_sald L 306),
  (306, op_aload 0 307),
  (307, op_iload 3 308),
  (308, op_push (zi 3) 309),
  (309, op_ii (· + ·) 310),
  (310, op_sald L 311),
  (311, op_call 151 4 314),
  (314, op_iceq 1948 317),
  (317, op_push (zi 0) 318),
  (318, op_zret),
  (319, op_aload 1 320),
  (320, op_aload 0 321),
  (321, op_iload 3 322),
  (322, op_push (zi 1) 323),
  (323, op_ii (· + ·) 324),
  (324, op_sald L 325),
  (325, op_aload 0 326),
  (326, op_iload 3 327),
  (327, op_push (zi 2) 328),
  (328, op_ii (· + ·) 329),
  (329, op_sald L 330),
  (330, op_aload 0 331),
  (331, op_iload 3 332),
  (332, op_push (zi 3) 333),
  (333, op_ii (· + ·) 334),
  (334, op_sald L 335),
  (335, op_i2l 336),
  (336, op_push (zi 32) 338),
  (338, op_lshl 339),
  (339, op_aload 0 340),
  (340, op_iload 3 341)]
noncomputable def kl253_2 (L : Nat) : List (Nat × eb_O) := [
  (341, op_push (zi 4) 342),
  (342, op_ii (· + ·) 343),
  (343, op_sald L 344),
  (344, op_i2l 345),
  (345, op_push (zl 4294967295) 348),
  (348, op_ll (· &&& ·) 349),
  (349, op_ll (· ||| ·) 350),
  (350, op_call 69 4 353),
  (353, op_aload 2 354),
  (354, op_aload 0 355),
  (355, op_iload 3 356),
  (356, op_push (zi 1) 357),
  (357, op_ii (· + ·) 358),
  (358, op_sald L 359),
  (359, op_aload 0 360),
  (360, op_iload 3 361),
  (361, op_push (zi 2) 362),
  (362, op_ii (· + ·) 363),
  (363, op_sald L 364),
  (364, op_aload 0 365),
  (365, op_iload 3 366),
  (366, op_push (zi 3) 367),
  (367, op_ii (· + ·) 368),
  (368, op_sald L 369),
  (369, op_i2l 370),
  (370, op_push (zi 32) 372),
  (372, op_lshl 373),
  (373, op_aload 0 374),
  (374, op_iload 3 375),
  (375, op_push (zi 4) 376),
  (376, op_ii (· + ·) 377),
  (377, op_sald L 378),
  (378, op_i2l 379),
  (379, op_push (zl 4294967295) 382),
  (382, op_ll (· &&& ·) 383),
  (383, op_ll (· ||| ·) 384),
  (384, op_call 154 4 387),
  (387, op_iceq 1948 390),
  (390, op_push (zi 0) 391),
  (391, op_zret)]
noncomputable def kl253_3 (L : Nat) : List (Nat × eb_O) := [
  (392, op_aload 1 393),
  (393, op_aload 0 394),
  (394, op_iload 3 395),
  (395, op_push (zi 1) 396),
  (396, op_ii (· + ·) 397),
  (397, op_sald L 398),
  (398, op_aload 0 399),
  (399, op_iload 3 400),
  (400, op_push (zi 2) 401),
  (401, op_ii (· + ·) 402),
  (402, op_sald L 403),
  (403, op_aload 0 404),
  (404, op_iload 3 405),
  (405, op_push (zi 3) 406),
  (406, op_ii (· + ·) 407),
  (407, op_sald L 408),
  (408, op_aload 0 409),
  (409, op_iload 3 410),
  (410, op_push (zi 4) 411),
  (411, op_ii (· + ·) 412),
  (412, op_sald L 413),
  (413, op_aload 0 414),
  (414, op_iload 3 415),
  (415, op_push (zi 5) 416),
  (416, op_ii (· + ·) 417),
  (417, op_sald L 418),
  (418, op_call 70 6 421),
  (421, op_aload 2 422),
  (422, op_aload 0 423),
  (423, op_iload 3 424),
  (424, op_push (zi 1) 425),
  (425, op_ii (· + ·) 426),
  (426, op_sald L 427),
  (427, op_aload 0 428),
  (428, op_iload 3 429),
  (429, op_push (zi 2) 430),
  (430, op_ii (· + ·) 431),
  (431, op_sald L 432),
  (432, op_aload 0 433),
  (433, op_iload 3 434)]
noncomputable def kl253_4 (L : Nat) : List (Nat × eb_O) := [
  (434, op_push (zi 3) 435),
  (435, op_ii (· + ·) 436),
  (436, op_sald L 437),
  (437, op_aload 0 438),
  (438, op_iload 3 439),
  (439, op_push (zi 4) 440),
  (440, op_ii (· + ·) 441),
  (441, op_sald L 442),
  (442, op_aload 0 443),
  (443, op_iload 3 444),
  (444, op_push (zi 5) 445),
  (445, op_ii (· + ·) 446),
  (446, op_sald L 447),
  (447, op_call 155 6 450),
  (450, op_iceq 1948 453),
  (453, op_push (zi 0) 454),
  (454, op_zret),
  (455, op_aload 1 456),
  (456, op_aload 0 457),
  (457, op_iload 3 458),
  (458, op_push (zi 1) 459),
  (459, op_ii (· + ·) 460),
  (460, op_sald L 461),
  (461, op_aload 0 462),
  (462, op_iload 3 463),
  (463, op_push (zi 2) 464),
  (464, op_ii (· + ·) 465),
  (465, op_sald L 466),
  (466, op_call 71 3 469),
  (469, op_aload 2 470),
  (470, op_aload 0 471),
  (471, op_iload 3 472),
  (472, op_push (zi 1) 473),
  (473, op_ii (· + ·) 474),
  (474, op_sald L 475),
  (475, op_aload 0 476),
  (476, op_iload 3 477),
  (477, op_push (zi 2) 478),
  (478, op_ii (· + ·) 479),
  (479, op_sald L 480)]
noncomputable def kl253_5 (L : Nat) : List (Nat × eb_O) := [
  (480, op_call 156 3 483),
  (483, op_lcmp 484),
  (484, op_ifeq 1948 487),
  (487, op_push (zi 0) 488),
  (488, op_zret),
  (489, op_aload 1 490),
  (490, op_aload 0 491),
  (491, op_iload 3 492),
  (492, op_push (zi 1) 493),
  (493, op_ii (· + ·) 494),
  (494, op_sald L 495),
  (495, op_call 72 2 498),
  (498, op_aload 2 499),
  (499, op_aload 0 500),
  (500, op_iload 3 501),
  (501, op_push (zi 1) 502),
  (502, op_ii (· + ·) 503),
  (503, op_sald L 504),
  (504, op_call 157 2 507),
  (507, op_iceq 1948 510),
  (510, op_push (zi 0) 511),
  (511, op_zret),
  (512, op_aload 1 513),
  (513, op_aload 0 514),
  (514, op_iload 3 515),
  (515, op_push (zi 1) 516),
  (516, op_ii (· + ·) 517),
  (517, op_sald L 518),
  (518, op_aload 0 519),
  (519, op_iload 3 520),
  (520, op_push (zi 2) 521),
  (521, op_ii (· + ·) 522),
  (522, op_sald L 523),
  (523, op_call 73 3 526),
  (526, op_aload 2 527),
  (527, op_aload 0 528),
  (528, op_iload 3 529),
  (529, op_push (zi 1) 530),
  (530, op_ii (· + ·) 531),
  (531, op_sald L 532)]
noncomputable def kl253_6 (L : Nat) : List (Nat × eb_O) := [
  (532, op_aload 0 533),
  (533, op_iload 3 534),
  (534, op_push (zi 2) 535),
  (535, op_ii (· + ·) 536),
  (536, op_sald L 537),
  (537, op_call 158 3 540),
  (540, op_iceq 1948 543),
  (543, op_push (zi 0) 544),
  (544, op_zret),
  (545, op_aload 1 546),
  (546, op_aload 0 547),
  (547, op_iload 3 548),
  (548, op_push (zi 1) 549),
  (549, op_ii (· + ·) 550),
  (550, op_sald L 551),
  (551, op_aload 0 552),
  (552, op_iload 3 553),
  (553, op_push (zi 2) 554),
  (554, op_ii (· + ·) 555),
  (555, op_sald L 556),
  (556, op_call 74 3 559),
  (559, op_aload 2 560),
  (560, op_aload 0 561),
  (561, op_iload 3 562),
  (562, op_push (zi 1) 563),
  (563, op_ii (· + ·) 564),
  (564, op_sald L 565),
  (565, op_aload 0 566),
  (566, op_iload 3 567),
  (567, op_push (zi 2) 568),
  (568, op_ii (· + ·) 569),
  (569, op_sald L 570),
  (570, op_call 160 3 573),
  (573, op_iceq 1948 576),
  (576, op_push (zi 0) 577),
  (577, op_zret),
  (578, op_aload 1 579),
  (579, op_aload 0 580),
  (580, op_iload 3 581),
  (581, op_push (zi 1) 582)]
noncomputable def kl253_7 (L : Nat) : List (Nat × eb_O) := [
  (582, op_ii (· + ·) 583),
  (583, op_sald L 584),
  (584, op_aload 0 585),
  (585, op_iload 3 586),
  (586, op_push (zi 2) 587),
  (587, op_ii (· + ·) 588),
  (588, op_sald L 589),
  (589, op_aload 0 590),
  (590, op_iload 3 591),
  (591, op_push (zi 3) 592),
  (592, op_ii (· + ·) 593),
  (593, op_sald L 594),
  (594, op_call 75 4 597),
  (597, op_aload 2 598),
  (598, op_aload 0 599),
  (599, op_iload 3 600),
  (600, op_push (zi 1) 601),
  (601, op_ii (· + ·) 602),
  (602, op_sald L 603),
  (603, op_aload 0 604),
  (604, op_iload 3 605),
  (605, op_push (zi 2) 606),
  (606, op_ii (· + ·) 607),
  (607, op_sald L 608),
  (608, op_aload 0 609),
  (609, op_iload 3 610),
  (610, op_push (zi 3) 611),
  (611, op_ii (· + ·) 612),
  (612, op_sald L 613),
  (613, op_call 162 4 616),
  (616, op_iceq 1948 619),
  (619, op_push (zi 0) 620),
  (620, op_zret),
  (621, op_aload 1 622),
  (622, op_aload 0 623),
  (623, op_iload 3 624),
  (624, op_push (zi 1) 625),
  (625, op_ii (· + ·) 626),
  (626, op_sald L 627),
  (627, op_aload 0 628)]
noncomputable def kl253_8 (L : Nat) : List (Nat × eb_O) := [
  (628, op_iload 3 629),
  (629, op_push (zi 2) 630),
  (630, op_ii (· + ·) 631),
  (631, op_sald L 632),
  (632, op_aload 0 633),
  (633, op_iload 3 634),
  (634, op_push (zi 3) 635),
  (635, op_ii (· + ·) 636),
  (636, op_sald L 637),
  (637, op_call 76 4 640),
  (640, op_aload 2 641),
  (641, op_aload 0 642),
  (642, op_iload 3 643),
  (643, op_push (zi 1) 644),
  (644, op_ii (· + ·) 645),
  (645, op_sald L 646),
  (646, op_aload 0 647),
  (647, op_iload 3 648),
  (648, op_push (zi 2) 649),
  (649, op_ii (· + ·) 650),
  (650, op_sald L 651),
  (651, op_aload 0 652),
  (652, op_iload 3 653),
  (653, op_push (zi 3) 654),
  (654, op_ii (· + ·) 655),
  (655, op_sald L 656),
  (656, op_call 163 4 659),
  (659, op_iceq 1948 662),
  (662, op_push (zi 0) 663),
  (663, op_zret),
  (664, op_aload 1 665),
  (665, op_aload 0 666),
  (666, op_iload 3 667),
  (667, op_push (zi 1) 668),
  (668, op_ii (· + ·) 669),
  (669, op_sald L 670),
  (670, op_aload 0 671),
  (671, op_iload 3 672),
  (672, op_push (zi 2) 673),
  (673, op_ii (· + ·) 674)]
noncomputable def kl253_9 (L : Nat) : List (Nat × eb_O) := [
  (674, op_sald L 675),
  (675, op_aload 0 676),
  (676, op_iload 3 677),
  (677, op_push (zi 3) 678),
  (678, op_ii (· + ·) 679),
  (679, op_sald L 680),
  (680, op_call 77 4 683),
  (683, op_aload 2 684),
  (684, op_aload 0 685),
  (685, op_iload 3 686),
  (686, op_push (zi 1) 687),
  (687, op_ii (· + ·) 688),
  (688, op_sald L 689),
  (689, op_aload 0 690),
  (690, op_iload 3 691),
  (691, op_push (zi 2) 692),
  (692, op_ii (· + ·) 693),
  (693, op_sald L 694),
  (694, op_aload 0 695),
  (695, op_iload 3 696),
  (696, op_push (zi 3) 697),
  (697, op_ii (· + ·) 698),
  (698, op_sald L 699),
  (699, op_call 164 4 702),
  (702, op_iceq 1948 705),
  (705, op_push (zi 0) 706),
  (706, op_zret),
  (707, op_aload 1 708),
  (708, op_aload 0 709),
  (709, op_iload 3 710),
  (710, op_push (zi 1) 711),
  (711, op_ii (· + ·) 712),
  (712, op_sald L 713),
  (713, op_aload 0 714),
  (714, op_iload 3 715),
  (715, op_push (zi 2) 716),
  (716, op_ii (· + ·) 717),
  (717, op_sald L 718),
  (718, op_call 78 3 721),
  (721, op_aload 2 722)]
noncomputable def kl253_10 (L : Nat) : List (Nat × eb_O) := [
  (722, op_aload 0 723),
  (723, op_iload 3 724),
  (724, op_push (zi 1) 725),
  (725, op_ii (· + ·) 726),
  (726, op_sald L 727),
  (727, op_aload 0 728),
  (728, op_iload 3 729),
  (729, op_push (zi 2) 730),
  (730, op_ii (· + ·) 731),
  (731, op_sald L 732),
  (732, op_call 165 3 735),
  (735, op_iceq 1948 738),
  (738, op_push (zi 0) 739),
  (739, op_zret),
  (740, op_aload 1 741),
  (741, op_aload 0 742),
  (742, op_iload 3 743),
  (743, op_push (zi 1) 744),
  (744, op_ii (· + ·) 745),
  (745, op_sald L 746),
  (746, op_call 79 2 749),
  (749, op_aload 2 750),
  (750, op_aload 0 751),
  (751, op_iload 3 752),
  (752, op_push (zi 1) 753),
  (753, op_ii (· + ·) 754),
  (754, op_sald L 755),
  (755, op_call 168 2 758),
  (758, op_iceq 1948 761),
  (761, op_push (zi 0) 762),
  (762, op_zret),
  (763, op_aload 1 764),
  (764, op_aload 0 765),
  (765, op_iload 3 766),
  (766, op_push (zi 1) 767),
  (767, op_ii (· + ·) 768),
  (768, op_sald L 769),
  (769, op_aload 0 770),
  (770, op_iload 3 771),
  (771, op_push (zi 2) 772)]
noncomputable def kl253_11 (L : Nat) : List (Nat × eb_O) := [
  (772, op_ii (· + ·) 773),
  (773, op_sald L 774),
  (774, op_call 80 3 777),
  (777, op_aload 2 778),
  (778, op_aload 0 779),
  (779, op_iload 3 780),
  (780, op_push (zi 1) 781),
  (781, op_ii (· + ·) 782),
  (782, op_sald L 783),
  (783, op_aload 0 784),
  (784, op_iload 3 785),
  (785, op_push (zi 2) 786),
  (786, op_ii (· + ·) 787),
  (787, op_sald L 788),
  (788, op_call 170 3 791),
  (791, op_iceq 1948 794),
  (794, op_push (zi 0) 795),
  (795, op_zret),
  (796, op_aload 1 797),
  (797, op_aload 0 798),
  (798, op_iload 3 799),
  (799, op_push (zi 1) 800),
  (800, op_ii (· + ·) 801),
  (801, op_sald L 802),
  (802, op_call 81 2 805),
  (805, op_aload 2 806),
  (806, op_aload 0 807),
  (807, op_iload 3 808),
  (808, op_push (zi 1) 809),
  (809, op_ii (· + ·) 810),
  (810, op_sald L 811),
  (811, op_call 171 2 814),
  (814, op_iceq 1948 817),
  (817, op_push (zi 0) 818),
  (818, op_zret),
  (819, op_aload 1 820),
  (820, op_aload 0 821),
  (821, op_iload 3 822),
  (822, op_push (zi 1) 823),
  (823, op_ii (· + ·) 824)]
noncomputable def kl253_12 (L : Nat) : List (Nat × eb_O) := [
  (824, op_sald L 825),
  (825, op_aload 0 826),
  (826, op_iload 3 827),
  (827, op_push (zi 2) 828),
  (828, op_ii (· + ·) 829),
  (829, op_sald L 830),
  (830, op_call 82 3 833),
  (833, op_aload 2 834),
  (834, op_aload 0 835),
  (835, op_iload 3 836),
  (836, op_push (zi 1) 837),
  (837, op_ii (· + ·) 838),
  (838, op_sald L 839),
  (839, op_aload 0 840),
  (840, op_iload 3 841),
  (841, op_push (zi 2) 842),
  (842, op_ii (· + ·) 843),
  (843, op_sald L 844),
  (844, op_call 172 3 847),
  (847, op_iceq 1948 850),
  (850, op_push (zi 0) 851),
  (851, op_zret),
  (852, op_aload 1 853),
  (853, op_aload 0 854),
  (854, op_iload 3 855),
  (855, op_push (zi 1) 856),
  (856, op_ii (· + ·) 857),
  (857, op_sald L 858),
  (858, op_call 83 2 861),
  (861, op_aload 2 862),
  (862, op_aload 0 863),
  (863, op_iload 3 864),
  (864, op_push (zi 1) 865),
  (865, op_ii (· + ·) 866),
  (866, op_sald L 867),
  (867, op_call 173 2 870),
  (870, op_iceq 1948 873),
  (873, op_push (zi 0) 874),
  (874, op_zret),
  (875, op_aload 1 876)]
noncomputable def kl253_13 (L : Nat) : List (Nat × eb_O) := [
  (876, op_call 84 1 879),
  (879, op_aload 2 880),
  (880, op_call 174 1 883),
  (883, op_iceq 1948 886),
  (886, op_push (zi 0) 887),
  (887, op_zret),
  (888, op_aload 1 889),
  (889, op_call 85 1 892),
  (892, op_aload 2 893),
  (893, op_call 187 1 896),
  (896, op_iceq 1948 899),
  (899, op_push (zi 0) 900),
  (900, op_zret),
  (901, op_aload 1 902),
  (902, op_aload 0 903),
  (903, op_iload 3 904),
  (904, op_push (zi 1) 905),
  (905, op_ii (· + ·) 906),
  (906, op_sald L 907),
  (907, op_aload 0 908),
  (908, op_iload 3 909),
  (909, op_push (zi 2) 910),
  (910, op_ii (· + ·) 911),
  (911, op_sald L 912),
  (912, op_call 86 3 915),
  (915, op_aload 2 916),
  (916, op_aload 0 917),
  (917, op_iload 3 918),
  (918, op_push (zi 1) 919),
  (919, op_ii (· + ·) 920),
  (920, op_sald L 921),
  (921, op_aload 0 922),
  (922, op_iload 3 923),
  (923, op_push (zi 2) 924),
  (924, op_ii (· + ·) 925),
  (925, op_sald L 926),
  (926, op_call 188 3 929),
  (929, op_iceq 1948 932),
  (932, op_push (zi 0) 933),
  (933, op_zret)]
noncomputable def kl253_14 (L : Nat) : List (Nat × eb_O) := [
  (934, op_aload 1 935),
  (935, op_aload 0 936),
  (936, op_iload 3 937),
  (937, op_push (zi 1) 938),
  (938, op_ii (· + ·) 939),
  (939, op_sald L 940),
  (940, op_aload 0 941),
  (941, op_iload 3 942),
  (942, op_push (zi 2) 943),
  (943, op_ii (· + ·) 944),
  (944, op_sald L 945),
  (945, op_call 87 3 948),
  (948, op_aload 2 949),
  (949, op_aload 0 950),
  (950, op_iload 3 951),
  (951, op_push (zi 1) 952),
  (952, op_ii (· + ·) 953),
  (953, op_sald L 954),
  (954, op_aload 0 955),
  (955, op_iload 3 956),
  (956, op_push (zi 2) 957),
  (957, op_ii (· + ·) 958),
  (958, op_sald L 959),
  (959, op_call 189 3 962),
  (962, op_iceq 1948 965),
  (965, op_push (zi 0) 966),
  (966, op_zret),
  (967, op_aload 1 968),
  (968, op_aload 0 969),
  (969, op_iload 3 970),
  (970, op_push (zi 1) 971),
  (971, op_ii (· + ·) 972),
  (972, op_sald L 973),
  (973, op_aload 0 974),
  (974, op_iload 3 975),
  (975, op_push (zi 2) 976),
  (976, op_ii (· + ·) 977),
  (977, op_sald L 978),
  (978, op_call 88 3 981),
  (981, op_aload 2 982)]
noncomputable def kl253_15 (L : Nat) : List (Nat × eb_O) := [
  (982, op_aload 0 983),
  (983, op_iload 3 984),
  (984, op_push (zi 1) 985),
  (985, op_ii (· + ·) 986),
  (986, op_sald L 987),
  (987, op_aload 0 988),
  (988, op_iload 3 989),
  (989, op_push (zi 2) 990),
  (990, op_ii (· + ·) 991),
  (991, op_sald L 992),
  (992, op_call 193 3 995),
  (995, op_iceq 1948 998),
  (998, op_push (zi 0) 999),
  (999, op_zret),
  (1000, op_aload 1 1001),
  (1001, op_aload 0 1002),
  (1002, op_iload 3 1003),
  (1003, op_push (zi 1) 1004),
  (1004, op_ii (· + ·) 1005),
  (1005, op_sald L 1006),
  (1006, op_aload 0 1007),
  (1007, op_iload 3 1008),
  (1008, op_push (zi 2) 1009),
  (1009, op_ii (· + ·) 1010),
  (1010, op_sald L 1011),
  (1011, op_call 89 3 1014),
  (1014, op_aload 2 1015),
  (1015, op_aload 0 1016),
  (1016, op_iload 3 1017),
  (1017, op_push (zi 1) 1018),
  (1018, op_ii (· + ·) 1019),
  (1019, op_sald L 1020),
  (1020, op_aload 0 1021),
  (1021, op_iload 3 1022),
  (1022, op_push (zi 2) 1023),
  (1023, op_ii (· + ·) 1024),
  (1024, op_sald L 1025),
  (1025, op_call 199 3 1028),
  (1028, op_iceq 1948 1031),
  (1031, op_push (zi 0) 1032)]
noncomputable def kl253_16 (L : Nat) : List (Nat × eb_O) := [
  (1032, op_zret),
  (1033, op_aload 1 1034),
  (1034, op_aload 0 1035),
  (1035, op_iload 3 1036),
  (1036, op_push (zi 1) 1037),
  (1037, op_ii (· + ·) 1038),
  (1038, op_sald L 1039),
  (1039, op_call 90 2 1042),
  (1042, op_aload 2 1043),
  (1043, op_aload 0 1044),
  (1044, op_iload 3 1045),
  (1045, op_push (zi 1) 1046),
  (1046, op_ii (· + ·) 1047),
  (1047, op_sald L 1048),
  (1048, op_call 200 2 1051),
  (1051, op_iceq 1948 1054),
  (1054, op_push (zi 0) 1055),
  (1055, op_zret),
  (1056, op_aload 1 1057),
  (1057, op_aload 0 1058),
  (1058, op_iload 3 1059),
  (1059, op_push (zi 1) 1060),
  (1060, op_ii (· + ·) 1061),
  (1061, op_sald L 1062),
  (1062, op_call 91 2 1065),
  (1065, op_aload 2 1066),
  (1066, op_aload 0 1067),
  (1067, op_iload 3 1068),
  (1068, op_push (zi 1) 1069),
  (1069, op_ii (· + ·) 1070),
  (1070, op_sald L 1071),
  (1071, op_call 201 2 1074),
  (1074, op_iceq 1948 1077),
  (1077, op_push (zi 0) 1078),
  (1078, op_zret),
  (1079, op_aload 1 1080),
  (1080, op_call 92 1 1083),
  (1083, op_aload 2 1084),
  (1084, op_call 202 1 1087),
  (1087, op_iceq 1948 1090)]
noncomputable def kl253_17 (L : Nat) : List (Nat × eb_O) := [
  (1090, op_push (zi 0) 1091),
  (1091, op_zret),
  (1092, op_aload 1 1093),
  (1093, op_aload 0 1094),
  (1094, op_iload 3 1095),
  (1095, op_push (zi 1) 1096),
  (1096, op_ii (· + ·) 1097),
  (1097, op_sald L 1098),
  (1098, op_call 93 2 1101),
  (1101, op_aload 2 1102),
  (1102, op_aload 0 1103),
  (1103, op_iload 3 1104),
  (1104, op_push (zi 1) 1105),
  (1105, op_ii (· + ·) 1106),
  (1106, op_sald L 1107),
  (1107, op_call 205 2 1110),
  (1110, op_iceq 1948 1113),
  (1113, op_push (zi 0) 1114),
  (1114, op_zret),
  (1115, op_aload 1 1116),
  (1116, op_aload 0 1117),
  (1117, op_iload 3 1118),
  (1118, op_push (zi 1) 1119),
  (1119, op_ii (· + ·) 1120),
  (1120, op_sald L 1121),
  (1121, op_call 94 2 1124),
  (1124, op_aload 2 1125),
  (1125, op_aload 0 1126),
  (1126, op_iload 3 1127),
  (1127, op_push (zi 1) 1128),
  (1128, op_ii (· + ·) 1129),
  (1129, op_sald L 1130),
  (1130, op_call 206 2 1133),
  (1133, op_iceq 1948 1136),
  (1136, op_push (zi 0) 1137),
  (1137, op_zret),
  (1138, op_aload 1 1139),
  (1139, op_aload 0 1140),
  (1140, op_iload 3 1141),
  (1141, op_push (zi 1) 1142)]
noncomputable def kl253_18 (L : Nat) : List (Nat × eb_O) := [
  (1142, op_ii (· + ·) 1143),
  (1143, op_sald L 1144),
  (1144, op_call 95 2 1147),
  (1147, op_aload 2 1148),
  (1148, op_aload 0 1149),
  (1149, op_iload 3 1150),
  (1150, op_push (zi 1) 1151),
  (1151, op_ii (· + ·) 1152),
  (1152, op_sald L 1153),
  (1153, op_call 208 2 1156),
  (1156, op_iceq 1948 1159),
  (1159, op_push (zi 0) 1160),
  (1160, op_zret),
  (1161, op_aload 1 1162),
  (1162, op_aload 0 1163),
  (1163, op_iload 3 1164),
  (1164, op_push (zi 1) 1165),
  (1165, op_ii (· + ·) 1166),
  (1166, op_sald L 1167),
  (1167, op_call 96 2 1170),
  (1170, op_aload 2 1171),
  (1171, op_aload 0 1172),
  (1172, op_iload 3 1173),
  (1173, op_push (zi 1) 1174),
  (1174, op_ii (· + ·) 1175),
  (1175, op_sald L 1176),
  (1176, op_call 209 2 1179),
  (1179, op_iceq 1948 1182),
  (1182, op_push (zi 0) 1183),
  (1183, op_zret),
  (1184, op_aload 1 1185),
  (1185, op_call 97 1 1188),
  (1188, op_aload 2 1189),
  (1189, op_call 211 1 1192),
  (1192, op_iceq 1948 1195),
  (1195, op_push (zi 0) 1196),
  (1196, op_zret),
  (1197, op_aload 1 1198),
  (1198, op_call 98 1 1201),
  (1201, op_aload 2 1202)]
noncomputable def kl253_19 (L : Nat) : List (Nat × eb_O) := [
  (1202, op_call 213 1 1205),
  (1205, op_iceq 1948 1208),
  (1208, op_push (zi 0) 1209),
  (1209, op_zret),
  (1210, op_aload 1 1211),
  (1211, op_aload 0 1212),
  (1212, op_iload 3 1213),
  (1213, op_push (zi 1) 1214),
  (1214, op_ii (· + ·) 1215),
  (1215, op_sald L 1216),
  (1216, op_call 99 2 1219),
  (1219, op_aload 2 1220),
  (1220, op_aload 0 1221),
  (1221, op_iload 3 1222),
  (1222, op_push (zi 1) 1223),
  (1223, op_ii (· + ·) 1224),
  (1224, op_sald L 1225),
  (1225, op_call 214 2 1228),
  (1228, op_iceq 1948 1231),
  (1231, op_push (zi 0) 1232),
  (1232, op_zret),
  (1233, op_aload 1 1234),
  (1234, op_aload 0 1235),
  (1235, op_iload 3 1236),
  (1236, op_push (zi 1) 1237),
  (1237, op_ii (· + ·) 1238),
  (1238, op_sald L 1239),
  (1239, op_call 100 2 1242),
  (1242, op_aload 2 1243),
  (1243, op_aload 0 1244),
  (1244, op_iload 3 1245),
  (1245, op_push (zi 1) 1246),
  (1246, op_ii (· + ·) 1247),
  (1247, op_sald L 1248),
  (1248, op_call 215 2 1251),
  (1251, op_iceq 1948 1254),
  (1254, op_push (zi 0) 1255),
  (1255, op_zret),
  (1256, op_aload 1 1257),
  (1257, op_aload 0 1258)]
noncomputable def kl253_20 (L : Nat) : List (Nat × eb_O) := [
  (1258, op_iload 3 1259),
  (1259, op_push (zi 1) 1260),
  (1260, op_ii (· + ·) 1261),
  (1261, op_sald L 1262),
  (1262, op_call 101 2 1265),
  (1265, op_aload 2 1266),
  (1266, op_aload 0 1267),
  (1267, op_iload 3 1268),
  (1268, op_push (zi 1) 1269),
  (1269, op_ii (· + ·) 1270),
  (1270, op_sald L 1271),
  (1271, op_call 217 2 1274),
  (1274, op_iceq 1948 1277),
  (1277, op_push (zi 0) 1278),
  (1278, op_zret),
  (1279, op_aload 1 1280),
  (1280, op_aload 0 1281),
  (1281, op_iload 3 1282),
  (1282, op_push (zi 1) 1283),
  (1283, op_ii (· + ·) 1284),
  (1284, op_sald L 1285),
  (1285, op_call 102 2 1288),
  (1288, op_aload 2 1289),
  (1289, op_aload 0 1290),
  (1290, op_iload 3 1291),
  (1291, op_push (zi 1) 1292),
  (1292, op_ii (· + ·) 1293),
  (1293, op_sald L 1294),
  (1294, op_call 218 2 1297),
  (1297, op_iceq 1948 1300),
  (1300, op_push (zi 0) 1301),
  (1301, op_zret),
  (1302, op_aload 1 1303),
  (1303, op_aload 0 1304),
  (1304, op_iload 3 1305),
  (1305, op_push (zi 1) 1306),
  (1306, op_ii (· + ·) 1307),
  (1307, op_sald L 1308),
  (1308, op_aload 0 1309),
  (1309, op_iload 3 1310)]
noncomputable def kl253_21 (L : Nat) : List (Nat × eb_O) := [
  (1310, op_push (zi 2) 1311),
  (1311, op_ii (· + ·) 1312),
  (1312, op_sald L 1313),
  (1313, op_aload 0 1314),
  (1314, op_iload 3 1315),
  (1315, op_push (zi 3) 1316),
  (1316, op_ii (· + ·) 1317),
  (1317, op_sald L 1318),
  (1318, op_call 103 4 1321),
  (1321, op_aload 2 1322),
  (1322, op_aload 0 1323),
  (1323, op_iload 3 1324),
  (1324, op_push (zi 1) 1325),
  (1325, op_ii (· + ·) 1326),
  (1326, op_sald L 1327),
  (1327, op_aload 0 1328),
  (1328, op_iload 3 1329),
  (1329, op_push (zi 2) 1330),
  (1330, op_ii (· + ·) 1331),
  (1331, op_sald L 1332),
  (1332, op_aload 0 1333),
  (1333, op_iload 3 1334),
  (1334, op_push (zi 3) 1335),
  (1335, op_ii (· + ·) 1336),
  (1336, op_sald L 1337),
  (1337, op_call 219 4 1340),
  (1340, op_iceq 1948 1343),
  (1343, op_push (zi 0) 1344),
  (1344, op_zret),
  (1345, op_aload 1 1346),
  (1346, op_aload 0 1347),
  (1347, op_iload 3 1348),
  (1348, op_push (zi 1) 1349),
  (1349, op_ii (· + ·) 1350),
  (1350, op_sald L 1351),
  (1351, op_aload 0 1352),
  (1352, op_iload 3 1353),
  (1353, op_push (zi 2) 1354),
  (1354, op_ii (· + ·) 1355),
  (1355, op_sald L 1356)]
noncomputable def kl253_22 (L : Nat) : List (Nat × eb_O) := [
  (1356, op_call 104 3 1359),
  (1359, op_aload 2 1360),
  (1360, op_aload 0 1361),
  (1361, op_iload 3 1362),
  (1362, op_push (zi 1) 1363),
  (1363, op_ii (· + ·) 1364),
  (1364, op_sald L 1365),
  (1365, op_aload 0 1366),
  (1366, op_iload 3 1367),
  (1367, op_push (zi 2) 1368),
  (1368, op_ii (· + ·) 1369),
  (1369, op_sald L 1370),
  (1370, op_call 220 3 1373),
  (1373, op_iceq 1948 1376),
  (1376, op_push (zi 0) 1377),
  (1377, op_zret),
  (1378, op_aload 1 1379),
  (1379, op_aload 0 1380),
  (1380, op_iload 3 1381),
  (1381, op_push (zi 1) 1382),
  (1382, op_ii (· + ·) 1383),
  (1383, op_sald L 1384),
  (1384, op_call 105 2 1387),
  (1387, op_aload 2 1388),
  (1388, op_aload 0 1389),
  (1389, op_iload 3 1390),
  (1390, op_push (zi 1) 1391),
  (1391, op_ii (· + ·) 1392),
  (1392, op_sald L 1393),
  (1393, op_call 222 2 1396),
  (1396, op_iceq 1948 1399),
  (1399, op_push (zi 0) 1400),
  (1400, op_zret),
  (1401, op_aload 1 1402),
  (1402, op_aload 0 1403),
  (1403, op_iload 3 1404),
  (1404, op_push (zi 1) 1405),
  (1405, op_ii (· + ·) 1406),
  (1406, op_sald L 1407),
  (1407, op_aload 0 1408)]
noncomputable def kl253_23 (L : Nat) : List (Nat × eb_O) := [
  (1408, op_iload 3 1409),
  (1409, op_push (zi 2) 1410),
  (1410, op_ii (· + ·) 1411),
  (1411, op_sald L 1412),
  (1412, op_call 106 3 1415),
  (1415, op_aload 2 1416),
  (1416, op_aload 0 1417),
  (1417, op_iload 3 1418),
  (1418, op_push (zi 1) 1419),
  (1419, op_ii (· + ·) 1420),
  (1420, op_sald L 1421),
  (1421, op_aload 0 1422),
  (1422, op_iload 3 1423),
  (1423, op_push (zi 2) 1424),
  (1424, op_ii (· + ·) 1425),
  (1425, op_sald L 1426),
  (1426, op_call 225 3 1429),
  (1429, op_iceq 1948 1432),
  (1432, op_push (zi 0) 1433),
  (1433, op_zret),
  (1434, op_aload 1 1435),
  (1435, op_aload 0 1436),
  (1436, op_iload 3 1437),
  (1437, op_push (zi 1) 1438),
  (1438, op_ii (· + ·) 1439),
  (1439, op_sald L 1440),
  (1440, op_aload 0 1441),
  (1441, op_iload 3 1442),
  (1442, op_push (zi 2) 1443),
  (1443, op_ii (· + ·) 1444),
  (1444, op_sald L 1445),
  (1445, op_aload 0 1446),
  (1446, op_iload 3 1447),
  (1447, op_push (zi 3) 1448),
  (1448, op_ii (· + ·) 1449),
  (1449, op_sald L 1450),
  (1450, op_call 107 4 1453),
  (1453, op_aload 2 1454),
  (1454, op_aload 0 1455),
  (1455, op_iload 3 1456)]
noncomputable def kl253_24 (L : Nat) : List (Nat × eb_O) := [
  (1456, op_push (zi 1) 1457),
  (1457, op_ii (· + ·) 1458),
  (1458, op_sald L 1459),
  (1459, op_aload 0 1460),
  (1460, op_iload 3 1461),
  (1461, op_push (zi 2) 1462),
  (1462, op_ii (· + ·) 1463),
  (1463, op_sald L 1464),
  (1464, op_aload 0 1465),
  (1465, op_iload 3 1466),
  (1466, op_push (zi 3) 1467),
  (1467, op_ii (· + ·) 1468),
  (1468, op_sald L 1469),
  (1469, op_call 226 4 1472),
  (1472, op_iceq 1948 1475),
  (1475, op_push (zi 0) 1476),
  (1476, op_zret),
  (1477, op_aload 1 1478),
  (1478, op_aload 0 1479),
  (1479, op_iload 3 1480),
  (1480, op_push (zi 1) 1481),
  (1481, op_ii (· + ·) 1482),
  (1482, op_sald L 1483),
  (1483, op_aload 0 1484),
  (1484, op_iload 3 1485),
  (1485, op_push (zi 2) 1486),
  (1486, op_ii (· + ·) 1487),
  (1487, op_sald L 1488),
  (1488, op_call 108 3 1491),
  (1491, op_aload 2 1492),
  (1492, op_aload 0 1493),
  (1493, op_iload 3 1494),
  (1494, op_push (zi 1) 1495),
  (1495, op_ii (· + ·) 1496),
  (1496, op_sald L 1497),
  (1497, op_aload 0 1498),
  (1498, op_iload 3 1499),
  (1499, op_push (zi 2) 1500),
  (1500, op_ii (· + ·) 1501),
  (1501, op_sald L 1502)]
noncomputable def kl253_25 (L : Nat) : List (Nat × eb_O) := [
  (1502, op_call 229 3 1505),
  (1505, op_iceq 1948 1508),
  (1508, op_push (zi 0) 1509),
  (1509, op_zret),
  (1510, op_aload 1 1511),
  (1511, op_aload 0 1512),
  (1512, op_iload 3 1513),
  (1513, op_push (zi 1) 1514),
  (1514, op_ii (· + ·) 1515),
  (1515, op_sald L 1516),
  (1516, op_aload 0 1517),
  (1517, op_iload 3 1518),
  (1518, op_push (zi 2) 1519),
  (1519, op_ii (· + ·) 1520),
  (1520, op_sald L 1521),
  (1521, op_call 109 3 1524),
  (1524, op_aload 2 1525),
  (1525, op_aload 0 1526),
  (1526, op_iload 3 1527),
  (1527, op_push (zi 1) 1528),
  (1528, op_ii (· + ·) 1529),
  (1529, op_sald L 1530),
  (1530, op_aload 0 1531),
  (1531, op_iload 3 1532),
  (1532, op_push (zi 2) 1533),
  (1533, op_ii (· + ·) 1534),
  (1534, op_sald L 1535),
  (1535, op_call 230 3 1538),
  (1538, op_iceq 1948 1541),
  (1541, op_push (zi 0) 1542),
  (1542, op_zret),
  (1543, op_aload 1 1544),
  (1544, op_aload 0 1545),
  (1545, op_iload 3 1546),
  (1546, op_push (zi 1) 1547),
  (1547, op_ii (· + ·) 1548),
  (1548, op_sald L 1549),
  (1549, op_call 110 2 1552),
  (1552, op_aload 2 1553),
  (1553, op_aload 0 1554)]
noncomputable def kl253_26 (L : Nat) : List (Nat × eb_O) := [
  (1554, op_iload 3 1555),
  (1555, op_push (zi 1) 1556),
  (1556, op_ii (· + ·) 1557),
  (1557, op_sald L 1558),
  (1558, op_call 231 2 1561),
  (1561, op_iceq 1948 1564),
  (1564, op_push (zi 0) 1565),
  (1565, op_zret),
  (1566, op_aload 1 1567),
  (1567, op_aload 0 1568),
  (1568, op_iload 3 1569),
  (1569, op_push (zi 1) 1570),
  (1570, op_ii (· + ·) 1571),
  (1571, op_sald L 1572),
  (1572, op_aload 0 1573),
  (1573, op_iload 3 1574),
  (1574, op_push (zi 2) 1575),
  (1575, op_ii (· + ·) 1576),
  (1576, op_sald L 1577),
  (1577, op_call 111 3 1580),
  (1580, op_aload 2 1581),
  (1581, op_aload 0 1582),
  (1582, op_iload 3 1583),
  (1583, op_push (zi 1) 1584),
  (1584, op_ii (· + ·) 1585),
  (1585, op_sald L 1586),
  (1586, op_aload 0 1587),
  (1587, op_iload 3 1588),
  (1588, op_push (zi 2) 1589),
  (1589, op_ii (· + ·) 1590),
  (1590, op_sald L 1591),
  (1591, op_call 233 3 1594),
  (1594, op_iceq 1948 1597),
  (1597, op_push (zi 0) 1598),
  (1598, op_zret),
  (1599, op_aload 1 1600),
  (1600, op_aload 0 1601),
  (1601, op_iload 3 1602),
  (1602, op_push (zi 1) 1603),
  (1603, op_ii (· + ·) 1604)]
noncomputable def kl253_27 (L : Nat) : List (Nat × eb_O) := [
  (1604, op_sald L 1605),
  (1605, op_aload 0 1606),
  (1606, op_iload 3 1607),
  (1607, op_push (zi 2) 1608),
  (1608, op_ii (· + ·) 1609),
  (1609, op_sald L 1610),
  (1610, op_call 112 3 1613),
  (1613, op_aload 2 1614),
  (1614, op_aload 0 1615),
  (1615, op_iload 3 1616),
  (1616, op_push (zi 1) 1617),
  (1617, op_ii (· + ·) 1618),
  (1618, op_sald L 1619),
  (1619, op_aload 0 1620),
  (1620, op_iload 3 1621),
  (1621, op_push (zi 2) 1622),
  (1622, op_ii (· + ·) 1623),
  (1623, op_sald L 1624),
  (1624, op_call 235 3 1627),
  (1627, op_iceq 1948 1630),
  (1630, op_push (zi 0) 1631),
  (1631, op_zret),
  (1632, op_aload 1 1633),
  (1633, op_aload 0 1634),
  (1634, op_iload 3 1635),
  (1635, op_push (zi 1) 1636),
  (1636, op_ii (· + ·) 1637),
  (1637, op_sald L 1638),
  (1638, op_aload 0 1639),
  (1639, op_iload 3 1640),
  (1640, op_push (zi 2) 1641),
  (1641, op_ii (· + ·) 1642),
  (1642, op_sald L 1643),
  (1643, op_aload 0 1644),
  (1644, op_iload 3 1645),
  (1645, op_push (zi 3) 1646),
  (1646, op_ii (· + ·) 1647),
  (1647, op_sald L 1648),
  (1648, op_call 113 4 1651),
  (1651, op_aload 2 1652)]
noncomputable def kl253_28 (L : Nat) : List (Nat × eb_O) := [
  (1652, op_aload 0 1653),
  (1653, op_iload 3 1654),
  (1654, op_push (zi 1) 1655),
  (1655, op_ii (· + ·) 1656),
  (1656, op_sald L 1657),
  (1657, op_aload 0 1658),
  (1658, op_iload 3 1659),
  (1659, op_push (zi 2) 1660),
  (1660, op_ii (· + ·) 1661),
  (1661, op_sald L 1662),
  (1662, op_aload 0 1663),
  (1663, op_iload 3 1664),
  (1664, op_push (zi 3) 1665),
  (1665, op_ii (· + ·) 1666),
  (1666, op_sald L 1667),
  (1667, op_call 236 4 1670),
  (1670, op_iceq 1948 1673),
  (1673, op_push (zi 0) 1674),
  (1674, op_zret),
  (1675, op_aload 1 1676),
  (1676, op_aload 0 1677),
  (1677, op_iload 3 1678),
  (1678, op_push (zi 1) 1679),
  (1679, op_ii (· + ·) 1680),
  (1680, op_sald L 1681),
  (1681, op_aload 0 1682),
  (1682, op_iload 3 1683),
  (1683, op_push (zi 2) 1684),
  (1684, op_ii (· + ·) 1685),
  (1685, op_sald L 1686),
  (1686, op_call 114 3 1689),
  (1689, op_aload 2 1690),
  (1690, op_aload 0 1691),
  (1691, op_iload 3 1692),
  (1692, op_push (zi 1) 1693),
  (1693, op_ii (· + ·) 1694),
  (1694, op_sald L 1695),
  (1695, op_aload 0 1696),
  (1696, op_iload 3 1697),
  (1697, op_push (zi 2) 1698)]
noncomputable def kl253_29 (L : Nat) : List (Nat × eb_O) := [
  (1698, op_ii (· + ·) 1699),
  (1699, op_sald L 1700),
  (1700, op_call 237 3 1703),
  (1703, op_iceq 1948 1706),
  (1706, op_push (zi 0) 1707),
  (1707, op_zret),
  (1708, op_aload 1 1709),
  (1709, op_aload 0 1710),
  (1710, op_iload 3 1711),
  (1711, op_push (zi 1) 1712),
  (1712, op_ii (· + ·) 1713),
  (1713, op_sald L 1714),
  (1714, op_aload 0 1715),
  (1715, op_iload 3 1716),
  (1716, op_push (zi 2) 1717),
  (1717, op_ii (· + ·) 1718),
  (1718, op_sald L 1719),
  (1719, op_aload 0 1720),
  (1720, op_iload 3 1721),
  (1721, op_push (zi 3) 1722),
  (1722, op_ii (· + ·) 1723),
  (1723, op_sald L 1724),
  (1724, op_aload 0 1725),
  (1725, op_iload 3 1726),
  (1726, op_push (zi 4) 1727),
  (1727, op_ii (· + ·) 1728),
  (1728, op_sald L 1729),
  (1729, op_call 115 5 1732),
  (1732, op_aload 2 1733),
  (1733, op_aload 0 1734),
  (1734, op_iload 3 1735),
  (1735, op_push (zi 1) 1736),
  (1736, op_ii (· + ·) 1737),
  (1737, op_sald L 1738),
  (1738, op_aload 0 1739),
  (1739, op_iload 3 1740),
  (1740, op_push (zi 2) 1741),
  (1741, op_ii (· + ·) 1742),
  (1742, op_sald L 1743),
  (1743, op_aload 0 1744)]
noncomputable def kl253_30 (L : Nat) : List (Nat × eb_O) := [
  (1744, op_iload 3 1745),
  (1745, op_push (zi 3) 1746),
  (1746, op_ii (· + ·) 1747),
  (1747, op_sald L 1748),
  (1748, op_aload 0 1749),
  (1749, op_iload 3 1750),
  (1750, op_push (zi 4) 1751),
  (1751, op_ii (· + ·) 1752),
  (1752, op_sald L 1753),
  (1753, op_call 238 5 1756),
  (1756, op_iceq 1948 1759),
  (1759, op_push (zi 0) 1760),
  (1760, op_zret),
  (1761, op_aload 1 1762),
  (1762, op_aload 0 1763),
  (1763, op_iload 3 1764),
  (1764, op_push (zi 1) 1765),
  (1765, op_ii (· + ·) 1766),
  (1766, op_sald L 1767),
  (1767, op_call 116 2 1770),
  (1770, op_aload 2 1771),
  (1771, op_aload 0 1772),
  (1772, op_iload 3 1773),
  (1773, op_push (zi 1) 1774),
  (1774, op_ii (· + ·) 1775),
  (1775, op_sald L 1776),
  (1776, op_call 239 2 1779),
  (1779, op_iceq 1948 1782),
  (1782, op_push (zi 0) 1783),
  (1783, op_zret),
  (1784, op_aload 1 1785),
  (1785, op_aload 0 1786),
  (1786, op_iload 3 1787),
  (1787, op_push (zi 1) 1788),
  (1788, op_ii (· + ·) 1789),
  (1789, op_sald L 1790),
  (1790, op_aload 0 1791),
  (1791, op_iload 3 1792),
  (1792, op_push (zi 2) 1793),
  (1793, op_ii (· + ·) 1794)]
noncomputable def kl253_31 (L : Nat) : List (Nat × eb_O) := [
  (1794, op_sald L 1795),
  (1795, op_call 117 3 1798),
  (1798, op_aload 2 1799),
  (1799, op_aload 0 1800),
  (1800, op_iload 3 1801),
  (1801, op_push (zi 1) 1802),
  (1802, op_ii (· + ·) 1803),
  (1803, op_sald L 1804),
  (1804, op_aload 0 1805),
  (1805, op_iload 3 1806),
  (1806, op_push (zi 2) 1807),
  (1807, op_ii (· + ·) 1808),
  (1808, op_sald L 1809),
  (1809, op_call 240 3 1812),
  (1812, op_iceq 1948 1815),
  (1815, op_push (zi 0) 1816),
  (1816, op_zret),
  (1817, op_aload 1 1818),
  (1818, op_call 118 1 1821),
  (1821, op_aload 2 1822),
  (1822, op_call 241 1 1825),
  (1825, op_iceq 1948 1828),
  (1828, op_push (zi 0) 1829),
  (1829, op_zret),
  (1830, op_aload 1 1831),
  (1831, op_aload 0 1832),
  (1832, op_iload 3 1833),
  (1833, op_push (zi 1) 1834),
  (1834, op_ii (· + ·) 1835),
  (1835, op_sald L 1836),
  (1836, op_call 119 2 1839),
  (1839, op_aload 2 1840),
  (1840, op_aload 0 1841),
  (1841, op_iload 3 1842),
  (1842, op_push (zi 1) 1843),
  (1843, op_ii (· + ·) 1844),
  (1844, op_sald L 1845),
  (1845, op_call 242 2 1848),
  (1848, op_iceq 1948 1851),
  (1851, op_push (zi 0) 1852)]
noncomputable def kl253_32 (L : Nat) : List (Nat × eb_O) := [
  (1852, op_zret),
  (1853, op_aload 1 1854),
  (1854, op_aload 0 1855),
  (1855, op_iload 3 1856),
  (1856, op_push (zi 1) 1857),
  (1857, op_ii (· + ·) 1858),
  (1858, op_sald L 1859),
  (1859, op_call 120 2 1862),
  (1862, op_aload 2 1863),
  (1863, op_aload 0 1864),
  (1864, op_iload 3 1865),
  (1865, op_push (zi 1) 1866),
  (1866, op_ii (· + ·) 1867),
  (1867, op_sald L 1868),
  (1868, op_call 244 2 1871),
  (1871, op_iceq 1948 1874),
  (1874, op_push (zi 0) 1875),
  (1875, op_zret),
  (1876, op_aload 1 1877),
  (1877, op_aload 0 1878),
  (1878, op_iload 3 1879),
  (1879, op_push (zi 1) 1880),
  (1880, op_ii (· + ·) 1881),
  (1881, op_sald L 1882),
  (1882, op_call 121 2 1885),
  (1885, op_aload 2 1886),
  (1886, op_aload 0 1887),
  (1887, op_iload 3 1888),
  (1888, op_push (zi 1) 1889),
  (1889, op_ii (· + ·) 1890),
  (1890, op_sald L 1891),
  (1891, op_call 245 2 1894),
  (1894, op_iceq 1948 1897),
  (1897, op_push (zi 0) 1898),
  (1898, op_zret),
  (1899, op_aload 1 1900),
  (1900, op_call 122 1 1903),
  (1903, op_aload 2 1904),
  (1904, op_call 249 1 1907),
  (1907, op_iceq 1948 1910)]
noncomputable def kl253_33 (L : Nat) : List (Nat × eb_O) := [
  (1910, op_push (zi 0) 1911),
  (1911, op_zret),
  (1912, op_aload 1 1913),
  (1913, op_call 123 1 1916),
  (1916, op_aload 2 1917),
  (1917, op_call 250 1 1920),
  (1920, op_iceq 1948 1923),
  (1923, op_push (zi 0) 1924),
  (1924, op_zret),
  (1925, op_aload 1 1926),
  (1926, op_aload 0 1927),
  (1927, op_iload 3 1928),
  (1928, op_push (zi 1) 1929),
  (1929, op_ii (· + ·) 1930),
  (1930, op_sald L 1931),
  (1931, op_call 124 2 1934),
  (1934, op_aload 2 1935),
  (1935, op_aload 0 1936),
  (1936, op_iload 3 1937),
  (1937, op_push (zi 1) 1938),
  (1938, op_ii (· + ·) 1939),
  (1939, op_sald L 1940),
  (1940, op_call 251 2 1943),
  (1943, op_iceq 1948 1946),
  (1946, op_push (zi 0) 1947),
  (1947, op_zret),
  (1948, op_iinc 3 6 1951),
  (1951, op_goto 18),
  (1954, op_push (zi 1) 1955),
  (1955, op_zret)]
noncomputable def ks253_33 (L : Nat) : List (Nat × eb_O) := kl253_33 L
noncomputable def ks253_32 (L : Nat) : List (Nat × eb_O) := kl253_32 L ++ ks253_33 L
noncomputable def ks253_31 (L : Nat) : List (Nat × eb_O) := kl253_31 L ++ ks253_32 L
noncomputable def ks253_30 (L : Nat) : List (Nat × eb_O) := kl253_30 L ++ ks253_31 L
noncomputable def ks253_29 (L : Nat) : List (Nat × eb_O) := kl253_29 L ++ ks253_30 L
noncomputable def ks253_28 (L : Nat) : List (Nat × eb_O) := kl253_28 L ++ ks253_29 L
noncomputable def ks253_27 (L : Nat) : List (Nat × eb_O) := kl253_27 L ++ ks253_28 L
noncomputable def ks253_26 (L : Nat) : List (Nat × eb_O) := kl253_26 L ++ ks253_27 L
noncomputable def ks253_25 (L : Nat) : List (Nat × eb_O) := kl253_25 L ++ ks253_26 L
noncomputable def ks253_24 (L : Nat) : List (Nat × eb_O) := kl253_24 L ++ ks253_25 L
noncomputable def ks253_23 (L : Nat) : List (Nat × eb_O) := kl253_23 L ++ ks253_24 L
noncomputable def ks253_22 (L : Nat) : List (Nat × eb_O) := kl253_22 L ++ ks253_23 L
noncomputable def ks253_21 (L : Nat) : List (Nat × eb_O) := kl253_21 L ++ ks253_22 L
noncomputable def ks253_20 (L : Nat) : List (Nat × eb_O) := kl253_20 L ++ ks253_21 L
noncomputable def ks253_19 (L : Nat) : List (Nat × eb_O) := kl253_19 L ++ ks253_20 L
noncomputable def ks253_18 (L : Nat) : List (Nat × eb_O) := kl253_18 L ++ ks253_19 L
noncomputable def ks253_17 (L : Nat) : List (Nat × eb_O) := kl253_17 L ++ ks253_18 L
noncomputable def ks253_16 (L : Nat) : List (Nat × eb_O) := kl253_16 L ++ ks253_17 L
noncomputable def ks253_15 (L : Nat) : List (Nat × eb_O) := kl253_15 L ++ ks253_16 L
noncomputable def ks253_14 (L : Nat) : List (Nat × eb_O) := kl253_14 L ++ ks253_15 L
noncomputable def ks253_13 (L : Nat) : List (Nat × eb_O) := kl253_13 L ++ ks253_14 L
noncomputable def ks253_12 (L : Nat) : List (Nat × eb_O) := kl253_12 L ++ ks253_13 L
noncomputable def ks253_11 (L : Nat) : List (Nat × eb_O) := kl253_11 L ++ ks253_12 L
noncomputable def ks253_10 (L : Nat) : List (Nat × eb_O) := kl253_10 L ++ ks253_11 L
noncomputable def ks253_9 (L : Nat) : List (Nat × eb_O) := kl253_9 L ++ ks253_10 L
noncomputable def ks253_8 (L : Nat) : List (Nat × eb_O) := kl253_8 L ++ ks253_9 L
noncomputable def ks253_7 (L : Nat) : List (Nat × eb_O) := kl253_7 L ++ ks253_8 L
noncomputable def ks253_6 (L : Nat) : List (Nat × eb_O) := kl253_6 L ++ ks253_7 L
noncomputable def ks253_5 (L : Nat) : List (Nat × eb_O) := kl253_5 L ++ ks253_6 L
noncomputable def ks253_4 (L : Nat) : List (Nat × eb_O) := kl253_4 L ++ ks253_5 L
noncomputable def ks253_3 (L : Nat) : List (Nat × eb_O) := kl253_3 L ++ ks253_4 L
noncomputable def ks253_2 (L : Nat) : List (Nat × eb_O) := kl253_2 L ++ ks253_3 L
noncomputable def ks253_1 (L : Nat) : List (Nat × eb_O) := kl253_1 L ++ ks253_2 L
noncomputable def ks253_0 (L : Nat) : List (Nat × eb_O) := kl253_0 L ++ ks253_1 L
theorem ks253_eq (L : Nat) : kt253 L = ks253_0 L := rfl
theorem lk253_0 {L : Nat} (pc : Nat) (_ : 0 ≤ pc) : eb_look (kt253 L) pc = eb_look (ks253_0 L) pc := by rw [ks253_eq]
theorem lk253_1 {L : Nat} (pc : Nat) (h : 296 ≤ pc) : eb_look (kt253 L) pc = eb_look (ks253_1 L) pc := (lk253_0 pc (Nat.le_trans (Nat.le_of_ble_eq_true rfl) h)).trans (look_skip (a := kl253_0 L) (lo := 296) rfl h)
theorem lk253_2 {L : Nat} (pc : Nat) (h : 341 ≤ pc) : eb_look (kt253 L) pc = eb_look (ks253_2 L) pc := (lk253_1 pc (Nat.le_trans (Nat.le_of_ble_eq_true rfl) h)).trans (look_skip (a := kl253_1 L) (lo := 341) rfl h)
theorem lk253_3 {L : Nat} (pc : Nat) (h : 392 ≤ pc) : eb_look (kt253 L) pc = eb_look (ks253_3 L) pc := (lk253_2 pc (Nat.le_trans (Nat.le_of_ble_eq_true rfl) h)).trans (look_skip (a := kl253_2 L) (lo := 392) rfl h)
theorem lk253_4 {L : Nat} (pc : Nat) (h : 434 ≤ pc) : eb_look (kt253 L) pc = eb_look (ks253_4 L) pc := (lk253_3 pc (Nat.le_trans (Nat.le_of_ble_eq_true rfl) h)).trans (look_skip (a := kl253_3 L) (lo := 434) rfl h)
theorem lk253_5 {L : Nat} (pc : Nat) (h : 480 ≤ pc) : eb_look (kt253 L) pc = eb_look (ks253_5 L) pc := (lk253_4 pc (Nat.le_trans (Nat.le_of_ble_eq_true rfl) h)).trans (look_skip (a := kl253_4 L) (lo := 480) rfl h)
theorem lk253_6 {L : Nat} (pc : Nat) (h : 532 ≤ pc) : eb_look (kt253 L) pc = eb_look (ks253_6 L) pc := (lk253_5 pc (Nat.le_trans (Nat.le_of_ble_eq_true rfl) h)).trans (look_skip (a := kl253_5 L) (lo := 532) rfl h)
theorem lk253_7 {L : Nat} (pc : Nat) (h : 582 ≤ pc) : eb_look (kt253 L) pc = eb_look (ks253_7 L) pc := (lk253_6 pc (Nat.le_trans (Nat.le_of_ble_eq_true rfl) h)).trans (look_skip (a := kl253_6 L) (lo := 582) rfl h)
theorem lk253_8 {L : Nat} (pc : Nat) (h : 628 ≤ pc) : eb_look (kt253 L) pc = eb_look (ks253_8 L) pc := (lk253_7 pc (Nat.le_trans (Nat.le_of_ble_eq_true rfl) h)).trans (look_skip (a := kl253_7 L) (lo := 628) rfl h)
theorem lk253_9 {L : Nat} (pc : Nat) (h : 674 ≤ pc) : eb_look (kt253 L) pc = eb_look (ks253_9 L) pc := (lk253_8 pc (Nat.le_trans (Nat.le_of_ble_eq_true rfl) h)).trans (look_skip (a := kl253_8 L) (lo := 674) rfl h)
theorem lk253_10 {L : Nat} (pc : Nat) (h : 722 ≤ pc) : eb_look (kt253 L) pc = eb_look (ks253_10 L) pc := (lk253_9 pc (Nat.le_trans (Nat.le_of_ble_eq_true rfl) h)).trans (look_skip (a := kl253_9 L) (lo := 722) rfl h)
theorem lk253_11 {L : Nat} (pc : Nat) (h : 772 ≤ pc) : eb_look (kt253 L) pc = eb_look (ks253_11 L) pc := (lk253_10 pc (Nat.le_trans (Nat.le_of_ble_eq_true rfl) h)).trans (look_skip (a := kl253_10 L) (lo := 772) rfl h)
theorem lk253_12 {L : Nat} (pc : Nat) (h : 824 ≤ pc) : eb_look (kt253 L) pc = eb_look (ks253_12 L) pc := (lk253_11 pc (Nat.le_trans (Nat.le_of_ble_eq_true rfl) h)).trans (look_skip (a := kl253_11 L) (lo := 824) rfl h)
theorem lk253_13 {L : Nat} (pc : Nat) (h : 876 ≤ pc) : eb_look (kt253 L) pc = eb_look (ks253_13 L) pc := (lk253_12 pc (Nat.le_trans (Nat.le_of_ble_eq_true rfl) h)).trans (look_skip (a := kl253_12 L) (lo := 876) rfl h)
theorem lk253_14 {L : Nat} (pc : Nat) (h : 934 ≤ pc) : eb_look (kt253 L) pc = eb_look (ks253_14 L) pc := (lk253_13 pc (Nat.le_trans (Nat.le_of_ble_eq_true rfl) h)).trans (look_skip (a := kl253_13 L) (lo := 934) rfl h)
theorem lk253_15 {L : Nat} (pc : Nat) (h : 982 ≤ pc) : eb_look (kt253 L) pc = eb_look (ks253_15 L) pc := (lk253_14 pc (Nat.le_trans (Nat.le_of_ble_eq_true rfl) h)).trans (look_skip (a := kl253_14 L) (lo := 982) rfl h)
theorem lk253_16 {L : Nat} (pc : Nat) (h : 1032 ≤ pc) : eb_look (kt253 L) pc = eb_look (ks253_16 L) pc := (lk253_15 pc (Nat.le_trans (Nat.le_of_ble_eq_true rfl) h)).trans (look_skip (a := kl253_15 L) (lo := 1032) rfl h)
theorem lk253_17 {L : Nat} (pc : Nat) (h : 1090 ≤ pc) : eb_look (kt253 L) pc = eb_look (ks253_17 L) pc := (lk253_16 pc (Nat.le_trans (Nat.le_of_ble_eq_true rfl) h)).trans (look_skip (a := kl253_16 L) (lo := 1090) rfl h)
theorem lk253_18 {L : Nat} (pc : Nat) (h : 1142 ≤ pc) : eb_look (kt253 L) pc = eb_look (ks253_18 L) pc := (lk253_17 pc (Nat.le_trans (Nat.le_of_ble_eq_true rfl) h)).trans (look_skip (a := kl253_17 L) (lo := 1142) rfl h)
theorem lk253_19 {L : Nat} (pc : Nat) (h : 1202 ≤ pc) : eb_look (kt253 L) pc = eb_look (ks253_19 L) pc := (lk253_18 pc (Nat.le_trans (Nat.le_of_ble_eq_true rfl) h)).trans (look_skip (a := kl253_18 L) (lo := 1202) rfl h)
theorem lk253_20 {L : Nat} (pc : Nat) (h : 1258 ≤ pc) : eb_look (kt253 L) pc = eb_look (ks253_20 L) pc := (lk253_19 pc (Nat.le_trans (Nat.le_of_ble_eq_true rfl) h)).trans (look_skip (a := kl253_19 L) (lo := 1258) rfl h)
theorem lk253_21 {L : Nat} (pc : Nat) (h : 1310 ≤ pc) : eb_look (kt253 L) pc = eb_look (ks253_21 L) pc := (lk253_20 pc (Nat.le_trans (Nat.le_of_ble_eq_true rfl) h)).trans (look_skip (a := kl253_20 L) (lo := 1310) rfl h)
theorem lk253_22 {L : Nat} (pc : Nat) (h : 1356 ≤ pc) : eb_look (kt253 L) pc = eb_look (ks253_22 L) pc := (lk253_21 pc (Nat.le_trans (Nat.le_of_ble_eq_true rfl) h)).trans (look_skip (a := kl253_21 L) (lo := 1356) rfl h)
theorem lk253_23 {L : Nat} (pc : Nat) (h : 1408 ≤ pc) : eb_look (kt253 L) pc = eb_look (ks253_23 L) pc := (lk253_22 pc (Nat.le_trans (Nat.le_of_ble_eq_true rfl) h)).trans (look_skip (a := kl253_22 L) (lo := 1408) rfl h)
theorem lk253_24 {L : Nat} (pc : Nat) (h : 1456 ≤ pc) : eb_look (kt253 L) pc = eb_look (ks253_24 L) pc := (lk253_23 pc (Nat.le_trans (Nat.le_of_ble_eq_true rfl) h)).trans (look_skip (a := kl253_23 L) (lo := 1456) rfl h)
theorem lk253_25 {L : Nat} (pc : Nat) (h : 1502 ≤ pc) : eb_look (kt253 L) pc = eb_look (ks253_25 L) pc := (lk253_24 pc (Nat.le_trans (Nat.le_of_ble_eq_true rfl) h)).trans (look_skip (a := kl253_24 L) (lo := 1502) rfl h)
theorem lk253_26 {L : Nat} (pc : Nat) (h : 1554 ≤ pc) : eb_look (kt253 L) pc = eb_look (ks253_26 L) pc := (lk253_25 pc (Nat.le_trans (Nat.le_of_ble_eq_true rfl) h)).trans (look_skip (a := kl253_25 L) (lo := 1554) rfl h)
theorem lk253_27 {L : Nat} (pc : Nat) (h : 1604 ≤ pc) : eb_look (kt253 L) pc = eb_look (ks253_27 L) pc := (lk253_26 pc (Nat.le_trans (Nat.le_of_ble_eq_true rfl) h)).trans (look_skip (a := kl253_26 L) (lo := 1604) rfl h)
theorem lk253_28 {L : Nat} (pc : Nat) (h : 1652 ≤ pc) : eb_look (kt253 L) pc = eb_look (ks253_28 L) pc := (lk253_27 pc (Nat.le_trans (Nat.le_of_ble_eq_true rfl) h)).trans (look_skip (a := kl253_27 L) (lo := 1652) rfl h)
theorem lk253_29 {L : Nat} (pc : Nat) (h : 1698 ≤ pc) : eb_look (kt253 L) pc = eb_look (ks253_29 L) pc := (lk253_28 pc (Nat.le_trans (Nat.le_of_ble_eq_true rfl) h)).trans (look_skip (a := kl253_28 L) (lo := 1698) rfl h)
theorem lk253_30 {L : Nat} (pc : Nat) (h : 1744 ≤ pc) : eb_look (kt253 L) pc = eb_look (ks253_30 L) pc := (lk253_29 pc (Nat.le_trans (Nat.le_of_ble_eq_true rfl) h)).trans (look_skip (a := kl253_29 L) (lo := 1744) rfl h)
theorem lk253_31 {L : Nat} (pc : Nat) (h : 1794 ≤ pc) : eb_look (kt253 L) pc = eb_look (ks253_31 L) pc := (lk253_30 pc (Nat.le_trans (Nat.le_of_ble_eq_true rfl) h)).trans (look_skip (a := kl253_30 L) (lo := 1794) rfl h)
theorem lk253_32 {L : Nat} (pc : Nat) (h : 1852 ≤ pc) : eb_look (kt253 L) pc = eb_look (ks253_32 L) pc := (lk253_31 pc (Nat.le_trans (Nat.le_of_ble_eq_true rfl) h)).trans (look_skip (a := kl253_31 L) (lo := 1852) rfl h)
theorem lk253_33 {L : Nat} (pc : Nat) (h : 1910 ≤ pc) : eb_look (kt253 L) pc = eb_look (ks253_33 L) pc := (lk253_32 pc (Nat.le_trans (Nat.le_of_ble_eq_true rfl) h)).trans (look_skip (a := kl253_32 L) (lo := 1910) rfl h)
section
variable {L d : Nat} {v0 v1 v2 v3 v4 v5 v6 v7 v8 v9 v10 : Option eb_V} {a0 a1 a2 a3 a4 a5 : eb_V} {ls : List (Option eb_V)} {st : List eb_V} {M : eb_M} {nc ns : Nat} {I : eb_A → Nat → Int32} {J : eb_A → Nat → Int64} {R : eb_A → Nat → Option eb_A} {a b : eb_A}

/-! L_law -/
theorem hk253 : eb_cd L 253 = eb_look (kt253 L) := rfl
theorem h253 {r0 : Option eb_A} : eb_ev L (d + 1) 253 [Sum.inr r0] M = eb_E L d 253 0 [some (Sum.inr r0), none, none, none] [] M := eb_ev_s rfl rfl
theorem e253_0  : eb_E L d 253 0 ls (st) (nc, ns, I, J, R) = if (eb_ty L (eb_nm nc).1).1 = 5 then eb_E L d 253 3 ls (zr (eb_nm nc) :: st) (nc + 1, ns + 7, eb_zI I (eb_nm nc), J, eb_zR R (eb_nm nc) 7) else none := eb_E_iy hk253 ((congrFun (congrFun (congrFun (congrFun (lk253_0 0 (Nat.le_of_ble_eq_true rfl)) _) _) _) _).trans rfl)
theorem e253_3a {x : Int32} : eb_E L d 253 3 ls (zi x :: st) M = eb_E L d 253 4 ls (zi x :: zi x :: st) M := eb_E_s hk253 ((congrFun (congrFun (congrFun (congrFun (lk253_0 3 (Nat.le_of_ble_eq_true rfl)) _) _) _) _).trans rfl)
theorem e253_3b {x : Option eb_A} : eb_E L d 253 3 ls (Sum.inr x :: st) M = eb_E L d 253 4 ls (Sum.inr x :: Sum.inr x :: st) M := eb_E_s hk253 ((congrFun (congrFun (congrFun (congrFun (lk253_0 3 (Nat.le_of_ble_eq_true rfl)) _) _) _) _).trans rfl)
theorem e253_4 {s0 : Option eb_A} : eb_E L d 253 4 ls ([a0, Sum.inr s0]) M = (eb_ev L d 67 [a0] M).bind (fun q => eb_E L d 253 7 ls [Sum.inr s0] q.2) := eb_E_c hk253 ((congrFun (congrFun (congrFun (congrFun (lk253_0 4 (Nat.le_of_ble_eq_true rfl)) _) _) _) _).trans rfl)
theorem e253_7 {x : Option eb_A} : eb_E L d 253 7 [v0, v1, v2, v3] (Sum.inr x :: st) M = eb_E L d 253 8 [v0, some (Sum.inr x), v2, v3] (st) M := eb_E_s hk253 ((congrFun (congrFun (congrFun (congrFun (lk253_0 7 (Nat.le_of_ble_eq_true rfl)) _) _) _) _).trans rfl)
theorem e253_8  : eb_E L d 253 8 ls (st) (nc, ns, I, J, R) = if (eb_ty L (eb_nm nc).1).1 = 6 then eb_E L d 253 11 ls (zr (eb_nm nc) :: st) (nc + 1, ns + 34, eb_zI I (eb_nm nc), J, eb_zR R (eb_nm nc) 34) else none := eb_E_iy hk253 ((congrFun (congrFun (congrFun (congrFun (lk253_0 8 (Nat.le_of_ble_eq_true rfl)) _) _) _) _).trans rfl)
theorem e253_11a {x : Int32} : eb_E L d 253 11 ls (zi x :: st) M = eb_E L d 253 12 ls (zi x :: zi x :: st) M := eb_E_s hk253 ((congrFun (congrFun (congrFun (congrFun (lk253_0 11 (Nat.le_of_ble_eq_true rfl)) _) _) _) _).trans rfl)
theorem e253_11b {x : Option eb_A} : eb_E L d 253 11 ls (Sum.inr x :: st) M = eb_E L d 253 12 ls (Sum.inr x :: Sum.inr x :: st) M := eb_E_s hk253 ((congrFun (congrFun (congrFun (congrFun (lk253_0 11 (Nat.le_of_ble_eq_true rfl)) _) _) _) _).trans rfl)
theorem e253_12 {s0 : Option eb_A} : eb_E L d 253 12 ls ([a0, Sum.inr s0]) M = (eb_ev L d 144 [a0] M).bind (fun q => eb_E L d 253 15 ls [Sum.inr s0] q.2) := eb_E_c hk253 ((congrFun (congrFun (congrFun (congrFun (lk253_0 12 (Nat.le_of_ble_eq_true rfl)) _) _) _) _).trans rfl)
theorem e253_15 {x : Option eb_A} : eb_E L d 253 15 [v0, v1, v2, v3] (Sum.inr x :: st) M = eb_E L d 253 16 [v0, v1, some (Sum.inr x), v3] (st) M := eb_E_s hk253 ((congrFun (congrFun (congrFun (congrFun (lk253_0 15 (Nat.le_of_ble_eq_true rfl)) _) _) _) _).trans rfl)
theorem e253_16  : eb_E L d 253 16 ls (st) M = eb_E L d 253 17 ls (zi 0 :: st) M := eb_E_s hk253 ((congrFun (congrFun (congrFun (congrFun (lk253_0 16 (Nat.le_of_ble_eq_true rfl)) _) _) _) _).trans rfl)
theorem e253_17 {x : Int32} : eb_E L d 253 17 [v0, v1, v2, v3] (zi x :: st) M = eb_E L d 253 18 [v0, v1, v2, some (zi x)] (st) M := eb_E_s hk253 ((congrFun (congrFun (congrFun (congrFun (lk253_0 17 (Nat.le_of_ble_eq_true rfl)) _) _) _) _).trans rfl)
theorem e253_18 {x : Int32} : eb_E L d 253 18 [v0, v1, v2, some (zi x)] (st) M = eb_E L d 253 19 [v0, v1, v2, some (zi x)] (zi x :: st) M := eb_E_s hk253 ((congrFun (congrFun (congrFun (congrFun (lk253_0 18 (Nat.le_of_ble_eq_true rfl)) _) _) _) _).trans rfl)
theorem e253_19 {x : Option eb_A} : eb_E L d 253 19 [some (Sum.inr x), v1, v2, v3] (st) M = eb_E L d 253 20 [some (Sum.inr x), v1, v2, v3] (Sum.inr x :: st) M := eb_E_s hk253 ((congrFun (congrFun (congrFun (congrFun (lk253_0 19 (Nat.le_of_ble_eq_true rfl)) _) _) _) _).trans rfl)
theorem e253_20  : eb_E L d 253 20 ls (Sum.inr (some a) :: st) (nc, ns, I, J, R) = if (eb_ty L a.1).1 = 17 then eb_E L d 253 21 ls (zi (nI (eb_ty L a.1).2) :: st) (nc, ns, I, J, R) else none := eb_E_iy hk253 ((congrFun (congrFun (congrFun (congrFun (lk253_0 20 (Nat.le_of_ble_eq_true rfl)) _) _) _) _).trans rfl)
theorem e253_21  : eb_E L d 253 21 ls (st) M = eb_E L d 253 23 ls (zi 6 :: st) M := eb_E_s hk253 ((congrFun (congrFun (congrFun (congrFun (lk253_0 21 (Nat.le_of_ble_eq_true rfl)) _) _) _) _).trans rfl)
theorem e253_23 {x : Int32} {y : Int32} : eb_E L d 253 23 ls (zi y :: zi x :: st) M = eb_E L d 253 24 ls (zi (x - y) :: st) M := eb_E_s hk253 ((congrFun (congrFun (congrFun (congrFun (lk253_0 23 (Nat.le_of_ble_eq_true rfl)) _) _) _) _).trans rfl)
theorem e253_24 {x : Int32} {y : Int32} : eb_E L d 253 24 ls (zi y :: zi x :: st) M = if y < x then eb_E L d 253 1954 ls st M else eb_E L d 253 27 ls st M := eb_E_b hk253 ((congrFun (congrFun (congrFun (congrFun (lk253_0 24 (Nat.le_of_ble_eq_true rfl)) _) _) _) _).trans rfl)
theorem e253_27 {x : Option eb_A} : eb_E L d 253 27 [some (Sum.inr x), v1, v2, v3] (st) M = eb_E L d 253 28 [some (Sum.inr x), v1, v2, v3] (Sum.inr x :: st) M := eb_E_s hk253 ((congrFun (congrFun (congrFun (congrFun (lk253_0 27 (Nat.le_of_ble_eq_true rfl)) _) _) _) _).trans rfl)
theorem e253_28 {x : Int32} : eb_E L d 253 28 [v0, v1, v2, some (zi x)] (st) M = eb_E L d 253 29 [v0, v1, v2, some (zi x)] (zi x :: st) M := eb_E_s hk253 ((congrFun (congrFun (congrFun (congrFun (lk253_0 28 (Nat.le_of_ble_eq_true rfl)) _) _) _) _).trans rfl)
theorem e253_29 {x : Int32} : eb_E L d 253 29 ls (zi x :: Sum.inr (some a) :: st) (nc, ns, I, J, R) = if (eb_ty L a.1).1 = 17 ∧ eb_in x (eb_ty L a.1).2 = true then eb_E L d 253 30 ls (zi (I a x.toNatClampNeg) :: st) (nc, ns, I, J, R) else none := eb_E_iy hk253 ((congrFun (congrFun (congrFun (congrFun (lk253_0 29 (Nat.le_of_ble_eq_true rfl)) _) _) _) _).trans rfl)
theorem e253_30  : eb_E L d 253 30 ls (st) M = eb_E L d 253 32 ls (zi 63 :: st) M := eb_E_s hk253 ((congrFun (congrFun (congrFun (congrFun (lk253_0 30 (Nat.le_of_ble_eq_true rfl)) _) _) _) _).trans rfl)
theorem e253_32 {x : Int32} {y : Int32} : eb_E L d 253 32 ls (zi y :: zi x :: st) M = eb_E L d 253 33 ls (zi (x &&& y) :: st) M := eb_E_s hk253 ((congrFun (congrFun (congrFun (congrFun (lk253_0 32 (Nat.le_of_ble_eq_true rfl)) _) _) _) _).trans rfl)
theorem e253_33 {x : Int32} : eb_E L d 253 33 ls (zi x :: st) M = eb_sw x (fun t => eb_E L d 253 t ls st M) 1948 [(0, 276), (1, 319), (2, 392), (3, 455), (4, 489), (5, 512), (6, 545), (7, 578), (8, 621), (9, 664), (10, 707), (11, 740), (12, 763), (13, 796), (14, 819), (15, 852), (16, 875), (17, 888), (18, 901), (19, 934), (20, 967), (21, 1000), (22, 1033), (23, 1056), (24, 1079), (25, 1092), (26, 1115), (27, 1138), (28, 1161), (29, 1184), (30, 1197), (31, 1210), (32, 1233), (33, 1256), (34, 1279), (35, 1302), (36, 1345), (37, 1378), (38, 1401), (39, 1434), (40, 1477), (41, 1510), (42, 1543), (43, 1566), (44, 1599), (45, 1632), (46, 1675), (47, 1708), (48, 1761), (49, 1784), (50, 1817), (51, 1830), (52, 1853), (53, 1876), (54, 1899), (55, 1912), (56, 1925)] := eb_E_w hk253 ((congrFun (congrFun (congrFun (congrFun (lk253_0 33 (Nat.le_of_ble_eq_true rfl)) _) _) _) _).trans rfl)
theorem e253_276 {x : Option eb_A} : eb_E L d 253 276 [v0, some (Sum.inr x), v2, v3] (st) M = eb_E L d 253 277 [v0, some (Sum.inr x), v2, v3] (Sum.inr x :: st) M := eb_E_s hk253 ((congrFun (congrFun (congrFun (congrFun (lk253_0 276 (Nat.le_of_ble_eq_true rfl)) _) _) _) _).trans rfl)
theorem e253_277 {x : Option eb_A} : eb_E L d 253 277 [some (Sum.inr x), v1, v2, v3] (st) M = eb_E L d 253 278 [some (Sum.inr x), v1, v2, v3] (Sum.inr x :: st) M := eb_E_s hk253 ((congrFun (congrFun (congrFun (congrFun (lk253_0 277 (Nat.le_of_ble_eq_true rfl)) _) _) _) _).trans rfl)
theorem e253_278 {x : Int32} : eb_E L d 253 278 [v0, v1, v2, some (zi x)] (st) M = eb_E L d 253 279 [v0, v1, v2, some (zi x)] (zi x :: st) M := eb_E_s hk253 ((congrFun (congrFun (congrFun (congrFun (lk253_0 278 (Nat.le_of_ble_eq_true rfl)) _) _) _) _).trans rfl)
theorem e253_279  : eb_E L d 253 279 ls (st) M = eb_E L d 253 280 ls (zi 1 :: st) M := eb_E_s hk253 ((congrFun (congrFun (congrFun (congrFun (lk253_0 279 (Nat.le_of_ble_eq_true rfl)) _) _) _) _).trans rfl)
theorem e253_280 {x : Int32} {y : Int32} : eb_E L d 253 280 ls (zi y :: zi x :: st) M = eb_E L d 253 281 ls (zi (x + y) :: st) M := eb_E_s hk253 ((congrFun (congrFun (congrFun (congrFun (lk253_0 280 (Nat.le_of_ble_eq_true rfl)) _) _) _) _).trans rfl)
theorem e253_281 {x : Int32} : eb_E L d 253 281 ls (zi x :: Sum.inr (some a) :: st) (nc, ns, I, J, R) = if (eb_ty L a.1).1 = 17 ∧ eb_in x (eb_ty L a.1).2 = true then eb_E L d 253 282 ls (zi (I a x.toNatClampNeg) :: st) (nc, ns, I, J, R) else none := eb_E_iy hk253 ((congrFun (congrFun (congrFun (congrFun (lk253_0 281 (Nat.le_of_ble_eq_true rfl)) _) _) _) _).trans rfl)
theorem e253_282 {x : Option eb_A} : eb_E L d 253 282 [some (Sum.inr x), v1, v2, v3] (st) M = eb_E L d 253 283 [some (Sum.inr x), v1, v2, v3] (Sum.inr x :: st) M := eb_E_s hk253 ((congrFun (congrFun (congrFun (congrFun (lk253_0 282 (Nat.le_of_ble_eq_true rfl)) _) _) _) _).trans rfl)
theorem e253_283 {x : Int32} : eb_E L d 253 283 [v0, v1, v2, some (zi x)] (st) M = eb_E L d 253 284 [v0, v1, v2, some (zi x)] (zi x :: st) M := eb_E_s hk253 ((congrFun (congrFun (congrFun (congrFun (lk253_0 283 (Nat.le_of_ble_eq_true rfl)) _) _) _) _).trans rfl)
theorem e253_284  : eb_E L d 253 284 ls (st) M = eb_E L d 253 285 ls (zi 2 :: st) M := eb_E_s hk253 ((congrFun (congrFun (congrFun (congrFun (lk253_0 284 (Nat.le_of_ble_eq_true rfl)) _) _) _) _).trans rfl)
theorem e253_285 {x : Int32} {y : Int32} : eb_E L d 253 285 ls (zi y :: zi x :: st) M = eb_E L d 253 286 ls (zi (x + y) :: st) M := eb_E_s hk253 ((congrFun (congrFun (congrFun (congrFun (lk253_0 285 (Nat.le_of_ble_eq_true rfl)) _) _) _) _).trans rfl)
theorem e253_286 {x : Int32} : eb_E L d 253 286 ls (zi x :: Sum.inr (some a) :: st) (nc, ns, I, J, R) = if (eb_ty L a.1).1 = 17 ∧ eb_in x (eb_ty L a.1).2 = true then eb_E L d 253 287 ls (zi (I a x.toNatClampNeg) :: st) (nc, ns, I, J, R) else none := eb_E_iy hk253 ((congrFun (congrFun (congrFun (congrFun (lk253_0 286 (Nat.le_of_ble_eq_true rfl)) _) _) _) _).trans rfl)
theorem e253_287 {x : Option eb_A} : eb_E L d 253 287 [some (Sum.inr x), v1, v2, v3] (st) M = eb_E L d 253 288 [some (Sum.inr x), v1, v2, v3] (Sum.inr x :: st) M := eb_E_s hk253 ((congrFun (congrFun (congrFun (congrFun (lk253_0 287 (Nat.le_of_ble_eq_true rfl)) _) _) _) _).trans rfl)
theorem e253_288 {x : Int32} : eb_E L d 253 288 [v0, v1, v2, some (zi x)] (st) M = eb_E L d 253 289 [v0, v1, v2, some (zi x)] (zi x :: st) M := eb_E_s hk253 ((congrFun (congrFun (congrFun (congrFun (lk253_0 288 (Nat.le_of_ble_eq_true rfl)) _) _) _) _).trans rfl)
theorem e253_289  : eb_E L d 253 289 ls (st) M = eb_E L d 253 290 ls (zi 3 :: st) M := eb_E_s hk253 ((congrFun (congrFun (congrFun (congrFun (lk253_0 289 (Nat.le_of_ble_eq_true rfl)) _) _) _) _).trans rfl)
theorem e253_290 {x : Int32} {y : Int32} : eb_E L d 253 290 ls (zi y :: zi x :: st) M = eb_E L d 253 291 ls (zi (x + y) :: st) M := eb_E_s hk253 ((congrFun (congrFun (congrFun (congrFun (lk253_0 290 (Nat.le_of_ble_eq_true rfl)) _) _) _) _).trans rfl)
theorem e253_291 {x : Int32} : eb_E L d 253 291 ls (zi x :: Sum.inr (some a) :: st) (nc, ns, I, J, R) = if (eb_ty L a.1).1 = 17 ∧ eb_in x (eb_ty L a.1).2 = true then eb_E L d 253 292 ls (zi (I a x.toNatClampNeg) :: st) (nc, ns, I, J, R) else none := eb_E_iy hk253 ((congrFun (congrFun (congrFun (congrFun (lk253_0 291 (Nat.le_of_ble_eq_true rfl)) _) _) _) _).trans rfl)
theorem e253_292  : eb_E L d 253 292 ls ([a3, a2, a1, a0]) M = (eb_ev L d 68 [a0, a1, a2, a3] M).bind (fun q => eb_E L d 253 295 ls [q.1] q.2) := eb_E_c hk253 ((congrFun (congrFun (congrFun (congrFun (lk253_0 292 (Nat.le_of_ble_eq_true rfl)) _) _) _) _).trans rfl)
theorem e253_295 {x : Option eb_A} : eb_E L d 253 295 [v0, v1, some (Sum.inr x), v3] (st) M = eb_E L d 253 296 [v0, v1, some (Sum.inr x), v3] (Sum.inr x :: st) M := eb_E_s hk253 ((congrFun (congrFun (congrFun (congrFun (lk253_0 295 (Nat.le_of_ble_eq_true rfl)) _) _) _) _).trans rfl)
theorem e253_296 {x : Option eb_A} : eb_E L d 253 296 [some (Sum.inr x), v1, v2, v3] (st) M = eb_E L d 253 297 [some (Sum.inr x), v1, v2, v3] (Sum.inr x :: st) M := eb_E_s hk253 ((congrFun (congrFun (congrFun (congrFun (lk253_1 296 (Nat.le_of_ble_eq_true rfl)) _) _) _) _).trans rfl)
theorem e253_297 {x : Int32} : eb_E L d 253 297 [v0, v1, v2, some (zi x)] (st) M = eb_E L d 253 298 [v0, v1, v2, some (zi x)] (zi x :: st) M := eb_E_s hk253 ((congrFun (congrFun (congrFun (congrFun (lk253_1 297 (Nat.le_of_ble_eq_true rfl)) _) _) _) _).trans rfl)
theorem e253_298  : eb_E L d 253 298 ls (st) M = eb_E L d 253 299 ls (zi 1 :: st) M := eb_E_s hk253 ((congrFun (congrFun (congrFun (congrFun (lk253_1 298 (Nat.le_of_ble_eq_true rfl)) _) _) _) _).trans rfl)
theorem e253_299 {x : Int32} {y : Int32} : eb_E L d 253 299 ls (zi y :: zi x :: st) M = eb_E L d 253 300 ls (zi (x + y) :: st) M := eb_E_s hk253 ((congrFun (congrFun (congrFun (congrFun (lk253_1 299 (Nat.le_of_ble_eq_true rfl)) _) _) _) _).trans rfl)
theorem e253_300 {x : Int32} : eb_E L d 253 300 ls (zi x :: Sum.inr (some a) :: st) (nc, ns, I, J, R) = if (eb_ty L a.1).1 = 17 ∧ eb_in x (eb_ty L a.1).2 = true then eb_E L d 253 301 ls (zi (I a x.toNatClampNeg) :: st) (nc, ns, I, J, R) else none := eb_E_iy hk253 ((congrFun (congrFun (congrFun (congrFun (lk253_1 300 (Nat.le_of_ble_eq_true rfl)) _) _) _) _).trans rfl)
theorem e253_301 {x : Option eb_A} : eb_E L d 253 301 [some (Sum.inr x), v1, v2, v3] (st) M = eb_E L d 253 302 [some (Sum.inr x), v1, v2, v3] (Sum.inr x :: st) M := eb_E_s hk253 ((congrFun (congrFun (congrFun (congrFun (lk253_1 301 (Nat.le_of_ble_eq_true rfl)) _) _) _) _).trans rfl)
theorem e253_302 {x : Int32} : eb_E L d 253 302 [v0, v1, v2, some (zi x)] (st) M = eb_E L d 253 303 [v0, v1, v2, some (zi x)] (zi x :: st) M := eb_E_s hk253 ((congrFun (congrFun (congrFun (congrFun (lk253_1 302 (Nat.le_of_ble_eq_true rfl)) _) _) _) _).trans rfl)
theorem e253_303  : eb_E L d 253 303 ls (st) M = eb_E L d 253 304 ls (zi 2 :: st) M := eb_E_s hk253 ((congrFun (congrFun (congrFun (congrFun (lk253_1 303 (Nat.le_of_ble_eq_true rfl)) _) _) _) _).trans rfl)
theorem e253_304 {x : Int32} {y : Int32} : eb_E L d 253 304 ls (zi y :: zi x :: st) M = eb_E L d 253 305 ls (zi (x + y) :: st) M := eb_E_s hk253 ((congrFun (congrFun (congrFun (congrFun (lk253_1 304 (Nat.le_of_ble_eq_true rfl)) _) _) _) _).trans rfl)
theorem e253_305 {x : Int32} : eb_E L d 253 305 ls (zi x :: Sum.inr (some a) :: st) (nc, ns, I, J, R) = if (eb_ty L a.1).1 = 17 ∧ eb_in x (eb_ty L a.1).2 = true then eb_E L d 253 306 ls (zi (I a x.toNatClampNeg) :: st) (nc, ns, I, J, R) else none := eb_E_iy hk253 ((congrFun (congrFun (congrFun (congrFun (lk253_1 305 (Nat.le_of_ble_eq_true rfl)) _) _) _) _).trans rfl)
theorem e253_306 {x : Option eb_A} : eb_E L d 253 306 [some (Sum.inr x), v1, v2, v3] (st) M = eb_E L d 253 307 [some (Sum.inr x), v1, v2, v3] (Sum.inr x :: st) M := eb_E_s hk253 ((congrFun (congrFun (congrFun (congrFun (lk253_1 306 (Nat.le_of_ble_eq_true rfl)) _) _) _) _).trans rfl)
theorem e253_307 {x : Int32} : eb_E L d 253 307 [v0, v1, v2, some (zi x)] (st) M = eb_E L d 253 308 [v0, v1, v2, some (zi x)] (zi x :: st) M := eb_E_s hk253 ((congrFun (congrFun (congrFun (congrFun (lk253_1 307 (Nat.le_of_ble_eq_true rfl)) _) _) _) _).trans rfl)
theorem e253_308  : eb_E L d 253 308 ls (st) M = eb_E L d 253 309 ls (zi 3 :: st) M := eb_E_s hk253 ((congrFun (congrFun (congrFun (congrFun (lk253_1 308 (Nat.le_of_ble_eq_true rfl)) _) _) _) _).trans rfl)
theorem e253_309 {x : Int32} {y : Int32} : eb_E L d 253 309 ls (zi y :: zi x :: st) M = eb_E L d 253 310 ls (zi (x + y) :: st) M := eb_E_s hk253 ((congrFun (congrFun (congrFun (congrFun (lk253_1 309 (Nat.le_of_ble_eq_true rfl)) _) _) _) _).trans rfl)
theorem e253_310 {x : Int32} : eb_E L d 253 310 ls (zi x :: Sum.inr (some a) :: st) (nc, ns, I, J, R) = if (eb_ty L a.1).1 = 17 ∧ eb_in x (eb_ty L a.1).2 = true then eb_E L d 253 311 ls (zi (I a x.toNatClampNeg) :: st) (nc, ns, I, J, R) else none := eb_E_iy hk253 ((congrFun (congrFun (congrFun (congrFun (lk253_1 310 (Nat.le_of_ble_eq_true rfl)) _) _) _) _).trans rfl)
theorem e253_311 {s0 : Int32} : eb_E L d 253 311 ls ([a3, a2, a1, a0, zi s0]) M = (eb_ev L d 151 [a0, a1, a2, a3] M).bind (fun q => eb_E L d 253 314 ls [q.1, zi s0] q.2) := eb_E_c hk253 ((congrFun (congrFun (congrFun (congrFun (lk253_1 311 (Nat.le_of_ble_eq_true rfl)) _) _) _) _).trans rfl)
theorem e253_314 {x : Int32} {y : Int32} : eb_E L d 253 314 ls (zi y :: zi x :: st) M = if x = y then eb_E L d 253 1948 ls st M else eb_E L d 253 317 ls st M := eb_E_b hk253 ((congrFun (congrFun (congrFun (congrFun (lk253_1 314 (Nat.le_of_ble_eq_true rfl)) _) _) _) _).trans rfl)
theorem e253_317  : eb_E L d 253 317 ls (st) M = eb_E L d 253 318 ls (zi 0 :: st) M := eb_E_s hk253 ((congrFun (congrFun (congrFun (congrFun (lk253_1 317 (Nat.le_of_ble_eq_true rfl)) _) _) _) _).trans rfl)
theorem e253_318 {x : Int32} : eb_E L d 253 318 ls ([zi x]) M = if x = 0 ∨ x = 1 then some (zi x, M) else none := eb_E_ri hk253 ((congrFun (congrFun (congrFun (congrFun (lk253_1 318 (Nat.le_of_ble_eq_true rfl)) _) _) _) _).trans rfl)
theorem e253_319 {x : Option eb_A} : eb_E L d 253 319 [v0, some (Sum.inr x), v2, v3] (st) M = eb_E L d 253 320 [v0, some (Sum.inr x), v2, v3] (Sum.inr x :: st) M := eb_E_s hk253 ((congrFun (congrFun (congrFun (congrFun (lk253_1 319 (Nat.le_of_ble_eq_true rfl)) _) _) _) _).trans rfl)
theorem e253_320 {x : Option eb_A} : eb_E L d 253 320 [some (Sum.inr x), v1, v2, v3] (st) M = eb_E L d 253 321 [some (Sum.inr x), v1, v2, v3] (Sum.inr x :: st) M := eb_E_s hk253 ((congrFun (congrFun (congrFun (congrFun (lk253_1 320 (Nat.le_of_ble_eq_true rfl)) _) _) _) _).trans rfl)
theorem e253_321 {x : Int32} : eb_E L d 253 321 [v0, v1, v2, some (zi x)] (st) M = eb_E L d 253 322 [v0, v1, v2, some (zi x)] (zi x :: st) M := eb_E_s hk253 ((congrFun (congrFun (congrFun (congrFun (lk253_1 321 (Nat.le_of_ble_eq_true rfl)) _) _) _) _).trans rfl)
theorem e253_322  : eb_E L d 253 322 ls (st) M = eb_E L d 253 323 ls (zi 1 :: st) M := eb_E_s hk253 ((congrFun (congrFun (congrFun (congrFun (lk253_1 322 (Nat.le_of_ble_eq_true rfl)) _) _) _) _).trans rfl)
theorem e253_323 {x : Int32} {y : Int32} : eb_E L d 253 323 ls (zi y :: zi x :: st) M = eb_E L d 253 324 ls (zi (x + y) :: st) M := eb_E_s hk253 ((congrFun (congrFun (congrFun (congrFun (lk253_1 323 (Nat.le_of_ble_eq_true rfl)) _) _) _) _).trans rfl)
theorem e253_324 {x : Int32} : eb_E L d 253 324 ls (zi x :: Sum.inr (some a) :: st) (nc, ns, I, J, R) = if (eb_ty L a.1).1 = 17 ∧ eb_in x (eb_ty L a.1).2 = true then eb_E L d 253 325 ls (zi (I a x.toNatClampNeg) :: st) (nc, ns, I, J, R) else none := eb_E_iy hk253 ((congrFun (congrFun (congrFun (congrFun (lk253_1 324 (Nat.le_of_ble_eq_true rfl)) _) _) _) _).trans rfl)
theorem e253_325 {x : Option eb_A} : eb_E L d 253 325 [some (Sum.inr x), v1, v2, v3] (st) M = eb_E L d 253 326 [some (Sum.inr x), v1, v2, v3] (Sum.inr x :: st) M := eb_E_s hk253 ((congrFun (congrFun (congrFun (congrFun (lk253_1 325 (Nat.le_of_ble_eq_true rfl)) _) _) _) _).trans rfl)
theorem e253_326 {x : Int32} : eb_E L d 253 326 [v0, v1, v2, some (zi x)] (st) M = eb_E L d 253 327 [v0, v1, v2, some (zi x)] (zi x :: st) M := eb_E_s hk253 ((congrFun (congrFun (congrFun (congrFun (lk253_1 326 (Nat.le_of_ble_eq_true rfl)) _) _) _) _).trans rfl)
theorem e253_327  : eb_E L d 253 327 ls (st) M = eb_E L d 253 328 ls (zi 2 :: st) M := eb_E_s hk253 ((congrFun (congrFun (congrFun (congrFun (lk253_1 327 (Nat.le_of_ble_eq_true rfl)) _) _) _) _).trans rfl)
theorem e253_328 {x : Int32} {y : Int32} : eb_E L d 253 328 ls (zi y :: zi x :: st) M = eb_E L d 253 329 ls (zi (x + y) :: st) M := eb_E_s hk253 ((congrFun (congrFun (congrFun (congrFun (lk253_1 328 (Nat.le_of_ble_eq_true rfl)) _) _) _) _).trans rfl)
theorem e253_329 {x : Int32} : eb_E L d 253 329 ls (zi x :: Sum.inr (some a) :: st) (nc, ns, I, J, R) = if (eb_ty L a.1).1 = 17 ∧ eb_in x (eb_ty L a.1).2 = true then eb_E L d 253 330 ls (zi (I a x.toNatClampNeg) :: st) (nc, ns, I, J, R) else none := eb_E_iy hk253 ((congrFun (congrFun (congrFun (congrFun (lk253_1 329 (Nat.le_of_ble_eq_true rfl)) _) _) _) _).trans rfl)
theorem e253_330 {x : Option eb_A} : eb_E L d 253 330 [some (Sum.inr x), v1, v2, v3] (st) M = eb_E L d 253 331 [some (Sum.inr x), v1, v2, v3] (Sum.inr x :: st) M := eb_E_s hk253 ((congrFun (congrFun (congrFun (congrFun (lk253_1 330 (Nat.le_of_ble_eq_true rfl)) _) _) _) _).trans rfl)
theorem e253_331 {x : Int32} : eb_E L d 253 331 [v0, v1, v2, some (zi x)] (st) M = eb_E L d 253 332 [v0, v1, v2, some (zi x)] (zi x :: st) M := eb_E_s hk253 ((congrFun (congrFun (congrFun (congrFun (lk253_1 331 (Nat.le_of_ble_eq_true rfl)) _) _) _) _).trans rfl)
theorem e253_332  : eb_E L d 253 332 ls (st) M = eb_E L d 253 333 ls (zi 3 :: st) M := eb_E_s hk253 ((congrFun (congrFun (congrFun (congrFun (lk253_1 332 (Nat.le_of_ble_eq_true rfl)) _) _) _) _).trans rfl)
theorem e253_333 {x : Int32} {y : Int32} : eb_E L d 253 333 ls (zi y :: zi x :: st) M = eb_E L d 253 334 ls (zi (x + y) :: st) M := eb_E_s hk253 ((congrFun (congrFun (congrFun (congrFun (lk253_1 333 (Nat.le_of_ble_eq_true rfl)) _) _) _) _).trans rfl)
theorem e253_334 {x : Int32} : eb_E L d 253 334 ls (zi x :: Sum.inr (some a) :: st) (nc, ns, I, J, R) = if (eb_ty L a.1).1 = 17 ∧ eb_in x (eb_ty L a.1).2 = true then eb_E L d 253 335 ls (zi (I a x.toNatClampNeg) :: st) (nc, ns, I, J, R) else none := eb_E_iy hk253 ((congrFun (congrFun (congrFun (congrFun (lk253_1 334 (Nat.le_of_ble_eq_true rfl)) _) _) _) _).trans rfl)
theorem e253_335 {x : Int32} : eb_E L d 253 335 ls (zi x :: st) M = eb_E L d 253 336 ls (zl x.toInt64 :: st) M := eb_E_s hk253 ((congrFun (congrFun (congrFun (congrFun (lk253_1 335 (Nat.le_of_ble_eq_true rfl)) _) _) _) _).trans rfl)
theorem e253_336  : eb_E L d 253 336 ls (st) M = eb_E L d 253 338 ls (zi 32 :: st) M := eb_E_s hk253 ((congrFun (congrFun (congrFun (congrFun (lk253_1 336 (Nat.le_of_ble_eq_true rfl)) _) _) _) _).trans rfl)
theorem e253_338 {x : Int64} {y : Int32} : eb_E L d 253 338 ls (zi y :: zl x :: st) M = eb_E L d 253 339 ls (zl (x <<< (y.toInt64 &&& 63)) :: st) M := eb_E_s hk253 ((congrFun (congrFun (congrFun (congrFun (lk253_1 338 (Nat.le_of_ble_eq_true rfl)) _) _) _) _).trans rfl)
theorem e253_339 {x : Option eb_A} : eb_E L d 253 339 [some (Sum.inr x), v1, v2, v3] (st) M = eb_E L d 253 340 [some (Sum.inr x), v1, v2, v3] (Sum.inr x :: st) M := eb_E_s hk253 ((congrFun (congrFun (congrFun (congrFun (lk253_1 339 (Nat.le_of_ble_eq_true rfl)) _) _) _) _).trans rfl)
theorem e253_340 {x : Int32} : eb_E L d 253 340 [v0, v1, v2, some (zi x)] (st) M = eb_E L d 253 341 [v0, v1, v2, some (zi x)] (zi x :: st) M := eb_E_s hk253 ((congrFun (congrFun (congrFun (congrFun (lk253_1 340 (Nat.le_of_ble_eq_true rfl)) _) _) _) _).trans rfl)
theorem e253_341  : eb_E L d 253 341 ls (st) M = eb_E L d 253 342 ls (zi 4 :: st) M := eb_E_s hk253 ((congrFun (congrFun (congrFun (congrFun (lk253_2 341 (Nat.le_of_ble_eq_true rfl)) _) _) _) _).trans rfl)
theorem e253_342 {x : Int32} {y : Int32} : eb_E L d 253 342 ls (zi y :: zi x :: st) M = eb_E L d 253 343 ls (zi (x + y) :: st) M := eb_E_s hk253 ((congrFun (congrFun (congrFun (congrFun (lk253_2 342 (Nat.le_of_ble_eq_true rfl)) _) _) _) _).trans rfl)
theorem e253_343 {x : Int32} : eb_E L d 253 343 ls (zi x :: Sum.inr (some a) :: st) (nc, ns, I, J, R) = if (eb_ty L a.1).1 = 17 ∧ eb_in x (eb_ty L a.1).2 = true then eb_E L d 253 344 ls (zi (I a x.toNatClampNeg) :: st) (nc, ns, I, J, R) else none := eb_E_iy hk253 ((congrFun (congrFun (congrFun (congrFun (lk253_2 343 (Nat.le_of_ble_eq_true rfl)) _) _) _) _).trans rfl)
theorem e253_344 {x : Int32} : eb_E L d 253 344 ls (zi x :: st) M = eb_E L d 253 345 ls (zl x.toInt64 :: st) M := eb_E_s hk253 ((congrFun (congrFun (congrFun (congrFun (lk253_2 344 (Nat.le_of_ble_eq_true rfl)) _) _) _) _).trans rfl)
theorem e253_345  : eb_E L d 253 345 ls (st) M = eb_E L d 253 348 ls (zl 4294967295 :: st) M := eb_E_s hk253 ((congrFun (congrFun (congrFun (congrFun (lk253_2 345 (Nat.le_of_ble_eq_true rfl)) _) _) _) _).trans rfl)
theorem e253_348 {x : Int64} {y : Int64} : eb_E L d 253 348 ls (zl y :: zl x :: st) M = eb_E L d 253 349 ls (zl (x &&& y) :: st) M := eb_E_s hk253 ((congrFun (congrFun (congrFun (congrFun (lk253_2 348 (Nat.le_of_ble_eq_true rfl)) _) _) _) _).trans rfl)
theorem e253_349 {x : Int64} {y : Int64} : eb_E L d 253 349 ls (zl y :: zl x :: st) M = eb_E L d 253 350 ls (zl (x ||| y) :: st) M := eb_E_s hk253 ((congrFun (congrFun (congrFun (congrFun (lk253_2 349 (Nat.le_of_ble_eq_true rfl)) _) _) _) _).trans rfl)
theorem e253_350  : eb_E L d 253 350 ls ([a3, a2, a1, a0]) M = (eb_ev L d 69 [a0, a1, a2, a3] M).bind (fun q => eb_E L d 253 353 ls [q.1] q.2) := eb_E_c hk253 ((congrFun (congrFun (congrFun (congrFun (lk253_2 350 (Nat.le_of_ble_eq_true rfl)) _) _) _) _).trans rfl)
theorem e253_353 {x : Option eb_A} : eb_E L d 253 353 [v0, v1, some (Sum.inr x), v3] (st) M = eb_E L d 253 354 [v0, v1, some (Sum.inr x), v3] (Sum.inr x :: st) M := eb_E_s hk253 ((congrFun (congrFun (congrFun (congrFun (lk253_2 353 (Nat.le_of_ble_eq_true rfl)) _) _) _) _).trans rfl)
theorem e253_354 {x : Option eb_A} : eb_E L d 253 354 [some (Sum.inr x), v1, v2, v3] (st) M = eb_E L d 253 355 [some (Sum.inr x), v1, v2, v3] (Sum.inr x :: st) M := eb_E_s hk253 ((congrFun (congrFun (congrFun (congrFun (lk253_2 354 (Nat.le_of_ble_eq_true rfl)) _) _) _) _).trans rfl)
theorem e253_355 {x : Int32} : eb_E L d 253 355 [v0, v1, v2, some (zi x)] (st) M = eb_E L d 253 356 [v0, v1, v2, some (zi x)] (zi x :: st) M := eb_E_s hk253 ((congrFun (congrFun (congrFun (congrFun (lk253_2 355 (Nat.le_of_ble_eq_true rfl)) _) _) _) _).trans rfl)
theorem e253_356  : eb_E L d 253 356 ls (st) M = eb_E L d 253 357 ls (zi 1 :: st) M := eb_E_s hk253 ((congrFun (congrFun (congrFun (congrFun (lk253_2 356 (Nat.le_of_ble_eq_true rfl)) _) _) _) _).trans rfl)
theorem e253_357 {x : Int32} {y : Int32} : eb_E L d 253 357 ls (zi y :: zi x :: st) M = eb_E L d 253 358 ls (zi (x + y) :: st) M := eb_E_s hk253 ((congrFun (congrFun (congrFun (congrFun (lk253_2 357 (Nat.le_of_ble_eq_true rfl)) _) _) _) _).trans rfl)
theorem e253_358 {x : Int32} : eb_E L d 253 358 ls (zi x :: Sum.inr (some a) :: st) (nc, ns, I, J, R) = if (eb_ty L a.1).1 = 17 ∧ eb_in x (eb_ty L a.1).2 = true then eb_E L d 253 359 ls (zi (I a x.toNatClampNeg) :: st) (nc, ns, I, J, R) else none := eb_E_iy hk253 ((congrFun (congrFun (congrFun (congrFun (lk253_2 358 (Nat.le_of_ble_eq_true rfl)) _) _) _) _).trans rfl)
theorem e253_359 {x : Option eb_A} : eb_E L d 253 359 [some (Sum.inr x), v1, v2, v3] (st) M = eb_E L d 253 360 [some (Sum.inr x), v1, v2, v3] (Sum.inr x :: st) M := eb_E_s hk253 ((congrFun (congrFun (congrFun (congrFun (lk253_2 359 (Nat.le_of_ble_eq_true rfl)) _) _) _) _).trans rfl)
theorem e253_360 {x : Int32} : eb_E L d 253 360 [v0, v1, v2, some (zi x)] (st) M = eb_E L d 253 361 [v0, v1, v2, some (zi x)] (zi x :: st) M := eb_E_s hk253 ((congrFun (congrFun (congrFun (congrFun (lk253_2 360 (Nat.le_of_ble_eq_true rfl)) _) _) _) _).trans rfl)
theorem e253_361  : eb_E L d 253 361 ls (st) M = eb_E L d 253 362 ls (zi 2 :: st) M := eb_E_s hk253 ((congrFun (congrFun (congrFun (congrFun (lk253_2 361 (Nat.le_of_ble_eq_true rfl)) _) _) _) _).trans rfl)
theorem e253_362 {x : Int32} {y : Int32} : eb_E L d 253 362 ls (zi y :: zi x :: st) M = eb_E L d 253 363 ls (zi (x + y) :: st) M := eb_E_s hk253 ((congrFun (congrFun (congrFun (congrFun (lk253_2 362 (Nat.le_of_ble_eq_true rfl)) _) _) _) _).trans rfl)
theorem e253_363 {x : Int32} : eb_E L d 253 363 ls (zi x :: Sum.inr (some a) :: st) (nc, ns, I, J, R) = if (eb_ty L a.1).1 = 17 ∧ eb_in x (eb_ty L a.1).2 = true then eb_E L d 253 364 ls (zi (I a x.toNatClampNeg) :: st) (nc, ns, I, J, R) else none := eb_E_iy hk253 ((congrFun (congrFun (congrFun (congrFun (lk253_2 363 (Nat.le_of_ble_eq_true rfl)) _) _) _) _).trans rfl)
theorem e253_364 {x : Option eb_A} : eb_E L d 253 364 [some (Sum.inr x), v1, v2, v3] (st) M = eb_E L d 253 365 [some (Sum.inr x), v1, v2, v3] (Sum.inr x :: st) M := eb_E_s hk253 ((congrFun (congrFun (congrFun (congrFun (lk253_2 364 (Nat.le_of_ble_eq_true rfl)) _) _) _) _).trans rfl)
theorem e253_365 {x : Int32} : eb_E L d 253 365 [v0, v1, v2, some (zi x)] (st) M = eb_E L d 253 366 [v0, v1, v2, some (zi x)] (zi x :: st) M := eb_E_s hk253 ((congrFun (congrFun (congrFun (congrFun (lk253_2 365 (Nat.le_of_ble_eq_true rfl)) _) _) _) _).trans rfl)
theorem e253_366  : eb_E L d 253 366 ls (st) M = eb_E L d 253 367 ls (zi 3 :: st) M := eb_E_s hk253 ((congrFun (congrFun (congrFun (congrFun (lk253_2 366 (Nat.le_of_ble_eq_true rfl)) _) _) _) _).trans rfl)
theorem e253_367 {x : Int32} {y : Int32} : eb_E L d 253 367 ls (zi y :: zi x :: st) M = eb_E L d 253 368 ls (zi (x + y) :: st) M := eb_E_s hk253 ((congrFun (congrFun (congrFun (congrFun (lk253_2 367 (Nat.le_of_ble_eq_true rfl)) _) _) _) _).trans rfl)
theorem e253_368 {x : Int32} : eb_E L d 253 368 ls (zi x :: Sum.inr (some a) :: st) (nc, ns, I, J, R) = if (eb_ty L a.1).1 = 17 ∧ eb_in x (eb_ty L a.1).2 = true then eb_E L d 253 369 ls (zi (I a x.toNatClampNeg) :: st) (nc, ns, I, J, R) else none := eb_E_iy hk253 ((congrFun (congrFun (congrFun (congrFun (lk253_2 368 (Nat.le_of_ble_eq_true rfl)) _) _) _) _).trans rfl)
theorem e253_369 {x : Int32} : eb_E L d 253 369 ls (zi x :: st) M = eb_E L d 253 370 ls (zl x.toInt64 :: st) M := eb_E_s hk253 ((congrFun (congrFun (congrFun (congrFun (lk253_2 369 (Nat.le_of_ble_eq_true rfl)) _) _) _) _).trans rfl)
theorem e253_370  : eb_E L d 253 370 ls (st) M = eb_E L d 253 372 ls (zi 32 :: st) M := eb_E_s hk253 ((congrFun (congrFun (congrFun (congrFun (lk253_2 370 (Nat.le_of_ble_eq_true rfl)) _) _) _) _).trans rfl)
theorem e253_372 {x : Int64} {y : Int32} : eb_E L d 253 372 ls (zi y :: zl x :: st) M = eb_E L d 253 373 ls (zl (x <<< (y.toInt64 &&& 63)) :: st) M := eb_E_s hk253 ((congrFun (congrFun (congrFun (congrFun (lk253_2 372 (Nat.le_of_ble_eq_true rfl)) _) _) _) _).trans rfl)
theorem e253_373 {x : Option eb_A} : eb_E L d 253 373 [some (Sum.inr x), v1, v2, v3] (st) M = eb_E L d 253 374 [some (Sum.inr x), v1, v2, v3] (Sum.inr x :: st) M := eb_E_s hk253 ((congrFun (congrFun (congrFun (congrFun (lk253_2 373 (Nat.le_of_ble_eq_true rfl)) _) _) _) _).trans rfl)
theorem e253_374 {x : Int32} : eb_E L d 253 374 [v0, v1, v2, some (zi x)] (st) M = eb_E L d 253 375 [v0, v1, v2, some (zi x)] (zi x :: st) M := eb_E_s hk253 ((congrFun (congrFun (congrFun (congrFun (lk253_2 374 (Nat.le_of_ble_eq_true rfl)) _) _) _) _).trans rfl)
theorem e253_375  : eb_E L d 253 375 ls (st) M = eb_E L d 253 376 ls (zi 4 :: st) M := eb_E_s hk253 ((congrFun (congrFun (congrFun (congrFun (lk253_2 375 (Nat.le_of_ble_eq_true rfl)) _) _) _) _).trans rfl)
theorem e253_376 {x : Int32} {y : Int32} : eb_E L d 253 376 ls (zi y :: zi x :: st) M = eb_E L d 253 377 ls (zi (x + y) :: st) M := eb_E_s hk253 ((congrFun (congrFun (congrFun (congrFun (lk253_2 376 (Nat.le_of_ble_eq_true rfl)) _) _) _) _).trans rfl)
theorem e253_377 {x : Int32} : eb_E L d 253 377 ls (zi x :: Sum.inr (some a) :: st) (nc, ns, I, J, R) = if (eb_ty L a.1).1 = 17 ∧ eb_in x (eb_ty L a.1).2 = true then eb_E L d 253 378 ls (zi (I a x.toNatClampNeg) :: st) (nc, ns, I, J, R) else none := eb_E_iy hk253 ((congrFun (congrFun (congrFun (congrFun (lk253_2 377 (Nat.le_of_ble_eq_true rfl)) _) _) _) _).trans rfl)
theorem e253_378 {x : Int32} : eb_E L d 253 378 ls (zi x :: st) M = eb_E L d 253 379 ls (zl x.toInt64 :: st) M := eb_E_s hk253 ((congrFun (congrFun (congrFun (congrFun (lk253_2 378 (Nat.le_of_ble_eq_true rfl)) _) _) _) _).trans rfl)
theorem e253_379  : eb_E L d 253 379 ls (st) M = eb_E L d 253 382 ls (zl 4294967295 :: st) M := eb_E_s hk253 ((congrFun (congrFun (congrFun (congrFun (lk253_2 379 (Nat.le_of_ble_eq_true rfl)) _) _) _) _).trans rfl)
theorem e253_382 {x : Int64} {y : Int64} : eb_E L d 253 382 ls (zl y :: zl x :: st) M = eb_E L d 253 383 ls (zl (x &&& y) :: st) M := eb_E_s hk253 ((congrFun (congrFun (congrFun (congrFun (lk253_2 382 (Nat.le_of_ble_eq_true rfl)) _) _) _) _).trans rfl)
theorem e253_383 {x : Int64} {y : Int64} : eb_E L d 253 383 ls (zl y :: zl x :: st) M = eb_E L d 253 384 ls (zl (x ||| y) :: st) M := eb_E_s hk253 ((congrFun (congrFun (congrFun (congrFun (lk253_2 383 (Nat.le_of_ble_eq_true rfl)) _) _) _) _).trans rfl)
theorem e253_384 {s0 : Int32} : eb_E L d 253 384 ls ([a3, a2, a1, a0, zi s0]) M = (eb_ev L d 154 [a0, a1, a2, a3] M).bind (fun q => eb_E L d 253 387 ls [q.1, zi s0] q.2) := eb_E_c hk253 ((congrFun (congrFun (congrFun (congrFun (lk253_2 384 (Nat.le_of_ble_eq_true rfl)) _) _) _) _).trans rfl)
theorem e253_387 {x : Int32} {y : Int32} : eb_E L d 253 387 ls (zi y :: zi x :: st) M = if x = y then eb_E L d 253 1948 ls st M else eb_E L d 253 390 ls st M := eb_E_b hk253 ((congrFun (congrFun (congrFun (congrFun (lk253_2 387 (Nat.le_of_ble_eq_true rfl)) _) _) _) _).trans rfl)
theorem e253_390  : eb_E L d 253 390 ls (st) M = eb_E L d 253 391 ls (zi 0 :: st) M := eb_E_s hk253 ((congrFun (congrFun (congrFun (congrFun (lk253_2 390 (Nat.le_of_ble_eq_true rfl)) _) _) _) _).trans rfl)
theorem e253_391 {x : Int32} : eb_E L d 253 391 ls ([zi x]) M = if x = 0 ∨ x = 1 then some (zi x, M) else none := eb_E_ri hk253 ((congrFun (congrFun (congrFun (congrFun (lk253_2 391 (Nat.le_of_ble_eq_true rfl)) _) _) _) _).trans rfl)
theorem e253_392 {x : Option eb_A} : eb_E L d 253 392 [v0, some (Sum.inr x), v2, v3] (st) M = eb_E L d 253 393 [v0, some (Sum.inr x), v2, v3] (Sum.inr x :: st) M := eb_E_s hk253 ((congrFun (congrFun (congrFun (congrFun (lk253_3 392 (Nat.le_of_ble_eq_true rfl)) _) _) _) _).trans rfl)
theorem e253_393 {x : Option eb_A} : eb_E L d 253 393 [some (Sum.inr x), v1, v2, v3] (st) M = eb_E L d 253 394 [some (Sum.inr x), v1, v2, v3] (Sum.inr x :: st) M := eb_E_s hk253 ((congrFun (congrFun (congrFun (congrFun (lk253_3 393 (Nat.le_of_ble_eq_true rfl)) _) _) _) _).trans rfl)
theorem e253_394 {x : Int32} : eb_E L d 253 394 [v0, v1, v2, some (zi x)] (st) M = eb_E L d 253 395 [v0, v1, v2, some (zi x)] (zi x :: st) M := eb_E_s hk253 ((congrFun (congrFun (congrFun (congrFun (lk253_3 394 (Nat.le_of_ble_eq_true rfl)) _) _) _) _).trans rfl)
theorem e253_395  : eb_E L d 253 395 ls (st) M = eb_E L d 253 396 ls (zi 1 :: st) M := eb_E_s hk253 ((congrFun (congrFun (congrFun (congrFun (lk253_3 395 (Nat.le_of_ble_eq_true rfl)) _) _) _) _).trans rfl)
theorem e253_396 {x : Int32} {y : Int32} : eb_E L d 253 396 ls (zi y :: zi x :: st) M = eb_E L d 253 397 ls (zi (x + y) :: st) M := eb_E_s hk253 ((congrFun (congrFun (congrFun (congrFun (lk253_3 396 (Nat.le_of_ble_eq_true rfl)) _) _) _) _).trans rfl)
theorem e253_397 {x : Int32} : eb_E L d 253 397 ls (zi x :: Sum.inr (some a) :: st) (nc, ns, I, J, R) = if (eb_ty L a.1).1 = 17 ∧ eb_in x (eb_ty L a.1).2 = true then eb_E L d 253 398 ls (zi (I a x.toNatClampNeg) :: st) (nc, ns, I, J, R) else none := eb_E_iy hk253 ((congrFun (congrFun (congrFun (congrFun (lk253_3 397 (Nat.le_of_ble_eq_true rfl)) _) _) _) _).trans rfl)
theorem e253_398 {x : Option eb_A} : eb_E L d 253 398 [some (Sum.inr x), v1, v2, v3] (st) M = eb_E L d 253 399 [some (Sum.inr x), v1, v2, v3] (Sum.inr x :: st) M := eb_E_s hk253 ((congrFun (congrFun (congrFun (congrFun (lk253_3 398 (Nat.le_of_ble_eq_true rfl)) _) _) _) _).trans rfl)
theorem e253_399 {x : Int32} : eb_E L d 253 399 [v0, v1, v2, some (zi x)] (st) M = eb_E L d 253 400 [v0, v1, v2, some (zi x)] (zi x :: st) M := eb_E_s hk253 ((congrFun (congrFun (congrFun (congrFun (lk253_3 399 (Nat.le_of_ble_eq_true rfl)) _) _) _) _).trans rfl)
theorem e253_400  : eb_E L d 253 400 ls (st) M = eb_E L d 253 401 ls (zi 2 :: st) M := eb_E_s hk253 ((congrFun (congrFun (congrFun (congrFun (lk253_3 400 (Nat.le_of_ble_eq_true rfl)) _) _) _) _).trans rfl)
theorem e253_401 {x : Int32} {y : Int32} : eb_E L d 253 401 ls (zi y :: zi x :: st) M = eb_E L d 253 402 ls (zi (x + y) :: st) M := eb_E_s hk253 ((congrFun (congrFun (congrFun (congrFun (lk253_3 401 (Nat.le_of_ble_eq_true rfl)) _) _) _) _).trans rfl)
theorem e253_402 {x : Int32} : eb_E L d 253 402 ls (zi x :: Sum.inr (some a) :: st) (nc, ns, I, J, R) = if (eb_ty L a.1).1 = 17 ∧ eb_in x (eb_ty L a.1).2 = true then eb_E L d 253 403 ls (zi (I a x.toNatClampNeg) :: st) (nc, ns, I, J, R) else none := eb_E_iy hk253 ((congrFun (congrFun (congrFun (congrFun (lk253_3 402 (Nat.le_of_ble_eq_true rfl)) _) _) _) _).trans rfl)
theorem e253_403 {x : Option eb_A} : eb_E L d 253 403 [some (Sum.inr x), v1, v2, v3] (st) M = eb_E L d 253 404 [some (Sum.inr x), v1, v2, v3] (Sum.inr x :: st) M := eb_E_s hk253 ((congrFun (congrFun (congrFun (congrFun (lk253_3 403 (Nat.le_of_ble_eq_true rfl)) _) _) _) _).trans rfl)
theorem e253_404 {x : Int32} : eb_E L d 253 404 [v0, v1, v2, some (zi x)] (st) M = eb_E L d 253 405 [v0, v1, v2, some (zi x)] (zi x :: st) M := eb_E_s hk253 ((congrFun (congrFun (congrFun (congrFun (lk253_3 404 (Nat.le_of_ble_eq_true rfl)) _) _) _) _).trans rfl)
theorem e253_405  : eb_E L d 253 405 ls (st) M = eb_E L d 253 406 ls (zi 3 :: st) M := eb_E_s hk253 ((congrFun (congrFun (congrFun (congrFun (lk253_3 405 (Nat.le_of_ble_eq_true rfl)) _) _) _) _).trans rfl)
theorem e253_406 {x : Int32} {y : Int32} : eb_E L d 253 406 ls (zi y :: zi x :: st) M = eb_E L d 253 407 ls (zi (x + y) :: st) M := eb_E_s hk253 ((congrFun (congrFun (congrFun (congrFun (lk253_3 406 (Nat.le_of_ble_eq_true rfl)) _) _) _) _).trans rfl)
theorem e253_407 {x : Int32} : eb_E L d 253 407 ls (zi x :: Sum.inr (some a) :: st) (nc, ns, I, J, R) = if (eb_ty L a.1).1 = 17 ∧ eb_in x (eb_ty L a.1).2 = true then eb_E L d 253 408 ls (zi (I a x.toNatClampNeg) :: st) (nc, ns, I, J, R) else none := eb_E_iy hk253 ((congrFun (congrFun (congrFun (congrFun (lk253_3 407 (Nat.le_of_ble_eq_true rfl)) _) _) _) _).trans rfl)
theorem e253_408 {x : Option eb_A} : eb_E L d 253 408 [some (Sum.inr x), v1, v2, v3] (st) M = eb_E L d 253 409 [some (Sum.inr x), v1, v2, v3] (Sum.inr x :: st) M := eb_E_s hk253 ((congrFun (congrFun (congrFun (congrFun (lk253_3 408 (Nat.le_of_ble_eq_true rfl)) _) _) _) _).trans rfl)
theorem e253_409 {x : Int32} : eb_E L d 253 409 [v0, v1, v2, some (zi x)] (st) M = eb_E L d 253 410 [v0, v1, v2, some (zi x)] (zi x :: st) M := eb_E_s hk253 ((congrFun (congrFun (congrFun (congrFun (lk253_3 409 (Nat.le_of_ble_eq_true rfl)) _) _) _) _).trans rfl)
theorem e253_410  : eb_E L d 253 410 ls (st) M = eb_E L d 253 411 ls (zi 4 :: st) M := eb_E_s hk253 ((congrFun (congrFun (congrFun (congrFun (lk253_3 410 (Nat.le_of_ble_eq_true rfl)) _) _) _) _).trans rfl)
theorem e253_411 {x : Int32} {y : Int32} : eb_E L d 253 411 ls (zi y :: zi x :: st) M = eb_E L d 253 412 ls (zi (x + y) :: st) M := eb_E_s hk253 ((congrFun (congrFun (congrFun (congrFun (lk253_3 411 (Nat.le_of_ble_eq_true rfl)) _) _) _) _).trans rfl)
theorem e253_412 {x : Int32} : eb_E L d 253 412 ls (zi x :: Sum.inr (some a) :: st) (nc, ns, I, J, R) = if (eb_ty L a.1).1 = 17 ∧ eb_in x (eb_ty L a.1).2 = true then eb_E L d 253 413 ls (zi (I a x.toNatClampNeg) :: st) (nc, ns, I, J, R) else none := eb_E_iy hk253 ((congrFun (congrFun (congrFun (congrFun (lk253_3 412 (Nat.le_of_ble_eq_true rfl)) _) _) _) _).trans rfl)
theorem e253_413 {x : Option eb_A} : eb_E L d 253 413 [some (Sum.inr x), v1, v2, v3] (st) M = eb_E L d 253 414 [some (Sum.inr x), v1, v2, v3] (Sum.inr x :: st) M := eb_E_s hk253 ((congrFun (congrFun (congrFun (congrFun (lk253_3 413 (Nat.le_of_ble_eq_true rfl)) _) _) _) _).trans rfl)
theorem e253_414 {x : Int32} : eb_E L d 253 414 [v0, v1, v2, some (zi x)] (st) M = eb_E L d 253 415 [v0, v1, v2, some (zi x)] (zi x :: st) M := eb_E_s hk253 ((congrFun (congrFun (congrFun (congrFun (lk253_3 414 (Nat.le_of_ble_eq_true rfl)) _) _) _) _).trans rfl)
theorem e253_415  : eb_E L d 253 415 ls (st) M = eb_E L d 253 416 ls (zi 5 :: st) M := eb_E_s hk253 ((congrFun (congrFun (congrFun (congrFun (lk253_3 415 (Nat.le_of_ble_eq_true rfl)) _) _) _) _).trans rfl)
theorem e253_416 {x : Int32} {y : Int32} : eb_E L d 253 416 ls (zi y :: zi x :: st) M = eb_E L d 253 417 ls (zi (x + y) :: st) M := eb_E_s hk253 ((congrFun (congrFun (congrFun (congrFun (lk253_3 416 (Nat.le_of_ble_eq_true rfl)) _) _) _) _).trans rfl)
theorem e253_417 {x : Int32} : eb_E L d 253 417 ls (zi x :: Sum.inr (some a) :: st) (nc, ns, I, J, R) = if (eb_ty L a.1).1 = 17 ∧ eb_in x (eb_ty L a.1).2 = true then eb_E L d 253 418 ls (zi (I a x.toNatClampNeg) :: st) (nc, ns, I, J, R) else none := eb_E_iy hk253 ((congrFun (congrFun (congrFun (congrFun (lk253_3 417 (Nat.le_of_ble_eq_true rfl)) _) _) _) _).trans rfl)
theorem e253_418  : eb_E L d 253 418 ls ([a5, a4, a3, a2, a1, a0]) M = (eb_ev L d 70 [a0, a1, a2, a3, a4, a5] M).bind (fun q => eb_E L d 253 421 ls [q.1] q.2) := eb_E_c hk253 ((congrFun (congrFun (congrFun (congrFun (lk253_3 418 (Nat.le_of_ble_eq_true rfl)) _) _) _) _).trans rfl)
theorem e253_421 {x : Option eb_A} : eb_E L d 253 421 [v0, v1, some (Sum.inr x), v3] (st) M = eb_E L d 253 422 [v0, v1, some (Sum.inr x), v3] (Sum.inr x :: st) M := eb_E_s hk253 ((congrFun (congrFun (congrFun (congrFun (lk253_3 421 (Nat.le_of_ble_eq_true rfl)) _) _) _) _).trans rfl)
theorem e253_422 {x : Option eb_A} : eb_E L d 253 422 [some (Sum.inr x), v1, v2, v3] (st) M = eb_E L d 253 423 [some (Sum.inr x), v1, v2, v3] (Sum.inr x :: st) M := eb_E_s hk253 ((congrFun (congrFun (congrFun (congrFun (lk253_3 422 (Nat.le_of_ble_eq_true rfl)) _) _) _) _).trans rfl)
theorem e253_423 {x : Int32} : eb_E L d 253 423 [v0, v1, v2, some (zi x)] (st) M = eb_E L d 253 424 [v0, v1, v2, some (zi x)] (zi x :: st) M := eb_E_s hk253 ((congrFun (congrFun (congrFun (congrFun (lk253_3 423 (Nat.le_of_ble_eq_true rfl)) _) _) _) _).trans rfl)
theorem e253_424  : eb_E L d 253 424 ls (st) M = eb_E L d 253 425 ls (zi 1 :: st) M := eb_E_s hk253 ((congrFun (congrFun (congrFun (congrFun (lk253_3 424 (Nat.le_of_ble_eq_true rfl)) _) _) _) _).trans rfl)
theorem e253_425 {x : Int32} {y : Int32} : eb_E L d 253 425 ls (zi y :: zi x :: st) M = eb_E L d 253 426 ls (zi (x + y) :: st) M := eb_E_s hk253 ((congrFun (congrFun (congrFun (congrFun (lk253_3 425 (Nat.le_of_ble_eq_true rfl)) _) _) _) _).trans rfl)
theorem e253_426 {x : Int32} : eb_E L d 253 426 ls (zi x :: Sum.inr (some a) :: st) (nc, ns, I, J, R) = if (eb_ty L a.1).1 = 17 ∧ eb_in x (eb_ty L a.1).2 = true then eb_E L d 253 427 ls (zi (I a x.toNatClampNeg) :: st) (nc, ns, I, J, R) else none := eb_E_iy hk253 ((congrFun (congrFun (congrFun (congrFun (lk253_3 426 (Nat.le_of_ble_eq_true rfl)) _) _) _) _).trans rfl)
theorem e253_427 {x : Option eb_A} : eb_E L d 253 427 [some (Sum.inr x), v1, v2, v3] (st) M = eb_E L d 253 428 [some (Sum.inr x), v1, v2, v3] (Sum.inr x :: st) M := eb_E_s hk253 ((congrFun (congrFun (congrFun (congrFun (lk253_3 427 (Nat.le_of_ble_eq_true rfl)) _) _) _) _).trans rfl)
theorem e253_428 {x : Int32} : eb_E L d 253 428 [v0, v1, v2, some (zi x)] (st) M = eb_E L d 253 429 [v0, v1, v2, some (zi x)] (zi x :: st) M := eb_E_s hk253 ((congrFun (congrFun (congrFun (congrFun (lk253_3 428 (Nat.le_of_ble_eq_true rfl)) _) _) _) _).trans rfl)
theorem e253_429  : eb_E L d 253 429 ls (st) M = eb_E L d 253 430 ls (zi 2 :: st) M := eb_E_s hk253 ((congrFun (congrFun (congrFun (congrFun (lk253_3 429 (Nat.le_of_ble_eq_true rfl)) _) _) _) _).trans rfl)
theorem e253_430 {x : Int32} {y : Int32} : eb_E L d 253 430 ls (zi y :: zi x :: st) M = eb_E L d 253 431 ls (zi (x + y) :: st) M := eb_E_s hk253 ((congrFun (congrFun (congrFun (congrFun (lk253_3 430 (Nat.le_of_ble_eq_true rfl)) _) _) _) _).trans rfl)
theorem e253_431 {x : Int32} : eb_E L d 253 431 ls (zi x :: Sum.inr (some a) :: st) (nc, ns, I, J, R) = if (eb_ty L a.1).1 = 17 ∧ eb_in x (eb_ty L a.1).2 = true then eb_E L d 253 432 ls (zi (I a x.toNatClampNeg) :: st) (nc, ns, I, J, R) else none := eb_E_iy hk253 ((congrFun (congrFun (congrFun (congrFun (lk253_3 431 (Nat.le_of_ble_eq_true rfl)) _) _) _) _).trans rfl)
theorem e253_432 {x : Option eb_A} : eb_E L d 253 432 [some (Sum.inr x), v1, v2, v3] (st) M = eb_E L d 253 433 [some (Sum.inr x), v1, v2, v3] (Sum.inr x :: st) M := eb_E_s hk253 ((congrFun (congrFun (congrFun (congrFun (lk253_3 432 (Nat.le_of_ble_eq_true rfl)) _) _) _) _).trans rfl)
theorem e253_433 {x : Int32} : eb_E L d 253 433 [v0, v1, v2, some (zi x)] (st) M = eb_E L d 253 434 [v0, v1, v2, some (zi x)] (zi x :: st) M := eb_E_s hk253 ((congrFun (congrFun (congrFun (congrFun (lk253_3 433 (Nat.le_of_ble_eq_true rfl)) _) _) _) _).trans rfl)
theorem e253_434  : eb_E L d 253 434 ls (st) M = eb_E L d 253 435 ls (zi 3 :: st) M := eb_E_s hk253 ((congrFun (congrFun (congrFun (congrFun (lk253_4 434 (Nat.le_of_ble_eq_true rfl)) _) _) _) _).trans rfl)
theorem e253_435 {x : Int32} {y : Int32} : eb_E L d 253 435 ls (zi y :: zi x :: st) M = eb_E L d 253 436 ls (zi (x + y) :: st) M := eb_E_s hk253 ((congrFun (congrFun (congrFun (congrFun (lk253_4 435 (Nat.le_of_ble_eq_true rfl)) _) _) _) _).trans rfl)
theorem e253_436 {x : Int32} : eb_E L d 253 436 ls (zi x :: Sum.inr (some a) :: st) (nc, ns, I, J, R) = if (eb_ty L a.1).1 = 17 ∧ eb_in x (eb_ty L a.1).2 = true then eb_E L d 253 437 ls (zi (I a x.toNatClampNeg) :: st) (nc, ns, I, J, R) else none := eb_E_iy hk253 ((congrFun (congrFun (congrFun (congrFun (lk253_4 436 (Nat.le_of_ble_eq_true rfl)) _) _) _) _).trans rfl)
theorem e253_437 {x : Option eb_A} : eb_E L d 253 437 [some (Sum.inr x), v1, v2, v3] (st) M = eb_E L d 253 438 [some (Sum.inr x), v1, v2, v3] (Sum.inr x :: st) M := eb_E_s hk253 ((congrFun (congrFun (congrFun (congrFun (lk253_4 437 (Nat.le_of_ble_eq_true rfl)) _) _) _) _).trans rfl)
theorem e253_438 {x : Int32} : eb_E L d 253 438 [v0, v1, v2, some (zi x)] (st) M = eb_E L d 253 439 [v0, v1, v2, some (zi x)] (zi x :: st) M := eb_E_s hk253 ((congrFun (congrFun (congrFun (congrFun (lk253_4 438 (Nat.le_of_ble_eq_true rfl)) _) _) _) _).trans rfl)
theorem e253_439  : eb_E L d 253 439 ls (st) M = eb_E L d 253 440 ls (zi 4 :: st) M := eb_E_s hk253 ((congrFun (congrFun (congrFun (congrFun (lk253_4 439 (Nat.le_of_ble_eq_true rfl)) _) _) _) _).trans rfl)
theorem e253_440 {x : Int32} {y : Int32} : eb_E L d 253 440 ls (zi y :: zi x :: st) M = eb_E L d 253 441 ls (zi (x + y) :: st) M := eb_E_s hk253 ((congrFun (congrFun (congrFun (congrFun (lk253_4 440 (Nat.le_of_ble_eq_true rfl)) _) _) _) _).trans rfl)
theorem e253_441 {x : Int32} : eb_E L d 253 441 ls (zi x :: Sum.inr (some a) :: st) (nc, ns, I, J, R) = if (eb_ty L a.1).1 = 17 ∧ eb_in x (eb_ty L a.1).2 = true then eb_E L d 253 442 ls (zi (I a x.toNatClampNeg) :: st) (nc, ns, I, J, R) else none := eb_E_iy hk253 ((congrFun (congrFun (congrFun (congrFun (lk253_4 441 (Nat.le_of_ble_eq_true rfl)) _) _) _) _).trans rfl)
theorem e253_442 {x : Option eb_A} : eb_E L d 253 442 [some (Sum.inr x), v1, v2, v3] (st) M = eb_E L d 253 443 [some (Sum.inr x), v1, v2, v3] (Sum.inr x :: st) M := eb_E_s hk253 ((congrFun (congrFun (congrFun (congrFun (lk253_4 442 (Nat.le_of_ble_eq_true rfl)) _) _) _) _).trans rfl)
theorem e253_443 {x : Int32} : eb_E L d 253 443 [v0, v1, v2, some (zi x)] (st) M = eb_E L d 253 444 [v0, v1, v2, some (zi x)] (zi x :: st) M := eb_E_s hk253 ((congrFun (congrFun (congrFun (congrFun (lk253_4 443 (Nat.le_of_ble_eq_true rfl)) _) _) _) _).trans rfl)
theorem e253_444  : eb_E L d 253 444 ls (st) M = eb_E L d 253 445 ls (zi 5 :: st) M := eb_E_s hk253 ((congrFun (congrFun (congrFun (congrFun (lk253_4 444 (Nat.le_of_ble_eq_true rfl)) _) _) _) _).trans rfl)
theorem e253_445 {x : Int32} {y : Int32} : eb_E L d 253 445 ls (zi y :: zi x :: st) M = eb_E L d 253 446 ls (zi (x + y) :: st) M := eb_E_s hk253 ((congrFun (congrFun (congrFun (congrFun (lk253_4 445 (Nat.le_of_ble_eq_true rfl)) _) _) _) _).trans rfl)
theorem e253_446 {x : Int32} : eb_E L d 253 446 ls (zi x :: Sum.inr (some a) :: st) (nc, ns, I, J, R) = if (eb_ty L a.1).1 = 17 ∧ eb_in x (eb_ty L a.1).2 = true then eb_E L d 253 447 ls (zi (I a x.toNatClampNeg) :: st) (nc, ns, I, J, R) else none := eb_E_iy hk253 ((congrFun (congrFun (congrFun (congrFun (lk253_4 446 (Nat.le_of_ble_eq_true rfl)) _) _) _) _).trans rfl)
theorem e253_447 {s0 : Int32} : eb_E L d 253 447 ls ([a5, a4, a3, a2, a1, a0, zi s0]) M = (eb_ev L d 155 [a0, a1, a2, a3, a4, a5] M).bind (fun q => eb_E L d 253 450 ls [q.1, zi s0] q.2) := eb_E_c hk253 ((congrFun (congrFun (congrFun (congrFun (lk253_4 447 (Nat.le_of_ble_eq_true rfl)) _) _) _) _).trans rfl)
theorem e253_450 {x : Int32} {y : Int32} : eb_E L d 253 450 ls (zi y :: zi x :: st) M = if x = y then eb_E L d 253 1948 ls st M else eb_E L d 253 453 ls st M := eb_E_b hk253 ((congrFun (congrFun (congrFun (congrFun (lk253_4 450 (Nat.le_of_ble_eq_true rfl)) _) _) _) _).trans rfl)
theorem e253_453  : eb_E L d 253 453 ls (st) M = eb_E L d 253 454 ls (zi 0 :: st) M := eb_E_s hk253 ((congrFun (congrFun (congrFun (congrFun (lk253_4 453 (Nat.le_of_ble_eq_true rfl)) _) _) _) _).trans rfl)
theorem e253_454 {x : Int32} : eb_E L d 253 454 ls ([zi x]) M = if x = 0 ∨ x = 1 then some (zi x, M) else none := eb_E_ri hk253 ((congrFun (congrFun (congrFun (congrFun (lk253_4 454 (Nat.le_of_ble_eq_true rfl)) _) _) _) _).trans rfl)
theorem e253_455 {x : Option eb_A} : eb_E L d 253 455 [v0, some (Sum.inr x), v2, v3] (st) M = eb_E L d 253 456 [v0, some (Sum.inr x), v2, v3] (Sum.inr x :: st) M := eb_E_s hk253 ((congrFun (congrFun (congrFun (congrFun (lk253_4 455 (Nat.le_of_ble_eq_true rfl)) _) _) _) _).trans rfl)
theorem e253_456 {x : Option eb_A} : eb_E L d 253 456 [some (Sum.inr x), v1, v2, v3] (st) M = eb_E L d 253 457 [some (Sum.inr x), v1, v2, v3] (Sum.inr x :: st) M := eb_E_s hk253 ((congrFun (congrFun (congrFun (congrFun (lk253_4 456 (Nat.le_of_ble_eq_true rfl)) _) _) _) _).trans rfl)
theorem e253_457 {x : Int32} : eb_E L d 253 457 [v0, v1, v2, some (zi x)] (st) M = eb_E L d 253 458 [v0, v1, v2, some (zi x)] (zi x :: st) M := eb_E_s hk253 ((congrFun (congrFun (congrFun (congrFun (lk253_4 457 (Nat.le_of_ble_eq_true rfl)) _) _) _) _).trans rfl)
theorem e253_458  : eb_E L d 253 458 ls (st) M = eb_E L d 253 459 ls (zi 1 :: st) M := eb_E_s hk253 ((congrFun (congrFun (congrFun (congrFun (lk253_4 458 (Nat.le_of_ble_eq_true rfl)) _) _) _) _).trans rfl)
theorem e253_459 {x : Int32} {y : Int32} : eb_E L d 253 459 ls (zi y :: zi x :: st) M = eb_E L d 253 460 ls (zi (x + y) :: st) M := eb_E_s hk253 ((congrFun (congrFun (congrFun (congrFun (lk253_4 459 (Nat.le_of_ble_eq_true rfl)) _) _) _) _).trans rfl)
theorem e253_460 {x : Int32} : eb_E L d 253 460 ls (zi x :: Sum.inr (some a) :: st) (nc, ns, I, J, R) = if (eb_ty L a.1).1 = 17 ∧ eb_in x (eb_ty L a.1).2 = true then eb_E L d 253 461 ls (zi (I a x.toNatClampNeg) :: st) (nc, ns, I, J, R) else none := eb_E_iy hk253 ((congrFun (congrFun (congrFun (congrFun (lk253_4 460 (Nat.le_of_ble_eq_true rfl)) _) _) _) _).trans rfl)
theorem e253_461 {x : Option eb_A} : eb_E L d 253 461 [some (Sum.inr x), v1, v2, v3] (st) M = eb_E L d 253 462 [some (Sum.inr x), v1, v2, v3] (Sum.inr x :: st) M := eb_E_s hk253 ((congrFun (congrFun (congrFun (congrFun (lk253_4 461 (Nat.le_of_ble_eq_true rfl)) _) _) _) _).trans rfl)
theorem e253_462 {x : Int32} : eb_E L d 253 462 [v0, v1, v2, some (zi x)] (st) M = eb_E L d 253 463 [v0, v1, v2, some (zi x)] (zi x :: st) M := eb_E_s hk253 ((congrFun (congrFun (congrFun (congrFun (lk253_4 462 (Nat.le_of_ble_eq_true rfl)) _) _) _) _).trans rfl)
theorem e253_463  : eb_E L d 253 463 ls (st) M = eb_E L d 253 464 ls (zi 2 :: st) M := eb_E_s hk253 ((congrFun (congrFun (congrFun (congrFun (lk253_4 463 (Nat.le_of_ble_eq_true rfl)) _) _) _) _).trans rfl)
theorem e253_464 {x : Int32} {y : Int32} : eb_E L d 253 464 ls (zi y :: zi x :: st) M = eb_E L d 253 465 ls (zi (x + y) :: st) M := eb_E_s hk253 ((congrFun (congrFun (congrFun (congrFun (lk253_4 464 (Nat.le_of_ble_eq_true rfl)) _) _) _) _).trans rfl)
theorem e253_465 {x : Int32} : eb_E L d 253 465 ls (zi x :: Sum.inr (some a) :: st) (nc, ns, I, J, R) = if (eb_ty L a.1).1 = 17 ∧ eb_in x (eb_ty L a.1).2 = true then eb_E L d 253 466 ls (zi (I a x.toNatClampNeg) :: st) (nc, ns, I, J, R) else none := eb_E_iy hk253 ((congrFun (congrFun (congrFun (congrFun (lk253_4 465 (Nat.le_of_ble_eq_true rfl)) _) _) _) _).trans rfl)
theorem e253_466  : eb_E L d 253 466 ls ([a2, a1, a0]) M = (eb_ev L d 71 [a0, a1, a2] M).bind (fun q => eb_E L d 253 469 ls [q.1] q.2) := eb_E_c hk253 ((congrFun (congrFun (congrFun (congrFun (lk253_4 466 (Nat.le_of_ble_eq_true rfl)) _) _) _) _).trans rfl)
theorem e253_469 {x : Option eb_A} : eb_E L d 253 469 [v0, v1, some (Sum.inr x), v3] (st) M = eb_E L d 253 470 [v0, v1, some (Sum.inr x), v3] (Sum.inr x :: st) M := eb_E_s hk253 ((congrFun (congrFun (congrFun (congrFun (lk253_4 469 (Nat.le_of_ble_eq_true rfl)) _) _) _) _).trans rfl)
theorem e253_470 {x : Option eb_A} : eb_E L d 253 470 [some (Sum.inr x), v1, v2, v3] (st) M = eb_E L d 253 471 [some (Sum.inr x), v1, v2, v3] (Sum.inr x :: st) M := eb_E_s hk253 ((congrFun (congrFun (congrFun (congrFun (lk253_4 470 (Nat.le_of_ble_eq_true rfl)) _) _) _) _).trans rfl)
theorem e253_471 {x : Int32} : eb_E L d 253 471 [v0, v1, v2, some (zi x)] (st) M = eb_E L d 253 472 [v0, v1, v2, some (zi x)] (zi x :: st) M := eb_E_s hk253 ((congrFun (congrFun (congrFun (congrFun (lk253_4 471 (Nat.le_of_ble_eq_true rfl)) _) _) _) _).trans rfl)
theorem e253_472  : eb_E L d 253 472 ls (st) M = eb_E L d 253 473 ls (zi 1 :: st) M := eb_E_s hk253 ((congrFun (congrFun (congrFun (congrFun (lk253_4 472 (Nat.le_of_ble_eq_true rfl)) _) _) _) _).trans rfl)
theorem e253_473 {x : Int32} {y : Int32} : eb_E L d 253 473 ls (zi y :: zi x :: st) M = eb_E L d 253 474 ls (zi (x + y) :: st) M := eb_E_s hk253 ((congrFun (congrFun (congrFun (congrFun (lk253_4 473 (Nat.le_of_ble_eq_true rfl)) _) _) _) _).trans rfl)
theorem e253_474 {x : Int32} : eb_E L d 253 474 ls (zi x :: Sum.inr (some a) :: st) (nc, ns, I, J, R) = if (eb_ty L a.1).1 = 17 ∧ eb_in x (eb_ty L a.1).2 = true then eb_E L d 253 475 ls (zi (I a x.toNatClampNeg) :: st) (nc, ns, I, J, R) else none := eb_E_iy hk253 ((congrFun (congrFun (congrFun (congrFun (lk253_4 474 (Nat.le_of_ble_eq_true rfl)) _) _) _) _).trans rfl)
theorem e253_475 {x : Option eb_A} : eb_E L d 253 475 [some (Sum.inr x), v1, v2, v3] (st) M = eb_E L d 253 476 [some (Sum.inr x), v1, v2, v3] (Sum.inr x :: st) M := eb_E_s hk253 ((congrFun (congrFun (congrFun (congrFun (lk253_4 475 (Nat.le_of_ble_eq_true rfl)) _) _) _) _).trans rfl)
theorem e253_476 {x : Int32} : eb_E L d 253 476 [v0, v1, v2, some (zi x)] (st) M = eb_E L d 253 477 [v0, v1, v2, some (zi x)] (zi x :: st) M := eb_E_s hk253 ((congrFun (congrFun (congrFun (congrFun (lk253_4 476 (Nat.le_of_ble_eq_true rfl)) _) _) _) _).trans rfl)
theorem e253_477  : eb_E L d 253 477 ls (st) M = eb_E L d 253 478 ls (zi 2 :: st) M := eb_E_s hk253 ((congrFun (congrFun (congrFun (congrFun (lk253_4 477 (Nat.le_of_ble_eq_true rfl)) _) _) _) _).trans rfl)
theorem e253_478 {x : Int32} {y : Int32} : eb_E L d 253 478 ls (zi y :: zi x :: st) M = eb_E L d 253 479 ls (zi (x + y) :: st) M := eb_E_s hk253 ((congrFun (congrFun (congrFun (congrFun (lk253_4 478 (Nat.le_of_ble_eq_true rfl)) _) _) _) _).trans rfl)
theorem e253_479 {x : Int32} : eb_E L d 253 479 ls (zi x :: Sum.inr (some a) :: st) (nc, ns, I, J, R) = if (eb_ty L a.1).1 = 17 ∧ eb_in x (eb_ty L a.1).2 = true then eb_E L d 253 480 ls (zi (I a x.toNatClampNeg) :: st) (nc, ns, I, J, R) else none := eb_E_iy hk253 ((congrFun (congrFun (congrFun (congrFun (lk253_4 479 (Nat.le_of_ble_eq_true rfl)) _) _) _) _).trans rfl)
theorem e253_480 {s0 : Int64} : eb_E L d 253 480 ls ([a2, a1, a0, zl s0]) M = (eb_ev L d 156 [a0, a1, a2] M).bind (fun q => eb_E L d 253 483 ls [q.1, zl s0] q.2) := eb_E_c hk253 ((congrFun (congrFun (congrFun (congrFun (lk253_5 480 (Nat.le_of_ble_eq_true rfl)) _) _) _) _).trans rfl)
theorem e253_483 {x : Int64} {y : Int64} : eb_E L d 253 483 ls (zl y :: zl x :: st) M = eb_E L d 253 484 ls (zi (if x < y then -1 else if x = y then 0 else 1) :: st) M := eb_E_s hk253 ((congrFun (congrFun (congrFun (congrFun (lk253_5 483 (Nat.le_of_ble_eq_true rfl)) _) _) _) _).trans rfl)
theorem e253_484 {x : Int32} : eb_E L d 253 484 ls (zi x :: st) M = if x = 0 then eb_E L d 253 1948 ls st M else eb_E L d 253 487 ls st M := eb_E_b hk253 ((congrFun (congrFun (congrFun (congrFun (lk253_5 484 (Nat.le_of_ble_eq_true rfl)) _) _) _) _).trans rfl)
theorem e253_487  : eb_E L d 253 487 ls (st) M = eb_E L d 253 488 ls (zi 0 :: st) M := eb_E_s hk253 ((congrFun (congrFun (congrFun (congrFun (lk253_5 487 (Nat.le_of_ble_eq_true rfl)) _) _) _) _).trans rfl)
theorem e253_488 {x : Int32} : eb_E L d 253 488 ls ([zi x]) M = if x = 0 ∨ x = 1 then some (zi x, M) else none := eb_E_ri hk253 ((congrFun (congrFun (congrFun (congrFun (lk253_5 488 (Nat.le_of_ble_eq_true rfl)) _) _) _) _).trans rfl)
theorem e253_489 {x : Option eb_A} : eb_E L d 253 489 [v0, some (Sum.inr x), v2, v3] (st) M = eb_E L d 253 490 [v0, some (Sum.inr x), v2, v3] (Sum.inr x :: st) M := eb_E_s hk253 ((congrFun (congrFun (congrFun (congrFun (lk253_5 489 (Nat.le_of_ble_eq_true rfl)) _) _) _) _).trans rfl)
theorem e253_490 {x : Option eb_A} : eb_E L d 253 490 [some (Sum.inr x), v1, v2, v3] (st) M = eb_E L d 253 491 [some (Sum.inr x), v1, v2, v3] (Sum.inr x :: st) M := eb_E_s hk253 ((congrFun (congrFun (congrFun (congrFun (lk253_5 490 (Nat.le_of_ble_eq_true rfl)) _) _) _) _).trans rfl)
theorem e253_491 {x : Int32} : eb_E L d 253 491 [v0, v1, v2, some (zi x)] (st) M = eb_E L d 253 492 [v0, v1, v2, some (zi x)] (zi x :: st) M := eb_E_s hk253 ((congrFun (congrFun (congrFun (congrFun (lk253_5 491 (Nat.le_of_ble_eq_true rfl)) _) _) _) _).trans rfl)
theorem e253_492  : eb_E L d 253 492 ls (st) M = eb_E L d 253 493 ls (zi 1 :: st) M := eb_E_s hk253 ((congrFun (congrFun (congrFun (congrFun (lk253_5 492 (Nat.le_of_ble_eq_true rfl)) _) _) _) _).trans rfl)
theorem e253_493 {x : Int32} {y : Int32} : eb_E L d 253 493 ls (zi y :: zi x :: st) M = eb_E L d 253 494 ls (zi (x + y) :: st) M := eb_E_s hk253 ((congrFun (congrFun (congrFun (congrFun (lk253_5 493 (Nat.le_of_ble_eq_true rfl)) _) _) _) _).trans rfl)
theorem e253_494 {x : Int32} : eb_E L d 253 494 ls (zi x :: Sum.inr (some a) :: st) (nc, ns, I, J, R) = if (eb_ty L a.1).1 = 17 ∧ eb_in x (eb_ty L a.1).2 = true then eb_E L d 253 495 ls (zi (I a x.toNatClampNeg) :: st) (nc, ns, I, J, R) else none := eb_E_iy hk253 ((congrFun (congrFun (congrFun (congrFun (lk253_5 494 (Nat.le_of_ble_eq_true rfl)) _) _) _) _).trans rfl)
theorem e253_495  : eb_E L d 253 495 ls ([a1, a0]) M = (eb_ev L d 72 [a0, a1] M).bind (fun q => eb_E L d 253 498 ls [q.1] q.2) := eb_E_c hk253 ((congrFun (congrFun (congrFun (congrFun (lk253_5 495 (Nat.le_of_ble_eq_true rfl)) _) _) _) _).trans rfl)
theorem e253_498 {x : Option eb_A} : eb_E L d 253 498 [v0, v1, some (Sum.inr x), v3] (st) M = eb_E L d 253 499 [v0, v1, some (Sum.inr x), v3] (Sum.inr x :: st) M := eb_E_s hk253 ((congrFun (congrFun (congrFun (congrFun (lk253_5 498 (Nat.le_of_ble_eq_true rfl)) _) _) _) _).trans rfl)
theorem e253_499 {x : Option eb_A} : eb_E L d 253 499 [some (Sum.inr x), v1, v2, v3] (st) M = eb_E L d 253 500 [some (Sum.inr x), v1, v2, v3] (Sum.inr x :: st) M := eb_E_s hk253 ((congrFun (congrFun (congrFun (congrFun (lk253_5 499 (Nat.le_of_ble_eq_true rfl)) _) _) _) _).trans rfl)
theorem e253_500 {x : Int32} : eb_E L d 253 500 [v0, v1, v2, some (zi x)] (st) M = eb_E L d 253 501 [v0, v1, v2, some (zi x)] (zi x :: st) M := eb_E_s hk253 ((congrFun (congrFun (congrFun (congrFun (lk253_5 500 (Nat.le_of_ble_eq_true rfl)) _) _) _) _).trans rfl)
theorem e253_501  : eb_E L d 253 501 ls (st) M = eb_E L d 253 502 ls (zi 1 :: st) M := eb_E_s hk253 ((congrFun (congrFun (congrFun (congrFun (lk253_5 501 (Nat.le_of_ble_eq_true rfl)) _) _) _) _).trans rfl)
theorem e253_502 {x : Int32} {y : Int32} : eb_E L d 253 502 ls (zi y :: zi x :: st) M = eb_E L d 253 503 ls (zi (x + y) :: st) M := eb_E_s hk253 ((congrFun (congrFun (congrFun (congrFun (lk253_5 502 (Nat.le_of_ble_eq_true rfl)) _) _) _) _).trans rfl)
theorem e253_503 {x : Int32} : eb_E L d 253 503 ls (zi x :: Sum.inr (some a) :: st) (nc, ns, I, J, R) = if (eb_ty L a.1).1 = 17 ∧ eb_in x (eb_ty L a.1).2 = true then eb_E L d 253 504 ls (zi (I a x.toNatClampNeg) :: st) (nc, ns, I, J, R) else none := eb_E_iy hk253 ((congrFun (congrFun (congrFun (congrFun (lk253_5 503 (Nat.le_of_ble_eq_true rfl)) _) _) _) _).trans rfl)
theorem e253_504 {s0 : Int32} : eb_E L d 253 504 ls ([a1, a0, zi s0]) M = (eb_ev L d 157 [a0, a1] M).bind (fun q => eb_E L d 253 507 ls [q.1, zi s0] q.2) := eb_E_c hk253 ((congrFun (congrFun (congrFun (congrFun (lk253_5 504 (Nat.le_of_ble_eq_true rfl)) _) _) _) _).trans rfl)
theorem e253_507 {x : Int32} {y : Int32} : eb_E L d 253 507 ls (zi y :: zi x :: st) M = if x = y then eb_E L d 253 1948 ls st M else eb_E L d 253 510 ls st M := eb_E_b hk253 ((congrFun (congrFun (congrFun (congrFun (lk253_5 507 (Nat.le_of_ble_eq_true rfl)) _) _) _) _).trans rfl)
theorem e253_510  : eb_E L d 253 510 ls (st) M = eb_E L d 253 511 ls (zi 0 :: st) M := eb_E_s hk253 ((congrFun (congrFun (congrFun (congrFun (lk253_5 510 (Nat.le_of_ble_eq_true rfl)) _) _) _) _).trans rfl)
theorem e253_511 {x : Int32} : eb_E L d 253 511 ls ([zi x]) M = if x = 0 ∨ x = 1 then some (zi x, M) else none := eb_E_ri hk253 ((congrFun (congrFun (congrFun (congrFun (lk253_5 511 (Nat.le_of_ble_eq_true rfl)) _) _) _) _).trans rfl)
theorem e253_512 {x : Option eb_A} : eb_E L d 253 512 [v0, some (Sum.inr x), v2, v3] (st) M = eb_E L d 253 513 [v0, some (Sum.inr x), v2, v3] (Sum.inr x :: st) M := eb_E_s hk253 ((congrFun (congrFun (congrFun (congrFun (lk253_5 512 (Nat.le_of_ble_eq_true rfl)) _) _) _) _).trans rfl)
theorem e253_513 {x : Option eb_A} : eb_E L d 253 513 [some (Sum.inr x), v1, v2, v3] (st) M = eb_E L d 253 514 [some (Sum.inr x), v1, v2, v3] (Sum.inr x :: st) M := eb_E_s hk253 ((congrFun (congrFun (congrFun (congrFun (lk253_5 513 (Nat.le_of_ble_eq_true rfl)) _) _) _) _).trans rfl)
theorem e253_514 {x : Int32} : eb_E L d 253 514 [v0, v1, v2, some (zi x)] (st) M = eb_E L d 253 515 [v0, v1, v2, some (zi x)] (zi x :: st) M := eb_E_s hk253 ((congrFun (congrFun (congrFun (congrFun (lk253_5 514 (Nat.le_of_ble_eq_true rfl)) _) _) _) _).trans rfl)
theorem e253_515  : eb_E L d 253 515 ls (st) M = eb_E L d 253 516 ls (zi 1 :: st) M := eb_E_s hk253 ((congrFun (congrFun (congrFun (congrFun (lk253_5 515 (Nat.le_of_ble_eq_true rfl)) _) _) _) _).trans rfl)
theorem e253_516 {x : Int32} {y : Int32} : eb_E L d 253 516 ls (zi y :: zi x :: st) M = eb_E L d 253 517 ls (zi (x + y) :: st) M := eb_E_s hk253 ((congrFun (congrFun (congrFun (congrFun (lk253_5 516 (Nat.le_of_ble_eq_true rfl)) _) _) _) _).trans rfl)
theorem e253_517 {x : Int32} : eb_E L d 253 517 ls (zi x :: Sum.inr (some a) :: st) (nc, ns, I, J, R) = if (eb_ty L a.1).1 = 17 ∧ eb_in x (eb_ty L a.1).2 = true then eb_E L d 253 518 ls (zi (I a x.toNatClampNeg) :: st) (nc, ns, I, J, R) else none := eb_E_iy hk253 ((congrFun (congrFun (congrFun (congrFun (lk253_5 517 (Nat.le_of_ble_eq_true rfl)) _) _) _) _).trans rfl)
theorem e253_518 {x : Option eb_A} : eb_E L d 253 518 [some (Sum.inr x), v1, v2, v3] (st) M = eb_E L d 253 519 [some (Sum.inr x), v1, v2, v3] (Sum.inr x :: st) M := eb_E_s hk253 ((congrFun (congrFun (congrFun (congrFun (lk253_5 518 (Nat.le_of_ble_eq_true rfl)) _) _) _) _).trans rfl)
theorem e253_519 {x : Int32} : eb_E L d 253 519 [v0, v1, v2, some (zi x)] (st) M = eb_E L d 253 520 [v0, v1, v2, some (zi x)] (zi x :: st) M := eb_E_s hk253 ((congrFun (congrFun (congrFun (congrFun (lk253_5 519 (Nat.le_of_ble_eq_true rfl)) _) _) _) _).trans rfl)
theorem e253_520  : eb_E L d 253 520 ls (st) M = eb_E L d 253 521 ls (zi 2 :: st) M := eb_E_s hk253 ((congrFun (congrFun (congrFun (congrFun (lk253_5 520 (Nat.le_of_ble_eq_true rfl)) _) _) _) _).trans rfl)
theorem e253_521 {x : Int32} {y : Int32} : eb_E L d 253 521 ls (zi y :: zi x :: st) M = eb_E L d 253 522 ls (zi (x + y) :: st) M := eb_E_s hk253 ((congrFun (congrFun (congrFun (congrFun (lk253_5 521 (Nat.le_of_ble_eq_true rfl)) _) _) _) _).trans rfl)
theorem e253_522 {x : Int32} : eb_E L d 253 522 ls (zi x :: Sum.inr (some a) :: st) (nc, ns, I, J, R) = if (eb_ty L a.1).1 = 17 ∧ eb_in x (eb_ty L a.1).2 = true then eb_E L d 253 523 ls (zi (I a x.toNatClampNeg) :: st) (nc, ns, I, J, R) else none := eb_E_iy hk253 ((congrFun (congrFun (congrFun (congrFun (lk253_5 522 (Nat.le_of_ble_eq_true rfl)) _) _) _) _).trans rfl)
theorem e253_523  : eb_E L d 253 523 ls ([a2, a1, a0]) M = (eb_ev L d 73 [a0, a1, a2] M).bind (fun q => eb_E L d 253 526 ls [q.1] q.2) := eb_E_c hk253 ((congrFun (congrFun (congrFun (congrFun (lk253_5 523 (Nat.le_of_ble_eq_true rfl)) _) _) _) _).trans rfl)
theorem e253_526 {x : Option eb_A} : eb_E L d 253 526 [v0, v1, some (Sum.inr x), v3] (st) M = eb_E L d 253 527 [v0, v1, some (Sum.inr x), v3] (Sum.inr x :: st) M := eb_E_s hk253 ((congrFun (congrFun (congrFun (congrFun (lk253_5 526 (Nat.le_of_ble_eq_true rfl)) _) _) _) _).trans rfl)
theorem e253_527 {x : Option eb_A} : eb_E L d 253 527 [some (Sum.inr x), v1, v2, v3] (st) M = eb_E L d 253 528 [some (Sum.inr x), v1, v2, v3] (Sum.inr x :: st) M := eb_E_s hk253 ((congrFun (congrFun (congrFun (congrFun (lk253_5 527 (Nat.le_of_ble_eq_true rfl)) _) _) _) _).trans rfl)
theorem e253_528 {x : Int32} : eb_E L d 253 528 [v0, v1, v2, some (zi x)] (st) M = eb_E L d 253 529 [v0, v1, v2, some (zi x)] (zi x :: st) M := eb_E_s hk253 ((congrFun (congrFun (congrFun (congrFun (lk253_5 528 (Nat.le_of_ble_eq_true rfl)) _) _) _) _).trans rfl)
theorem e253_529  : eb_E L d 253 529 ls (st) M = eb_E L d 253 530 ls (zi 1 :: st) M := eb_E_s hk253 ((congrFun (congrFun (congrFun (congrFun (lk253_5 529 (Nat.le_of_ble_eq_true rfl)) _) _) _) _).trans rfl)
theorem e253_530 {x : Int32} {y : Int32} : eb_E L d 253 530 ls (zi y :: zi x :: st) M = eb_E L d 253 531 ls (zi (x + y) :: st) M := eb_E_s hk253 ((congrFun (congrFun (congrFun (congrFun (lk253_5 530 (Nat.le_of_ble_eq_true rfl)) _) _) _) _).trans rfl)
theorem e253_531 {x : Int32} : eb_E L d 253 531 ls (zi x :: Sum.inr (some a) :: st) (nc, ns, I, J, R) = if (eb_ty L a.1).1 = 17 ∧ eb_in x (eb_ty L a.1).2 = true then eb_E L d 253 532 ls (zi (I a x.toNatClampNeg) :: st) (nc, ns, I, J, R) else none := eb_E_iy hk253 ((congrFun (congrFun (congrFun (congrFun (lk253_5 531 (Nat.le_of_ble_eq_true rfl)) _) _) _) _).trans rfl)
theorem e253_532 {x : Option eb_A} : eb_E L d 253 532 [some (Sum.inr x), v1, v2, v3] (st) M = eb_E L d 253 533 [some (Sum.inr x), v1, v2, v3] (Sum.inr x :: st) M := eb_E_s hk253 ((congrFun (congrFun (congrFun (congrFun (lk253_6 532 (Nat.le_of_ble_eq_true rfl)) _) _) _) _).trans rfl)
theorem e253_533 {x : Int32} : eb_E L d 253 533 [v0, v1, v2, some (zi x)] (st) M = eb_E L d 253 534 [v0, v1, v2, some (zi x)] (zi x :: st) M := eb_E_s hk253 ((congrFun (congrFun (congrFun (congrFun (lk253_6 533 (Nat.le_of_ble_eq_true rfl)) _) _) _) _).trans rfl)
theorem e253_534  : eb_E L d 253 534 ls (st) M = eb_E L d 253 535 ls (zi 2 :: st) M := eb_E_s hk253 ((congrFun (congrFun (congrFun (congrFun (lk253_6 534 (Nat.le_of_ble_eq_true rfl)) _) _) _) _).trans rfl)
theorem e253_535 {x : Int32} {y : Int32} : eb_E L d 253 535 ls (zi y :: zi x :: st) M = eb_E L d 253 536 ls (zi (x + y) :: st) M := eb_E_s hk253 ((congrFun (congrFun (congrFun (congrFun (lk253_6 535 (Nat.le_of_ble_eq_true rfl)) _) _) _) _).trans rfl)
theorem e253_536 {x : Int32} : eb_E L d 253 536 ls (zi x :: Sum.inr (some a) :: st) (nc, ns, I, J, R) = if (eb_ty L a.1).1 = 17 ∧ eb_in x (eb_ty L a.1).2 = true then eb_E L d 253 537 ls (zi (I a x.toNatClampNeg) :: st) (nc, ns, I, J, R) else none := eb_E_iy hk253 ((congrFun (congrFun (congrFun (congrFun (lk253_6 536 (Nat.le_of_ble_eq_true rfl)) _) _) _) _).trans rfl)
theorem e253_537 {s0 : Int32} : eb_E L d 253 537 ls ([a2, a1, a0, zi s0]) M = (eb_ev L d 158 [a0, a1, a2] M).bind (fun q => eb_E L d 253 540 ls [q.1, zi s0] q.2) := eb_E_c hk253 ((congrFun (congrFun (congrFun (congrFun (lk253_6 537 (Nat.le_of_ble_eq_true rfl)) _) _) _) _).trans rfl)
theorem e253_540 {x : Int32} {y : Int32} : eb_E L d 253 540 ls (zi y :: zi x :: st) M = if x = y then eb_E L d 253 1948 ls st M else eb_E L d 253 543 ls st M := eb_E_b hk253 ((congrFun (congrFun (congrFun (congrFun (lk253_6 540 (Nat.le_of_ble_eq_true rfl)) _) _) _) _).trans rfl)
theorem e253_543  : eb_E L d 253 543 ls (st) M = eb_E L d 253 544 ls (zi 0 :: st) M := eb_E_s hk253 ((congrFun (congrFun (congrFun (congrFun (lk253_6 543 (Nat.le_of_ble_eq_true rfl)) _) _) _) _).trans rfl)
theorem e253_544 {x : Int32} : eb_E L d 253 544 ls ([zi x]) M = if x = 0 ∨ x = 1 then some (zi x, M) else none := eb_E_ri hk253 ((congrFun (congrFun (congrFun (congrFun (lk253_6 544 (Nat.le_of_ble_eq_true rfl)) _) _) _) _).trans rfl)
theorem e253_545 {x : Option eb_A} : eb_E L d 253 545 [v0, some (Sum.inr x), v2, v3] (st) M = eb_E L d 253 546 [v0, some (Sum.inr x), v2, v3] (Sum.inr x :: st) M := eb_E_s hk253 ((congrFun (congrFun (congrFun (congrFun (lk253_6 545 (Nat.le_of_ble_eq_true rfl)) _) _) _) _).trans rfl)
theorem e253_546 {x : Option eb_A} : eb_E L d 253 546 [some (Sum.inr x), v1, v2, v3] (st) M = eb_E L d 253 547 [some (Sum.inr x), v1, v2, v3] (Sum.inr x :: st) M := eb_E_s hk253 ((congrFun (congrFun (congrFun (congrFun (lk253_6 546 (Nat.le_of_ble_eq_true rfl)) _) _) _) _).trans rfl)
theorem e253_547 {x : Int32} : eb_E L d 253 547 [v0, v1, v2, some (zi x)] (st) M = eb_E L d 253 548 [v0, v1, v2, some (zi x)] (zi x :: st) M := eb_E_s hk253 ((congrFun (congrFun (congrFun (congrFun (lk253_6 547 (Nat.le_of_ble_eq_true rfl)) _) _) _) _).trans rfl)
theorem e253_548  : eb_E L d 253 548 ls (st) M = eb_E L d 253 549 ls (zi 1 :: st) M := eb_E_s hk253 ((congrFun (congrFun (congrFun (congrFun (lk253_6 548 (Nat.le_of_ble_eq_true rfl)) _) _) _) _).trans rfl)
theorem e253_549 {x : Int32} {y : Int32} : eb_E L d 253 549 ls (zi y :: zi x :: st) M = eb_E L d 253 550 ls (zi (x + y) :: st) M := eb_E_s hk253 ((congrFun (congrFun (congrFun (congrFun (lk253_6 549 (Nat.le_of_ble_eq_true rfl)) _) _) _) _).trans rfl)
theorem e253_550 {x : Int32} : eb_E L d 253 550 ls (zi x :: Sum.inr (some a) :: st) (nc, ns, I, J, R) = if (eb_ty L a.1).1 = 17 ∧ eb_in x (eb_ty L a.1).2 = true then eb_E L d 253 551 ls (zi (I a x.toNatClampNeg) :: st) (nc, ns, I, J, R) else none := eb_E_iy hk253 ((congrFun (congrFun (congrFun (congrFun (lk253_6 550 (Nat.le_of_ble_eq_true rfl)) _) _) _) _).trans rfl)
theorem e253_551 {x : Option eb_A} : eb_E L d 253 551 [some (Sum.inr x), v1, v2, v3] (st) M = eb_E L d 253 552 [some (Sum.inr x), v1, v2, v3] (Sum.inr x :: st) M := eb_E_s hk253 ((congrFun (congrFun (congrFun (congrFun (lk253_6 551 (Nat.le_of_ble_eq_true rfl)) _) _) _) _).trans rfl)
theorem e253_552 {x : Int32} : eb_E L d 253 552 [v0, v1, v2, some (zi x)] (st) M = eb_E L d 253 553 [v0, v1, v2, some (zi x)] (zi x :: st) M := eb_E_s hk253 ((congrFun (congrFun (congrFun (congrFun (lk253_6 552 (Nat.le_of_ble_eq_true rfl)) _) _) _) _).trans rfl)
theorem e253_553  : eb_E L d 253 553 ls (st) M = eb_E L d 253 554 ls (zi 2 :: st) M := eb_E_s hk253 ((congrFun (congrFun (congrFun (congrFun (lk253_6 553 (Nat.le_of_ble_eq_true rfl)) _) _) _) _).trans rfl)
theorem e253_554 {x : Int32} {y : Int32} : eb_E L d 253 554 ls (zi y :: zi x :: st) M = eb_E L d 253 555 ls (zi (x + y) :: st) M := eb_E_s hk253 ((congrFun (congrFun (congrFun (congrFun (lk253_6 554 (Nat.le_of_ble_eq_true rfl)) _) _) _) _).trans rfl)
theorem e253_555 {x : Int32} : eb_E L d 253 555 ls (zi x :: Sum.inr (some a) :: st) (nc, ns, I, J, R) = if (eb_ty L a.1).1 = 17 ∧ eb_in x (eb_ty L a.1).2 = true then eb_E L d 253 556 ls (zi (I a x.toNatClampNeg) :: st) (nc, ns, I, J, R) else none := eb_E_iy hk253 ((congrFun (congrFun (congrFun (congrFun (lk253_6 555 (Nat.le_of_ble_eq_true rfl)) _) _) _) _).trans rfl)
theorem e253_556  : eb_E L d 253 556 ls ([a2, a1, a0]) M = (eb_ev L d 74 [a0, a1, a2] M).bind (fun q => eb_E L d 253 559 ls [q.1] q.2) := eb_E_c hk253 ((congrFun (congrFun (congrFun (congrFun (lk253_6 556 (Nat.le_of_ble_eq_true rfl)) _) _) _) _).trans rfl)
theorem e253_559 {x : Option eb_A} : eb_E L d 253 559 [v0, v1, some (Sum.inr x), v3] (st) M = eb_E L d 253 560 [v0, v1, some (Sum.inr x), v3] (Sum.inr x :: st) M := eb_E_s hk253 ((congrFun (congrFun (congrFun (congrFun (lk253_6 559 (Nat.le_of_ble_eq_true rfl)) _) _) _) _).trans rfl)
theorem e253_560 {x : Option eb_A} : eb_E L d 253 560 [some (Sum.inr x), v1, v2, v3] (st) M = eb_E L d 253 561 [some (Sum.inr x), v1, v2, v3] (Sum.inr x :: st) M := eb_E_s hk253 ((congrFun (congrFun (congrFun (congrFun (lk253_6 560 (Nat.le_of_ble_eq_true rfl)) _) _) _) _).trans rfl)
theorem e253_561 {x : Int32} : eb_E L d 253 561 [v0, v1, v2, some (zi x)] (st) M = eb_E L d 253 562 [v0, v1, v2, some (zi x)] (zi x :: st) M := eb_E_s hk253 ((congrFun (congrFun (congrFun (congrFun (lk253_6 561 (Nat.le_of_ble_eq_true rfl)) _) _) _) _).trans rfl)
theorem e253_562  : eb_E L d 253 562 ls (st) M = eb_E L d 253 563 ls (zi 1 :: st) M := eb_E_s hk253 ((congrFun (congrFun (congrFun (congrFun (lk253_6 562 (Nat.le_of_ble_eq_true rfl)) _) _) _) _).trans rfl)
theorem e253_563 {x : Int32} {y : Int32} : eb_E L d 253 563 ls (zi y :: zi x :: st) M = eb_E L d 253 564 ls (zi (x + y) :: st) M := eb_E_s hk253 ((congrFun (congrFun (congrFun (congrFun (lk253_6 563 (Nat.le_of_ble_eq_true rfl)) _) _) _) _).trans rfl)
theorem e253_564 {x : Int32} : eb_E L d 253 564 ls (zi x :: Sum.inr (some a) :: st) (nc, ns, I, J, R) = if (eb_ty L a.1).1 = 17 ∧ eb_in x (eb_ty L a.1).2 = true then eb_E L d 253 565 ls (zi (I a x.toNatClampNeg) :: st) (nc, ns, I, J, R) else none := eb_E_iy hk253 ((congrFun (congrFun (congrFun (congrFun (lk253_6 564 (Nat.le_of_ble_eq_true rfl)) _) _) _) _).trans rfl)
theorem e253_565 {x : Option eb_A} : eb_E L d 253 565 [some (Sum.inr x), v1, v2, v3] (st) M = eb_E L d 253 566 [some (Sum.inr x), v1, v2, v3] (Sum.inr x :: st) M := eb_E_s hk253 ((congrFun (congrFun (congrFun (congrFun (lk253_6 565 (Nat.le_of_ble_eq_true rfl)) _) _) _) _).trans rfl)
theorem e253_566 {x : Int32} : eb_E L d 253 566 [v0, v1, v2, some (zi x)] (st) M = eb_E L d 253 567 [v0, v1, v2, some (zi x)] (zi x :: st) M := eb_E_s hk253 ((congrFun (congrFun (congrFun (congrFun (lk253_6 566 (Nat.le_of_ble_eq_true rfl)) _) _) _) _).trans rfl)
theorem e253_567  : eb_E L d 253 567 ls (st) M = eb_E L d 253 568 ls (zi 2 :: st) M := eb_E_s hk253 ((congrFun (congrFun (congrFun (congrFun (lk253_6 567 (Nat.le_of_ble_eq_true rfl)) _) _) _) _).trans rfl)
theorem e253_568 {x : Int32} {y : Int32} : eb_E L d 253 568 ls (zi y :: zi x :: st) M = eb_E L d 253 569 ls (zi (x + y) :: st) M := eb_E_s hk253 ((congrFun (congrFun (congrFun (congrFun (lk253_6 568 (Nat.le_of_ble_eq_true rfl)) _) _) _) _).trans rfl)
theorem e253_569 {x : Int32} : eb_E L d 253 569 ls (zi x :: Sum.inr (some a) :: st) (nc, ns, I, J, R) = if (eb_ty L a.1).1 = 17 ∧ eb_in x (eb_ty L a.1).2 = true then eb_E L d 253 570 ls (zi (I a x.toNatClampNeg) :: st) (nc, ns, I, J, R) else none := eb_E_iy hk253 ((congrFun (congrFun (congrFun (congrFun (lk253_6 569 (Nat.le_of_ble_eq_true rfl)) _) _) _) _).trans rfl)
theorem e253_570 {s0 : Int32} : eb_E L d 253 570 ls ([a2, a1, a0, zi s0]) M = (eb_ev L d 160 [a0, a1, a2] M).bind (fun q => eb_E L d 253 573 ls [q.1, zi s0] q.2) := eb_E_c hk253 ((congrFun (congrFun (congrFun (congrFun (lk253_6 570 (Nat.le_of_ble_eq_true rfl)) _) _) _) _).trans rfl)
theorem e253_573 {x : Int32} {y : Int32} : eb_E L d 253 573 ls (zi y :: zi x :: st) M = if x = y then eb_E L d 253 1948 ls st M else eb_E L d 253 576 ls st M := eb_E_b hk253 ((congrFun (congrFun (congrFun (congrFun (lk253_6 573 (Nat.le_of_ble_eq_true rfl)) _) _) _) _).trans rfl)
theorem e253_576  : eb_E L d 253 576 ls (st) M = eb_E L d 253 577 ls (zi 0 :: st) M := eb_E_s hk253 ((congrFun (congrFun (congrFun (congrFun (lk253_6 576 (Nat.le_of_ble_eq_true rfl)) _) _) _) _).trans rfl)
theorem e253_577 {x : Int32} : eb_E L d 253 577 ls ([zi x]) M = if x = 0 ∨ x = 1 then some (zi x, M) else none := eb_E_ri hk253 ((congrFun (congrFun (congrFun (congrFun (lk253_6 577 (Nat.le_of_ble_eq_true rfl)) _) _) _) _).trans rfl)
theorem e253_578 {x : Option eb_A} : eb_E L d 253 578 [v0, some (Sum.inr x), v2, v3] (st) M = eb_E L d 253 579 [v0, some (Sum.inr x), v2, v3] (Sum.inr x :: st) M := eb_E_s hk253 ((congrFun (congrFun (congrFun (congrFun (lk253_6 578 (Nat.le_of_ble_eq_true rfl)) _) _) _) _).trans rfl)
theorem e253_579 {x : Option eb_A} : eb_E L d 253 579 [some (Sum.inr x), v1, v2, v3] (st) M = eb_E L d 253 580 [some (Sum.inr x), v1, v2, v3] (Sum.inr x :: st) M := eb_E_s hk253 ((congrFun (congrFun (congrFun (congrFun (lk253_6 579 (Nat.le_of_ble_eq_true rfl)) _) _) _) _).trans rfl)
theorem e253_580 {x : Int32} : eb_E L d 253 580 [v0, v1, v2, some (zi x)] (st) M = eb_E L d 253 581 [v0, v1, v2, some (zi x)] (zi x :: st) M := eb_E_s hk253 ((congrFun (congrFun (congrFun (congrFun (lk253_6 580 (Nat.le_of_ble_eq_true rfl)) _) _) _) _).trans rfl)
theorem e253_581  : eb_E L d 253 581 ls (st) M = eb_E L d 253 582 ls (zi 1 :: st) M := eb_E_s hk253 ((congrFun (congrFun (congrFun (congrFun (lk253_6 581 (Nat.le_of_ble_eq_true rfl)) _) _) _) _).trans rfl)
theorem e253_582 {x : Int32} {y : Int32} : eb_E L d 253 582 ls (zi y :: zi x :: st) M = eb_E L d 253 583 ls (zi (x + y) :: st) M := eb_E_s hk253 ((congrFun (congrFun (congrFun (congrFun (lk253_7 582 (Nat.le_of_ble_eq_true rfl)) _) _) _) _).trans rfl)
theorem e253_583 {x : Int32} : eb_E L d 253 583 ls (zi x :: Sum.inr (some a) :: st) (nc, ns, I, J, R) = if (eb_ty L a.1).1 = 17 ∧ eb_in x (eb_ty L a.1).2 = true then eb_E L d 253 584 ls (zi (I a x.toNatClampNeg) :: st) (nc, ns, I, J, R) else none := eb_E_iy hk253 ((congrFun (congrFun (congrFun (congrFun (lk253_7 583 (Nat.le_of_ble_eq_true rfl)) _) _) _) _).trans rfl)
theorem e253_584 {x : Option eb_A} : eb_E L d 253 584 [some (Sum.inr x), v1, v2, v3] (st) M = eb_E L d 253 585 [some (Sum.inr x), v1, v2, v3] (Sum.inr x :: st) M := eb_E_s hk253 ((congrFun (congrFun (congrFun (congrFun (lk253_7 584 (Nat.le_of_ble_eq_true rfl)) _) _) _) _).trans rfl)
theorem e253_585 {x : Int32} : eb_E L d 253 585 [v0, v1, v2, some (zi x)] (st) M = eb_E L d 253 586 [v0, v1, v2, some (zi x)] (zi x :: st) M := eb_E_s hk253 ((congrFun (congrFun (congrFun (congrFun (lk253_7 585 (Nat.le_of_ble_eq_true rfl)) _) _) _) _).trans rfl)
theorem e253_586  : eb_E L d 253 586 ls (st) M = eb_E L d 253 587 ls (zi 2 :: st) M := eb_E_s hk253 ((congrFun (congrFun (congrFun (congrFun (lk253_7 586 (Nat.le_of_ble_eq_true rfl)) _) _) _) _).trans rfl)
theorem e253_587 {x : Int32} {y : Int32} : eb_E L d 253 587 ls (zi y :: zi x :: st) M = eb_E L d 253 588 ls (zi (x + y) :: st) M := eb_E_s hk253 ((congrFun (congrFun (congrFun (congrFun (lk253_7 587 (Nat.le_of_ble_eq_true rfl)) _) _) _) _).trans rfl)
theorem e253_588 {x : Int32} : eb_E L d 253 588 ls (zi x :: Sum.inr (some a) :: st) (nc, ns, I, J, R) = if (eb_ty L a.1).1 = 17 ∧ eb_in x (eb_ty L a.1).2 = true then eb_E L d 253 589 ls (zi (I a x.toNatClampNeg) :: st) (nc, ns, I, J, R) else none := eb_E_iy hk253 ((congrFun (congrFun (congrFun (congrFun (lk253_7 588 (Nat.le_of_ble_eq_true rfl)) _) _) _) _).trans rfl)
theorem e253_589 {x : Option eb_A} : eb_E L d 253 589 [some (Sum.inr x), v1, v2, v3] (st) M = eb_E L d 253 590 [some (Sum.inr x), v1, v2, v3] (Sum.inr x :: st) M := eb_E_s hk253 ((congrFun (congrFun (congrFun (congrFun (lk253_7 589 (Nat.le_of_ble_eq_true rfl)) _) _) _) _).trans rfl)
theorem e253_590 {x : Int32} : eb_E L d 253 590 [v0, v1, v2, some (zi x)] (st) M = eb_E L d 253 591 [v0, v1, v2, some (zi x)] (zi x :: st) M := eb_E_s hk253 ((congrFun (congrFun (congrFun (congrFun (lk253_7 590 (Nat.le_of_ble_eq_true rfl)) _) _) _) _).trans rfl)
theorem e253_591  : eb_E L d 253 591 ls (st) M = eb_E L d 253 592 ls (zi 3 :: st) M := eb_E_s hk253 ((congrFun (congrFun (congrFun (congrFun (lk253_7 591 (Nat.le_of_ble_eq_true rfl)) _) _) _) _).trans rfl)
theorem e253_592 {x : Int32} {y : Int32} : eb_E L d 253 592 ls (zi y :: zi x :: st) M = eb_E L d 253 593 ls (zi (x + y) :: st) M := eb_E_s hk253 ((congrFun (congrFun (congrFun (congrFun (lk253_7 592 (Nat.le_of_ble_eq_true rfl)) _) _) _) _).trans rfl)
theorem e253_593 {x : Int32} : eb_E L d 253 593 ls (zi x :: Sum.inr (some a) :: st) (nc, ns, I, J, R) = if (eb_ty L a.1).1 = 17 ∧ eb_in x (eb_ty L a.1).2 = true then eb_E L d 253 594 ls (zi (I a x.toNatClampNeg) :: st) (nc, ns, I, J, R) else none := eb_E_iy hk253 ((congrFun (congrFun (congrFun (congrFun (lk253_7 593 (Nat.le_of_ble_eq_true rfl)) _) _) _) _).trans rfl)
theorem e253_594  : eb_E L d 253 594 ls ([a3, a2, a1, a0]) M = (eb_ev L d 75 [a0, a1, a2, a3] M).bind (fun q => eb_E L d 253 597 ls [q.1] q.2) := eb_E_c hk253 ((congrFun (congrFun (congrFun (congrFun (lk253_7 594 (Nat.le_of_ble_eq_true rfl)) _) _) _) _).trans rfl)
theorem e253_597 {x : Option eb_A} : eb_E L d 253 597 [v0, v1, some (Sum.inr x), v3] (st) M = eb_E L d 253 598 [v0, v1, some (Sum.inr x), v3] (Sum.inr x :: st) M := eb_E_s hk253 ((congrFun (congrFun (congrFun (congrFun (lk253_7 597 (Nat.le_of_ble_eq_true rfl)) _) _) _) _).trans rfl)
theorem e253_598 {x : Option eb_A} : eb_E L d 253 598 [some (Sum.inr x), v1, v2, v3] (st) M = eb_E L d 253 599 [some (Sum.inr x), v1, v2, v3] (Sum.inr x :: st) M := eb_E_s hk253 ((congrFun (congrFun (congrFun (congrFun (lk253_7 598 (Nat.le_of_ble_eq_true rfl)) _) _) _) _).trans rfl)
theorem e253_599 {x : Int32} : eb_E L d 253 599 [v0, v1, v2, some (zi x)] (st) M = eb_E L d 253 600 [v0, v1, v2, some (zi x)] (zi x :: st) M := eb_E_s hk253 ((congrFun (congrFun (congrFun (congrFun (lk253_7 599 (Nat.le_of_ble_eq_true rfl)) _) _) _) _).trans rfl)
theorem e253_600  : eb_E L d 253 600 ls (st) M = eb_E L d 253 601 ls (zi 1 :: st) M := eb_E_s hk253 ((congrFun (congrFun (congrFun (congrFun (lk253_7 600 (Nat.le_of_ble_eq_true rfl)) _) _) _) _).trans rfl)
theorem e253_601 {x : Int32} {y : Int32} : eb_E L d 253 601 ls (zi y :: zi x :: st) M = eb_E L d 253 602 ls (zi (x + y) :: st) M := eb_E_s hk253 ((congrFun (congrFun (congrFun (congrFun (lk253_7 601 (Nat.le_of_ble_eq_true rfl)) _) _) _) _).trans rfl)
theorem e253_602 {x : Int32} : eb_E L d 253 602 ls (zi x :: Sum.inr (some a) :: st) (nc, ns, I, J, R) = if (eb_ty L a.1).1 = 17 ∧ eb_in x (eb_ty L a.1).2 = true then eb_E L d 253 603 ls (zi (I a x.toNatClampNeg) :: st) (nc, ns, I, J, R) else none := eb_E_iy hk253 ((congrFun (congrFun (congrFun (congrFun (lk253_7 602 (Nat.le_of_ble_eq_true rfl)) _) _) _) _).trans rfl)
theorem e253_603 {x : Option eb_A} : eb_E L d 253 603 [some (Sum.inr x), v1, v2, v3] (st) M = eb_E L d 253 604 [some (Sum.inr x), v1, v2, v3] (Sum.inr x :: st) M := eb_E_s hk253 ((congrFun (congrFun (congrFun (congrFun (lk253_7 603 (Nat.le_of_ble_eq_true rfl)) _) _) _) _).trans rfl)
theorem e253_604 {x : Int32} : eb_E L d 253 604 [v0, v1, v2, some (zi x)] (st) M = eb_E L d 253 605 [v0, v1, v2, some (zi x)] (zi x :: st) M := eb_E_s hk253 ((congrFun (congrFun (congrFun (congrFun (lk253_7 604 (Nat.le_of_ble_eq_true rfl)) _) _) _) _).trans rfl)
theorem e253_605  : eb_E L d 253 605 ls (st) M = eb_E L d 253 606 ls (zi 2 :: st) M := eb_E_s hk253 ((congrFun (congrFun (congrFun (congrFun (lk253_7 605 (Nat.le_of_ble_eq_true rfl)) _) _) _) _).trans rfl)
theorem e253_606 {x : Int32} {y : Int32} : eb_E L d 253 606 ls (zi y :: zi x :: st) M = eb_E L d 253 607 ls (zi (x + y) :: st) M := eb_E_s hk253 ((congrFun (congrFun (congrFun (congrFun (lk253_7 606 (Nat.le_of_ble_eq_true rfl)) _) _) _) _).trans rfl)
theorem e253_607 {x : Int32} : eb_E L d 253 607 ls (zi x :: Sum.inr (some a) :: st) (nc, ns, I, J, R) = if (eb_ty L a.1).1 = 17 ∧ eb_in x (eb_ty L a.1).2 = true then eb_E L d 253 608 ls (zi (I a x.toNatClampNeg) :: st) (nc, ns, I, J, R) else none := eb_E_iy hk253 ((congrFun (congrFun (congrFun (congrFun (lk253_7 607 (Nat.le_of_ble_eq_true rfl)) _) _) _) _).trans rfl)
theorem e253_608 {x : Option eb_A} : eb_E L d 253 608 [some (Sum.inr x), v1, v2, v3] (st) M = eb_E L d 253 609 [some (Sum.inr x), v1, v2, v3] (Sum.inr x :: st) M := eb_E_s hk253 ((congrFun (congrFun (congrFun (congrFun (lk253_7 608 (Nat.le_of_ble_eq_true rfl)) _) _) _) _).trans rfl)
theorem e253_609 {x : Int32} : eb_E L d 253 609 [v0, v1, v2, some (zi x)] (st) M = eb_E L d 253 610 [v0, v1, v2, some (zi x)] (zi x :: st) M := eb_E_s hk253 ((congrFun (congrFun (congrFun (congrFun (lk253_7 609 (Nat.le_of_ble_eq_true rfl)) _) _) _) _).trans rfl)
theorem e253_610  : eb_E L d 253 610 ls (st) M = eb_E L d 253 611 ls (zi 3 :: st) M := eb_E_s hk253 ((congrFun (congrFun (congrFun (congrFun (lk253_7 610 (Nat.le_of_ble_eq_true rfl)) _) _) _) _).trans rfl)
theorem e253_611 {x : Int32} {y : Int32} : eb_E L d 253 611 ls (zi y :: zi x :: st) M = eb_E L d 253 612 ls (zi (x + y) :: st) M := eb_E_s hk253 ((congrFun (congrFun (congrFun (congrFun (lk253_7 611 (Nat.le_of_ble_eq_true rfl)) _) _) _) _).trans rfl)
theorem e253_612 {x : Int32} : eb_E L d 253 612 ls (zi x :: Sum.inr (some a) :: st) (nc, ns, I, J, R) = if (eb_ty L a.1).1 = 17 ∧ eb_in x (eb_ty L a.1).2 = true then eb_E L d 253 613 ls (zi (I a x.toNatClampNeg) :: st) (nc, ns, I, J, R) else none := eb_E_iy hk253 ((congrFun (congrFun (congrFun (congrFun (lk253_7 612 (Nat.le_of_ble_eq_true rfl)) _) _) _) _).trans rfl)
theorem e253_613 {s0 : Int32} : eb_E L d 253 613 ls ([a3, a2, a1, a0, zi s0]) M = (eb_ev L d 162 [a0, a1, a2, a3] M).bind (fun q => eb_E L d 253 616 ls [q.1, zi s0] q.2) := eb_E_c hk253 ((congrFun (congrFun (congrFun (congrFun (lk253_7 613 (Nat.le_of_ble_eq_true rfl)) _) _) _) _).trans rfl)
theorem e253_616 {x : Int32} {y : Int32} : eb_E L d 253 616 ls (zi y :: zi x :: st) M = if x = y then eb_E L d 253 1948 ls st M else eb_E L d 253 619 ls st M := eb_E_b hk253 ((congrFun (congrFun (congrFun (congrFun (lk253_7 616 (Nat.le_of_ble_eq_true rfl)) _) _) _) _).trans rfl)
theorem e253_619  : eb_E L d 253 619 ls (st) M = eb_E L d 253 620 ls (zi 0 :: st) M := eb_E_s hk253 ((congrFun (congrFun (congrFun (congrFun (lk253_7 619 (Nat.le_of_ble_eq_true rfl)) _) _) _) _).trans rfl)
theorem e253_620 {x : Int32} : eb_E L d 253 620 ls ([zi x]) M = if x = 0 ∨ x = 1 then some (zi x, M) else none := eb_E_ri hk253 ((congrFun (congrFun (congrFun (congrFun (lk253_7 620 (Nat.le_of_ble_eq_true rfl)) _) _) _) _).trans rfl)
theorem e253_621 {x : Option eb_A} : eb_E L d 253 621 [v0, some (Sum.inr x), v2, v3] (st) M = eb_E L d 253 622 [v0, some (Sum.inr x), v2, v3] (Sum.inr x :: st) M := eb_E_s hk253 ((congrFun (congrFun (congrFun (congrFun (lk253_7 621 (Nat.le_of_ble_eq_true rfl)) _) _) _) _).trans rfl)
theorem e253_622 {x : Option eb_A} : eb_E L d 253 622 [some (Sum.inr x), v1, v2, v3] (st) M = eb_E L d 253 623 [some (Sum.inr x), v1, v2, v3] (Sum.inr x :: st) M := eb_E_s hk253 ((congrFun (congrFun (congrFun (congrFun (lk253_7 622 (Nat.le_of_ble_eq_true rfl)) _) _) _) _).trans rfl)
theorem e253_623 {x : Int32} : eb_E L d 253 623 [v0, v1, v2, some (zi x)] (st) M = eb_E L d 253 624 [v0, v1, v2, some (zi x)] (zi x :: st) M := eb_E_s hk253 ((congrFun (congrFun (congrFun (congrFun (lk253_7 623 (Nat.le_of_ble_eq_true rfl)) _) _) _) _).trans rfl)
theorem e253_624  : eb_E L d 253 624 ls (st) M = eb_E L d 253 625 ls (zi 1 :: st) M := eb_E_s hk253 ((congrFun (congrFun (congrFun (congrFun (lk253_7 624 (Nat.le_of_ble_eq_true rfl)) _) _) _) _).trans rfl)
theorem e253_625 {x : Int32} {y : Int32} : eb_E L d 253 625 ls (zi y :: zi x :: st) M = eb_E L d 253 626 ls (zi (x + y) :: st) M := eb_E_s hk253 ((congrFun (congrFun (congrFun (congrFun (lk253_7 625 (Nat.le_of_ble_eq_true rfl)) _) _) _) _).trans rfl)
theorem e253_626 {x : Int32} : eb_E L d 253 626 ls (zi x :: Sum.inr (some a) :: st) (nc, ns, I, J, R) = if (eb_ty L a.1).1 = 17 ∧ eb_in x (eb_ty L a.1).2 = true then eb_E L d 253 627 ls (zi (I a x.toNatClampNeg) :: st) (nc, ns, I, J, R) else none := eb_E_iy hk253 ((congrFun (congrFun (congrFun (congrFun (lk253_7 626 (Nat.le_of_ble_eq_true rfl)) _) _) _) _).trans rfl)
theorem e253_627 {x : Option eb_A} : eb_E L d 253 627 [some (Sum.inr x), v1, v2, v3] (st) M = eb_E L d 253 628 [some (Sum.inr x), v1, v2, v3] (Sum.inr x :: st) M := eb_E_s hk253 ((congrFun (congrFun (congrFun (congrFun (lk253_7 627 (Nat.le_of_ble_eq_true rfl)) _) _) _) _).trans rfl)
theorem e253_628 {x : Int32} : eb_E L d 253 628 [v0, v1, v2, some (zi x)] (st) M = eb_E L d 253 629 [v0, v1, v2, some (zi x)] (zi x :: st) M := eb_E_s hk253 ((congrFun (congrFun (congrFun (congrFun (lk253_8 628 (Nat.le_of_ble_eq_true rfl)) _) _) _) _).trans rfl)
theorem e253_629  : eb_E L d 253 629 ls (st) M = eb_E L d 253 630 ls (zi 2 :: st) M := eb_E_s hk253 ((congrFun (congrFun (congrFun (congrFun (lk253_8 629 (Nat.le_of_ble_eq_true rfl)) _) _) _) _).trans rfl)
theorem e253_630 {x : Int32} {y : Int32} : eb_E L d 253 630 ls (zi y :: zi x :: st) M = eb_E L d 253 631 ls (zi (x + y) :: st) M := eb_E_s hk253 ((congrFun (congrFun (congrFun (congrFun (lk253_8 630 (Nat.le_of_ble_eq_true rfl)) _) _) _) _).trans rfl)
theorem e253_631 {x : Int32} : eb_E L d 253 631 ls (zi x :: Sum.inr (some a) :: st) (nc, ns, I, J, R) = if (eb_ty L a.1).1 = 17 ∧ eb_in x (eb_ty L a.1).2 = true then eb_E L d 253 632 ls (zi (I a x.toNatClampNeg) :: st) (nc, ns, I, J, R) else none := eb_E_iy hk253 ((congrFun (congrFun (congrFun (congrFun (lk253_8 631 (Nat.le_of_ble_eq_true rfl)) _) _) _) _).trans rfl)
theorem e253_632 {x : Option eb_A} : eb_E L d 253 632 [some (Sum.inr x), v1, v2, v3] (st) M = eb_E L d 253 633 [some (Sum.inr x), v1, v2, v3] (Sum.inr x :: st) M := eb_E_s hk253 ((congrFun (congrFun (congrFun (congrFun (lk253_8 632 (Nat.le_of_ble_eq_true rfl)) _) _) _) _).trans rfl)
theorem e253_633 {x : Int32} : eb_E L d 253 633 [v0, v1, v2, some (zi x)] (st) M = eb_E L d 253 634 [v0, v1, v2, some (zi x)] (zi x :: st) M := eb_E_s hk253 ((congrFun (congrFun (congrFun (congrFun (lk253_8 633 (Nat.le_of_ble_eq_true rfl)) _) _) _) _).trans rfl)
theorem e253_634  : eb_E L d 253 634 ls (st) M = eb_E L d 253 635 ls (zi 3 :: st) M := eb_E_s hk253 ((congrFun (congrFun (congrFun (congrFun (lk253_8 634 (Nat.le_of_ble_eq_true rfl)) _) _) _) _).trans rfl)
theorem e253_635 {x : Int32} {y : Int32} : eb_E L d 253 635 ls (zi y :: zi x :: st) M = eb_E L d 253 636 ls (zi (x + y) :: st) M := eb_E_s hk253 ((congrFun (congrFun (congrFun (congrFun (lk253_8 635 (Nat.le_of_ble_eq_true rfl)) _) _) _) _).trans rfl)
theorem e253_636 {x : Int32} : eb_E L d 253 636 ls (zi x :: Sum.inr (some a) :: st) (nc, ns, I, J, R) = if (eb_ty L a.1).1 = 17 ∧ eb_in x (eb_ty L a.1).2 = true then eb_E L d 253 637 ls (zi (I a x.toNatClampNeg) :: st) (nc, ns, I, J, R) else none := eb_E_iy hk253 ((congrFun (congrFun (congrFun (congrFun (lk253_8 636 (Nat.le_of_ble_eq_true rfl)) _) _) _) _).trans rfl)
theorem e253_637  : eb_E L d 253 637 ls ([a3, a2, a1, a0]) M = (eb_ev L d 76 [a0, a1, a2, a3] M).bind (fun q => eb_E L d 253 640 ls [q.1] q.2) := eb_E_c hk253 ((congrFun (congrFun (congrFun (congrFun (lk253_8 637 (Nat.le_of_ble_eq_true rfl)) _) _) _) _).trans rfl)
theorem e253_640 {x : Option eb_A} : eb_E L d 253 640 [v0, v1, some (Sum.inr x), v3] (st) M = eb_E L d 253 641 [v0, v1, some (Sum.inr x), v3] (Sum.inr x :: st) M := eb_E_s hk253 ((congrFun (congrFun (congrFun (congrFun (lk253_8 640 (Nat.le_of_ble_eq_true rfl)) _) _) _) _).trans rfl)
theorem e253_641 {x : Option eb_A} : eb_E L d 253 641 [some (Sum.inr x), v1, v2, v3] (st) M = eb_E L d 253 642 [some (Sum.inr x), v1, v2, v3] (Sum.inr x :: st) M := eb_E_s hk253 ((congrFun (congrFun (congrFun (congrFun (lk253_8 641 (Nat.le_of_ble_eq_true rfl)) _) _) _) _).trans rfl)
theorem e253_642 {x : Int32} : eb_E L d 253 642 [v0, v1, v2, some (zi x)] (st) M = eb_E L d 253 643 [v0, v1, v2, some (zi x)] (zi x :: st) M := eb_E_s hk253 ((congrFun (congrFun (congrFun (congrFun (lk253_8 642 (Nat.le_of_ble_eq_true rfl)) _) _) _) _).trans rfl)
theorem e253_643  : eb_E L d 253 643 ls (st) M = eb_E L d 253 644 ls (zi 1 :: st) M := eb_E_s hk253 ((congrFun (congrFun (congrFun (congrFun (lk253_8 643 (Nat.le_of_ble_eq_true rfl)) _) _) _) _).trans rfl)
theorem e253_644 {x : Int32} {y : Int32} : eb_E L d 253 644 ls (zi y :: zi x :: st) M = eb_E L d 253 645 ls (zi (x + y) :: st) M := eb_E_s hk253 ((congrFun (congrFun (congrFun (congrFun (lk253_8 644 (Nat.le_of_ble_eq_true rfl)) _) _) _) _).trans rfl)
theorem e253_645 {x : Int32} : eb_E L d 253 645 ls (zi x :: Sum.inr (some a) :: st) (nc, ns, I, J, R) = if (eb_ty L a.1).1 = 17 ∧ eb_in x (eb_ty L a.1).2 = true then eb_E L d 253 646 ls (zi (I a x.toNatClampNeg) :: st) (nc, ns, I, J, R) else none := eb_E_iy hk253 ((congrFun (congrFun (congrFun (congrFun (lk253_8 645 (Nat.le_of_ble_eq_true rfl)) _) _) _) _).trans rfl)
theorem e253_646 {x : Option eb_A} : eb_E L d 253 646 [some (Sum.inr x), v1, v2, v3] (st) M = eb_E L d 253 647 [some (Sum.inr x), v1, v2, v3] (Sum.inr x :: st) M := eb_E_s hk253 ((congrFun (congrFun (congrFun (congrFun (lk253_8 646 (Nat.le_of_ble_eq_true rfl)) _) _) _) _).trans rfl)
theorem e253_647 {x : Int32} : eb_E L d 253 647 [v0, v1, v2, some (zi x)] (st) M = eb_E L d 253 648 [v0, v1, v2, some (zi x)] (zi x :: st) M := eb_E_s hk253 ((congrFun (congrFun (congrFun (congrFun (lk253_8 647 (Nat.le_of_ble_eq_true rfl)) _) _) _) _).trans rfl)
theorem e253_648  : eb_E L d 253 648 ls (st) M = eb_E L d 253 649 ls (zi 2 :: st) M := eb_E_s hk253 ((congrFun (congrFun (congrFun (congrFun (lk253_8 648 (Nat.le_of_ble_eq_true rfl)) _) _) _) _).trans rfl)
theorem e253_649 {x : Int32} {y : Int32} : eb_E L d 253 649 ls (zi y :: zi x :: st) M = eb_E L d 253 650 ls (zi (x + y) :: st) M := eb_E_s hk253 ((congrFun (congrFun (congrFun (congrFun (lk253_8 649 (Nat.le_of_ble_eq_true rfl)) _) _) _) _).trans rfl)
theorem e253_650 {x : Int32} : eb_E L d 253 650 ls (zi x :: Sum.inr (some a) :: st) (nc, ns, I, J, R) = if (eb_ty L a.1).1 = 17 ∧ eb_in x (eb_ty L a.1).2 = true then eb_E L d 253 651 ls (zi (I a x.toNatClampNeg) :: st) (nc, ns, I, J, R) else none := eb_E_iy hk253 ((congrFun (congrFun (congrFun (congrFun (lk253_8 650 (Nat.le_of_ble_eq_true rfl)) _) _) _) _).trans rfl)
theorem e253_651 {x : Option eb_A} : eb_E L d 253 651 [some (Sum.inr x), v1, v2, v3] (st) M = eb_E L d 253 652 [some (Sum.inr x), v1, v2, v3] (Sum.inr x :: st) M := eb_E_s hk253 ((congrFun (congrFun (congrFun (congrFun (lk253_8 651 (Nat.le_of_ble_eq_true rfl)) _) _) _) _).trans rfl)
theorem e253_652 {x : Int32} : eb_E L d 253 652 [v0, v1, v2, some (zi x)] (st) M = eb_E L d 253 653 [v0, v1, v2, some (zi x)] (zi x :: st) M := eb_E_s hk253 ((congrFun (congrFun (congrFun (congrFun (lk253_8 652 (Nat.le_of_ble_eq_true rfl)) _) _) _) _).trans rfl)
theorem e253_653  : eb_E L d 253 653 ls (st) M = eb_E L d 253 654 ls (zi 3 :: st) M := eb_E_s hk253 ((congrFun (congrFun (congrFun (congrFun (lk253_8 653 (Nat.le_of_ble_eq_true rfl)) _) _) _) _).trans rfl)
theorem e253_654 {x : Int32} {y : Int32} : eb_E L d 253 654 ls (zi y :: zi x :: st) M = eb_E L d 253 655 ls (zi (x + y) :: st) M := eb_E_s hk253 ((congrFun (congrFun (congrFun (congrFun (lk253_8 654 (Nat.le_of_ble_eq_true rfl)) _) _) _) _).trans rfl)
theorem e253_655 {x : Int32} : eb_E L d 253 655 ls (zi x :: Sum.inr (some a) :: st) (nc, ns, I, J, R) = if (eb_ty L a.1).1 = 17 ∧ eb_in x (eb_ty L a.1).2 = true then eb_E L d 253 656 ls (zi (I a x.toNatClampNeg) :: st) (nc, ns, I, J, R) else none := eb_E_iy hk253 ((congrFun (congrFun (congrFun (congrFun (lk253_8 655 (Nat.le_of_ble_eq_true rfl)) _) _) _) _).trans rfl)
theorem e253_656 {s0 : Int32} : eb_E L d 253 656 ls ([a3, a2, a1, a0, zi s0]) M = (eb_ev L d 163 [a0, a1, a2, a3] M).bind (fun q => eb_E L d 253 659 ls [q.1, zi s0] q.2) := eb_E_c hk253 ((congrFun (congrFun (congrFun (congrFun (lk253_8 656 (Nat.le_of_ble_eq_true rfl)) _) _) _) _).trans rfl)
theorem e253_659 {x : Int32} {y : Int32} : eb_E L d 253 659 ls (zi y :: zi x :: st) M = if x = y then eb_E L d 253 1948 ls st M else eb_E L d 253 662 ls st M := eb_E_b hk253 ((congrFun (congrFun (congrFun (congrFun (lk253_8 659 (Nat.le_of_ble_eq_true rfl)) _) _) _) _).trans rfl)
theorem e253_662  : eb_E L d 253 662 ls (st) M = eb_E L d 253 663 ls (zi 0 :: st) M := eb_E_s hk253 ((congrFun (congrFun (congrFun (congrFun (lk253_8 662 (Nat.le_of_ble_eq_true rfl)) _) _) _) _).trans rfl)
theorem e253_663 {x : Int32} : eb_E L d 253 663 ls ([zi x]) M = if x = 0 ∨ x = 1 then some (zi x, M) else none := eb_E_ri hk253 ((congrFun (congrFun (congrFun (congrFun (lk253_8 663 (Nat.le_of_ble_eq_true rfl)) _) _) _) _).trans rfl)
theorem e253_664 {x : Option eb_A} : eb_E L d 253 664 [v0, some (Sum.inr x), v2, v3] (st) M = eb_E L d 253 665 [v0, some (Sum.inr x), v2, v3] (Sum.inr x :: st) M := eb_E_s hk253 ((congrFun (congrFun (congrFun (congrFun (lk253_8 664 (Nat.le_of_ble_eq_true rfl)) _) _) _) _).trans rfl)
theorem e253_665 {x : Option eb_A} : eb_E L d 253 665 [some (Sum.inr x), v1, v2, v3] (st) M = eb_E L d 253 666 [some (Sum.inr x), v1, v2, v3] (Sum.inr x :: st) M := eb_E_s hk253 ((congrFun (congrFun (congrFun (congrFun (lk253_8 665 (Nat.le_of_ble_eq_true rfl)) _) _) _) _).trans rfl)
theorem e253_666 {x : Int32} : eb_E L d 253 666 [v0, v1, v2, some (zi x)] (st) M = eb_E L d 253 667 [v0, v1, v2, some (zi x)] (zi x :: st) M := eb_E_s hk253 ((congrFun (congrFun (congrFun (congrFun (lk253_8 666 (Nat.le_of_ble_eq_true rfl)) _) _) _) _).trans rfl)
theorem e253_667  : eb_E L d 253 667 ls (st) M = eb_E L d 253 668 ls (zi 1 :: st) M := eb_E_s hk253 ((congrFun (congrFun (congrFun (congrFun (lk253_8 667 (Nat.le_of_ble_eq_true rfl)) _) _) _) _).trans rfl)
theorem e253_668 {x : Int32} {y : Int32} : eb_E L d 253 668 ls (zi y :: zi x :: st) M = eb_E L d 253 669 ls (zi (x + y) :: st) M := eb_E_s hk253 ((congrFun (congrFun (congrFun (congrFun (lk253_8 668 (Nat.le_of_ble_eq_true rfl)) _) _) _) _).trans rfl)
theorem e253_669 {x : Int32} : eb_E L d 253 669 ls (zi x :: Sum.inr (some a) :: st) (nc, ns, I, J, R) = if (eb_ty L a.1).1 = 17 ∧ eb_in x (eb_ty L a.1).2 = true then eb_E L d 253 670 ls (zi (I a x.toNatClampNeg) :: st) (nc, ns, I, J, R) else none := eb_E_iy hk253 ((congrFun (congrFun (congrFun (congrFun (lk253_8 669 (Nat.le_of_ble_eq_true rfl)) _) _) _) _).trans rfl)
theorem e253_670 {x : Option eb_A} : eb_E L d 253 670 [some (Sum.inr x), v1, v2, v3] (st) M = eb_E L d 253 671 [some (Sum.inr x), v1, v2, v3] (Sum.inr x :: st) M := eb_E_s hk253 ((congrFun (congrFun (congrFun (congrFun (lk253_8 670 (Nat.le_of_ble_eq_true rfl)) _) _) _) _).trans rfl)
theorem e253_671 {x : Int32} : eb_E L d 253 671 [v0, v1, v2, some (zi x)] (st) M = eb_E L d 253 672 [v0, v1, v2, some (zi x)] (zi x :: st) M := eb_E_s hk253 ((congrFun (congrFun (congrFun (congrFun (lk253_8 671 (Nat.le_of_ble_eq_true rfl)) _) _) _) _).trans rfl)
theorem e253_672  : eb_E L d 253 672 ls (st) M = eb_E L d 253 673 ls (zi 2 :: st) M := eb_E_s hk253 ((congrFun (congrFun (congrFun (congrFun (lk253_8 672 (Nat.le_of_ble_eq_true rfl)) _) _) _) _).trans rfl)
theorem e253_673 {x : Int32} {y : Int32} : eb_E L d 253 673 ls (zi y :: zi x :: st) M = eb_E L d 253 674 ls (zi (x + y) :: st) M := eb_E_s hk253 ((congrFun (congrFun (congrFun (congrFun (lk253_8 673 (Nat.le_of_ble_eq_true rfl)) _) _) _) _).trans rfl)
theorem e253_674 {x : Int32} : eb_E L d 253 674 ls (zi x :: Sum.inr (some a) :: st) (nc, ns, I, J, R) = if (eb_ty L a.1).1 = 17 ∧ eb_in x (eb_ty L a.1).2 = true then eb_E L d 253 675 ls (zi (I a x.toNatClampNeg) :: st) (nc, ns, I, J, R) else none := eb_E_iy hk253 ((congrFun (congrFun (congrFun (congrFun (lk253_9 674 (Nat.le_of_ble_eq_true rfl)) _) _) _) _).trans rfl)
theorem e253_675 {x : Option eb_A} : eb_E L d 253 675 [some (Sum.inr x), v1, v2, v3] (st) M = eb_E L d 253 676 [some (Sum.inr x), v1, v2, v3] (Sum.inr x :: st) M := eb_E_s hk253 ((congrFun (congrFun (congrFun (congrFun (lk253_9 675 (Nat.le_of_ble_eq_true rfl)) _) _) _) _).trans rfl)
theorem e253_676 {x : Int32} : eb_E L d 253 676 [v0, v1, v2, some (zi x)] (st) M = eb_E L d 253 677 [v0, v1, v2, some (zi x)] (zi x :: st) M := eb_E_s hk253 ((congrFun (congrFun (congrFun (congrFun (lk253_9 676 (Nat.le_of_ble_eq_true rfl)) _) _) _) _).trans rfl)
theorem e253_677  : eb_E L d 253 677 ls (st) M = eb_E L d 253 678 ls (zi 3 :: st) M := eb_E_s hk253 ((congrFun (congrFun (congrFun (congrFun (lk253_9 677 (Nat.le_of_ble_eq_true rfl)) _) _) _) _).trans rfl)
theorem e253_678 {x : Int32} {y : Int32} : eb_E L d 253 678 ls (zi y :: zi x :: st) M = eb_E L d 253 679 ls (zi (x + y) :: st) M := eb_E_s hk253 ((congrFun (congrFun (congrFun (congrFun (lk253_9 678 (Nat.le_of_ble_eq_true rfl)) _) _) _) _).trans rfl)
theorem e253_679 {x : Int32} : eb_E L d 253 679 ls (zi x :: Sum.inr (some a) :: st) (nc, ns, I, J, R) = if (eb_ty L a.1).1 = 17 ∧ eb_in x (eb_ty L a.1).2 = true then eb_E L d 253 680 ls (zi (I a x.toNatClampNeg) :: st) (nc, ns, I, J, R) else none := eb_E_iy hk253 ((congrFun (congrFun (congrFun (congrFun (lk253_9 679 (Nat.le_of_ble_eq_true rfl)) _) _) _) _).trans rfl)
theorem e253_680  : eb_E L d 253 680 ls ([a3, a2, a1, a0]) M = (eb_ev L d 77 [a0, a1, a2, a3] M).bind (fun q => eb_E L d 253 683 ls [q.1] q.2) := eb_E_c hk253 ((congrFun (congrFun (congrFun (congrFun (lk253_9 680 (Nat.le_of_ble_eq_true rfl)) _) _) _) _).trans rfl)
theorem e253_683 {x : Option eb_A} : eb_E L d 253 683 [v0, v1, some (Sum.inr x), v3] (st) M = eb_E L d 253 684 [v0, v1, some (Sum.inr x), v3] (Sum.inr x :: st) M := eb_E_s hk253 ((congrFun (congrFun (congrFun (congrFun (lk253_9 683 (Nat.le_of_ble_eq_true rfl)) _) _) _) _).trans rfl)
theorem e253_684 {x : Option eb_A} : eb_E L d 253 684 [some (Sum.inr x), v1, v2, v3] (st) M = eb_E L d 253 685 [some (Sum.inr x), v1, v2, v3] (Sum.inr x :: st) M := eb_E_s hk253 ((congrFun (congrFun (congrFun (congrFun (lk253_9 684 (Nat.le_of_ble_eq_true rfl)) _) _) _) _).trans rfl)
theorem e253_685 {x : Int32} : eb_E L d 253 685 [v0, v1, v2, some (zi x)] (st) M = eb_E L d 253 686 [v0, v1, v2, some (zi x)] (zi x :: st) M := eb_E_s hk253 ((congrFun (congrFun (congrFun (congrFun (lk253_9 685 (Nat.le_of_ble_eq_true rfl)) _) _) _) _).trans rfl)
theorem e253_686  : eb_E L d 253 686 ls (st) M = eb_E L d 253 687 ls (zi 1 :: st) M := eb_E_s hk253 ((congrFun (congrFun (congrFun (congrFun (lk253_9 686 (Nat.le_of_ble_eq_true rfl)) _) _) _) _).trans rfl)
theorem e253_687 {x : Int32} {y : Int32} : eb_E L d 253 687 ls (zi y :: zi x :: st) M = eb_E L d 253 688 ls (zi (x + y) :: st) M := eb_E_s hk253 ((congrFun (congrFun (congrFun (congrFun (lk253_9 687 (Nat.le_of_ble_eq_true rfl)) _) _) _) _).trans rfl)
theorem e253_688 {x : Int32} : eb_E L d 253 688 ls (zi x :: Sum.inr (some a) :: st) (nc, ns, I, J, R) = if (eb_ty L a.1).1 = 17 ∧ eb_in x (eb_ty L a.1).2 = true then eb_E L d 253 689 ls (zi (I a x.toNatClampNeg) :: st) (nc, ns, I, J, R) else none := eb_E_iy hk253 ((congrFun (congrFun (congrFun (congrFun (lk253_9 688 (Nat.le_of_ble_eq_true rfl)) _) _) _) _).trans rfl)
theorem e253_689 {x : Option eb_A} : eb_E L d 253 689 [some (Sum.inr x), v1, v2, v3] (st) M = eb_E L d 253 690 [some (Sum.inr x), v1, v2, v3] (Sum.inr x :: st) M := eb_E_s hk253 ((congrFun (congrFun (congrFun (congrFun (lk253_9 689 (Nat.le_of_ble_eq_true rfl)) _) _) _) _).trans rfl)
theorem e253_690 {x : Int32} : eb_E L d 253 690 [v0, v1, v2, some (zi x)] (st) M = eb_E L d 253 691 [v0, v1, v2, some (zi x)] (zi x :: st) M := eb_E_s hk253 ((congrFun (congrFun (congrFun (congrFun (lk253_9 690 (Nat.le_of_ble_eq_true rfl)) _) _) _) _).trans rfl)
theorem e253_691  : eb_E L d 253 691 ls (st) M = eb_E L d 253 692 ls (zi 2 :: st) M := eb_E_s hk253 ((congrFun (congrFun (congrFun (congrFun (lk253_9 691 (Nat.le_of_ble_eq_true rfl)) _) _) _) _).trans rfl)
theorem e253_692 {x : Int32} {y : Int32} : eb_E L d 253 692 ls (zi y :: zi x :: st) M = eb_E L d 253 693 ls (zi (x + y) :: st) M := eb_E_s hk253 ((congrFun (congrFun (congrFun (congrFun (lk253_9 692 (Nat.le_of_ble_eq_true rfl)) _) _) _) _).trans rfl)
theorem e253_693 {x : Int32} : eb_E L d 253 693 ls (zi x :: Sum.inr (some a) :: st) (nc, ns, I, J, R) = if (eb_ty L a.1).1 = 17 ∧ eb_in x (eb_ty L a.1).2 = true then eb_E L d 253 694 ls (zi (I a x.toNatClampNeg) :: st) (nc, ns, I, J, R) else none := eb_E_iy hk253 ((congrFun (congrFun (congrFun (congrFun (lk253_9 693 (Nat.le_of_ble_eq_true rfl)) _) _) _) _).trans rfl)
theorem e253_694 {x : Option eb_A} : eb_E L d 253 694 [some (Sum.inr x), v1, v2, v3] (st) M = eb_E L d 253 695 [some (Sum.inr x), v1, v2, v3] (Sum.inr x :: st) M := eb_E_s hk253 ((congrFun (congrFun (congrFun (congrFun (lk253_9 694 (Nat.le_of_ble_eq_true rfl)) _) _) _) _).trans rfl)
theorem e253_695 {x : Int32} : eb_E L d 253 695 [v0, v1, v2, some (zi x)] (st) M = eb_E L d 253 696 [v0, v1, v2, some (zi x)] (zi x :: st) M := eb_E_s hk253 ((congrFun (congrFun (congrFun (congrFun (lk253_9 695 (Nat.le_of_ble_eq_true rfl)) _) _) _) _).trans rfl)
theorem e253_696  : eb_E L d 253 696 ls (st) M = eb_E L d 253 697 ls (zi 3 :: st) M := eb_E_s hk253 ((congrFun (congrFun (congrFun (congrFun (lk253_9 696 (Nat.le_of_ble_eq_true rfl)) _) _) _) _).trans rfl)
theorem e253_697 {x : Int32} {y : Int32} : eb_E L d 253 697 ls (zi y :: zi x :: st) M = eb_E L d 253 698 ls (zi (x + y) :: st) M := eb_E_s hk253 ((congrFun (congrFun (congrFun (congrFun (lk253_9 697 (Nat.le_of_ble_eq_true rfl)) _) _) _) _).trans rfl)
theorem e253_698 {x : Int32} : eb_E L d 253 698 ls (zi x :: Sum.inr (some a) :: st) (nc, ns, I, J, R) = if (eb_ty L a.1).1 = 17 ∧ eb_in x (eb_ty L a.1).2 = true then eb_E L d 253 699 ls (zi (I a x.toNatClampNeg) :: st) (nc, ns, I, J, R) else none := eb_E_iy hk253 ((congrFun (congrFun (congrFun (congrFun (lk253_9 698 (Nat.le_of_ble_eq_true rfl)) _) _) _) _).trans rfl)
theorem e253_699 {s0 : Int32} : eb_E L d 253 699 ls ([a3, a2, a1, a0, zi s0]) M = (eb_ev L d 164 [a0, a1, a2, a3] M).bind (fun q => eb_E L d 253 702 ls [q.1, zi s0] q.2) := eb_E_c hk253 ((congrFun (congrFun (congrFun (congrFun (lk253_9 699 (Nat.le_of_ble_eq_true rfl)) _) _) _) _).trans rfl)
theorem e253_702 {x : Int32} {y : Int32} : eb_E L d 253 702 ls (zi y :: zi x :: st) M = if x = y then eb_E L d 253 1948 ls st M else eb_E L d 253 705 ls st M := eb_E_b hk253 ((congrFun (congrFun (congrFun (congrFun (lk253_9 702 (Nat.le_of_ble_eq_true rfl)) _) _) _) _).trans rfl)
theorem e253_705  : eb_E L d 253 705 ls (st) M = eb_E L d 253 706 ls (zi 0 :: st) M := eb_E_s hk253 ((congrFun (congrFun (congrFun (congrFun (lk253_9 705 (Nat.le_of_ble_eq_true rfl)) _) _) _) _).trans rfl)
theorem e253_706 {x : Int32} : eb_E L d 253 706 ls ([zi x]) M = if x = 0 ∨ x = 1 then some (zi x, M) else none := eb_E_ri hk253 ((congrFun (congrFun (congrFun (congrFun (lk253_9 706 (Nat.le_of_ble_eq_true rfl)) _) _) _) _).trans rfl)
theorem e253_707 {x : Option eb_A} : eb_E L d 253 707 [v0, some (Sum.inr x), v2, v3] (st) M = eb_E L d 253 708 [v0, some (Sum.inr x), v2, v3] (Sum.inr x :: st) M := eb_E_s hk253 ((congrFun (congrFun (congrFun (congrFun (lk253_9 707 (Nat.le_of_ble_eq_true rfl)) _) _) _) _).trans rfl)
theorem e253_708 {x : Option eb_A} : eb_E L d 253 708 [some (Sum.inr x), v1, v2, v3] (st) M = eb_E L d 253 709 [some (Sum.inr x), v1, v2, v3] (Sum.inr x :: st) M := eb_E_s hk253 ((congrFun (congrFun (congrFun (congrFun (lk253_9 708 (Nat.le_of_ble_eq_true rfl)) _) _) _) _).trans rfl)
theorem e253_709 {x : Int32} : eb_E L d 253 709 [v0, v1, v2, some (zi x)] (st) M = eb_E L d 253 710 [v0, v1, v2, some (zi x)] (zi x :: st) M := eb_E_s hk253 ((congrFun (congrFun (congrFun (congrFun (lk253_9 709 (Nat.le_of_ble_eq_true rfl)) _) _) _) _).trans rfl)
theorem e253_710  : eb_E L d 253 710 ls (st) M = eb_E L d 253 711 ls (zi 1 :: st) M := eb_E_s hk253 ((congrFun (congrFun (congrFun (congrFun (lk253_9 710 (Nat.le_of_ble_eq_true rfl)) _) _) _) _).trans rfl)
theorem e253_711 {x : Int32} {y : Int32} : eb_E L d 253 711 ls (zi y :: zi x :: st) M = eb_E L d 253 712 ls (zi (x + y) :: st) M := eb_E_s hk253 ((congrFun (congrFun (congrFun (congrFun (lk253_9 711 (Nat.le_of_ble_eq_true rfl)) _) _) _) _).trans rfl)
theorem e253_712 {x : Int32} : eb_E L d 253 712 ls (zi x :: Sum.inr (some a) :: st) (nc, ns, I, J, R) = if (eb_ty L a.1).1 = 17 ∧ eb_in x (eb_ty L a.1).2 = true then eb_E L d 253 713 ls (zi (I a x.toNatClampNeg) :: st) (nc, ns, I, J, R) else none := eb_E_iy hk253 ((congrFun (congrFun (congrFun (congrFun (lk253_9 712 (Nat.le_of_ble_eq_true rfl)) _) _) _) _).trans rfl)
theorem e253_713 {x : Option eb_A} : eb_E L d 253 713 [some (Sum.inr x), v1, v2, v3] (st) M = eb_E L d 253 714 [some (Sum.inr x), v1, v2, v3] (Sum.inr x :: st) M := eb_E_s hk253 ((congrFun (congrFun (congrFun (congrFun (lk253_9 713 (Nat.le_of_ble_eq_true rfl)) _) _) _) _).trans rfl)
theorem e253_714 {x : Int32} : eb_E L d 253 714 [v0, v1, v2, some (zi x)] (st) M = eb_E L d 253 715 [v0, v1, v2, some (zi x)] (zi x :: st) M := eb_E_s hk253 ((congrFun (congrFun (congrFun (congrFun (lk253_9 714 (Nat.le_of_ble_eq_true rfl)) _) _) _) _).trans rfl)
theorem e253_715  : eb_E L d 253 715 ls (st) M = eb_E L d 253 716 ls (zi 2 :: st) M := eb_E_s hk253 ((congrFun (congrFun (congrFun (congrFun (lk253_9 715 (Nat.le_of_ble_eq_true rfl)) _) _) _) _).trans rfl)
theorem e253_716 {x : Int32} {y : Int32} : eb_E L d 253 716 ls (zi y :: zi x :: st) M = eb_E L d 253 717 ls (zi (x + y) :: st) M := eb_E_s hk253 ((congrFun (congrFun (congrFun (congrFun (lk253_9 716 (Nat.le_of_ble_eq_true rfl)) _) _) _) _).trans rfl)
theorem e253_717 {x : Int32} : eb_E L d 253 717 ls (zi x :: Sum.inr (some a) :: st) (nc, ns, I, J, R) = if (eb_ty L a.1).1 = 17 ∧ eb_in x (eb_ty L a.1).2 = true then eb_E L d 253 718 ls (zi (I a x.toNatClampNeg) :: st) (nc, ns, I, J, R) else none := eb_E_iy hk253 ((congrFun (congrFun (congrFun (congrFun (lk253_9 717 (Nat.le_of_ble_eq_true rfl)) _) _) _) _).trans rfl)
theorem e253_718  : eb_E L d 253 718 ls ([a2, a1, a0]) M = (eb_ev L d 78 [a0, a1, a2] M).bind (fun q => eb_E L d 253 721 ls [q.1] q.2) := eb_E_c hk253 ((congrFun (congrFun (congrFun (congrFun (lk253_9 718 (Nat.le_of_ble_eq_true rfl)) _) _) _) _).trans rfl)
theorem e253_721 {x : Option eb_A} : eb_E L d 253 721 [v0, v1, some (Sum.inr x), v3] (st) M = eb_E L d 253 722 [v0, v1, some (Sum.inr x), v3] (Sum.inr x :: st) M := eb_E_s hk253 ((congrFun (congrFun (congrFun (congrFun (lk253_9 721 (Nat.le_of_ble_eq_true rfl)) _) _) _) _).trans rfl)
theorem e253_722 {x : Option eb_A} : eb_E L d 253 722 [some (Sum.inr x), v1, v2, v3] (st) M = eb_E L d 253 723 [some (Sum.inr x), v1, v2, v3] (Sum.inr x :: st) M := eb_E_s hk253 ((congrFun (congrFun (congrFun (congrFun (lk253_10 722 (Nat.le_of_ble_eq_true rfl)) _) _) _) _).trans rfl)
theorem e253_723 {x : Int32} : eb_E L d 253 723 [v0, v1, v2, some (zi x)] (st) M = eb_E L d 253 724 [v0, v1, v2, some (zi x)] (zi x :: st) M := eb_E_s hk253 ((congrFun (congrFun (congrFun (congrFun (lk253_10 723 (Nat.le_of_ble_eq_true rfl)) _) _) _) _).trans rfl)
theorem e253_724  : eb_E L d 253 724 ls (st) M = eb_E L d 253 725 ls (zi 1 :: st) M := eb_E_s hk253 ((congrFun (congrFun (congrFun (congrFun (lk253_10 724 (Nat.le_of_ble_eq_true rfl)) _) _) _) _).trans rfl)
theorem e253_725 {x : Int32} {y : Int32} : eb_E L d 253 725 ls (zi y :: zi x :: st) M = eb_E L d 253 726 ls (zi (x + y) :: st) M := eb_E_s hk253 ((congrFun (congrFun (congrFun (congrFun (lk253_10 725 (Nat.le_of_ble_eq_true rfl)) _) _) _) _).trans rfl)
theorem e253_726 {x : Int32} : eb_E L d 253 726 ls (zi x :: Sum.inr (some a) :: st) (nc, ns, I, J, R) = if (eb_ty L a.1).1 = 17 ∧ eb_in x (eb_ty L a.1).2 = true then eb_E L d 253 727 ls (zi (I a x.toNatClampNeg) :: st) (nc, ns, I, J, R) else none := eb_E_iy hk253 ((congrFun (congrFun (congrFun (congrFun (lk253_10 726 (Nat.le_of_ble_eq_true rfl)) _) _) _) _).trans rfl)
theorem e253_727 {x : Option eb_A} : eb_E L d 253 727 [some (Sum.inr x), v1, v2, v3] (st) M = eb_E L d 253 728 [some (Sum.inr x), v1, v2, v3] (Sum.inr x :: st) M := eb_E_s hk253 ((congrFun (congrFun (congrFun (congrFun (lk253_10 727 (Nat.le_of_ble_eq_true rfl)) _) _) _) _).trans rfl)
theorem e253_728 {x : Int32} : eb_E L d 253 728 [v0, v1, v2, some (zi x)] (st) M = eb_E L d 253 729 [v0, v1, v2, some (zi x)] (zi x :: st) M := eb_E_s hk253 ((congrFun (congrFun (congrFun (congrFun (lk253_10 728 (Nat.le_of_ble_eq_true rfl)) _) _) _) _).trans rfl)
theorem e253_729  : eb_E L d 253 729 ls (st) M = eb_E L d 253 730 ls (zi 2 :: st) M := eb_E_s hk253 ((congrFun (congrFun (congrFun (congrFun (lk253_10 729 (Nat.le_of_ble_eq_true rfl)) _) _) _) _).trans rfl)
theorem e253_730 {x : Int32} {y : Int32} : eb_E L d 253 730 ls (zi y :: zi x :: st) M = eb_E L d 253 731 ls (zi (x + y) :: st) M := eb_E_s hk253 ((congrFun (congrFun (congrFun (congrFun (lk253_10 730 (Nat.le_of_ble_eq_true rfl)) _) _) _) _).trans rfl)
theorem e253_731 {x : Int32} : eb_E L d 253 731 ls (zi x :: Sum.inr (some a) :: st) (nc, ns, I, J, R) = if (eb_ty L a.1).1 = 17 ∧ eb_in x (eb_ty L a.1).2 = true then eb_E L d 253 732 ls (zi (I a x.toNatClampNeg) :: st) (nc, ns, I, J, R) else none := eb_E_iy hk253 ((congrFun (congrFun (congrFun (congrFun (lk253_10 731 (Nat.le_of_ble_eq_true rfl)) _) _) _) _).trans rfl)
theorem e253_732 {s0 : Int32} : eb_E L d 253 732 ls ([a2, a1, a0, zi s0]) M = (eb_ev L d 165 [a0, a1, a2] M).bind (fun q => eb_E L d 253 735 ls [q.1, zi s0] q.2) := eb_E_c hk253 ((congrFun (congrFun (congrFun (congrFun (lk253_10 732 (Nat.le_of_ble_eq_true rfl)) _) _) _) _).trans rfl)
theorem e253_735 {x : Int32} {y : Int32} : eb_E L d 253 735 ls (zi y :: zi x :: st) M = if x = y then eb_E L d 253 1948 ls st M else eb_E L d 253 738 ls st M := eb_E_b hk253 ((congrFun (congrFun (congrFun (congrFun (lk253_10 735 (Nat.le_of_ble_eq_true rfl)) _) _) _) _).trans rfl)
theorem e253_738  : eb_E L d 253 738 ls (st) M = eb_E L d 253 739 ls (zi 0 :: st) M := eb_E_s hk253 ((congrFun (congrFun (congrFun (congrFun (lk253_10 738 (Nat.le_of_ble_eq_true rfl)) _) _) _) _).trans rfl)
theorem e253_739 {x : Int32} : eb_E L d 253 739 ls ([zi x]) M = if x = 0 ∨ x = 1 then some (zi x, M) else none := eb_E_ri hk253 ((congrFun (congrFun (congrFun (congrFun (lk253_10 739 (Nat.le_of_ble_eq_true rfl)) _) _) _) _).trans rfl)
theorem e253_740 {x : Option eb_A} : eb_E L d 253 740 [v0, some (Sum.inr x), v2, v3] (st) M = eb_E L d 253 741 [v0, some (Sum.inr x), v2, v3] (Sum.inr x :: st) M := eb_E_s hk253 ((congrFun (congrFun (congrFun (congrFun (lk253_10 740 (Nat.le_of_ble_eq_true rfl)) _) _) _) _).trans rfl)
theorem e253_741 {x : Option eb_A} : eb_E L d 253 741 [some (Sum.inr x), v1, v2, v3] (st) M = eb_E L d 253 742 [some (Sum.inr x), v1, v2, v3] (Sum.inr x :: st) M := eb_E_s hk253 ((congrFun (congrFun (congrFun (congrFun (lk253_10 741 (Nat.le_of_ble_eq_true rfl)) _) _) _) _).trans rfl)
theorem e253_742 {x : Int32} : eb_E L d 253 742 [v0, v1, v2, some (zi x)] (st) M = eb_E L d 253 743 [v0, v1, v2, some (zi x)] (zi x :: st) M := eb_E_s hk253 ((congrFun (congrFun (congrFun (congrFun (lk253_10 742 (Nat.le_of_ble_eq_true rfl)) _) _) _) _).trans rfl)
theorem e253_743  : eb_E L d 253 743 ls (st) M = eb_E L d 253 744 ls (zi 1 :: st) M := eb_E_s hk253 ((congrFun (congrFun (congrFun (congrFun (lk253_10 743 (Nat.le_of_ble_eq_true rfl)) _) _) _) _).trans rfl)
theorem e253_744 {x : Int32} {y : Int32} : eb_E L d 253 744 ls (zi y :: zi x :: st) M = eb_E L d 253 745 ls (zi (x + y) :: st) M := eb_E_s hk253 ((congrFun (congrFun (congrFun (congrFun (lk253_10 744 (Nat.le_of_ble_eq_true rfl)) _) _) _) _).trans rfl)
theorem e253_745 {x : Int32} : eb_E L d 253 745 ls (zi x :: Sum.inr (some a) :: st) (nc, ns, I, J, R) = if (eb_ty L a.1).1 = 17 ∧ eb_in x (eb_ty L a.1).2 = true then eb_E L d 253 746 ls (zi (I a x.toNatClampNeg) :: st) (nc, ns, I, J, R) else none := eb_E_iy hk253 ((congrFun (congrFun (congrFun (congrFun (lk253_10 745 (Nat.le_of_ble_eq_true rfl)) _) _) _) _).trans rfl)
theorem e253_746  : eb_E L d 253 746 ls ([a1, a0]) M = (eb_ev L d 79 [a0, a1] M).bind (fun q => eb_E L d 253 749 ls [q.1] q.2) := eb_E_c hk253 ((congrFun (congrFun (congrFun (congrFun (lk253_10 746 (Nat.le_of_ble_eq_true rfl)) _) _) _) _).trans rfl)
theorem e253_749 {x : Option eb_A} : eb_E L d 253 749 [v0, v1, some (Sum.inr x), v3] (st) M = eb_E L d 253 750 [v0, v1, some (Sum.inr x), v3] (Sum.inr x :: st) M := eb_E_s hk253 ((congrFun (congrFun (congrFun (congrFun (lk253_10 749 (Nat.le_of_ble_eq_true rfl)) _) _) _) _).trans rfl)
theorem e253_750 {x : Option eb_A} : eb_E L d 253 750 [some (Sum.inr x), v1, v2, v3] (st) M = eb_E L d 253 751 [some (Sum.inr x), v1, v2, v3] (Sum.inr x :: st) M := eb_E_s hk253 ((congrFun (congrFun (congrFun (congrFun (lk253_10 750 (Nat.le_of_ble_eq_true rfl)) _) _) _) _).trans rfl)
theorem e253_751 {x : Int32} : eb_E L d 253 751 [v0, v1, v2, some (zi x)] (st) M = eb_E L d 253 752 [v0, v1, v2, some (zi x)] (zi x :: st) M := eb_E_s hk253 ((congrFun (congrFun (congrFun (congrFun (lk253_10 751 (Nat.le_of_ble_eq_true rfl)) _) _) _) _).trans rfl)
theorem e253_752  : eb_E L d 253 752 ls (st) M = eb_E L d 253 753 ls (zi 1 :: st) M := eb_E_s hk253 ((congrFun (congrFun (congrFun (congrFun (lk253_10 752 (Nat.le_of_ble_eq_true rfl)) _) _) _) _).trans rfl)
theorem e253_753 {x : Int32} {y : Int32} : eb_E L d 253 753 ls (zi y :: zi x :: st) M = eb_E L d 253 754 ls (zi (x + y) :: st) M := eb_E_s hk253 ((congrFun (congrFun (congrFun (congrFun (lk253_10 753 (Nat.le_of_ble_eq_true rfl)) _) _) _) _).trans rfl)
theorem e253_754 {x : Int32} : eb_E L d 253 754 ls (zi x :: Sum.inr (some a) :: st) (nc, ns, I, J, R) = if (eb_ty L a.1).1 = 17 ∧ eb_in x (eb_ty L a.1).2 = true then eb_E L d 253 755 ls (zi (I a x.toNatClampNeg) :: st) (nc, ns, I, J, R) else none := eb_E_iy hk253 ((congrFun (congrFun (congrFun (congrFun (lk253_10 754 (Nat.le_of_ble_eq_true rfl)) _) _) _) _).trans rfl)
theorem e253_755 {s0 : Int32} : eb_E L d 253 755 ls ([a1, a0, zi s0]) M = (eb_ev L d 168 [a0, a1] M).bind (fun q => eb_E L d 253 758 ls [q.1, zi s0] q.2) := eb_E_c hk253 ((congrFun (congrFun (congrFun (congrFun (lk253_10 755 (Nat.le_of_ble_eq_true rfl)) _) _) _) _).trans rfl)
theorem e253_758 {x : Int32} {y : Int32} : eb_E L d 253 758 ls (zi y :: zi x :: st) M = if x = y then eb_E L d 253 1948 ls st M else eb_E L d 253 761 ls st M := eb_E_b hk253 ((congrFun (congrFun (congrFun (congrFun (lk253_10 758 (Nat.le_of_ble_eq_true rfl)) _) _) _) _).trans rfl)
theorem e253_761  : eb_E L d 253 761 ls (st) M = eb_E L d 253 762 ls (zi 0 :: st) M := eb_E_s hk253 ((congrFun (congrFun (congrFun (congrFun (lk253_10 761 (Nat.le_of_ble_eq_true rfl)) _) _) _) _).trans rfl)
theorem e253_762 {x : Int32} : eb_E L d 253 762 ls ([zi x]) M = if x = 0 ∨ x = 1 then some (zi x, M) else none := eb_E_ri hk253 ((congrFun (congrFun (congrFun (congrFun (lk253_10 762 (Nat.le_of_ble_eq_true rfl)) _) _) _) _).trans rfl)
theorem e253_763 {x : Option eb_A} : eb_E L d 253 763 [v0, some (Sum.inr x), v2, v3] (st) M = eb_E L d 253 764 [v0, some (Sum.inr x), v2, v3] (Sum.inr x :: st) M := eb_E_s hk253 ((congrFun (congrFun (congrFun (congrFun (lk253_10 763 (Nat.le_of_ble_eq_true rfl)) _) _) _) _).trans rfl)
theorem e253_764 {x : Option eb_A} : eb_E L d 253 764 [some (Sum.inr x), v1, v2, v3] (st) M = eb_E L d 253 765 [some (Sum.inr x), v1, v2, v3] (Sum.inr x :: st) M := eb_E_s hk253 ((congrFun (congrFun (congrFun (congrFun (lk253_10 764 (Nat.le_of_ble_eq_true rfl)) _) _) _) _).trans rfl)
theorem e253_765 {x : Int32} : eb_E L d 253 765 [v0, v1, v2, some (zi x)] (st) M = eb_E L d 253 766 [v0, v1, v2, some (zi x)] (zi x :: st) M := eb_E_s hk253 ((congrFun (congrFun (congrFun (congrFun (lk253_10 765 (Nat.le_of_ble_eq_true rfl)) _) _) _) _).trans rfl)
theorem e253_766  : eb_E L d 253 766 ls (st) M = eb_E L d 253 767 ls (zi 1 :: st) M := eb_E_s hk253 ((congrFun (congrFun (congrFun (congrFun (lk253_10 766 (Nat.le_of_ble_eq_true rfl)) _) _) _) _).trans rfl)
theorem e253_767 {x : Int32} {y : Int32} : eb_E L d 253 767 ls (zi y :: zi x :: st) M = eb_E L d 253 768 ls (zi (x + y) :: st) M := eb_E_s hk253 ((congrFun (congrFun (congrFun (congrFun (lk253_10 767 (Nat.le_of_ble_eq_true rfl)) _) _) _) _).trans rfl)
theorem e253_768 {x : Int32} : eb_E L d 253 768 ls (zi x :: Sum.inr (some a) :: st) (nc, ns, I, J, R) = if (eb_ty L a.1).1 = 17 ∧ eb_in x (eb_ty L a.1).2 = true then eb_E L d 253 769 ls (zi (I a x.toNatClampNeg) :: st) (nc, ns, I, J, R) else none := eb_E_iy hk253 ((congrFun (congrFun (congrFun (congrFun (lk253_10 768 (Nat.le_of_ble_eq_true rfl)) _) _) _) _).trans rfl)
theorem e253_769 {x : Option eb_A} : eb_E L d 253 769 [some (Sum.inr x), v1, v2, v3] (st) M = eb_E L d 253 770 [some (Sum.inr x), v1, v2, v3] (Sum.inr x :: st) M := eb_E_s hk253 ((congrFun (congrFun (congrFun (congrFun (lk253_10 769 (Nat.le_of_ble_eq_true rfl)) _) _) _) _).trans rfl)
theorem e253_770 {x : Int32} : eb_E L d 253 770 [v0, v1, v2, some (zi x)] (st) M = eb_E L d 253 771 [v0, v1, v2, some (zi x)] (zi x :: st) M := eb_E_s hk253 ((congrFun (congrFun (congrFun (congrFun (lk253_10 770 (Nat.le_of_ble_eq_true rfl)) _) _) _) _).trans rfl)
theorem e253_771  : eb_E L d 253 771 ls (st) M = eb_E L d 253 772 ls (zi 2 :: st) M := eb_E_s hk253 ((congrFun (congrFun (congrFun (congrFun (lk253_10 771 (Nat.le_of_ble_eq_true rfl)) _) _) _) _).trans rfl)
theorem e253_772 {x : Int32} {y : Int32} : eb_E L d 253 772 ls (zi y :: zi x :: st) M = eb_E L d 253 773 ls (zi (x + y) :: st) M := eb_E_s hk253 ((congrFun (congrFun (congrFun (congrFun (lk253_11 772 (Nat.le_of_ble_eq_true rfl)) _) _) _) _).trans rfl)
theorem e253_773 {x : Int32} : eb_E L d 253 773 ls (zi x :: Sum.inr (some a) :: st) (nc, ns, I, J, R) = if (eb_ty L a.1).1 = 17 ∧ eb_in x (eb_ty L a.1).2 = true then eb_E L d 253 774 ls (zi (I a x.toNatClampNeg) :: st) (nc, ns, I, J, R) else none := eb_E_iy hk253 ((congrFun (congrFun (congrFun (congrFun (lk253_11 773 (Nat.le_of_ble_eq_true rfl)) _) _) _) _).trans rfl)
theorem e253_774  : eb_E L d 253 774 ls ([a2, a1, a0]) M = (eb_ev L d 80 [a0, a1, a2] M).bind (fun q => eb_E L d 253 777 ls [q.1] q.2) := eb_E_c hk253 ((congrFun (congrFun (congrFun (congrFun (lk253_11 774 (Nat.le_of_ble_eq_true rfl)) _) _) _) _).trans rfl)
theorem e253_777 {x : Option eb_A} : eb_E L d 253 777 [v0, v1, some (Sum.inr x), v3] (st) M = eb_E L d 253 778 [v0, v1, some (Sum.inr x), v3] (Sum.inr x :: st) M := eb_E_s hk253 ((congrFun (congrFun (congrFun (congrFun (lk253_11 777 (Nat.le_of_ble_eq_true rfl)) _) _) _) _).trans rfl)
theorem e253_778 {x : Option eb_A} : eb_E L d 253 778 [some (Sum.inr x), v1, v2, v3] (st) M = eb_E L d 253 779 [some (Sum.inr x), v1, v2, v3] (Sum.inr x :: st) M := eb_E_s hk253 ((congrFun (congrFun (congrFun (congrFun (lk253_11 778 (Nat.le_of_ble_eq_true rfl)) _) _) _) _).trans rfl)
theorem e253_779 {x : Int32} : eb_E L d 253 779 [v0, v1, v2, some (zi x)] (st) M = eb_E L d 253 780 [v0, v1, v2, some (zi x)] (zi x :: st) M := eb_E_s hk253 ((congrFun (congrFun (congrFun (congrFun (lk253_11 779 (Nat.le_of_ble_eq_true rfl)) _) _) _) _).trans rfl)
theorem e253_780  : eb_E L d 253 780 ls (st) M = eb_E L d 253 781 ls (zi 1 :: st) M := eb_E_s hk253 ((congrFun (congrFun (congrFun (congrFun (lk253_11 780 (Nat.le_of_ble_eq_true rfl)) _) _) _) _).trans rfl)
theorem e253_781 {x : Int32} {y : Int32} : eb_E L d 253 781 ls (zi y :: zi x :: st) M = eb_E L d 253 782 ls (zi (x + y) :: st) M := eb_E_s hk253 ((congrFun (congrFun (congrFun (congrFun (lk253_11 781 (Nat.le_of_ble_eq_true rfl)) _) _) _) _).trans rfl)
theorem e253_782 {x : Int32} : eb_E L d 253 782 ls (zi x :: Sum.inr (some a) :: st) (nc, ns, I, J, R) = if (eb_ty L a.1).1 = 17 ∧ eb_in x (eb_ty L a.1).2 = true then eb_E L d 253 783 ls (zi (I a x.toNatClampNeg) :: st) (nc, ns, I, J, R) else none := eb_E_iy hk253 ((congrFun (congrFun (congrFun (congrFun (lk253_11 782 (Nat.le_of_ble_eq_true rfl)) _) _) _) _).trans rfl)
theorem e253_783 {x : Option eb_A} : eb_E L d 253 783 [some (Sum.inr x), v1, v2, v3] (st) M = eb_E L d 253 784 [some (Sum.inr x), v1, v2, v3] (Sum.inr x :: st) M := eb_E_s hk253 ((congrFun (congrFun (congrFun (congrFun (lk253_11 783 (Nat.le_of_ble_eq_true rfl)) _) _) _) _).trans rfl)
theorem e253_784 {x : Int32} : eb_E L d 253 784 [v0, v1, v2, some (zi x)] (st) M = eb_E L d 253 785 [v0, v1, v2, some (zi x)] (zi x :: st) M := eb_E_s hk253 ((congrFun (congrFun (congrFun (congrFun (lk253_11 784 (Nat.le_of_ble_eq_true rfl)) _) _) _) _).trans rfl)
theorem e253_785  : eb_E L d 253 785 ls (st) M = eb_E L d 253 786 ls (zi 2 :: st) M := eb_E_s hk253 ((congrFun (congrFun (congrFun (congrFun (lk253_11 785 (Nat.le_of_ble_eq_true rfl)) _) _) _) _).trans rfl)
theorem e253_786 {x : Int32} {y : Int32} : eb_E L d 253 786 ls (zi y :: zi x :: st) M = eb_E L d 253 787 ls (zi (x + y) :: st) M := eb_E_s hk253 ((congrFun (congrFun (congrFun (congrFun (lk253_11 786 (Nat.le_of_ble_eq_true rfl)) _) _) _) _).trans rfl)
theorem e253_787 {x : Int32} : eb_E L d 253 787 ls (zi x :: Sum.inr (some a) :: st) (nc, ns, I, J, R) = if (eb_ty L a.1).1 = 17 ∧ eb_in x (eb_ty L a.1).2 = true then eb_E L d 253 788 ls (zi (I a x.toNatClampNeg) :: st) (nc, ns, I, J, R) else none := eb_E_iy hk253 ((congrFun (congrFun (congrFun (congrFun (lk253_11 787 (Nat.le_of_ble_eq_true rfl)) _) _) _) _).trans rfl)
theorem e253_788 {s0 : Int32} : eb_E L d 253 788 ls ([a2, a1, a0, zi s0]) M = (eb_ev L d 170 [a0, a1, a2] M).bind (fun q => eb_E L d 253 791 ls [q.1, zi s0] q.2) := eb_E_c hk253 ((congrFun (congrFun (congrFun (congrFun (lk253_11 788 (Nat.le_of_ble_eq_true rfl)) _) _) _) _).trans rfl)
theorem e253_791 {x : Int32} {y : Int32} : eb_E L d 253 791 ls (zi y :: zi x :: st) M = if x = y then eb_E L d 253 1948 ls st M else eb_E L d 253 794 ls st M := eb_E_b hk253 ((congrFun (congrFun (congrFun (congrFun (lk253_11 791 (Nat.le_of_ble_eq_true rfl)) _) _) _) _).trans rfl)
theorem e253_794  : eb_E L d 253 794 ls (st) M = eb_E L d 253 795 ls (zi 0 :: st) M := eb_E_s hk253 ((congrFun (congrFun (congrFun (congrFun (lk253_11 794 (Nat.le_of_ble_eq_true rfl)) _) _) _) _).trans rfl)
theorem e253_795 {x : Int32} : eb_E L d 253 795 ls ([zi x]) M = if x = 0 ∨ x = 1 then some (zi x, M) else none := eb_E_ri hk253 ((congrFun (congrFun (congrFun (congrFun (lk253_11 795 (Nat.le_of_ble_eq_true rfl)) _) _) _) _).trans rfl)
theorem e253_796 {x : Option eb_A} : eb_E L d 253 796 [v0, some (Sum.inr x), v2, v3] (st) M = eb_E L d 253 797 [v0, some (Sum.inr x), v2, v3] (Sum.inr x :: st) M := eb_E_s hk253 ((congrFun (congrFun (congrFun (congrFun (lk253_11 796 (Nat.le_of_ble_eq_true rfl)) _) _) _) _).trans rfl)
theorem e253_797 {x : Option eb_A} : eb_E L d 253 797 [some (Sum.inr x), v1, v2, v3] (st) M = eb_E L d 253 798 [some (Sum.inr x), v1, v2, v3] (Sum.inr x :: st) M := eb_E_s hk253 ((congrFun (congrFun (congrFun (congrFun (lk253_11 797 (Nat.le_of_ble_eq_true rfl)) _) _) _) _).trans rfl)
theorem e253_798 {x : Int32} : eb_E L d 253 798 [v0, v1, v2, some (zi x)] (st) M = eb_E L d 253 799 [v0, v1, v2, some (zi x)] (zi x :: st) M := eb_E_s hk253 ((congrFun (congrFun (congrFun (congrFun (lk253_11 798 (Nat.le_of_ble_eq_true rfl)) _) _) _) _).trans rfl)
theorem e253_799  : eb_E L d 253 799 ls (st) M = eb_E L d 253 800 ls (zi 1 :: st) M := eb_E_s hk253 ((congrFun (congrFun (congrFun (congrFun (lk253_11 799 (Nat.le_of_ble_eq_true rfl)) _) _) _) _).trans rfl)
theorem e253_800 {x : Int32} {y : Int32} : eb_E L d 253 800 ls (zi y :: zi x :: st) M = eb_E L d 253 801 ls (zi (x + y) :: st) M := eb_E_s hk253 ((congrFun (congrFun (congrFun (congrFun (lk253_11 800 (Nat.le_of_ble_eq_true rfl)) _) _) _) _).trans rfl)
theorem e253_801 {x : Int32} : eb_E L d 253 801 ls (zi x :: Sum.inr (some a) :: st) (nc, ns, I, J, R) = if (eb_ty L a.1).1 = 17 ∧ eb_in x (eb_ty L a.1).2 = true then eb_E L d 253 802 ls (zi (I a x.toNatClampNeg) :: st) (nc, ns, I, J, R) else none := eb_E_iy hk253 ((congrFun (congrFun (congrFun (congrFun (lk253_11 801 (Nat.le_of_ble_eq_true rfl)) _) _) _) _).trans rfl)
theorem e253_802  : eb_E L d 253 802 ls ([a1, a0]) M = (eb_ev L d 81 [a0, a1] M).bind (fun q => eb_E L d 253 805 ls [q.1] q.2) := eb_E_c hk253 ((congrFun (congrFun (congrFun (congrFun (lk253_11 802 (Nat.le_of_ble_eq_true rfl)) _) _) _) _).trans rfl)
theorem e253_805 {x : Option eb_A} : eb_E L d 253 805 [v0, v1, some (Sum.inr x), v3] (st) M = eb_E L d 253 806 [v0, v1, some (Sum.inr x), v3] (Sum.inr x :: st) M := eb_E_s hk253 ((congrFun (congrFun (congrFun (congrFun (lk253_11 805 (Nat.le_of_ble_eq_true rfl)) _) _) _) _).trans rfl)
theorem e253_806 {x : Option eb_A} : eb_E L d 253 806 [some (Sum.inr x), v1, v2, v3] (st) M = eb_E L d 253 807 [some (Sum.inr x), v1, v2, v3] (Sum.inr x :: st) M := eb_E_s hk253 ((congrFun (congrFun (congrFun (congrFun (lk253_11 806 (Nat.le_of_ble_eq_true rfl)) _) _) _) _).trans rfl)
theorem e253_807 {x : Int32} : eb_E L d 253 807 [v0, v1, v2, some (zi x)] (st) M = eb_E L d 253 808 [v0, v1, v2, some (zi x)] (zi x :: st) M := eb_E_s hk253 ((congrFun (congrFun (congrFun (congrFun (lk253_11 807 (Nat.le_of_ble_eq_true rfl)) _) _) _) _).trans rfl)
theorem e253_808  : eb_E L d 253 808 ls (st) M = eb_E L d 253 809 ls (zi 1 :: st) M := eb_E_s hk253 ((congrFun (congrFun (congrFun (congrFun (lk253_11 808 (Nat.le_of_ble_eq_true rfl)) _) _) _) _).trans rfl)
theorem e253_809 {x : Int32} {y : Int32} : eb_E L d 253 809 ls (zi y :: zi x :: st) M = eb_E L d 253 810 ls (zi (x + y) :: st) M := eb_E_s hk253 ((congrFun (congrFun (congrFun (congrFun (lk253_11 809 (Nat.le_of_ble_eq_true rfl)) _) _) _) _).trans rfl)
theorem e253_810 {x : Int32} : eb_E L d 253 810 ls (zi x :: Sum.inr (some a) :: st) (nc, ns, I, J, R) = if (eb_ty L a.1).1 = 17 ∧ eb_in x (eb_ty L a.1).2 = true then eb_E L d 253 811 ls (zi (I a x.toNatClampNeg) :: st) (nc, ns, I, J, R) else none := eb_E_iy hk253 ((congrFun (congrFun (congrFun (congrFun (lk253_11 810 (Nat.le_of_ble_eq_true rfl)) _) _) _) _).trans rfl)
theorem e253_811 {s0 : Int32} : eb_E L d 253 811 ls ([a1, a0, zi s0]) M = (eb_ev L d 171 [a0, a1] M).bind (fun q => eb_E L d 253 814 ls [q.1, zi s0] q.2) := eb_E_c hk253 ((congrFun (congrFun (congrFun (congrFun (lk253_11 811 (Nat.le_of_ble_eq_true rfl)) _) _) _) _).trans rfl)
theorem e253_814 {x : Int32} {y : Int32} : eb_E L d 253 814 ls (zi y :: zi x :: st) M = if x = y then eb_E L d 253 1948 ls st M else eb_E L d 253 817 ls st M := eb_E_b hk253 ((congrFun (congrFun (congrFun (congrFun (lk253_11 814 (Nat.le_of_ble_eq_true rfl)) _) _) _) _).trans rfl)
theorem e253_817  : eb_E L d 253 817 ls (st) M = eb_E L d 253 818 ls (zi 0 :: st) M := eb_E_s hk253 ((congrFun (congrFun (congrFun (congrFun (lk253_11 817 (Nat.le_of_ble_eq_true rfl)) _) _) _) _).trans rfl)
theorem e253_818 {x : Int32} : eb_E L d 253 818 ls ([zi x]) M = if x = 0 ∨ x = 1 then some (zi x, M) else none := eb_E_ri hk253 ((congrFun (congrFun (congrFun (congrFun (lk253_11 818 (Nat.le_of_ble_eq_true rfl)) _) _) _) _).trans rfl)
theorem e253_819 {x : Option eb_A} : eb_E L d 253 819 [v0, some (Sum.inr x), v2, v3] (st) M = eb_E L d 253 820 [v0, some (Sum.inr x), v2, v3] (Sum.inr x :: st) M := eb_E_s hk253 ((congrFun (congrFun (congrFun (congrFun (lk253_11 819 (Nat.le_of_ble_eq_true rfl)) _) _) _) _).trans rfl)
theorem e253_820 {x : Option eb_A} : eb_E L d 253 820 [some (Sum.inr x), v1, v2, v3] (st) M = eb_E L d 253 821 [some (Sum.inr x), v1, v2, v3] (Sum.inr x :: st) M := eb_E_s hk253 ((congrFun (congrFun (congrFun (congrFun (lk253_11 820 (Nat.le_of_ble_eq_true rfl)) _) _) _) _).trans rfl)
theorem e253_821 {x : Int32} : eb_E L d 253 821 [v0, v1, v2, some (zi x)] (st) M = eb_E L d 253 822 [v0, v1, v2, some (zi x)] (zi x :: st) M := eb_E_s hk253 ((congrFun (congrFun (congrFun (congrFun (lk253_11 821 (Nat.le_of_ble_eq_true rfl)) _) _) _) _).trans rfl)
theorem e253_822  : eb_E L d 253 822 ls (st) M = eb_E L d 253 823 ls (zi 1 :: st) M := eb_E_s hk253 ((congrFun (congrFun (congrFun (congrFun (lk253_11 822 (Nat.le_of_ble_eq_true rfl)) _) _) _) _).trans rfl)
theorem e253_823 {x : Int32} {y : Int32} : eb_E L d 253 823 ls (zi y :: zi x :: st) M = eb_E L d 253 824 ls (zi (x + y) :: st) M := eb_E_s hk253 ((congrFun (congrFun (congrFun (congrFun (lk253_11 823 (Nat.le_of_ble_eq_true rfl)) _) _) _) _).trans rfl)
theorem e253_824 {x : Int32} : eb_E L d 253 824 ls (zi x :: Sum.inr (some a) :: st) (nc, ns, I, J, R) = if (eb_ty L a.1).1 = 17 ∧ eb_in x (eb_ty L a.1).2 = true then eb_E L d 253 825 ls (zi (I a x.toNatClampNeg) :: st) (nc, ns, I, J, R) else none := eb_E_iy hk253 ((congrFun (congrFun (congrFun (congrFun (lk253_12 824 (Nat.le_of_ble_eq_true rfl)) _) _) _) _).trans rfl)
theorem e253_825 {x : Option eb_A} : eb_E L d 253 825 [some (Sum.inr x), v1, v2, v3] (st) M = eb_E L d 253 826 [some (Sum.inr x), v1, v2, v3] (Sum.inr x :: st) M := eb_E_s hk253 ((congrFun (congrFun (congrFun (congrFun (lk253_12 825 (Nat.le_of_ble_eq_true rfl)) _) _) _) _).trans rfl)
theorem e253_826 {x : Int32} : eb_E L d 253 826 [v0, v1, v2, some (zi x)] (st) M = eb_E L d 253 827 [v0, v1, v2, some (zi x)] (zi x :: st) M := eb_E_s hk253 ((congrFun (congrFun (congrFun (congrFun (lk253_12 826 (Nat.le_of_ble_eq_true rfl)) _) _) _) _).trans rfl)
theorem e253_827  : eb_E L d 253 827 ls (st) M = eb_E L d 253 828 ls (zi 2 :: st) M := eb_E_s hk253 ((congrFun (congrFun (congrFun (congrFun (lk253_12 827 (Nat.le_of_ble_eq_true rfl)) _) _) _) _).trans rfl)
theorem e253_828 {x : Int32} {y : Int32} : eb_E L d 253 828 ls (zi y :: zi x :: st) M = eb_E L d 253 829 ls (zi (x + y) :: st) M := eb_E_s hk253 ((congrFun (congrFun (congrFun (congrFun (lk253_12 828 (Nat.le_of_ble_eq_true rfl)) _) _) _) _).trans rfl)
theorem e253_829 {x : Int32} : eb_E L d 253 829 ls (zi x :: Sum.inr (some a) :: st) (nc, ns, I, J, R) = if (eb_ty L a.1).1 = 17 ∧ eb_in x (eb_ty L a.1).2 = true then eb_E L d 253 830 ls (zi (I a x.toNatClampNeg) :: st) (nc, ns, I, J, R) else none := eb_E_iy hk253 ((congrFun (congrFun (congrFun (congrFun (lk253_12 829 (Nat.le_of_ble_eq_true rfl)) _) _) _) _).trans rfl)
theorem e253_830  : eb_E L d 253 830 ls ([a2, a1, a0]) M = (eb_ev L d 82 [a0, a1, a2] M).bind (fun q => eb_E L d 253 833 ls [q.1] q.2) := eb_E_c hk253 ((congrFun (congrFun (congrFun (congrFun (lk253_12 830 (Nat.le_of_ble_eq_true rfl)) _) _) _) _).trans rfl)
theorem e253_833 {x : Option eb_A} : eb_E L d 253 833 [v0, v1, some (Sum.inr x), v3] (st) M = eb_E L d 253 834 [v0, v1, some (Sum.inr x), v3] (Sum.inr x :: st) M := eb_E_s hk253 ((congrFun (congrFun (congrFun (congrFun (lk253_12 833 (Nat.le_of_ble_eq_true rfl)) _) _) _) _).trans rfl)
theorem e253_834 {x : Option eb_A} : eb_E L d 253 834 [some (Sum.inr x), v1, v2, v3] (st) M = eb_E L d 253 835 [some (Sum.inr x), v1, v2, v3] (Sum.inr x :: st) M := eb_E_s hk253 ((congrFun (congrFun (congrFun (congrFun (lk253_12 834 (Nat.le_of_ble_eq_true rfl)) _) _) _) _).trans rfl)
theorem e253_835 {x : Int32} : eb_E L d 253 835 [v0, v1, v2, some (zi x)] (st) M = eb_E L d 253 836 [v0, v1, v2, some (zi x)] (zi x :: st) M := eb_E_s hk253 ((congrFun (congrFun (congrFun (congrFun (lk253_12 835 (Nat.le_of_ble_eq_true rfl)) _) _) _) _).trans rfl)
theorem e253_836  : eb_E L d 253 836 ls (st) M = eb_E L d 253 837 ls (zi 1 :: st) M := eb_E_s hk253 ((congrFun (congrFun (congrFun (congrFun (lk253_12 836 (Nat.le_of_ble_eq_true rfl)) _) _) _) _).trans rfl)
theorem e253_837 {x : Int32} {y : Int32} : eb_E L d 253 837 ls (zi y :: zi x :: st) M = eb_E L d 253 838 ls (zi (x + y) :: st) M := eb_E_s hk253 ((congrFun (congrFun (congrFun (congrFun (lk253_12 837 (Nat.le_of_ble_eq_true rfl)) _) _) _) _).trans rfl)
theorem e253_838 {x : Int32} : eb_E L d 253 838 ls (zi x :: Sum.inr (some a) :: st) (nc, ns, I, J, R) = if (eb_ty L a.1).1 = 17 ∧ eb_in x (eb_ty L a.1).2 = true then eb_E L d 253 839 ls (zi (I a x.toNatClampNeg) :: st) (nc, ns, I, J, R) else none := eb_E_iy hk253 ((congrFun (congrFun (congrFun (congrFun (lk253_12 838 (Nat.le_of_ble_eq_true rfl)) _) _) _) _).trans rfl)
theorem e253_839 {x : Option eb_A} : eb_E L d 253 839 [some (Sum.inr x), v1, v2, v3] (st) M = eb_E L d 253 840 [some (Sum.inr x), v1, v2, v3] (Sum.inr x :: st) M := eb_E_s hk253 ((congrFun (congrFun (congrFun (congrFun (lk253_12 839 (Nat.le_of_ble_eq_true rfl)) _) _) _) _).trans rfl)
theorem e253_840 {x : Int32} : eb_E L d 253 840 [v0, v1, v2, some (zi x)] (st) M = eb_E L d 253 841 [v0, v1, v2, some (zi x)] (zi x :: st) M := eb_E_s hk253 ((congrFun (congrFun (congrFun (congrFun (lk253_12 840 (Nat.le_of_ble_eq_true rfl)) _) _) _) _).trans rfl)
theorem e253_841  : eb_E L d 253 841 ls (st) M = eb_E L d 253 842 ls (zi 2 :: st) M := eb_E_s hk253 ((congrFun (congrFun (congrFun (congrFun (lk253_12 841 (Nat.le_of_ble_eq_true rfl)) _) _) _) _).trans rfl)
theorem e253_842 {x : Int32} {y : Int32} : eb_E L d 253 842 ls (zi y :: zi x :: st) M = eb_E L d 253 843 ls (zi (x + y) :: st) M := eb_E_s hk253 ((congrFun (congrFun (congrFun (congrFun (lk253_12 842 (Nat.le_of_ble_eq_true rfl)) _) _) _) _).trans rfl)
theorem e253_843 {x : Int32} : eb_E L d 253 843 ls (zi x :: Sum.inr (some a) :: st) (nc, ns, I, J, R) = if (eb_ty L a.1).1 = 17 ∧ eb_in x (eb_ty L a.1).2 = true then eb_E L d 253 844 ls (zi (I a x.toNatClampNeg) :: st) (nc, ns, I, J, R) else none := eb_E_iy hk253 ((congrFun (congrFun (congrFun (congrFun (lk253_12 843 (Nat.le_of_ble_eq_true rfl)) _) _) _) _).trans rfl)
theorem e253_844 {s0 : Int32} : eb_E L d 253 844 ls ([a2, a1, a0, zi s0]) M = (eb_ev L d 172 [a0, a1, a2] M).bind (fun q => eb_E L d 253 847 ls [q.1, zi s0] q.2) := eb_E_c hk253 ((congrFun (congrFun (congrFun (congrFun (lk253_12 844 (Nat.le_of_ble_eq_true rfl)) _) _) _) _).trans rfl)
theorem e253_847 {x : Int32} {y : Int32} : eb_E L d 253 847 ls (zi y :: zi x :: st) M = if x = y then eb_E L d 253 1948 ls st M else eb_E L d 253 850 ls st M := eb_E_b hk253 ((congrFun (congrFun (congrFun (congrFun (lk253_12 847 (Nat.le_of_ble_eq_true rfl)) _) _) _) _).trans rfl)
theorem e253_850  : eb_E L d 253 850 ls (st) M = eb_E L d 253 851 ls (zi 0 :: st) M := eb_E_s hk253 ((congrFun (congrFun (congrFun (congrFun (lk253_12 850 (Nat.le_of_ble_eq_true rfl)) _) _) _) _).trans rfl)
theorem e253_851 {x : Int32} : eb_E L d 253 851 ls ([zi x]) M = if x = 0 ∨ x = 1 then some (zi x, M) else none := eb_E_ri hk253 ((congrFun (congrFun (congrFun (congrFun (lk253_12 851 (Nat.le_of_ble_eq_true rfl)) _) _) _) _).trans rfl)
theorem e253_852 {x : Option eb_A} : eb_E L d 253 852 [v0, some (Sum.inr x), v2, v3] (st) M = eb_E L d 253 853 [v0, some (Sum.inr x), v2, v3] (Sum.inr x :: st) M := eb_E_s hk253 ((congrFun (congrFun (congrFun (congrFun (lk253_12 852 (Nat.le_of_ble_eq_true rfl)) _) _) _) _).trans rfl)
theorem e253_853 {x : Option eb_A} : eb_E L d 253 853 [some (Sum.inr x), v1, v2, v3] (st) M = eb_E L d 253 854 [some (Sum.inr x), v1, v2, v3] (Sum.inr x :: st) M := eb_E_s hk253 ((congrFun (congrFun (congrFun (congrFun (lk253_12 853 (Nat.le_of_ble_eq_true rfl)) _) _) _) _).trans rfl)
theorem e253_854 {x : Int32} : eb_E L d 253 854 [v0, v1, v2, some (zi x)] (st) M = eb_E L d 253 855 [v0, v1, v2, some (zi x)] (zi x :: st) M := eb_E_s hk253 ((congrFun (congrFun (congrFun (congrFun (lk253_12 854 (Nat.le_of_ble_eq_true rfl)) _) _) _) _).trans rfl)
theorem e253_855  : eb_E L d 253 855 ls (st) M = eb_E L d 253 856 ls (zi 1 :: st) M := eb_E_s hk253 ((congrFun (congrFun (congrFun (congrFun (lk253_12 855 (Nat.le_of_ble_eq_true rfl)) _) _) _) _).trans rfl)
theorem e253_856 {x : Int32} {y : Int32} : eb_E L d 253 856 ls (zi y :: zi x :: st) M = eb_E L d 253 857 ls (zi (x + y) :: st) M := eb_E_s hk253 ((congrFun (congrFun (congrFun (congrFun (lk253_12 856 (Nat.le_of_ble_eq_true rfl)) _) _) _) _).trans rfl)
theorem e253_857 {x : Int32} : eb_E L d 253 857 ls (zi x :: Sum.inr (some a) :: st) (nc, ns, I, J, R) = if (eb_ty L a.1).1 = 17 ∧ eb_in x (eb_ty L a.1).2 = true then eb_E L d 253 858 ls (zi (I a x.toNatClampNeg) :: st) (nc, ns, I, J, R) else none := eb_E_iy hk253 ((congrFun (congrFun (congrFun (congrFun (lk253_12 857 (Nat.le_of_ble_eq_true rfl)) _) _) _) _).trans rfl)
theorem e253_858  : eb_E L d 253 858 ls ([a1, a0]) M = (eb_ev L d 83 [a0, a1] M).bind (fun q => eb_E L d 253 861 ls [q.1] q.2) := eb_E_c hk253 ((congrFun (congrFun (congrFun (congrFun (lk253_12 858 (Nat.le_of_ble_eq_true rfl)) _) _) _) _).trans rfl)
theorem e253_861 {x : Option eb_A} : eb_E L d 253 861 [v0, v1, some (Sum.inr x), v3] (st) M = eb_E L d 253 862 [v0, v1, some (Sum.inr x), v3] (Sum.inr x :: st) M := eb_E_s hk253 ((congrFun (congrFun (congrFun (congrFun (lk253_12 861 (Nat.le_of_ble_eq_true rfl)) _) _) _) _).trans rfl)
theorem e253_862 {x : Option eb_A} : eb_E L d 253 862 [some (Sum.inr x), v1, v2, v3] (st) M = eb_E L d 253 863 [some (Sum.inr x), v1, v2, v3] (Sum.inr x :: st) M := eb_E_s hk253 ((congrFun (congrFun (congrFun (congrFun (lk253_12 862 (Nat.le_of_ble_eq_true rfl)) _) _) _) _).trans rfl)
theorem e253_863 {x : Int32} : eb_E L d 253 863 [v0, v1, v2, some (zi x)] (st) M = eb_E L d 253 864 [v0, v1, v2, some (zi x)] (zi x :: st) M := eb_E_s hk253 ((congrFun (congrFun (congrFun (congrFun (lk253_12 863 (Nat.le_of_ble_eq_true rfl)) _) _) _) _).trans rfl)
theorem e253_864  : eb_E L d 253 864 ls (st) M = eb_E L d 253 865 ls (zi 1 :: st) M := eb_E_s hk253 ((congrFun (congrFun (congrFun (congrFun (lk253_12 864 (Nat.le_of_ble_eq_true rfl)) _) _) _) _).trans rfl)
theorem e253_865 {x : Int32} {y : Int32} : eb_E L d 253 865 ls (zi y :: zi x :: st) M = eb_E L d 253 866 ls (zi (x + y) :: st) M := eb_E_s hk253 ((congrFun (congrFun (congrFun (congrFun (lk253_12 865 (Nat.le_of_ble_eq_true rfl)) _) _) _) _).trans rfl)
theorem e253_866 {x : Int32} : eb_E L d 253 866 ls (zi x :: Sum.inr (some a) :: st) (nc, ns, I, J, R) = if (eb_ty L a.1).1 = 17 ∧ eb_in x (eb_ty L a.1).2 = true then eb_E L d 253 867 ls (zi (I a x.toNatClampNeg) :: st) (nc, ns, I, J, R) else none := eb_E_iy hk253 ((congrFun (congrFun (congrFun (congrFun (lk253_12 866 (Nat.le_of_ble_eq_true rfl)) _) _) _) _).trans rfl)
theorem e253_867 {s0 : Int32} : eb_E L d 253 867 ls ([a1, a0, zi s0]) M = (eb_ev L d 173 [a0, a1] M).bind (fun q => eb_E L d 253 870 ls [q.1, zi s0] q.2) := eb_E_c hk253 ((congrFun (congrFun (congrFun (congrFun (lk253_12 867 (Nat.le_of_ble_eq_true rfl)) _) _) _) _).trans rfl)
theorem e253_870 {x : Int32} {y : Int32} : eb_E L d 253 870 ls (zi y :: zi x :: st) M = if x = y then eb_E L d 253 1948 ls st M else eb_E L d 253 873 ls st M := eb_E_b hk253 ((congrFun (congrFun (congrFun (congrFun (lk253_12 870 (Nat.le_of_ble_eq_true rfl)) _) _) _) _).trans rfl)
theorem e253_873  : eb_E L d 253 873 ls (st) M = eb_E L d 253 874 ls (zi 0 :: st) M := eb_E_s hk253 ((congrFun (congrFun (congrFun (congrFun (lk253_12 873 (Nat.le_of_ble_eq_true rfl)) _) _) _) _).trans rfl)
theorem e253_874 {x : Int32} : eb_E L d 253 874 ls ([zi x]) M = if x = 0 ∨ x = 1 then some (zi x, M) else none := eb_E_ri hk253 ((congrFun (congrFun (congrFun (congrFun (lk253_12 874 (Nat.le_of_ble_eq_true rfl)) _) _) _) _).trans rfl)
theorem e253_875 {x : Option eb_A} : eb_E L d 253 875 [v0, some (Sum.inr x), v2, v3] (st) M = eb_E L d 253 876 [v0, some (Sum.inr x), v2, v3] (Sum.inr x :: st) M := eb_E_s hk253 ((congrFun (congrFun (congrFun (congrFun (lk253_12 875 (Nat.le_of_ble_eq_true rfl)) _) _) _) _).trans rfl)
theorem e253_876  : eb_E L d 253 876 ls ([a0]) M = (eb_ev L d 84 [a0] M).bind (fun q => eb_E L d 253 879 ls [q.1] q.2) := eb_E_c hk253 ((congrFun (congrFun (congrFun (congrFun (lk253_13 876 (Nat.le_of_ble_eq_true rfl)) _) _) _) _).trans rfl)
theorem e253_879 {x : Option eb_A} : eb_E L d 253 879 [v0, v1, some (Sum.inr x), v3] (st) M = eb_E L d 253 880 [v0, v1, some (Sum.inr x), v3] (Sum.inr x :: st) M := eb_E_s hk253 ((congrFun (congrFun (congrFun (congrFun (lk253_13 879 (Nat.le_of_ble_eq_true rfl)) _) _) _) _).trans rfl)
theorem e253_880 {s0 : Int32} : eb_E L d 253 880 ls ([a0, zi s0]) M = (eb_ev L d 174 [a0] M).bind (fun q => eb_E L d 253 883 ls [q.1, zi s0] q.2) := eb_E_c hk253 ((congrFun (congrFun (congrFun (congrFun (lk253_13 880 (Nat.le_of_ble_eq_true rfl)) _) _) _) _).trans rfl)
theorem e253_883 {x : Int32} {y : Int32} : eb_E L d 253 883 ls (zi y :: zi x :: st) M = if x = y then eb_E L d 253 1948 ls st M else eb_E L d 253 886 ls st M := eb_E_b hk253 ((congrFun (congrFun (congrFun (congrFun (lk253_13 883 (Nat.le_of_ble_eq_true rfl)) _) _) _) _).trans rfl)
theorem e253_886  : eb_E L d 253 886 ls (st) M = eb_E L d 253 887 ls (zi 0 :: st) M := eb_E_s hk253 ((congrFun (congrFun (congrFun (congrFun (lk253_13 886 (Nat.le_of_ble_eq_true rfl)) _) _) _) _).trans rfl)
theorem e253_887 {x : Int32} : eb_E L d 253 887 ls ([zi x]) M = if x = 0 ∨ x = 1 then some (zi x, M) else none := eb_E_ri hk253 ((congrFun (congrFun (congrFun (congrFun (lk253_13 887 (Nat.le_of_ble_eq_true rfl)) _) _) _) _).trans rfl)
theorem e253_888 {x : Option eb_A} : eb_E L d 253 888 [v0, some (Sum.inr x), v2, v3] (st) M = eb_E L d 253 889 [v0, some (Sum.inr x), v2, v3] (Sum.inr x :: st) M := eb_E_s hk253 ((congrFun (congrFun (congrFun (congrFun (lk253_13 888 (Nat.le_of_ble_eq_true rfl)) _) _) _) _).trans rfl)
theorem e253_889  : eb_E L d 253 889 ls ([a0]) M = (eb_ev L d 85 [a0] M).bind (fun q => eb_E L d 253 892 ls [q.1] q.2) := eb_E_c hk253 ((congrFun (congrFun (congrFun (congrFun (lk253_13 889 (Nat.le_of_ble_eq_true rfl)) _) _) _) _).trans rfl)
theorem e253_892 {x : Option eb_A} : eb_E L d 253 892 [v0, v1, some (Sum.inr x), v3] (st) M = eb_E L d 253 893 [v0, v1, some (Sum.inr x), v3] (Sum.inr x :: st) M := eb_E_s hk253 ((congrFun (congrFun (congrFun (congrFun (lk253_13 892 (Nat.le_of_ble_eq_true rfl)) _) _) _) _).trans rfl)
theorem e253_893 {s0 : Int32} : eb_E L d 253 893 ls ([a0, zi s0]) M = (eb_ev L d 187 [a0] M).bind (fun q => eb_E L d 253 896 ls [q.1, zi s0] q.2) := eb_E_c hk253 ((congrFun (congrFun (congrFun (congrFun (lk253_13 893 (Nat.le_of_ble_eq_true rfl)) _) _) _) _).trans rfl)
theorem e253_896 {x : Int32} {y : Int32} : eb_E L d 253 896 ls (zi y :: zi x :: st) M = if x = y then eb_E L d 253 1948 ls st M else eb_E L d 253 899 ls st M := eb_E_b hk253 ((congrFun (congrFun (congrFun (congrFun (lk253_13 896 (Nat.le_of_ble_eq_true rfl)) _) _) _) _).trans rfl)
theorem e253_899  : eb_E L d 253 899 ls (st) M = eb_E L d 253 900 ls (zi 0 :: st) M := eb_E_s hk253 ((congrFun (congrFun (congrFun (congrFun (lk253_13 899 (Nat.le_of_ble_eq_true rfl)) _) _) _) _).trans rfl)
theorem e253_900 {x : Int32} : eb_E L d 253 900 ls ([zi x]) M = if x = 0 ∨ x = 1 then some (zi x, M) else none := eb_E_ri hk253 ((congrFun (congrFun (congrFun (congrFun (lk253_13 900 (Nat.le_of_ble_eq_true rfl)) _) _) _) _).trans rfl)
theorem e253_901 {x : Option eb_A} : eb_E L d 253 901 [v0, some (Sum.inr x), v2, v3] (st) M = eb_E L d 253 902 [v0, some (Sum.inr x), v2, v3] (Sum.inr x :: st) M := eb_E_s hk253 ((congrFun (congrFun (congrFun (congrFun (lk253_13 901 (Nat.le_of_ble_eq_true rfl)) _) _) _) _).trans rfl)
theorem e253_902 {x : Option eb_A} : eb_E L d 253 902 [some (Sum.inr x), v1, v2, v3] (st) M = eb_E L d 253 903 [some (Sum.inr x), v1, v2, v3] (Sum.inr x :: st) M := eb_E_s hk253 ((congrFun (congrFun (congrFun (congrFun (lk253_13 902 (Nat.le_of_ble_eq_true rfl)) _) _) _) _).trans rfl)
theorem e253_903 {x : Int32} : eb_E L d 253 903 [v0, v1, v2, some (zi x)] (st) M = eb_E L d 253 904 [v0, v1, v2, some (zi x)] (zi x :: st) M := eb_E_s hk253 ((congrFun (congrFun (congrFun (congrFun (lk253_13 903 (Nat.le_of_ble_eq_true rfl)) _) _) _) _).trans rfl)
theorem e253_904  : eb_E L d 253 904 ls (st) M = eb_E L d 253 905 ls (zi 1 :: st) M := eb_E_s hk253 ((congrFun (congrFun (congrFun (congrFun (lk253_13 904 (Nat.le_of_ble_eq_true rfl)) _) _) _) _).trans rfl)
theorem e253_905 {x : Int32} {y : Int32} : eb_E L d 253 905 ls (zi y :: zi x :: st) M = eb_E L d 253 906 ls (zi (x + y) :: st) M := eb_E_s hk253 ((congrFun (congrFun (congrFun (congrFun (lk253_13 905 (Nat.le_of_ble_eq_true rfl)) _) _) _) _).trans rfl)
theorem e253_906 {x : Int32} : eb_E L d 253 906 ls (zi x :: Sum.inr (some a) :: st) (nc, ns, I, J, R) = if (eb_ty L a.1).1 = 17 ∧ eb_in x (eb_ty L a.1).2 = true then eb_E L d 253 907 ls (zi (I a x.toNatClampNeg) :: st) (nc, ns, I, J, R) else none := eb_E_iy hk253 ((congrFun (congrFun (congrFun (congrFun (lk253_13 906 (Nat.le_of_ble_eq_true rfl)) _) _) _) _).trans rfl)
theorem e253_907 {x : Option eb_A} : eb_E L d 253 907 [some (Sum.inr x), v1, v2, v3] (st) M = eb_E L d 253 908 [some (Sum.inr x), v1, v2, v3] (Sum.inr x :: st) M := eb_E_s hk253 ((congrFun (congrFun (congrFun (congrFun (lk253_13 907 (Nat.le_of_ble_eq_true rfl)) _) _) _) _).trans rfl)
theorem e253_908 {x : Int32} : eb_E L d 253 908 [v0, v1, v2, some (zi x)] (st) M = eb_E L d 253 909 [v0, v1, v2, some (zi x)] (zi x :: st) M := eb_E_s hk253 ((congrFun (congrFun (congrFun (congrFun (lk253_13 908 (Nat.le_of_ble_eq_true rfl)) _) _) _) _).trans rfl)
theorem e253_909  : eb_E L d 253 909 ls (st) M = eb_E L d 253 910 ls (zi 2 :: st) M := eb_E_s hk253 ((congrFun (congrFun (congrFun (congrFun (lk253_13 909 (Nat.le_of_ble_eq_true rfl)) _) _) _) _).trans rfl)
theorem e253_910 {x : Int32} {y : Int32} : eb_E L d 253 910 ls (zi y :: zi x :: st) M = eb_E L d 253 911 ls (zi (x + y) :: st) M := eb_E_s hk253 ((congrFun (congrFun (congrFun (congrFun (lk253_13 910 (Nat.le_of_ble_eq_true rfl)) _) _) _) _).trans rfl)
theorem e253_911 {x : Int32} : eb_E L d 253 911 ls (zi x :: Sum.inr (some a) :: st) (nc, ns, I, J, R) = if (eb_ty L a.1).1 = 17 ∧ eb_in x (eb_ty L a.1).2 = true then eb_E L d 253 912 ls (zi (I a x.toNatClampNeg) :: st) (nc, ns, I, J, R) else none := eb_E_iy hk253 ((congrFun (congrFun (congrFun (congrFun (lk253_13 911 (Nat.le_of_ble_eq_true rfl)) _) _) _) _).trans rfl)
theorem e253_912  : eb_E L d 253 912 ls ([a2, a1, a0]) M = (eb_ev L d 86 [a0, a1, a2] M).bind (fun q => eb_E L d 253 915 ls [q.1] q.2) := eb_E_c hk253 ((congrFun (congrFun (congrFun (congrFun (lk253_13 912 (Nat.le_of_ble_eq_true rfl)) _) _) _) _).trans rfl)
theorem e253_915 {x : Option eb_A} : eb_E L d 253 915 [v0, v1, some (Sum.inr x), v3] (st) M = eb_E L d 253 916 [v0, v1, some (Sum.inr x), v3] (Sum.inr x :: st) M := eb_E_s hk253 ((congrFun (congrFun (congrFun (congrFun (lk253_13 915 (Nat.le_of_ble_eq_true rfl)) _) _) _) _).trans rfl)
theorem e253_916 {x : Option eb_A} : eb_E L d 253 916 [some (Sum.inr x), v1, v2, v3] (st) M = eb_E L d 253 917 [some (Sum.inr x), v1, v2, v3] (Sum.inr x :: st) M := eb_E_s hk253 ((congrFun (congrFun (congrFun (congrFun (lk253_13 916 (Nat.le_of_ble_eq_true rfl)) _) _) _) _).trans rfl)
theorem e253_917 {x : Int32} : eb_E L d 253 917 [v0, v1, v2, some (zi x)] (st) M = eb_E L d 253 918 [v0, v1, v2, some (zi x)] (zi x :: st) M := eb_E_s hk253 ((congrFun (congrFun (congrFun (congrFun (lk253_13 917 (Nat.le_of_ble_eq_true rfl)) _) _) _) _).trans rfl)
theorem e253_918  : eb_E L d 253 918 ls (st) M = eb_E L d 253 919 ls (zi 1 :: st) M := eb_E_s hk253 ((congrFun (congrFun (congrFun (congrFun (lk253_13 918 (Nat.le_of_ble_eq_true rfl)) _) _) _) _).trans rfl)
theorem e253_919 {x : Int32} {y : Int32} : eb_E L d 253 919 ls (zi y :: zi x :: st) M = eb_E L d 253 920 ls (zi (x + y) :: st) M := eb_E_s hk253 ((congrFun (congrFun (congrFun (congrFun (lk253_13 919 (Nat.le_of_ble_eq_true rfl)) _) _) _) _).trans rfl)
theorem e253_920 {x : Int32} : eb_E L d 253 920 ls (zi x :: Sum.inr (some a) :: st) (nc, ns, I, J, R) = if (eb_ty L a.1).1 = 17 ∧ eb_in x (eb_ty L a.1).2 = true then eb_E L d 253 921 ls (zi (I a x.toNatClampNeg) :: st) (nc, ns, I, J, R) else none := eb_E_iy hk253 ((congrFun (congrFun (congrFun (congrFun (lk253_13 920 (Nat.le_of_ble_eq_true rfl)) _) _) _) _).trans rfl)
theorem e253_921 {x : Option eb_A} : eb_E L d 253 921 [some (Sum.inr x), v1, v2, v3] (st) M = eb_E L d 253 922 [some (Sum.inr x), v1, v2, v3] (Sum.inr x :: st) M := eb_E_s hk253 ((congrFun (congrFun (congrFun (congrFun (lk253_13 921 (Nat.le_of_ble_eq_true rfl)) _) _) _) _).trans rfl)
theorem e253_922 {x : Int32} : eb_E L d 253 922 [v0, v1, v2, some (zi x)] (st) M = eb_E L d 253 923 [v0, v1, v2, some (zi x)] (zi x :: st) M := eb_E_s hk253 ((congrFun (congrFun (congrFun (congrFun (lk253_13 922 (Nat.le_of_ble_eq_true rfl)) _) _) _) _).trans rfl)
theorem e253_923  : eb_E L d 253 923 ls (st) M = eb_E L d 253 924 ls (zi 2 :: st) M := eb_E_s hk253 ((congrFun (congrFun (congrFun (congrFun (lk253_13 923 (Nat.le_of_ble_eq_true rfl)) _) _) _) _).trans rfl)
theorem e253_924 {x : Int32} {y : Int32} : eb_E L d 253 924 ls (zi y :: zi x :: st) M = eb_E L d 253 925 ls (zi (x + y) :: st) M := eb_E_s hk253 ((congrFun (congrFun (congrFun (congrFun (lk253_13 924 (Nat.le_of_ble_eq_true rfl)) _) _) _) _).trans rfl)
theorem e253_925 {x : Int32} : eb_E L d 253 925 ls (zi x :: Sum.inr (some a) :: st) (nc, ns, I, J, R) = if (eb_ty L a.1).1 = 17 ∧ eb_in x (eb_ty L a.1).2 = true then eb_E L d 253 926 ls (zi (I a x.toNatClampNeg) :: st) (nc, ns, I, J, R) else none := eb_E_iy hk253 ((congrFun (congrFun (congrFun (congrFun (lk253_13 925 (Nat.le_of_ble_eq_true rfl)) _) _) _) _).trans rfl)
theorem e253_926 {s0 : Int32} : eb_E L d 253 926 ls ([a2, a1, a0, zi s0]) M = (eb_ev L d 188 [a0, a1, a2] M).bind (fun q => eb_E L d 253 929 ls [q.1, zi s0] q.2) := eb_E_c hk253 ((congrFun (congrFun (congrFun (congrFun (lk253_13 926 (Nat.le_of_ble_eq_true rfl)) _) _) _) _).trans rfl)
theorem e253_929 {x : Int32} {y : Int32} : eb_E L d 253 929 ls (zi y :: zi x :: st) M = if x = y then eb_E L d 253 1948 ls st M else eb_E L d 253 932 ls st M := eb_E_b hk253 ((congrFun (congrFun (congrFun (congrFun (lk253_13 929 (Nat.le_of_ble_eq_true rfl)) _) _) _) _).trans rfl)
theorem e253_932  : eb_E L d 253 932 ls (st) M = eb_E L d 253 933 ls (zi 0 :: st) M := eb_E_s hk253 ((congrFun (congrFun (congrFun (congrFun (lk253_13 932 (Nat.le_of_ble_eq_true rfl)) _) _) _) _).trans rfl)
theorem e253_933 {x : Int32} : eb_E L d 253 933 ls ([zi x]) M = if x = 0 ∨ x = 1 then some (zi x, M) else none := eb_E_ri hk253 ((congrFun (congrFun (congrFun (congrFun (lk253_13 933 (Nat.le_of_ble_eq_true rfl)) _) _) _) _).trans rfl)
theorem e253_934 {x : Option eb_A} : eb_E L d 253 934 [v0, some (Sum.inr x), v2, v3] (st) M = eb_E L d 253 935 [v0, some (Sum.inr x), v2, v3] (Sum.inr x :: st) M := eb_E_s hk253 ((congrFun (congrFun (congrFun (congrFun (lk253_14 934 (Nat.le_of_ble_eq_true rfl)) _) _) _) _).trans rfl)
theorem e253_935 {x : Option eb_A} : eb_E L d 253 935 [some (Sum.inr x), v1, v2, v3] (st) M = eb_E L d 253 936 [some (Sum.inr x), v1, v2, v3] (Sum.inr x :: st) M := eb_E_s hk253 ((congrFun (congrFun (congrFun (congrFun (lk253_14 935 (Nat.le_of_ble_eq_true rfl)) _) _) _) _).trans rfl)
theorem e253_936 {x : Int32} : eb_E L d 253 936 [v0, v1, v2, some (zi x)] (st) M = eb_E L d 253 937 [v0, v1, v2, some (zi x)] (zi x :: st) M := eb_E_s hk253 ((congrFun (congrFun (congrFun (congrFun (lk253_14 936 (Nat.le_of_ble_eq_true rfl)) _) _) _) _).trans rfl)
theorem e253_937  : eb_E L d 253 937 ls (st) M = eb_E L d 253 938 ls (zi 1 :: st) M := eb_E_s hk253 ((congrFun (congrFun (congrFun (congrFun (lk253_14 937 (Nat.le_of_ble_eq_true rfl)) _) _) _) _).trans rfl)
theorem e253_938 {x : Int32} {y : Int32} : eb_E L d 253 938 ls (zi y :: zi x :: st) M = eb_E L d 253 939 ls (zi (x + y) :: st) M := eb_E_s hk253 ((congrFun (congrFun (congrFun (congrFun (lk253_14 938 (Nat.le_of_ble_eq_true rfl)) _) _) _) _).trans rfl)
theorem e253_939 {x : Int32} : eb_E L d 253 939 ls (zi x :: Sum.inr (some a) :: st) (nc, ns, I, J, R) = if (eb_ty L a.1).1 = 17 ∧ eb_in x (eb_ty L a.1).2 = true then eb_E L d 253 940 ls (zi (I a x.toNatClampNeg) :: st) (nc, ns, I, J, R) else none := eb_E_iy hk253 ((congrFun (congrFun (congrFun (congrFun (lk253_14 939 (Nat.le_of_ble_eq_true rfl)) _) _) _) _).trans rfl)
theorem e253_940 {x : Option eb_A} : eb_E L d 253 940 [some (Sum.inr x), v1, v2, v3] (st) M = eb_E L d 253 941 [some (Sum.inr x), v1, v2, v3] (Sum.inr x :: st) M := eb_E_s hk253 ((congrFun (congrFun (congrFun (congrFun (lk253_14 940 (Nat.le_of_ble_eq_true rfl)) _) _) _) _).trans rfl)
theorem e253_941 {x : Int32} : eb_E L d 253 941 [v0, v1, v2, some (zi x)] (st) M = eb_E L d 253 942 [v0, v1, v2, some (zi x)] (zi x :: st) M := eb_E_s hk253 ((congrFun (congrFun (congrFun (congrFun (lk253_14 941 (Nat.le_of_ble_eq_true rfl)) _) _) _) _).trans rfl)
theorem e253_942  : eb_E L d 253 942 ls (st) M = eb_E L d 253 943 ls (zi 2 :: st) M := eb_E_s hk253 ((congrFun (congrFun (congrFun (congrFun (lk253_14 942 (Nat.le_of_ble_eq_true rfl)) _) _) _) _).trans rfl)
theorem e253_943 {x : Int32} {y : Int32} : eb_E L d 253 943 ls (zi y :: zi x :: st) M = eb_E L d 253 944 ls (zi (x + y) :: st) M := eb_E_s hk253 ((congrFun (congrFun (congrFun (congrFun (lk253_14 943 (Nat.le_of_ble_eq_true rfl)) _) _) _) _).trans rfl)
theorem e253_944 {x : Int32} : eb_E L d 253 944 ls (zi x :: Sum.inr (some a) :: st) (nc, ns, I, J, R) = if (eb_ty L a.1).1 = 17 ∧ eb_in x (eb_ty L a.1).2 = true then eb_E L d 253 945 ls (zi (I a x.toNatClampNeg) :: st) (nc, ns, I, J, R) else none := eb_E_iy hk253 ((congrFun (congrFun (congrFun (congrFun (lk253_14 944 (Nat.le_of_ble_eq_true rfl)) _) _) _) _).trans rfl)
theorem e253_945  : eb_E L d 253 945 ls ([a2, a1, a0]) M = (eb_ev L d 87 [a0, a1, a2] M).bind (fun q => eb_E L d 253 948 ls [q.1] q.2) := eb_E_c hk253 ((congrFun (congrFun (congrFun (congrFun (lk253_14 945 (Nat.le_of_ble_eq_true rfl)) _) _) _) _).trans rfl)
theorem e253_948 {x : Option eb_A} : eb_E L d 253 948 [v0, v1, some (Sum.inr x), v3] (st) M = eb_E L d 253 949 [v0, v1, some (Sum.inr x), v3] (Sum.inr x :: st) M := eb_E_s hk253 ((congrFun (congrFun (congrFun (congrFun (lk253_14 948 (Nat.le_of_ble_eq_true rfl)) _) _) _) _).trans rfl)
theorem e253_949 {x : Option eb_A} : eb_E L d 253 949 [some (Sum.inr x), v1, v2, v3] (st) M = eb_E L d 253 950 [some (Sum.inr x), v1, v2, v3] (Sum.inr x :: st) M := eb_E_s hk253 ((congrFun (congrFun (congrFun (congrFun (lk253_14 949 (Nat.le_of_ble_eq_true rfl)) _) _) _) _).trans rfl)
theorem e253_950 {x : Int32} : eb_E L d 253 950 [v0, v1, v2, some (zi x)] (st) M = eb_E L d 253 951 [v0, v1, v2, some (zi x)] (zi x :: st) M := eb_E_s hk253 ((congrFun (congrFun (congrFun (congrFun (lk253_14 950 (Nat.le_of_ble_eq_true rfl)) _) _) _) _).trans rfl)
theorem e253_951  : eb_E L d 253 951 ls (st) M = eb_E L d 253 952 ls (zi 1 :: st) M := eb_E_s hk253 ((congrFun (congrFun (congrFun (congrFun (lk253_14 951 (Nat.le_of_ble_eq_true rfl)) _) _) _) _).trans rfl)
theorem e253_952 {x : Int32} {y : Int32} : eb_E L d 253 952 ls (zi y :: zi x :: st) M = eb_E L d 253 953 ls (zi (x + y) :: st) M := eb_E_s hk253 ((congrFun (congrFun (congrFun (congrFun (lk253_14 952 (Nat.le_of_ble_eq_true rfl)) _) _) _) _).trans rfl)
theorem e253_953 {x : Int32} : eb_E L d 253 953 ls (zi x :: Sum.inr (some a) :: st) (nc, ns, I, J, R) = if (eb_ty L a.1).1 = 17 ∧ eb_in x (eb_ty L a.1).2 = true then eb_E L d 253 954 ls (zi (I a x.toNatClampNeg) :: st) (nc, ns, I, J, R) else none := eb_E_iy hk253 ((congrFun (congrFun (congrFun (congrFun (lk253_14 953 (Nat.le_of_ble_eq_true rfl)) _) _) _) _).trans rfl)
theorem e253_954 {x : Option eb_A} : eb_E L d 253 954 [some (Sum.inr x), v1, v2, v3] (st) M = eb_E L d 253 955 [some (Sum.inr x), v1, v2, v3] (Sum.inr x :: st) M := eb_E_s hk253 ((congrFun (congrFun (congrFun (congrFun (lk253_14 954 (Nat.le_of_ble_eq_true rfl)) _) _) _) _).trans rfl)
theorem e253_955 {x : Int32} : eb_E L d 253 955 [v0, v1, v2, some (zi x)] (st) M = eb_E L d 253 956 [v0, v1, v2, some (zi x)] (zi x :: st) M := eb_E_s hk253 ((congrFun (congrFun (congrFun (congrFun (lk253_14 955 (Nat.le_of_ble_eq_true rfl)) _) _) _) _).trans rfl)
theorem e253_956  : eb_E L d 253 956 ls (st) M = eb_E L d 253 957 ls (zi 2 :: st) M := eb_E_s hk253 ((congrFun (congrFun (congrFun (congrFun (lk253_14 956 (Nat.le_of_ble_eq_true rfl)) _) _) _) _).trans rfl)
theorem e253_957 {x : Int32} {y : Int32} : eb_E L d 253 957 ls (zi y :: zi x :: st) M = eb_E L d 253 958 ls (zi (x + y) :: st) M := eb_E_s hk253 ((congrFun (congrFun (congrFun (congrFun (lk253_14 957 (Nat.le_of_ble_eq_true rfl)) _) _) _) _).trans rfl)
theorem e253_958 {x : Int32} : eb_E L d 253 958 ls (zi x :: Sum.inr (some a) :: st) (nc, ns, I, J, R) = if (eb_ty L a.1).1 = 17 ∧ eb_in x (eb_ty L a.1).2 = true then eb_E L d 253 959 ls (zi (I a x.toNatClampNeg) :: st) (nc, ns, I, J, R) else none := eb_E_iy hk253 ((congrFun (congrFun (congrFun (congrFun (lk253_14 958 (Nat.le_of_ble_eq_true rfl)) _) _) _) _).trans rfl)
theorem e253_959 {s0 : Int32} : eb_E L d 253 959 ls ([a2, a1, a0, zi s0]) M = (eb_ev L d 189 [a0, a1, a2] M).bind (fun q => eb_E L d 253 962 ls [q.1, zi s0] q.2) := eb_E_c hk253 ((congrFun (congrFun (congrFun (congrFun (lk253_14 959 (Nat.le_of_ble_eq_true rfl)) _) _) _) _).trans rfl)
theorem e253_962 {x : Int32} {y : Int32} : eb_E L d 253 962 ls (zi y :: zi x :: st) M = if x = y then eb_E L d 253 1948 ls st M else eb_E L d 253 965 ls st M := eb_E_b hk253 ((congrFun (congrFun (congrFun (congrFun (lk253_14 962 (Nat.le_of_ble_eq_true rfl)) _) _) _) _).trans rfl)
theorem e253_965  : eb_E L d 253 965 ls (st) M = eb_E L d 253 966 ls (zi 0 :: st) M := eb_E_s hk253 ((congrFun (congrFun (congrFun (congrFun (lk253_14 965 (Nat.le_of_ble_eq_true rfl)) _) _) _) _).trans rfl)
theorem e253_966 {x : Int32} : eb_E L d 253 966 ls ([zi x]) M = if x = 0 ∨ x = 1 then some (zi x, M) else none := eb_E_ri hk253 ((congrFun (congrFun (congrFun (congrFun (lk253_14 966 (Nat.le_of_ble_eq_true rfl)) _) _) _) _).trans rfl)
theorem e253_967 {x : Option eb_A} : eb_E L d 253 967 [v0, some (Sum.inr x), v2, v3] (st) M = eb_E L d 253 968 [v0, some (Sum.inr x), v2, v3] (Sum.inr x :: st) M := eb_E_s hk253 ((congrFun (congrFun (congrFun (congrFun (lk253_14 967 (Nat.le_of_ble_eq_true rfl)) _) _) _) _).trans rfl)
theorem e253_968 {x : Option eb_A} : eb_E L d 253 968 [some (Sum.inr x), v1, v2, v3] (st) M = eb_E L d 253 969 [some (Sum.inr x), v1, v2, v3] (Sum.inr x :: st) M := eb_E_s hk253 ((congrFun (congrFun (congrFun (congrFun (lk253_14 968 (Nat.le_of_ble_eq_true rfl)) _) _) _) _).trans rfl)
theorem e253_969 {x : Int32} : eb_E L d 253 969 [v0, v1, v2, some (zi x)] (st) M = eb_E L d 253 970 [v0, v1, v2, some (zi x)] (zi x :: st) M := eb_E_s hk253 ((congrFun (congrFun (congrFun (congrFun (lk253_14 969 (Nat.le_of_ble_eq_true rfl)) _) _) _) _).trans rfl)
theorem e253_970  : eb_E L d 253 970 ls (st) M = eb_E L d 253 971 ls (zi 1 :: st) M := eb_E_s hk253 ((congrFun (congrFun (congrFun (congrFun (lk253_14 970 (Nat.le_of_ble_eq_true rfl)) _) _) _) _).trans rfl)
theorem e253_971 {x : Int32} {y : Int32} : eb_E L d 253 971 ls (zi y :: zi x :: st) M = eb_E L d 253 972 ls (zi (x + y) :: st) M := eb_E_s hk253 ((congrFun (congrFun (congrFun (congrFun (lk253_14 971 (Nat.le_of_ble_eq_true rfl)) _) _) _) _).trans rfl)
theorem e253_972 {x : Int32} : eb_E L d 253 972 ls (zi x :: Sum.inr (some a) :: st) (nc, ns, I, J, R) = if (eb_ty L a.1).1 = 17 ∧ eb_in x (eb_ty L a.1).2 = true then eb_E L d 253 973 ls (zi (I a x.toNatClampNeg) :: st) (nc, ns, I, J, R) else none := eb_E_iy hk253 ((congrFun (congrFun (congrFun (congrFun (lk253_14 972 (Nat.le_of_ble_eq_true rfl)) _) _) _) _).trans rfl)
theorem e253_973 {x : Option eb_A} : eb_E L d 253 973 [some (Sum.inr x), v1, v2, v3] (st) M = eb_E L d 253 974 [some (Sum.inr x), v1, v2, v3] (Sum.inr x :: st) M := eb_E_s hk253 ((congrFun (congrFun (congrFun (congrFun (lk253_14 973 (Nat.le_of_ble_eq_true rfl)) _) _) _) _).trans rfl)
theorem e253_974 {x : Int32} : eb_E L d 253 974 [v0, v1, v2, some (zi x)] (st) M = eb_E L d 253 975 [v0, v1, v2, some (zi x)] (zi x :: st) M := eb_E_s hk253 ((congrFun (congrFun (congrFun (congrFun (lk253_14 974 (Nat.le_of_ble_eq_true rfl)) _) _) _) _).trans rfl)
theorem e253_975  : eb_E L d 253 975 ls (st) M = eb_E L d 253 976 ls (zi 2 :: st) M := eb_E_s hk253 ((congrFun (congrFun (congrFun (congrFun (lk253_14 975 (Nat.le_of_ble_eq_true rfl)) _) _) _) _).trans rfl)
theorem e253_976 {x : Int32} {y : Int32} : eb_E L d 253 976 ls (zi y :: zi x :: st) M = eb_E L d 253 977 ls (zi (x + y) :: st) M := eb_E_s hk253 ((congrFun (congrFun (congrFun (congrFun (lk253_14 976 (Nat.le_of_ble_eq_true rfl)) _) _) _) _).trans rfl)
theorem e253_977 {x : Int32} : eb_E L d 253 977 ls (zi x :: Sum.inr (some a) :: st) (nc, ns, I, J, R) = if (eb_ty L a.1).1 = 17 ∧ eb_in x (eb_ty L a.1).2 = true then eb_E L d 253 978 ls (zi (I a x.toNatClampNeg) :: st) (nc, ns, I, J, R) else none := eb_E_iy hk253 ((congrFun (congrFun (congrFun (congrFun (lk253_14 977 (Nat.le_of_ble_eq_true rfl)) _) _) _) _).trans rfl)
theorem e253_978  : eb_E L d 253 978 ls ([a2, a1, a0]) M = (eb_ev L d 88 [a0, a1, a2] M).bind (fun q => eb_E L d 253 981 ls [q.1] q.2) := eb_E_c hk253 ((congrFun (congrFun (congrFun (congrFun (lk253_14 978 (Nat.le_of_ble_eq_true rfl)) _) _) _) _).trans rfl)
theorem e253_981 {x : Option eb_A} : eb_E L d 253 981 [v0, v1, some (Sum.inr x), v3] (st) M = eb_E L d 253 982 [v0, v1, some (Sum.inr x), v3] (Sum.inr x :: st) M := eb_E_s hk253 ((congrFun (congrFun (congrFun (congrFun (lk253_14 981 (Nat.le_of_ble_eq_true rfl)) _) _) _) _).trans rfl)
theorem e253_982 {x : Option eb_A} : eb_E L d 253 982 [some (Sum.inr x), v1, v2, v3] (st) M = eb_E L d 253 983 [some (Sum.inr x), v1, v2, v3] (Sum.inr x :: st) M := eb_E_s hk253 ((congrFun (congrFun (congrFun (congrFun (lk253_15 982 (Nat.le_of_ble_eq_true rfl)) _) _) _) _).trans rfl)
theorem e253_983 {x : Int32} : eb_E L d 253 983 [v0, v1, v2, some (zi x)] (st) M = eb_E L d 253 984 [v0, v1, v2, some (zi x)] (zi x :: st) M := eb_E_s hk253 ((congrFun (congrFun (congrFun (congrFun (lk253_15 983 (Nat.le_of_ble_eq_true rfl)) _) _) _) _).trans rfl)
theorem e253_984  : eb_E L d 253 984 ls (st) M = eb_E L d 253 985 ls (zi 1 :: st) M := eb_E_s hk253 ((congrFun (congrFun (congrFun (congrFun (lk253_15 984 (Nat.le_of_ble_eq_true rfl)) _) _) _) _).trans rfl)
theorem e253_985 {x : Int32} {y : Int32} : eb_E L d 253 985 ls (zi y :: zi x :: st) M = eb_E L d 253 986 ls (zi (x + y) :: st) M := eb_E_s hk253 ((congrFun (congrFun (congrFun (congrFun (lk253_15 985 (Nat.le_of_ble_eq_true rfl)) _) _) _) _).trans rfl)
theorem e253_986 {x : Int32} : eb_E L d 253 986 ls (zi x :: Sum.inr (some a) :: st) (nc, ns, I, J, R) = if (eb_ty L a.1).1 = 17 ∧ eb_in x (eb_ty L a.1).2 = true then eb_E L d 253 987 ls (zi (I a x.toNatClampNeg) :: st) (nc, ns, I, J, R) else none := eb_E_iy hk253 ((congrFun (congrFun (congrFun (congrFun (lk253_15 986 (Nat.le_of_ble_eq_true rfl)) _) _) _) _).trans rfl)
theorem e253_987 {x : Option eb_A} : eb_E L d 253 987 [some (Sum.inr x), v1, v2, v3] (st) M = eb_E L d 253 988 [some (Sum.inr x), v1, v2, v3] (Sum.inr x :: st) M := eb_E_s hk253 ((congrFun (congrFun (congrFun (congrFun (lk253_15 987 (Nat.le_of_ble_eq_true rfl)) _) _) _) _).trans rfl)
theorem e253_988 {x : Int32} : eb_E L d 253 988 [v0, v1, v2, some (zi x)] (st) M = eb_E L d 253 989 [v0, v1, v2, some (zi x)] (zi x :: st) M := eb_E_s hk253 ((congrFun (congrFun (congrFun (congrFun (lk253_15 988 (Nat.le_of_ble_eq_true rfl)) _) _) _) _).trans rfl)
theorem e253_989  : eb_E L d 253 989 ls (st) M = eb_E L d 253 990 ls (zi 2 :: st) M := eb_E_s hk253 ((congrFun (congrFun (congrFun (congrFun (lk253_15 989 (Nat.le_of_ble_eq_true rfl)) _) _) _) _).trans rfl)
theorem e253_990 {x : Int32} {y : Int32} : eb_E L d 253 990 ls (zi y :: zi x :: st) M = eb_E L d 253 991 ls (zi (x + y) :: st) M := eb_E_s hk253 ((congrFun (congrFun (congrFun (congrFun (lk253_15 990 (Nat.le_of_ble_eq_true rfl)) _) _) _) _).trans rfl)
theorem e253_991 {x : Int32} : eb_E L d 253 991 ls (zi x :: Sum.inr (some a) :: st) (nc, ns, I, J, R) = if (eb_ty L a.1).1 = 17 ∧ eb_in x (eb_ty L a.1).2 = true then eb_E L d 253 992 ls (zi (I a x.toNatClampNeg) :: st) (nc, ns, I, J, R) else none := eb_E_iy hk253 ((congrFun (congrFun (congrFun (congrFun (lk253_15 991 (Nat.le_of_ble_eq_true rfl)) _) _) _) _).trans rfl)
theorem e253_992 {s0 : Int32} : eb_E L d 253 992 ls ([a2, a1, a0, zi s0]) M = (eb_ev L d 193 [a0, a1, a2] M).bind (fun q => eb_E L d 253 995 ls [q.1, zi s0] q.2) := eb_E_c hk253 ((congrFun (congrFun (congrFun (congrFun (lk253_15 992 (Nat.le_of_ble_eq_true rfl)) _) _) _) _).trans rfl)
theorem e253_995 {x : Int32} {y : Int32} : eb_E L d 253 995 ls (zi y :: zi x :: st) M = if x = y then eb_E L d 253 1948 ls st M else eb_E L d 253 998 ls st M := eb_E_b hk253 ((congrFun (congrFun (congrFun (congrFun (lk253_15 995 (Nat.le_of_ble_eq_true rfl)) _) _) _) _).trans rfl)
theorem e253_998  : eb_E L d 253 998 ls (st) M = eb_E L d 253 999 ls (zi 0 :: st) M := eb_E_s hk253 ((congrFun (congrFun (congrFun (congrFun (lk253_15 998 (Nat.le_of_ble_eq_true rfl)) _) _) _) _).trans rfl)
theorem e253_999 {x : Int32} : eb_E L d 253 999 ls ([zi x]) M = if x = 0 ∨ x = 1 then some (zi x, M) else none := eb_E_ri hk253 ((congrFun (congrFun (congrFun (congrFun (lk253_15 999 (Nat.le_of_ble_eq_true rfl)) _) _) _) _).trans rfl)
theorem e253_1000 {x : Option eb_A} : eb_E L d 253 1000 [v0, some (Sum.inr x), v2, v3] (st) M = eb_E L d 253 1001 [v0, some (Sum.inr x), v2, v3] (Sum.inr x :: st) M := eb_E_s hk253 ((congrFun (congrFun (congrFun (congrFun (lk253_15 1000 (Nat.le_of_ble_eq_true rfl)) _) _) _) _).trans rfl)
theorem e253_1001 {x : Option eb_A} : eb_E L d 253 1001 [some (Sum.inr x), v1, v2, v3] (st) M = eb_E L d 253 1002 [some (Sum.inr x), v1, v2, v3] (Sum.inr x :: st) M := eb_E_s hk253 ((congrFun (congrFun (congrFun (congrFun (lk253_15 1001 (Nat.le_of_ble_eq_true rfl)) _) _) _) _).trans rfl)
theorem e253_1002 {x : Int32} : eb_E L d 253 1002 [v0, v1, v2, some (zi x)] (st) M = eb_E L d 253 1003 [v0, v1, v2, some (zi x)] (zi x :: st) M := eb_E_s hk253 ((congrFun (congrFun (congrFun (congrFun (lk253_15 1002 (Nat.le_of_ble_eq_true rfl)) _) _) _) _).trans rfl)
theorem e253_1003  : eb_E L d 253 1003 ls (st) M = eb_E L d 253 1004 ls (zi 1 :: st) M := eb_E_s hk253 ((congrFun (congrFun (congrFun (congrFun (lk253_15 1003 (Nat.le_of_ble_eq_true rfl)) _) _) _) _).trans rfl)
theorem e253_1004 {x : Int32} {y : Int32} : eb_E L d 253 1004 ls (zi y :: zi x :: st) M = eb_E L d 253 1005 ls (zi (x + y) :: st) M := eb_E_s hk253 ((congrFun (congrFun (congrFun (congrFun (lk253_15 1004 (Nat.le_of_ble_eq_true rfl)) _) _) _) _).trans rfl)
theorem e253_1005 {x : Int32} : eb_E L d 253 1005 ls (zi x :: Sum.inr (some a) :: st) (nc, ns, I, J, R) = if (eb_ty L a.1).1 = 17 ∧ eb_in x (eb_ty L a.1).2 = true then eb_E L d 253 1006 ls (zi (I a x.toNatClampNeg) :: st) (nc, ns, I, J, R) else none := eb_E_iy hk253 ((congrFun (congrFun (congrFun (congrFun (lk253_15 1005 (Nat.le_of_ble_eq_true rfl)) _) _) _) _).trans rfl)
theorem e253_1006 {x : Option eb_A} : eb_E L d 253 1006 [some (Sum.inr x), v1, v2, v3] (st) M = eb_E L d 253 1007 [some (Sum.inr x), v1, v2, v3] (Sum.inr x :: st) M := eb_E_s hk253 ((congrFun (congrFun (congrFun (congrFun (lk253_15 1006 (Nat.le_of_ble_eq_true rfl)) _) _) _) _).trans rfl)
theorem e253_1007 {x : Int32} : eb_E L d 253 1007 [v0, v1, v2, some (zi x)] (st) M = eb_E L d 253 1008 [v0, v1, v2, some (zi x)] (zi x :: st) M := eb_E_s hk253 ((congrFun (congrFun (congrFun (congrFun (lk253_15 1007 (Nat.le_of_ble_eq_true rfl)) _) _) _) _).trans rfl)
theorem e253_1008  : eb_E L d 253 1008 ls (st) M = eb_E L d 253 1009 ls (zi 2 :: st) M := eb_E_s hk253 ((congrFun (congrFun (congrFun (congrFun (lk253_15 1008 (Nat.le_of_ble_eq_true rfl)) _) _) _) _).trans rfl)
theorem e253_1009 {x : Int32} {y : Int32} : eb_E L d 253 1009 ls (zi y :: zi x :: st) M = eb_E L d 253 1010 ls (zi (x + y) :: st) M := eb_E_s hk253 ((congrFun (congrFun (congrFun (congrFun (lk253_15 1009 (Nat.le_of_ble_eq_true rfl)) _) _) _) _).trans rfl)
theorem e253_1010 {x : Int32} : eb_E L d 253 1010 ls (zi x :: Sum.inr (some a) :: st) (nc, ns, I, J, R) = if (eb_ty L a.1).1 = 17 ∧ eb_in x (eb_ty L a.1).2 = true then eb_E L d 253 1011 ls (zi (I a x.toNatClampNeg) :: st) (nc, ns, I, J, R) else none := eb_E_iy hk253 ((congrFun (congrFun (congrFun (congrFun (lk253_15 1010 (Nat.le_of_ble_eq_true rfl)) _) _) _) _).trans rfl)
theorem e253_1011  : eb_E L d 253 1011 ls ([a2, a1, a0]) M = (eb_ev L d 89 [a0, a1, a2] M).bind (fun q => eb_E L d 253 1014 ls [q.1] q.2) := eb_E_c hk253 ((congrFun (congrFun (congrFun (congrFun (lk253_15 1011 (Nat.le_of_ble_eq_true rfl)) _) _) _) _).trans rfl)
theorem e253_1014 {x : Option eb_A} : eb_E L d 253 1014 [v0, v1, some (Sum.inr x), v3] (st) M = eb_E L d 253 1015 [v0, v1, some (Sum.inr x), v3] (Sum.inr x :: st) M := eb_E_s hk253 ((congrFun (congrFun (congrFun (congrFun (lk253_15 1014 (Nat.le_of_ble_eq_true rfl)) _) _) _) _).trans rfl)
theorem e253_1015 {x : Option eb_A} : eb_E L d 253 1015 [some (Sum.inr x), v1, v2, v3] (st) M = eb_E L d 253 1016 [some (Sum.inr x), v1, v2, v3] (Sum.inr x :: st) M := eb_E_s hk253 ((congrFun (congrFun (congrFun (congrFun (lk253_15 1015 (Nat.le_of_ble_eq_true rfl)) _) _) _) _).trans rfl)
theorem e253_1016 {x : Int32} : eb_E L d 253 1016 [v0, v1, v2, some (zi x)] (st) M = eb_E L d 253 1017 [v0, v1, v2, some (zi x)] (zi x :: st) M := eb_E_s hk253 ((congrFun (congrFun (congrFun (congrFun (lk253_15 1016 (Nat.le_of_ble_eq_true rfl)) _) _) _) _).trans rfl)
theorem e253_1017  : eb_E L d 253 1017 ls (st) M = eb_E L d 253 1018 ls (zi 1 :: st) M := eb_E_s hk253 ((congrFun (congrFun (congrFun (congrFun (lk253_15 1017 (Nat.le_of_ble_eq_true rfl)) _) _) _) _).trans rfl)
theorem e253_1018 {x : Int32} {y : Int32} : eb_E L d 253 1018 ls (zi y :: zi x :: st) M = eb_E L d 253 1019 ls (zi (x + y) :: st) M := eb_E_s hk253 ((congrFun (congrFun (congrFun (congrFun (lk253_15 1018 (Nat.le_of_ble_eq_true rfl)) _) _) _) _).trans rfl)
theorem e253_1019 {x : Int32} : eb_E L d 253 1019 ls (zi x :: Sum.inr (some a) :: st) (nc, ns, I, J, R) = if (eb_ty L a.1).1 = 17 ∧ eb_in x (eb_ty L a.1).2 = true then eb_E L d 253 1020 ls (zi (I a x.toNatClampNeg) :: st) (nc, ns, I, J, R) else none := eb_E_iy hk253 ((congrFun (congrFun (congrFun (congrFun (lk253_15 1019 (Nat.le_of_ble_eq_true rfl)) _) _) _) _).trans rfl)
theorem e253_1020 {x : Option eb_A} : eb_E L d 253 1020 [some (Sum.inr x), v1, v2, v3] (st) M = eb_E L d 253 1021 [some (Sum.inr x), v1, v2, v3] (Sum.inr x :: st) M := eb_E_s hk253 ((congrFun (congrFun (congrFun (congrFun (lk253_15 1020 (Nat.le_of_ble_eq_true rfl)) _) _) _) _).trans rfl)
theorem e253_1021 {x : Int32} : eb_E L d 253 1021 [v0, v1, v2, some (zi x)] (st) M = eb_E L d 253 1022 [v0, v1, v2, some (zi x)] (zi x :: st) M := eb_E_s hk253 ((congrFun (congrFun (congrFun (congrFun (lk253_15 1021 (Nat.le_of_ble_eq_true rfl)) _) _) _) _).trans rfl)
theorem e253_1022  : eb_E L d 253 1022 ls (st) M = eb_E L d 253 1023 ls (zi 2 :: st) M := eb_E_s hk253 ((congrFun (congrFun (congrFun (congrFun (lk253_15 1022 (Nat.le_of_ble_eq_true rfl)) _) _) _) _).trans rfl)
theorem e253_1023 {x : Int32} {y : Int32} : eb_E L d 253 1023 ls (zi y :: zi x :: st) M = eb_E L d 253 1024 ls (zi (x + y) :: st) M := eb_E_s hk253 ((congrFun (congrFun (congrFun (congrFun (lk253_15 1023 (Nat.le_of_ble_eq_true rfl)) _) _) _) _).trans rfl)
theorem e253_1024 {x : Int32} : eb_E L d 253 1024 ls (zi x :: Sum.inr (some a) :: st) (nc, ns, I, J, R) = if (eb_ty L a.1).1 = 17 ∧ eb_in x (eb_ty L a.1).2 = true then eb_E L d 253 1025 ls (zi (I a x.toNatClampNeg) :: st) (nc, ns, I, J, R) else none := eb_E_iy hk253 ((congrFun (congrFun (congrFun (congrFun (lk253_15 1024 (Nat.le_of_ble_eq_true rfl)) _) _) _) _).trans rfl)
theorem e253_1025 {s0 : Int32} : eb_E L d 253 1025 ls ([a2, a1, a0, zi s0]) M = (eb_ev L d 199 [a0, a1, a2] M).bind (fun q => eb_E L d 253 1028 ls [q.1, zi s0] q.2) := eb_E_c hk253 ((congrFun (congrFun (congrFun (congrFun (lk253_15 1025 (Nat.le_of_ble_eq_true rfl)) _) _) _) _).trans rfl)
theorem e253_1028 {x : Int32} {y : Int32} : eb_E L d 253 1028 ls (zi y :: zi x :: st) M = if x = y then eb_E L d 253 1948 ls st M else eb_E L d 253 1031 ls st M := eb_E_b hk253 ((congrFun (congrFun (congrFun (congrFun (lk253_15 1028 (Nat.le_of_ble_eq_true rfl)) _) _) _) _).trans rfl)
theorem e253_1031  : eb_E L d 253 1031 ls (st) M = eb_E L d 253 1032 ls (zi 0 :: st) M := eb_E_s hk253 ((congrFun (congrFun (congrFun (congrFun (lk253_15 1031 (Nat.le_of_ble_eq_true rfl)) _) _) _) _).trans rfl)
theorem e253_1032 {x : Int32} : eb_E L d 253 1032 ls ([zi x]) M = if x = 0 ∨ x = 1 then some (zi x, M) else none := eb_E_ri hk253 ((congrFun (congrFun (congrFun (congrFun (lk253_16 1032 (Nat.le_of_ble_eq_true rfl)) _) _) _) _).trans rfl)
theorem e253_1033 {x : Option eb_A} : eb_E L d 253 1033 [v0, some (Sum.inr x), v2, v3] (st) M = eb_E L d 253 1034 [v0, some (Sum.inr x), v2, v3] (Sum.inr x :: st) M := eb_E_s hk253 ((congrFun (congrFun (congrFun (congrFun (lk253_16 1033 (Nat.le_of_ble_eq_true rfl)) _) _) _) _).trans rfl)
theorem e253_1034 {x : Option eb_A} : eb_E L d 253 1034 [some (Sum.inr x), v1, v2, v3] (st) M = eb_E L d 253 1035 [some (Sum.inr x), v1, v2, v3] (Sum.inr x :: st) M := eb_E_s hk253 ((congrFun (congrFun (congrFun (congrFun (lk253_16 1034 (Nat.le_of_ble_eq_true rfl)) _) _) _) _).trans rfl)
theorem e253_1035 {x : Int32} : eb_E L d 253 1035 [v0, v1, v2, some (zi x)] (st) M = eb_E L d 253 1036 [v0, v1, v2, some (zi x)] (zi x :: st) M := eb_E_s hk253 ((congrFun (congrFun (congrFun (congrFun (lk253_16 1035 (Nat.le_of_ble_eq_true rfl)) _) _) _) _).trans rfl)
theorem e253_1036  : eb_E L d 253 1036 ls (st) M = eb_E L d 253 1037 ls (zi 1 :: st) M := eb_E_s hk253 ((congrFun (congrFun (congrFun (congrFun (lk253_16 1036 (Nat.le_of_ble_eq_true rfl)) _) _) _) _).trans rfl)
theorem e253_1037 {x : Int32} {y : Int32} : eb_E L d 253 1037 ls (zi y :: zi x :: st) M = eb_E L d 253 1038 ls (zi (x + y) :: st) M := eb_E_s hk253 ((congrFun (congrFun (congrFun (congrFun (lk253_16 1037 (Nat.le_of_ble_eq_true rfl)) _) _) _) _).trans rfl)
theorem e253_1038 {x : Int32} : eb_E L d 253 1038 ls (zi x :: Sum.inr (some a) :: st) (nc, ns, I, J, R) = if (eb_ty L a.1).1 = 17 ∧ eb_in x (eb_ty L a.1).2 = true then eb_E L d 253 1039 ls (zi (I a x.toNatClampNeg) :: st) (nc, ns, I, J, R) else none := eb_E_iy hk253 ((congrFun (congrFun (congrFun (congrFun (lk253_16 1038 (Nat.le_of_ble_eq_true rfl)) _) _) _) _).trans rfl)
theorem e253_1039  : eb_E L d 253 1039 ls ([a1, a0]) M = (eb_ev L d 90 [a0, a1] M).bind (fun q => eb_E L d 253 1042 ls [q.1] q.2) := eb_E_c hk253 ((congrFun (congrFun (congrFun (congrFun (lk253_16 1039 (Nat.le_of_ble_eq_true rfl)) _) _) _) _).trans rfl)
theorem e253_1042 {x : Option eb_A} : eb_E L d 253 1042 [v0, v1, some (Sum.inr x), v3] (st) M = eb_E L d 253 1043 [v0, v1, some (Sum.inr x), v3] (Sum.inr x :: st) M := eb_E_s hk253 ((congrFun (congrFun (congrFun (congrFun (lk253_16 1042 (Nat.le_of_ble_eq_true rfl)) _) _) _) _).trans rfl)
theorem e253_1043 {x : Option eb_A} : eb_E L d 253 1043 [some (Sum.inr x), v1, v2, v3] (st) M = eb_E L d 253 1044 [some (Sum.inr x), v1, v2, v3] (Sum.inr x :: st) M := eb_E_s hk253 ((congrFun (congrFun (congrFun (congrFun (lk253_16 1043 (Nat.le_of_ble_eq_true rfl)) _) _) _) _).trans rfl)
theorem e253_1044 {x : Int32} : eb_E L d 253 1044 [v0, v1, v2, some (zi x)] (st) M = eb_E L d 253 1045 [v0, v1, v2, some (zi x)] (zi x :: st) M := eb_E_s hk253 ((congrFun (congrFun (congrFun (congrFun (lk253_16 1044 (Nat.le_of_ble_eq_true rfl)) _) _) _) _).trans rfl)
theorem e253_1045  : eb_E L d 253 1045 ls (st) M = eb_E L d 253 1046 ls (zi 1 :: st) M := eb_E_s hk253 ((congrFun (congrFun (congrFun (congrFun (lk253_16 1045 (Nat.le_of_ble_eq_true rfl)) _) _) _) _).trans rfl)
theorem e253_1046 {x : Int32} {y : Int32} : eb_E L d 253 1046 ls (zi y :: zi x :: st) M = eb_E L d 253 1047 ls (zi (x + y) :: st) M := eb_E_s hk253 ((congrFun (congrFun (congrFun (congrFun (lk253_16 1046 (Nat.le_of_ble_eq_true rfl)) _) _) _) _).trans rfl)
theorem e253_1047 {x : Int32} : eb_E L d 253 1047 ls (zi x :: Sum.inr (some a) :: st) (nc, ns, I, J, R) = if (eb_ty L a.1).1 = 17 ∧ eb_in x (eb_ty L a.1).2 = true then eb_E L d 253 1048 ls (zi (I a x.toNatClampNeg) :: st) (nc, ns, I, J, R) else none := eb_E_iy hk253 ((congrFun (congrFun (congrFun (congrFun (lk253_16 1047 (Nat.le_of_ble_eq_true rfl)) _) _) _) _).trans rfl)
theorem e253_1048 {s0 : Int32} : eb_E L d 253 1048 ls ([a1, a0, zi s0]) M = (eb_ev L d 200 [a0, a1] M).bind (fun q => eb_E L d 253 1051 ls [q.1, zi s0] q.2) := eb_E_c hk253 ((congrFun (congrFun (congrFun (congrFun (lk253_16 1048 (Nat.le_of_ble_eq_true rfl)) _) _) _) _).trans rfl)
theorem e253_1051 {x : Int32} {y : Int32} : eb_E L d 253 1051 ls (zi y :: zi x :: st) M = if x = y then eb_E L d 253 1948 ls st M else eb_E L d 253 1054 ls st M := eb_E_b hk253 ((congrFun (congrFun (congrFun (congrFun (lk253_16 1051 (Nat.le_of_ble_eq_true rfl)) _) _) _) _).trans rfl)
theorem e253_1054  : eb_E L d 253 1054 ls (st) M = eb_E L d 253 1055 ls (zi 0 :: st) M := eb_E_s hk253 ((congrFun (congrFun (congrFun (congrFun (lk253_16 1054 (Nat.le_of_ble_eq_true rfl)) _) _) _) _).trans rfl)
theorem e253_1055 {x : Int32} : eb_E L d 253 1055 ls ([zi x]) M = if x = 0 ∨ x = 1 then some (zi x, M) else none := eb_E_ri hk253 ((congrFun (congrFun (congrFun (congrFun (lk253_16 1055 (Nat.le_of_ble_eq_true rfl)) _) _) _) _).trans rfl)
theorem e253_1056 {x : Option eb_A} : eb_E L d 253 1056 [v0, some (Sum.inr x), v2, v3] (st) M = eb_E L d 253 1057 [v0, some (Sum.inr x), v2, v3] (Sum.inr x :: st) M := eb_E_s hk253 ((congrFun (congrFun (congrFun (congrFun (lk253_16 1056 (Nat.le_of_ble_eq_true rfl)) _) _) _) _).trans rfl)
theorem e253_1057 {x : Option eb_A} : eb_E L d 253 1057 [some (Sum.inr x), v1, v2, v3] (st) M = eb_E L d 253 1058 [some (Sum.inr x), v1, v2, v3] (Sum.inr x :: st) M := eb_E_s hk253 ((congrFun (congrFun (congrFun (congrFun (lk253_16 1057 (Nat.le_of_ble_eq_true rfl)) _) _) _) _).trans rfl)
theorem e253_1058 {x : Int32} : eb_E L d 253 1058 [v0, v1, v2, some (zi x)] (st) M = eb_E L d 253 1059 [v0, v1, v2, some (zi x)] (zi x :: st) M := eb_E_s hk253 ((congrFun (congrFun (congrFun (congrFun (lk253_16 1058 (Nat.le_of_ble_eq_true rfl)) _) _) _) _).trans rfl)
theorem e253_1059  : eb_E L d 253 1059 ls (st) M = eb_E L d 253 1060 ls (zi 1 :: st) M := eb_E_s hk253 ((congrFun (congrFun (congrFun (congrFun (lk253_16 1059 (Nat.le_of_ble_eq_true rfl)) _) _) _) _).trans rfl)
theorem e253_1060 {x : Int32} {y : Int32} : eb_E L d 253 1060 ls (zi y :: zi x :: st) M = eb_E L d 253 1061 ls (zi (x + y) :: st) M := eb_E_s hk253 ((congrFun (congrFun (congrFun (congrFun (lk253_16 1060 (Nat.le_of_ble_eq_true rfl)) _) _) _) _).trans rfl)
theorem e253_1061 {x : Int32} : eb_E L d 253 1061 ls (zi x :: Sum.inr (some a) :: st) (nc, ns, I, J, R) = if (eb_ty L a.1).1 = 17 ∧ eb_in x (eb_ty L a.1).2 = true then eb_E L d 253 1062 ls (zi (I a x.toNatClampNeg) :: st) (nc, ns, I, J, R) else none := eb_E_iy hk253 ((congrFun (congrFun (congrFun (congrFun (lk253_16 1061 (Nat.le_of_ble_eq_true rfl)) _) _) _) _).trans rfl)
theorem e253_1062  : eb_E L d 253 1062 ls ([a1, a0]) M = (eb_ev L d 91 [a0, a1] M).bind (fun q => eb_E L d 253 1065 ls [q.1] q.2) := eb_E_c hk253 ((congrFun (congrFun (congrFun (congrFun (lk253_16 1062 (Nat.le_of_ble_eq_true rfl)) _) _) _) _).trans rfl)
theorem e253_1065 {x : Option eb_A} : eb_E L d 253 1065 [v0, v1, some (Sum.inr x), v3] (st) M = eb_E L d 253 1066 [v0, v1, some (Sum.inr x), v3] (Sum.inr x :: st) M := eb_E_s hk253 ((congrFun (congrFun (congrFun (congrFun (lk253_16 1065 (Nat.le_of_ble_eq_true rfl)) _) _) _) _).trans rfl)
theorem e253_1066 {x : Option eb_A} : eb_E L d 253 1066 [some (Sum.inr x), v1, v2, v3] (st) M = eb_E L d 253 1067 [some (Sum.inr x), v1, v2, v3] (Sum.inr x :: st) M := eb_E_s hk253 ((congrFun (congrFun (congrFun (congrFun (lk253_16 1066 (Nat.le_of_ble_eq_true rfl)) _) _) _) _).trans rfl)
theorem e253_1067 {x : Int32} : eb_E L d 253 1067 [v0, v1, v2, some (zi x)] (st) M = eb_E L d 253 1068 [v0, v1, v2, some (zi x)] (zi x :: st) M := eb_E_s hk253 ((congrFun (congrFun (congrFun (congrFun (lk253_16 1067 (Nat.le_of_ble_eq_true rfl)) _) _) _) _).trans rfl)
theorem e253_1068  : eb_E L d 253 1068 ls (st) M = eb_E L d 253 1069 ls (zi 1 :: st) M := eb_E_s hk253 ((congrFun (congrFun (congrFun (congrFun (lk253_16 1068 (Nat.le_of_ble_eq_true rfl)) _) _) _) _).trans rfl)
theorem e253_1069 {x : Int32} {y : Int32} : eb_E L d 253 1069 ls (zi y :: zi x :: st) M = eb_E L d 253 1070 ls (zi (x + y) :: st) M := eb_E_s hk253 ((congrFun (congrFun (congrFun (congrFun (lk253_16 1069 (Nat.le_of_ble_eq_true rfl)) _) _) _) _).trans rfl)
theorem e253_1070 {x : Int32} : eb_E L d 253 1070 ls (zi x :: Sum.inr (some a) :: st) (nc, ns, I, J, R) = if (eb_ty L a.1).1 = 17 ∧ eb_in x (eb_ty L a.1).2 = true then eb_E L d 253 1071 ls (zi (I a x.toNatClampNeg) :: st) (nc, ns, I, J, R) else none := eb_E_iy hk253 ((congrFun (congrFun (congrFun (congrFun (lk253_16 1070 (Nat.le_of_ble_eq_true rfl)) _) _) _) _).trans rfl)
theorem e253_1071 {s0 : Int32} : eb_E L d 253 1071 ls ([a1, a0, zi s0]) M = (eb_ev L d 201 [a0, a1] M).bind (fun q => eb_E L d 253 1074 ls [q.1, zi s0] q.2) := eb_E_c hk253 ((congrFun (congrFun (congrFun (congrFun (lk253_16 1071 (Nat.le_of_ble_eq_true rfl)) _) _) _) _).trans rfl)
theorem e253_1074 {x : Int32} {y : Int32} : eb_E L d 253 1074 ls (zi y :: zi x :: st) M = if x = y then eb_E L d 253 1948 ls st M else eb_E L d 253 1077 ls st M := eb_E_b hk253 ((congrFun (congrFun (congrFun (congrFun (lk253_16 1074 (Nat.le_of_ble_eq_true rfl)) _) _) _) _).trans rfl)
theorem e253_1077  : eb_E L d 253 1077 ls (st) M = eb_E L d 253 1078 ls (zi 0 :: st) M := eb_E_s hk253 ((congrFun (congrFun (congrFun (congrFun (lk253_16 1077 (Nat.le_of_ble_eq_true rfl)) _) _) _) _).trans rfl)
theorem e253_1078 {x : Int32} : eb_E L d 253 1078 ls ([zi x]) M = if x = 0 ∨ x = 1 then some (zi x, M) else none := eb_E_ri hk253 ((congrFun (congrFun (congrFun (congrFun (lk253_16 1078 (Nat.le_of_ble_eq_true rfl)) _) _) _) _).trans rfl)
theorem e253_1079 {x : Option eb_A} : eb_E L d 253 1079 [v0, some (Sum.inr x), v2, v3] (st) M = eb_E L d 253 1080 [v0, some (Sum.inr x), v2, v3] (Sum.inr x :: st) M := eb_E_s hk253 ((congrFun (congrFun (congrFun (congrFun (lk253_16 1079 (Nat.le_of_ble_eq_true rfl)) _) _) _) _).trans rfl)
theorem e253_1080  : eb_E L d 253 1080 ls ([a0]) M = (eb_ev L d 92 [a0] M).bind (fun q => eb_E L d 253 1083 ls [q.1] q.2) := eb_E_c hk253 ((congrFun (congrFun (congrFun (congrFun (lk253_16 1080 (Nat.le_of_ble_eq_true rfl)) _) _) _) _).trans rfl)
theorem e253_1083 {x : Option eb_A} : eb_E L d 253 1083 [v0, v1, some (Sum.inr x), v3] (st) M = eb_E L d 253 1084 [v0, v1, some (Sum.inr x), v3] (Sum.inr x :: st) M := eb_E_s hk253 ((congrFun (congrFun (congrFun (congrFun (lk253_16 1083 (Nat.le_of_ble_eq_true rfl)) _) _) _) _).trans rfl)
theorem e253_1084 {s0 : Int32} : eb_E L d 253 1084 ls ([a0, zi s0]) M = (eb_ev L d 202 [a0] M).bind (fun q => eb_E L d 253 1087 ls [q.1, zi s0] q.2) := eb_E_c hk253 ((congrFun (congrFun (congrFun (congrFun (lk253_16 1084 (Nat.le_of_ble_eq_true rfl)) _) _) _) _).trans rfl)
theorem e253_1087 {x : Int32} {y : Int32} : eb_E L d 253 1087 ls (zi y :: zi x :: st) M = if x = y then eb_E L d 253 1948 ls st M else eb_E L d 253 1090 ls st M := eb_E_b hk253 ((congrFun (congrFun (congrFun (congrFun (lk253_16 1087 (Nat.le_of_ble_eq_true rfl)) _) _) _) _).trans rfl)
theorem e253_1090  : eb_E L d 253 1090 ls (st) M = eb_E L d 253 1091 ls (zi 0 :: st) M := eb_E_s hk253 ((congrFun (congrFun (congrFun (congrFun (lk253_17 1090 (Nat.le_of_ble_eq_true rfl)) _) _) _) _).trans rfl)
theorem e253_1091 {x : Int32} : eb_E L d 253 1091 ls ([zi x]) M = if x = 0 ∨ x = 1 then some (zi x, M) else none := eb_E_ri hk253 ((congrFun (congrFun (congrFun (congrFun (lk253_17 1091 (Nat.le_of_ble_eq_true rfl)) _) _) _) _).trans rfl)
theorem e253_1092 {x : Option eb_A} : eb_E L d 253 1092 [v0, some (Sum.inr x), v2, v3] (st) M = eb_E L d 253 1093 [v0, some (Sum.inr x), v2, v3] (Sum.inr x :: st) M := eb_E_s hk253 ((congrFun (congrFun (congrFun (congrFun (lk253_17 1092 (Nat.le_of_ble_eq_true rfl)) _) _) _) _).trans rfl)
theorem e253_1093 {x : Option eb_A} : eb_E L d 253 1093 [some (Sum.inr x), v1, v2, v3] (st) M = eb_E L d 253 1094 [some (Sum.inr x), v1, v2, v3] (Sum.inr x :: st) M := eb_E_s hk253 ((congrFun (congrFun (congrFun (congrFun (lk253_17 1093 (Nat.le_of_ble_eq_true rfl)) _) _) _) _).trans rfl)
theorem e253_1094 {x : Int32} : eb_E L d 253 1094 [v0, v1, v2, some (zi x)] (st) M = eb_E L d 253 1095 [v0, v1, v2, some (zi x)] (zi x :: st) M := eb_E_s hk253 ((congrFun (congrFun (congrFun (congrFun (lk253_17 1094 (Nat.le_of_ble_eq_true rfl)) _) _) _) _).trans rfl)
theorem e253_1095  : eb_E L d 253 1095 ls (st) M = eb_E L d 253 1096 ls (zi 1 :: st) M := eb_E_s hk253 ((congrFun (congrFun (congrFun (congrFun (lk253_17 1095 (Nat.le_of_ble_eq_true rfl)) _) _) _) _).trans rfl)
theorem e253_1096 {x : Int32} {y : Int32} : eb_E L d 253 1096 ls (zi y :: zi x :: st) M = eb_E L d 253 1097 ls (zi (x + y) :: st) M := eb_E_s hk253 ((congrFun (congrFun (congrFun (congrFun (lk253_17 1096 (Nat.le_of_ble_eq_true rfl)) _) _) _) _).trans rfl)
theorem e253_1097 {x : Int32} : eb_E L d 253 1097 ls (zi x :: Sum.inr (some a) :: st) (nc, ns, I, J, R) = if (eb_ty L a.1).1 = 17 ∧ eb_in x (eb_ty L a.1).2 = true then eb_E L d 253 1098 ls (zi (I a x.toNatClampNeg) :: st) (nc, ns, I, J, R) else none := eb_E_iy hk253 ((congrFun (congrFun (congrFun (congrFun (lk253_17 1097 (Nat.le_of_ble_eq_true rfl)) _) _) _) _).trans rfl)
theorem e253_1098  : eb_E L d 253 1098 ls ([a1, a0]) M = (eb_ev L d 93 [a0, a1] M).bind (fun q => eb_E L d 253 1101 ls [q.1] q.2) := eb_E_c hk253 ((congrFun (congrFun (congrFun (congrFun (lk253_17 1098 (Nat.le_of_ble_eq_true rfl)) _) _) _) _).trans rfl)
theorem e253_1101 {x : Option eb_A} : eb_E L d 253 1101 [v0, v1, some (Sum.inr x), v3] (st) M = eb_E L d 253 1102 [v0, v1, some (Sum.inr x), v3] (Sum.inr x :: st) M := eb_E_s hk253 ((congrFun (congrFun (congrFun (congrFun (lk253_17 1101 (Nat.le_of_ble_eq_true rfl)) _) _) _) _).trans rfl)
theorem e253_1102 {x : Option eb_A} : eb_E L d 253 1102 [some (Sum.inr x), v1, v2, v3] (st) M = eb_E L d 253 1103 [some (Sum.inr x), v1, v2, v3] (Sum.inr x :: st) M := eb_E_s hk253 ((congrFun (congrFun (congrFun (congrFun (lk253_17 1102 (Nat.le_of_ble_eq_true rfl)) _) _) _) _).trans rfl)
theorem e253_1103 {x : Int32} : eb_E L d 253 1103 [v0, v1, v2, some (zi x)] (st) M = eb_E L d 253 1104 [v0, v1, v2, some (zi x)] (zi x :: st) M := eb_E_s hk253 ((congrFun (congrFun (congrFun (congrFun (lk253_17 1103 (Nat.le_of_ble_eq_true rfl)) _) _) _) _).trans rfl)
theorem e253_1104  : eb_E L d 253 1104 ls (st) M = eb_E L d 253 1105 ls (zi 1 :: st) M := eb_E_s hk253 ((congrFun (congrFun (congrFun (congrFun (lk253_17 1104 (Nat.le_of_ble_eq_true rfl)) _) _) _) _).trans rfl)
theorem e253_1105 {x : Int32} {y : Int32} : eb_E L d 253 1105 ls (zi y :: zi x :: st) M = eb_E L d 253 1106 ls (zi (x + y) :: st) M := eb_E_s hk253 ((congrFun (congrFun (congrFun (congrFun (lk253_17 1105 (Nat.le_of_ble_eq_true rfl)) _) _) _) _).trans rfl)
theorem e253_1106 {x : Int32} : eb_E L d 253 1106 ls (zi x :: Sum.inr (some a) :: st) (nc, ns, I, J, R) = if (eb_ty L a.1).1 = 17 ∧ eb_in x (eb_ty L a.1).2 = true then eb_E L d 253 1107 ls (zi (I a x.toNatClampNeg) :: st) (nc, ns, I, J, R) else none := eb_E_iy hk253 ((congrFun (congrFun (congrFun (congrFun (lk253_17 1106 (Nat.le_of_ble_eq_true rfl)) _) _) _) _).trans rfl)
theorem e253_1107 {s0 : Int32} : eb_E L d 253 1107 ls ([a1, a0, zi s0]) M = (eb_ev L d 205 [a0, a1] M).bind (fun q => eb_E L d 253 1110 ls [q.1, zi s0] q.2) := eb_E_c hk253 ((congrFun (congrFun (congrFun (congrFun (lk253_17 1107 (Nat.le_of_ble_eq_true rfl)) _) _) _) _).trans rfl)
theorem e253_1110 {x : Int32} {y : Int32} : eb_E L d 253 1110 ls (zi y :: zi x :: st) M = if x = y then eb_E L d 253 1948 ls st M else eb_E L d 253 1113 ls st M := eb_E_b hk253 ((congrFun (congrFun (congrFun (congrFun (lk253_17 1110 (Nat.le_of_ble_eq_true rfl)) _) _) _) _).trans rfl)
theorem e253_1113  : eb_E L d 253 1113 ls (st) M = eb_E L d 253 1114 ls (zi 0 :: st) M := eb_E_s hk253 ((congrFun (congrFun (congrFun (congrFun (lk253_17 1113 (Nat.le_of_ble_eq_true rfl)) _) _) _) _).trans rfl)
theorem e253_1114 {x : Int32} : eb_E L d 253 1114 ls ([zi x]) M = if x = 0 ∨ x = 1 then some (zi x, M) else none := eb_E_ri hk253 ((congrFun (congrFun (congrFun (congrFun (lk253_17 1114 (Nat.le_of_ble_eq_true rfl)) _) _) _) _).trans rfl)
theorem e253_1115 {x : Option eb_A} : eb_E L d 253 1115 [v0, some (Sum.inr x), v2, v3] (st) M = eb_E L d 253 1116 [v0, some (Sum.inr x), v2, v3] (Sum.inr x :: st) M := eb_E_s hk253 ((congrFun (congrFun (congrFun (congrFun (lk253_17 1115 (Nat.le_of_ble_eq_true rfl)) _) _) _) _).trans rfl)
theorem e253_1116 {x : Option eb_A} : eb_E L d 253 1116 [some (Sum.inr x), v1, v2, v3] (st) M = eb_E L d 253 1117 [some (Sum.inr x), v1, v2, v3] (Sum.inr x :: st) M := eb_E_s hk253 ((congrFun (congrFun (congrFun (congrFun (lk253_17 1116 (Nat.le_of_ble_eq_true rfl)) _) _) _) _).trans rfl)
theorem e253_1117 {x : Int32} : eb_E L d 253 1117 [v0, v1, v2, some (zi x)] (st) M = eb_E L d 253 1118 [v0, v1, v2, some (zi x)] (zi x :: st) M := eb_E_s hk253 ((congrFun (congrFun (congrFun (congrFun (lk253_17 1117 (Nat.le_of_ble_eq_true rfl)) _) _) _) _).trans rfl)
theorem e253_1118  : eb_E L d 253 1118 ls (st) M = eb_E L d 253 1119 ls (zi 1 :: st) M := eb_E_s hk253 ((congrFun (congrFun (congrFun (congrFun (lk253_17 1118 (Nat.le_of_ble_eq_true rfl)) _) _) _) _).trans rfl)
theorem e253_1119 {x : Int32} {y : Int32} : eb_E L d 253 1119 ls (zi y :: zi x :: st) M = eb_E L d 253 1120 ls (zi (x + y) :: st) M := eb_E_s hk253 ((congrFun (congrFun (congrFun (congrFun (lk253_17 1119 (Nat.le_of_ble_eq_true rfl)) _) _) _) _).trans rfl)
theorem e253_1120 {x : Int32} : eb_E L d 253 1120 ls (zi x :: Sum.inr (some a) :: st) (nc, ns, I, J, R) = if (eb_ty L a.1).1 = 17 ∧ eb_in x (eb_ty L a.1).2 = true then eb_E L d 253 1121 ls (zi (I a x.toNatClampNeg) :: st) (nc, ns, I, J, R) else none := eb_E_iy hk253 ((congrFun (congrFun (congrFun (congrFun (lk253_17 1120 (Nat.le_of_ble_eq_true rfl)) _) _) _) _).trans rfl)
theorem e253_1121  : eb_E L d 253 1121 ls ([a1, a0]) M = (eb_ev L d 94 [a0, a1] M).bind (fun q => eb_E L d 253 1124 ls [q.1] q.2) := eb_E_c hk253 ((congrFun (congrFun (congrFun (congrFun (lk253_17 1121 (Nat.le_of_ble_eq_true rfl)) _) _) _) _).trans rfl)
theorem e253_1124 {x : Option eb_A} : eb_E L d 253 1124 [v0, v1, some (Sum.inr x), v3] (st) M = eb_E L d 253 1125 [v0, v1, some (Sum.inr x), v3] (Sum.inr x :: st) M := eb_E_s hk253 ((congrFun (congrFun (congrFun (congrFun (lk253_17 1124 (Nat.le_of_ble_eq_true rfl)) _) _) _) _).trans rfl)
theorem e253_1125 {x : Option eb_A} : eb_E L d 253 1125 [some (Sum.inr x), v1, v2, v3] (st) M = eb_E L d 253 1126 [some (Sum.inr x), v1, v2, v3] (Sum.inr x :: st) M := eb_E_s hk253 ((congrFun (congrFun (congrFun (congrFun (lk253_17 1125 (Nat.le_of_ble_eq_true rfl)) _) _) _) _).trans rfl)
theorem e253_1126 {x : Int32} : eb_E L d 253 1126 [v0, v1, v2, some (zi x)] (st) M = eb_E L d 253 1127 [v0, v1, v2, some (zi x)] (zi x :: st) M := eb_E_s hk253 ((congrFun (congrFun (congrFun (congrFun (lk253_17 1126 (Nat.le_of_ble_eq_true rfl)) _) _) _) _).trans rfl)
theorem e253_1127  : eb_E L d 253 1127 ls (st) M = eb_E L d 253 1128 ls (zi 1 :: st) M := eb_E_s hk253 ((congrFun (congrFun (congrFun (congrFun (lk253_17 1127 (Nat.le_of_ble_eq_true rfl)) _) _) _) _).trans rfl)
theorem e253_1128 {x : Int32} {y : Int32} : eb_E L d 253 1128 ls (zi y :: zi x :: st) M = eb_E L d 253 1129 ls (zi (x + y) :: st) M := eb_E_s hk253 ((congrFun (congrFun (congrFun (congrFun (lk253_17 1128 (Nat.le_of_ble_eq_true rfl)) _) _) _) _).trans rfl)
theorem e253_1129 {x : Int32} : eb_E L d 253 1129 ls (zi x :: Sum.inr (some a) :: st) (nc, ns, I, J, R) = if (eb_ty L a.1).1 = 17 ∧ eb_in x (eb_ty L a.1).2 = true then eb_E L d 253 1130 ls (zi (I a x.toNatClampNeg) :: st) (nc, ns, I, J, R) else none := eb_E_iy hk253 ((congrFun (congrFun (congrFun (congrFun (lk253_17 1129 (Nat.le_of_ble_eq_true rfl)) _) _) _) _).trans rfl)
theorem e253_1130 {s0 : Int32} : eb_E L d 253 1130 ls ([a1, a0, zi s0]) M = (eb_ev L d 206 [a0, a1] M).bind (fun q => eb_E L d 253 1133 ls [q.1, zi s0] q.2) := eb_E_c hk253 ((congrFun (congrFun (congrFun (congrFun (lk253_17 1130 (Nat.le_of_ble_eq_true rfl)) _) _) _) _).trans rfl)
theorem e253_1133 {x : Int32} {y : Int32} : eb_E L d 253 1133 ls (zi y :: zi x :: st) M = if x = y then eb_E L d 253 1948 ls st M else eb_E L d 253 1136 ls st M := eb_E_b hk253 ((congrFun (congrFun (congrFun (congrFun (lk253_17 1133 (Nat.le_of_ble_eq_true rfl)) _) _) _) _).trans rfl)
theorem e253_1136  : eb_E L d 253 1136 ls (st) M = eb_E L d 253 1137 ls (zi 0 :: st) M := eb_E_s hk253 ((congrFun (congrFun (congrFun (congrFun (lk253_17 1136 (Nat.le_of_ble_eq_true rfl)) _) _) _) _).trans rfl)
theorem e253_1137 {x : Int32} : eb_E L d 253 1137 ls ([zi x]) M = if x = 0 ∨ x = 1 then some (zi x, M) else none := eb_E_ri hk253 ((congrFun (congrFun (congrFun (congrFun (lk253_17 1137 (Nat.le_of_ble_eq_true rfl)) _) _) _) _).trans rfl)
theorem e253_1138 {x : Option eb_A} : eb_E L d 253 1138 [v0, some (Sum.inr x), v2, v3] (st) M = eb_E L d 253 1139 [v0, some (Sum.inr x), v2, v3] (Sum.inr x :: st) M := eb_E_s hk253 ((congrFun (congrFun (congrFun (congrFun (lk253_17 1138 (Nat.le_of_ble_eq_true rfl)) _) _) _) _).trans rfl)
theorem e253_1139 {x : Option eb_A} : eb_E L d 253 1139 [some (Sum.inr x), v1, v2, v3] (st) M = eb_E L d 253 1140 [some (Sum.inr x), v1, v2, v3] (Sum.inr x :: st) M := eb_E_s hk253 ((congrFun (congrFun (congrFun (congrFun (lk253_17 1139 (Nat.le_of_ble_eq_true rfl)) _) _) _) _).trans rfl)
theorem e253_1140 {x : Int32} : eb_E L d 253 1140 [v0, v1, v2, some (zi x)] (st) M = eb_E L d 253 1141 [v0, v1, v2, some (zi x)] (zi x :: st) M := eb_E_s hk253 ((congrFun (congrFun (congrFun (congrFun (lk253_17 1140 (Nat.le_of_ble_eq_true rfl)) _) _) _) _).trans rfl)
theorem e253_1141  : eb_E L d 253 1141 ls (st) M = eb_E L d 253 1142 ls (zi 1 :: st) M := eb_E_s hk253 ((congrFun (congrFun (congrFun (congrFun (lk253_17 1141 (Nat.le_of_ble_eq_true rfl)) _) _) _) _).trans rfl)
theorem e253_1142 {x : Int32} {y : Int32} : eb_E L d 253 1142 ls (zi y :: zi x :: st) M = eb_E L d 253 1143 ls (zi (x + y) :: st) M := eb_E_s hk253 ((congrFun (congrFun (congrFun (congrFun (lk253_18 1142 (Nat.le_of_ble_eq_true rfl)) _) _) _) _).trans rfl)
theorem e253_1143 {x : Int32} : eb_E L d 253 1143 ls (zi x :: Sum.inr (some a) :: st) (nc, ns, I, J, R) = if (eb_ty L a.1).1 = 17 ∧ eb_in x (eb_ty L a.1).2 = true then eb_E L d 253 1144 ls (zi (I a x.toNatClampNeg) :: st) (nc, ns, I, J, R) else none := eb_E_iy hk253 ((congrFun (congrFun (congrFun (congrFun (lk253_18 1143 (Nat.le_of_ble_eq_true rfl)) _) _) _) _).trans rfl)
theorem e253_1144  : eb_E L d 253 1144 ls ([a1, a0]) M = (eb_ev L d 95 [a0, a1] M).bind (fun q => eb_E L d 253 1147 ls [q.1] q.2) := eb_E_c hk253 ((congrFun (congrFun (congrFun (congrFun (lk253_18 1144 (Nat.le_of_ble_eq_true rfl)) _) _) _) _).trans rfl)
theorem e253_1147 {x : Option eb_A} : eb_E L d 253 1147 [v0, v1, some (Sum.inr x), v3] (st) M = eb_E L d 253 1148 [v0, v1, some (Sum.inr x), v3] (Sum.inr x :: st) M := eb_E_s hk253 ((congrFun (congrFun (congrFun (congrFun (lk253_18 1147 (Nat.le_of_ble_eq_true rfl)) _) _) _) _).trans rfl)
theorem e253_1148 {x : Option eb_A} : eb_E L d 253 1148 [some (Sum.inr x), v1, v2, v3] (st) M = eb_E L d 253 1149 [some (Sum.inr x), v1, v2, v3] (Sum.inr x :: st) M := eb_E_s hk253 ((congrFun (congrFun (congrFun (congrFun (lk253_18 1148 (Nat.le_of_ble_eq_true rfl)) _) _) _) _).trans rfl)
theorem e253_1149 {x : Int32} : eb_E L d 253 1149 [v0, v1, v2, some (zi x)] (st) M = eb_E L d 253 1150 [v0, v1, v2, some (zi x)] (zi x :: st) M := eb_E_s hk253 ((congrFun (congrFun (congrFun (congrFun (lk253_18 1149 (Nat.le_of_ble_eq_true rfl)) _) _) _) _).trans rfl)
theorem e253_1150  : eb_E L d 253 1150 ls (st) M = eb_E L d 253 1151 ls (zi 1 :: st) M := eb_E_s hk253 ((congrFun (congrFun (congrFun (congrFun (lk253_18 1150 (Nat.le_of_ble_eq_true rfl)) _) _) _) _).trans rfl)
theorem e253_1151 {x : Int32} {y : Int32} : eb_E L d 253 1151 ls (zi y :: zi x :: st) M = eb_E L d 253 1152 ls (zi (x + y) :: st) M := eb_E_s hk253 ((congrFun (congrFun (congrFun (congrFun (lk253_18 1151 (Nat.le_of_ble_eq_true rfl)) _) _) _) _).trans rfl)
theorem e253_1152 {x : Int32} : eb_E L d 253 1152 ls (zi x :: Sum.inr (some a) :: st) (nc, ns, I, J, R) = if (eb_ty L a.1).1 = 17 ∧ eb_in x (eb_ty L a.1).2 = true then eb_E L d 253 1153 ls (zi (I a x.toNatClampNeg) :: st) (nc, ns, I, J, R) else none := eb_E_iy hk253 ((congrFun (congrFun (congrFun (congrFun (lk253_18 1152 (Nat.le_of_ble_eq_true rfl)) _) _) _) _).trans rfl)
theorem e253_1153 {s0 : Int32} : eb_E L d 253 1153 ls ([a1, a0, zi s0]) M = (eb_ev L d 208 [a0, a1] M).bind (fun q => eb_E L d 253 1156 ls [q.1, zi s0] q.2) := eb_E_c hk253 ((congrFun (congrFun (congrFun (congrFun (lk253_18 1153 (Nat.le_of_ble_eq_true rfl)) _) _) _) _).trans rfl)
theorem e253_1156 {x : Int32} {y : Int32} : eb_E L d 253 1156 ls (zi y :: zi x :: st) M = if x = y then eb_E L d 253 1948 ls st M else eb_E L d 253 1159 ls st M := eb_E_b hk253 ((congrFun (congrFun (congrFun (congrFun (lk253_18 1156 (Nat.le_of_ble_eq_true rfl)) _) _) _) _).trans rfl)
theorem e253_1159  : eb_E L d 253 1159 ls (st) M = eb_E L d 253 1160 ls (zi 0 :: st) M := eb_E_s hk253 ((congrFun (congrFun (congrFun (congrFun (lk253_18 1159 (Nat.le_of_ble_eq_true rfl)) _) _) _) _).trans rfl)
theorem e253_1160 {x : Int32} : eb_E L d 253 1160 ls ([zi x]) M = if x = 0 ∨ x = 1 then some (zi x, M) else none := eb_E_ri hk253 ((congrFun (congrFun (congrFun (congrFun (lk253_18 1160 (Nat.le_of_ble_eq_true rfl)) _) _) _) _).trans rfl)
theorem e253_1161 {x : Option eb_A} : eb_E L d 253 1161 [v0, some (Sum.inr x), v2, v3] (st) M = eb_E L d 253 1162 [v0, some (Sum.inr x), v2, v3] (Sum.inr x :: st) M := eb_E_s hk253 ((congrFun (congrFun (congrFun (congrFun (lk253_18 1161 (Nat.le_of_ble_eq_true rfl)) _) _) _) _).trans rfl)
theorem e253_1162 {x : Option eb_A} : eb_E L d 253 1162 [some (Sum.inr x), v1, v2, v3] (st) M = eb_E L d 253 1163 [some (Sum.inr x), v1, v2, v3] (Sum.inr x :: st) M := eb_E_s hk253 ((congrFun (congrFun (congrFun (congrFun (lk253_18 1162 (Nat.le_of_ble_eq_true rfl)) _) _) _) _).trans rfl)
theorem e253_1163 {x : Int32} : eb_E L d 253 1163 [v0, v1, v2, some (zi x)] (st) M = eb_E L d 253 1164 [v0, v1, v2, some (zi x)] (zi x :: st) M := eb_E_s hk253 ((congrFun (congrFun (congrFun (congrFun (lk253_18 1163 (Nat.le_of_ble_eq_true rfl)) _) _) _) _).trans rfl)
theorem e253_1164  : eb_E L d 253 1164 ls (st) M = eb_E L d 253 1165 ls (zi 1 :: st) M := eb_E_s hk253 ((congrFun (congrFun (congrFun (congrFun (lk253_18 1164 (Nat.le_of_ble_eq_true rfl)) _) _) _) _).trans rfl)
theorem e253_1165 {x : Int32} {y : Int32} : eb_E L d 253 1165 ls (zi y :: zi x :: st) M = eb_E L d 253 1166 ls (zi (x + y) :: st) M := eb_E_s hk253 ((congrFun (congrFun (congrFun (congrFun (lk253_18 1165 (Nat.le_of_ble_eq_true rfl)) _) _) _) _).trans rfl)
theorem e253_1166 {x : Int32} : eb_E L d 253 1166 ls (zi x :: Sum.inr (some a) :: st) (nc, ns, I, J, R) = if (eb_ty L a.1).1 = 17 ∧ eb_in x (eb_ty L a.1).2 = true then eb_E L d 253 1167 ls (zi (I a x.toNatClampNeg) :: st) (nc, ns, I, J, R) else none := eb_E_iy hk253 ((congrFun (congrFun (congrFun (congrFun (lk253_18 1166 (Nat.le_of_ble_eq_true rfl)) _) _) _) _).trans rfl)
theorem e253_1167  : eb_E L d 253 1167 ls ([a1, a0]) M = (eb_ev L d 96 [a0, a1] M).bind (fun q => eb_E L d 253 1170 ls [q.1] q.2) := eb_E_c hk253 ((congrFun (congrFun (congrFun (congrFun (lk253_18 1167 (Nat.le_of_ble_eq_true rfl)) _) _) _) _).trans rfl)
theorem e253_1170 {x : Option eb_A} : eb_E L d 253 1170 [v0, v1, some (Sum.inr x), v3] (st) M = eb_E L d 253 1171 [v0, v1, some (Sum.inr x), v3] (Sum.inr x :: st) M := eb_E_s hk253 ((congrFun (congrFun (congrFun (congrFun (lk253_18 1170 (Nat.le_of_ble_eq_true rfl)) _) _) _) _).trans rfl)
theorem e253_1171 {x : Option eb_A} : eb_E L d 253 1171 [some (Sum.inr x), v1, v2, v3] (st) M = eb_E L d 253 1172 [some (Sum.inr x), v1, v2, v3] (Sum.inr x :: st) M := eb_E_s hk253 ((congrFun (congrFun (congrFun (congrFun (lk253_18 1171 (Nat.le_of_ble_eq_true rfl)) _) _) _) _).trans rfl)
theorem e253_1172 {x : Int32} : eb_E L d 253 1172 [v0, v1, v2, some (zi x)] (st) M = eb_E L d 253 1173 [v0, v1, v2, some (zi x)] (zi x :: st) M := eb_E_s hk253 ((congrFun (congrFun (congrFun (congrFun (lk253_18 1172 (Nat.le_of_ble_eq_true rfl)) _) _) _) _).trans rfl)
theorem e253_1173  : eb_E L d 253 1173 ls (st) M = eb_E L d 253 1174 ls (zi 1 :: st) M := eb_E_s hk253 ((congrFun (congrFun (congrFun (congrFun (lk253_18 1173 (Nat.le_of_ble_eq_true rfl)) _) _) _) _).trans rfl)
theorem e253_1174 {x : Int32} {y : Int32} : eb_E L d 253 1174 ls (zi y :: zi x :: st) M = eb_E L d 253 1175 ls (zi (x + y) :: st) M := eb_E_s hk253 ((congrFun (congrFun (congrFun (congrFun (lk253_18 1174 (Nat.le_of_ble_eq_true rfl)) _) _) _) _).trans rfl)
theorem e253_1175 {x : Int32} : eb_E L d 253 1175 ls (zi x :: Sum.inr (some a) :: st) (nc, ns, I, J, R) = if (eb_ty L a.1).1 = 17 ∧ eb_in x (eb_ty L a.1).2 = true then eb_E L d 253 1176 ls (zi (I a x.toNatClampNeg) :: st) (nc, ns, I, J, R) else none := eb_E_iy hk253 ((congrFun (congrFun (congrFun (congrFun (lk253_18 1175 (Nat.le_of_ble_eq_true rfl)) _) _) _) _).trans rfl)
theorem e253_1176 {s0 : Int32} : eb_E L d 253 1176 ls ([a1, a0, zi s0]) M = (eb_ev L d 209 [a0, a1] M).bind (fun q => eb_E L d 253 1179 ls [q.1, zi s0] q.2) := eb_E_c hk253 ((congrFun (congrFun (congrFun (congrFun (lk253_18 1176 (Nat.le_of_ble_eq_true rfl)) _) _) _) _).trans rfl)
theorem e253_1179 {x : Int32} {y : Int32} : eb_E L d 253 1179 ls (zi y :: zi x :: st) M = if x = y then eb_E L d 253 1948 ls st M else eb_E L d 253 1182 ls st M := eb_E_b hk253 ((congrFun (congrFun (congrFun (congrFun (lk253_18 1179 (Nat.le_of_ble_eq_true rfl)) _) _) _) _).trans rfl)
theorem e253_1182  : eb_E L d 253 1182 ls (st) M = eb_E L d 253 1183 ls (zi 0 :: st) M := eb_E_s hk253 ((congrFun (congrFun (congrFun (congrFun (lk253_18 1182 (Nat.le_of_ble_eq_true rfl)) _) _) _) _).trans rfl)
theorem e253_1183 {x : Int32} : eb_E L d 253 1183 ls ([zi x]) M = if x = 0 ∨ x = 1 then some (zi x, M) else none := eb_E_ri hk253 ((congrFun (congrFun (congrFun (congrFun (lk253_18 1183 (Nat.le_of_ble_eq_true rfl)) _) _) _) _).trans rfl)
theorem e253_1184 {x : Option eb_A} : eb_E L d 253 1184 [v0, some (Sum.inr x), v2, v3] (st) M = eb_E L d 253 1185 [v0, some (Sum.inr x), v2, v3] (Sum.inr x :: st) M := eb_E_s hk253 ((congrFun (congrFun (congrFun (congrFun (lk253_18 1184 (Nat.le_of_ble_eq_true rfl)) _) _) _) _).trans rfl)
theorem e253_1185  : eb_E L d 253 1185 ls ([a0]) M = (eb_ev L d 97 [a0] M).bind (fun q => eb_E L d 253 1188 ls [q.1] q.2) := eb_E_c hk253 ((congrFun (congrFun (congrFun (congrFun (lk253_18 1185 (Nat.le_of_ble_eq_true rfl)) _) _) _) _).trans rfl)
theorem e253_1188 {x : Option eb_A} : eb_E L d 253 1188 [v0, v1, some (Sum.inr x), v3] (st) M = eb_E L d 253 1189 [v0, v1, some (Sum.inr x), v3] (Sum.inr x :: st) M := eb_E_s hk253 ((congrFun (congrFun (congrFun (congrFun (lk253_18 1188 (Nat.le_of_ble_eq_true rfl)) _) _) _) _).trans rfl)
theorem e253_1189 {s0 : Int32} : eb_E L d 253 1189 ls ([a0, zi s0]) M = (eb_ev L d 211 [a0] M).bind (fun q => eb_E L d 253 1192 ls [q.1, zi s0] q.2) := eb_E_c hk253 ((congrFun (congrFun (congrFun (congrFun (lk253_18 1189 (Nat.le_of_ble_eq_true rfl)) _) _) _) _).trans rfl)
theorem e253_1192 {x : Int32} {y : Int32} : eb_E L d 253 1192 ls (zi y :: zi x :: st) M = if x = y then eb_E L d 253 1948 ls st M else eb_E L d 253 1195 ls st M := eb_E_b hk253 ((congrFun (congrFun (congrFun (congrFun (lk253_18 1192 (Nat.le_of_ble_eq_true rfl)) _) _) _) _).trans rfl)
theorem e253_1195  : eb_E L d 253 1195 ls (st) M = eb_E L d 253 1196 ls (zi 0 :: st) M := eb_E_s hk253 ((congrFun (congrFun (congrFun (congrFun (lk253_18 1195 (Nat.le_of_ble_eq_true rfl)) _) _) _) _).trans rfl)
theorem e253_1196 {x : Int32} : eb_E L d 253 1196 ls ([zi x]) M = if x = 0 ∨ x = 1 then some (zi x, M) else none := eb_E_ri hk253 ((congrFun (congrFun (congrFun (congrFun (lk253_18 1196 (Nat.le_of_ble_eq_true rfl)) _) _) _) _).trans rfl)
theorem e253_1197 {x : Option eb_A} : eb_E L d 253 1197 [v0, some (Sum.inr x), v2, v3] (st) M = eb_E L d 253 1198 [v0, some (Sum.inr x), v2, v3] (Sum.inr x :: st) M := eb_E_s hk253 ((congrFun (congrFun (congrFun (congrFun (lk253_18 1197 (Nat.le_of_ble_eq_true rfl)) _) _) _) _).trans rfl)
theorem e253_1198  : eb_E L d 253 1198 ls ([a0]) M = (eb_ev L d 98 [a0] M).bind (fun q => eb_E L d 253 1201 ls [q.1] q.2) := eb_E_c hk253 ((congrFun (congrFun (congrFun (congrFun (lk253_18 1198 (Nat.le_of_ble_eq_true rfl)) _) _) _) _).trans rfl)
theorem e253_1201 {x : Option eb_A} : eb_E L d 253 1201 [v0, v1, some (Sum.inr x), v3] (st) M = eb_E L d 253 1202 [v0, v1, some (Sum.inr x), v3] (Sum.inr x :: st) M := eb_E_s hk253 ((congrFun (congrFun (congrFun (congrFun (lk253_18 1201 (Nat.le_of_ble_eq_true rfl)) _) _) _) _).trans rfl)
theorem e253_1202 {s0 : Int32} : eb_E L d 253 1202 ls ([a0, zi s0]) M = (eb_ev L d 213 [a0] M).bind (fun q => eb_E L d 253 1205 ls [q.1, zi s0] q.2) := eb_E_c hk253 ((congrFun (congrFun (congrFun (congrFun (lk253_19 1202 (Nat.le_of_ble_eq_true rfl)) _) _) _) _).trans rfl)
theorem e253_1205 {x : Int32} {y : Int32} : eb_E L d 253 1205 ls (zi y :: zi x :: st) M = if x = y then eb_E L d 253 1948 ls st M else eb_E L d 253 1208 ls st M := eb_E_b hk253 ((congrFun (congrFun (congrFun (congrFun (lk253_19 1205 (Nat.le_of_ble_eq_true rfl)) _) _) _) _).trans rfl)
theorem e253_1208  : eb_E L d 253 1208 ls (st) M = eb_E L d 253 1209 ls (zi 0 :: st) M := eb_E_s hk253 ((congrFun (congrFun (congrFun (congrFun (lk253_19 1208 (Nat.le_of_ble_eq_true rfl)) _) _) _) _).trans rfl)
theorem e253_1209 {x : Int32} : eb_E L d 253 1209 ls ([zi x]) M = if x = 0 ∨ x = 1 then some (zi x, M) else none := eb_E_ri hk253 ((congrFun (congrFun (congrFun (congrFun (lk253_19 1209 (Nat.le_of_ble_eq_true rfl)) _) _) _) _).trans rfl)
theorem e253_1210 {x : Option eb_A} : eb_E L d 253 1210 [v0, some (Sum.inr x), v2, v3] (st) M = eb_E L d 253 1211 [v0, some (Sum.inr x), v2, v3] (Sum.inr x :: st) M := eb_E_s hk253 ((congrFun (congrFun (congrFun (congrFun (lk253_19 1210 (Nat.le_of_ble_eq_true rfl)) _) _) _) _).trans rfl)
theorem e253_1211 {x : Option eb_A} : eb_E L d 253 1211 [some (Sum.inr x), v1, v2, v3] (st) M = eb_E L d 253 1212 [some (Sum.inr x), v1, v2, v3] (Sum.inr x :: st) M := eb_E_s hk253 ((congrFun (congrFun (congrFun (congrFun (lk253_19 1211 (Nat.le_of_ble_eq_true rfl)) _) _) _) _).trans rfl)
theorem e253_1212 {x : Int32} : eb_E L d 253 1212 [v0, v1, v2, some (zi x)] (st) M = eb_E L d 253 1213 [v0, v1, v2, some (zi x)] (zi x :: st) M := eb_E_s hk253 ((congrFun (congrFun (congrFun (congrFun (lk253_19 1212 (Nat.le_of_ble_eq_true rfl)) _) _) _) _).trans rfl)
theorem e253_1213  : eb_E L d 253 1213 ls (st) M = eb_E L d 253 1214 ls (zi 1 :: st) M := eb_E_s hk253 ((congrFun (congrFun (congrFun (congrFun (lk253_19 1213 (Nat.le_of_ble_eq_true rfl)) _) _) _) _).trans rfl)
theorem e253_1214 {x : Int32} {y : Int32} : eb_E L d 253 1214 ls (zi y :: zi x :: st) M = eb_E L d 253 1215 ls (zi (x + y) :: st) M := eb_E_s hk253 ((congrFun (congrFun (congrFun (congrFun (lk253_19 1214 (Nat.le_of_ble_eq_true rfl)) _) _) _) _).trans rfl)
theorem e253_1215 {x : Int32} : eb_E L d 253 1215 ls (zi x :: Sum.inr (some a) :: st) (nc, ns, I, J, R) = if (eb_ty L a.1).1 = 17 ∧ eb_in x (eb_ty L a.1).2 = true then eb_E L d 253 1216 ls (zi (I a x.toNatClampNeg) :: st) (nc, ns, I, J, R) else none := eb_E_iy hk253 ((congrFun (congrFun (congrFun (congrFun (lk253_19 1215 (Nat.le_of_ble_eq_true rfl)) _) _) _) _).trans rfl)
theorem e253_1216  : eb_E L d 253 1216 ls ([a1, a0]) M = (eb_ev L d 99 [a0, a1] M).bind (fun q => eb_E L d 253 1219 ls [q.1] q.2) := eb_E_c hk253 ((congrFun (congrFun (congrFun (congrFun (lk253_19 1216 (Nat.le_of_ble_eq_true rfl)) _) _) _) _).trans rfl)
theorem e253_1219 {x : Option eb_A} : eb_E L d 253 1219 [v0, v1, some (Sum.inr x), v3] (st) M = eb_E L d 253 1220 [v0, v1, some (Sum.inr x), v3] (Sum.inr x :: st) M := eb_E_s hk253 ((congrFun (congrFun (congrFun (congrFun (lk253_19 1219 (Nat.le_of_ble_eq_true rfl)) _) _) _) _).trans rfl)
theorem e253_1220 {x : Option eb_A} : eb_E L d 253 1220 [some (Sum.inr x), v1, v2, v3] (st) M = eb_E L d 253 1221 [some (Sum.inr x), v1, v2, v3] (Sum.inr x :: st) M := eb_E_s hk253 ((congrFun (congrFun (congrFun (congrFun (lk253_19 1220 (Nat.le_of_ble_eq_true rfl)) _) _) _) _).trans rfl)
theorem e253_1221 {x : Int32} : eb_E L d 253 1221 [v0, v1, v2, some (zi x)] (st) M = eb_E L d 253 1222 [v0, v1, v2, some (zi x)] (zi x :: st) M := eb_E_s hk253 ((congrFun (congrFun (congrFun (congrFun (lk253_19 1221 (Nat.le_of_ble_eq_true rfl)) _) _) _) _).trans rfl)
theorem e253_1222  : eb_E L d 253 1222 ls (st) M = eb_E L d 253 1223 ls (zi 1 :: st) M := eb_E_s hk253 ((congrFun (congrFun (congrFun (congrFun (lk253_19 1222 (Nat.le_of_ble_eq_true rfl)) _) _) _) _).trans rfl)
theorem e253_1223 {x : Int32} {y : Int32} : eb_E L d 253 1223 ls (zi y :: zi x :: st) M = eb_E L d 253 1224 ls (zi (x + y) :: st) M := eb_E_s hk253 ((congrFun (congrFun (congrFun (congrFun (lk253_19 1223 (Nat.le_of_ble_eq_true rfl)) _) _) _) _).trans rfl)
theorem e253_1224 {x : Int32} : eb_E L d 253 1224 ls (zi x :: Sum.inr (some a) :: st) (nc, ns, I, J, R) = if (eb_ty L a.1).1 = 17 ∧ eb_in x (eb_ty L a.1).2 = true then eb_E L d 253 1225 ls (zi (I a x.toNatClampNeg) :: st) (nc, ns, I, J, R) else none := eb_E_iy hk253 ((congrFun (congrFun (congrFun (congrFun (lk253_19 1224 (Nat.le_of_ble_eq_true rfl)) _) _) _) _).trans rfl)
theorem e253_1225 {s0 : Int32} : eb_E L d 253 1225 ls ([a1, a0, zi s0]) M = (eb_ev L d 214 [a0, a1] M).bind (fun q => eb_E L d 253 1228 ls [q.1, zi s0] q.2) := eb_E_c hk253 ((congrFun (congrFun (congrFun (congrFun (lk253_19 1225 (Nat.le_of_ble_eq_true rfl)) _) _) _) _).trans rfl)
theorem e253_1228 {x : Int32} {y : Int32} : eb_E L d 253 1228 ls (zi y :: zi x :: st) M = if x = y then eb_E L d 253 1948 ls st M else eb_E L d 253 1231 ls st M := eb_E_b hk253 ((congrFun (congrFun (congrFun (congrFun (lk253_19 1228 (Nat.le_of_ble_eq_true rfl)) _) _) _) _).trans rfl)
theorem e253_1231  : eb_E L d 253 1231 ls (st) M = eb_E L d 253 1232 ls (zi 0 :: st) M := eb_E_s hk253 ((congrFun (congrFun (congrFun (congrFun (lk253_19 1231 (Nat.le_of_ble_eq_true rfl)) _) _) _) _).trans rfl)
theorem e253_1232 {x : Int32} : eb_E L d 253 1232 ls ([zi x]) M = if x = 0 ∨ x = 1 then some (zi x, M) else none := eb_E_ri hk253 ((congrFun (congrFun (congrFun (congrFun (lk253_19 1232 (Nat.le_of_ble_eq_true rfl)) _) _) _) _).trans rfl)
theorem e253_1233 {x : Option eb_A} : eb_E L d 253 1233 [v0, some (Sum.inr x), v2, v3] (st) M = eb_E L d 253 1234 [v0, some (Sum.inr x), v2, v3] (Sum.inr x :: st) M := eb_E_s hk253 ((congrFun (congrFun (congrFun (congrFun (lk253_19 1233 (Nat.le_of_ble_eq_true rfl)) _) _) _) _).trans rfl)
theorem e253_1234 {x : Option eb_A} : eb_E L d 253 1234 [some (Sum.inr x), v1, v2, v3] (st) M = eb_E L d 253 1235 [some (Sum.inr x), v1, v2, v3] (Sum.inr x :: st) M := eb_E_s hk253 ((congrFun (congrFun (congrFun (congrFun (lk253_19 1234 (Nat.le_of_ble_eq_true rfl)) _) _) _) _).trans rfl)
theorem e253_1235 {x : Int32} : eb_E L d 253 1235 [v0, v1, v2, some (zi x)] (st) M = eb_E L d 253 1236 [v0, v1, v2, some (zi x)] (zi x :: st) M := eb_E_s hk253 ((congrFun (congrFun (congrFun (congrFun (lk253_19 1235 (Nat.le_of_ble_eq_true rfl)) _) _) _) _).trans rfl)
theorem e253_1236  : eb_E L d 253 1236 ls (st) M = eb_E L d 253 1237 ls (zi 1 :: st) M := eb_E_s hk253 ((congrFun (congrFun (congrFun (congrFun (lk253_19 1236 (Nat.le_of_ble_eq_true rfl)) _) _) _) _).trans rfl)
theorem e253_1237 {x : Int32} {y : Int32} : eb_E L d 253 1237 ls (zi y :: zi x :: st) M = eb_E L d 253 1238 ls (zi (x + y) :: st) M := eb_E_s hk253 ((congrFun (congrFun (congrFun (congrFun (lk253_19 1237 (Nat.le_of_ble_eq_true rfl)) _) _) _) _).trans rfl)
theorem e253_1238 {x : Int32} : eb_E L d 253 1238 ls (zi x :: Sum.inr (some a) :: st) (nc, ns, I, J, R) = if (eb_ty L a.1).1 = 17 ∧ eb_in x (eb_ty L a.1).2 = true then eb_E L d 253 1239 ls (zi (I a x.toNatClampNeg) :: st) (nc, ns, I, J, R) else none := eb_E_iy hk253 ((congrFun (congrFun (congrFun (congrFun (lk253_19 1238 (Nat.le_of_ble_eq_true rfl)) _) _) _) _).trans rfl)
theorem e253_1239  : eb_E L d 253 1239 ls ([a1, a0]) M = (eb_ev L d 100 [a0, a1] M).bind (fun q => eb_E L d 253 1242 ls [q.1] q.2) := eb_E_c hk253 ((congrFun (congrFun (congrFun (congrFun (lk253_19 1239 (Nat.le_of_ble_eq_true rfl)) _) _) _) _).trans rfl)
theorem e253_1242 {x : Option eb_A} : eb_E L d 253 1242 [v0, v1, some (Sum.inr x), v3] (st) M = eb_E L d 253 1243 [v0, v1, some (Sum.inr x), v3] (Sum.inr x :: st) M := eb_E_s hk253 ((congrFun (congrFun (congrFun (congrFun (lk253_19 1242 (Nat.le_of_ble_eq_true rfl)) _) _) _) _).trans rfl)
theorem e253_1243 {x : Option eb_A} : eb_E L d 253 1243 [some (Sum.inr x), v1, v2, v3] (st) M = eb_E L d 253 1244 [some (Sum.inr x), v1, v2, v3] (Sum.inr x :: st) M := eb_E_s hk253 ((congrFun (congrFun (congrFun (congrFun (lk253_19 1243 (Nat.le_of_ble_eq_true rfl)) _) _) _) _).trans rfl)
theorem e253_1244 {x : Int32} : eb_E L d 253 1244 [v0, v1, v2, some (zi x)] (st) M = eb_E L d 253 1245 [v0, v1, v2, some (zi x)] (zi x :: st) M := eb_E_s hk253 ((congrFun (congrFun (congrFun (congrFun (lk253_19 1244 (Nat.le_of_ble_eq_true rfl)) _) _) _) _).trans rfl)
theorem e253_1245  : eb_E L d 253 1245 ls (st) M = eb_E L d 253 1246 ls (zi 1 :: st) M := eb_E_s hk253 ((congrFun (congrFun (congrFun (congrFun (lk253_19 1245 (Nat.le_of_ble_eq_true rfl)) _) _) _) _).trans rfl)
theorem e253_1246 {x : Int32} {y : Int32} : eb_E L d 253 1246 ls (zi y :: zi x :: st) M = eb_E L d 253 1247 ls (zi (x + y) :: st) M := eb_E_s hk253 ((congrFun (congrFun (congrFun (congrFun (lk253_19 1246 (Nat.le_of_ble_eq_true rfl)) _) _) _) _).trans rfl)
theorem e253_1247 {x : Int32} : eb_E L d 253 1247 ls (zi x :: Sum.inr (some a) :: st) (nc, ns, I, J, R) = if (eb_ty L a.1).1 = 17 ∧ eb_in x (eb_ty L a.1).2 = true then eb_E L d 253 1248 ls (zi (I a x.toNatClampNeg) :: st) (nc, ns, I, J, R) else none := eb_E_iy hk253 ((congrFun (congrFun (congrFun (congrFun (lk253_19 1247 (Nat.le_of_ble_eq_true rfl)) _) _) _) _).trans rfl)
theorem e253_1248 {s0 : Int32} : eb_E L d 253 1248 ls ([a1, a0, zi s0]) M = (eb_ev L d 215 [a0, a1] M).bind (fun q => eb_E L d 253 1251 ls [q.1, zi s0] q.2) := eb_E_c hk253 ((congrFun (congrFun (congrFun (congrFun (lk253_19 1248 (Nat.le_of_ble_eq_true rfl)) _) _) _) _).trans rfl)
theorem e253_1251 {x : Int32} {y : Int32} : eb_E L d 253 1251 ls (zi y :: zi x :: st) M = if x = y then eb_E L d 253 1948 ls st M else eb_E L d 253 1254 ls st M := eb_E_b hk253 ((congrFun (congrFun (congrFun (congrFun (lk253_19 1251 (Nat.le_of_ble_eq_true rfl)) _) _) _) _).trans rfl)
theorem e253_1254  : eb_E L d 253 1254 ls (st) M = eb_E L d 253 1255 ls (zi 0 :: st) M := eb_E_s hk253 ((congrFun (congrFun (congrFun (congrFun (lk253_19 1254 (Nat.le_of_ble_eq_true rfl)) _) _) _) _).trans rfl)
theorem e253_1255 {x : Int32} : eb_E L d 253 1255 ls ([zi x]) M = if x = 0 ∨ x = 1 then some (zi x, M) else none := eb_E_ri hk253 ((congrFun (congrFun (congrFun (congrFun (lk253_19 1255 (Nat.le_of_ble_eq_true rfl)) _) _) _) _).trans rfl)
theorem e253_1256 {x : Option eb_A} : eb_E L d 253 1256 [v0, some (Sum.inr x), v2, v3] (st) M = eb_E L d 253 1257 [v0, some (Sum.inr x), v2, v3] (Sum.inr x :: st) M := eb_E_s hk253 ((congrFun (congrFun (congrFun (congrFun (lk253_19 1256 (Nat.le_of_ble_eq_true rfl)) _) _) _) _).trans rfl)
theorem e253_1257 {x : Option eb_A} : eb_E L d 253 1257 [some (Sum.inr x), v1, v2, v3] (st) M = eb_E L d 253 1258 [some (Sum.inr x), v1, v2, v3] (Sum.inr x :: st) M := eb_E_s hk253 ((congrFun (congrFun (congrFun (congrFun (lk253_19 1257 (Nat.le_of_ble_eq_true rfl)) _) _) _) _).trans rfl)
theorem e253_1258 {x : Int32} : eb_E L d 253 1258 [v0, v1, v2, some (zi x)] (st) M = eb_E L d 253 1259 [v0, v1, v2, some (zi x)] (zi x :: st) M := eb_E_s hk253 ((congrFun (congrFun (congrFun (congrFun (lk253_20 1258 (Nat.le_of_ble_eq_true rfl)) _) _) _) _).trans rfl)
theorem e253_1259  : eb_E L d 253 1259 ls (st) M = eb_E L d 253 1260 ls (zi 1 :: st) M := eb_E_s hk253 ((congrFun (congrFun (congrFun (congrFun (lk253_20 1259 (Nat.le_of_ble_eq_true rfl)) _) _) _) _).trans rfl)
theorem e253_1260 {x : Int32} {y : Int32} : eb_E L d 253 1260 ls (zi y :: zi x :: st) M = eb_E L d 253 1261 ls (zi (x + y) :: st) M := eb_E_s hk253 ((congrFun (congrFun (congrFun (congrFun (lk253_20 1260 (Nat.le_of_ble_eq_true rfl)) _) _) _) _).trans rfl)
theorem e253_1261 {x : Int32} : eb_E L d 253 1261 ls (zi x :: Sum.inr (some a) :: st) (nc, ns, I, J, R) = if (eb_ty L a.1).1 = 17 ∧ eb_in x (eb_ty L a.1).2 = true then eb_E L d 253 1262 ls (zi (I a x.toNatClampNeg) :: st) (nc, ns, I, J, R) else none := eb_E_iy hk253 ((congrFun (congrFun (congrFun (congrFun (lk253_20 1261 (Nat.le_of_ble_eq_true rfl)) _) _) _) _).trans rfl)
theorem e253_1262  : eb_E L d 253 1262 ls ([a1, a0]) M = (eb_ev L d 101 [a0, a1] M).bind (fun q => eb_E L d 253 1265 ls [q.1] q.2) := eb_E_c hk253 ((congrFun (congrFun (congrFun (congrFun (lk253_20 1262 (Nat.le_of_ble_eq_true rfl)) _) _) _) _).trans rfl)
theorem e253_1265 {x : Option eb_A} : eb_E L d 253 1265 [v0, v1, some (Sum.inr x), v3] (st) M = eb_E L d 253 1266 [v0, v1, some (Sum.inr x), v3] (Sum.inr x :: st) M := eb_E_s hk253 ((congrFun (congrFun (congrFun (congrFun (lk253_20 1265 (Nat.le_of_ble_eq_true rfl)) _) _) _) _).trans rfl)
theorem e253_1266 {x : Option eb_A} : eb_E L d 253 1266 [some (Sum.inr x), v1, v2, v3] (st) M = eb_E L d 253 1267 [some (Sum.inr x), v1, v2, v3] (Sum.inr x :: st) M := eb_E_s hk253 ((congrFun (congrFun (congrFun (congrFun (lk253_20 1266 (Nat.le_of_ble_eq_true rfl)) _) _) _) _).trans rfl)
theorem e253_1267 {x : Int32} : eb_E L d 253 1267 [v0, v1, v2, some (zi x)] (st) M = eb_E L d 253 1268 [v0, v1, v2, some (zi x)] (zi x :: st) M := eb_E_s hk253 ((congrFun (congrFun (congrFun (congrFun (lk253_20 1267 (Nat.le_of_ble_eq_true rfl)) _) _) _) _).trans rfl)
theorem e253_1268  : eb_E L d 253 1268 ls (st) M = eb_E L d 253 1269 ls (zi 1 :: st) M := eb_E_s hk253 ((congrFun (congrFun (congrFun (congrFun (lk253_20 1268 (Nat.le_of_ble_eq_true rfl)) _) _) _) _).trans rfl)
theorem e253_1269 {x : Int32} {y : Int32} : eb_E L d 253 1269 ls (zi y :: zi x :: st) M = eb_E L d 253 1270 ls (zi (x + y) :: st) M := eb_E_s hk253 ((congrFun (congrFun (congrFun (congrFun (lk253_20 1269 (Nat.le_of_ble_eq_true rfl)) _) _) _) _).trans rfl)
theorem e253_1270 {x : Int32} : eb_E L d 253 1270 ls (zi x :: Sum.inr (some a) :: st) (nc, ns, I, J, R) = if (eb_ty L a.1).1 = 17 ∧ eb_in x (eb_ty L a.1).2 = true then eb_E L d 253 1271 ls (zi (I a x.toNatClampNeg) :: st) (nc, ns, I, J, R) else none := eb_E_iy hk253 ((congrFun (congrFun (congrFun (congrFun (lk253_20 1270 (Nat.le_of_ble_eq_true rfl)) _) _) _) _).trans rfl)
theorem e253_1271 {s0 : Int32} : eb_E L d 253 1271 ls ([a1, a0, zi s0]) M = (eb_ev L d 217 [a0, a1] M).bind (fun q => eb_E L d 253 1274 ls [q.1, zi s0] q.2) := eb_E_c hk253 ((congrFun (congrFun (congrFun (congrFun (lk253_20 1271 (Nat.le_of_ble_eq_true rfl)) _) _) _) _).trans rfl)
theorem e253_1274 {x : Int32} {y : Int32} : eb_E L d 253 1274 ls (zi y :: zi x :: st) M = if x = y then eb_E L d 253 1948 ls st M else eb_E L d 253 1277 ls st M := eb_E_b hk253 ((congrFun (congrFun (congrFun (congrFun (lk253_20 1274 (Nat.le_of_ble_eq_true rfl)) _) _) _) _).trans rfl)
theorem e253_1277  : eb_E L d 253 1277 ls (st) M = eb_E L d 253 1278 ls (zi 0 :: st) M := eb_E_s hk253 ((congrFun (congrFun (congrFun (congrFun (lk253_20 1277 (Nat.le_of_ble_eq_true rfl)) _) _) _) _).trans rfl)
theorem e253_1278 {x : Int32} : eb_E L d 253 1278 ls ([zi x]) M = if x = 0 ∨ x = 1 then some (zi x, M) else none := eb_E_ri hk253 ((congrFun (congrFun (congrFun (congrFun (lk253_20 1278 (Nat.le_of_ble_eq_true rfl)) _) _) _) _).trans rfl)
theorem e253_1279 {x : Option eb_A} : eb_E L d 253 1279 [v0, some (Sum.inr x), v2, v3] (st) M = eb_E L d 253 1280 [v0, some (Sum.inr x), v2, v3] (Sum.inr x :: st) M := eb_E_s hk253 ((congrFun (congrFun (congrFun (congrFun (lk253_20 1279 (Nat.le_of_ble_eq_true rfl)) _) _) _) _).trans rfl)
theorem e253_1280 {x : Option eb_A} : eb_E L d 253 1280 [some (Sum.inr x), v1, v2, v3] (st) M = eb_E L d 253 1281 [some (Sum.inr x), v1, v2, v3] (Sum.inr x :: st) M := eb_E_s hk253 ((congrFun (congrFun (congrFun (congrFun (lk253_20 1280 (Nat.le_of_ble_eq_true rfl)) _) _) _) _).trans rfl)
theorem e253_1281 {x : Int32} : eb_E L d 253 1281 [v0, v1, v2, some (zi x)] (st) M = eb_E L d 253 1282 [v0, v1, v2, some (zi x)] (zi x :: st) M := eb_E_s hk253 ((congrFun (congrFun (congrFun (congrFun (lk253_20 1281 (Nat.le_of_ble_eq_true rfl)) _) _) _) _).trans rfl)
theorem e253_1282  : eb_E L d 253 1282 ls (st) M = eb_E L d 253 1283 ls (zi 1 :: st) M := eb_E_s hk253 ((congrFun (congrFun (congrFun (congrFun (lk253_20 1282 (Nat.le_of_ble_eq_true rfl)) _) _) _) _).trans rfl)
theorem e253_1283 {x : Int32} {y : Int32} : eb_E L d 253 1283 ls (zi y :: zi x :: st) M = eb_E L d 253 1284 ls (zi (x + y) :: st) M := eb_E_s hk253 ((congrFun (congrFun (congrFun (congrFun (lk253_20 1283 (Nat.le_of_ble_eq_true rfl)) _) _) _) _).trans rfl)
theorem e253_1284 {x : Int32} : eb_E L d 253 1284 ls (zi x :: Sum.inr (some a) :: st) (nc, ns, I, J, R) = if (eb_ty L a.1).1 = 17 ∧ eb_in x (eb_ty L a.1).2 = true then eb_E L d 253 1285 ls (zi (I a x.toNatClampNeg) :: st) (nc, ns, I, J, R) else none := eb_E_iy hk253 ((congrFun (congrFun (congrFun (congrFun (lk253_20 1284 (Nat.le_of_ble_eq_true rfl)) _) _) _) _).trans rfl)
theorem e253_1285  : eb_E L d 253 1285 ls ([a1, a0]) M = (eb_ev L d 102 [a0, a1] M).bind (fun q => eb_E L d 253 1288 ls [q.1] q.2) := eb_E_c hk253 ((congrFun (congrFun (congrFun (congrFun (lk253_20 1285 (Nat.le_of_ble_eq_true rfl)) _) _) _) _).trans rfl)
theorem e253_1288 {x : Option eb_A} : eb_E L d 253 1288 [v0, v1, some (Sum.inr x), v3] (st) M = eb_E L d 253 1289 [v0, v1, some (Sum.inr x), v3] (Sum.inr x :: st) M := eb_E_s hk253 ((congrFun (congrFun (congrFun (congrFun (lk253_20 1288 (Nat.le_of_ble_eq_true rfl)) _) _) _) _).trans rfl)
theorem e253_1289 {x : Option eb_A} : eb_E L d 253 1289 [some (Sum.inr x), v1, v2, v3] (st) M = eb_E L d 253 1290 [some (Sum.inr x), v1, v2, v3] (Sum.inr x :: st) M := eb_E_s hk253 ((congrFun (congrFun (congrFun (congrFun (lk253_20 1289 (Nat.le_of_ble_eq_true rfl)) _) _) _) _).trans rfl)
theorem e253_1290 {x : Int32} : eb_E L d 253 1290 [v0, v1, v2, some (zi x)] (st) M = eb_E L d 253 1291 [v0, v1, v2, some (zi x)] (zi x :: st) M := eb_E_s hk253 ((congrFun (congrFun (congrFun (congrFun (lk253_20 1290 (Nat.le_of_ble_eq_true rfl)) _) _) _) _).trans rfl)
theorem e253_1291  : eb_E L d 253 1291 ls (st) M = eb_E L d 253 1292 ls (zi 1 :: st) M := eb_E_s hk253 ((congrFun (congrFun (congrFun (congrFun (lk253_20 1291 (Nat.le_of_ble_eq_true rfl)) _) _) _) _).trans rfl)
theorem e253_1292 {x : Int32} {y : Int32} : eb_E L d 253 1292 ls (zi y :: zi x :: st) M = eb_E L d 253 1293 ls (zi (x + y) :: st) M := eb_E_s hk253 ((congrFun (congrFun (congrFun (congrFun (lk253_20 1292 (Nat.le_of_ble_eq_true rfl)) _) _) _) _).trans rfl)
theorem e253_1293 {x : Int32} : eb_E L d 253 1293 ls (zi x :: Sum.inr (some a) :: st) (nc, ns, I, J, R) = if (eb_ty L a.1).1 = 17 ∧ eb_in x (eb_ty L a.1).2 = true then eb_E L d 253 1294 ls (zi (I a x.toNatClampNeg) :: st) (nc, ns, I, J, R) else none := eb_E_iy hk253 ((congrFun (congrFun (congrFun (congrFun (lk253_20 1293 (Nat.le_of_ble_eq_true rfl)) _) _) _) _).trans rfl)
theorem e253_1294 {s0 : Int32} : eb_E L d 253 1294 ls ([a1, a0, zi s0]) M = (eb_ev L d 218 [a0, a1] M).bind (fun q => eb_E L d 253 1297 ls [q.1, zi s0] q.2) := eb_E_c hk253 ((congrFun (congrFun (congrFun (congrFun (lk253_20 1294 (Nat.le_of_ble_eq_true rfl)) _) _) _) _).trans rfl)
theorem e253_1297 {x : Int32} {y : Int32} : eb_E L d 253 1297 ls (zi y :: zi x :: st) M = if x = y then eb_E L d 253 1948 ls st M else eb_E L d 253 1300 ls st M := eb_E_b hk253 ((congrFun (congrFun (congrFun (congrFun (lk253_20 1297 (Nat.le_of_ble_eq_true rfl)) _) _) _) _).trans rfl)
theorem e253_1300  : eb_E L d 253 1300 ls (st) M = eb_E L d 253 1301 ls (zi 0 :: st) M := eb_E_s hk253 ((congrFun (congrFun (congrFun (congrFun (lk253_20 1300 (Nat.le_of_ble_eq_true rfl)) _) _) _) _).trans rfl)
theorem e253_1301 {x : Int32} : eb_E L d 253 1301 ls ([zi x]) M = if x = 0 ∨ x = 1 then some (zi x, M) else none := eb_E_ri hk253 ((congrFun (congrFun (congrFun (congrFun (lk253_20 1301 (Nat.le_of_ble_eq_true rfl)) _) _) _) _).trans rfl)
theorem e253_1302 {x : Option eb_A} : eb_E L d 253 1302 [v0, some (Sum.inr x), v2, v3] (st) M = eb_E L d 253 1303 [v0, some (Sum.inr x), v2, v3] (Sum.inr x :: st) M := eb_E_s hk253 ((congrFun (congrFun (congrFun (congrFun (lk253_20 1302 (Nat.le_of_ble_eq_true rfl)) _) _) _) _).trans rfl)
theorem e253_1303 {x : Option eb_A} : eb_E L d 253 1303 [some (Sum.inr x), v1, v2, v3] (st) M = eb_E L d 253 1304 [some (Sum.inr x), v1, v2, v3] (Sum.inr x :: st) M := eb_E_s hk253 ((congrFun (congrFun (congrFun (congrFun (lk253_20 1303 (Nat.le_of_ble_eq_true rfl)) _) _) _) _).trans rfl)
theorem e253_1304 {x : Int32} : eb_E L d 253 1304 [v0, v1, v2, some (zi x)] (st) M = eb_E L d 253 1305 [v0, v1, v2, some (zi x)] (zi x :: st) M := eb_E_s hk253 ((congrFun (congrFun (congrFun (congrFun (lk253_20 1304 (Nat.le_of_ble_eq_true rfl)) _) _) _) _).trans rfl)
theorem e253_1305  : eb_E L d 253 1305 ls (st) M = eb_E L d 253 1306 ls (zi 1 :: st) M := eb_E_s hk253 ((congrFun (congrFun (congrFun (congrFun (lk253_20 1305 (Nat.le_of_ble_eq_true rfl)) _) _) _) _).trans rfl)
theorem e253_1306 {x : Int32} {y : Int32} : eb_E L d 253 1306 ls (zi y :: zi x :: st) M = eb_E L d 253 1307 ls (zi (x + y) :: st) M := eb_E_s hk253 ((congrFun (congrFun (congrFun (congrFun (lk253_20 1306 (Nat.le_of_ble_eq_true rfl)) _) _) _) _).trans rfl)
theorem e253_1307 {x : Int32} : eb_E L d 253 1307 ls (zi x :: Sum.inr (some a) :: st) (nc, ns, I, J, R) = if (eb_ty L a.1).1 = 17 ∧ eb_in x (eb_ty L a.1).2 = true then eb_E L d 253 1308 ls (zi (I a x.toNatClampNeg) :: st) (nc, ns, I, J, R) else none := eb_E_iy hk253 ((congrFun (congrFun (congrFun (congrFun (lk253_20 1307 (Nat.le_of_ble_eq_true rfl)) _) _) _) _).trans rfl)
theorem e253_1308 {x : Option eb_A} : eb_E L d 253 1308 [some (Sum.inr x), v1, v2, v3] (st) M = eb_E L d 253 1309 [some (Sum.inr x), v1, v2, v3] (Sum.inr x :: st) M := eb_E_s hk253 ((congrFun (congrFun (congrFun (congrFun (lk253_20 1308 (Nat.le_of_ble_eq_true rfl)) _) _) _) _).trans rfl)
theorem e253_1309 {x : Int32} : eb_E L d 253 1309 [v0, v1, v2, some (zi x)] (st) M = eb_E L d 253 1310 [v0, v1, v2, some (zi x)] (zi x :: st) M := eb_E_s hk253 ((congrFun (congrFun (congrFun (congrFun (lk253_20 1309 (Nat.le_of_ble_eq_true rfl)) _) _) _) _).trans rfl)
theorem e253_1310  : eb_E L d 253 1310 ls (st) M = eb_E L d 253 1311 ls (zi 2 :: st) M := eb_E_s hk253 ((congrFun (congrFun (congrFun (congrFun (lk253_21 1310 (Nat.le_of_ble_eq_true rfl)) _) _) _) _).trans rfl)
theorem e253_1311 {x : Int32} {y : Int32} : eb_E L d 253 1311 ls (zi y :: zi x :: st) M = eb_E L d 253 1312 ls (zi (x + y) :: st) M := eb_E_s hk253 ((congrFun (congrFun (congrFun (congrFun (lk253_21 1311 (Nat.le_of_ble_eq_true rfl)) _) _) _) _).trans rfl)
theorem e253_1312 {x : Int32} : eb_E L d 253 1312 ls (zi x :: Sum.inr (some a) :: st) (nc, ns, I, J, R) = if (eb_ty L a.1).1 = 17 ∧ eb_in x (eb_ty L a.1).2 = true then eb_E L d 253 1313 ls (zi (I a x.toNatClampNeg) :: st) (nc, ns, I, J, R) else none := eb_E_iy hk253 ((congrFun (congrFun (congrFun (congrFun (lk253_21 1312 (Nat.le_of_ble_eq_true rfl)) _) _) _) _).trans rfl)
theorem e253_1313 {x : Option eb_A} : eb_E L d 253 1313 [some (Sum.inr x), v1, v2, v3] (st) M = eb_E L d 253 1314 [some (Sum.inr x), v1, v2, v3] (Sum.inr x :: st) M := eb_E_s hk253 ((congrFun (congrFun (congrFun (congrFun (lk253_21 1313 (Nat.le_of_ble_eq_true rfl)) _) _) _) _).trans rfl)
theorem e253_1314 {x : Int32} : eb_E L d 253 1314 [v0, v1, v2, some (zi x)] (st) M = eb_E L d 253 1315 [v0, v1, v2, some (zi x)] (zi x :: st) M := eb_E_s hk253 ((congrFun (congrFun (congrFun (congrFun (lk253_21 1314 (Nat.le_of_ble_eq_true rfl)) _) _) _) _).trans rfl)
theorem e253_1315  : eb_E L d 253 1315 ls (st) M = eb_E L d 253 1316 ls (zi 3 :: st) M := eb_E_s hk253 ((congrFun (congrFun (congrFun (congrFun (lk253_21 1315 (Nat.le_of_ble_eq_true rfl)) _) _) _) _).trans rfl)
theorem e253_1316 {x : Int32} {y : Int32} : eb_E L d 253 1316 ls (zi y :: zi x :: st) M = eb_E L d 253 1317 ls (zi (x + y) :: st) M := eb_E_s hk253 ((congrFun (congrFun (congrFun (congrFun (lk253_21 1316 (Nat.le_of_ble_eq_true rfl)) _) _) _) _).trans rfl)
theorem e253_1317 {x : Int32} : eb_E L d 253 1317 ls (zi x :: Sum.inr (some a) :: st) (nc, ns, I, J, R) = if (eb_ty L a.1).1 = 17 ∧ eb_in x (eb_ty L a.1).2 = true then eb_E L d 253 1318 ls (zi (I a x.toNatClampNeg) :: st) (nc, ns, I, J, R) else none := eb_E_iy hk253 ((congrFun (congrFun (congrFun (congrFun (lk253_21 1317 (Nat.le_of_ble_eq_true rfl)) _) _) _) _).trans rfl)
theorem e253_1318  : eb_E L d 253 1318 ls ([a3, a2, a1, a0]) M = (eb_ev L d 103 [a0, a1, a2, a3] M).bind (fun q => eb_E L d 253 1321 ls [q.1] q.2) := eb_E_c hk253 ((congrFun (congrFun (congrFun (congrFun (lk253_21 1318 (Nat.le_of_ble_eq_true rfl)) _) _) _) _).trans rfl)
theorem e253_1321 {x : Option eb_A} : eb_E L d 253 1321 [v0, v1, some (Sum.inr x), v3] (st) M = eb_E L d 253 1322 [v0, v1, some (Sum.inr x), v3] (Sum.inr x :: st) M := eb_E_s hk253 ((congrFun (congrFun (congrFun (congrFun (lk253_21 1321 (Nat.le_of_ble_eq_true rfl)) _) _) _) _).trans rfl)
theorem e253_1322 {x : Option eb_A} : eb_E L d 253 1322 [some (Sum.inr x), v1, v2, v3] (st) M = eb_E L d 253 1323 [some (Sum.inr x), v1, v2, v3] (Sum.inr x :: st) M := eb_E_s hk253 ((congrFun (congrFun (congrFun (congrFun (lk253_21 1322 (Nat.le_of_ble_eq_true rfl)) _) _) _) _).trans rfl)
theorem e253_1323 {x : Int32} : eb_E L d 253 1323 [v0, v1, v2, some (zi x)] (st) M = eb_E L d 253 1324 [v0, v1, v2, some (zi x)] (zi x :: st) M := eb_E_s hk253 ((congrFun (congrFun (congrFun (congrFun (lk253_21 1323 (Nat.le_of_ble_eq_true rfl)) _) _) _) _).trans rfl)
theorem e253_1324  : eb_E L d 253 1324 ls (st) M = eb_E L d 253 1325 ls (zi 1 :: st) M := eb_E_s hk253 ((congrFun (congrFun (congrFun (congrFun (lk253_21 1324 (Nat.le_of_ble_eq_true rfl)) _) _) _) _).trans rfl)
theorem e253_1325 {x : Int32} {y : Int32} : eb_E L d 253 1325 ls (zi y :: zi x :: st) M = eb_E L d 253 1326 ls (zi (x + y) :: st) M := eb_E_s hk253 ((congrFun (congrFun (congrFun (congrFun (lk253_21 1325 (Nat.le_of_ble_eq_true rfl)) _) _) _) _).trans rfl)
theorem e253_1326 {x : Int32} : eb_E L d 253 1326 ls (zi x :: Sum.inr (some a) :: st) (nc, ns, I, J, R) = if (eb_ty L a.1).1 = 17 ∧ eb_in x (eb_ty L a.1).2 = true then eb_E L d 253 1327 ls (zi (I a x.toNatClampNeg) :: st) (nc, ns, I, J, R) else none := eb_E_iy hk253 ((congrFun (congrFun (congrFun (congrFun (lk253_21 1326 (Nat.le_of_ble_eq_true rfl)) _) _) _) _).trans rfl)
theorem e253_1327 {x : Option eb_A} : eb_E L d 253 1327 [some (Sum.inr x), v1, v2, v3] (st) M = eb_E L d 253 1328 [some (Sum.inr x), v1, v2, v3] (Sum.inr x :: st) M := eb_E_s hk253 ((congrFun (congrFun (congrFun (congrFun (lk253_21 1327 (Nat.le_of_ble_eq_true rfl)) _) _) _) _).trans rfl)
theorem e253_1328 {x : Int32} : eb_E L d 253 1328 [v0, v1, v2, some (zi x)] (st) M = eb_E L d 253 1329 [v0, v1, v2, some (zi x)] (zi x :: st) M := eb_E_s hk253 ((congrFun (congrFun (congrFun (congrFun (lk253_21 1328 (Nat.le_of_ble_eq_true rfl)) _) _) _) _).trans rfl)
theorem e253_1329  : eb_E L d 253 1329 ls (st) M = eb_E L d 253 1330 ls (zi 2 :: st) M := eb_E_s hk253 ((congrFun (congrFun (congrFun (congrFun (lk253_21 1329 (Nat.le_of_ble_eq_true rfl)) _) _) _) _).trans rfl)
theorem e253_1330 {x : Int32} {y : Int32} : eb_E L d 253 1330 ls (zi y :: zi x :: st) M = eb_E L d 253 1331 ls (zi (x + y) :: st) M := eb_E_s hk253 ((congrFun (congrFun (congrFun (congrFun (lk253_21 1330 (Nat.le_of_ble_eq_true rfl)) _) _) _) _).trans rfl)
theorem e253_1331 {x : Int32} : eb_E L d 253 1331 ls (zi x :: Sum.inr (some a) :: st) (nc, ns, I, J, R) = if (eb_ty L a.1).1 = 17 ∧ eb_in x (eb_ty L a.1).2 = true then eb_E L d 253 1332 ls (zi (I a x.toNatClampNeg) :: st) (nc, ns, I, J, R) else none := eb_E_iy hk253 ((congrFun (congrFun (congrFun (congrFun (lk253_21 1331 (Nat.le_of_ble_eq_true rfl)) _) _) _) _).trans rfl)
theorem e253_1332 {x : Option eb_A} : eb_E L d 253 1332 [some (Sum.inr x), v1, v2, v3] (st) M = eb_E L d 253 1333 [some (Sum.inr x), v1, v2, v3] (Sum.inr x :: st) M := eb_E_s hk253 ((congrFun (congrFun (congrFun (congrFun (lk253_21 1332 (Nat.le_of_ble_eq_true rfl)) _) _) _) _).trans rfl)
theorem e253_1333 {x : Int32} : eb_E L d 253 1333 [v0, v1, v2, some (zi x)] (st) M = eb_E L d 253 1334 [v0, v1, v2, some (zi x)] (zi x :: st) M := eb_E_s hk253 ((congrFun (congrFun (congrFun (congrFun (lk253_21 1333 (Nat.le_of_ble_eq_true rfl)) _) _) _) _).trans rfl)
theorem e253_1334  : eb_E L d 253 1334 ls (st) M = eb_E L d 253 1335 ls (zi 3 :: st) M := eb_E_s hk253 ((congrFun (congrFun (congrFun (congrFun (lk253_21 1334 (Nat.le_of_ble_eq_true rfl)) _) _) _) _).trans rfl)
theorem e253_1335 {x : Int32} {y : Int32} : eb_E L d 253 1335 ls (zi y :: zi x :: st) M = eb_E L d 253 1336 ls (zi (x + y) :: st) M := eb_E_s hk253 ((congrFun (congrFun (congrFun (congrFun (lk253_21 1335 (Nat.le_of_ble_eq_true rfl)) _) _) _) _).trans rfl)
theorem e253_1336 {x : Int32} : eb_E L d 253 1336 ls (zi x :: Sum.inr (some a) :: st) (nc, ns, I, J, R) = if (eb_ty L a.1).1 = 17 ∧ eb_in x (eb_ty L a.1).2 = true then eb_E L d 253 1337 ls (zi (I a x.toNatClampNeg) :: st) (nc, ns, I, J, R) else none := eb_E_iy hk253 ((congrFun (congrFun (congrFun (congrFun (lk253_21 1336 (Nat.le_of_ble_eq_true rfl)) _) _) _) _).trans rfl)
theorem e253_1337 {s0 : Int32} : eb_E L d 253 1337 ls ([a3, a2, a1, a0, zi s0]) M = (eb_ev L d 219 [a0, a1, a2, a3] M).bind (fun q => eb_E L d 253 1340 ls [q.1, zi s0] q.2) := eb_E_c hk253 ((congrFun (congrFun (congrFun (congrFun (lk253_21 1337 (Nat.le_of_ble_eq_true rfl)) _) _) _) _).trans rfl)
theorem e253_1340 {x : Int32} {y : Int32} : eb_E L d 253 1340 ls (zi y :: zi x :: st) M = if x = y then eb_E L d 253 1948 ls st M else eb_E L d 253 1343 ls st M := eb_E_b hk253 ((congrFun (congrFun (congrFun (congrFun (lk253_21 1340 (Nat.le_of_ble_eq_true rfl)) _) _) _) _).trans rfl)
theorem e253_1343  : eb_E L d 253 1343 ls (st) M = eb_E L d 253 1344 ls (zi 0 :: st) M := eb_E_s hk253 ((congrFun (congrFun (congrFun (congrFun (lk253_21 1343 (Nat.le_of_ble_eq_true rfl)) _) _) _) _).trans rfl)
theorem e253_1344 {x : Int32} : eb_E L d 253 1344 ls ([zi x]) M = if x = 0 ∨ x = 1 then some (zi x, M) else none := eb_E_ri hk253 ((congrFun (congrFun (congrFun (congrFun (lk253_21 1344 (Nat.le_of_ble_eq_true rfl)) _) _) _) _).trans rfl)
theorem e253_1345 {x : Option eb_A} : eb_E L d 253 1345 [v0, some (Sum.inr x), v2, v3] (st) M = eb_E L d 253 1346 [v0, some (Sum.inr x), v2, v3] (Sum.inr x :: st) M := eb_E_s hk253 ((congrFun (congrFun (congrFun (congrFun (lk253_21 1345 (Nat.le_of_ble_eq_true rfl)) _) _) _) _).trans rfl)
theorem e253_1346 {x : Option eb_A} : eb_E L d 253 1346 [some (Sum.inr x), v1, v2, v3] (st) M = eb_E L d 253 1347 [some (Sum.inr x), v1, v2, v3] (Sum.inr x :: st) M := eb_E_s hk253 ((congrFun (congrFun (congrFun (congrFun (lk253_21 1346 (Nat.le_of_ble_eq_true rfl)) _) _) _) _).trans rfl)
theorem e253_1347 {x : Int32} : eb_E L d 253 1347 [v0, v1, v2, some (zi x)] (st) M = eb_E L d 253 1348 [v0, v1, v2, some (zi x)] (zi x :: st) M := eb_E_s hk253 ((congrFun (congrFun (congrFun (congrFun (lk253_21 1347 (Nat.le_of_ble_eq_true rfl)) _) _) _) _).trans rfl)
theorem e253_1348  : eb_E L d 253 1348 ls (st) M = eb_E L d 253 1349 ls (zi 1 :: st) M := eb_E_s hk253 ((congrFun (congrFun (congrFun (congrFun (lk253_21 1348 (Nat.le_of_ble_eq_true rfl)) _) _) _) _).trans rfl)
theorem e253_1349 {x : Int32} {y : Int32} : eb_E L d 253 1349 ls (zi y :: zi x :: st) M = eb_E L d 253 1350 ls (zi (x + y) :: st) M := eb_E_s hk253 ((congrFun (congrFun (congrFun (congrFun (lk253_21 1349 (Nat.le_of_ble_eq_true rfl)) _) _) _) _).trans rfl)
theorem e253_1350 {x : Int32} : eb_E L d 253 1350 ls (zi x :: Sum.inr (some a) :: st) (nc, ns, I, J, R) = if (eb_ty L a.1).1 = 17 ∧ eb_in x (eb_ty L a.1).2 = true then eb_E L d 253 1351 ls (zi (I a x.toNatClampNeg) :: st) (nc, ns, I, J, R) else none := eb_E_iy hk253 ((congrFun (congrFun (congrFun (congrFun (lk253_21 1350 (Nat.le_of_ble_eq_true rfl)) _) _) _) _).trans rfl)
theorem e253_1351 {x : Option eb_A} : eb_E L d 253 1351 [some (Sum.inr x), v1, v2, v3] (st) M = eb_E L d 253 1352 [some (Sum.inr x), v1, v2, v3] (Sum.inr x :: st) M := eb_E_s hk253 ((congrFun (congrFun (congrFun (congrFun (lk253_21 1351 (Nat.le_of_ble_eq_true rfl)) _) _) _) _).trans rfl)
theorem e253_1352 {x : Int32} : eb_E L d 253 1352 [v0, v1, v2, some (zi x)] (st) M = eb_E L d 253 1353 [v0, v1, v2, some (zi x)] (zi x :: st) M := eb_E_s hk253 ((congrFun (congrFun (congrFun (congrFun (lk253_21 1352 (Nat.le_of_ble_eq_true rfl)) _) _) _) _).trans rfl)
theorem e253_1353  : eb_E L d 253 1353 ls (st) M = eb_E L d 253 1354 ls (zi 2 :: st) M := eb_E_s hk253 ((congrFun (congrFun (congrFun (congrFun (lk253_21 1353 (Nat.le_of_ble_eq_true rfl)) _) _) _) _).trans rfl)
theorem e253_1354 {x : Int32} {y : Int32} : eb_E L d 253 1354 ls (zi y :: zi x :: st) M = eb_E L d 253 1355 ls (zi (x + y) :: st) M := eb_E_s hk253 ((congrFun (congrFun (congrFun (congrFun (lk253_21 1354 (Nat.le_of_ble_eq_true rfl)) _) _) _) _).trans rfl)
theorem e253_1355 {x : Int32} : eb_E L d 253 1355 ls (zi x :: Sum.inr (some a) :: st) (nc, ns, I, J, R) = if (eb_ty L a.1).1 = 17 ∧ eb_in x (eb_ty L a.1).2 = true then eb_E L d 253 1356 ls (zi (I a x.toNatClampNeg) :: st) (nc, ns, I, J, R) else none := eb_E_iy hk253 ((congrFun (congrFun (congrFun (congrFun (lk253_21 1355 (Nat.le_of_ble_eq_true rfl)) _) _) _) _).trans rfl)
theorem e253_1356  : eb_E L d 253 1356 ls ([a2, a1, a0]) M = (eb_ev L d 104 [a0, a1, a2] M).bind (fun q => eb_E L d 253 1359 ls [q.1] q.2) := eb_E_c hk253 ((congrFun (congrFun (congrFun (congrFun (lk253_22 1356 (Nat.le_of_ble_eq_true rfl)) _) _) _) _).trans rfl)
theorem e253_1359 {x : Option eb_A} : eb_E L d 253 1359 [v0, v1, some (Sum.inr x), v3] (st) M = eb_E L d 253 1360 [v0, v1, some (Sum.inr x), v3] (Sum.inr x :: st) M := eb_E_s hk253 ((congrFun (congrFun (congrFun (congrFun (lk253_22 1359 (Nat.le_of_ble_eq_true rfl)) _) _) _) _).trans rfl)
theorem e253_1360 {x : Option eb_A} : eb_E L d 253 1360 [some (Sum.inr x), v1, v2, v3] (st) M = eb_E L d 253 1361 [some (Sum.inr x), v1, v2, v3] (Sum.inr x :: st) M := eb_E_s hk253 ((congrFun (congrFun (congrFun (congrFun (lk253_22 1360 (Nat.le_of_ble_eq_true rfl)) _) _) _) _).trans rfl)
theorem e253_1361 {x : Int32} : eb_E L d 253 1361 [v0, v1, v2, some (zi x)] (st) M = eb_E L d 253 1362 [v0, v1, v2, some (zi x)] (zi x :: st) M := eb_E_s hk253 ((congrFun (congrFun (congrFun (congrFun (lk253_22 1361 (Nat.le_of_ble_eq_true rfl)) _) _) _) _).trans rfl)
theorem e253_1362  : eb_E L d 253 1362 ls (st) M = eb_E L d 253 1363 ls (zi 1 :: st) M := eb_E_s hk253 ((congrFun (congrFun (congrFun (congrFun (lk253_22 1362 (Nat.le_of_ble_eq_true rfl)) _) _) _) _).trans rfl)
theorem e253_1363 {x : Int32} {y : Int32} : eb_E L d 253 1363 ls (zi y :: zi x :: st) M = eb_E L d 253 1364 ls (zi (x + y) :: st) M := eb_E_s hk253 ((congrFun (congrFun (congrFun (congrFun (lk253_22 1363 (Nat.le_of_ble_eq_true rfl)) _) _) _) _).trans rfl)
theorem e253_1364 {x : Int32} : eb_E L d 253 1364 ls (zi x :: Sum.inr (some a) :: st) (nc, ns, I, J, R) = if (eb_ty L a.1).1 = 17 ∧ eb_in x (eb_ty L a.1).2 = true then eb_E L d 253 1365 ls (zi (I a x.toNatClampNeg) :: st) (nc, ns, I, J, R) else none := eb_E_iy hk253 ((congrFun (congrFun (congrFun (congrFun (lk253_22 1364 (Nat.le_of_ble_eq_true rfl)) _) _) _) _).trans rfl)
theorem e253_1365 {x : Option eb_A} : eb_E L d 253 1365 [some (Sum.inr x), v1, v2, v3] (st) M = eb_E L d 253 1366 [some (Sum.inr x), v1, v2, v3] (Sum.inr x :: st) M := eb_E_s hk253 ((congrFun (congrFun (congrFun (congrFun (lk253_22 1365 (Nat.le_of_ble_eq_true rfl)) _) _) _) _).trans rfl)
theorem e253_1366 {x : Int32} : eb_E L d 253 1366 [v0, v1, v2, some (zi x)] (st) M = eb_E L d 253 1367 [v0, v1, v2, some (zi x)] (zi x :: st) M := eb_E_s hk253 ((congrFun (congrFun (congrFun (congrFun (lk253_22 1366 (Nat.le_of_ble_eq_true rfl)) _) _) _) _).trans rfl)
theorem e253_1367  : eb_E L d 253 1367 ls (st) M = eb_E L d 253 1368 ls (zi 2 :: st) M := eb_E_s hk253 ((congrFun (congrFun (congrFun (congrFun (lk253_22 1367 (Nat.le_of_ble_eq_true rfl)) _) _) _) _).trans rfl)
theorem e253_1368 {x : Int32} {y : Int32} : eb_E L d 253 1368 ls (zi y :: zi x :: st) M = eb_E L d 253 1369 ls (zi (x + y) :: st) M := eb_E_s hk253 ((congrFun (congrFun (congrFun (congrFun (lk253_22 1368 (Nat.le_of_ble_eq_true rfl)) _) _) _) _).trans rfl)
theorem e253_1369 {x : Int32} : eb_E L d 253 1369 ls (zi x :: Sum.inr (some a) :: st) (nc, ns, I, J, R) = if (eb_ty L a.1).1 = 17 ∧ eb_in x (eb_ty L a.1).2 = true then eb_E L d 253 1370 ls (zi (I a x.toNatClampNeg) :: st) (nc, ns, I, J, R) else none := eb_E_iy hk253 ((congrFun (congrFun (congrFun (congrFun (lk253_22 1369 (Nat.le_of_ble_eq_true rfl)) _) _) _) _).trans rfl)
theorem e253_1370 {s0 : Int32} : eb_E L d 253 1370 ls ([a2, a1, a0, zi s0]) M = (eb_ev L d 220 [a0, a1, a2] M).bind (fun q => eb_E L d 253 1373 ls [q.1, zi s0] q.2) := eb_E_c hk253 ((congrFun (congrFun (congrFun (congrFun (lk253_22 1370 (Nat.le_of_ble_eq_true rfl)) _) _) _) _).trans rfl)
theorem e253_1373 {x : Int32} {y : Int32} : eb_E L d 253 1373 ls (zi y :: zi x :: st) M = if x = y then eb_E L d 253 1948 ls st M else eb_E L d 253 1376 ls st M := eb_E_b hk253 ((congrFun (congrFun (congrFun (congrFun (lk253_22 1373 (Nat.le_of_ble_eq_true rfl)) _) _) _) _).trans rfl)
theorem e253_1376  : eb_E L d 253 1376 ls (st) M = eb_E L d 253 1377 ls (zi 0 :: st) M := eb_E_s hk253 ((congrFun (congrFun (congrFun (congrFun (lk253_22 1376 (Nat.le_of_ble_eq_true rfl)) _) _) _) _).trans rfl)
theorem e253_1377 {x : Int32} : eb_E L d 253 1377 ls ([zi x]) M = if x = 0 ∨ x = 1 then some (zi x, M) else none := eb_E_ri hk253 ((congrFun (congrFun (congrFun (congrFun (lk253_22 1377 (Nat.le_of_ble_eq_true rfl)) _) _) _) _).trans rfl)
theorem e253_1378 {x : Option eb_A} : eb_E L d 253 1378 [v0, some (Sum.inr x), v2, v3] (st) M = eb_E L d 253 1379 [v0, some (Sum.inr x), v2, v3] (Sum.inr x :: st) M := eb_E_s hk253 ((congrFun (congrFun (congrFun (congrFun (lk253_22 1378 (Nat.le_of_ble_eq_true rfl)) _) _) _) _).trans rfl)
theorem e253_1379 {x : Option eb_A} : eb_E L d 253 1379 [some (Sum.inr x), v1, v2, v3] (st) M = eb_E L d 253 1380 [some (Sum.inr x), v1, v2, v3] (Sum.inr x :: st) M := eb_E_s hk253 ((congrFun (congrFun (congrFun (congrFun (lk253_22 1379 (Nat.le_of_ble_eq_true rfl)) _) _) _) _).trans rfl)
theorem e253_1380 {x : Int32} : eb_E L d 253 1380 [v0, v1, v2, some (zi x)] (st) M = eb_E L d 253 1381 [v0, v1, v2, some (zi x)] (zi x :: st) M := eb_E_s hk253 ((congrFun (congrFun (congrFun (congrFun (lk253_22 1380 (Nat.le_of_ble_eq_true rfl)) _) _) _) _).trans rfl)
theorem e253_1381  : eb_E L d 253 1381 ls (st) M = eb_E L d 253 1382 ls (zi 1 :: st) M := eb_E_s hk253 ((congrFun (congrFun (congrFun (congrFun (lk253_22 1381 (Nat.le_of_ble_eq_true rfl)) _) _) _) _).trans rfl)
theorem e253_1382 {x : Int32} {y : Int32} : eb_E L d 253 1382 ls (zi y :: zi x :: st) M = eb_E L d 253 1383 ls (zi (x + y) :: st) M := eb_E_s hk253 ((congrFun (congrFun (congrFun (congrFun (lk253_22 1382 (Nat.le_of_ble_eq_true rfl)) _) _) _) _).trans rfl)
theorem e253_1383 {x : Int32} : eb_E L d 253 1383 ls (zi x :: Sum.inr (some a) :: st) (nc, ns, I, J, R) = if (eb_ty L a.1).1 = 17 ∧ eb_in x (eb_ty L a.1).2 = true then eb_E L d 253 1384 ls (zi (I a x.toNatClampNeg) :: st) (nc, ns, I, J, R) else none := eb_E_iy hk253 ((congrFun (congrFun (congrFun (congrFun (lk253_22 1383 (Nat.le_of_ble_eq_true rfl)) _) _) _) _).trans rfl)
theorem e253_1384  : eb_E L d 253 1384 ls ([a1, a0]) M = (eb_ev L d 105 [a0, a1] M).bind (fun q => eb_E L d 253 1387 ls [q.1] q.2) := eb_E_c hk253 ((congrFun (congrFun (congrFun (congrFun (lk253_22 1384 (Nat.le_of_ble_eq_true rfl)) _) _) _) _).trans rfl)
theorem e253_1387 {x : Option eb_A} : eb_E L d 253 1387 [v0, v1, some (Sum.inr x), v3] (st) M = eb_E L d 253 1388 [v0, v1, some (Sum.inr x), v3] (Sum.inr x :: st) M := eb_E_s hk253 ((congrFun (congrFun (congrFun (congrFun (lk253_22 1387 (Nat.le_of_ble_eq_true rfl)) _) _) _) _).trans rfl)
theorem e253_1388 {x : Option eb_A} : eb_E L d 253 1388 [some (Sum.inr x), v1, v2, v3] (st) M = eb_E L d 253 1389 [some (Sum.inr x), v1, v2, v3] (Sum.inr x :: st) M := eb_E_s hk253 ((congrFun (congrFun (congrFun (congrFun (lk253_22 1388 (Nat.le_of_ble_eq_true rfl)) _) _) _) _).trans rfl)
theorem e253_1389 {x : Int32} : eb_E L d 253 1389 [v0, v1, v2, some (zi x)] (st) M = eb_E L d 253 1390 [v0, v1, v2, some (zi x)] (zi x :: st) M := eb_E_s hk253 ((congrFun (congrFun (congrFun (congrFun (lk253_22 1389 (Nat.le_of_ble_eq_true rfl)) _) _) _) _).trans rfl)
theorem e253_1390  : eb_E L d 253 1390 ls (st) M = eb_E L d 253 1391 ls (zi 1 :: st) M := eb_E_s hk253 ((congrFun (congrFun (congrFun (congrFun (lk253_22 1390 (Nat.le_of_ble_eq_true rfl)) _) _) _) _).trans rfl)
theorem e253_1391 {x : Int32} {y : Int32} : eb_E L d 253 1391 ls (zi y :: zi x :: st) M = eb_E L d 253 1392 ls (zi (x + y) :: st) M := eb_E_s hk253 ((congrFun (congrFun (congrFun (congrFun (lk253_22 1391 (Nat.le_of_ble_eq_true rfl)) _) _) _) _).trans rfl)
theorem e253_1392 {x : Int32} : eb_E L d 253 1392 ls (zi x :: Sum.inr (some a) :: st) (nc, ns, I, J, R) = if (eb_ty L a.1).1 = 17 ∧ eb_in x (eb_ty L a.1).2 = true then eb_E L d 253 1393 ls (zi (I a x.toNatClampNeg) :: st) (nc, ns, I, J, R) else none := eb_E_iy hk253 ((congrFun (congrFun (congrFun (congrFun (lk253_22 1392 (Nat.le_of_ble_eq_true rfl)) _) _) _) _).trans rfl)
theorem e253_1393 {s0 : Int32} : eb_E L d 253 1393 ls ([a1, a0, zi s0]) M = (eb_ev L d 222 [a0, a1] M).bind (fun q => eb_E L d 253 1396 ls [q.1, zi s0] q.2) := eb_E_c hk253 ((congrFun (congrFun (congrFun (congrFun (lk253_22 1393 (Nat.le_of_ble_eq_true rfl)) _) _) _) _).trans rfl)
theorem e253_1396 {x : Int32} {y : Int32} : eb_E L d 253 1396 ls (zi y :: zi x :: st) M = if x = y then eb_E L d 253 1948 ls st M else eb_E L d 253 1399 ls st M := eb_E_b hk253 ((congrFun (congrFun (congrFun (congrFun (lk253_22 1396 (Nat.le_of_ble_eq_true rfl)) _) _) _) _).trans rfl)
theorem e253_1399  : eb_E L d 253 1399 ls (st) M = eb_E L d 253 1400 ls (zi 0 :: st) M := eb_E_s hk253 ((congrFun (congrFun (congrFun (congrFun (lk253_22 1399 (Nat.le_of_ble_eq_true rfl)) _) _) _) _).trans rfl)
theorem e253_1400 {x : Int32} : eb_E L d 253 1400 ls ([zi x]) M = if x = 0 ∨ x = 1 then some (zi x, M) else none := eb_E_ri hk253 ((congrFun (congrFun (congrFun (congrFun (lk253_22 1400 (Nat.le_of_ble_eq_true rfl)) _) _) _) _).trans rfl)
theorem e253_1401 {x : Option eb_A} : eb_E L d 253 1401 [v0, some (Sum.inr x), v2, v3] (st) M = eb_E L d 253 1402 [v0, some (Sum.inr x), v2, v3] (Sum.inr x :: st) M := eb_E_s hk253 ((congrFun (congrFun (congrFun (congrFun (lk253_22 1401 (Nat.le_of_ble_eq_true rfl)) _) _) _) _).trans rfl)
theorem e253_1402 {x : Option eb_A} : eb_E L d 253 1402 [some (Sum.inr x), v1, v2, v3] (st) M = eb_E L d 253 1403 [some (Sum.inr x), v1, v2, v3] (Sum.inr x :: st) M := eb_E_s hk253 ((congrFun (congrFun (congrFun (congrFun (lk253_22 1402 (Nat.le_of_ble_eq_true rfl)) _) _) _) _).trans rfl)
theorem e253_1403 {x : Int32} : eb_E L d 253 1403 [v0, v1, v2, some (zi x)] (st) M = eb_E L d 253 1404 [v0, v1, v2, some (zi x)] (zi x :: st) M := eb_E_s hk253 ((congrFun (congrFun (congrFun (congrFun (lk253_22 1403 (Nat.le_of_ble_eq_true rfl)) _) _) _) _).trans rfl)
theorem e253_1404  : eb_E L d 253 1404 ls (st) M = eb_E L d 253 1405 ls (zi 1 :: st) M := eb_E_s hk253 ((congrFun (congrFun (congrFun (congrFun (lk253_22 1404 (Nat.le_of_ble_eq_true rfl)) _) _) _) _).trans rfl)
theorem e253_1405 {x : Int32} {y : Int32} : eb_E L d 253 1405 ls (zi y :: zi x :: st) M = eb_E L d 253 1406 ls (zi (x + y) :: st) M := eb_E_s hk253 ((congrFun (congrFun (congrFun (congrFun (lk253_22 1405 (Nat.le_of_ble_eq_true rfl)) _) _) _) _).trans rfl)
theorem e253_1406 {x : Int32} : eb_E L d 253 1406 ls (zi x :: Sum.inr (some a) :: st) (nc, ns, I, J, R) = if (eb_ty L a.1).1 = 17 ∧ eb_in x (eb_ty L a.1).2 = true then eb_E L d 253 1407 ls (zi (I a x.toNatClampNeg) :: st) (nc, ns, I, J, R) else none := eb_E_iy hk253 ((congrFun (congrFun (congrFun (congrFun (lk253_22 1406 (Nat.le_of_ble_eq_true rfl)) _) _) _) _).trans rfl)
theorem e253_1407 {x : Option eb_A} : eb_E L d 253 1407 [some (Sum.inr x), v1, v2, v3] (st) M = eb_E L d 253 1408 [some (Sum.inr x), v1, v2, v3] (Sum.inr x :: st) M := eb_E_s hk253 ((congrFun (congrFun (congrFun (congrFun (lk253_22 1407 (Nat.le_of_ble_eq_true rfl)) _) _) _) _).trans rfl)
theorem e253_1408 {x : Int32} : eb_E L d 253 1408 [v0, v1, v2, some (zi x)] (st) M = eb_E L d 253 1409 [v0, v1, v2, some (zi x)] (zi x :: st) M := eb_E_s hk253 ((congrFun (congrFun (congrFun (congrFun (lk253_23 1408 (Nat.le_of_ble_eq_true rfl)) _) _) _) _).trans rfl)
theorem e253_1409  : eb_E L d 253 1409 ls (st) M = eb_E L d 253 1410 ls (zi 2 :: st) M := eb_E_s hk253 ((congrFun (congrFun (congrFun (congrFun (lk253_23 1409 (Nat.le_of_ble_eq_true rfl)) _) _) _) _).trans rfl)
theorem e253_1410 {x : Int32} {y : Int32} : eb_E L d 253 1410 ls (zi y :: zi x :: st) M = eb_E L d 253 1411 ls (zi (x + y) :: st) M := eb_E_s hk253 ((congrFun (congrFun (congrFun (congrFun (lk253_23 1410 (Nat.le_of_ble_eq_true rfl)) _) _) _) _).trans rfl)
theorem e253_1411 {x : Int32} : eb_E L d 253 1411 ls (zi x :: Sum.inr (some a) :: st) (nc, ns, I, J, R) = if (eb_ty L a.1).1 = 17 ∧ eb_in x (eb_ty L a.1).2 = true then eb_E L d 253 1412 ls (zi (I a x.toNatClampNeg) :: st) (nc, ns, I, J, R) else none := eb_E_iy hk253 ((congrFun (congrFun (congrFun (congrFun (lk253_23 1411 (Nat.le_of_ble_eq_true rfl)) _) _) _) _).trans rfl)
theorem e253_1412  : eb_E L d 253 1412 ls ([a2, a1, a0]) M = (eb_ev L d 106 [a0, a1, a2] M).bind (fun q => eb_E L d 253 1415 ls [q.1] q.2) := eb_E_c hk253 ((congrFun (congrFun (congrFun (congrFun (lk253_23 1412 (Nat.le_of_ble_eq_true rfl)) _) _) _) _).trans rfl)
theorem e253_1415 {x : Option eb_A} : eb_E L d 253 1415 [v0, v1, some (Sum.inr x), v3] (st) M = eb_E L d 253 1416 [v0, v1, some (Sum.inr x), v3] (Sum.inr x :: st) M := eb_E_s hk253 ((congrFun (congrFun (congrFun (congrFun (lk253_23 1415 (Nat.le_of_ble_eq_true rfl)) _) _) _) _).trans rfl)
theorem e253_1416 {x : Option eb_A} : eb_E L d 253 1416 [some (Sum.inr x), v1, v2, v3] (st) M = eb_E L d 253 1417 [some (Sum.inr x), v1, v2, v3] (Sum.inr x :: st) M := eb_E_s hk253 ((congrFun (congrFun (congrFun (congrFun (lk253_23 1416 (Nat.le_of_ble_eq_true rfl)) _) _) _) _).trans rfl)
theorem e253_1417 {x : Int32} : eb_E L d 253 1417 [v0, v1, v2, some (zi x)] (st) M = eb_E L d 253 1418 [v0, v1, v2, some (zi x)] (zi x :: st) M := eb_E_s hk253 ((congrFun (congrFun (congrFun (congrFun (lk253_23 1417 (Nat.le_of_ble_eq_true rfl)) _) _) _) _).trans rfl)
theorem e253_1418  : eb_E L d 253 1418 ls (st) M = eb_E L d 253 1419 ls (zi 1 :: st) M := eb_E_s hk253 ((congrFun (congrFun (congrFun (congrFun (lk253_23 1418 (Nat.le_of_ble_eq_true rfl)) _) _) _) _).trans rfl)
theorem e253_1419 {x : Int32} {y : Int32} : eb_E L d 253 1419 ls (zi y :: zi x :: st) M = eb_E L d 253 1420 ls (zi (x + y) :: st) M := eb_E_s hk253 ((congrFun (congrFun (congrFun (congrFun (lk253_23 1419 (Nat.le_of_ble_eq_true rfl)) _) _) _) _).trans rfl)
theorem e253_1420 {x : Int32} : eb_E L d 253 1420 ls (zi x :: Sum.inr (some a) :: st) (nc, ns, I, J, R) = if (eb_ty L a.1).1 = 17 ∧ eb_in x (eb_ty L a.1).2 = true then eb_E L d 253 1421 ls (zi (I a x.toNatClampNeg) :: st) (nc, ns, I, J, R) else none := eb_E_iy hk253 ((congrFun (congrFun (congrFun (congrFun (lk253_23 1420 (Nat.le_of_ble_eq_true rfl)) _) _) _) _).trans rfl)
theorem e253_1421 {x : Option eb_A} : eb_E L d 253 1421 [some (Sum.inr x), v1, v2, v3] (st) M = eb_E L d 253 1422 [some (Sum.inr x), v1, v2, v3] (Sum.inr x :: st) M := eb_E_s hk253 ((congrFun (congrFun (congrFun (congrFun (lk253_23 1421 (Nat.le_of_ble_eq_true rfl)) _) _) _) _).trans rfl)
theorem e253_1422 {x : Int32} : eb_E L d 253 1422 [v0, v1, v2, some (zi x)] (st) M = eb_E L d 253 1423 [v0, v1, v2, some (zi x)] (zi x :: st) M := eb_E_s hk253 ((congrFun (congrFun (congrFun (congrFun (lk253_23 1422 (Nat.le_of_ble_eq_true rfl)) _) _) _) _).trans rfl)
theorem e253_1423  : eb_E L d 253 1423 ls (st) M = eb_E L d 253 1424 ls (zi 2 :: st) M := eb_E_s hk253 ((congrFun (congrFun (congrFun (congrFun (lk253_23 1423 (Nat.le_of_ble_eq_true rfl)) _) _) _) _).trans rfl)
theorem e253_1424 {x : Int32} {y : Int32} : eb_E L d 253 1424 ls (zi y :: zi x :: st) M = eb_E L d 253 1425 ls (zi (x + y) :: st) M := eb_E_s hk253 ((congrFun (congrFun (congrFun (congrFun (lk253_23 1424 (Nat.le_of_ble_eq_true rfl)) _) _) _) _).trans rfl)
theorem e253_1425 {x : Int32} : eb_E L d 253 1425 ls (zi x :: Sum.inr (some a) :: st) (nc, ns, I, J, R) = if (eb_ty L a.1).1 = 17 ∧ eb_in x (eb_ty L a.1).2 = true then eb_E L d 253 1426 ls (zi (I a x.toNatClampNeg) :: st) (nc, ns, I, J, R) else none := eb_E_iy hk253 ((congrFun (congrFun (congrFun (congrFun (lk253_23 1425 (Nat.le_of_ble_eq_true rfl)) _) _) _) _).trans rfl)
theorem e253_1426 {s0 : Int32} : eb_E L d 253 1426 ls ([a2, a1, a0, zi s0]) M = (eb_ev L d 225 [a0, a1, a2] M).bind (fun q => eb_E L d 253 1429 ls [q.1, zi s0] q.2) := eb_E_c hk253 ((congrFun (congrFun (congrFun (congrFun (lk253_23 1426 (Nat.le_of_ble_eq_true rfl)) _) _) _) _).trans rfl)
theorem e253_1429 {x : Int32} {y : Int32} : eb_E L d 253 1429 ls (zi y :: zi x :: st) M = if x = y then eb_E L d 253 1948 ls st M else eb_E L d 253 1432 ls st M := eb_E_b hk253 ((congrFun (congrFun (congrFun (congrFun (lk253_23 1429 (Nat.le_of_ble_eq_true rfl)) _) _) _) _).trans rfl)
theorem e253_1432  : eb_E L d 253 1432 ls (st) M = eb_E L d 253 1433 ls (zi 0 :: st) M := eb_E_s hk253 ((congrFun (congrFun (congrFun (congrFun (lk253_23 1432 (Nat.le_of_ble_eq_true rfl)) _) _) _) _).trans rfl)
theorem e253_1433 {x : Int32} : eb_E L d 253 1433 ls ([zi x]) M = if x = 0 ∨ x = 1 then some (zi x, M) else none := eb_E_ri hk253 ((congrFun (congrFun (congrFun (congrFun (lk253_23 1433 (Nat.le_of_ble_eq_true rfl)) _) _) _) _).trans rfl)
theorem e253_1434 {x : Option eb_A} : eb_E L d 253 1434 [v0, some (Sum.inr x), v2, v3] (st) M = eb_E L d 253 1435 [v0, some (Sum.inr x), v2, v3] (Sum.inr x :: st) M := eb_E_s hk253 ((congrFun (congrFun (congrFun (congrFun (lk253_23 1434 (Nat.le_of_ble_eq_true rfl)) _) _) _) _).trans rfl)
theorem e253_1435 {x : Option eb_A} : eb_E L d 253 1435 [some (Sum.inr x), v1, v2, v3] (st) M = eb_E L d 253 1436 [some (Sum.inr x), v1, v2, v3] (Sum.inr x :: st) M := eb_E_s hk253 ((congrFun (congrFun (congrFun (congrFun (lk253_23 1435 (Nat.le_of_ble_eq_true rfl)) _) _) _) _).trans rfl)
theorem e253_1436 {x : Int32} : eb_E L d 253 1436 [v0, v1, v2, some (zi x)] (st) M = eb_E L d 253 1437 [v0, v1, v2, some (zi x)] (zi x :: st) M := eb_E_s hk253 ((congrFun (congrFun (congrFun (congrFun (lk253_23 1436 (Nat.le_of_ble_eq_true rfl)) _) _) _) _).trans rfl)
theorem e253_1437  : eb_E L d 253 1437 ls (st) M = eb_E L d 253 1438 ls (zi 1 :: st) M := eb_E_s hk253 ((congrFun (congrFun (congrFun (congrFun (lk253_23 1437 (Nat.le_of_ble_eq_true rfl)) _) _) _) _).trans rfl)
theorem e253_1438 {x : Int32} {y : Int32} : eb_E L d 253 1438 ls (zi y :: zi x :: st) M = eb_E L d 253 1439 ls (zi (x + y) :: st) M := eb_E_s hk253 ((congrFun (congrFun (congrFun (congrFun (lk253_23 1438 (Nat.le_of_ble_eq_true rfl)) _) _) _) _).trans rfl)
theorem e253_1439 {x : Int32} : eb_E L d 253 1439 ls (zi x :: Sum.inr (some a) :: st) (nc, ns, I, J, R) = if (eb_ty L a.1).1 = 17 ∧ eb_in x (eb_ty L a.1).2 = true then eb_E L d 253 1440 ls (zi (I a x.toNatClampNeg) :: st) (nc, ns, I, J, R) else none := eb_E_iy hk253 ((congrFun (congrFun (congrFun (congrFun (lk253_23 1439 (Nat.le_of_ble_eq_true rfl)) _) _) _) _).trans rfl)
theorem e253_1440 {x : Option eb_A} : eb_E L d 253 1440 [some (Sum.inr x), v1, v2, v3] (st) M = eb_E L d 253 1441 [some (Sum.inr x), v1, v2, v3] (Sum.inr x :: st) M := eb_E_s hk253 ((congrFun (congrFun (congrFun (congrFun (lk253_23 1440 (Nat.le_of_ble_eq_true rfl)) _) _) _) _).trans rfl)
theorem e253_1441 {x : Int32} : eb_E L d 253 1441 [v0, v1, v2, some (zi x)] (st) M = eb_E L d 253 1442 [v0, v1, v2, some (zi x)] (zi x :: st) M := eb_E_s hk253 ((congrFun (congrFun (congrFun (congrFun (lk253_23 1441 (Nat.le_of_ble_eq_true rfl)) _) _) _) _).trans rfl)
theorem e253_1442  : eb_E L d 253 1442 ls (st) M = eb_E L d 253 1443 ls (zi 2 :: st) M := eb_E_s hk253 ((congrFun (congrFun (congrFun (congrFun (lk253_23 1442 (Nat.le_of_ble_eq_true rfl)) _) _) _) _).trans rfl)
theorem e253_1443 {x : Int32} {y : Int32} : eb_E L d 253 1443 ls (zi y :: zi x :: st) M = eb_E L d 253 1444 ls (zi (x + y) :: st) M := eb_E_s hk253 ((congrFun (congrFun (congrFun (congrFun (lk253_23 1443 (Nat.le_of_ble_eq_true rfl)) _) _) _) _).trans rfl)
theorem e253_1444 {x : Int32} : eb_E L d 253 1444 ls (zi x :: Sum.inr (some a) :: st) (nc, ns, I, J, R) = if (eb_ty L a.1).1 = 17 ∧ eb_in x (eb_ty L a.1).2 = true then eb_E L d 253 1445 ls (zi (I a x.toNatClampNeg) :: st) (nc, ns, I, J, R) else none := eb_E_iy hk253 ((congrFun (congrFun (congrFun (congrFun (lk253_23 1444 (Nat.le_of_ble_eq_true rfl)) _) _) _) _).trans rfl)
theorem e253_1445 {x : Option eb_A} : eb_E L d 253 1445 [some (Sum.inr x), v1, v2, v3] (st) M = eb_E L d 253 1446 [some (Sum.inr x), v1, v2, v3] (Sum.inr x :: st) M := eb_E_s hk253 ((congrFun (congrFun (congrFun (congrFun (lk253_23 1445 (Nat.le_of_ble_eq_true rfl)) _) _) _) _).trans rfl)
theorem e253_1446 {x : Int32} : eb_E L d 253 1446 [v0, v1, v2, some (zi x)] (st) M = eb_E L d 253 1447 [v0, v1, v2, some (zi x)] (zi x :: st) M := eb_E_s hk253 ((congrFun (congrFun (congrFun (congrFun (lk253_23 1446 (Nat.le_of_ble_eq_true rfl)) _) _) _) _).trans rfl)
theorem e253_1447  : eb_E L d 253 1447 ls (st) M = eb_E L d 253 1448 ls (zi 3 :: st) M := eb_E_s hk253 ((congrFun (congrFun (congrFun (congrFun (lk253_23 1447 (Nat.le_of_ble_eq_true rfl)) _) _) _) _).trans rfl)
theorem e253_1448 {x : Int32} {y : Int32} : eb_E L d 253 1448 ls (zi y :: zi x :: st) M = eb_E L d 253 1449 ls (zi (x + y) :: st) M := eb_E_s hk253 ((congrFun (congrFun (congrFun (congrFun (lk253_23 1448 (Nat.le_of_ble_eq_true rfl)) _) _) _) _).trans rfl)
theorem e253_1449 {x : Int32} : eb_E L d 253 1449 ls (zi x :: Sum.inr (some a) :: st) (nc, ns, I, J, R) = if (eb_ty L a.1).1 = 17 ∧ eb_in x (eb_ty L a.1).2 = true then eb_E L d 253 1450 ls (zi (I a x.toNatClampNeg) :: st) (nc, ns, I, J, R) else none := eb_E_iy hk253 ((congrFun (congrFun (congrFun (congrFun (lk253_23 1449 (Nat.le_of_ble_eq_true rfl)) _) _) _) _).trans rfl)
theorem e253_1450  : eb_E L d 253 1450 ls ([a3, a2, a1, a0]) M = (eb_ev L d 107 [a0, a1, a2, a3] M).bind (fun q => eb_E L d 253 1453 ls [q.1] q.2) := eb_E_c hk253 ((congrFun (congrFun (congrFun (congrFun (lk253_23 1450 (Nat.le_of_ble_eq_true rfl)) _) _) _) _).trans rfl)
theorem e253_1453 {x : Option eb_A} : eb_E L d 253 1453 [v0, v1, some (Sum.inr x), v3] (st) M = eb_E L d 253 1454 [v0, v1, some (Sum.inr x), v3] (Sum.inr x :: st) M := eb_E_s hk253 ((congrFun (congrFun (congrFun (congrFun (lk253_23 1453 (Nat.le_of_ble_eq_true rfl)) _) _) _) _).trans rfl)
theorem e253_1454 {x : Option eb_A} : eb_E L d 253 1454 [some (Sum.inr x), v1, v2, v3] (st) M = eb_E L d 253 1455 [some (Sum.inr x), v1, v2, v3] (Sum.inr x :: st) M := eb_E_s hk253 ((congrFun (congrFun (congrFun (congrFun (lk253_23 1454 (Nat.le_of_ble_eq_true rfl)) _) _) _) _).trans rfl)
theorem e253_1455 {x : Int32} : eb_E L d 253 1455 [v0, v1, v2, some (zi x)] (st) M = eb_E L d 253 1456 [v0, v1, v2, some (zi x)] (zi x :: st) M := eb_E_s hk253 ((congrFun (congrFun (congrFun (congrFun (lk253_23 1455 (Nat.le_of_ble_eq_true rfl)) _) _) _) _).trans rfl)
theorem e253_1456  : eb_E L d 253 1456 ls (st) M = eb_E L d 253 1457 ls (zi 1 :: st) M := eb_E_s hk253 ((congrFun (congrFun (congrFun (congrFun (lk253_24 1456 (Nat.le_of_ble_eq_true rfl)) _) _) _) _).trans rfl)
theorem e253_1457 {x : Int32} {y : Int32} : eb_E L d 253 1457 ls (zi y :: zi x :: st) M = eb_E L d 253 1458 ls (zi (x + y) :: st) M := eb_E_s hk253 ((congrFun (congrFun (congrFun (congrFun (lk253_24 1457 (Nat.le_of_ble_eq_true rfl)) _) _) _) _).trans rfl)
theorem e253_1458 {x : Int32} : eb_E L d 253 1458 ls (zi x :: Sum.inr (some a) :: st) (nc, ns, I, J, R) = if (eb_ty L a.1).1 = 17 ∧ eb_in x (eb_ty L a.1).2 = true then eb_E L d 253 1459 ls (zi (I a x.toNatClampNeg) :: st) (nc, ns, I, J, R) else none := eb_E_iy hk253 ((congrFun (congrFun (congrFun (congrFun (lk253_24 1458 (Nat.le_of_ble_eq_true rfl)) _) _) _) _).trans rfl)
theorem e253_1459 {x : Option eb_A} : eb_E L d 253 1459 [some (Sum.inr x), v1, v2, v3] (st) M = eb_E L d 253 1460 [some (Sum.inr x), v1, v2, v3] (Sum.inr x :: st) M := eb_E_s hk253 ((congrFun (congrFun (congrFun (congrFun (lk253_24 1459 (Nat.le_of_ble_eq_true rfl)) _) _) _) _).trans rfl)
theorem e253_1460 {x : Int32} : eb_E L d 253 1460 [v0, v1, v2, some (zi x)] (st) M = eb_E L d 253 1461 [v0, v1, v2, some (zi x)] (zi x :: st) M := eb_E_s hk253 ((congrFun (congrFun (congrFun (congrFun (lk253_24 1460 (Nat.le_of_ble_eq_true rfl)) _) _) _) _).trans rfl)
theorem e253_1461  : eb_E L d 253 1461 ls (st) M = eb_E L d 253 1462 ls (zi 2 :: st) M := eb_E_s hk253 ((congrFun (congrFun (congrFun (congrFun (lk253_24 1461 (Nat.le_of_ble_eq_true rfl)) _) _) _) _).trans rfl)
theorem e253_1462 {x : Int32} {y : Int32} : eb_E L d 253 1462 ls (zi y :: zi x :: st) M = eb_E L d 253 1463 ls (zi (x + y) :: st) M := eb_E_s hk253 ((congrFun (congrFun (congrFun (congrFun (lk253_24 1462 (Nat.le_of_ble_eq_true rfl)) _) _) _) _).trans rfl)
theorem e253_1463 {x : Int32} : eb_E L d 253 1463 ls (zi x :: Sum.inr (some a) :: st) (nc, ns, I, J, R) = if (eb_ty L a.1).1 = 17 ∧ eb_in x (eb_ty L a.1).2 = true then eb_E L d 253 1464 ls (zi (I a x.toNatClampNeg) :: st) (nc, ns, I, J, R) else none := eb_E_iy hk253 ((congrFun (congrFun (congrFun (congrFun (lk253_24 1463 (Nat.le_of_ble_eq_true rfl)) _) _) _) _).trans rfl)
theorem e253_1464 {x : Option eb_A} : eb_E L d 253 1464 [some (Sum.inr x), v1, v2, v3] (st) M = eb_E L d 253 1465 [some (Sum.inr x), v1, v2, v3] (Sum.inr x :: st) M := eb_E_s hk253 ((congrFun (congrFun (congrFun (congrFun (lk253_24 1464 (Nat.le_of_ble_eq_true rfl)) _) _) _) _).trans rfl)
theorem e253_1465 {x : Int32} : eb_E L d 253 1465 [v0, v1, v2, some (zi x)] (st) M = eb_E L d 253 1466 [v0, v1, v2, some (zi x)] (zi x :: st) M := eb_E_s hk253 ((congrFun (congrFun (congrFun (congrFun (lk253_24 1465 (Nat.le_of_ble_eq_true rfl)) _) _) _) _).trans rfl)
theorem e253_1466  : eb_E L d 253 1466 ls (st) M = eb_E L d 253 1467 ls (zi 3 :: st) M := eb_E_s hk253 ((congrFun (congrFun (congrFun (congrFun (lk253_24 1466 (Nat.le_of_ble_eq_true rfl)) _) _) _) _).trans rfl)
theorem e253_1467 {x : Int32} {y : Int32} : eb_E L d 253 1467 ls (zi y :: zi x :: st) M = eb_E L d 253 1468 ls (zi (x + y) :: st) M := eb_E_s hk253 ((congrFun (congrFun (congrFun (congrFun (lk253_24 1467 (Nat.le_of_ble_eq_true rfl)) _) _) _) _).trans rfl)
theorem e253_1468 {x : Int32} : eb_E L d 253 1468 ls (zi x :: Sum.inr (some a) :: st) (nc, ns, I, J, R) = if (eb_ty L a.1).1 = 17 ∧ eb_in x (eb_ty L a.1).2 = true then eb_E L d 253 1469 ls (zi (I a x.toNatClampNeg) :: st) (nc, ns, I, J, R) else none := eb_E_iy hk253 ((congrFun (congrFun (congrFun (congrFun (lk253_24 1468 (Nat.le_of_ble_eq_true rfl)) _) _) _) _).trans rfl)
theorem e253_1469 {s0 : Int32} : eb_E L d 253 1469 ls ([a3, a2, a1, a0, zi s0]) M = (eb_ev L d 226 [a0, a1, a2, a3] M).bind (fun q => eb_E L d 253 1472 ls [q.1, zi s0] q.2) := eb_E_c hk253 ((congrFun (congrFun (congrFun (congrFun (lk253_24 1469 (Nat.le_of_ble_eq_true rfl)) _) _) _) _).trans rfl)
theorem e253_1472 {x : Int32} {y : Int32} : eb_E L d 253 1472 ls (zi y :: zi x :: st) M = if x = y then eb_E L d 253 1948 ls st M else eb_E L d 253 1475 ls st M := eb_E_b hk253 ((congrFun (congrFun (congrFun (congrFun (lk253_24 1472 (Nat.le_of_ble_eq_true rfl)) _) _) _) _).trans rfl)
theorem e253_1475  : eb_E L d 253 1475 ls (st) M = eb_E L d 253 1476 ls (zi 0 :: st) M := eb_E_s hk253 ((congrFun (congrFun (congrFun (congrFun (lk253_24 1475 (Nat.le_of_ble_eq_true rfl)) _) _) _) _).trans rfl)
theorem e253_1476 {x : Int32} : eb_E L d 253 1476 ls ([zi x]) M = if x = 0 ∨ x = 1 then some (zi x, M) else none := eb_E_ri hk253 ((congrFun (congrFun (congrFun (congrFun (lk253_24 1476 (Nat.le_of_ble_eq_true rfl)) _) _) _) _).trans rfl)
theorem e253_1477 {x : Option eb_A} : eb_E L d 253 1477 [v0, some (Sum.inr x), v2, v3] (st) M = eb_E L d 253 1478 [v0, some (Sum.inr x), v2, v3] (Sum.inr x :: st) M := eb_E_s hk253 ((congrFun (congrFun (congrFun (congrFun (lk253_24 1477 (Nat.le_of_ble_eq_true rfl)) _) _) _) _).trans rfl)
theorem e253_1478 {x : Option eb_A} : eb_E L d 253 1478 [some (Sum.inr x), v1, v2, v3] (st) M = eb_E L d 253 1479 [some (Sum.inr x), v1, v2, v3] (Sum.inr x :: st) M := eb_E_s hk253 ((congrFun (congrFun (congrFun (congrFun (lk253_24 1478 (Nat.le_of_ble_eq_true rfl)) _) _) _) _).trans rfl)
theorem e253_1479 {x : Int32} : eb_E L d 253 1479 [v0, v1, v2, some (zi x)] (st) M = eb_E L d 253 1480 [v0, v1, v2, some (zi x)] (zi x :: st) M := eb_E_s hk253 ((congrFun (congrFun (congrFun (congrFun (lk253_24 1479 (Nat.le_of_ble_eq_true rfl)) _) _) _) _).trans rfl)
theorem e253_1480  : eb_E L d 253 1480 ls (st) M = eb_E L d 253 1481 ls (zi 1 :: st) M := eb_E_s hk253 ((congrFun (congrFun (congrFun (congrFun (lk253_24 1480 (Nat.le_of_ble_eq_true rfl)) _) _) _) _).trans rfl)
theorem e253_1481 {x : Int32} {y : Int32} : eb_E L d 253 1481 ls (zi y :: zi x :: st) M = eb_E L d 253 1482 ls (zi (x + y) :: st) M := eb_E_s hk253 ((congrFun (congrFun (congrFun (congrFun (lk253_24 1481 (Nat.le_of_ble_eq_true rfl)) _) _) _) _).trans rfl)
theorem e253_1482 {x : Int32} : eb_E L d 253 1482 ls (zi x :: Sum.inr (some a) :: st) (nc, ns, I, J, R) = if (eb_ty L a.1).1 = 17 ∧ eb_in x (eb_ty L a.1).2 = true then eb_E L d 253 1483 ls (zi (I a x.toNatClampNeg) :: st) (nc, ns, I, J, R) else none := eb_E_iy hk253 ((congrFun (congrFun (congrFun (congrFun (lk253_24 1482 (Nat.le_of_ble_eq_true rfl)) _) _) _) _).trans rfl)
theorem e253_1483 {x : Option eb_A} : eb_E L d 253 1483 [some (Sum.inr x), v1, v2, v3] (st) M = eb_E L d 253 1484 [some (Sum.inr x), v1, v2, v3] (Sum.inr x :: st) M := eb_E_s hk253 ((congrFun (congrFun (congrFun (congrFun (lk253_24 1483 (Nat.le_of_ble_eq_true rfl)) _) _) _) _).trans rfl)
theorem e253_1484 {x : Int32} : eb_E L d 253 1484 [v0, v1, v2, some (zi x)] (st) M = eb_E L d 253 1485 [v0, v1, v2, some (zi x)] (zi x :: st) M := eb_E_s hk253 ((congrFun (congrFun (congrFun (congrFun (lk253_24 1484 (Nat.le_of_ble_eq_true rfl)) _) _) _) _).trans rfl)
theorem e253_1485  : eb_E L d 253 1485 ls (st) M = eb_E L d 253 1486 ls (zi 2 :: st) M := eb_E_s hk253 ((congrFun (congrFun (congrFun (congrFun (lk253_24 1485 (Nat.le_of_ble_eq_true rfl)) _) _) _) _).trans rfl)
theorem e253_1486 {x : Int32} {y : Int32} : eb_E L d 253 1486 ls (zi y :: zi x :: st) M = eb_E L d 253 1487 ls (zi (x + y) :: st) M := eb_E_s hk253 ((congrFun (congrFun (congrFun (congrFun (lk253_24 1486 (Nat.le_of_ble_eq_true rfl)) _) _) _) _).trans rfl)
theorem e253_1487 {x : Int32} : eb_E L d 253 1487 ls (zi x :: Sum.inr (some a) :: st) (nc, ns, I, J, R) = if (eb_ty L a.1).1 = 17 ∧ eb_in x (eb_ty L a.1).2 = true then eb_E L d 253 1488 ls (zi (I a x.toNatClampNeg) :: st) (nc, ns, I, J, R) else none := eb_E_iy hk253 ((congrFun (congrFun (congrFun (congrFun (lk253_24 1487 (Nat.le_of_ble_eq_true rfl)) _) _) _) _).trans rfl)
theorem e253_1488  : eb_E L d 253 1488 ls ([a2, a1, a0]) M = (eb_ev L d 108 [a0, a1, a2] M).bind (fun q => eb_E L d 253 1491 ls [q.1] q.2) := eb_E_c hk253 ((congrFun (congrFun (congrFun (congrFun (lk253_24 1488 (Nat.le_of_ble_eq_true rfl)) _) _) _) _).trans rfl)
theorem e253_1491 {x : Option eb_A} : eb_E L d 253 1491 [v0, v1, some (Sum.inr x), v3] (st) M = eb_E L d 253 1492 [v0, v1, some (Sum.inr x), v3] (Sum.inr x :: st) M := eb_E_s hk253 ((congrFun (congrFun (congrFun (congrFun (lk253_24 1491 (Nat.le_of_ble_eq_true rfl)) _) _) _) _).trans rfl)
theorem e253_1492 {x : Option eb_A} : eb_E L d 253 1492 [some (Sum.inr x), v1, v2, v3] (st) M = eb_E L d 253 1493 [some (Sum.inr x), v1, v2, v3] (Sum.inr x :: st) M := eb_E_s hk253 ((congrFun (congrFun (congrFun (congrFun (lk253_24 1492 (Nat.le_of_ble_eq_true rfl)) _) _) _) _).trans rfl)
theorem e253_1493 {x : Int32} : eb_E L d 253 1493 [v0, v1, v2, some (zi x)] (st) M = eb_E L d 253 1494 [v0, v1, v2, some (zi x)] (zi x :: st) M := eb_E_s hk253 ((congrFun (congrFun (congrFun (congrFun (lk253_24 1493 (Nat.le_of_ble_eq_true rfl)) _) _) _) _).trans rfl)
theorem e253_1494  : eb_E L d 253 1494 ls (st) M = eb_E L d 253 1495 ls (zi 1 :: st) M := eb_E_s hk253 ((congrFun (congrFun (congrFun (congrFun (lk253_24 1494 (Nat.le_of_ble_eq_true rfl)) _) _) _) _).trans rfl)
theorem e253_1495 {x : Int32} {y : Int32} : eb_E L d 253 1495 ls (zi y :: zi x :: st) M = eb_E L d 253 1496 ls (zi (x + y) :: st) M := eb_E_s hk253 ((congrFun (congrFun (congrFun (congrFun (lk253_24 1495 (Nat.le_of_ble_eq_true rfl)) _) _) _) _).trans rfl)
theorem e253_1496 {x : Int32} : eb_E L d 253 1496 ls (zi x :: Sum.inr (some a) :: st) (nc, ns, I, J, R) = if (eb_ty L a.1).1 = 17 ∧ eb_in x (eb_ty L a.1).2 = true then eb_E L d 253 1497 ls (zi (I a x.toNatClampNeg) :: st) (nc, ns, I, J, R) else none := eb_E_iy hk253 ((congrFun (congrFun (congrFun (congrFun (lk253_24 1496 (Nat.le_of_ble_eq_true rfl)) _) _) _) _).trans rfl)
theorem e253_1497 {x : Option eb_A} : eb_E L d 253 1497 [some (Sum.inr x), v1, v2, v3] (st) M = eb_E L d 253 1498 [some (Sum.inr x), v1, v2, v3] (Sum.inr x :: st) M := eb_E_s hk253 ((congrFun (congrFun (congrFun (congrFun (lk253_24 1497 (Nat.le_of_ble_eq_true rfl)) _) _) _) _).trans rfl)
theorem e253_1498 {x : Int32} : eb_E L d 253 1498 [v0, v1, v2, some (zi x)] (st) M = eb_E L d 253 1499 [v0, v1, v2, some (zi x)] (zi x :: st) M := eb_E_s hk253 ((congrFun (congrFun (congrFun (congrFun (lk253_24 1498 (Nat.le_of_ble_eq_true rfl)) _) _) _) _).trans rfl)
theorem e253_1499  : eb_E L d 253 1499 ls (st) M = eb_E L d 253 1500 ls (zi 2 :: st) M := eb_E_s hk253 ((congrFun (congrFun (congrFun (congrFun (lk253_24 1499 (Nat.le_of_ble_eq_true rfl)) _) _) _) _).trans rfl)
theorem e253_1500 {x : Int32} {y : Int32} : eb_E L d 253 1500 ls (zi y :: zi x :: st) M = eb_E L d 253 1501 ls (zi (x + y) :: st) M := eb_E_s hk253 ((congrFun (congrFun (congrFun (congrFun (lk253_24 1500 (Nat.le_of_ble_eq_true rfl)) _) _) _) _).trans rfl)
theorem e253_1501 {x : Int32} : eb_E L d 253 1501 ls (zi x :: Sum.inr (some a) :: st) (nc, ns, I, J, R) = if (eb_ty L a.1).1 = 17 ∧ eb_in x (eb_ty L a.1).2 = true then eb_E L d 253 1502 ls (zi (I a x.toNatClampNeg) :: st) (nc, ns, I, J, R) else none := eb_E_iy hk253 ((congrFun (congrFun (congrFun (congrFun (lk253_24 1501 (Nat.le_of_ble_eq_true rfl)) _) _) _) _).trans rfl)
theorem e253_1502 {s0 : Int32} : eb_E L d 253 1502 ls ([a2, a1, a0, zi s0]) M = (eb_ev L d 229 [a0, a1, a2] M).bind (fun q => eb_E L d 253 1505 ls [q.1, zi s0] q.2) := eb_E_c hk253 ((congrFun (congrFun (congrFun (congrFun (lk253_25 1502 (Nat.le_of_ble_eq_true rfl)) _) _) _) _).trans rfl)
theorem e253_1505 {x : Int32} {y : Int32} : eb_E L d 253 1505 ls (zi y :: zi x :: st) M = if x = y then eb_E L d 253 1948 ls st M else eb_E L d 253 1508 ls st M := eb_E_b hk253 ((congrFun (congrFun (congrFun (congrFun (lk253_25 1505 (Nat.le_of_ble_eq_true rfl)) _) _) _) _).trans rfl)
theorem e253_1508  : eb_E L d 253 1508 ls (st) M = eb_E L d 253 1509 ls (zi 0 :: st) M := eb_E_s hk253 ((congrFun (congrFun (congrFun (congrFun (lk253_25 1508 (Nat.le_of_ble_eq_true rfl)) _) _) _) _).trans rfl)
theorem e253_1509 {x : Int32} : eb_E L d 253 1509 ls ([zi x]) M = if x = 0 ∨ x = 1 then some (zi x, M) else none := eb_E_ri hk253 ((congrFun (congrFun (congrFun (congrFun (lk253_25 1509 (Nat.le_of_ble_eq_true rfl)) _) _) _) _).trans rfl)
theorem e253_1510 {x : Option eb_A} : eb_E L d 253 1510 [v0, some (Sum.inr x), v2, v3] (st) M = eb_E L d 253 1511 [v0, some (Sum.inr x), v2, v3] (Sum.inr x :: st) M := eb_E_s hk253 ((congrFun (congrFun (congrFun (congrFun (lk253_25 1510 (Nat.le_of_ble_eq_true rfl)) _) _) _) _).trans rfl)
theorem e253_1511 {x : Option eb_A} : eb_E L d 253 1511 [some (Sum.inr x), v1, v2, v3] (st) M = eb_E L d 253 1512 [some (Sum.inr x), v1, v2, v3] (Sum.inr x :: st) M := eb_E_s hk253 ((congrFun (congrFun (congrFun (congrFun (lk253_25 1511 (Nat.le_of_ble_eq_true rfl)) _) _) _) _).trans rfl)
theorem e253_1512 {x : Int32} : eb_E L d 253 1512 [v0, v1, v2, some (zi x)] (st) M = eb_E L d 253 1513 [v0, v1, v2, some (zi x)] (zi x :: st) M := eb_E_s hk253 ((congrFun (congrFun (congrFun (congrFun (lk253_25 1512 (Nat.le_of_ble_eq_true rfl)) _) _) _) _).trans rfl)
theorem e253_1513  : eb_E L d 253 1513 ls (st) M = eb_E L d 253 1514 ls (zi 1 :: st) M := eb_E_s hk253 ((congrFun (congrFun (congrFun (congrFun (lk253_25 1513 (Nat.le_of_ble_eq_true rfl)) _) _) _) _).trans rfl)
theorem e253_1514 {x : Int32} {y : Int32} : eb_E L d 253 1514 ls (zi y :: zi x :: st) M = eb_E L d 253 1515 ls (zi (x + y) :: st) M := eb_E_s hk253 ((congrFun (congrFun (congrFun (congrFun (lk253_25 1514 (Nat.le_of_ble_eq_true rfl)) _) _) _) _).trans rfl)
theorem e253_1515 {x : Int32} : eb_E L d 253 1515 ls (zi x :: Sum.inr (some a) :: st) (nc, ns, I, J, R) = if (eb_ty L a.1).1 = 17 ∧ eb_in x (eb_ty L a.1).2 = true then eb_E L d 253 1516 ls (zi (I a x.toNatClampNeg) :: st) (nc, ns, I, J, R) else none := eb_E_iy hk253 ((congrFun (congrFun (congrFun (congrFun (lk253_25 1515 (Nat.le_of_ble_eq_true rfl)) _) _) _) _).trans rfl)
theorem e253_1516 {x : Option eb_A} : eb_E L d 253 1516 [some (Sum.inr x), v1, v2, v3] (st) M = eb_E L d 253 1517 [some (Sum.inr x), v1, v2, v3] (Sum.inr x :: st) M := eb_E_s hk253 ((congrFun (congrFun (congrFun (congrFun (lk253_25 1516 (Nat.le_of_ble_eq_true rfl)) _) _) _) _).trans rfl)
theorem e253_1517 {x : Int32} : eb_E L d 253 1517 [v0, v1, v2, some (zi x)] (st) M = eb_E L d 253 1518 [v0, v1, v2, some (zi x)] (zi x :: st) M := eb_E_s hk253 ((congrFun (congrFun (congrFun (congrFun (lk253_25 1517 (Nat.le_of_ble_eq_true rfl)) _) _) _) _).trans rfl)
theorem e253_1518  : eb_E L d 253 1518 ls (st) M = eb_E L d 253 1519 ls (zi 2 :: st) M := eb_E_s hk253 ((congrFun (congrFun (congrFun (congrFun (lk253_25 1518 (Nat.le_of_ble_eq_true rfl)) _) _) _) _).trans rfl)
theorem e253_1519 {x : Int32} {y : Int32} : eb_E L d 253 1519 ls (zi y :: zi x :: st) M = eb_E L d 253 1520 ls (zi (x + y) :: st) M := eb_E_s hk253 ((congrFun (congrFun (congrFun (congrFun (lk253_25 1519 (Nat.le_of_ble_eq_true rfl)) _) _) _) _).trans rfl)
theorem e253_1520 {x : Int32} : eb_E L d 253 1520 ls (zi x :: Sum.inr (some a) :: st) (nc, ns, I, J, R) = if (eb_ty L a.1).1 = 17 ∧ eb_in x (eb_ty L a.1).2 = true then eb_E L d 253 1521 ls (zi (I a x.toNatClampNeg) :: st) (nc, ns, I, J, R) else none := eb_E_iy hk253 ((congrFun (congrFun (congrFun (congrFun (lk253_25 1520 (Nat.le_of_ble_eq_true rfl)) _) _) _) _).trans rfl)
theorem e253_1521  : eb_E L d 253 1521 ls ([a2, a1, a0]) M = (eb_ev L d 109 [a0, a1, a2] M).bind (fun q => eb_E L d 253 1524 ls [q.1] q.2) := eb_E_c hk253 ((congrFun (congrFun (congrFun (congrFun (lk253_25 1521 (Nat.le_of_ble_eq_true rfl)) _) _) _) _).trans rfl)
theorem e253_1524 {x : Option eb_A} : eb_E L d 253 1524 [v0, v1, some (Sum.inr x), v3] (st) M = eb_E L d 253 1525 [v0, v1, some (Sum.inr x), v3] (Sum.inr x :: st) M := eb_E_s hk253 ((congrFun (congrFun (congrFun (congrFun (lk253_25 1524 (Nat.le_of_ble_eq_true rfl)) _) _) _) _).trans rfl)
theorem e253_1525 {x : Option eb_A} : eb_E L d 253 1525 [some (Sum.inr x), v1, v2, v3] (st) M = eb_E L d 253 1526 [some (Sum.inr x), v1, v2, v3] (Sum.inr x :: st) M := eb_E_s hk253 ((congrFun (congrFun (congrFun (congrFun (lk253_25 1525 (Nat.le_of_ble_eq_true rfl)) _) _) _) _).trans rfl)
theorem e253_1526 {x : Int32} : eb_E L d 253 1526 [v0, v1, v2, some (zi x)] (st) M = eb_E L d 253 1527 [v0, v1, v2, some (zi x)] (zi x :: st) M := eb_E_s hk253 ((congrFun (congrFun (congrFun (congrFun (lk253_25 1526 (Nat.le_of_ble_eq_true rfl)) _) _) _) _).trans rfl)
theorem e253_1527  : eb_E L d 253 1527 ls (st) M = eb_E L d 253 1528 ls (zi 1 :: st) M := eb_E_s hk253 ((congrFun (congrFun (congrFun (congrFun (lk253_25 1527 (Nat.le_of_ble_eq_true rfl)) _) _) _) _).trans rfl)
theorem e253_1528 {x : Int32} {y : Int32} : eb_E L d 253 1528 ls (zi y :: zi x :: st) M = eb_E L d 253 1529 ls (zi (x + y) :: st) M := eb_E_s hk253 ((congrFun (congrFun (congrFun (congrFun (lk253_25 1528 (Nat.le_of_ble_eq_true rfl)) _) _) _) _).trans rfl)
theorem e253_1529 {x : Int32} : eb_E L d 253 1529 ls (zi x :: Sum.inr (some a) :: st) (nc, ns, I, J, R) = if (eb_ty L a.1).1 = 17 ∧ eb_in x (eb_ty L a.1).2 = true then eb_E L d 253 1530 ls (zi (I a x.toNatClampNeg) :: st) (nc, ns, I, J, R) else none := eb_E_iy hk253 ((congrFun (congrFun (congrFun (congrFun (lk253_25 1529 (Nat.le_of_ble_eq_true rfl)) _) _) _) _).trans rfl)
theorem e253_1530 {x : Option eb_A} : eb_E L d 253 1530 [some (Sum.inr x), v1, v2, v3] (st) M = eb_E L d 253 1531 [some (Sum.inr x), v1, v2, v3] (Sum.inr x :: st) M := eb_E_s hk253 ((congrFun (congrFun (congrFun (congrFun (lk253_25 1530 (Nat.le_of_ble_eq_true rfl)) _) _) _) _).trans rfl)
theorem e253_1531 {x : Int32} : eb_E L d 253 1531 [v0, v1, v2, some (zi x)] (st) M = eb_E L d 253 1532 [v0, v1, v2, some (zi x)] (zi x :: st) M := eb_E_s hk253 ((congrFun (congrFun (congrFun (congrFun (lk253_25 1531 (Nat.le_of_ble_eq_true rfl)) _) _) _) _).trans rfl)
theorem e253_1532  : eb_E L d 253 1532 ls (st) M = eb_E L d 253 1533 ls (zi 2 :: st) M := eb_E_s hk253 ((congrFun (congrFun (congrFun (congrFun (lk253_25 1532 (Nat.le_of_ble_eq_true rfl)) _) _) _) _).trans rfl)
theorem e253_1533 {x : Int32} {y : Int32} : eb_E L d 253 1533 ls (zi y :: zi x :: st) M = eb_E L d 253 1534 ls (zi (x + y) :: st) M := eb_E_s hk253 ((congrFun (congrFun (congrFun (congrFun (lk253_25 1533 (Nat.le_of_ble_eq_true rfl)) _) _) _) _).trans rfl)
theorem e253_1534 {x : Int32} : eb_E L d 253 1534 ls (zi x :: Sum.inr (some a) :: st) (nc, ns, I, J, R) = if (eb_ty L a.1).1 = 17 ∧ eb_in x (eb_ty L a.1).2 = true then eb_E L d 253 1535 ls (zi (I a x.toNatClampNeg) :: st) (nc, ns, I, J, R) else none := eb_E_iy hk253 ((congrFun (congrFun (congrFun (congrFun (lk253_25 1534 (Nat.le_of_ble_eq_true rfl)) _) _) _) _).trans rfl)
theorem e253_1535 {s0 : Int32} : eb_E L d 253 1535 ls ([a2, a1, a0, zi s0]) M = (eb_ev L d 230 [a0, a1, a2] M).bind (fun q => eb_E L d 253 1538 ls [q.1, zi s0] q.2) := eb_E_c hk253 ((congrFun (congrFun (congrFun (congrFun (lk253_25 1535 (Nat.le_of_ble_eq_true rfl)) _) _) _) _).trans rfl)
theorem e253_1538 {x : Int32} {y : Int32} : eb_E L d 253 1538 ls (zi y :: zi x :: st) M = if x = y then eb_E L d 253 1948 ls st M else eb_E L d 253 1541 ls st M := eb_E_b hk253 ((congrFun (congrFun (congrFun (congrFun (lk253_25 1538 (Nat.le_of_ble_eq_true rfl)) _) _) _) _).trans rfl)
theorem e253_1541  : eb_E L d 253 1541 ls (st) M = eb_E L d 253 1542 ls (zi 0 :: st) M := eb_E_s hk253 ((congrFun (congrFun (congrFun (congrFun (lk253_25 1541 (Nat.le_of_ble_eq_true rfl)) _) _) _) _).trans rfl)
theorem e253_1542 {x : Int32} : eb_E L d 253 1542 ls ([zi x]) M = if x = 0 ∨ x = 1 then some (zi x, M) else none := eb_E_ri hk253 ((congrFun (congrFun (congrFun (congrFun (lk253_25 1542 (Nat.le_of_ble_eq_true rfl)) _) _) _) _).trans rfl)
theorem e253_1543 {x : Option eb_A} : eb_E L d 253 1543 [v0, some (Sum.inr x), v2, v3] (st) M = eb_E L d 253 1544 [v0, some (Sum.inr x), v2, v3] (Sum.inr x :: st) M := eb_E_s hk253 ((congrFun (congrFun (congrFun (congrFun (lk253_25 1543 (Nat.le_of_ble_eq_true rfl)) _) _) _) _).trans rfl)
theorem e253_1544 {x : Option eb_A} : eb_E L d 253 1544 [some (Sum.inr x), v1, v2, v3] (st) M = eb_E L d 253 1545 [some (Sum.inr x), v1, v2, v3] (Sum.inr x :: st) M := eb_E_s hk253 ((congrFun (congrFun (congrFun (congrFun (lk253_25 1544 (Nat.le_of_ble_eq_true rfl)) _) _) _) _).trans rfl)
theorem e253_1545 {x : Int32} : eb_E L d 253 1545 [v0, v1, v2, some (zi x)] (st) M = eb_E L d 253 1546 [v0, v1, v2, some (zi x)] (zi x :: st) M := eb_E_s hk253 ((congrFun (congrFun (congrFun (congrFun (lk253_25 1545 (Nat.le_of_ble_eq_true rfl)) _) _) _) _).trans rfl)
theorem e253_1546  : eb_E L d 253 1546 ls (st) M = eb_E L d 253 1547 ls (zi 1 :: st) M := eb_E_s hk253 ((congrFun (congrFun (congrFun (congrFun (lk253_25 1546 (Nat.le_of_ble_eq_true rfl)) _) _) _) _).trans rfl)
theorem e253_1547 {x : Int32} {y : Int32} : eb_E L d 253 1547 ls (zi y :: zi x :: st) M = eb_E L d 253 1548 ls (zi (x + y) :: st) M := eb_E_s hk253 ((congrFun (congrFun (congrFun (congrFun (lk253_25 1547 (Nat.le_of_ble_eq_true rfl)) _) _) _) _).trans rfl)
theorem e253_1548 {x : Int32} : eb_E L d 253 1548 ls (zi x :: Sum.inr (some a) :: st) (nc, ns, I, J, R) = if (eb_ty L a.1).1 = 17 ∧ eb_in x (eb_ty L a.1).2 = true then eb_E L d 253 1549 ls (zi (I a x.toNatClampNeg) :: st) (nc, ns, I, J, R) else none := eb_E_iy hk253 ((congrFun (congrFun (congrFun (congrFun (lk253_25 1548 (Nat.le_of_ble_eq_true rfl)) _) _) _) _).trans rfl)
theorem e253_1549  : eb_E L d 253 1549 ls ([a1, a0]) M = (eb_ev L d 110 [a0, a1] M).bind (fun q => eb_E L d 253 1552 ls [q.1] q.2) := eb_E_c hk253 ((congrFun (congrFun (congrFun (congrFun (lk253_25 1549 (Nat.le_of_ble_eq_true rfl)) _) _) _) _).trans rfl)
theorem e253_1552 {x : Option eb_A} : eb_E L d 253 1552 [v0, v1, some (Sum.inr x), v3] (st) M = eb_E L d 253 1553 [v0, v1, some (Sum.inr x), v3] (Sum.inr x :: st) M := eb_E_s hk253 ((congrFun (congrFun (congrFun (congrFun (lk253_25 1552 (Nat.le_of_ble_eq_true rfl)) _) _) _) _).trans rfl)
theorem e253_1553 {x : Option eb_A} : eb_E L d 253 1553 [some (Sum.inr x), v1, v2, v3] (st) M = eb_E L d 253 1554 [some (Sum.inr x), v1, v2, v3] (Sum.inr x :: st) M := eb_E_s hk253 ((congrFun (congrFun (congrFun (congrFun (lk253_25 1553 (Nat.le_of_ble_eq_true rfl)) _) _) _) _).trans rfl)
theorem e253_1554 {x : Int32} : eb_E L d 253 1554 [v0, v1, v2, some (zi x)] (st) M = eb_E L d 253 1555 [v0, v1, v2, some (zi x)] (zi x :: st) M := eb_E_s hk253 ((congrFun (congrFun (congrFun (congrFun (lk253_26 1554 (Nat.le_of_ble_eq_true rfl)) _) _) _) _).trans rfl)
theorem e253_1555  : eb_E L d 253 1555 ls (st) M = eb_E L d 253 1556 ls (zi 1 :: st) M := eb_E_s hk253 ((congrFun (congrFun (congrFun (congrFun (lk253_26 1555 (Nat.le_of_ble_eq_true rfl)) _) _) _) _).trans rfl)
theorem e253_1556 {x : Int32} {y : Int32} : eb_E L d 253 1556 ls (zi y :: zi x :: st) M = eb_E L d 253 1557 ls (zi (x + y) :: st) M := eb_E_s hk253 ((congrFun (congrFun (congrFun (congrFun (lk253_26 1556 (Nat.le_of_ble_eq_true rfl)) _) _) _) _).trans rfl)
theorem e253_1557 {x : Int32} : eb_E L d 253 1557 ls (zi x :: Sum.inr (some a) :: st) (nc, ns, I, J, R) = if (eb_ty L a.1).1 = 17 ∧ eb_in x (eb_ty L a.1).2 = true then eb_E L d 253 1558 ls (zi (I a x.toNatClampNeg) :: st) (nc, ns, I, J, R) else none := eb_E_iy hk253 ((congrFun (congrFun (congrFun (congrFun (lk253_26 1557 (Nat.le_of_ble_eq_true rfl)) _) _) _) _).trans rfl)
theorem e253_1558 {s0 : Int32} : eb_E L d 253 1558 ls ([a1, a0, zi s0]) M = (eb_ev L d 231 [a0, a1] M).bind (fun q => eb_E L d 253 1561 ls [q.1, zi s0] q.2) := eb_E_c hk253 ((congrFun (congrFun (congrFun (congrFun (lk253_26 1558 (Nat.le_of_ble_eq_true rfl)) _) _) _) _).trans rfl)
theorem e253_1561 {x : Int32} {y : Int32} : eb_E L d 253 1561 ls (zi y :: zi x :: st) M = if x = y then eb_E L d 253 1948 ls st M else eb_E L d 253 1564 ls st M := eb_E_b hk253 ((congrFun (congrFun (congrFun (congrFun (lk253_26 1561 (Nat.le_of_ble_eq_true rfl)) _) _) _) _).trans rfl)
theorem e253_1564  : eb_E L d 253 1564 ls (st) M = eb_E L d 253 1565 ls (zi 0 :: st) M := eb_E_s hk253 ((congrFun (congrFun (congrFun (congrFun (lk253_26 1564 (Nat.le_of_ble_eq_true rfl)) _) _) _) _).trans rfl)
theorem e253_1565 {x : Int32} : eb_E L d 253 1565 ls ([zi x]) M = if x = 0 ∨ x = 1 then some (zi x, M) else none := eb_E_ri hk253 ((congrFun (congrFun (congrFun (congrFun (lk253_26 1565 (Nat.le_of_ble_eq_true rfl)) _) _) _) _).trans rfl)
theorem e253_1566 {x : Option eb_A} : eb_E L d 253 1566 [v0, some (Sum.inr x), v2, v3] (st) M = eb_E L d 253 1567 [v0, some (Sum.inr x), v2, v3] (Sum.inr x :: st) M := eb_E_s hk253 ((congrFun (congrFun (congrFun (congrFun (lk253_26 1566 (Nat.le_of_ble_eq_true rfl)) _) _) _) _).trans rfl)
theorem e253_1567 {x : Option eb_A} : eb_E L d 253 1567 [some (Sum.inr x), v1, v2, v3] (st) M = eb_E L d 253 1568 [some (Sum.inr x), v1, v2, v3] (Sum.inr x :: st) M := eb_E_s hk253 ((congrFun (congrFun (congrFun (congrFun (lk253_26 1567 (Nat.le_of_ble_eq_true rfl)) _) _) _) _).trans rfl)
theorem e253_1568 {x : Int32} : eb_E L d 253 1568 [v0, v1, v2, some (zi x)] (st) M = eb_E L d 253 1569 [v0, v1, v2, some (zi x)] (zi x :: st) M := eb_E_s hk253 ((congrFun (congrFun (congrFun (congrFun (lk253_26 1568 (Nat.le_of_ble_eq_true rfl)) _) _) _) _).trans rfl)
theorem e253_1569  : eb_E L d 253 1569 ls (st) M = eb_E L d 253 1570 ls (zi 1 :: st) M := eb_E_s hk253 ((congrFun (congrFun (congrFun (congrFun (lk253_26 1569 (Nat.le_of_ble_eq_true rfl)) _) _) _) _).trans rfl)
theorem e253_1570 {x : Int32} {y : Int32} : eb_E L d 253 1570 ls (zi y :: zi x :: st) M = eb_E L d 253 1571 ls (zi (x + y) :: st) M := eb_E_s hk253 ((congrFun (congrFun (congrFun (congrFun (lk253_26 1570 (Nat.le_of_ble_eq_true rfl)) _) _) _) _).trans rfl)
theorem e253_1571 {x : Int32} : eb_E L d 253 1571 ls (zi x :: Sum.inr (some a) :: st) (nc, ns, I, J, R) = if (eb_ty L a.1).1 = 17 ∧ eb_in x (eb_ty L a.1).2 = true then eb_E L d 253 1572 ls (zi (I a x.toNatClampNeg) :: st) (nc, ns, I, J, R) else none := eb_E_iy hk253 ((congrFun (congrFun (congrFun (congrFun (lk253_26 1571 (Nat.le_of_ble_eq_true rfl)) _) _) _) _).trans rfl)
theorem e253_1572 {x : Option eb_A} : eb_E L d 253 1572 [some (Sum.inr x), v1, v2, v3] (st) M = eb_E L d 253 1573 [some (Sum.inr x), v1, v2, v3] (Sum.inr x :: st) M := eb_E_s hk253 ((congrFun (congrFun (congrFun (congrFun (lk253_26 1572 (Nat.le_of_ble_eq_true rfl)) _) _) _) _).trans rfl)
theorem e253_1573 {x : Int32} : eb_E L d 253 1573 [v0, v1, v2, some (zi x)] (st) M = eb_E L d 253 1574 [v0, v1, v2, some (zi x)] (zi x :: st) M := eb_E_s hk253 ((congrFun (congrFun (congrFun (congrFun (lk253_26 1573 (Nat.le_of_ble_eq_true rfl)) _) _) _) _).trans rfl)
theorem e253_1574  : eb_E L d 253 1574 ls (st) M = eb_E L d 253 1575 ls (zi 2 :: st) M := eb_E_s hk253 ((congrFun (congrFun (congrFun (congrFun (lk253_26 1574 (Nat.le_of_ble_eq_true rfl)) _) _) _) _).trans rfl)
theorem e253_1575 {x : Int32} {y : Int32} : eb_E L d 253 1575 ls (zi y :: zi x :: st) M = eb_E L d 253 1576 ls (zi (x + y) :: st) M := eb_E_s hk253 ((congrFun (congrFun (congrFun (congrFun (lk253_26 1575 (Nat.le_of_ble_eq_true rfl)) _) _) _) _).trans rfl)
theorem e253_1576 {x : Int32} : eb_E L d 253 1576 ls (zi x :: Sum.inr (some a) :: st) (nc, ns, I, J, R) = if (eb_ty L a.1).1 = 17 ∧ eb_in x (eb_ty L a.1).2 = true then eb_E L d 253 1577 ls (zi (I a x.toNatClampNeg) :: st) (nc, ns, I, J, R) else none := eb_E_iy hk253 ((congrFun (congrFun (congrFun (congrFun (lk253_26 1576 (Nat.le_of_ble_eq_true rfl)) _) _) _) _).trans rfl)
theorem e253_1577  : eb_E L d 253 1577 ls ([a2, a1, a0]) M = (eb_ev L d 111 [a0, a1, a2] M).bind (fun q => eb_E L d 253 1580 ls [q.1] q.2) := eb_E_c hk253 ((congrFun (congrFun (congrFun (congrFun (lk253_26 1577 (Nat.le_of_ble_eq_true rfl)) _) _) _) _).trans rfl)
theorem e253_1580 {x : Option eb_A} : eb_E L d 253 1580 [v0, v1, some (Sum.inr x), v3] (st) M = eb_E L d 253 1581 [v0, v1, some (Sum.inr x), v3] (Sum.inr x :: st) M := eb_E_s hk253 ((congrFun (congrFun (congrFun (congrFun (lk253_26 1580 (Nat.le_of_ble_eq_true rfl)) _) _) _) _).trans rfl)
theorem e253_1581 {x : Option eb_A} : eb_E L d 253 1581 [some (Sum.inr x), v1, v2, v3] (st) M = eb_E L d 253 1582 [some (Sum.inr x), v1, v2, v3] (Sum.inr x :: st) M := eb_E_s hk253 ((congrFun (congrFun (congrFun (congrFun (lk253_26 1581 (Nat.le_of_ble_eq_true rfl)) _) _) _) _).trans rfl)
theorem e253_1582 {x : Int32} : eb_E L d 253 1582 [v0, v1, v2, some (zi x)] (st) M = eb_E L d 253 1583 [v0, v1, v2, some (zi x)] (zi x :: st) M := eb_E_s hk253 ((congrFun (congrFun (congrFun (congrFun (lk253_26 1582 (Nat.le_of_ble_eq_true rfl)) _) _) _) _).trans rfl)
theorem e253_1583  : eb_E L d 253 1583 ls (st) M = eb_E L d 253 1584 ls (zi 1 :: st) M := eb_E_s hk253 ((congrFun (congrFun (congrFun (congrFun (lk253_26 1583 (Nat.le_of_ble_eq_true rfl)) _) _) _) _).trans rfl)
theorem e253_1584 {x : Int32} {y : Int32} : eb_E L d 253 1584 ls (zi y :: zi x :: st) M = eb_E L d 253 1585 ls (zi (x + y) :: st) M := eb_E_s hk253 ((congrFun (congrFun (congrFun (congrFun (lk253_26 1584 (Nat.le_of_ble_eq_true rfl)) _) _) _) _).trans rfl)
theorem e253_1585 {x : Int32} : eb_E L d 253 1585 ls (zi x :: Sum.inr (some a) :: st) (nc, ns, I, J, R) = if (eb_ty L a.1).1 = 17 ∧ eb_in x (eb_ty L a.1).2 = true then eb_E L d 253 1586 ls (zi (I a x.toNatClampNeg) :: st) (nc, ns, I, J, R) else none := eb_E_iy hk253 ((congrFun (congrFun (congrFun (congrFun (lk253_26 1585 (Nat.le_of_ble_eq_true rfl)) _) _) _) _).trans rfl)
theorem e253_1586 {x : Option eb_A} : eb_E L d 253 1586 [some (Sum.inr x), v1, v2, v3] (st) M = eb_E L d 253 1587 [some (Sum.inr x), v1, v2, v3] (Sum.inr x :: st) M := eb_E_s hk253 ((congrFun (congrFun (congrFun (congrFun (lk253_26 1586 (Nat.le_of_ble_eq_true rfl)) _) _) _) _).trans rfl)
theorem e253_1587 {x : Int32} : eb_E L d 253 1587 [v0, v1, v2, some (zi x)] (st) M = eb_E L d 253 1588 [v0, v1, v2, some (zi x)] (zi x :: st) M := eb_E_s hk253 ((congrFun (congrFun (congrFun (congrFun (lk253_26 1587 (Nat.le_of_ble_eq_true rfl)) _) _) _) _).trans rfl)
theorem e253_1588  : eb_E L d 253 1588 ls (st) M = eb_E L d 253 1589 ls (zi 2 :: st) M := eb_E_s hk253 ((congrFun (congrFun (congrFun (congrFun (lk253_26 1588 (Nat.le_of_ble_eq_true rfl)) _) _) _) _).trans rfl)
theorem e253_1589 {x : Int32} {y : Int32} : eb_E L d 253 1589 ls (zi y :: zi x :: st) M = eb_E L d 253 1590 ls (zi (x + y) :: st) M := eb_E_s hk253 ((congrFun (congrFun (congrFun (congrFun (lk253_26 1589 (Nat.le_of_ble_eq_true rfl)) _) _) _) _).trans rfl)
theorem e253_1590 {x : Int32} : eb_E L d 253 1590 ls (zi x :: Sum.inr (some a) :: st) (nc, ns, I, J, R) = if (eb_ty L a.1).1 = 17 ∧ eb_in x (eb_ty L a.1).2 = true then eb_E L d 253 1591 ls (zi (I a x.toNatClampNeg) :: st) (nc, ns, I, J, R) else none := eb_E_iy hk253 ((congrFun (congrFun (congrFun (congrFun (lk253_26 1590 (Nat.le_of_ble_eq_true rfl)) _) _) _) _).trans rfl)
theorem e253_1591 {s0 : Int32} : eb_E L d 253 1591 ls ([a2, a1, a0, zi s0]) M = (eb_ev L d 233 [a0, a1, a2] M).bind (fun q => eb_E L d 253 1594 ls [q.1, zi s0] q.2) := eb_E_c hk253 ((congrFun (congrFun (congrFun (congrFun (lk253_26 1591 (Nat.le_of_ble_eq_true rfl)) _) _) _) _).trans rfl)
theorem e253_1594 {x : Int32} {y : Int32} : eb_E L d 253 1594 ls (zi y :: zi x :: st) M = if x = y then eb_E L d 253 1948 ls st M else eb_E L d 253 1597 ls st M := eb_E_b hk253 ((congrFun (congrFun (congrFun (congrFun (lk253_26 1594 (Nat.le_of_ble_eq_true rfl)) _) _) _) _).trans rfl)
theorem e253_1597  : eb_E L d 253 1597 ls (st) M = eb_E L d 253 1598 ls (zi 0 :: st) M := eb_E_s hk253 ((congrFun (congrFun (congrFun (congrFun (lk253_26 1597 (Nat.le_of_ble_eq_true rfl)) _) _) _) _).trans rfl)
theorem e253_1598 {x : Int32} : eb_E L d 253 1598 ls ([zi x]) M = if x = 0 ∨ x = 1 then some (zi x, M) else none := eb_E_ri hk253 ((congrFun (congrFun (congrFun (congrFun (lk253_26 1598 (Nat.le_of_ble_eq_true rfl)) _) _) _) _).trans rfl)
theorem e253_1599 {x : Option eb_A} : eb_E L d 253 1599 [v0, some (Sum.inr x), v2, v3] (st) M = eb_E L d 253 1600 [v0, some (Sum.inr x), v2, v3] (Sum.inr x :: st) M := eb_E_s hk253 ((congrFun (congrFun (congrFun (congrFun (lk253_26 1599 (Nat.le_of_ble_eq_true rfl)) _) _) _) _).trans rfl)
theorem e253_1600 {x : Option eb_A} : eb_E L d 253 1600 [some (Sum.inr x), v1, v2, v3] (st) M = eb_E L d 253 1601 [some (Sum.inr x), v1, v2, v3] (Sum.inr x :: st) M := eb_E_s hk253 ((congrFun (congrFun (congrFun (congrFun (lk253_26 1600 (Nat.le_of_ble_eq_true rfl)) _) _) _) _).trans rfl)
theorem e253_1601 {x : Int32} : eb_E L d 253 1601 [v0, v1, v2, some (zi x)] (st) M = eb_E L d 253 1602 [v0, v1, v2, some (zi x)] (zi x :: st) M := eb_E_s hk253 ((congrFun (congrFun (congrFun (congrFun (lk253_26 1601 (Nat.le_of_ble_eq_true rfl)) _) _) _) _).trans rfl)
theorem e253_1602  : eb_E L d 253 1602 ls (st) M = eb_E L d 253 1603 ls (zi 1 :: st) M := eb_E_s hk253 ((congrFun (congrFun (congrFun (congrFun (lk253_26 1602 (Nat.le_of_ble_eq_true rfl)) _) _) _) _).trans rfl)
theorem e253_1603 {x : Int32} {y : Int32} : eb_E L d 253 1603 ls (zi y :: zi x :: st) M = eb_E L d 253 1604 ls (zi (x + y) :: st) M := eb_E_s hk253 ((congrFun (congrFun (congrFun (congrFun (lk253_26 1603 (Nat.le_of_ble_eq_true rfl)) _) _) _) _).trans rfl)
theorem e253_1604 {x : Int32} : eb_E L d 253 1604 ls (zi x :: Sum.inr (some a) :: st) (nc, ns, I, J, R) = if (eb_ty L a.1).1 = 17 ∧ eb_in x (eb_ty L a.1).2 = true then eb_E L d 253 1605 ls (zi (I a x.toNatClampNeg) :: st) (nc, ns, I, J, R) else none := eb_E_iy hk253 ((congrFun (congrFun (congrFun (congrFun (lk253_27 1604 (Nat.le_of_ble_eq_true rfl)) _) _) _) _).trans rfl)
theorem e253_1605 {x : Option eb_A} : eb_E L d 253 1605 [some (Sum.inr x), v1, v2, v3] (st) M = eb_E L d 253 1606 [some (Sum.inr x), v1, v2, v3] (Sum.inr x :: st) M := eb_E_s hk253 ((congrFun (congrFun (congrFun (congrFun (lk253_27 1605 (Nat.le_of_ble_eq_true rfl)) _) _) _) _).trans rfl)
theorem e253_1606 {x : Int32} : eb_E L d 253 1606 [v0, v1, v2, some (zi x)] (st) M = eb_E L d 253 1607 [v0, v1, v2, some (zi x)] (zi x :: st) M := eb_E_s hk253 ((congrFun (congrFun (congrFun (congrFun (lk253_27 1606 (Nat.le_of_ble_eq_true rfl)) _) _) _) _).trans rfl)
theorem e253_1607  : eb_E L d 253 1607 ls (st) M = eb_E L d 253 1608 ls (zi 2 :: st) M := eb_E_s hk253 ((congrFun (congrFun (congrFun (congrFun (lk253_27 1607 (Nat.le_of_ble_eq_true rfl)) _) _) _) _).trans rfl)
theorem e253_1608 {x : Int32} {y : Int32} : eb_E L d 253 1608 ls (zi y :: zi x :: st) M = eb_E L d 253 1609 ls (zi (x + y) :: st) M := eb_E_s hk253 ((congrFun (congrFun (congrFun (congrFun (lk253_27 1608 (Nat.le_of_ble_eq_true rfl)) _) _) _) _).trans rfl)
theorem e253_1609 {x : Int32} : eb_E L d 253 1609 ls (zi x :: Sum.inr (some a) :: st) (nc, ns, I, J, R) = if (eb_ty L a.1).1 = 17 ∧ eb_in x (eb_ty L a.1).2 = true then eb_E L d 253 1610 ls (zi (I a x.toNatClampNeg) :: st) (nc, ns, I, J, R) else none := eb_E_iy hk253 ((congrFun (congrFun (congrFun (congrFun (lk253_27 1609 (Nat.le_of_ble_eq_true rfl)) _) _) _) _).trans rfl)
theorem e253_1610  : eb_E L d 253 1610 ls ([a2, a1, a0]) M = (eb_ev L d 112 [a0, a1, a2] M).bind (fun q => eb_E L d 253 1613 ls [q.1] q.2) := eb_E_c hk253 ((congrFun (congrFun (congrFun (congrFun (lk253_27 1610 (Nat.le_of_ble_eq_true rfl)) _) _) _) _).trans rfl)
theorem e253_1613 {x : Option eb_A} : eb_E L d 253 1613 [v0, v1, some (Sum.inr x), v3] (st) M = eb_E L d 253 1614 [v0, v1, some (Sum.inr x), v3] (Sum.inr x :: st) M := eb_E_s hk253 ((congrFun (congrFun (congrFun (congrFun (lk253_27 1613 (Nat.le_of_ble_eq_true rfl)) _) _) _) _).trans rfl)
theorem e253_1614 {x : Option eb_A} : eb_E L d 253 1614 [some (Sum.inr x), v1, v2, v3] (st) M = eb_E L d 253 1615 [some (Sum.inr x), v1, v2, v3] (Sum.inr x :: st) M := eb_E_s hk253 ((congrFun (congrFun (congrFun (congrFun (lk253_27 1614 (Nat.le_of_ble_eq_true rfl)) _) _) _) _).trans rfl)
theorem e253_1615 {x : Int32} : eb_E L d 253 1615 [v0, v1, v2, some (zi x)] (st) M = eb_E L d 253 1616 [v0, v1, v2, some (zi x)] (zi x :: st) M := eb_E_s hk253 ((congrFun (congrFun (congrFun (congrFun (lk253_27 1615 (Nat.le_of_ble_eq_true rfl)) _) _) _) _).trans rfl)
theorem e253_1616  : eb_E L d 253 1616 ls (st) M = eb_E L d 253 1617 ls (zi 1 :: st) M := eb_E_s hk253 ((congrFun (congrFun (congrFun (congrFun (lk253_27 1616 (Nat.le_of_ble_eq_true rfl)) _) _) _) _).trans rfl)
theorem e253_1617 {x : Int32} {y : Int32} : eb_E L d 253 1617 ls (zi y :: zi x :: st) M = eb_E L d 253 1618 ls (zi (x + y) :: st) M := eb_E_s hk253 ((congrFun (congrFun (congrFun (congrFun (lk253_27 1617 (Nat.le_of_ble_eq_true rfl)) _) _) _) _).trans rfl)
theorem e253_1618 {x : Int32} : eb_E L d 253 1618 ls (zi x :: Sum.inr (some a) :: st) (nc, ns, I, J, R) = if (eb_ty L a.1).1 = 17 ∧ eb_in x (eb_ty L a.1).2 = true then eb_E L d 253 1619 ls (zi (I a x.toNatClampNeg) :: st) (nc, ns, I, J, R) else none := eb_E_iy hk253 ((congrFun (congrFun (congrFun (congrFun (lk253_27 1618 (Nat.le_of_ble_eq_true rfl)) _) _) _) _).trans rfl)
theorem e253_1619 {x : Option eb_A} : eb_E L d 253 1619 [some (Sum.inr x), v1, v2, v3] (st) M = eb_E L d 253 1620 [some (Sum.inr x), v1, v2, v3] (Sum.inr x :: st) M := eb_E_s hk253 ((congrFun (congrFun (congrFun (congrFun (lk253_27 1619 (Nat.le_of_ble_eq_true rfl)) _) _) _) _).trans rfl)
theorem e253_1620 {x : Int32} : eb_E L d 253 1620 [v0, v1, v2, some (zi x)] (st) M = eb_E L d 253 1621 [v0, v1, v2, some (zi x)] (zi x :: st) M := eb_E_s hk253 ((congrFun (congrFun (congrFun (congrFun (lk253_27 1620 (Nat.le_of_ble_eq_true rfl)) _) _) _) _).trans rfl)
theorem e253_1621  : eb_E L d 253 1621 ls (st) M = eb_E L d 253 1622 ls (zi 2 :: st) M := eb_E_s hk253 ((congrFun (congrFun (congrFun (congrFun (lk253_27 1621 (Nat.le_of_ble_eq_true rfl)) _) _) _) _).trans rfl)
theorem e253_1622 {x : Int32} {y : Int32} : eb_E L d 253 1622 ls (zi y :: zi x :: st) M = eb_E L d 253 1623 ls (zi (x + y) :: st) M := eb_E_s hk253 ((congrFun (congrFun (congrFun (congrFun (lk253_27 1622 (Nat.le_of_ble_eq_true rfl)) _) _) _) _).trans rfl)
theorem e253_1623 {x : Int32} : eb_E L d 253 1623 ls (zi x :: Sum.inr (some a) :: st) (nc, ns, I, J, R) = if (eb_ty L a.1).1 = 17 ∧ eb_in x (eb_ty L a.1).2 = true then eb_E L d 253 1624 ls (zi (I a x.toNatClampNeg) :: st) (nc, ns, I, J, R) else none := eb_E_iy hk253 ((congrFun (congrFun (congrFun (congrFun (lk253_27 1623 (Nat.le_of_ble_eq_true rfl)) _) _) _) _).trans rfl)
theorem e253_1624 {s0 : Int32} : eb_E L d 253 1624 ls ([a2, a1, a0, zi s0]) M = (eb_ev L d 235 [a0, a1, a2] M).bind (fun q => eb_E L d 253 1627 ls [q.1, zi s0] q.2) := eb_E_c hk253 ((congrFun (congrFun (congrFun (congrFun (lk253_27 1624 (Nat.le_of_ble_eq_true rfl)) _) _) _) _).trans rfl)
theorem e253_1627 {x : Int32} {y : Int32} : eb_E L d 253 1627 ls (zi y :: zi x :: st) M = if x = y then eb_E L d 253 1948 ls st M else eb_E L d 253 1630 ls st M := eb_E_b hk253 ((congrFun (congrFun (congrFun (congrFun (lk253_27 1627 (Nat.le_of_ble_eq_true rfl)) _) _) _) _).trans rfl)
theorem e253_1630  : eb_E L d 253 1630 ls (st) M = eb_E L d 253 1631 ls (zi 0 :: st) M := eb_E_s hk253 ((congrFun (congrFun (congrFun (congrFun (lk253_27 1630 (Nat.le_of_ble_eq_true rfl)) _) _) _) _).trans rfl)
theorem e253_1631 {x : Int32} : eb_E L d 253 1631 ls ([zi x]) M = if x = 0 ∨ x = 1 then some (zi x, M) else none := eb_E_ri hk253 ((congrFun (congrFun (congrFun (congrFun (lk253_27 1631 (Nat.le_of_ble_eq_true rfl)) _) _) _) _).trans rfl)
theorem e253_1632 {x : Option eb_A} : eb_E L d 253 1632 [v0, some (Sum.inr x), v2, v3] (st) M = eb_E L d 253 1633 [v0, some (Sum.inr x), v2, v3] (Sum.inr x :: st) M := eb_E_s hk253 ((congrFun (congrFun (congrFun (congrFun (lk253_27 1632 (Nat.le_of_ble_eq_true rfl)) _) _) _) _).trans rfl)
theorem e253_1633 {x : Option eb_A} : eb_E L d 253 1633 [some (Sum.inr x), v1, v2, v3] (st) M = eb_E L d 253 1634 [some (Sum.inr x), v1, v2, v3] (Sum.inr x :: st) M := eb_E_s hk253 ((congrFun (congrFun (congrFun (congrFun (lk253_27 1633 (Nat.le_of_ble_eq_true rfl)) _) _) _) _).trans rfl)
theorem e253_1634 {x : Int32} : eb_E L d 253 1634 [v0, v1, v2, some (zi x)] (st) M = eb_E L d 253 1635 [v0, v1, v2, some (zi x)] (zi x :: st) M := eb_E_s hk253 ((congrFun (congrFun (congrFun (congrFun (lk253_27 1634 (Nat.le_of_ble_eq_true rfl)) _) _) _) _).trans rfl)
theorem e253_1635  : eb_E L d 253 1635 ls (st) M = eb_E L d 253 1636 ls (zi 1 :: st) M := eb_E_s hk253 ((congrFun (congrFun (congrFun (congrFun (lk253_27 1635 (Nat.le_of_ble_eq_true rfl)) _) _) _) _).trans rfl)
theorem e253_1636 {x : Int32} {y : Int32} : eb_E L d 253 1636 ls (zi y :: zi x :: st) M = eb_E L d 253 1637 ls (zi (x + y) :: st) M := eb_E_s hk253 ((congrFun (congrFun (congrFun (congrFun (lk253_27 1636 (Nat.le_of_ble_eq_true rfl)) _) _) _) _).trans rfl)
theorem e253_1637 {x : Int32} : eb_E L d 253 1637 ls (zi x :: Sum.inr (some a) :: st) (nc, ns, I, J, R) = if (eb_ty L a.1).1 = 17 ∧ eb_in x (eb_ty L a.1).2 = true then eb_E L d 253 1638 ls (zi (I a x.toNatClampNeg) :: st) (nc, ns, I, J, R) else none := eb_E_iy hk253 ((congrFun (congrFun (congrFun (congrFun (lk253_27 1637 (Nat.le_of_ble_eq_true rfl)) _) _) _) _).trans rfl)
theorem e253_1638 {x : Option eb_A} : eb_E L d 253 1638 [some (Sum.inr x), v1, v2, v3] (st) M = eb_E L d 253 1639 [some (Sum.inr x), v1, v2, v3] (Sum.inr x :: st) M := eb_E_s hk253 ((congrFun (congrFun (congrFun (congrFun (lk253_27 1638 (Nat.le_of_ble_eq_true rfl)) _) _) _) _).trans rfl)
theorem e253_1639 {x : Int32} : eb_E L d 253 1639 [v0, v1, v2, some (zi x)] (st) M = eb_E L d 253 1640 [v0, v1, v2, some (zi x)] (zi x :: st) M := eb_E_s hk253 ((congrFun (congrFun (congrFun (congrFun (lk253_27 1639 (Nat.le_of_ble_eq_true rfl)) _) _) _) _).trans rfl)
theorem e253_1640  : eb_E L d 253 1640 ls (st) M = eb_E L d 253 1641 ls (zi 2 :: st) M := eb_E_s hk253 ((congrFun (congrFun (congrFun (congrFun (lk253_27 1640 (Nat.le_of_ble_eq_true rfl)) _) _) _) _).trans rfl)
theorem e253_1641 {x : Int32} {y : Int32} : eb_E L d 253 1641 ls (zi y :: zi x :: st) M = eb_E L d 253 1642 ls (zi (x + y) :: st) M := eb_E_s hk253 ((congrFun (congrFun (congrFun (congrFun (lk253_27 1641 (Nat.le_of_ble_eq_true rfl)) _) _) _) _).trans rfl)
theorem e253_1642 {x : Int32} : eb_E L d 253 1642 ls (zi x :: Sum.inr (some a) :: st) (nc, ns, I, J, R) = if (eb_ty L a.1).1 = 17 ∧ eb_in x (eb_ty L a.1).2 = true then eb_E L d 253 1643 ls (zi (I a x.toNatClampNeg) :: st) (nc, ns, I, J, R) else none := eb_E_iy hk253 ((congrFun (congrFun (congrFun (congrFun (lk253_27 1642 (Nat.le_of_ble_eq_true rfl)) _) _) _) _).trans rfl)
theorem e253_1643 {x : Option eb_A} : eb_E L d 253 1643 [some (Sum.inr x), v1, v2, v3] (st) M = eb_E L d 253 1644 [some (Sum.inr x), v1, v2, v3] (Sum.inr x :: st) M := eb_E_s hk253 ((congrFun (congrFun (congrFun (congrFun (lk253_27 1643 (Nat.le_of_ble_eq_true rfl)) _) _) _) _).trans rfl)
theorem e253_1644 {x : Int32} : eb_E L d 253 1644 [v0, v1, v2, some (zi x)] (st) M = eb_E L d 253 1645 [v0, v1, v2, some (zi x)] (zi x :: st) M := eb_E_s hk253 ((congrFun (congrFun (congrFun (congrFun (lk253_27 1644 (Nat.le_of_ble_eq_true rfl)) _) _) _) _).trans rfl)
theorem e253_1645  : eb_E L d 253 1645 ls (st) M = eb_E L d 253 1646 ls (zi 3 :: st) M := eb_E_s hk253 ((congrFun (congrFun (congrFun (congrFun (lk253_27 1645 (Nat.le_of_ble_eq_true rfl)) _) _) _) _).trans rfl)
theorem e253_1646 {x : Int32} {y : Int32} : eb_E L d 253 1646 ls (zi y :: zi x :: st) M = eb_E L d 253 1647 ls (zi (x + y) :: st) M := eb_E_s hk253 ((congrFun (congrFun (congrFun (congrFun (lk253_27 1646 (Nat.le_of_ble_eq_true rfl)) _) _) _) _).trans rfl)
theorem e253_1647 {x : Int32} : eb_E L d 253 1647 ls (zi x :: Sum.inr (some a) :: st) (nc, ns, I, J, R) = if (eb_ty L a.1).1 = 17 ∧ eb_in x (eb_ty L a.1).2 = true then eb_E L d 253 1648 ls (zi (I a x.toNatClampNeg) :: st) (nc, ns, I, J, R) else none := eb_E_iy hk253 ((congrFun (congrFun (congrFun (congrFun (lk253_27 1647 (Nat.le_of_ble_eq_true rfl)) _) _) _) _).trans rfl)
theorem e253_1648  : eb_E L d 253 1648 ls ([a3, a2, a1, a0]) M = (eb_ev L d 113 [a0, a1, a2, a3] M).bind (fun q => eb_E L d 253 1651 ls [q.1] q.2) := eb_E_c hk253 ((congrFun (congrFun (congrFun (congrFun (lk253_27 1648 (Nat.le_of_ble_eq_true rfl)) _) _) _) _).trans rfl)
theorem e253_1651 {x : Option eb_A} : eb_E L d 253 1651 [v0, v1, some (Sum.inr x), v3] (st) M = eb_E L d 253 1652 [v0, v1, some (Sum.inr x), v3] (Sum.inr x :: st) M := eb_E_s hk253 ((congrFun (congrFun (congrFun (congrFun (lk253_27 1651 (Nat.le_of_ble_eq_true rfl)) _) _) _) _).trans rfl)
theorem e253_1652 {x : Option eb_A} : eb_E L d 253 1652 [some (Sum.inr x), v1, v2, v3] (st) M = eb_E L d 253 1653 [some (Sum.inr x), v1, v2, v3] (Sum.inr x :: st) M := eb_E_s hk253 ((congrFun (congrFun (congrFun (congrFun (lk253_28 1652 (Nat.le_of_ble_eq_true rfl)) _) _) _) _).trans rfl)
theorem e253_1653 {x : Int32} : eb_E L d 253 1653 [v0, v1, v2, some (zi x)] (st) M = eb_E L d 253 1654 [v0, v1, v2, some (zi x)] (zi x :: st) M := eb_E_s hk253 ((congrFun (congrFun (congrFun (congrFun (lk253_28 1653 (Nat.le_of_ble_eq_true rfl)) _) _) _) _).trans rfl)
theorem e253_1654  : eb_E L d 253 1654 ls (st) M = eb_E L d 253 1655 ls (zi 1 :: st) M := eb_E_s hk253 ((congrFun (congrFun (congrFun (congrFun (lk253_28 1654 (Nat.le_of_ble_eq_true rfl)) _) _) _) _).trans rfl)
theorem e253_1655 {x : Int32} {y : Int32} : eb_E L d 253 1655 ls (zi y :: zi x :: st) M = eb_E L d 253 1656 ls (zi (x + y) :: st) M := eb_E_s hk253 ((congrFun (congrFun (congrFun (congrFun (lk253_28 1655 (Nat.le_of_ble_eq_true rfl)) _) _) _) _).trans rfl)
theorem e253_1656 {x : Int32} : eb_E L d 253 1656 ls (zi x :: Sum.inr (some a) :: st) (nc, ns, I, J, R) = if (eb_ty L a.1).1 = 17 ∧ eb_in x (eb_ty L a.1).2 = true then eb_E L d 253 1657 ls (zi (I a x.toNatClampNeg) :: st) (nc, ns, I, J, R) else none := eb_E_iy hk253 ((congrFun (congrFun (congrFun (congrFun (lk253_28 1656 (Nat.le_of_ble_eq_true rfl)) _) _) _) _).trans rfl)
theorem e253_1657 {x : Option eb_A} : eb_E L d 253 1657 [some (Sum.inr x), v1, v2, v3] (st) M = eb_E L d 253 1658 [some (Sum.inr x), v1, v2, v3] (Sum.inr x :: st) M := eb_E_s hk253 ((congrFun (congrFun (congrFun (congrFun (lk253_28 1657 (Nat.le_of_ble_eq_true rfl)) _) _) _) _).trans rfl)
theorem e253_1658 {x : Int32} : eb_E L d 253 1658 [v0, v1, v2, some (zi x)] (st) M = eb_E L d 253 1659 [v0, v1, v2, some (zi x)] (zi x :: st) M := eb_E_s hk253 ((congrFun (congrFun (congrFun (congrFun (lk253_28 1658 (Nat.le_of_ble_eq_true rfl)) _) _) _) _).trans rfl)
theorem e253_1659  : eb_E L d 253 1659 ls (st) M = eb_E L d 253 1660 ls (zi 2 :: st) M := eb_E_s hk253 ((congrFun (congrFun (congrFun (congrFun (lk253_28 1659 (Nat.le_of_ble_eq_true rfl)) _) _) _) _).trans rfl)
theorem e253_1660 {x : Int32} {y : Int32} : eb_E L d 253 1660 ls (zi y :: zi x :: st) M = eb_E L d 253 1661 ls (zi (x + y) :: st) M := eb_E_s hk253 ((congrFun (congrFun (congrFun (congrFun (lk253_28 1660 (Nat.le_of_ble_eq_true rfl)) _) _) _) _).trans rfl)
theorem e253_1661 {x : Int32} : eb_E L d 253 1661 ls (zi x :: Sum.inr (some a) :: st) (nc, ns, I, J, R) = if (eb_ty L a.1).1 = 17 ∧ eb_in x (eb_ty L a.1).2 = true then eb_E L d 253 1662 ls (zi (I a x.toNatClampNeg) :: st) (nc, ns, I, J, R) else none := eb_E_iy hk253 ((congrFun (congrFun (congrFun (congrFun (lk253_28 1661 (Nat.le_of_ble_eq_true rfl)) _) _) _) _).trans rfl)
theorem e253_1662 {x : Option eb_A} : eb_E L d 253 1662 [some (Sum.inr x), v1, v2, v3] (st) M = eb_E L d 253 1663 [some (Sum.inr x), v1, v2, v3] (Sum.inr x :: st) M := eb_E_s hk253 ((congrFun (congrFun (congrFun (congrFun (lk253_28 1662 (Nat.le_of_ble_eq_true rfl)) _) _) _) _).trans rfl)
theorem e253_1663 {x : Int32} : eb_E L d 253 1663 [v0, v1, v2, some (zi x)] (st) M = eb_E L d 253 1664 [v0, v1, v2, some (zi x)] (zi x :: st) M := eb_E_s hk253 ((congrFun (congrFun (congrFun (congrFun (lk253_28 1663 (Nat.le_of_ble_eq_true rfl)) _) _) _) _).trans rfl)
theorem e253_1664  : eb_E L d 253 1664 ls (st) M = eb_E L d 253 1665 ls (zi 3 :: st) M := eb_E_s hk253 ((congrFun (congrFun (congrFun (congrFun (lk253_28 1664 (Nat.le_of_ble_eq_true rfl)) _) _) _) _).trans rfl)
theorem e253_1665 {x : Int32} {y : Int32} : eb_E L d 253 1665 ls (zi y :: zi x :: st) M = eb_E L d 253 1666 ls (zi (x + y) :: st) M := eb_E_s hk253 ((congrFun (congrFun (congrFun (congrFun (lk253_28 1665 (Nat.le_of_ble_eq_true rfl)) _) _) _) _).trans rfl)
theorem e253_1666 {x : Int32} : eb_E L d 253 1666 ls (zi x :: Sum.inr (some a) :: st) (nc, ns, I, J, R) = if (eb_ty L a.1).1 = 17 ∧ eb_in x (eb_ty L a.1).2 = true then eb_E L d 253 1667 ls (zi (I a x.toNatClampNeg) :: st) (nc, ns, I, J, R) else none := eb_E_iy hk253 ((congrFun (congrFun (congrFun (congrFun (lk253_28 1666 (Nat.le_of_ble_eq_true rfl)) _) _) _) _).trans rfl)
theorem e253_1667 {s0 : Int32} : eb_E L d 253 1667 ls ([a3, a2, a1, a0, zi s0]) M = (eb_ev L d 236 [a0, a1, a2, a3] M).bind (fun q => eb_E L d 253 1670 ls [q.1, zi s0] q.2) := eb_E_c hk253 ((congrFun (congrFun (congrFun (congrFun (lk253_28 1667 (Nat.le_of_ble_eq_true rfl)) _) _) _) _).trans rfl)
theorem e253_1670 {x : Int32} {y : Int32} : eb_E L d 253 1670 ls (zi y :: zi x :: st) M = if x = y then eb_E L d 253 1948 ls st M else eb_E L d 253 1673 ls st M := eb_E_b hk253 ((congrFun (congrFun (congrFun (congrFun (lk253_28 1670 (Nat.le_of_ble_eq_true rfl)) _) _) _) _).trans rfl)
theorem e253_1673  : eb_E L d 253 1673 ls (st) M = eb_E L d 253 1674 ls (zi 0 :: st) M := eb_E_s hk253 ((congrFun (congrFun (congrFun (congrFun (lk253_28 1673 (Nat.le_of_ble_eq_true rfl)) _) _) _) _).trans rfl)
theorem e253_1674 {x : Int32} : eb_E L d 253 1674 ls ([zi x]) M = if x = 0 ∨ x = 1 then some (zi x, M) else none := eb_E_ri hk253 ((congrFun (congrFun (congrFun (congrFun (lk253_28 1674 (Nat.le_of_ble_eq_true rfl)) _) _) _) _).trans rfl)
theorem e253_1675 {x : Option eb_A} : eb_E L d 253 1675 [v0, some (Sum.inr x), v2, v3] (st) M = eb_E L d 253 1676 [v0, some (Sum.inr x), v2, v3] (Sum.inr x :: st) M := eb_E_s hk253 ((congrFun (congrFun (congrFun (congrFun (lk253_28 1675 (Nat.le_of_ble_eq_true rfl)) _) _) _) _).trans rfl)
theorem e253_1676 {x : Option eb_A} : eb_E L d 253 1676 [some (Sum.inr x), v1, v2, v3] (st) M = eb_E L d 253 1677 [some (Sum.inr x), v1, v2, v3] (Sum.inr x :: st) M := eb_E_s hk253 ((congrFun (congrFun (congrFun (congrFun (lk253_28 1676 (Nat.le_of_ble_eq_true rfl)) _) _) _) _).trans rfl)
theorem e253_1677 {x : Int32} : eb_E L d 253 1677 [v0, v1, v2, some (zi x)] (st) M = eb_E L d 253 1678 [v0, v1, v2, some (zi x)] (zi x :: st) M := eb_E_s hk253 ((congrFun (congrFun (congrFun (congrFun (lk253_28 1677 (Nat.le_of_ble_eq_true rfl)) _) _) _) _).trans rfl)
theorem e253_1678  : eb_E L d 253 1678 ls (st) M = eb_E L d 253 1679 ls (zi 1 :: st) M := eb_E_s hk253 ((congrFun (congrFun (congrFun (congrFun (lk253_28 1678 (Nat.le_of_ble_eq_true rfl)) _) _) _) _).trans rfl)
theorem e253_1679 {x : Int32} {y : Int32} : eb_E L d 253 1679 ls (zi y :: zi x :: st) M = eb_E L d 253 1680 ls (zi (x + y) :: st) M := eb_E_s hk253 ((congrFun (congrFun (congrFun (congrFun (lk253_28 1679 (Nat.le_of_ble_eq_true rfl)) _) _) _) _).trans rfl)
theorem e253_1680 {x : Int32} : eb_E L d 253 1680 ls (zi x :: Sum.inr (some a) :: st) (nc, ns, I, J, R) = if (eb_ty L a.1).1 = 17 ∧ eb_in x (eb_ty L a.1).2 = true then eb_E L d 253 1681 ls (zi (I a x.toNatClampNeg) :: st) (nc, ns, I, J, R) else none := eb_E_iy hk253 ((congrFun (congrFun (congrFun (congrFun (lk253_28 1680 (Nat.le_of_ble_eq_true rfl)) _) _) _) _).trans rfl)
theorem e253_1681 {x : Option eb_A} : eb_E L d 253 1681 [some (Sum.inr x), v1, v2, v3] (st) M = eb_E L d 253 1682 [some (Sum.inr x), v1, v2, v3] (Sum.inr x :: st) M := eb_E_s hk253 ((congrFun (congrFun (congrFun (congrFun (lk253_28 1681 (Nat.le_of_ble_eq_true rfl)) _) _) _) _).trans rfl)
theorem e253_1682 {x : Int32} : eb_E L d 253 1682 [v0, v1, v2, some (zi x)] (st) M = eb_E L d 253 1683 [v0, v1, v2, some (zi x)] (zi x :: st) M := eb_E_s hk253 ((congrFun (congrFun (congrFun (congrFun (lk253_28 1682 (Nat.le_of_ble_eq_true rfl)) _) _) _) _).trans rfl)
theorem e253_1683  : eb_E L d 253 1683 ls (st) M = eb_E L d 253 1684 ls (zi 2 :: st) M := eb_E_s hk253 ((congrFun (congrFun (congrFun (congrFun (lk253_28 1683 (Nat.le_of_ble_eq_true rfl)) _) _) _) _).trans rfl)
theorem e253_1684 {x : Int32} {y : Int32} : eb_E L d 253 1684 ls (zi y :: zi x :: st) M = eb_E L d 253 1685 ls (zi (x + y) :: st) M := eb_E_s hk253 ((congrFun (congrFun (congrFun (congrFun (lk253_28 1684 (Nat.le_of_ble_eq_true rfl)) _) _) _) _).trans rfl)
theorem e253_1685 {x : Int32} : eb_E L d 253 1685 ls (zi x :: Sum.inr (some a) :: st) (nc, ns, I, J, R) = if (eb_ty L a.1).1 = 17 ∧ eb_in x (eb_ty L a.1).2 = true then eb_E L d 253 1686 ls (zi (I a x.toNatClampNeg) :: st) (nc, ns, I, J, R) else none := eb_E_iy hk253 ((congrFun (congrFun (congrFun (congrFun (lk253_28 1685 (Nat.le_of_ble_eq_true rfl)) _) _) _) _).trans rfl)
theorem e253_1686  : eb_E L d 253 1686 ls ([a2, a1, a0]) M = (eb_ev L d 114 [a0, a1, a2] M).bind (fun q => eb_E L d 253 1689 ls [q.1] q.2) := eb_E_c hk253 ((congrFun (congrFun (congrFun (congrFun (lk253_28 1686 (Nat.le_of_ble_eq_true rfl)) _) _) _) _).trans rfl)
theorem e253_1689 {x : Option eb_A} : eb_E L d 253 1689 [v0, v1, some (Sum.inr x), v3] (st) M = eb_E L d 253 1690 [v0, v1, some (Sum.inr x), v3] (Sum.inr x :: st) M := eb_E_s hk253 ((congrFun (congrFun (congrFun (congrFun (lk253_28 1689 (Nat.le_of_ble_eq_true rfl)) _) _) _) _).trans rfl)
theorem e253_1690 {x : Option eb_A} : eb_E L d 253 1690 [some (Sum.inr x), v1, v2, v3] (st) M = eb_E L d 253 1691 [some (Sum.inr x), v1, v2, v3] (Sum.inr x :: st) M := eb_E_s hk253 ((congrFun (congrFun (congrFun (congrFun (lk253_28 1690 (Nat.le_of_ble_eq_true rfl)) _) _) _) _).trans rfl)
theorem e253_1691 {x : Int32} : eb_E L d 253 1691 [v0, v1, v2, some (zi x)] (st) M = eb_E L d 253 1692 [v0, v1, v2, some (zi x)] (zi x :: st) M := eb_E_s hk253 ((congrFun (congrFun (congrFun (congrFun (lk253_28 1691 (Nat.le_of_ble_eq_true rfl)) _) _) _) _).trans rfl)
theorem e253_1692  : eb_E L d 253 1692 ls (st) M = eb_E L d 253 1693 ls (zi 1 :: st) M := eb_E_s hk253 ((congrFun (congrFun (congrFun (congrFun (lk253_28 1692 (Nat.le_of_ble_eq_true rfl)) _) _) _) _).trans rfl)
theorem e253_1693 {x : Int32} {y : Int32} : eb_E L d 253 1693 ls (zi y :: zi x :: st) M = eb_E L d 253 1694 ls (zi (x + y) :: st) M := eb_E_s hk253 ((congrFun (congrFun (congrFun (congrFun (lk253_28 1693 (Nat.le_of_ble_eq_true rfl)) _) _) _) _).trans rfl)
theorem e253_1694 {x : Int32} : eb_E L d 253 1694 ls (zi x :: Sum.inr (some a) :: st) (nc, ns, I, J, R) = if (eb_ty L a.1).1 = 17 ∧ eb_in x (eb_ty L a.1).2 = true then eb_E L d 253 1695 ls (zi (I a x.toNatClampNeg) :: st) (nc, ns, I, J, R) else none := eb_E_iy hk253 ((congrFun (congrFun (congrFun (congrFun (lk253_28 1694 (Nat.le_of_ble_eq_true rfl)) _) _) _) _).trans rfl)
theorem e253_1695 {x : Option eb_A} : eb_E L d 253 1695 [some (Sum.inr x), v1, v2, v3] (st) M = eb_E L d 253 1696 [some (Sum.inr x), v1, v2, v3] (Sum.inr x :: st) M := eb_E_s hk253 ((congrFun (congrFun (congrFun (congrFun (lk253_28 1695 (Nat.le_of_ble_eq_true rfl)) _) _) _) _).trans rfl)
theorem e253_1696 {x : Int32} : eb_E L d 253 1696 [v0, v1, v2, some (zi x)] (st) M = eb_E L d 253 1697 [v0, v1, v2, some (zi x)] (zi x :: st) M := eb_E_s hk253 ((congrFun (congrFun (congrFun (congrFun (lk253_28 1696 (Nat.le_of_ble_eq_true rfl)) _) _) _) _).trans rfl)
theorem e253_1697  : eb_E L d 253 1697 ls (st) M = eb_E L d 253 1698 ls (zi 2 :: st) M := eb_E_s hk253 ((congrFun (congrFun (congrFun (congrFun (lk253_28 1697 (Nat.le_of_ble_eq_true rfl)) _) _) _) _).trans rfl)
theorem e253_1698 {x : Int32} {y : Int32} : eb_E L d 253 1698 ls (zi y :: zi x :: st) M = eb_E L d 253 1699 ls (zi (x + y) :: st) M := eb_E_s hk253 ((congrFun (congrFun (congrFun (congrFun (lk253_29 1698 (Nat.le_of_ble_eq_true rfl)) _) _) _) _).trans rfl)
theorem e253_1699 {x : Int32} : eb_E L d 253 1699 ls (zi x :: Sum.inr (some a) :: st) (nc, ns, I, J, R) = if (eb_ty L a.1).1 = 17 ∧ eb_in x (eb_ty L a.1).2 = true then eb_E L d 253 1700 ls (zi (I a x.toNatClampNeg) :: st) (nc, ns, I, J, R) else none := eb_E_iy hk253 ((congrFun (congrFun (congrFun (congrFun (lk253_29 1699 (Nat.le_of_ble_eq_true rfl)) _) _) _) _).trans rfl)
theorem e253_1700 {s0 : Int32} : eb_E L d 253 1700 ls ([a2, a1, a0, zi s0]) M = (eb_ev L d 237 [a0, a1, a2] M).bind (fun q => eb_E L d 253 1703 ls [q.1, zi s0] q.2) := eb_E_c hk253 ((congrFun (congrFun (congrFun (congrFun (lk253_29 1700 (Nat.le_of_ble_eq_true rfl)) _) _) _) _).trans rfl)
theorem e253_1703 {x : Int32} {y : Int32} : eb_E L d 253 1703 ls (zi y :: zi x :: st) M = if x = y then eb_E L d 253 1948 ls st M else eb_E L d 253 1706 ls st M := eb_E_b hk253 ((congrFun (congrFun (congrFun (congrFun (lk253_29 1703 (Nat.le_of_ble_eq_true rfl)) _) _) _) _).trans rfl)
theorem e253_1706  : eb_E L d 253 1706 ls (st) M = eb_E L d 253 1707 ls (zi 0 :: st) M := eb_E_s hk253 ((congrFun (congrFun (congrFun (congrFun (lk253_29 1706 (Nat.le_of_ble_eq_true rfl)) _) _) _) _).trans rfl)
theorem e253_1707 {x : Int32} : eb_E L d 253 1707 ls ([zi x]) M = if x = 0 ∨ x = 1 then some (zi x, M) else none := eb_E_ri hk253 ((congrFun (congrFun (congrFun (congrFun (lk253_29 1707 (Nat.le_of_ble_eq_true rfl)) _) _) _) _).trans rfl)
theorem e253_1708 {x : Option eb_A} : eb_E L d 253 1708 [v0, some (Sum.inr x), v2, v3] (st) M = eb_E L d 253 1709 [v0, some (Sum.inr x), v2, v3] (Sum.inr x :: st) M := eb_E_s hk253 ((congrFun (congrFun (congrFun (congrFun (lk253_29 1708 (Nat.le_of_ble_eq_true rfl)) _) _) _) _).trans rfl)
theorem e253_1709 {x : Option eb_A} : eb_E L d 253 1709 [some (Sum.inr x), v1, v2, v3] (st) M = eb_E L d 253 1710 [some (Sum.inr x), v1, v2, v3] (Sum.inr x :: st) M := eb_E_s hk253 ((congrFun (congrFun (congrFun (congrFun (lk253_29 1709 (Nat.le_of_ble_eq_true rfl)) _) _) _) _).trans rfl)
theorem e253_1710 {x : Int32} : eb_E L d 253 1710 [v0, v1, v2, some (zi x)] (st) M = eb_E L d 253 1711 [v0, v1, v2, some (zi x)] (zi x :: st) M := eb_E_s hk253 ((congrFun (congrFun (congrFun (congrFun (lk253_29 1710 (Nat.le_of_ble_eq_true rfl)) _) _) _) _).trans rfl)
theorem e253_1711  : eb_E L d 253 1711 ls (st) M = eb_E L d 253 1712 ls (zi 1 :: st) M := eb_E_s hk253 ((congrFun (congrFun (congrFun (congrFun (lk253_29 1711 (Nat.le_of_ble_eq_true rfl)) _) _) _) _).trans rfl)
theorem e253_1712 {x : Int32} {y : Int32} : eb_E L d 253 1712 ls (zi y :: zi x :: st) M = eb_E L d 253 1713 ls (zi (x + y) :: st) M := eb_E_s hk253 ((congrFun (congrFun (congrFun (congrFun (lk253_29 1712 (Nat.le_of_ble_eq_true rfl)) _) _) _) _).trans rfl)
theorem e253_1713 {x : Int32} : eb_E L d 253 1713 ls (zi x :: Sum.inr (some a) :: st) (nc, ns, I, J, R) = if (eb_ty L a.1).1 = 17 ∧ eb_in x (eb_ty L a.1).2 = true then eb_E L d 253 1714 ls (zi (I a x.toNatClampNeg) :: st) (nc, ns, I, J, R) else none := eb_E_iy hk253 ((congrFun (congrFun (congrFun (congrFun (lk253_29 1713 (Nat.le_of_ble_eq_true rfl)) _) _) _) _).trans rfl)
theorem e253_1714 {x : Option eb_A} : eb_E L d 253 1714 [some (Sum.inr x), v1, v2, v3] (st) M = eb_E L d 253 1715 [some (Sum.inr x), v1, v2, v3] (Sum.inr x :: st) M := eb_E_s hk253 ((congrFun (congrFun (congrFun (congrFun (lk253_29 1714 (Nat.le_of_ble_eq_true rfl)) _) _) _) _).trans rfl)
theorem e253_1715 {x : Int32} : eb_E L d 253 1715 [v0, v1, v2, some (zi x)] (st) M = eb_E L d 253 1716 [v0, v1, v2, some (zi x)] (zi x :: st) M := eb_E_s hk253 ((congrFun (congrFun (congrFun (congrFun (lk253_29 1715 (Nat.le_of_ble_eq_true rfl)) _) _) _) _).trans rfl)
theorem e253_1716  : eb_E L d 253 1716 ls (st) M = eb_E L d 253 1717 ls (zi 2 :: st) M := eb_E_s hk253 ((congrFun (congrFun (congrFun (congrFun (lk253_29 1716 (Nat.le_of_ble_eq_true rfl)) _) _) _) _).trans rfl)
theorem e253_1717 {x : Int32} {y : Int32} : eb_E L d 253 1717 ls (zi y :: zi x :: st) M = eb_E L d 253 1718 ls (zi (x + y) :: st) M := eb_E_s hk253 ((congrFun (congrFun (congrFun (congrFun (lk253_29 1717 (Nat.le_of_ble_eq_true rfl)) _) _) _) _).trans rfl)
theorem e253_1718 {x : Int32} : eb_E L d 253 1718 ls (zi x :: Sum.inr (some a) :: st) (nc, ns, I, J, R) = if (eb_ty L a.1).1 = 17 ∧ eb_in x (eb_ty L a.1).2 = true then eb_E L d 253 1719 ls (zi (I a x.toNatClampNeg) :: st) (nc, ns, I, J, R) else none := eb_E_iy hk253 ((congrFun (congrFun (congrFun (congrFun (lk253_29 1718 (Nat.le_of_ble_eq_true rfl)) _) _) _) _).trans rfl)
theorem e253_1719 {x : Option eb_A} : eb_E L d 253 1719 [some (Sum.inr x), v1, v2, v3] (st) M = eb_E L d 253 1720 [some (Sum.inr x), v1, v2, v3] (Sum.inr x :: st) M := eb_E_s hk253 ((congrFun (congrFun (congrFun (congrFun (lk253_29 1719 (Nat.le_of_ble_eq_true rfl)) _) _) _) _).trans rfl)
theorem e253_1720 {x : Int32} : eb_E L d 253 1720 [v0, v1, v2, some (zi x)] (st) M = eb_E L d 253 1721 [v0, v1, v2, some (zi x)] (zi x :: st) M := eb_E_s hk253 ((congrFun (congrFun (congrFun (congrFun (lk253_29 1720 (Nat.le_of_ble_eq_true rfl)) _) _) _) _).trans rfl)
theorem e253_1721  : eb_E L d 253 1721 ls (st) M = eb_E L d 253 1722 ls (zi 3 :: st) M := eb_E_s hk253 ((congrFun (congrFun (congrFun (congrFun (lk253_29 1721 (Nat.le_of_ble_eq_true rfl)) _) _) _) _).trans rfl)
theorem e253_1722 {x : Int32} {y : Int32} : eb_E L d 253 1722 ls (zi y :: zi x :: st) M = eb_E L d 253 1723 ls (zi (x + y) :: st) M := eb_E_s hk253 ((congrFun (congrFun (congrFun (congrFun (lk253_29 1722 (Nat.le_of_ble_eq_true rfl)) _) _) _) _).trans rfl)
theorem e253_1723 {x : Int32} : eb_E L d 253 1723 ls (zi x :: Sum.inr (some a) :: st) (nc, ns, I, J, R) = if (eb_ty L a.1).1 = 17 ∧ eb_in x (eb_ty L a.1).2 = true then eb_E L d 253 1724 ls (zi (I a x.toNatClampNeg) :: st) (nc, ns, I, J, R) else none := eb_E_iy hk253 ((congrFun (congrFun (congrFun (congrFun (lk253_29 1723 (Nat.le_of_ble_eq_true rfl)) _) _) _) _).trans rfl)
theorem e253_1724 {x : Option eb_A} : eb_E L d 253 1724 [some (Sum.inr x), v1, v2, v3] (st) M = eb_E L d 253 1725 [some (Sum.inr x), v1, v2, v3] (Sum.inr x :: st) M := eb_E_s hk253 ((congrFun (congrFun (congrFun (congrFun (lk253_29 1724 (Nat.le_of_ble_eq_true rfl)) _) _) _) _).trans rfl)
theorem e253_1725 {x : Int32} : eb_E L d 253 1725 [v0, v1, v2, some (zi x)] (st) M = eb_E L d 253 1726 [v0, v1, v2, some (zi x)] (zi x :: st) M := eb_E_s hk253 ((congrFun (congrFun (congrFun (congrFun (lk253_29 1725 (Nat.le_of_ble_eq_true rfl)) _) _) _) _).trans rfl)
theorem e253_1726  : eb_E L d 253 1726 ls (st) M = eb_E L d 253 1727 ls (zi 4 :: st) M := eb_E_s hk253 ((congrFun (congrFun (congrFun (congrFun (lk253_29 1726 (Nat.le_of_ble_eq_true rfl)) _) _) _) _).trans rfl)
theorem e253_1727 {x : Int32} {y : Int32} : eb_E L d 253 1727 ls (zi y :: zi x :: st) M = eb_E L d 253 1728 ls (zi (x + y) :: st) M := eb_E_s hk253 ((congrFun (congrFun (congrFun (congrFun (lk253_29 1727 (Nat.le_of_ble_eq_true rfl)) _) _) _) _).trans rfl)
theorem e253_1728 {x : Int32} : eb_E L d 253 1728 ls (zi x :: Sum.inr (some a) :: st) (nc, ns, I, J, R) = if (eb_ty L a.1).1 = 17 ∧ eb_in x (eb_ty L a.1).2 = true then eb_E L d 253 1729 ls (zi (I a x.toNatClampNeg) :: st) (nc, ns, I, J, R) else none := eb_E_iy hk253 ((congrFun (congrFun (congrFun (congrFun (lk253_29 1728 (Nat.le_of_ble_eq_true rfl)) _) _) _) _).trans rfl)
theorem e253_1729  : eb_E L d 253 1729 ls ([a4, a3, a2, a1, a0]) M = (eb_ev L d 115 [a0, a1, a2, a3, a4] M).bind (fun q => eb_E L d 253 1732 ls [q.1] q.2) := eb_E_c hk253 ((congrFun (congrFun (congrFun (congrFun (lk253_29 1729 (Nat.le_of_ble_eq_true rfl)) _) _) _) _).trans rfl)
theorem e253_1732 {x : Option eb_A} : eb_E L d 253 1732 [v0, v1, some (Sum.inr x), v3] (st) M = eb_E L d 253 1733 [v0, v1, some (Sum.inr x), v3] (Sum.inr x :: st) M := eb_E_s hk253 ((congrFun (congrFun (congrFun (congrFun (lk253_29 1732 (Nat.le_of_ble_eq_true rfl)) _) _) _) _).trans rfl)
theorem e253_1733 {x : Option eb_A} : eb_E L d 253 1733 [some (Sum.inr x), v1, v2, v3] (st) M = eb_E L d 253 1734 [some (Sum.inr x), v1, v2, v3] (Sum.inr x :: st) M := eb_E_s hk253 ((congrFun (congrFun (congrFun (congrFun (lk253_29 1733 (Nat.le_of_ble_eq_true rfl)) _) _) _) _).trans rfl)
theorem e253_1734 {x : Int32} : eb_E L d 253 1734 [v0, v1, v2, some (zi x)] (st) M = eb_E L d 253 1735 [v0, v1, v2, some (zi x)] (zi x :: st) M := eb_E_s hk253 ((congrFun (congrFun (congrFun (congrFun (lk253_29 1734 (Nat.le_of_ble_eq_true rfl)) _) _) _) _).trans rfl)
theorem e253_1735  : eb_E L d 253 1735 ls (st) M = eb_E L d 253 1736 ls (zi 1 :: st) M := eb_E_s hk253 ((congrFun (congrFun (congrFun (congrFun (lk253_29 1735 (Nat.le_of_ble_eq_true rfl)) _) _) _) _).trans rfl)
theorem e253_1736 {x : Int32} {y : Int32} : eb_E L d 253 1736 ls (zi y :: zi x :: st) M = eb_E L d 253 1737 ls (zi (x + y) :: st) M := eb_E_s hk253 ((congrFun (congrFun (congrFun (congrFun (lk253_29 1736 (Nat.le_of_ble_eq_true rfl)) _) _) _) _).trans rfl)
theorem e253_1737 {x : Int32} : eb_E L d 253 1737 ls (zi x :: Sum.inr (some a) :: st) (nc, ns, I, J, R) = if (eb_ty L a.1).1 = 17 ∧ eb_in x (eb_ty L a.1).2 = true then eb_E L d 253 1738 ls (zi (I a x.toNatClampNeg) :: st) (nc, ns, I, J, R) else none := eb_E_iy hk253 ((congrFun (congrFun (congrFun (congrFun (lk253_29 1737 (Nat.le_of_ble_eq_true rfl)) _) _) _) _).trans rfl)
theorem e253_1738 {x : Option eb_A} : eb_E L d 253 1738 [some (Sum.inr x), v1, v2, v3] (st) M = eb_E L d 253 1739 [some (Sum.inr x), v1, v2, v3] (Sum.inr x :: st) M := eb_E_s hk253 ((congrFun (congrFun (congrFun (congrFun (lk253_29 1738 (Nat.le_of_ble_eq_true rfl)) _) _) _) _).trans rfl)
theorem e253_1739 {x : Int32} : eb_E L d 253 1739 [v0, v1, v2, some (zi x)] (st) M = eb_E L d 253 1740 [v0, v1, v2, some (zi x)] (zi x :: st) M := eb_E_s hk253 ((congrFun (congrFun (congrFun (congrFun (lk253_29 1739 (Nat.le_of_ble_eq_true rfl)) _) _) _) _).trans rfl)
theorem e253_1740  : eb_E L d 253 1740 ls (st) M = eb_E L d 253 1741 ls (zi 2 :: st) M := eb_E_s hk253 ((congrFun (congrFun (congrFun (congrFun (lk253_29 1740 (Nat.le_of_ble_eq_true rfl)) _) _) _) _).trans rfl)
theorem e253_1741 {x : Int32} {y : Int32} : eb_E L d 253 1741 ls (zi y :: zi x :: st) M = eb_E L d 253 1742 ls (zi (x + y) :: st) M := eb_E_s hk253 ((congrFun (congrFun (congrFun (congrFun (lk253_29 1741 (Nat.le_of_ble_eq_true rfl)) _) _) _) _).trans rfl)
theorem e253_1742 {x : Int32} : eb_E L d 253 1742 ls (zi x :: Sum.inr (some a) :: st) (nc, ns, I, J, R) = if (eb_ty L a.1).1 = 17 ∧ eb_in x (eb_ty L a.1).2 = true then eb_E L d 253 1743 ls (zi (I a x.toNatClampNeg) :: st) (nc, ns, I, J, R) else none := eb_E_iy hk253 ((congrFun (congrFun (congrFun (congrFun (lk253_29 1742 (Nat.le_of_ble_eq_true rfl)) _) _) _) _).trans rfl)
theorem e253_1743 {x : Option eb_A} : eb_E L d 253 1743 [some (Sum.inr x), v1, v2, v3] (st) M = eb_E L d 253 1744 [some (Sum.inr x), v1, v2, v3] (Sum.inr x :: st) M := eb_E_s hk253 ((congrFun (congrFun (congrFun (congrFun (lk253_29 1743 (Nat.le_of_ble_eq_true rfl)) _) _) _) _).trans rfl)
theorem e253_1744 {x : Int32} : eb_E L d 253 1744 [v0, v1, v2, some (zi x)] (st) M = eb_E L d 253 1745 [v0, v1, v2, some (zi x)] (zi x :: st) M := eb_E_s hk253 ((congrFun (congrFun (congrFun (congrFun (lk253_30 1744 (Nat.le_of_ble_eq_true rfl)) _) _) _) _).trans rfl)
theorem e253_1745  : eb_E L d 253 1745 ls (st) M = eb_E L d 253 1746 ls (zi 3 :: st) M := eb_E_s hk253 ((congrFun (congrFun (congrFun (congrFun (lk253_30 1745 (Nat.le_of_ble_eq_true rfl)) _) _) _) _).trans rfl)
theorem e253_1746 {x : Int32} {y : Int32} : eb_E L d 253 1746 ls (zi y :: zi x :: st) M = eb_E L d 253 1747 ls (zi (x + y) :: st) M := eb_E_s hk253 ((congrFun (congrFun (congrFun (congrFun (lk253_30 1746 (Nat.le_of_ble_eq_true rfl)) _) _) _) _).trans rfl)
theorem e253_1747 {x : Int32} : eb_E L d 253 1747 ls (zi x :: Sum.inr (some a) :: st) (nc, ns, I, J, R) = if (eb_ty L a.1).1 = 17 ∧ eb_in x (eb_ty L a.1).2 = true then eb_E L d 253 1748 ls (zi (I a x.toNatClampNeg) :: st) (nc, ns, I, J, R) else none := eb_E_iy hk253 ((congrFun (congrFun (congrFun (congrFun (lk253_30 1747 (Nat.le_of_ble_eq_true rfl)) _) _) _) _).trans rfl)
theorem e253_1748 {x : Option eb_A} : eb_E L d 253 1748 [some (Sum.inr x), v1, v2, v3] (st) M = eb_E L d 253 1749 [some (Sum.inr x), v1, v2, v3] (Sum.inr x :: st) M := eb_E_s hk253 ((congrFun (congrFun (congrFun (congrFun (lk253_30 1748 (Nat.le_of_ble_eq_true rfl)) _) _) _) _).trans rfl)
theorem e253_1749 {x : Int32} : eb_E L d 253 1749 [v0, v1, v2, some (zi x)] (st) M = eb_E L d 253 1750 [v0, v1, v2, some (zi x)] (zi x :: st) M := eb_E_s hk253 ((congrFun (congrFun (congrFun (congrFun (lk253_30 1749 (Nat.le_of_ble_eq_true rfl)) _) _) _) _).trans rfl)
theorem e253_1750  : eb_E L d 253 1750 ls (st) M = eb_E L d 253 1751 ls (zi 4 :: st) M := eb_E_s hk253 ((congrFun (congrFun (congrFun (congrFun (lk253_30 1750 (Nat.le_of_ble_eq_true rfl)) _) _) _) _).trans rfl)
theorem e253_1751 {x : Int32} {y : Int32} : eb_E L d 253 1751 ls (zi y :: zi x :: st) M = eb_E L d 253 1752 ls (zi (x + y) :: st) M := eb_E_s hk253 ((congrFun (congrFun (congrFun (congrFun (lk253_30 1751 (Nat.le_of_ble_eq_true rfl)) _) _) _) _).trans rfl)
theorem e253_1752 {x : Int32} : eb_E L d 253 1752 ls (zi x :: Sum.inr (some a) :: st) (nc, ns, I, J, R) = if (eb_ty L a.1).1 = 17 ∧ eb_in x (eb_ty L a.1).2 = true then eb_E L d 253 1753 ls (zi (I a x.toNatClampNeg) :: st) (nc, ns, I, J, R) else none := eb_E_iy hk253 ((congrFun (congrFun (congrFun (congrFun (lk253_30 1752 (Nat.le_of_ble_eq_true rfl)) _) _) _) _).trans rfl)
theorem e253_1753 {s0 : Int32} : eb_E L d 253 1753 ls ([a4, a3, a2, a1, a0, zi s0]) M = (eb_ev L d 238 [a0, a1, a2, a3, a4] M).bind (fun q => eb_E L d 253 1756 ls [q.1, zi s0] q.2) := eb_E_c hk253 ((congrFun (congrFun (congrFun (congrFun (lk253_30 1753 (Nat.le_of_ble_eq_true rfl)) _) _) _) _).trans rfl)
theorem e253_1756 {x : Int32} {y : Int32} : eb_E L d 253 1756 ls (zi y :: zi x :: st) M = if x = y then eb_E L d 253 1948 ls st M else eb_E L d 253 1759 ls st M := eb_E_b hk253 ((congrFun (congrFun (congrFun (congrFun (lk253_30 1756 (Nat.le_of_ble_eq_true rfl)) _) _) _) _).trans rfl)
theorem e253_1759  : eb_E L d 253 1759 ls (st) M = eb_E L d 253 1760 ls (zi 0 :: st) M := eb_E_s hk253 ((congrFun (congrFun (congrFun (congrFun (lk253_30 1759 (Nat.le_of_ble_eq_true rfl)) _) _) _) _).trans rfl)
theorem e253_1760 {x : Int32} : eb_E L d 253 1760 ls ([zi x]) M = if x = 0 ∨ x = 1 then some (zi x, M) else none := eb_E_ri hk253 ((congrFun (congrFun (congrFun (congrFun (lk253_30 1760 (Nat.le_of_ble_eq_true rfl)) _) _) _) _).trans rfl)
theorem e253_1761 {x : Option eb_A} : eb_E L d 253 1761 [v0, some (Sum.inr x), v2, v3] (st) M = eb_E L d 253 1762 [v0, some (Sum.inr x), v2, v3] (Sum.inr x :: st) M := eb_E_s hk253 ((congrFun (congrFun (congrFun (congrFun (lk253_30 1761 (Nat.le_of_ble_eq_true rfl)) _) _) _) _).trans rfl)
theorem e253_1762 {x : Option eb_A} : eb_E L d 253 1762 [some (Sum.inr x), v1, v2, v3] (st) M = eb_E L d 253 1763 [some (Sum.inr x), v1, v2, v3] (Sum.inr x :: st) M := eb_E_s hk253 ((congrFun (congrFun (congrFun (congrFun (lk253_30 1762 (Nat.le_of_ble_eq_true rfl)) _) _) _) _).trans rfl)
theorem e253_1763 {x : Int32} : eb_E L d 253 1763 [v0, v1, v2, some (zi x)] (st) M = eb_E L d 253 1764 [v0, v1, v2, some (zi x)] (zi x :: st) M := eb_E_s hk253 ((congrFun (congrFun (congrFun (congrFun (lk253_30 1763 (Nat.le_of_ble_eq_true rfl)) _) _) _) _).trans rfl)
theorem e253_1764  : eb_E L d 253 1764 ls (st) M = eb_E L d 253 1765 ls (zi 1 :: st) M := eb_E_s hk253 ((congrFun (congrFun (congrFun (congrFun (lk253_30 1764 (Nat.le_of_ble_eq_true rfl)) _) _) _) _).trans rfl)
theorem e253_1765 {x : Int32} {y : Int32} : eb_E L d 253 1765 ls (zi y :: zi x :: st) M = eb_E L d 253 1766 ls (zi (x + y) :: st) M := eb_E_s hk253 ((congrFun (congrFun (congrFun (congrFun (lk253_30 1765 (Nat.le_of_ble_eq_true rfl)) _) _) _) _).trans rfl)
theorem e253_1766 {x : Int32} : eb_E L d 253 1766 ls (zi x :: Sum.inr (some a) :: st) (nc, ns, I, J, R) = if (eb_ty L a.1).1 = 17 ∧ eb_in x (eb_ty L a.1).2 = true then eb_E L d 253 1767 ls (zi (I a x.toNatClampNeg) :: st) (nc, ns, I, J, R) else none := eb_E_iy hk253 ((congrFun (congrFun (congrFun (congrFun (lk253_30 1766 (Nat.le_of_ble_eq_true rfl)) _) _) _) _).trans rfl)
theorem e253_1767  : eb_E L d 253 1767 ls ([a1, a0]) M = (eb_ev L d 116 [a0, a1] M).bind (fun q => eb_E L d 253 1770 ls [q.1] q.2) := eb_E_c hk253 ((congrFun (congrFun (congrFun (congrFun (lk253_30 1767 (Nat.le_of_ble_eq_true rfl)) _) _) _) _).trans rfl)
theorem e253_1770 {x : Option eb_A} : eb_E L d 253 1770 [v0, v1, some (Sum.inr x), v3] (st) M = eb_E L d 253 1771 [v0, v1, some (Sum.inr x), v3] (Sum.inr x :: st) M := eb_E_s hk253 ((congrFun (congrFun (congrFun (congrFun (lk253_30 1770 (Nat.le_of_ble_eq_true rfl)) _) _) _) _).trans rfl)
theorem e253_1771 {x : Option eb_A} : eb_E L d 253 1771 [some (Sum.inr x), v1, v2, v3] (st) M = eb_E L d 253 1772 [some (Sum.inr x), v1, v2, v3] (Sum.inr x :: st) M := eb_E_s hk253 ((congrFun (congrFun (congrFun (congrFun (lk253_30 1771 (Nat.le_of_ble_eq_true rfl)) _) _) _) _).trans rfl)
theorem e253_1772 {x : Int32} : eb_E L d 253 1772 [v0, v1, v2, some (zi x)] (st) M = eb_E L d 253 1773 [v0, v1, v2, some (zi x)] (zi x :: st) M := eb_E_s hk253 ((congrFun (congrFun (congrFun (congrFun (lk253_30 1772 (Nat.le_of_ble_eq_true rfl)) _) _) _) _).trans rfl)
theorem e253_1773  : eb_E L d 253 1773 ls (st) M = eb_E L d 253 1774 ls (zi 1 :: st) M := eb_E_s hk253 ((congrFun (congrFun (congrFun (congrFun (lk253_30 1773 (Nat.le_of_ble_eq_true rfl)) _) _) _) _).trans rfl)
theorem e253_1774 {x : Int32} {y : Int32} : eb_E L d 253 1774 ls (zi y :: zi x :: st) M = eb_E L d 253 1775 ls (zi (x + y) :: st) M := eb_E_s hk253 ((congrFun (congrFun (congrFun (congrFun (lk253_30 1774 (Nat.le_of_ble_eq_true rfl)) _) _) _) _).trans rfl)
theorem e253_1775 {x : Int32} : eb_E L d 253 1775 ls (zi x :: Sum.inr (some a) :: st) (nc, ns, I, J, R) = if (eb_ty L a.1).1 = 17 ∧ eb_in x (eb_ty L a.1).2 = true then eb_E L d 253 1776 ls (zi (I a x.toNatClampNeg) :: st) (nc, ns, I, J, R) else none := eb_E_iy hk253 ((congrFun (congrFun (congrFun (congrFun (lk253_30 1775 (Nat.le_of_ble_eq_true rfl)) _) _) _) _).trans rfl)
theorem e253_1776 {s0 : Int32} : eb_E L d 253 1776 ls ([a1, a0, zi s0]) M = (eb_ev L d 239 [a0, a1] M).bind (fun q => eb_E L d 253 1779 ls [q.1, zi s0] q.2) := eb_E_c hk253 ((congrFun (congrFun (congrFun (congrFun (lk253_30 1776 (Nat.le_of_ble_eq_true rfl)) _) _) _) _).trans rfl)
theorem e253_1779 {x : Int32} {y : Int32} : eb_E L d 253 1779 ls (zi y :: zi x :: st) M = if x = y then eb_E L d 253 1948 ls st M else eb_E L d 253 1782 ls st M := eb_E_b hk253 ((congrFun (congrFun (congrFun (congrFun (lk253_30 1779 (Nat.le_of_ble_eq_true rfl)) _) _) _) _).trans rfl)
theorem e253_1782  : eb_E L d 253 1782 ls (st) M = eb_E L d 253 1783 ls (zi 0 :: st) M := eb_E_s hk253 ((congrFun (congrFun (congrFun (congrFun (lk253_30 1782 (Nat.le_of_ble_eq_true rfl)) _) _) _) _).trans rfl)
theorem e253_1783 {x : Int32} : eb_E L d 253 1783 ls ([zi x]) M = if x = 0 ∨ x = 1 then some (zi x, M) else none := eb_E_ri hk253 ((congrFun (congrFun (congrFun (congrFun (lk253_30 1783 (Nat.le_of_ble_eq_true rfl)) _) _) _) _).trans rfl)
theorem e253_1784 {x : Option eb_A} : eb_E L d 253 1784 [v0, some (Sum.inr x), v2, v3] (st) M = eb_E L d 253 1785 [v0, some (Sum.inr x), v2, v3] (Sum.inr x :: st) M := eb_E_s hk253 ((congrFun (congrFun (congrFun (congrFun (lk253_30 1784 (Nat.le_of_ble_eq_true rfl)) _) _) _) _).trans rfl)
theorem e253_1785 {x : Option eb_A} : eb_E L d 253 1785 [some (Sum.inr x), v1, v2, v3] (st) M = eb_E L d 253 1786 [some (Sum.inr x), v1, v2, v3] (Sum.inr x :: st) M := eb_E_s hk253 ((congrFun (congrFun (congrFun (congrFun (lk253_30 1785 (Nat.le_of_ble_eq_true rfl)) _) _) _) _).trans rfl)
theorem e253_1786 {x : Int32} : eb_E L d 253 1786 [v0, v1, v2, some (zi x)] (st) M = eb_E L d 253 1787 [v0, v1, v2, some (zi x)] (zi x :: st) M := eb_E_s hk253 ((congrFun (congrFun (congrFun (congrFun (lk253_30 1786 (Nat.le_of_ble_eq_true rfl)) _) _) _) _).trans rfl)
theorem e253_1787  : eb_E L d 253 1787 ls (st) M = eb_E L d 253 1788 ls (zi 1 :: st) M := eb_E_s hk253 ((congrFun (congrFun (congrFun (congrFun (lk253_30 1787 (Nat.le_of_ble_eq_true rfl)) _) _) _) _).trans rfl)
theorem e253_1788 {x : Int32} {y : Int32} : eb_E L d 253 1788 ls (zi y :: zi x :: st) M = eb_E L d 253 1789 ls (zi (x + y) :: st) M := eb_E_s hk253 ((congrFun (congrFun (congrFun (congrFun (lk253_30 1788 (Nat.le_of_ble_eq_true rfl)) _) _) _) _).trans rfl)
theorem e253_1789 {x : Int32} : eb_E L d 253 1789 ls (zi x :: Sum.inr (some a) :: st) (nc, ns, I, J, R) = if (eb_ty L a.1).1 = 17 ∧ eb_in x (eb_ty L a.1).2 = true then eb_E L d 253 1790 ls (zi (I a x.toNatClampNeg) :: st) (nc, ns, I, J, R) else none := eb_E_iy hk253 ((congrFun (congrFun (congrFun (congrFun (lk253_30 1789 (Nat.le_of_ble_eq_true rfl)) _) _) _) _).trans rfl)
theorem e253_1790 {x : Option eb_A} : eb_E L d 253 1790 [some (Sum.inr x), v1, v2, v3] (st) M = eb_E L d 253 1791 [some (Sum.inr x), v1, v2, v3] (Sum.inr x :: st) M := eb_E_s hk253 ((congrFun (congrFun (congrFun (congrFun (lk253_30 1790 (Nat.le_of_ble_eq_true rfl)) _) _) _) _).trans rfl)
theorem e253_1791 {x : Int32} : eb_E L d 253 1791 [v0, v1, v2, some (zi x)] (st) M = eb_E L d 253 1792 [v0, v1, v2, some (zi x)] (zi x :: st) M := eb_E_s hk253 ((congrFun (congrFun (congrFun (congrFun (lk253_30 1791 (Nat.le_of_ble_eq_true rfl)) _) _) _) _).trans rfl)
theorem e253_1792  : eb_E L d 253 1792 ls (st) M = eb_E L d 253 1793 ls (zi 2 :: st) M := eb_E_s hk253 ((congrFun (congrFun (congrFun (congrFun (lk253_30 1792 (Nat.le_of_ble_eq_true rfl)) _) _) _) _).trans rfl)
theorem e253_1793 {x : Int32} {y : Int32} : eb_E L d 253 1793 ls (zi y :: zi x :: st) M = eb_E L d 253 1794 ls (zi (x + y) :: st) M := eb_E_s hk253 ((congrFun (congrFun (congrFun (congrFun (lk253_30 1793 (Nat.le_of_ble_eq_true rfl)) _) _) _) _).trans rfl)
theorem e253_1794 {x : Int32} : eb_E L d 253 1794 ls (zi x :: Sum.inr (some a) :: st) (nc, ns, I, J, R) = if (eb_ty L a.1).1 = 17 ∧ eb_in x (eb_ty L a.1).2 = true then eb_E L d 253 1795 ls (zi (I a x.toNatClampNeg) :: st) (nc, ns, I, J, R) else none := eb_E_iy hk253 ((congrFun (congrFun (congrFun (congrFun (lk253_31 1794 (Nat.le_of_ble_eq_true rfl)) _) _) _) _).trans rfl)
theorem e253_1795  : eb_E L d 253 1795 ls ([a2, a1, a0]) M = (eb_ev L d 117 [a0, a1, a2] M).bind (fun q => eb_E L d 253 1798 ls [q.1] q.2) := eb_E_c hk253 ((congrFun (congrFun (congrFun (congrFun (lk253_31 1795 (Nat.le_of_ble_eq_true rfl)) _) _) _) _).trans rfl)
theorem e253_1798 {x : Option eb_A} : eb_E L d 253 1798 [v0, v1, some (Sum.inr x), v3] (st) M = eb_E L d 253 1799 [v0, v1, some (Sum.inr x), v3] (Sum.inr x :: st) M := eb_E_s hk253 ((congrFun (congrFun (congrFun (congrFun (lk253_31 1798 (Nat.le_of_ble_eq_true rfl)) _) _) _) _).trans rfl)
theorem e253_1799 {x : Option eb_A} : eb_E L d 253 1799 [some (Sum.inr x), v1, v2, v3] (st) M = eb_E L d 253 1800 [some (Sum.inr x), v1, v2, v3] (Sum.inr x :: st) M := eb_E_s hk253 ((congrFun (congrFun (congrFun (congrFun (lk253_31 1799 (Nat.le_of_ble_eq_true rfl)) _) _) _) _).trans rfl)
theorem e253_1800 {x : Int32} : eb_E L d 253 1800 [v0, v1, v2, some (zi x)] (st) M = eb_E L d 253 1801 [v0, v1, v2, some (zi x)] (zi x :: st) M := eb_E_s hk253 ((congrFun (congrFun (congrFun (congrFun (lk253_31 1800 (Nat.le_of_ble_eq_true rfl)) _) _) _) _).trans rfl)
theorem e253_1801  : eb_E L d 253 1801 ls (st) M = eb_E L d 253 1802 ls (zi 1 :: st) M := eb_E_s hk253 ((congrFun (congrFun (congrFun (congrFun (lk253_31 1801 (Nat.le_of_ble_eq_true rfl)) _) _) _) _).trans rfl)
theorem e253_1802 {x : Int32} {y : Int32} : eb_E L d 253 1802 ls (zi y :: zi x :: st) M = eb_E L d 253 1803 ls (zi (x + y) :: st) M := eb_E_s hk253 ((congrFun (congrFun (congrFun (congrFun (lk253_31 1802 (Nat.le_of_ble_eq_true rfl)) _) _) _) _).trans rfl)
theorem e253_1803 {x : Int32} : eb_E L d 253 1803 ls (zi x :: Sum.inr (some a) :: st) (nc, ns, I, J, R) = if (eb_ty L a.1).1 = 17 ∧ eb_in x (eb_ty L a.1).2 = true then eb_E L d 253 1804 ls (zi (I a x.toNatClampNeg) :: st) (nc, ns, I, J, R) else none := eb_E_iy hk253 ((congrFun (congrFun (congrFun (congrFun (lk253_31 1803 (Nat.le_of_ble_eq_true rfl)) _) _) _) _).trans rfl)
theorem e253_1804 {x : Option eb_A} : eb_E L d 253 1804 [some (Sum.inr x), v1, v2, v3] (st) M = eb_E L d 253 1805 [some (Sum.inr x), v1, v2, v3] (Sum.inr x :: st) M := eb_E_s hk253 ((congrFun (congrFun (congrFun (congrFun (lk253_31 1804 (Nat.le_of_ble_eq_true rfl)) _) _) _) _).trans rfl)
theorem e253_1805 {x : Int32} : eb_E L d 253 1805 [v0, v1, v2, some (zi x)] (st) M = eb_E L d 253 1806 [v0, v1, v2, some (zi x)] (zi x :: st) M := eb_E_s hk253 ((congrFun (congrFun (congrFun (congrFun (lk253_31 1805 (Nat.le_of_ble_eq_true rfl)) _) _) _) _).trans rfl)
theorem e253_1806  : eb_E L d 253 1806 ls (st) M = eb_E L d 253 1807 ls (zi 2 :: st) M := eb_E_s hk253 ((congrFun (congrFun (congrFun (congrFun (lk253_31 1806 (Nat.le_of_ble_eq_true rfl)) _) _) _) _).trans rfl)
theorem e253_1807 {x : Int32} {y : Int32} : eb_E L d 253 1807 ls (zi y :: zi x :: st) M = eb_E L d 253 1808 ls (zi (x + y) :: st) M := eb_E_s hk253 ((congrFun (congrFun (congrFun (congrFun (lk253_31 1807 (Nat.le_of_ble_eq_true rfl)) _) _) _) _).trans rfl)
theorem e253_1808 {x : Int32} : eb_E L d 253 1808 ls (zi x :: Sum.inr (some a) :: st) (nc, ns, I, J, R) = if (eb_ty L a.1).1 = 17 ∧ eb_in x (eb_ty L a.1).2 = true then eb_E L d 253 1809 ls (zi (I a x.toNatClampNeg) :: st) (nc, ns, I, J, R) else none := eb_E_iy hk253 ((congrFun (congrFun (congrFun (congrFun (lk253_31 1808 (Nat.le_of_ble_eq_true rfl)) _) _) _) _).trans rfl)
theorem e253_1809 {s0 : Int32} : eb_E L d 253 1809 ls ([a2, a1, a0, zi s0]) M = (eb_ev L d 240 [a0, a1, a2] M).bind (fun q => eb_E L d 253 1812 ls [q.1, zi s0] q.2) := eb_E_c hk253 ((congrFun (congrFun (congrFun (congrFun (lk253_31 1809 (Nat.le_of_ble_eq_true rfl)) _) _) _) _).trans rfl)
theorem e253_1812 {x : Int32} {y : Int32} : eb_E L d 253 1812 ls (zi y :: zi x :: st) M = if x = y then eb_E L d 253 1948 ls st M else eb_E L d 253 1815 ls st M := eb_E_b hk253 ((congrFun (congrFun (congrFun (congrFun (lk253_31 1812 (Nat.le_of_ble_eq_true rfl)) _) _) _) _).trans rfl)
theorem e253_1815  : eb_E L d 253 1815 ls (st) M = eb_E L d 253 1816 ls (zi 0 :: st) M := eb_E_s hk253 ((congrFun (congrFun (congrFun (congrFun (lk253_31 1815 (Nat.le_of_ble_eq_true rfl)) _) _) _) _).trans rfl)
theorem e253_1816 {x : Int32} : eb_E L d 253 1816 ls ([zi x]) M = if x = 0 ∨ x = 1 then some (zi x, M) else none := eb_E_ri hk253 ((congrFun (congrFun (congrFun (congrFun (lk253_31 1816 (Nat.le_of_ble_eq_true rfl)) _) _) _) _).trans rfl)
theorem e253_1817 {x : Option eb_A} : eb_E L d 253 1817 [v0, some (Sum.inr x), v2, v3] (st) M = eb_E L d 253 1818 [v0, some (Sum.inr x), v2, v3] (Sum.inr x :: st) M := eb_E_s hk253 ((congrFun (congrFun (congrFun (congrFun (lk253_31 1817 (Nat.le_of_ble_eq_true rfl)) _) _) _) _).trans rfl)
theorem e253_1818  : eb_E L d 253 1818 ls ([a0]) M = (eb_ev L d 118 [a0] M).bind (fun q => eb_E L d 253 1821 ls [q.1] q.2) := eb_E_c hk253 ((congrFun (congrFun (congrFun (congrFun (lk253_31 1818 (Nat.le_of_ble_eq_true rfl)) _) _) _) _).trans rfl)
theorem e253_1821 {x : Option eb_A} : eb_E L d 253 1821 [v0, v1, some (Sum.inr x), v3] (st) M = eb_E L d 253 1822 [v0, v1, some (Sum.inr x), v3] (Sum.inr x :: st) M := eb_E_s hk253 ((congrFun (congrFun (congrFun (congrFun (lk253_31 1821 (Nat.le_of_ble_eq_true rfl)) _) _) _) _).trans rfl)
theorem e253_1822 {s0 : Int32} : eb_E L d 253 1822 ls ([a0, zi s0]) M = (eb_ev L d 241 [a0] M).bind (fun q => eb_E L d 253 1825 ls [q.1, zi s0] q.2) := eb_E_c hk253 ((congrFun (congrFun (congrFun (congrFun (lk253_31 1822 (Nat.le_of_ble_eq_true rfl)) _) _) _) _).trans rfl)
theorem e253_1825 {x : Int32} {y : Int32} : eb_E L d 253 1825 ls (zi y :: zi x :: st) M = if x = y then eb_E L d 253 1948 ls st M else eb_E L d 253 1828 ls st M := eb_E_b hk253 ((congrFun (congrFun (congrFun (congrFun (lk253_31 1825 (Nat.le_of_ble_eq_true rfl)) _) _) _) _).trans rfl)
theorem e253_1828  : eb_E L d 253 1828 ls (st) M = eb_E L d 253 1829 ls (zi 0 :: st) M := eb_E_s hk253 ((congrFun (congrFun (congrFun (congrFun (lk253_31 1828 (Nat.le_of_ble_eq_true rfl)) _) _) _) _).trans rfl)
theorem e253_1829 {x : Int32} : eb_E L d 253 1829 ls ([zi x]) M = if x = 0 ∨ x = 1 then some (zi x, M) else none := eb_E_ri hk253 ((congrFun (congrFun (congrFun (congrFun (lk253_31 1829 (Nat.le_of_ble_eq_true rfl)) _) _) _) _).trans rfl)
theorem e253_1830 {x : Option eb_A} : eb_E L d 253 1830 [v0, some (Sum.inr x), v2, v3] (st) M = eb_E L d 253 1831 [v0, some (Sum.inr x), v2, v3] (Sum.inr x :: st) M := eb_E_s hk253 ((congrFun (congrFun (congrFun (congrFun (lk253_31 1830 (Nat.le_of_ble_eq_true rfl)) _) _) _) _).trans rfl)
theorem e253_1831 {x : Option eb_A} : eb_E L d 253 1831 [some (Sum.inr x), v1, v2, v3] (st) M = eb_E L d 253 1832 [some (Sum.inr x), v1, v2, v3] (Sum.inr x :: st) M := eb_E_s hk253 ((congrFun (congrFun (congrFun (congrFun (lk253_31 1831 (Nat.le_of_ble_eq_true rfl)) _) _) _) _).trans rfl)
theorem e253_1832 {x : Int32} : eb_E L d 253 1832 [v0, v1, v2, some (zi x)] (st) M = eb_E L d 253 1833 [v0, v1, v2, some (zi x)] (zi x :: st) M := eb_E_s hk253 ((congrFun (congrFun (congrFun (congrFun (lk253_31 1832 (Nat.le_of_ble_eq_true rfl)) _) _) _) _).trans rfl)
theorem e253_1833  : eb_E L d 253 1833 ls (st) M = eb_E L d 253 1834 ls (zi 1 :: st) M := eb_E_s hk253 ((congrFun (congrFun (congrFun (congrFun (lk253_31 1833 (Nat.le_of_ble_eq_true rfl)) _) _) _) _).trans rfl)
theorem e253_1834 {x : Int32} {y : Int32} : eb_E L d 253 1834 ls (zi y :: zi x :: st) M = eb_E L d 253 1835 ls (zi (x + y) :: st) M := eb_E_s hk253 ((congrFun (congrFun (congrFun (congrFun (lk253_31 1834 (Nat.le_of_ble_eq_true rfl)) _) _) _) _).trans rfl)
theorem e253_1835 {x : Int32} : eb_E L d 253 1835 ls (zi x :: Sum.inr (some a) :: st) (nc, ns, I, J, R) = if (eb_ty L a.1).1 = 17 ∧ eb_in x (eb_ty L a.1).2 = true then eb_E L d 253 1836 ls (zi (I a x.toNatClampNeg) :: st) (nc, ns, I, J, R) else none := eb_E_iy hk253 ((congrFun (congrFun (congrFun (congrFun (lk253_31 1835 (Nat.le_of_ble_eq_true rfl)) _) _) _) _).trans rfl)
theorem e253_1836  : eb_E L d 253 1836 ls ([a1, a0]) M = (eb_ev L d 119 [a0, a1] M).bind (fun q => eb_E L d 253 1839 ls [q.1] q.2) := eb_E_c hk253 ((congrFun (congrFun (congrFun (congrFun (lk253_31 1836 (Nat.le_of_ble_eq_true rfl)) _) _) _) _).trans rfl)
theorem e253_1839 {x : Option eb_A} : eb_E L d 253 1839 [v0, v1, some (Sum.inr x), v3] (st) M = eb_E L d 253 1840 [v0, v1, some (Sum.inr x), v3] (Sum.inr x :: st) M := eb_E_s hk253 ((congrFun (congrFun (congrFun (congrFun (lk253_31 1839 (Nat.le_of_ble_eq_true rfl)) _) _) _) _).trans rfl)
theorem e253_1840 {x : Option eb_A} : eb_E L d 253 1840 [some (Sum.inr x), v1, v2, v3] (st) M = eb_E L d 253 1841 [some (Sum.inr x), v1, v2, v3] (Sum.inr x :: st) M := eb_E_s hk253 ((congrFun (congrFun (congrFun (congrFun (lk253_31 1840 (Nat.le_of_ble_eq_true rfl)) _) _) _) _).trans rfl)
theorem e253_1841 {x : Int32} : eb_E L d 253 1841 [v0, v1, v2, some (zi x)] (st) M = eb_E L d 253 1842 [v0, v1, v2, some (zi x)] (zi x :: st) M := eb_E_s hk253 ((congrFun (congrFun (congrFun (congrFun (lk253_31 1841 (Nat.le_of_ble_eq_true rfl)) _) _) _) _).trans rfl)
theorem e253_1842  : eb_E L d 253 1842 ls (st) M = eb_E L d 253 1843 ls (zi 1 :: st) M := eb_E_s hk253 ((congrFun (congrFun (congrFun (congrFun (lk253_31 1842 (Nat.le_of_ble_eq_true rfl)) _) _) _) _).trans rfl)
theorem e253_1843 {x : Int32} {y : Int32} : eb_E L d 253 1843 ls (zi y :: zi x :: st) M = eb_E L d 253 1844 ls (zi (x + y) :: st) M := eb_E_s hk253 ((congrFun (congrFun (congrFun (congrFun (lk253_31 1843 (Nat.le_of_ble_eq_true rfl)) _) _) _) _).trans rfl)
theorem e253_1844 {x : Int32} : eb_E L d 253 1844 ls (zi x :: Sum.inr (some a) :: st) (nc, ns, I, J, R) = if (eb_ty L a.1).1 = 17 ∧ eb_in x (eb_ty L a.1).2 = true then eb_E L d 253 1845 ls (zi (I a x.toNatClampNeg) :: st) (nc, ns, I, J, R) else none := eb_E_iy hk253 ((congrFun (congrFun (congrFun (congrFun (lk253_31 1844 (Nat.le_of_ble_eq_true rfl)) _) _) _) _).trans rfl)
theorem e253_1845 {s0 : Int32} : eb_E L d 253 1845 ls ([a1, a0, zi s0]) M = (eb_ev L d 242 [a0, a1] M).bind (fun q => eb_E L d 253 1848 ls [q.1, zi s0] q.2) := eb_E_c hk253 ((congrFun (congrFun (congrFun (congrFun (lk253_31 1845 (Nat.le_of_ble_eq_true rfl)) _) _) _) _).trans rfl)
theorem e253_1848 {x : Int32} {y : Int32} : eb_E L d 253 1848 ls (zi y :: zi x :: st) M = if x = y then eb_E L d 253 1948 ls st M else eb_E L d 253 1851 ls st M := eb_E_b hk253 ((congrFun (congrFun (congrFun (congrFun (lk253_31 1848 (Nat.le_of_ble_eq_true rfl)) _) _) _) _).trans rfl)
theorem e253_1851  : eb_E L d 253 1851 ls (st) M = eb_E L d 253 1852 ls (zi 0 :: st) M := eb_E_s hk253 ((congrFun (congrFun (congrFun (congrFun (lk253_31 1851 (Nat.le_of_ble_eq_true rfl)) _) _) _) _).trans rfl)
theorem e253_1852 {x : Int32} : eb_E L d 253 1852 ls ([zi x]) M = if x = 0 ∨ x = 1 then some (zi x, M) else none := eb_E_ri hk253 ((congrFun (congrFun (congrFun (congrFun (lk253_32 1852 (Nat.le_of_ble_eq_true rfl)) _) _) _) _).trans rfl)
theorem e253_1853 {x : Option eb_A} : eb_E L d 253 1853 [v0, some (Sum.inr x), v2, v3] (st) M = eb_E L d 253 1854 [v0, some (Sum.inr x), v2, v3] (Sum.inr x :: st) M := eb_E_s hk253 ((congrFun (congrFun (congrFun (congrFun (lk253_32 1853 (Nat.le_of_ble_eq_true rfl)) _) _) _) _).trans rfl)
theorem e253_1854 {x : Option eb_A} : eb_E L d 253 1854 [some (Sum.inr x), v1, v2, v3] (st) M = eb_E L d 253 1855 [some (Sum.inr x), v1, v2, v3] (Sum.inr x :: st) M := eb_E_s hk253 ((congrFun (congrFun (congrFun (congrFun (lk253_32 1854 (Nat.le_of_ble_eq_true rfl)) _) _) _) _).trans rfl)
theorem e253_1855 {x : Int32} : eb_E L d 253 1855 [v0, v1, v2, some (zi x)] (st) M = eb_E L d 253 1856 [v0, v1, v2, some (zi x)] (zi x :: st) M := eb_E_s hk253 ((congrFun (congrFun (congrFun (congrFun (lk253_32 1855 (Nat.le_of_ble_eq_true rfl)) _) _) _) _).trans rfl)
theorem e253_1856  : eb_E L d 253 1856 ls (st) M = eb_E L d 253 1857 ls (zi 1 :: st) M := eb_E_s hk253 ((congrFun (congrFun (congrFun (congrFun (lk253_32 1856 (Nat.le_of_ble_eq_true rfl)) _) _) _) _).trans rfl)
theorem e253_1857 {x : Int32} {y : Int32} : eb_E L d 253 1857 ls (zi y :: zi x :: st) M = eb_E L d 253 1858 ls (zi (x + y) :: st) M := eb_E_s hk253 ((congrFun (congrFun (congrFun (congrFun (lk253_32 1857 (Nat.le_of_ble_eq_true rfl)) _) _) _) _).trans rfl)
theorem e253_1858 {x : Int32} : eb_E L d 253 1858 ls (zi x :: Sum.inr (some a) :: st) (nc, ns, I, J, R) = if (eb_ty L a.1).1 = 17 ∧ eb_in x (eb_ty L a.1).2 = true then eb_E L d 253 1859 ls (zi (I a x.toNatClampNeg) :: st) (nc, ns, I, J, R) else none := eb_E_iy hk253 ((congrFun (congrFun (congrFun (congrFun (lk253_32 1858 (Nat.le_of_ble_eq_true rfl)) _) _) _) _).trans rfl)
theorem e253_1859  : eb_E L d 253 1859 ls ([a1, a0]) M = (eb_ev L d 120 [a0, a1] M).bind (fun q => eb_E L d 253 1862 ls [q.1] q.2) := eb_E_c hk253 ((congrFun (congrFun (congrFun (congrFun (lk253_32 1859 (Nat.le_of_ble_eq_true rfl)) _) _) _) _).trans rfl)
theorem e253_1862 {x : Option eb_A} : eb_E L d 253 1862 [v0, v1, some (Sum.inr x), v3] (st) M = eb_E L d 253 1863 [v0, v1, some (Sum.inr x), v3] (Sum.inr x :: st) M := eb_E_s hk253 ((congrFun (congrFun (congrFun (congrFun (lk253_32 1862 (Nat.le_of_ble_eq_true rfl)) _) _) _) _).trans rfl)
theorem e253_1863 {x : Option eb_A} : eb_E L d 253 1863 [some (Sum.inr x), v1, v2, v3] (st) M = eb_E L d 253 1864 [some (Sum.inr x), v1, v2, v3] (Sum.inr x :: st) M := eb_E_s hk253 ((congrFun (congrFun (congrFun (congrFun (lk253_32 1863 (Nat.le_of_ble_eq_true rfl)) _) _) _) _).trans rfl)
theorem e253_1864 {x : Int32} : eb_E L d 253 1864 [v0, v1, v2, some (zi x)] (st) M = eb_E L d 253 1865 [v0, v1, v2, some (zi x)] (zi x :: st) M := eb_E_s hk253 ((congrFun (congrFun (congrFun (congrFun (lk253_32 1864 (Nat.le_of_ble_eq_true rfl)) _) _) _) _).trans rfl)
theorem e253_1865  : eb_E L d 253 1865 ls (st) M = eb_E L d 253 1866 ls (zi 1 :: st) M := eb_E_s hk253 ((congrFun (congrFun (congrFun (congrFun (lk253_32 1865 (Nat.le_of_ble_eq_true rfl)) _) _) _) _).trans rfl)
theorem e253_1866 {x : Int32} {y : Int32} : eb_E L d 253 1866 ls (zi y :: zi x :: st) M = eb_E L d 253 1867 ls (zi (x + y) :: st) M := eb_E_s hk253 ((congrFun (congrFun (congrFun (congrFun (lk253_32 1866 (Nat.le_of_ble_eq_true rfl)) _) _) _) _).trans rfl)
theorem e253_1867 {x : Int32} : eb_E L d 253 1867 ls (zi x :: Sum.inr (some a) :: st) (nc, ns, I, J, R) = if (eb_ty L a.1).1 = 17 ∧ eb_in x (eb_ty L a.1).2 = true then eb_E L d 253 1868 ls (zi (I a x.toNatClampNeg) :: st) (nc, ns, I, J, R) else none := eb_E_iy hk253 ((congrFun (congrFun (congrFun (congrFun (lk253_32 1867 (Nat.le_of_ble_eq_true rfl)) _) _) _) _).trans rfl)
theorem e253_1868 {s0 : Int32} : eb_E L d 253 1868 ls ([a1, a0, zi s0]) M = (eb_ev L d 244 [a0, a1] M).bind (fun q => eb_E L d 253 1871 ls [q.1, zi s0] q.2) := eb_E_c hk253 ((congrFun (congrFun (congrFun (congrFun (lk253_32 1868 (Nat.le_of_ble_eq_true rfl)) _) _) _) _).trans rfl)
theorem e253_1871 {x : Int32} {y : Int32} : eb_E L d 253 1871 ls (zi y :: zi x :: st) M = if x = y then eb_E L d 253 1948 ls st M else eb_E L d 253 1874 ls st M := eb_E_b hk253 ((congrFun (congrFun (congrFun (congrFun (lk253_32 1871 (Nat.le_of_ble_eq_true rfl)) _) _) _) _).trans rfl)
theorem e253_1874  : eb_E L d 253 1874 ls (st) M = eb_E L d 253 1875 ls (zi 0 :: st) M := eb_E_s hk253 ((congrFun (congrFun (congrFun (congrFun (lk253_32 1874 (Nat.le_of_ble_eq_true rfl)) _) _) _) _).trans rfl)
theorem e253_1875 {x : Int32} : eb_E L d 253 1875 ls ([zi x]) M = if x = 0 ∨ x = 1 then some (zi x, M) else none := eb_E_ri hk253 ((congrFun (congrFun (congrFun (congrFun (lk253_32 1875 (Nat.le_of_ble_eq_true rfl)) _) _) _) _).trans rfl)
theorem e253_1876 {x : Option eb_A} : eb_E L d 253 1876 [v0, some (Sum.inr x), v2, v3] (st) M = eb_E L d 253 1877 [v0, some (Sum.inr x), v2, v3] (Sum.inr x :: st) M := eb_E_s hk253 ((congrFun (congrFun (congrFun (congrFun (lk253_32 1876 (Nat.le_of_ble_eq_true rfl)) _) _) _) _).trans rfl)
theorem e253_1877 {x : Option eb_A} : eb_E L d 253 1877 [some (Sum.inr x), v1, v2, v3] (st) M = eb_E L d 253 1878 [some (Sum.inr x), v1, v2, v3] (Sum.inr x :: st) M := eb_E_s hk253 ((congrFun (congrFun (congrFun (congrFun (lk253_32 1877 (Nat.le_of_ble_eq_true rfl)) _) _) _) _).trans rfl)
theorem e253_1878 {x : Int32} : eb_E L d 253 1878 [v0, v1, v2, some (zi x)] (st) M = eb_E L d 253 1879 [v0, v1, v2, some (zi x)] (zi x :: st) M := eb_E_s hk253 ((congrFun (congrFun (congrFun (congrFun (lk253_32 1878 (Nat.le_of_ble_eq_true rfl)) _) _) _) _).trans rfl)
theorem e253_1879  : eb_E L d 253 1879 ls (st) M = eb_E L d 253 1880 ls (zi 1 :: st) M := eb_E_s hk253 ((congrFun (congrFun (congrFun (congrFun (lk253_32 1879 (Nat.le_of_ble_eq_true rfl)) _) _) _) _).trans rfl)
theorem e253_1880 {x : Int32} {y : Int32} : eb_E L d 253 1880 ls (zi y :: zi x :: st) M = eb_E L d 253 1881 ls (zi (x + y) :: st) M := eb_E_s hk253 ((congrFun (congrFun (congrFun (congrFun (lk253_32 1880 (Nat.le_of_ble_eq_true rfl)) _) _) _) _).trans rfl)
theorem e253_1881 {x : Int32} : eb_E L d 253 1881 ls (zi x :: Sum.inr (some a) :: st) (nc, ns, I, J, R) = if (eb_ty L a.1).1 = 17 ∧ eb_in x (eb_ty L a.1).2 = true then eb_E L d 253 1882 ls (zi (I a x.toNatClampNeg) :: st) (nc, ns, I, J, R) else none := eb_E_iy hk253 ((congrFun (congrFun (congrFun (congrFun (lk253_32 1881 (Nat.le_of_ble_eq_true rfl)) _) _) _) _).trans rfl)
theorem e253_1882  : eb_E L d 253 1882 ls ([a1, a0]) M = (eb_ev L d 121 [a0, a1] M).bind (fun q => eb_E L d 253 1885 ls [q.1] q.2) := eb_E_c hk253 ((congrFun (congrFun (congrFun (congrFun (lk253_32 1882 (Nat.le_of_ble_eq_true rfl)) _) _) _) _).trans rfl)
theorem e253_1885 {x : Option eb_A} : eb_E L d 253 1885 [v0, v1, some (Sum.inr x), v3] (st) M = eb_E L d 253 1886 [v0, v1, some (Sum.inr x), v3] (Sum.inr x :: st) M := eb_E_s hk253 ((congrFun (congrFun (congrFun (congrFun (lk253_32 1885 (Nat.le_of_ble_eq_true rfl)) _) _) _) _).trans rfl)
theorem e253_1886 {x : Option eb_A} : eb_E L d 253 1886 [some (Sum.inr x), v1, v2, v3] (st) M = eb_E L d 253 1887 [some (Sum.inr x), v1, v2, v3] (Sum.inr x :: st) M := eb_E_s hk253 ((congrFun (congrFun (congrFun (congrFun (lk253_32 1886 (Nat.le_of_ble_eq_true rfl)) _) _) _) _).trans rfl)
theorem e253_1887 {x : Int32} : eb_E L d 253 1887 [v0, v1, v2, some (zi x)] (st) M = eb_E L d 253 1888 [v0, v1, v2, some (zi x)] (zi x :: st) M := eb_E_s hk253 ((congrFun (congrFun (congrFun (congrFun (lk253_32 1887 (Nat.le_of_ble_eq_true rfl)) _) _) _) _).trans rfl)
theorem e253_1888  : eb_E L d 253 1888 ls (st) M = eb_E L d 253 1889 ls (zi 1 :: st) M := eb_E_s hk253 ((congrFun (congrFun (congrFun (congrFun (lk253_32 1888 (Nat.le_of_ble_eq_true rfl)) _) _) _) _).trans rfl)
theorem e253_1889 {x : Int32} {y : Int32} : eb_E L d 253 1889 ls (zi y :: zi x :: st) M = eb_E L d 253 1890 ls (zi (x + y) :: st) M := eb_E_s hk253 ((congrFun (congrFun (congrFun (congrFun (lk253_32 1889 (Nat.le_of_ble_eq_true rfl)) _) _) _) _).trans rfl)
theorem e253_1890 {x : Int32} : eb_E L d 253 1890 ls (zi x :: Sum.inr (some a) :: st) (nc, ns, I, J, R) = if (eb_ty L a.1).1 = 17 ∧ eb_in x (eb_ty L a.1).2 = true then eb_E L d 253 1891 ls (zi (I a x.toNatClampNeg) :: st) (nc, ns, I, J, R) else none := eb_E_iy hk253 ((congrFun (congrFun (congrFun (congrFun (lk253_32 1890 (Nat.le_of_ble_eq_true rfl)) _) _) _) _).trans rfl)
theorem e253_1891 {s0 : Int32} : eb_E L d 253 1891 ls ([a1, a0, zi s0]) M = (eb_ev L d 245 [a0, a1] M).bind (fun q => eb_E L d 253 1894 ls [q.1, zi s0] q.2) := eb_E_c hk253 ((congrFun (congrFun (congrFun (congrFun (lk253_32 1891 (Nat.le_of_ble_eq_true rfl)) _) _) _) _).trans rfl)
theorem e253_1894 {x : Int32} {y : Int32} : eb_E L d 253 1894 ls (zi y :: zi x :: st) M = if x = y then eb_E L d 253 1948 ls st M else eb_E L d 253 1897 ls st M := eb_E_b hk253 ((congrFun (congrFun (congrFun (congrFun (lk253_32 1894 (Nat.le_of_ble_eq_true rfl)) _) _) _) _).trans rfl)
theorem e253_1897  : eb_E L d 253 1897 ls (st) M = eb_E L d 253 1898 ls (zi 0 :: st) M := eb_E_s hk253 ((congrFun (congrFun (congrFun (congrFun (lk253_32 1897 (Nat.le_of_ble_eq_true rfl)) _) _) _) _).trans rfl)
theorem e253_1898 {x : Int32} : eb_E L d 253 1898 ls ([zi x]) M = if x = 0 ∨ x = 1 then some (zi x, M) else none := eb_E_ri hk253 ((congrFun (congrFun (congrFun (congrFun (lk253_32 1898 (Nat.le_of_ble_eq_true rfl)) _) _) _) _).trans rfl)
theorem e253_1899 {x : Option eb_A} : eb_E L d 253 1899 [v0, some (Sum.inr x), v2, v3] (st) M = eb_E L d 253 1900 [v0, some (Sum.inr x), v2, v3] (Sum.inr x :: st) M := eb_E_s hk253 ((congrFun (congrFun (congrFun (congrFun (lk253_32 1899 (Nat.le_of_ble_eq_true rfl)) _) _) _) _).trans rfl)
theorem e253_1900  : eb_E L d 253 1900 ls ([a0]) M = (eb_ev L d 122 [a0] M).bind (fun q => eb_E L d 253 1903 ls [q.1] q.2) := eb_E_c hk253 ((congrFun (congrFun (congrFun (congrFun (lk253_32 1900 (Nat.le_of_ble_eq_true rfl)) _) _) _) _).trans rfl)
theorem e253_1903 {x : Option eb_A} : eb_E L d 253 1903 [v0, v1, some (Sum.inr x), v3] (st) M = eb_E L d 253 1904 [v0, v1, some (Sum.inr x), v3] (Sum.inr x :: st) M := eb_E_s hk253 ((congrFun (congrFun (congrFun (congrFun (lk253_32 1903 (Nat.le_of_ble_eq_true rfl)) _) _) _) _).trans rfl)
theorem e253_1904 {s0 : Int32} : eb_E L d 253 1904 ls ([a0, zi s0]) M = (eb_ev L d 249 [a0] M).bind (fun q => eb_E L d 253 1907 ls [q.1, zi s0] q.2) := eb_E_c hk253 ((congrFun (congrFun (congrFun (congrFun (lk253_32 1904 (Nat.le_of_ble_eq_true rfl)) _) _) _) _).trans rfl)
theorem e253_1907 {x : Int32} {y : Int32} : eb_E L d 253 1907 ls (zi y :: zi x :: st) M = if x = y then eb_E L d 253 1948 ls st M else eb_E L d 253 1910 ls st M := eb_E_b hk253 ((congrFun (congrFun (congrFun (congrFun (lk253_32 1907 (Nat.le_of_ble_eq_true rfl)) _) _) _) _).trans rfl)
theorem e253_1910  : eb_E L d 253 1910 ls (st) M = eb_E L d 253 1911 ls (zi 0 :: st) M := eb_E_s hk253 ((congrFun (congrFun (congrFun (congrFun (lk253_33 1910 (Nat.le_of_ble_eq_true rfl)) _) _) _) _).trans rfl)
theorem e253_1911 {x : Int32} : eb_E L d 253 1911 ls ([zi x]) M = if x = 0 ∨ x = 1 then some (zi x, M) else none := eb_E_ri hk253 ((congrFun (congrFun (congrFun (congrFun (lk253_33 1911 (Nat.le_of_ble_eq_true rfl)) _) _) _) _).trans rfl)
theorem e253_1912 {x : Option eb_A} : eb_E L d 253 1912 [v0, some (Sum.inr x), v2, v3] (st) M = eb_E L d 253 1913 [v0, some (Sum.inr x), v2, v3] (Sum.inr x :: st) M := eb_E_s hk253 ((congrFun (congrFun (congrFun (congrFun (lk253_33 1912 (Nat.le_of_ble_eq_true rfl)) _) _) _) _).trans rfl)
theorem e253_1913  : eb_E L d 253 1913 ls ([a0]) M = (eb_ev L d 123 [a0] M).bind (fun q => eb_E L d 253 1916 ls [q.1] q.2) := eb_E_c hk253 ((congrFun (congrFun (congrFun (congrFun (lk253_33 1913 (Nat.le_of_ble_eq_true rfl)) _) _) _) _).trans rfl)
theorem e253_1916 {x : Option eb_A} : eb_E L d 253 1916 [v0, v1, some (Sum.inr x), v3] (st) M = eb_E L d 253 1917 [v0, v1, some (Sum.inr x), v3] (Sum.inr x :: st) M := eb_E_s hk253 ((congrFun (congrFun (congrFun (congrFun (lk253_33 1916 (Nat.le_of_ble_eq_true rfl)) _) _) _) _).trans rfl)
theorem e253_1917 {s0 : Int32} : eb_E L d 253 1917 ls ([a0, zi s0]) M = (eb_ev L d 250 [a0] M).bind (fun q => eb_E L d 253 1920 ls [q.1, zi s0] q.2) := eb_E_c hk253 ((congrFun (congrFun (congrFun (congrFun (lk253_33 1917 (Nat.le_of_ble_eq_true rfl)) _) _) _) _).trans rfl)
theorem e253_1920 {x : Int32} {y : Int32} : eb_E L d 253 1920 ls (zi y :: zi x :: st) M = if x = y then eb_E L d 253 1948 ls st M else eb_E L d 253 1923 ls st M := eb_E_b hk253 ((congrFun (congrFun (congrFun (congrFun (lk253_33 1920 (Nat.le_of_ble_eq_true rfl)) _) _) _) _).trans rfl)
theorem e253_1923  : eb_E L d 253 1923 ls (st) M = eb_E L d 253 1924 ls (zi 0 :: st) M := eb_E_s hk253 ((congrFun (congrFun (congrFun (congrFun (lk253_33 1923 (Nat.le_of_ble_eq_true rfl)) _) _) _) _).trans rfl)
theorem e253_1924 {x : Int32} : eb_E L d 253 1924 ls ([zi x]) M = if x = 0 ∨ x = 1 then some (zi x, M) else none := eb_E_ri hk253 ((congrFun (congrFun (congrFun (congrFun (lk253_33 1924 (Nat.le_of_ble_eq_true rfl)) _) _) _) _).trans rfl)
theorem e253_1925 {x : Option eb_A} : eb_E L d 253 1925 [v0, some (Sum.inr x), v2, v3] (st) M = eb_E L d 253 1926 [v0, some (Sum.inr x), v2, v3] (Sum.inr x :: st) M := eb_E_s hk253 ((congrFun (congrFun (congrFun (congrFun (lk253_33 1925 (Nat.le_of_ble_eq_true rfl)) _) _) _) _).trans rfl)
theorem e253_1926 {x : Option eb_A} : eb_E L d 253 1926 [some (Sum.inr x), v1, v2, v3] (st) M = eb_E L d 253 1927 [some (Sum.inr x), v1, v2, v3] (Sum.inr x :: st) M := eb_E_s hk253 ((congrFun (congrFun (congrFun (congrFun (lk253_33 1926 (Nat.le_of_ble_eq_true rfl)) _) _) _) _).trans rfl)
theorem e253_1927 {x : Int32} : eb_E L d 253 1927 [v0, v1, v2, some (zi x)] (st) M = eb_E L d 253 1928 [v0, v1, v2, some (zi x)] (zi x :: st) M := eb_E_s hk253 ((congrFun (congrFun (congrFun (congrFun (lk253_33 1927 (Nat.le_of_ble_eq_true rfl)) _) _) _) _).trans rfl)
theorem e253_1928  : eb_E L d 253 1928 ls (st) M = eb_E L d 253 1929 ls (zi 1 :: st) M := eb_E_s hk253 ((congrFun (congrFun (congrFun (congrFun (lk253_33 1928 (Nat.le_of_ble_eq_true rfl)) _) _) _) _).trans rfl)
theorem e253_1929 {x : Int32} {y : Int32} : eb_E L d 253 1929 ls (zi y :: zi x :: st) M = eb_E L d 253 1930 ls (zi (x + y) :: st) M := eb_E_s hk253 ((congrFun (congrFun (congrFun (congrFun (lk253_33 1929 (Nat.le_of_ble_eq_true rfl)) _) _) _) _).trans rfl)
theorem e253_1930 {x : Int32} : eb_E L d 253 1930 ls (zi x :: Sum.inr (some a) :: st) (nc, ns, I, J, R) = if (eb_ty L a.1).1 = 17 ∧ eb_in x (eb_ty L a.1).2 = true then eb_E L d 253 1931 ls (zi (I a x.toNatClampNeg) :: st) (nc, ns, I, J, R) else none := eb_E_iy hk253 ((congrFun (congrFun (congrFun (congrFun (lk253_33 1930 (Nat.le_of_ble_eq_true rfl)) _) _) _) _).trans rfl)
theorem e253_1931  : eb_E L d 253 1931 ls ([a1, a0]) M = (eb_ev L d 124 [a0, a1] M).bind (fun q => eb_E L d 253 1934 ls [q.1] q.2) := eb_E_c hk253 ((congrFun (congrFun (congrFun (congrFun (lk253_33 1931 (Nat.le_of_ble_eq_true rfl)) _) _) _) _).trans rfl)
theorem e253_1934 {x : Option eb_A} : eb_E L d 253 1934 [v0, v1, some (Sum.inr x), v3] (st) M = eb_E L d 253 1935 [v0, v1, some (Sum.inr x), v3] (Sum.inr x :: st) M := eb_E_s hk253 ((congrFun (congrFun (congrFun (congrFun (lk253_33 1934 (Nat.le_of_ble_eq_true rfl)) _) _) _) _).trans rfl)
theorem e253_1935 {x : Option eb_A} : eb_E L d 253 1935 [some (Sum.inr x), v1, v2, v3] (st) M = eb_E L d 253 1936 [some (Sum.inr x), v1, v2, v3] (Sum.inr x :: st) M := eb_E_s hk253 ((congrFun (congrFun (congrFun (congrFun (lk253_33 1935 (Nat.le_of_ble_eq_true rfl)) _) _) _) _).trans rfl)
theorem e253_1936 {x : Int32} : eb_E L d 253 1936 [v0, v1, v2, some (zi x)] (st) M = eb_E L d 253 1937 [v0, v1, v2, some (zi x)] (zi x :: st) M := eb_E_s hk253 ((congrFun (congrFun (congrFun (congrFun (lk253_33 1936 (Nat.le_of_ble_eq_true rfl)) _) _) _) _).trans rfl)
theorem e253_1937  : eb_E L d 253 1937 ls (st) M = eb_E L d 253 1938 ls (zi 1 :: st) M := eb_E_s hk253 ((congrFun (congrFun (congrFun (congrFun (lk253_33 1937 (Nat.le_of_ble_eq_true rfl)) _) _) _) _).trans rfl)
theorem e253_1938 {x : Int32} {y : Int32} : eb_E L d 253 1938 ls (zi y :: zi x :: st) M = eb_E L d 253 1939 ls (zi (x + y) :: st) M := eb_E_s hk253 ((congrFun (congrFun (congrFun (congrFun (lk253_33 1938 (Nat.le_of_ble_eq_true rfl)) _) _) _) _).trans rfl)
theorem e253_1939 {x : Int32} : eb_E L d 253 1939 ls (zi x :: Sum.inr (some a) :: st) (nc, ns, I, J, R) = if (eb_ty L a.1).1 = 17 ∧ eb_in x (eb_ty L a.1).2 = true then eb_E L d 253 1940 ls (zi (I a x.toNatClampNeg) :: st) (nc, ns, I, J, R) else none := eb_E_iy hk253 ((congrFun (congrFun (congrFun (congrFun (lk253_33 1939 (Nat.le_of_ble_eq_true rfl)) _) _) _) _).trans rfl)
theorem e253_1940 {s0 : Int32} : eb_E L d 253 1940 ls ([a1, a0, zi s0]) M = (eb_ev L d 251 [a0, a1] M).bind (fun q => eb_E L d 253 1943 ls [q.1, zi s0] q.2) := eb_E_c hk253 ((congrFun (congrFun (congrFun (congrFun (lk253_33 1940 (Nat.le_of_ble_eq_true rfl)) _) _) _) _).trans rfl)
theorem e253_1943 {x : Int32} {y : Int32} : eb_E L d 253 1943 ls (zi y :: zi x :: st) M = if x = y then eb_E L d 253 1948 ls st M else eb_E L d 253 1946 ls st M := eb_E_b hk253 ((congrFun (congrFun (congrFun (congrFun (lk253_33 1943 (Nat.le_of_ble_eq_true rfl)) _) _) _) _).trans rfl)
theorem e253_1946  : eb_E L d 253 1946 ls (st) M = eb_E L d 253 1947 ls (zi 0 :: st) M := eb_E_s hk253 ((congrFun (congrFun (congrFun (congrFun (lk253_33 1946 (Nat.le_of_ble_eq_true rfl)) _) _) _) _).trans rfl)
theorem e253_1947 {x : Int32} : eb_E L d 253 1947 ls ([zi x]) M = if x = 0 ∨ x = 1 then some (zi x, M) else none := eb_E_ri hk253 ((congrFun (congrFun (congrFun (congrFun (lk253_33 1947 (Nat.le_of_ble_eq_true rfl)) _) _) _) _).trans rfl)
theorem e253_1948 {x : Int32} : eb_E L d 253 1948 [v0, v1, v2, some (zi x)] (st) M = eb_E L d 253 1951 [v0, v1, v2, some (zi (x + 6))] (st) M := eb_E_s hk253 ((congrFun (congrFun (congrFun (congrFun (lk253_33 1948 (Nat.le_of_ble_eq_true rfl)) _) _) _) _).trans rfl)
theorem e253_1951  : eb_E L d 253 1951 ls (st) M = eb_E L d 253 18 ls (st) M := eb_E_s hk253 ((congrFun (congrFun (congrFun (congrFun (lk253_33 1951 (Nat.le_of_ble_eq_true rfl)) _) _) _) _).trans rfl)
theorem e253_1954  : eb_E L d 253 1954 ls (st) M = eb_E L d 253 1955 ls (zi 1 :: st) M := eb_E_s hk253 ((congrFun (congrFun (congrFun (congrFun (lk253_33 1954 (Nat.le_of_ble_eq_true rfl)) _) _) _) _).trans rfl)
theorem e253_1955 {x : Int32} : eb_E L d 253 1955 ls ([zi x]) M = if x = 0 ∨ x = 1 then some (zi x, M) else none := eb_E_ri hk253 ((congrFun (congrFun (congrFun (congrFun (lk253_33 1955 (Nat.le_of_ble_eq_true rfl)) _) _) _) _).trans rfl)
end


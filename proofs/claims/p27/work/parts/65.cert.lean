section AT1
/-! PackWeeks.overOf(I)I -/
noncomputable def tt_16_0 : ai_C := (16, [.inl (2147483648, 2147483711, none)], [], [], [(some (.inl (2147483648, 2147483655, none)), [])])
noncomputable def te_16_0 : ai_cert := (0, tt_16_0, [], [], [])
noncomputable def tm_16 : List ai_cert := [te_16_0]
/-! PackWeeks.downOf(I)I -/
noncomputable def tt_17_0 : ai_C := (17, [.inl (2147483648, 2147483711, none)], [], [], [(some (.inl (2147483648, 2147483655, none)), [])])
noncomputable def te_17_0 : ai_cert := (0, tt_17_0, [], [], [])
noncomputable def tm_17 : List ai_cert := [te_17_0]
/-! PackWeeks$Rows.holds(I)Z -/
noncomputable def tt_23_0 : ai_C := (23, [.inr (.inr 306), .inl (2147483648, 2147483648, none)], [], [], [(some (.inl (2147483649, 2147483649, none)), [(206, 5, .inl (2147483649, 2147483650))]), (some (.inl (2147483648, 2147483648, none)), [(206, 5, .inl (2147483648, 2147483648))])])
noncomputable def tt_23_1 : ai_C := (23, [.inr (.inr 306), .inl (2147483649, 2147483649, none)], [], [], [(some (.inl (2147483649, 2147483649, none)), [(206, 5, .inl (2147483650, 2147483650))]), (some (.inl (2147483648, 2147483648, none)), [(206, 5, .inl (2147483648, 2147483649))])])
noncomputable def tt_23_2 : ai_C := (23, [.inr (.inr 372), .inl (2147483649, 2147483649, none)], [], [], [(some (.inl (2147483649, 2147483649, none)), [(272, 5, .inl (2147483650, 2147483650))]), (some (.inl (2147483648, 2147483648, none)), [(272, 5, .inl (2147483648, 2147483649))])])
noncomputable def tt_23_3 : ai_C := (23, [.inr (.inr 372), .inl (2147483648, 2147483648, none)], [], [], [(some (.inl (2147483649, 2147483649, none)), [(272, 5, .inl (2147483649, 2147483650))]), (some (.inl (2147483648, 2147483648, none)), [(272, 5, .inl (2147483648, 2147483648))])])
noncomputable def tt_23_4 : ai_C := (23, [.inr (.inr 294), .inl (2147483648, 2147483653, none)], [], [], [(some (.inl (2147483649, 2147483649, none)), []), (some (.inl (2147483648, 2147483648, none)), [])])
noncomputable def tt_23_5 : ai_C := (23, [.inr (.inr 360), .inl (2147483648, 2147483653, none)], [], [], [(some (.inl (2147483649, 2147483649, none)), []), (some (.inl (2147483648, 2147483648, none)), [])])
noncomputable def tt_23_6 : ai_C := (23, [.inr (.inr 294), .inl (2147483654, 4294967295, none)], [], [], [(some (.inl (2147483648, 2147483648, none)), [])])
noncomputable def tt_23_7 : ai_C := (23, [.inr (.inr 360), .inl (2147483654, 4294967295, none)], [], [], [(some (.inl (2147483648, 2147483648, none)), [])])
noncomputable def tt_23_8 : ai_C := (23, [.inr (.inr 306), .inl (2147483650, 4294967295, none)], [], [], [(some (.inl (2147483648, 2147483648, none)), [])])
noncomputable def tt_23_9 : ai_C := (23, [.inr (.inr 372), .inl (2147483650, 4294967295, none)], [], [], [(some (.inl (2147483648, 2147483648, none)), [])])
noncomputable def tt_23_10 : ai_C := (23, [.inr (.inr 294), .inl (0, 2147483647, none)], [], [], [(some (.inl (2147483648, 2147483648, none)), [])])
noncomputable def tt_23_11 : ai_C := (23, [.inr (.inr 360), .inl (0, 2147483647, none)], [], [], [(some (.inl (2147483648, 2147483648, none)), [])])
noncomputable def tt_23_12 : ai_C := (23, [.inr (.inr 306), .inl (0, 2147483647, none)], [], [], [(some (.inl (2147483648, 2147483648, none)), [])])
noncomputable def tt_23_13 : ai_C := (23, [.inr (.inr 372), .inl (0, 2147483647, none)], [], [], [(some (.inl (2147483648, 2147483648, none)), [])])
noncomputable def te_23_0 : ai_cert := (0, tt_23_0, [(6, [(1, 206, 5, 2147483649)])], [], [])
noncomputable def te_23_1 : ai_cert := (0, tt_23_1, [(6, [(1, 206, 5, 2147483650)])], [], [])
noncomputable def te_23_2 : ai_cert := (0, tt_23_2, [(6, [(1, 272, 5, 2147483650)])], [], [])
noncomputable def te_23_3 : ai_cert := (0, tt_23_3, [(6, [(1, 272, 5, 2147483649)])], [], [])
noncomputable def te_23_4 : ai_cert := (0, tt_23_4, [], [], [])
noncomputable def te_23_5 : ai_cert := (0, tt_23_5, [], [], [])
noncomputable def te_23_6 : ai_cert := (0, tt_23_6, [], [], [])
noncomputable def te_23_7 : ai_cert := (0, tt_23_7, [], [], [])
noncomputable def te_23_8 : ai_cert := (0, tt_23_8, [], [], [])
noncomputable def te_23_9 : ai_cert := (0, tt_23_9, [], [], [])
noncomputable def te_23_10 : ai_cert := (0, tt_23_10, [], [], [])
noncomputable def te_23_11 : ai_cert := (0, tt_23_11, [], [], [])
noncomputable def te_23_12 : ai_cert := (0, tt_23_12, [], [], [])
noncomputable def te_23_13 : ai_cert := (0, tt_23_13, [], [], [])
noncomputable def tm_23 : List ai_cert := [te_23_0, te_23_1, te_23_2, te_23_3, te_23_4, te_23_5, te_23_6, te_23_7, te_23_8, te_23_9, te_23_10, te_23_11, te_23_12, te_23_13]
/-! PackWeeks.isWithin(III)Z -/
noncomputable def tt_104_0 : ai_C := (104, [.inl (2147483648, 2147483651, none), .inl (2147483648, 2147483648, none), .inl (2147483651, 2147483651, none)], [], [], [(some (.inl (2147483649, 2147483649, none)), [])])
noncomputable def tt_104_1 : ai_C := (104, [.inl (2147483648, 2147483655, none), .inl (2147483648, 2147483648, none), .inl (2147483655, 2147483655, none)], [], [], [(some (.inl (2147483649, 2147483649, none)), [])])
noncomputable def tt_104_2 : ai_C := (104, [.inl (2147483656, 4294967295, none), .inl (2147483648, 2147483648, none), .inl (2147483655, 2147483655, none)], [], [], [(some (.inl (2147483648, 2147483648, none)), [])])
noncomputable def tt_104_3 : ai_C := (104, [.inl (2147483652, 4294967295, none), .inl (2147483648, 2147483648, none), .inl (2147483651, 2147483651, none)], [], [], [(some (.inl (2147483648, 2147483648, none)), [])])
noncomputable def tt_104_4 : ai_C := (104, [.inl (0, 2147483647, none), .inl (2147483648, 2147483648, none), .inl (2147483651, 2147483651, none)], [], [], [(some (.inl (2147483648, 2147483648, none)), [])])
noncomputable def tt_104_5 : ai_C := (104, [.inl (0, 2147483647, none), .inl (2147483648, 2147483648, none), .inl (2147483655, 2147483655, none)], [], [], [(some (.inl (2147483648, 2147483648, none)), [])])
noncomputable def te_104_0 : ai_cert := (0, tt_104_0, [], [], [])
noncomputable def te_104_1 : ai_cert := (0, tt_104_1, [], [], [])
noncomputable def te_104_2 : ai_cert := (0, tt_104_2, [], [], [])
noncomputable def te_104_3 : ai_cert := (0, tt_104_3, [], [], [])
noncomputable def te_104_4 : ai_cert := (0, tt_104_4, [], [], [])
noncomputable def te_104_5 : ai_cert := (0, tt_104_5, [], [], [])
noncomputable def tm_104 : List ai_cert := [te_104_0, te_104_1, te_104_2, te_104_3, te_104_4, te_104_5]
/-! PackWeeks$Stand.biscuitOfAll(LPackWeeks$Pack;)I -/
noncomputable def tt_125_0 : ai_C := (125, [.inr (.inr 108), .inr (.inr 291)], [(206, 5, .inl (2147483650, 2147483650))], [], [(some (.inl (0, 4294967295, none)), [])])
noncomputable def tt_125_1 : ai_C := (125, [.inr (.inr 108), .inr (.inr 357)], [(272, 5, .inl (2147483650, 2147483650))], [], [(some (.inl (0, 4294967295, none)), [])])
noncomputable def te_125_0 : ai_cert := (0, tt_125_0, [(4, [(0, 3, 0, 2147483650)]), (9, [(1, 206, 5, 2147483649)])], [(4, [(0, .inr (.inr 108)), (1, .inr (.inr 291)), (2, .inl (0, 4294967295, none)), (3, .inl (2147483648, 2147483650, none))], [], [], [(0, 999996), (1, 3)])], [(0, 1000001), (0, 0)])
noncomputable def te_125_1 : ai_cert := (0, tt_125_1, [(4, [(0, 3, 0, 2147483650)]), (9, [(1, 272, 5, 2147483649)])], [(4, [(0, .inr (.inr 108)), (1, .inr (.inr 357)), (2, .inl (0, 4294967295, none)), (3, .inl (2147483648, 2147483650, none))], [], [], [(0, 999996), (1, 3)])], [(0, 1000001), (0, 0)])
noncomputable def tm_125 : List ai_cert := [te_125_0, te_125_1]
/-! PackWeeks$Stand.appetite(LPackWeeks$Pack;II)I -/
noncomputable def tt_140_0 : ai_C := (140, [.inr (.inr 108), .inr (.inr 291), .inl (2147483648, 2147483648, none), .inl (0, 4294967295, none)], [], [(231, 0, 24)], [(some (.inl (2147483648, 2147483648, none)), []), (some (.inl (2147483648, 2147483747, none)), [])])
noncomputable def tt_140_1 : ai_C := (140, [.inr (.inr 108), .inr (.inr 291), .inl (2147483649, 2147483649, none), .inl (0, 4294967295, none)], [], [(231, 0, 24)], [(some (.inl (2147483648, 2147483648, none)), []), (some (.inl (2147483648, 2147483747, none)), [])])
noncomputable def tt_140_2 : ai_C := (140, [.inr (.inr 108), .inr (.inr 357), .inl (2147483648, 2147483648, none), .inl (0, 4294967295, none)], [], [(297, 0, 24)], [(some (.inl (2147483648, 2147483648, none)), []), (some (.inl (2147483648, 2147483747, none)), [])])
noncomputable def tt_140_3 : ai_C := (140, [.inr (.inr 108), .inr (.inr 357), .inl (2147483649, 2147483649, none), .inl (0, 4294967295, none)], [], [(297, 0, 24)], [(some (.inl (2147483648, 2147483648, none)), []), (some (.inl (2147483648, 2147483747, none)), [])])
noncomputable def te_140_0 : ai_cert := (2, tt_140_0, [], [], [])
noncomputable def te_140_1 : ai_cert := (2, tt_140_1, [], [], [])
noncomputable def te_140_2 : ai_cert := (2, tt_140_2, [], [], [])
noncomputable def te_140_3 : ai_cert := (2, tt_140_3, [], [], [])
noncomputable def tm_140 : List ai_cert := [te_140_0, te_140_1, te_140_2, te_140_3]
/-! PackWeeks$Pack.crewOf(I)I -/
noncomputable def tt_171_0 : ai_C := (171, [.inr (.inr 291), .inl (2147483648, 2147483653, none)], [], [], [(some (.inl (2147483647, 2147483647, none)), []), (some (.inl (2147483648, 2147483649, none)), [(206, 5, .inl (2147483649, 2147483650))])])
noncomputable def tt_171_1 : ai_C := (171, [.inr (.inr 357), .inl (2147483648, 2147483653, none)], [], [], [(some (.inl (2147483647, 2147483647, none)), []), (some (.inl (2147483648, 2147483649, none)), [(272, 5, .inl (2147483649, 2147483650))])])
noncomputable def te_171_0 : ai_cert := (0, tt_171_0, [(2, [(0, 2, 0, 2147483650)]), (7, [(1, 206, 5, 2147483649)])], [(2, [(0, .inr (.inr 291)), (1, .inl (2147483648, 2147483653, none)), (2, .inl (2147483648, 2147483650, none))], [], [], [(0, 999998), (1, 2)])], [(0, 1000001), (0, 0)])
noncomputable def te_171_1 : ai_cert := (0, tt_171_1, [(2, [(0, 2, 0, 2147483650)]), (7, [(1, 272, 5, 2147483649)])], [(2, [(0, .inr (.inr 357)), (1, .inl (2147483648, 2147483653, none)), (2, .inl (2147483648, 2147483650, none))], [], [], [(0, 999998), (1, 2)])], [(0, 1000001), (0, 0)])
noncomputable def tm_171 : List ai_cert := [te_171_0, te_171_1]
/-! PackWeeks$Stand.sledgePlace(LPackWeeks$Pack;I)I -/
noncomputable def tt_172_0 : ai_C := (172, [.inr (.inr 108), .inr (.inr 291), .inl (2147483649, 2147483649, none)], [], [], [(some (.inl (2147483648, 2147483711, none)), [])])
noncomputable def tt_172_1 : ai_C := (172, [.inr (.inr 108), .inr (.inr 291), .inl (2147483648, 2147483648, none)], [], [], [(some (.inl (2147483648, 2147483711, none)), [])])
noncomputable def tt_172_2 : ai_C := (172, [.inr (.inr 108), .inr (.inr 357), .inl (2147483649, 2147483649, none)], [], [], [(some (.inl (2147483648, 2147483711, none)), [])])
noncomputable def tt_172_3 : ai_C := (172, [.inr (.inr 108), .inr (.inr 357), .inl (2147483648, 2147483648, none)], [], [], [(some (.inl (2147483648, 2147483711, none)), [])])
noncomputable def te_172_0 : ai_cert := (0, tt_172_0, [], [], [])
noncomputable def te_172_1 : ai_cert := (0, tt_172_1, [], [], [])
noncomputable def te_172_2 : ai_cert := (0, tt_172_2, [], [], [])
noncomputable def te_172_3 : ai_cert := (0, tt_172_3, [], [], [])
noncomputable def tm_172 : List ai_cert := [te_172_0, te_172_1, te_172_2, te_172_3]
/-! PackWeeks$Law.valueWithin(IIII)I -/
noncomputable def tt_210_0 : ai_C := (210, [.inr (.inr 330), .inl (2147483747, 2147483747, none), .inl (2147483648, 2147483678, none), .inl (0, 4294967295, none), .inl (2147483648, 2147483648, none)], [], [(231, 0, 24)], [(some (.inl (2147483648, 2147483747, none)), []), (some (.inl (2147483648, 2147483648, none)), [])])
noncomputable def tt_210_1 : ai_C := (210, [.inr (.inr 330), .inl (2147483747, 2147483747, none), .inl (2147483648, 2147483678, none), .inl (0, 4294967295, none), .inl (2147483649, 2147483649, none)], [], [(231, 0, 24)], [(some (.inl (2147483648, 2147483747, none)), []), (some (.inl (2147483648, 2147483648, none)), [])])
noncomputable def tt_210_2 : ai_C := (210, [.inr (.inr 396), .inl (2147483747, 2147483747, none), .inl (2147483648, 2147483678, none), .inl (0, 4294967295, none), .inl (2147483648, 2147483648, none)], [], [(297, 0, 24)], [(some (.inl (2147483648, 2147483747, none)), []), (some (.inl (2147483648, 2147483648, none)), [])])
noncomputable def tt_210_3 : ai_C := (210, [.inr (.inr 396), .inl (2147483747, 2147483747, none), .inl (2147483648, 2147483678, none), .inl (0, 4294967295, none), .inl (2147483649, 2147483649, none)], [], [(297, 0, 24)], [(some (.inl (2147483648, 2147483747, none)), []), (some (.inl (2147483648, 2147483648, none)), [])])
noncomputable def te_210_0 : ai_cert := (1, tt_210_0, [(6, [(0, 6, 0, 2147484648)]), (9, [(1, 230, 2, 2147483649)]), (24, [(0, 7, 0, 2147483647), (0, 7, 0, 2147483648)]), (30, [(0, 5, 0, 2147483649)]), (69, [(0, 7, 0, 2147483640)]), (76, [(0, 5, 0, 2147483650)]), (118, [(0, 5, 0, 2147483673)]), (153, [(0, 5, 0, 2147483649)])], [(6, [(0, .inr (.inr 330)), (1, .inl (2147483747, 2147483747, none)), (2, .inl (2147483648, 2147483678, none)), (3, .inl (0, 4294967295, none)), (4, .inl (2147483648, 2147483648, none)), (5, .inl (2147483648, 2147483673, none)), (6, .inl (2147483648, 2147484648, none))], [], [], [(0, 999994), (1, 6)])], [(0, 1000001), (0, 0)])
noncomputable def te_210_1 : ai_cert := (1, tt_210_1, [(6, [(0, 6, 0, 2147484648)]), (9, [(1, 230, 2, 2147483649)]), (24, [(0, 7, 0, 2147483647), (0, 7, 0, 2147483648)]), (30, [(0, 5, 0, 2147483649)]), (69, [(0, 7, 0, 2147483640)]), (76, [(0, 5, 0, 2147483650)]), (118, [(0, 5, 0, 2147483673)]), (153, [(0, 5, 0, 2147483649)])], [(6, [(0, .inr (.inr 330)), (1, .inl (2147483747, 2147483747, none)), (2, .inl (2147483648, 2147483678, none)), (3, .inl (0, 4294967295, none)), (4, .inl (2147483649, 2147483649, none)), (5, .inl (2147483648, 2147483673, none)), (6, .inl (2147483648, 2147484648, none))], [], [], [(0, 999994), (1, 6)])], [(0, 1000001), (0, 0)])
noncomputable def te_210_2 : ai_cert := (1, tt_210_2, [(6, [(0, 6, 0, 2147484648)]), (9, [(1, 296, 2, 2147483649)]), (24, [(0, 7, 0, 2147483647), (0, 7, 0, 2147483648)]), (30, [(0, 5, 0, 2147483649)]), (69, [(0, 7, 0, 2147483640)]), (76, [(0, 5, 0, 2147483650)]), (118, [(0, 5, 0, 2147483673)]), (153, [(0, 5, 0, 2147483649)])], [(6, [(0, .inr (.inr 396)), (1, .inl (2147483747, 2147483747, none)), (2, .inl (2147483648, 2147483678, none)), (3, .inl (0, 4294967295, none)), (4, .inl (2147483648, 2147483648, none)), (5, .inl (2147483648, 2147483673, none)), (6, .inl (2147483648, 2147484648, none))], [], [], [(0, 999994), (1, 6)])], [(0, 1000001), (0, 0)])
noncomputable def te_210_3 : ai_cert := (1, tt_210_3, [(6, [(0, 6, 0, 2147484648)]), (9, [(1, 296, 2, 2147483649)]), (24, [(0, 7, 0, 2147483647), (0, 7, 0, 2147483648)]), (30, [(0, 5, 0, 2147483649)]), (69, [(0, 7, 0, 2147483640)]), (76, [(0, 5, 0, 2147483650)]), (118, [(0, 5, 0, 2147483673)]), (153, [(0, 5, 0, 2147483649)])], [(6, [(0, .inr (.inr 396)), (1, .inl (2147483747, 2147483747, none)), (2, .inl (2147483648, 2147483678, none)), (3, .inl (0, 4294967295, none)), (4, .inl (2147483649, 2147483649, none)), (5, .inl (2147483648, 2147483673, none)), (6, .inl (2147483648, 2147484648, none))], [], [], [(0, 999994), (1, 6)])], [(0, 1000001), (0, 0)])
noncomputable def tm_210 : List ai_cert := [te_210_0, te_210_1, te_210_2, te_210_3]
/-! PackWeeks$Law.joined(III)I -/
noncomputable def tt_253_0 : ai_C := (253, [.inl (2147483640, 2147483646, none), .inl (0, 4294967295, none), .inl (0, 4294967295, none)], [], [], [(some (.inl (2147483649, 2147483649, none)), []), (some (.inl (2147483648, 2147483648, none)), []), (some (.inl (0, 4294967295, none)), [])])
noncomputable def te_253_0 : ai_cert := (0, tt_253_0, [(40, [(0, 1, 0, 2147483648), (0, 1, 0, 2147483649)]), (44, [(0, 2, 0, 2147483648), (0, 2, 0, 2147483649)]), (54, [(0, 1, 0, 2147483648), (0, 1, 0, 2147483649)]), (58, [(0, 2, 0, 2147483648), (0, 2, 0, 2147483649)]), (68, [(0, 1, 0, 4294967295), (0, 1, 0, 4294967294), (0, 1, 0, 4294967293), (0, 1, 0, 4294967292)]), (69, [(0, 2, 0, 4294967295), (0, 2, 0, 4294967294), (0, 2, 0, 4294967293), (0, 2, 0, 4294967292)])], [], [])
noncomputable def tm_253 : List ai_cert := [te_253_0]
/-! PackWeeks$Law.part(IIII)I -/
noncomputable def tt_254_0 : ai_C := (254, [.inl (0, 2147483639, none), .inl (2147483648, 2147483678, none), .inl (0, 4294967295, none), .inl (2147483648, 2147483648, none)], [], [], [(some (.inl (2147483648, 2147483678, none)), []), (some (.inl (0, 4294967295, none)), []), (some (.inl (2147483648, 2147483648, none)), []), (some (.inl (0, 2147483639, none)), [])])
noncomputable def tt_254_1 : ai_C := (254, [.inl (0, 2147483639, none), .inl (2147483648, 2147483678, none), .inl (0, 4294967295, none), .inl (2147483649, 2147483649, none)], [], [], [(some (.inl (2147483648, 2147483678, none)), []), (some (.inl (0, 4294967295, none)), []), (some (.inl (2147483649, 2147483649, none)), []), (some (.inl (0, 2147483639, none)), [])])
noncomputable def tt_254_2 : ai_C := (254, [.inl (2147483648, 4294967295, none), .inl (2147483648, 2147483678, none), .inl (0, 4294967295, none), .inl (2147483648, 2147483648, none)], [], [], [(some (.inl (2147483648, 4294967295, none)), [])])
noncomputable def tt_254_3 : ai_C := (254, [.inl (2147483648, 4294967295, none), .inl (2147483648, 2147483678, none), .inl (0, 4294967295, none), .inl (2147483649, 2147483649, none)], [], [], [(some (.inl (2147483648, 4294967295, none)), [])])
noncomputable def te_254_0 : ai_cert := (0, tt_254_0, [], [], [])
noncomputable def te_254_1 : ai_cert := (0, tt_254_1, [], [], [])
noncomputable def te_254_2 : ai_cert := (0, tt_254_2, [], [], [])
noncomputable def te_254_3 : ai_cert := (0, tt_254_3, [], [], [])
noncomputable def tm_254 : List ai_cert := [te_254_0, te_254_1, te_254_2, te_254_3]
noncomputable def at_tab : Nat → List ai_cert := fun mi => (bif Nat.ble mi 125 then (fun mi => (bif Nat.ble mi 17 then (fun mi => (bif Nat.ble mi 16 then (fun mi => bif Nat.beq mi 16 then tm_16 else []) else (fun mi => bif Nat.beq mi 17 then tm_17 else [])) mi) else (fun mi => (bif Nat.ble mi 23 then (fun mi => bif Nat.beq mi 23 then tm_23 else []) else (fun mi => (bif Nat.ble mi 104 then (fun mi => bif Nat.beq mi 104 then tm_104 else []) else (fun mi => bif Nat.beq mi 125 then tm_125 else [])) mi)) mi)) mi) else (fun mi => (bif Nat.ble mi 172 then (fun mi => (bif Nat.ble mi 140 then (fun mi => bif Nat.beq mi 140 then tm_140 else []) else (fun mi => (bif Nat.ble mi 171 then (fun mi => bif Nat.beq mi 171 then tm_171 else []) else (fun mi => bif Nat.beq mi 172 then tm_172 else [])) mi)) mi) else (fun mi => (bif Nat.ble mi 210 then (fun mi => bif Nat.beq mi 210 then tm_210 else []) else (fun mi => (bif Nat.ble mi 253 then (fun mi => bif Nat.beq mi 253 then tm_253 else []) else (fun mi => bif Nat.beq mi 254 then tm_254 else [])) mi)) mi)) mi)) mi
end AT1
